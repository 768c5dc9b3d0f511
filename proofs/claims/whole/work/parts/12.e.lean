-- the judgement over the world, and a row an instruction
abbrev XT : Type := Program × Launch × Env × Room × State × MethodId × Array Value × List Frame × Method × Code × (State → Prop) × Nat
abbrev xp (X : XT) : Program := X.1
abbrev xl (X : XT) : Launch := X.2.1
abbrev xe (X : XT) : Env := X.2.2.1
abbrev xR (X : XT) : Room := X.2.2.2.1
abbrev xs (X : XT) : State := X.2.2.2.2.1
abbrev xm (X : XT) : MethodId := X.2.2.2.2.2.1
abbrev xa (X : XT) : Array Value := X.2.2.2.2.2.2.1
abbrev xb (X : XT) : List Frame := X.2.2.2.2.2.2.2.1
abbrev xme (X : XT) : Method := X.2.2.2.2.2.2.2.2.1
abbrev xc (X : XT) : Code := X.2.2.2.2.2.2.2.2.2.1
abbrev xQ (X : XT) : State → Prop := X.2.2.2.2.2.2.2.2.2.2.1
abbrev xn (X : XT) : Nat := X.2.2.2.2.2.2.2.2.2.2.2
def lvl (G : GT) : Nat → List (Option AV) → List (Nat × Value)
  | _, [] => []
  | i, none :: L => lvl G (i + 1) L
  | i, some a :: L => (i, conc G a) :: lvl G (i + 1) L
def E (X : XT) (G : GT) (cells slots n : Nat) (v : VT) (pc : Nat) (L : List (Option AV)) (S : List AV) : Prop :=
  inv n v → (∀ a, some a ∈ L → okv a) → (∀ a ∈ S, okv a) →
  ∀ (H : Heap) (locs : List Loc) (ls : Array Slot), wld G n v H → va_S (Afr G) (xs X).heap H locs → lv_has ls (xn X) (lvl G 0 L) →
    W (xp X) (xl X) (xe X) (xR X) (xs X) (xm X) (xa X) (xb X) (xme X) (xc X) H locs cells slots (xQ X) (F0 (xm X) pc ls (S.map (conc G)))
def isNest : Cond → Bool
  | .fieldLinkNest .. => true
  | .methodLinkNest .. => true
  | _ => false
def lw_good : List Cond := lw_tbl.filter goodWord
def lw_nest : List Cond := lw_tbl.filter isNest
theorem lw_good_in {w : Cond} (h : w ∈ lw_good) : w ∈ lw_tbl := (List.mem_filter.mp h).1
theorem in_good {w : Cond} (h : w ∈ lw_tbl) (hg : goodWord w = true) : w ∈ lw_good := List.mem_filter.mpr ⟨h, hg⟩
theorem in_nest {w : Cond} (h : w ∈ lw_tbl) (hg : isNest w = true) : w ∈ lw_nest := List.mem_filter.mpr ⟨h, hg⟩
/-- the String constants: entries, texts, lengths, bytes -/
def strI : List Nat := [70, 79, 84, 89, 91, 96, 144, 146, 148, 150, 152]
def strX : List String := ["slack", "child", "coat", "boots", "like", "mark", "plain", "turned", "let", "both", "kept"]
def strL : List Nat := [5, 5, 4, 5, 4, 4, 5, 6, 3, 4, 4]
def strB : List (List Int32) := [[115, 108, 97, 99, 107], [99, 104, 105, 108, 100], [99, 111, 97, 116], [98, 111, 111, 116, 115], [108, 105, 107, 101], [109, 97, 114, 107], [112, 108, 97, 105, 110], [116, 117, 114, 110, 101, 100], [108, 101, 116], [98, 111, 116, 104], [107, 101, 112, 116]]
def adS (G : GT) (i : Nat) : Nat := adr G (-((i : Int) + 1))
def adB (G : GT) (i : Nat) : Nat := adr G (-((i : Int) + 101))
def STK (G : GT) (U : State) : Prop := (∀ i : Nat, i < 11 → vk_R RX3 (strI.getD i 0) (strX.getD i "") (adS G i) U) ∧ vk_S 11 strL strB (adS G) (adB G) (Afr G) U G.2.2.2.2 ∧
  va_Z "java/lang/String" "COMPACT_STRINGS" "Z" (.int 1) (Afr G) U G.2.2.2.2 ∧ va_Zq "jdk/internal/util/Preconditions" "SIOOBE_FORMATTER" "Ljava/util/function/BiFunction;" (Afr G) U G.2.2.2.2
theorem STK.moved {G : GT} {u U : State} (hR : ∀ (own tx : String) (k a : Nat), vk_R own k tx a u → vk_R own k tx a U) (hal : u.vm.Alike U.vm) (h : STK G u) : STK G U :=
  ⟨fun i hi => hR _ _ _ _ (h.1 i hi), h.2.1.moved hal, h.2.2.1.moved hal, h.2.2.2.moved hal⟩
/-- what the tables say beside the good words: links to nest mates, arrays of our classes, String constants -/
def EXT (G : GT) (U : State) : Prop := (∀ w ∈ lw_nest, va_Nw w U) ∧ (va_AO RX0 U ∧ va_AO RX4 U ∧ va_AO RX6 U ∧ va_AO RX7 U ∧ STK G U)
theorem EXT.warm {G : GT} {s U : State} (hW : s.WarmedH U.vm) (h : EXT G s) : EXT G U := by
  refine ⟨fun w hw => ?_, h.2.1.moved hW.alike, h.2.2.1.moved hW.alike, h.2.2.2.1.moved hW.alike, h.2.2.2.2.1.moved hW.alike, h.2.2.2.2.2.moved (fun _ _ _ _ q => q.warm hW) hW.alike⟩
  have h1 := h.1 w hw
  have h2 := (List.mem_filter.mp hw).2
  cases w with
  | fieldLinkNest a b c d e f => exact va_Nw.warmF hW h1
  | methodLinkNest a b c d => exact va_Nw.warmM hW h1
  | _ => cases h2
theorem EXT.same {G : GT} {u U : State} (hv : u.vm = U.vm) (h : EXT G u) : EXT G U := by
  have hal : u.vm.Alike U.vm := by rw [hv]; exact Vm.Alike.refl _
  refine ⟨fun w hw => ?_, h.2.1.moved hal, h.2.2.1.moved hal, h.2.2.2.1.moved hal, h.2.2.2.2.1.moved hal, h.2.2.2.2.2.moved (fun _ _ _ _ q => q.same hv.symm) hal⟩
  have h1 := h.1 w hw
  have h2 := (List.mem_filter.mp hw).2
  refine va_Nw.same ?_ hv h1
  cases w with
  | fieldLinkNest a b c d e f => rfl
  | methodLinkNest a b c d => rfl
  | _ => cases h2
/-- what stays through a method -/
def Cx (X : XT) (G : GT) (own : String) (cc : ByteArray) : Prop :=
  (xp X).tables.exec = Jvm.exec ∧ (xc X).code = cc ∧ (xc X).maxLocals = xn X ∧ (xs X).vm.findClass own = some (xm X).cls ∧ (∀ w ∈ lw_good, w.before (xa X) (xs X) = true) ∧ va_K G.2.2.1 vwCl (tysG G) (xs X) ∧ G.1 < (xs X).heap.size ∧ (xme X).locks = false ∧ EXT G (xs X)
theorem lvl_mem {G : GT} {a : AV} : ∀ {L : List (Option AV)} {i k : Nat}, L[k]? = some (some a) → (i + k, conc G a) ∈ lvl G i L
  | [], _, _, h => by simp at h
  | none :: L, i, 0, h => by simp at h
  | some b :: L, i, 0, h => by
    simp at h
    subst h
    simp [lvl]
  | none :: L, i, k + 1, h => by
    have h2 : L[k]? = some (some a) := by simpa using h
    have := lvl_mem (G := G) (i := i + 1) h2
    rw [show i + (k + 1) = i + 1 + k by omega]
    simpa [lvl] using this
  | some b :: L, i, k + 1, h => by
    have h2 : L[k]? = some (some a) := by simpa using h
    have := lvl_mem (G := G) (i := i + 1) h2
    rw [show i + (k + 1) = i + 1 + k by omega]
    simp only [lvl, List.mem_cons]
    exact Or.inr this
theorem lvl_of {G : GT} {q : Nat × Value} : ∀ {L : List (Option AV)} {i : Nat}, q ∈ lvl G i L → ∃ k a, q = (i + k, conc G a) ∧ L[k]? = some (some a)
  | [], i, h => by simp [lvl] at h
  | none :: L, i, h => by
    simp only [lvl] at h
    obtain ⟨k, a, h1, h2⟩ := lvl_of h
    exact ⟨k + 1, a, by rw [h1]; congr 1; omega, by simpa using h2⟩
  | some b :: L, i, h => by
    simp only [lvl, List.mem_cons] at h
    rcases h with h | h
    · exact ⟨0, b, by rw [h]; rfl, by simp⟩
    · obtain ⟨k, a, h1, h2⟩ := lvl_of h
      exact ⟨k + 1, a, by rw [h1]; congr 1; omega, by simpa using h2⟩
theorem lv_read {G : GT} {ls : Array Slot} {nL i : Nat} {L : List (Option AV)} {a : AV} (h : lv_has ls nL (lvl G 0 L)) (hi : L[i]? = some (some a)) : ls[i]? = some (.val (conc G a)) := by
  have h1 := h.2.2 _ (lvl_mem (G := G) (i := 0) hi)
  simpa using h1
def noLong (L : List (Option AV)) : Nat → Bool
  | 0 => true
  | j + 1 => match L[j]? with
    | some (some (.inr (.inl _))) => false
    | _ => true
theorem conc_cat {G : GT} {a : AV} : (conc G a).category = 2 ↔ ∃ x, a = vl x := by
  rcases a with x | x | x
  · simp [conc, Value.category]
  · simp [conc, Value.category]
  · simp [conc, Value.category]
theorem lvl_store {G : GT} {L : List (Option AV)} {i : Nat} {a : AV} (hn : noLong L i = true) : ∀ q ∈ lvl G 0 (L.set i (some a)), q ∈ (i, conc G a) :: (lvl G 0 L).filter (fun q => !(q.1 == i) && !(q.1 + 1 == i && q.2.category == 2)) := by
  intro q hq
  obtain ⟨k, b, h1, h2⟩ := lvl_of hq
  rw [Nat.zero_add] at h1
  subst h1
  by_cases hk : k = i
  · subst hk
    have hl : k < (L.set k (some a)).length := (List.getElem?_eq_some_iff.mp h2).1
    rw [List.length_set] at hl
    rw [List.getElem?_set_self hl] at h2
    cases h2
    exact List.mem_cons_self
  · rw [List.getElem?_set_ne (Ne.symm hk)] at h2
    refine List.mem_cons_of_mem _ (List.mem_filter.mpr ⟨by simpa using lvl_mem (G := G) (i := 0) h2, ?_⟩)
    simp only [Bool.and_eq_true, Bool.not_eq_true', beq_eq_false_iff_ne, ne_eq, hk, not_false_eq_true, true_and, Bool.and_eq_false_iff]
    by_cases hk1 : k + 1 = i
    · right
      subst hk1
      intro hc
      obtain ⟨x, rfl⟩ := conc_cat.mp hc
      simp only [noLong] at hn
      rw [h2] at hn
      simp at hn
    · exact Or.inl hk1
theorem lvl_storeL {G : GT} {L : List (Option AV)} {i : Nat} {x : Int} (hn : noLong L i = true) : ∀ q ∈ lvl G 0 ((L.set i (some (vl x))).set (i + 1) none), q ∈ (i, conc G (vl x)) :: (lvl G 0 L).filter (fun q => !(q.1 == i) && (!(q.1 == i + 1) && !(q.1 + 1 == i && q.2.category == 2))) := by
  intro q hq
  obtain ⟨k, b, h1, h2⟩ := lvl_of hq
  rw [Nat.zero_add] at h1
  subst h1
  by_cases hk : k = i + 1
  · subst hk
    have hl : i + 1 < ((L.set i (some (vl x))).set (i + 1) none).length := (List.getElem?_eq_some_iff.mp h2).1
    rw [List.length_set] at hl
    rw [List.getElem?_set_self hl] at h2
    cases h2
  · rw [List.getElem?_set_ne (Ne.symm hk)] at h2
    have h3 := lvl_store (G := G) (a := vl x) hn (k, conc G b) (by simpa using lvl_mem (G := G) (i := 0) h2)
    rcases List.mem_cons.mp h3 with h3 | h3
    · rw [h3]; exact List.mem_cons_self
    · obtain ⟨h4, h5⟩ := List.mem_filter.mp h3
      refine List.mem_cons_of_mem _ (List.mem_filter.mpr ⟨h4, ?_⟩)
      simp only [Bool.and_eq_true] at h5 ⊢
      exact ⟨h5.1, by simpa using hk, h5.2⟩
theorem lv_has_sub {ls : Array Slot} {nL : Nat} {l l' : List (Nat × Value)} (h : lv_has ls nL l) (hs : ∀ q ∈ l', q ∈ l) : lv_has ls nL l' := ⟨h.1, h.2.1, fun q hq => h.2.2 q (hs q hq)⟩
