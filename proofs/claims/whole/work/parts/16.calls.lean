-- methods: contracts over the world, calls, returns
def BS (G : GT) (n : Nat) (v : VT) (U : State) : Prop := wld G n v U.heap ∧ va_K G.2.2.1 vwCl (tysG G) U ∧ EXT G U
theorem BS.blind {G : GT} {n : Nat} {v : VT} {av : List Value} : FrameBlind (va_Pc av (BS G n v)) := by
  intro a U g mk q
  obtain ⟨q0, qP, qK, qE⟩ := q
  exact ⟨q0, qP, va_K.moved (u := U) (U := U.calling g mk a) (Vm.Alike.refl U.vm) qK, EXT.same (u := U) (U := U.calling g mk a) rfl qE⟩
abbrev PT : Type := Option AV → Nat → VT → Prop
def QA (G : GT) (Φ : PT) : Array Value → State → Outcome → State → Prop := fun _ st o t =>
  (∃ (r : Option AV) (n' : Nat) (v' : VT), o = .returned (r.map (conc G)) ∧ Φ r n' v' ∧ inv n' v' ∧ (∀ a, r = some a → okv a) ∧ wld G n' v' t.heap) ∧ va_F (Afr G) st t
/-- a method's contract at a world and arguments -/
def MT (G : GT) (y : MethodName) (cc : ByteArray) (maxL : Nat) (ret : Option FieldType) (rm : Room) (As : List AV) (n : Nat) (v : VT) (Φ : PT) : Prop :=
  ∀ l : Launch, inv n v → (∀ a ∈ As, okv a) → Met l y (Cond.code y cc maxL ret :: lw_good) rm (va_Pc (As.map (conc G)) (BS G n v)) (QA G Φ) rm.cells rm.slots (Afr G)
/-- what the tables say of a method -/
def YF (y : MethodName) (cc : ByteArray) (maxL : Nat) (ret : Option FieldType) (np : Nat) : Prop :=
  Cond.code y cc maxL ret ∈ lw_good ∧ Cond.initialized y.cls ∈ lw_good ∧ y.cls ≠ "java/lang/invoke/MethodHandle" ∧ y.cls ≠ "java/lang/invoke/VarHandle" ∧ (parseMethodDescriptor y.desc).map (fun d => d.parameters.length) = some np
def Rt (X : XT) (G : GT) (Φ : PT) (rm : Room) (ret : Option FieldType) : Prop :=
  xQ X = MQ (xb X) (QA G Φ) (xa X) (xs X) rm.cells rm.slots (Afr G) ∧ (xme X).sig.returnType = ret
def argsl : List AV → List (Option AV)
  | [] => []
  | .inr (.inl x) :: As => some (vl x) :: none :: argsl As
  | .inl x :: As => some (vi x) :: argsl As
  | .inr (.inr x) :: As => some (vr x) :: argsl As
theorem lvl_none {G : GT} : ∀ {k i : Nat}, lvl G i (List.replicate k none) = []
  | 0, _ => rfl
  | k + 1, i => by
    rw [List.replicate_succ]
    exact lvl_none (k := k) (i := i + 1)
theorem lvl_args {G : GT} : ∀ {As : List AV} {i k : Nat}, lvl G i (argsl As ++ List.replicate k none) = lv_args i (As.map (conc G))
  | [], i, k => by
    show lvl G i (List.replicate k none) = []
    exact lvl_none
  | .inl x :: As, i, k => by
    show (i, conc G (vi x)) :: lvl G (i + 1) (argsl As ++ List.replicate k none) = _
    rw [lvl_args]
    rfl
  | .inr (.inl x) :: As, i, k => by
    show (i, conc G (vl x)) :: lvl G (i + 1 + 1) (argsl As ++ List.replicate k none) = _
    rw [lvl_args]
    rfl
  | .inr (.inr x) :: As, i, k => by
    show (i, conc G (vr x)) :: lvl G (i + 1) (argsl As ++ List.replicate k none) = _
    rw [lvl_args]
    rfl
theorem args_len {G : GT} : ∀ {As : List AV}, (lg_sl (As.map (conc G))).length = (argsl As).length
  | [] => rfl
  | .inl x :: As => by
    show ((lg_sl (As.map (conc G))).length + 1) = (argsl As).length + 1
    rw [args_len]
  | .inr (.inl x) :: As => by
    show ((lg_sl (As.map (conc G))).length + 1 + 1) = (argsl As).length + 1 + 1
    rw [args_len]
  | .inr (.inr x) :: As => by
    show ((lg_sl (As.map (conc G))).length + 1) = (argsl As).length + 1
    rw [args_len]
theorem argsl_ok : ∀ {As : List AV}, (∀ a ∈ As, okv a) → ∀ a, some a ∈ argsl As → okv a
  | [], _, _, h => by cases h
  | .inl x :: As, hA, a, h => by
    rcases List.mem_cons.mp h with h | h
    · cases h; exact hA _ List.mem_cons_self
    · exact argsl_ok (fun b hb => hA b (List.mem_cons_of_mem _ hb)) a h
  | .inr (.inl x) :: As, hA, a, h => by
    rcases List.mem_cons.mp h with h | h
    · cases h; exact hA _ List.mem_cons_self
    · rcases List.mem_cons.mp h with h | h
      · cases h
      · exact argsl_ok (fun b hb => hA b (List.mem_cons_of_mem _ hb)) a h
  | .inr (.inr x) :: As, hA, a, h => by
    rcases List.mem_cons.mp h with h | h
    · cases h; exact trivial
    · exact argsl_ok (fun b hb => hA b (List.mem_cons_of_mem _ hb)) a h
theorem MT.of {G : GT} {y : MethodName} {cc : ByteArray} {maxL : Nat} {ret : Option FieldType} {rm : Room} {As : List AV} {n : Nat} {v : VT} {Φ : PT} (hy : plainName y.cls = true) (L : List (Option AV)) (k : Nat) (hL : argsl As ++ List.replicate k none = L) (hlen : (argsl As).length + k = maxL)
    (h : ∀ X : XT, Cx X G y.cls cc → xR X = rm → xn X = maxL → Rt X G Φ rm ret → (y.name = "<init>" → (xme X).name = "<init>") → E X G 0 0 n v 0 L []) : MT G y cc maxL ret rm As n v Φ := by
  intro l hr hok
  refine Met.ofW (cc := cc) (maxL := maxL) (ret := ret) hy rfl ?_
  intro p e s m args below meth c s₁ B hml hv
  obtain ⟨rfl, hw, hK, hE⟩ := hv
  have hts0 := atoms_spec (ws := Cond.code y cc maxL ret :: lw_good) B.pre
  have hg : G.1 < s.heap.size := by rw [hw.1]; omega
  obtain ⟨X, hX⟩ : ∃ X : XT, X = (p, l, e, rm, s, m, (As.map (conc G)).toArray, below, meth, c, MQ below (QA G Φ) (As.map (conc G)).toArray s rm.cells rm.slots (Afr G), maxL) := ⟨_, rfl⟩
  have hE2 := h X (by rw [hX]; exact ⟨B.exec, B.bytes, hml, findClass_of_methodNamed B.named, fun w hw => hts0 w (List.mem_cons_of_mem _ hw), hK, hg, B.notSynchronized, hE⟩) (by rw [hX]) (by rw [hX]) (by rw [hX]; exact ⟨rfl, B.returns⟩) (fun hn => by rw [hX]; exact (name_of_methodNamed B.named B.method).1.trans hn)
  have hl := lv_entry (As.map (conc G)) (n := maxL) (by rw [args_len]; omega)
  rw [lg_entry_eq]
  generalize (lg_sl (As.map (conc G)) ++ List.replicate (maxL - (lg_sl (As.map (conc G))).length) Slot.unset).toArray = ls at hl ⊢
  have hl2 : lv_has ls maxL (lvl G 0 L) := by rw [← hL, lvl_args]; exact hl
  have hLok : ∀ a, some a ∈ L → okv a := by
    intro a ha
    rw [← hL] at ha
    rcases List.mem_append.mp ha with ha | ha
    · exact argsl_ok hok a ha
    · have := List.eq_of_mem_replicate ha
      cases this
  have hfin := hE2 hr hLok (fun a ha => by cases ha) s.heap [] ls hw (by rw [hX]; exact va_S.rf) (by rw [hX]; exact hl2)
  rw [hX] at hfin
  exact hfin
