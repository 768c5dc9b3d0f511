-- in order: whether a child can have a thing, and as many stay warm
theorem wrm_split {nC k : Int} {g g' : Int → Int} (h : ∀ i, 0 ≤ i → i < k → g' i = g i) (hk : 0 ≤ k) : wrmN nC 0 g' - wrmN nC k g' = wrmN nC 0 g - wrmN nC k g := by
  have key : ∀ n : Nat, cntN (wrmB 0 g') n - cntN (wrmB k g') n = cntN (wrmB 0 g) n - cntN (wrmB k g) n := by
    intro n
    induction n with
    | zero => rfl
    | succ n ih =>
      rw [cntN, cntN, cntN, cntN]
      by_cases hn : (n : Int) < k
      · have e := h (n : Int) (by omega) hn
        have e1 : wrmB 0 g' (n : Int) = wrmB 0 g (n : Int) := by unfold wrmB; rw [e]
        have e2 : wrmB k g' (n : Int) = false := by unfold wrmB; exact decide_eq_false (fun q => by omega)
        have e3 : wrmB k g (n : Int) = false := by unfold wrmB; exact decide_eq_false (fun q => by omega)
        rw [e1, e2, e3]
        simp only [Bool.false_eq_true, if_false]
        omega
      · have e1 : wrmB k g' (n : Int) = wrmB 0 g' (n : Int) := by
          unfold wrmB
          apply Bool.eq_iff_iff.mpr
          simp only [decide_eq_true_eq]
          omega
        have e2 : wrmB k g (n : Int) = wrmB 0 g (n : Int) := by
          unfold wrmB
          apply Bool.eq_iff_iff.mpr
          simp only [decide_eq_true_eq]
          omega
        rw [e1, e2]
        omega
  exact key nC.toNat
/-- what is settled: the things of the children ahead of c -/
def Sd (g : Int → Int) (sd c : Int) : Prop := ∀ x, 0 ≤ x → x < 32 → (bt sd x = true ↔ ∃ i, 0 ≤ i ∧ i < c ∧ g i = x)
/-- c takes t from o and leaves what it had -/
def tkP (g : Int → Int) (c t o : Int) : Int → Int := fun j => if j = o then -4 else if j = c then t else g j
def tkQ (ow : Int → Int) (c t l : Int) : Int → Int := fun j => if j = l then -4 else if j = t then c else ow j
theorem tk_con {g ow : Int → Int} {nC nT c t : Int} (h : Con g ow nC nT) (hc : 0 ≤ c ∧ c < nC) (ht : 0 ≤ t ∧ t < nT) (hne : ¬ g c = t) : Con (tkP g c t (ow t)) (tkQ ow c t (g c)) nC nT := by
  have hot : ow t = -4 ∨ (0 ≤ ow t ∧ ow t < nC ∧ g (ow t) = t) := h.2 t ht.1 ht.2
  have hgc : g c = -4 ∨ (0 ≤ g c ∧ g c < nT ∧ ow (g c) = c) := h.1 c hc.1 hc.2
  have hoc : ¬ ow t = c := fun e => by
    rcases hot with a | a
    · omega
    · rw [e] at a; exact hne a.2.2
  refine ⟨fun d k1 k2 => ?_, fun x k1 k2 => ?_⟩
  · unfold tkP tkQ
    by_cases e1 : d = ow t
    · rw [if_pos e1]; exact Or.inl rfl
    · rw [if_neg e1]
      by_cases e2 : d = c
      · rw [if_pos e2]
        refine Or.inr ⟨ht.1, ht.2, ?_⟩
        rw [if_neg (fun z => hne z.symm), if_pos rfl, e2]
      · rw [if_neg e2]
        rcases h.1 d k1 k2 with a | ⟨a1, a2, a3⟩
        · exact Or.inl a
        · refine Or.inr ⟨a1, a2, ?_⟩
          rw [if_neg (fun z => e2 ?_), if_neg (fun z => e1 ?_)]
          · exact a3
          · rw [← z, a3]
          · rw [z] at a3
            rcases hgc with b | b
            · omega
            · rw [← a3, b.2.2]
  · unfold tkP tkQ
    by_cases e1 : x = g c
    · rw [if_pos e1]; exact Or.inl rfl
    · rw [if_neg e1]
      by_cases e2 : x = t
      · rw [if_pos e2]
        refine Or.inr ⟨hc.1, hc.2, ?_⟩
        rw [if_neg (fun z => hoc z.symm), if_pos rfl, e2]
      · rw [if_neg e2]
        rcases h.2 x k1 k2 with a | ⟨a1, a2, a3⟩
        · exact Or.inl a
        · refine Or.inr ⟨a1, a2, ?_⟩
          rw [if_neg (fun z => e2 ?_), if_neg (fun z => e1 ?_)]
          · exact a3
          · rw [← a3, z]
          · rw [z] at a3
            rcases hot with b | b
            · omega
            · rw [← a3, b.2.2]
theorem tk_leg {g ow m : Int → Int} {nC c t : Int} (hl : Leg g m nC) (hm : bt (m c) t = true) : Leg (tkP g c t (ow t)) m nC := by
  intro d k1 k2 k3
  unfold tkP at k3 ⊢
  by_cases e1 : d = ow t
  · rw [if_pos e1] at k3; exact absurd rfl k3
  · rw [if_neg e1] at k3 ⊢
    by_cases e2 : d = c
    · rw [if_pos e2, e2]; exact hm
    · rw [if_neg e2] at k3 ⊢
      exact hl d k1 k2 k3
theorem tk_cnt {g ow : Int → Int} {nC nT c t : Int} (h : Con g ow nC nT) (hc : 0 ≤ c ∧ c < nC) (ht : 0 ≤ t ∧ t < nT) (hne : ¬ g c = t) :
    wrmN nC 0 (tkP g c t (ow t)) = wrmN nC 0 g + (if g c = -4 then 1 else 0) - (if ow t = -4 then 0 else 1) := by
  have hot : ow t = -4 ∨ (0 ≤ ow t ∧ ow t < nC ∧ g (ow t) = t) := h.2 t ht.1 ht.2
  have hoc : ¬ ow t = c := fun e => by
    rcases hot with a | a
    · omega
    · rw [e] at a; exact hne a.2.2
  have e1 : wrmN nC 0 (fun j => if j = c then t else g j) = wrmN nC 0 g + (if g c = -4 then 1 else 0) := by
    unfold wrmN
    by_cases hg : g c = -4
    · rw [if_pos hg]
      refine cnt_one nC.toNat (x := c) ⟨hc.1, by omega⟩ ?_ ?_ (fun y k1 k2 k3 => ?_)
      · unfold wrmB; rw [hg]; simp
      · unfold wrmB; simp only [if_true]; exact decide_eq_true ⟨hc.1, by omega⟩
      · unfold wrmB; simp only [k3, if_false]
    · rw [if_neg hg, Int.add_zero]
      refine cnt_congr nC.toNat (fun y k1 k2 => ?_)
      unfold wrmB
      by_cases e : y = c
      · subst e
        simp only [if_true]
        apply Bool.eq_iff_iff.mpr
        simp only [decide_eq_true_eq]
        omega
      · simp only [e, if_false]
  by_cases ho : ow t = -4
  · rw [if_pos ho, ← e1, Int.sub_zero]
    unfold wrmN
    refine cnt_congr nC.toNat (fun y k1 k2 => ?_)
    have : ¬ y = ow t := by omega
    unfold wrmB tkP
    simp only [this, if_false]
  · rw [if_neg ho, ← e1]
    have a := hot.resolve_left ho
    have e2 : wrmN nC 0 (fun j => if j = c then t else g j) = wrmN nC 0 (tkP g c t (ow t)) + 1 := by
      unfold wrmN
      refine cnt_one nC.toNat (x := ow t) ⟨a.1, by omega⟩ ?_ ?_ (fun y k1 k2 k3 => ?_)
      · unfold wrmB tkP; simp
      · unfold wrmB
        simp only [hoc, if_false]
        exact decide_eq_true ⟨a.1, by omega⟩
      · unfold wrmB tkP; simp only [k3, if_false]
    omega
/-- no largest matching with the same ones ahead gives t to c -/
theorem tk_no {g ow m sk : Int → Int} {nC nT c t sd W : Int} (hC : Con g ow nC nT) (hM : MaxM nC (mayT m nT) W g) (hc : 0 ≤ c ∧ c < nC) (ht : 0 ≤ t ∧ t < nT) (hT : nT ≤ 20) (hne : ¬ g c = t) (hsd : Sd g sd c) (hst : bt sd t = false) (hl : ¬ g c = -4) (ho : ¬ ow t = -4)
    (hs : SeekQ (tkP g c t (ow t)) (tkQ ow c t (g c)) m sk nC nT (c + 1) (jor sd (jshl 1 t)) (-4)) : ∀ g', Mtc nC (mayT m nT) g' → wrmN nC 0 g' = W → (∀ i, 0 ≤ i → i < c → g' i = g i) → ¬ g' c = t := by
  intro g' hg hw hp ht'
  have hot := (hC.2 t ht.1 ht.2).resolve_left ho
  have hoc : ∀ i, 0 ≤ i → i ≤ c → ¬ ow t = i := fun i k1 k2 e => by
    by_cases e2 : i = c
    · rw [e, e2] at hot; exact hne hot.2.2
    · have := (hsd t ht.1 (by omega)).mpr ⟨i, k1, by omega, by rw [← e]; exact hot.2.2⟩
      rw [hst] at this; cases this
  have hpre : ∀ i, 0 ≤ i → i < c → tkP g c t (ow t) i = g i := fun i k1 k2 => by
    unfold tkP
    rw [if_neg (fun z => hoc i k1 (by omega) z.symm), if_neg (by omega)]
  have hpc : tkP g c t (ow t) c = t := by
    unfold tkP
    rw [if_neg (fun z => hoc c hc.1 (Int.le_refl _) z.symm), if_pos rfl]
  have hbar : ∀ x, 0 ≤ x → x < 32 → bt (jor sd (jshl 1 t)) x = (bt sd x || decide (t = x)) := fun x k1 k2 => by rw [bt_or, bt_shl ⟨ht.1, by omega⟩ ⟨k1, k2⟩]
  have hle := seek_max (g' := g') (by omega) (tk_con hC hc ht hne) (fun i k1 k2 => ?_) hs (fun x k1 k2 k3 => ?_) (fun x y k1 k2 k3 k4 => hg.2 x y (by omega) k2 (by omega) k4)
  · have s1 := wrm_split (nC := nC) (k := c + 1) (g := tkP g c t (ow t)) (g' := g') (fun i k1 k2 => ?_) (by omega)
    · have s2 := tk_cnt hC hc ht hne
      rw [if_neg hl, if_neg ho] at s2
      have s3 := hM.2.1
      omega
    · by_cases e : i = c
      · rw [e, hpc]; exact ht'
      · rw [hpre i k1 (by omega)]; exact hp i k1 (by omega)
  · by_cases e : i = c
    · right
      rw [e, hpc, hbar t ht.1 (by omega)]
      simp
    · rw [hpre i k1 (by omega)]
      rcases hC.1 i k1 (by omega) with a | a
      · exact Or.inl a
      · right
        rw [hbar _ a.1 (by omega), (hsd _ a.1 (by omega)).mpr ⟨i, k1, by omega, rfl⟩]
        rfl
  · have hm := (hg.1 x (by omega) k2).resolve_left k3
    refine ⟨hm, ?_⟩
    rw [hbar _ hm.1 (by have := hm.2.1; omega)]
    apply Bool.or_eq_false_iff.mpr
    refine ⟨?_, decide_eq_false (fun z => ?_)⟩
    · cases e : bt sd (g' x) with
      | false => rfl
      | true =>
        obtain ⟨i, a1, a2, a3⟩ := (hsd _ hm.1 (by have := hm.2.1; omega)).mp e
        have := hg.2 x i (by omega) k2 a1 (by omega) k3 (by rw [hp i a1 a2, a3])
        omega
    · have := hg.2 x c (by omega) k2 hc.1 hc.2 k3 (by rw [ht', z])
      omega
