-- there is always a deal
theorem ex_max {nC : Int} {may : Int → Int → Prop} (hn : 0 ≤ nC) : ∀ (k : Nat) (g : Int → Int), Mtc nC may g → (nC - wrmN nC 0 g).toNat = k → ∃ W g2, MaxM nC may W g2 := by
  intro k
  induction k using Nat.strongRecOn with
  | ind k ih =>
    intro g hm hk
    by_cases h : ∃ g2, Mtc nC may g2 ∧ wrmN nC 0 g < wrmN nC 0 g2
    · obtain ⟨g2, h1, h2⟩ := h
      have a1 := wrm_le nC 0 g2 hn
      have a2 := wrm_le nC 0 g hn
      exact ih (nC - wrmN nC 0 g2).toNat (by omega) g2 h1 rfl
    · refine ⟨wrmN nC 0 g, g, hm, rfl, fun g2 h2 => ?_⟩
      by_cases hz : wrmN nC 0 g2 ≤ wrmN nC 0 g
      · exact hz
      · exact absurd ⟨g2, h2, by omega⟩ h
theorem least_nat {P : Nat → Prop} : ∀ n : Nat, P n → ∃ m, P m ∧ ∀ i, i < m → ¬ P i := by
  intro n
  induction n using Nat.strongRecOn with
  | ind n ih =>
    intro hn
    by_cases h : ∃ i, i < n ∧ P i
    · obtain ⟨i, h1, h2⟩ := h
      exact ih i h1 h2
    · exact ⟨n, hn, fun i hi hp => h ⟨i, hi, hp⟩⟩
theorem ex_lex {nC W : Int} {may : Int → Int → Prop} (ht : ∀ c t, may c t → 0 ≤ t) {g0 : Int → Int} (h0 : MaxM nC may W g0) : ∀ k : Nat, (k : Int) ≤ nC → ∃ g, MaxM nC may W g ∧ LexTo nC may W g k
  | 0, _ => ⟨g0, h0, fun c h1 h2 => by omega⟩
  | k + 1, hk => by
    obtain ⟨g, hM, hL⟩ := ex_lex ht h0 k (by omega)
    have e : ((k + 1 : Nat) : Int) = (k : Int) + 1 := by omega
    rw [e]
    by_cases h : ∃ n : Nat, ∃ g2, Mtc nC may g2 ∧ wrmN nC 0 g2 = W ∧ (∀ i, 0 ≤ i → i < (k : Int) → g2 i = g i) ∧ g2 (k : Int) = (n : Int)
    · obtain ⟨n, hn⟩ := h
      obtain ⟨m, ⟨g2, q1, q2, q3, q4⟩, hmin⟩ := least_nat (P := fun n : Nat => ∃ g2, Mtc nC may g2 ∧ wrmN nC 0 g2 = W ∧ (∀ i, 0 ≤ i → i < (k : Int) → g2 i = g i) ∧ g2 (k : Int) = (n : Int)) n hn
      refine ⟨g2, ⟨q1, q2, hM.2.2⟩, lex_next hL q3 (fun g3 a b d => ?_)⟩
      rw [q4]
      by_cases hz : g3 (k : Int) = -4
      · exact Or.inl hz
      · have hp := ht _ _ ((a.1 (k : Int) (by omega) (by omega)).resolve_left hz)
        refine Or.inr ⟨by omega, ?_⟩
        by_cases hlt : g3 (k : Int) < (m : Int)
        · exact absurd ⟨g3, a, b, d, (Int.toNat_of_nonneg hp).symm⟩ (hmin (g3 (k : Int)).toNat (by omega))
        · omega
    · refine ⟨g, hM, lex_next hL (fun _ _ _ => rfl) (fun g3 a b d => ?_)⟩
      by_cases hz : g3 (k : Int) = -4
      · exact Or.inl hz
      · have hp := ht _ _ ((a.1 (k : Int) (by omega) (by omega)).resolve_left hz)
        exact absurd ⟨(g3 (k : Int)).toNat, g3, a, b, d, (Int.toNat_of_nonneg hp).symm⟩ h
theorem ex_deal {nC : Int} {may : Int → Int → Prop} (hn : 0 ≤ nC) (ht : ∀ c t, may c t → 0 ≤ t) : ∃ W g, IsDeal nC may W g := by
  obtain ⟨W, g, h⟩ := ex_max (may := may) hn _ (fun _ => -4) ⟨fun c _ _ => Or.inl rfl, fun c d _ _ _ _ h => absurd rfl h⟩ rfl
  obtain ⟨g2, h1, h2⟩ := ex_lex ht h nC.toNat (by omega)
  rw [Int.toNat_of_nonneg hn] at h2
  exact ⟨W, g2, h1, h2⟩
theorem deal_ex {v : VT} {o s sl : Int} (h : 0 ≤ v o 4) : IsDeal (v o 4) (mayA v o s sl) (warmV v o s sl) (dealV v o s sl) := by
  obtain ⟨W, g, hd⟩ := ex_deal (may := mayA v o s sl) h (fun c t z => z.2.2.1)
  have := deal_is hd
  have h2 := this.2.2
  rw [this.1] at h2
  exact h2
theorem WFV.dr {v : VT} {o s sl : Int} (hw : WFV v o) : WFV (drsV v o s sl) o := hw.drv (deal_ex hw.1.1)
theorem WFV.yr {v : VT} {o s q sl : Int} (hw : WFV v o) : WFV (yrV v o s q sl) o := by
  have h := hw.dr (s := s) (sl := sl)
  have h2 := h.win.sprv (q := q) (sl := sl)
  rw [drsV_45] at h2
  exact h2
theorem WFV.yrs {v : VT} {o s q sl : Int} (hw : WFV v o) : ∀ k : Nat, WFV (yrsN v o s q sl k) o
  | 0 => hw
  | k + 1 => (hw.yrs k).yr
theorem Sz.yrs {v u : VT} {o t s q sl : Int} (h : Sz v u o t) : ∀ k : Nat, Sz (yrsN v o s q sl k) (yrsN u o s q sl k) o t
  | 0 => h
  | k + 1 => (h.yrs k).yr (deal_ex (h.yrs k).1.1)
theorem Sz.ahn {v u : VT} {o t s q sl : Int} (h : Sz v u o t) (k : Nat) : ahdN u o s q sl k = ahdN v o s q sl k := (h.yrs k).new
theorem Sz.ahs {v u : VT} {o t s q sl : Int} (h : Sz v u o t) : ∀ k : Nat, ahdS u o s q sl k = ahdS v o s q sl k
  | 0 => rfl
  | k + 1 => by
    rw [ahdS, ahdS, h.ahs k, h.ahn k]
theorem minN_le {v : VT} {o : Int} : ∀ (k : Nat) (c : Int), 0 ≤ c → c < (k : Int) → minN v o k ≤ v (o + 5 + c) 0
  | 0, c, h1, h2 => by omega
  | k + 1, c, h1, h2 => by
    rw [minN]
    by_cases hc : c = (k : Int)
    · rw [hc]; split <;> omega
    · have := minN_le (v := v) (o := o) k c h1 (by omega)
      split <;> omega
/-- what a cut to size z comes to -/
noncomputable def cutA (v : VT) (o t s q sl : Int) (y : Nat) (z : Int) : Int := ahdS (cutV v o t z) o s q sl y
theorem cutA_small {v : VT} {o t s q sl z z2 : Int} {y : Nat} (hw : WFV v o) (ht : 0 ≤ t ∧ t < v o 5) (h7 : v (o + 13 + t) 7 = -4) (hz : z + 2 < minN v o (v o 4).toNat) (hz2 : z2 ≤ z) : cutA v o t s q sl y z2 = cutA v o t s q sl y z := by
  unfold cutA
  have h4 : ∀ z, cutV v o t z o 4 = v o 4 := fun z => u_ne (by omega)
  have h5 : ∀ z, cutV v o t z o 5 = v o 5 := fun z => u_ne (by omega)
  refine Sz.ahs (t := t) ⟨by rw [h4]; exact hw.1, by rw [h5]; exact ht, by rw [h4, h4], by rw [h5, h5], fun c k a b d e => ?_, fun x k a b d e f => ?_, ?_, fun c a b => ?_⟩ y
  · rw [h4] at b
    have := hw.1
    unfold cutV
    rw [u_ne (by omega), u_ne (by omega)]
  · unfold cutV
    rw [u_ne (by omega), u_ne (by omega)]
  · unfold cutV
    rw [u_ne (by omega)]
    exact h7
  · rw [h4] at b
    have h8 := hw.1
    have hc := hw.2.2.1 c a b
    unfold chOK at hc
    have := minN_le (v := v) (o := o) (v o 4).toNat c a (by omega)
    unfold cutV
    rw [upd2_same, upd2_same, u_ne (by omega), u_ne (by omega), u_ne (by omega)]
    omega
/-- the cut that pays most, of those above lo: the greatest of several -/
def CutQ (f : Int → Int) (sz b0 t th0 z0 lo n th zz : Int) : Prop := (∃ z, lo < z ∧ z < sz ∧ f z < b0 ∧ (∀ i, lo < i → i < sz → f z ≤ f i) ∧ (∀ i, z < i → i < sz → f z < f i) ∧ n = f z ∧ th = t ∧ zz = z) ∨ ((∀ i, lo < i → i < sz → b0 ≤ f i) ∧ n = b0 ∧ th = th0 ∧ zz = z0)
theorem CutQ.no {f : Int → Int} {sz b0 t th0 z0 z n th zz : Int} (h : CutQ f sz b0 t th0 z0 z n th zz) (hf : n ≤ f z) : CutQ f sz b0 t th0 z0 (z - 1) n th zz := by
  rcases h with ⟨x, a1, a2, a3, a4, a5, a6, a7⟩ | ⟨a1, a2, a3⟩
  · refine Or.inl ⟨x, by omega, a2, a3, fun i k1 k2 => ?_, a5, a6, a7⟩
    by_cases e : i = z
    · rw [e]; omega
    · exact a4 i (by omega) k2
  · refine Or.inr ⟨fun i k1 k2 => ?_, a2, a3⟩
    by_cases e : i = z
    · rw [e]; omega
    · exact a1 i (by omega) k2
theorem CutQ.yes {f : Int → Int} {sz b0 t th0 z0 z n th zz : Int} (h : CutQ f sz b0 t th0 z0 z n th zz) (hz : z < sz) (hf : f z < n) : CutQ f sz b0 t th0 z0 (z - 1) (f z) t z := by
  rcases h with ⟨x, a1, a2, a3, a4, a5, a6, a7⟩ | ⟨a1, a2, a3⟩
  · refine Or.inl ⟨z, by omega, hz, by omega, fun i k1 k2 => ?_, fun i k1 k2 => ?_, rfl, rfl, rfl⟩
    · by_cases e : i = z
      · rw [e]; omega
      · have := a4 i (by omega) k2; omega
    · have := a4 i k1 k2; omega
  · refine Or.inl ⟨z, by omega, hz, by omega, fun i k1 k2 => ?_, fun i k1 k2 => ?_, rfl, rfl, rfl⟩
    · by_cases e : i = z
      · rw [e]; omega
      · have := a1 i (by omega) k2; omega
    · have := a1 i k1 k2; omega
theorem CutQ.all {f : Int → Int} {sz b0 t th0 z0 lo n th zz : Int} (h : CutQ f sz b0 t th0 z0 lo n th zz) (h0 : 0 ≤ lo) (hf : ∀ i, 0 < i → i ≤ lo → n ≤ f i) : CutQ f sz b0 t th0 z0 0 n th zz := by
  rcases h with ⟨x, a1, a2, a3, a4, a5, a6, a7⟩ | ⟨a1, a2, a3⟩
  · refine Or.inl ⟨x, by omega, a2, a3, fun i k1 k2 => ?_, a5, a6, a7⟩
    by_cases e : i ≤ lo
    · have := hf i k1 e; omega
    · exact a4 i (by omega) k2
  · refine Or.inr ⟨fun i k1 k2 => ?_, a2, a3⟩
    by_cases e : i ≤ lo
    · have := hf i k1 e; omega
    · exact a1 i (by omega) k2
theorem CutQ.le {f : Int → Int} {sz b0 t th0 z0 lo n th zz i : Int} (h : CutQ f sz b0 t th0 z0 lo n th zz) (h1 : lo < i) (h2 : i < sz) : n ≤ f i := by
  rcases h with ⟨x, a1, a2, a3, a4, a5, a6, a7⟩ | ⟨a1, a2, a3⟩
  · rw [a6]; exact a4 i h1 h2
  · rw [a2]; exact a1 i h1 h2
theorem cutA_pos {v : VT} {o t s q sl z : Int} {y : Nat} (h : 0 ≤ v o 4 ∧ v o 4 ≤ 8) : 0 ≤ cutA v o t s q sl y z := by
  unfold cutA
  refine (ahs_bd ?_ y).1
  unfold cutV
  by_cases e : o = o + 13 + t
  · by_cases e2 : t = -13
    · rw [u_ne (by omega)]; exact h
    · omega
  · rw [u_ne (by omega)]; exact h
theorem WFV.cut {v : VT} {o t z : Int} (hw : WFV v o) (ht : 0 ≤ t ∧ t < v o 5) (hz : 1 ≤ z ∧ z < v (o + 13 + t) 2) : WFV (cutV v o t z) o := by
  have h4 : cutV v o t z o 4 = v o 4 := u_ne (by omega)
  have h5 : cutV v o t z o 5 = v o 5 := u_ne (by omega)
  have hk : ∀ x k, ¬ (x = t ∧ k = 2) → cutV v o t z (o + 13 + x) k = v (o + 13 + x) k := fun x k h => u_ne (by omega)
  have h2 : ∀ x, cutV v o t z (o + 13 + x) 2 = if x = t then z else v (o + 13 + x) 2 := fun x => by
    by_cases e : x = t
    · rw [e, if_pos rfl]; exact upd2_same _ _ _ _
    · rw [if_neg e]; exact hk x 2 (by omega)
  obtain ⟨w1, w2, w3, w4, w5⟩ := hw
  refine ⟨by rw [h4]; exact w1, by rw [h5]; exact w2, fun c a b => ?_, fun x a b => ?_, fun x y a b d e f g k => ?_⟩
  · rw [h4] at b
    have := w3 c a b
    have q : ∀ j, cutV v o t z (o + 5 + c) j = v (o + 5 + c) j := fun j => u_ne (by omega)
    unfold chOK at *
    rw [q, q, q]
    exact this
  · rw [h5] at b
    have := w4 x a b
    unfold tgOK at *
    rw [h4, hk x 0 (by omega), hk x 1 (by omega), hk x 3 (by omega), hk x 4 (by omega), hk x 5 (by omega), hk x 6 (by omega), hk x 7 (by omega), h2 x]
    obtain ⟨t1, t2, t3, t4, t5, t6, t7, t8, t9, t10⟩ := this
    refine ⟨t1, t2, ?_, t4, t5, t6, ?_, t8, t9, t10⟩
    · by_cases e : x = t
      · rw [if_pos e]; rw [e] at t3; omega
      · rw [if_neg e]; exact t3
    · by_cases e : x = t
      · rw [if_pos e]
        intro k
        have := t7 k
        rw [e] at this
        omega
      · rw [if_neg e]; exact t7
  · rw [h5] at b e
    rw [hk x 7 (by omega)] at f g
    rw [hk y 7 (by omega)] at g
    rw [hk x 0 (by omega), hk y 0 (by omega)] at k
    exact w5 x y a b d e f g k
theorem u_at {v : VT} {r i j x : Int} (h : j = i) : upd2 v r i x r j = x := by
  rw [h]
  exact upd2_same _ _ _ _
