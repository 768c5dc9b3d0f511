-- the text, as the Model reads it
def TapM (f : Int → Int) (L : Int) (v : VT) : Prop := v 119 9 = L ∧ (0 ≤ L ∧ L ≤ 400) ∧ (∀ p, 0 ≤ p → p < L → 0 ≤ f p ∧ f p ≤ 255) ∧ ∀ p, 0 ≤ p → p < L → v 123 p = f p
def FrM (v w : VT) : Prop := ∀ a j, (¬ a = 119 ∨ j < 10 ∨ 15 < j) → w a j = v a j
def NedQ (v : VT) (g c : Int) (w : VT) : Prop := (∀ a j, (¬ a = 119 ∨ (¬ j = 14 ∧ ¬ j = 15)) → w a j = v a j) ∧ (((g = 0 ∧ v 119 14 = 0) ∧ w 119 14 = c ∧ w 119 15 = v 119 11) ∨ (¬ (g = 0 ∧ v 119 14 = 0) ∧ w 119 14 = v 119 14 ∧ w 119 15 = v 119 15))
/-- the token behind p was looked at -/
def LokQ (f : Int → Int) (L p : Int) (w : VT) : Prop := (tK f L p = 4 ∧ w 119 14 = 1 ∧ w 119 15 = tS f L p) ∨ (¬ tK f L p = 4 ∧ w 119 14 = 0 ∧ w 119 12 = tK f L p ∧ w 119 11 = tS f L p ∧ w 119 10 = tE f L p ∧ (tK f L p = 2 → w 119 13 = tV f L p))
def NxtM (f : Int → Int) (L : Int) (v w : VT) : Prop := FrM v w ∧ ((0 < v 119 14 ∧ w 119 14 = v 119 14 ∧ w 119 15 = v 119 15) ∨ (v 119 14 = 0 ∧ LokQ f L (v 119 10) w))
def MSt (f : Int → Int) (L : Int) (v : VT) (F : Int × Int) (q : Int) : Prop := (0 ≤ q ∧ q ≤ L) ∧ ((0 < F.1 ∧ v 119 14 = F.1 ∧ v 119 15 = F.2) ∨ (F.1 = 0 ∧ LokQ f L q v))
section MTOK
variable {f : Int → Int} {L r i x p q lo hi c g : Int} {v w u : VT} {F H : Int × Int}
theorem TapM.of (h : TapM f L v) (h2 : w 119 9 = v 119 9) (h3 : ∀ j, w 123 j = v 123 j) : TapM f L w :=
  ⟨h2.trans h.1, h.2.1, h.2.2.1, fun p a b => (h3 p).trans (h.2.2.2 p a b)⟩
theorem TapM.up (hr : ¬ (r = 119 ∧ i = 9) ∧ ¬ r = 123) (h : TapM f L v) : TapM f L (upd2 v r i x) :=
  h.of (ux_ne (by omega)) (fun j => ux_ne (Or.inl (fun e => hr.2 e.symm)))
theorem TapM.by (h : TapM f L v) (hp : 0 ≤ p) : p < L → 0 ≤ f p ∧ f p ≤ 255 := fun g => h.2.2.1 p hp g
theorem TapM.fm (h : TapM f L v) (hF : FrM v w) : TapM f L w := h.of (hF 119 9 (by decide)) (fun j => hF 123 j (Or.inl (by decide)))
theorem ok_lok (G : GT) (p : Int) (v : VT) (hT : TapM f L v) (hp : 0 ≤ p) : MP G yX9_look cX9_look 2 (some .int) 0 0 [vr 119, vi p] v (byF f L p) := by
  have h := ok_X9_look G p v (by rw [hT.1]; exact hT.2.1) hp
  have e : (if p < v 119 9 then v 123 p else -1) = byF f L p := by
    rw [hT.1]
    unfold byF
    by_cases g : p < L
    · rw [if_pos g, if_pos g, hT.2.2.2 p hp g]
    · rw [if_neg g, if_neg g]
  rw [e] at h
  exact h
theorem FrM.rf : FrM v v := fun _ _ _ => rfl
theorem FrM.tr (h : FrM v w) (h2 : FrM w u) : FrM v u := fun a j g => (h2 a j g).trans (h a j g)
theorem FrM.up (h : FrM v w) (hi : 10 ≤ i ∧ i ≤ 15) : FrM v (upd2 w 119 i x) := fun a j g => by
  rw [ux_ne (by omega)]
  exact h a j g
theorem NedQ.fm (h : NedQ v g c w) : FrM v w := fun a j q => h.1 a j (by omega)
theorem byF_rng (hf : p < L → 0 ≤ f p ∧ f p ≤ 255) : -1 ≤ byF f L p ∧ byF f L p ≤ 255 ∧ (byF f L p < 0 ↔ ¬ p < L) := by
  unfold byF
  by_cases g : p < L
  · have := hf g
    rw [if_pos g]
    omega
  · rw [if_neg g]
    omega
theorem byF_lt (h : p < L) : byF f L p = f p := if_pos h
def valM (f : Int → Int) (s i x : Int) : Prop := (0 ≤ x ∧ x ≤ 99) ∧ (i = s → x = 0) ∧ (i = s + 1 → x = f s - 48) ∧ (s + 2 ≤ i → x = 10 * (f s - 48) + f (s + 1) - 48) ∧ (s < i → 48 ≤ f s ∧ f s ≤ 57)
theorem valM.next {s i x y : Int} (h : valM f s i x) (hsi : s ≤ i) (hd : 48 ≤ f i ∧ f i ≤ 57) (hy : (i - s < 2 ∧ y = 10 * x + f i - 48) ∨ (2 ≤ i - s ∧ y = x)) : valM f s (i + 1) y := by
  obtain ⟨h1, h2, h3, h4, h5⟩ := h
  have e0 : i = s → f i = f s := fun h => by rw [h]
  have e1 : i = s + 1 → f i = f (s + 1) := fun h => by rw [h]
  by_cases g0 : i = s
  · have a0 := e0 g0
    have b0 := h2 g0
    exact ⟨by omega, fun g => by omega, fun g => by omega, fun g => by omega, fun g => by omega⟩
  · have b5 := h5 (by omega)
    by_cases g1 : i = s + 1
    · have a1 := e1 g1
      have b1 := h3 g1
      exact ⟨by omega, fun g => by omega, fun g => by omega, fun g => by omega, fun g => b5⟩
    · have b2 := h4 (by omega)
      exact ⟨by omega, fun g => by omega, fun g => by omega, fun g => by omega, fun g => b5⟩
/-- the end of the tape -/
theorem Lok_end (h : ¬ tS f L p < L) (h14 : w 119 14 = 0) (h12 : w 119 12 = 0) (h11 : w 119 11 = tS f L p) (h10 : w 119 10 = tS f L p) : LokQ f L p w := by
  obtain ⟨k1, k2⟩ := tK_0 (f := f) (L := L) (p := p) (by omega)
  exact Or.inr ⟨by omega, h14, by omega, h11, by omega, fun g => by omega⟩
theorem Lok_name (h : tS f L p < L) (h2 : 97 ≤ f (tS f L p) ∧ f (tS f L p) ≤ 122) (h14 : w 119 14 = 0) (h12 : w 119 12 = 1) (h11 : w 119 11 = tS f L p) (h10 : w 119 10 = scn 97 122 f L (tS f L p)) : LokQ f L p w := by
  obtain ⟨k1, k2⟩ := tK_1 h h2
  exact Or.inr ⟨by omega, h14, by omega, h11, by omega, fun g => by omega⟩
theorem Lok_stop (h : tS f L p < L) (h2 : f (tS f L p) = 59) (h14 : w 119 14 = 0) (h12 : w 119 12 = 3) (h11 : w 119 11 = tS f L p) (h10 : w 119 10 = tS f L p + 1) : LokQ f L p w := by
  obtain ⟨k1, k2⟩ := tK_3 h h2
  exact Or.inr ⟨by omega, h14, by omega, h11, by omega, fun g => by omega⟩
theorem Lok_bad (h : tS f L p < L) (h2 : ¬ f (tS f L p) = 59) (h3 : ¬ (97 ≤ f (tS f L p) ∧ f (tS f L p) ≤ 122)) (h4 : ¬ (48 ≤ f (tS f L p) ∧ f (tS f L p) ≤ 57)) (h14 : w 119 14 = 1) (h15 : w 119 15 = tS f L p) : LokQ f L p w := by
  have k := (tK_n h h2 h3).1
  rw [if_neg (fun z => h4 z.1)] at k
  exact Or.inl ⟨k, h14, h15⟩
theorem Lok_num (h : tS f L p < L) (h4 : 48 ≤ f (tS f L p) ∧ f (tS f L p) ≤ 57) (hs : u 119 10 = scn 48 57 f L (tS f L p)) (h12 : u 119 12 = 2) (h11 : u 119 11 = tS f L p) (h0 : u 119 14 = 0) (hv : valM f (tS f L p) (u 119 10) (u 119 13)) (hg : (g = 1 ∧ u 119 10 - u 119 11 ≤ 2) ∨ (g = 0 ∧ 2 < u 119 10 - u 119 11)) (hN : NedQ u g 1 w) : LokQ f L p w := by
  obtain ⟨k1, k2⟩ := tK_n h (by omega) (by omega)
  obtain ⟨hF, hN⟩ := hN
  have e10 := hF 119 10 (by decide)
  have e11 := hF 119 11 (by decide)
  have e12 := hF 119 12 (by decide)
  have e13 := hF 119 13 (by decide)
  by_cases g2 : scn 48 57 f L (tS f L p) - tS f L p ≤ 2
  · rw [if_pos ⟨h4, g2⟩] at k1
    refine Or.inr ⟨by omega, by omega, by omega, by omega, by omega, fun _ => ?_⟩
    have hp := scn_pos h h4
    unfold tV numF
    rw [k2, ← hs, e13]
    obtain ⟨-, -, v3, v4, -⟩ := hv
    split
    · exact v3 (by omega)
    · exact v4 (by omega)
  · rw [if_neg (fun z => g2 z.2)] at k1
    exact Or.inl ⟨k1, by omega, by omega⟩
theorem nP_c : (tK f L q = 2 ∧ (lo ≤ tV f L q ∧ tV f L q ≤ hi) ∧ (nP f L q lo hi).1 = 0) ∨ (tK f L q = 2 ∧ ¬ (lo ≤ tV f L q ∧ tV f L q ≤ hi) ∧ (nP f L q lo hi).1 = 3) ∨ (tK f L q = 4 ∧ (nP f L q lo hi).1 = 1) ∨ (¬ tK f L q = 2 ∧ ¬ tK f L q = 4 ∧ (nP f L q lo hi).1 = 2) := by
  unfold nP
  simp only
  by_cases g : tK f L q = 2
  · rw [if_pos g]
    by_cases g2 : lo ≤ tV f L q ∧ tV f L q ≤ hi
    · rw [if_pos g2]
      exact Or.inl ⟨g, g2, rfl⟩
    · rw [if_neg g2]
      exact Or.inr (Or.inl ⟨g, g2, rfl⟩)
  · rw [if_neg g]
    by_cases g2 : tK f L q = 4
    · rw [if_pos g2]
      exact Or.inr (Or.inr (Or.inl ⟨g2, rfl⟩))
    · rw [if_neg g2]
      exact Or.inr (Or.inr (Or.inr ⟨g, g2, rfl⟩))
theorem nP_2 : (nP f L q lo hi).2 = tS f L q := rfl
theorem sP_2 : (sP f L q).2 = tS f L q := rfl
theorem sP_c : (tK f L q = 3 ∧ (sP f L q).1 = 0) ∨ (tK f L q = 4 ∧ (sP f L q).1 = 1) ∨ (¬ tK f L q = 3 ∧ ¬ tK f L q = 4 ∧ (sP f L q).1 = 2) := by
  unfold sP
  simp only
  by_cases g : tK f L q = 3
  · rw [if_pos g]
    exact Or.inl ⟨g, rfl⟩
  · rw [if_neg g]
    by_cases g2 : tK f L q = 4
    · rw [if_pos g2]
      exact Or.inr (Or.inl ⟨g2, rfl⟩)
    · rw [if_neg g2]
      exact Or.inr (Or.inr ⟨g, g2, rfl⟩)
/-- what a step found: t is asked of it -/
theorem MSt.tok (h : MSt f L v F q) : (0 < F.1 ∧ v 119 14 = F.1 ∧ v 119 15 = F.2) ∨ (F.1 = 0 ∧ LokQ f L q v) := h.2
theorem MSt.fr (h : MSt f L v F q) (e : ∀ j, 10 ≤ j → j ≤ 15 → w 119 j = v 119 j) : MSt f L w F q := by
  unfold MSt LokQ
  rw [e 10 (by decide) (by decide), e 11 (by decide) (by decide), e 12 (by decide) (by decide), e 13 (by decide) (by decide), e 14 (by decide) (by decide), e 15 (by decide) (by decide)]
  exact h
theorem MSt.nn (h : MSt f L v F q) : 0 ≤ v 119 14 ∧ (v 119 14 = 0 → 0 ≤ v 119 10 ∧ v 119 10 ≤ L) := by
  have hE : q ≤ tE f L q := tE_ge
  have hE2 : tE f L q ≤ L := tE_le h.1.2
  have := h.1
  rcases h.2 with g | ⟨-, g⟩
  · exact ⟨by omega, fun z => by omega⟩
  · unfold LokQ at g
    exact ⟨by omega, fun z => by omega⟩
/-- a step: what was looked at is taken, if it is right, and the next one looked at -/
theorem MSt.step (h : MSt f L v F q) (hw : w 119 14 = 0 → w 119 10 = tE f L q) (hH : (0 < F.1 ∧ w 119 14 = F.1 ∧ w 119 15 = F.2) ∨ (F.1 = 0 ∧ 0 < H.1 ∧ w 119 14 = H.1 ∧ w 119 15 = H.2) ∨ (F.1 = 0 ∧ H.1 = 0 ∧ w 119 14 = 0)) (hn : NxtM f L w u) : MSt f L u (orF F H) (tE f L q) := by
  have hE : q ≤ tE f L q := tE_ge
  refine ⟨⟨Int.le_trans h.1.1 hE, tE_le h.1.2⟩, ?_⟩
  obtain ⟨-, hn⟩ := hn
  rcases hH with ⟨a, b, c⟩ | ⟨a, b, c, d⟩ | ⟨a, b, c⟩
  · rw [orF_n (by omega)]
    rcases hn with hn | hn
    · exact Or.inl ⟨a, by omega, by omega⟩
    · omega
  · rw [orF_0 a]
    rcases hn with hn | hn
    · exact Or.inl ⟨b, by omega, by omega⟩
    · omega
  · rw [orF_0 a]
    rcases hn with hn | hn
    · omega
    · refine Or.inr ⟨b, ?_⟩
      rw [← hw c]
      exact hn.2
end MTOK
