-- what a text told: all of it in order
def chQ (B : VT) (r : Int) : Prop := (1 ≤ B r 0 ∧ B r 0 ≤ 40) ∧ (0 ≤ B r 1 ∧ B r 1 ≤ 4) ∧ (0 ≤ B r 2 ∧ B r 2 ≤ 4)
def tgQ (B : VT) (r : Int) : Prop := (B r 0 = 0 ∨ B r 0 = 1) ∧ (0 ≤ B r 1 ∧ B r 1 ≤ 4) ∧ (1 ≤ B r 2 ∧ B r 2 ≤ 40) ∧ (1 ≤ B r 3 ∧ B r 3 ≤ 9) ∧ B r 4 = 0 ∧ B r 5 = 0 ∧ (B r 6 = -4 ∨ (0 ≤ B r 6 ∧ B r 6 ≤ 7)) ∧ B r 7 = -4
def WfT (B : VT) : Prop := BdB B ∧ (∀ c, 0 ≤ c → c < B 0 4 → chQ B (5 + c)) ∧ (∀ t, 0 ≤ t → t < B 0 5 → tgQ B (13 + t)) ∧ (∀ j, 0 ≤ j → j < 80 → (0 ≤ B 3 j ∧ B 3 j ≤ 9) ∧ (¬ B 3 j = 0 → j % 10 < B 23 9)) ∧ (∀ k, 0 ≤ k → k < B 0 6 → 1 ≤ B 4 k ∧ B 4 k ≤ 40) ∧ (0 ≤ B 23 6 ∧ B 23 6 ≤ 4)
section TOLD
variable {f : Int → Int} {L r i x p q n : Int} {v w u : VT} {B D : VT}
theorem chQ.of (h : chQ B r) (e : ∀ j, 0 ≤ j → j < 3 → D r j = B r j) : chQ D r := by
  unfold chQ
  rw [e 0 (by decide) (by decide), e 1 (by decide) (by decide), e 2 (by decide) (by decide)]
  exact h
theorem tgQ.of (h : tgQ B r) (e : ∀ j, 0 ≤ j → j < 8 → D r j = B r j) : tgQ D r := by
  unfold tgQ
  rw [e 0 (by decide) (by decide), e 1 (by decide) (by decide), e 2 (by decide) (by decide), e 3 (by decide) (by decide), e 4 (by decide) (by decide), e 5 (by decide) (by decide), e 6 (by decide) (by decide), e 7 (by decide) (by decide)]
  exact h
theorem wf_sl (hB : WfT B) (hz : tK f L q = 2 ∧ 0 ≤ tV f L q ∧ tV f L q ≤ 4) (hb : BdB (slB f L B q)) : WfT (slB f L B q) := by
  have e : ∀ a j, ¬ (a = 23 ∧ (j = 6 ∨ j = 7)) → slB f L B q a j = B a j := fun a j g => by
    unfold slB
    rw [ux_ne (by omega), ux_ne (by omega)]
  obtain ⟨⟨b4, b5, -⟩, h1, h2, h3, h4, h5⟩ := hB
  refine ⟨hb, fun c a b => ?_, fun t a b => ?_, fun j a b => ?_, fun k a b => ?_, ?_⟩
  · rw [e 0 4 (by decide)] at b
    exact (h1 c a b).of (fun j _ _ => e _ _ (by omega))
  · rw [e 0 5 (by decide)] at b
    exact (h2 t a b).of (fun j _ _ => e _ _ (by omega))
  · rw [e 3 j (by omega), e 23 9 (by decide)]
    exact h3 j a b
  · rw [e 0 6 (by decide)] at b
    rw [e 4 k (by omega)]
    exact h4 k a b
  · unfold slB
    rw [ux_at rfl]
    exact hz.2
theorem wf_ch (hB : WfT B) (hc : B 0 4 < 8) (z1 : tK f L q = 2 ∧ 1 ≤ tV f L q ∧ tV f L q ≤ 40) (z2 : 0 ≤ tV f L (tE f L q) ∧ tV f L (tE f L q) ≤ 4) (z3 : 0 ≤ tV f L (tE f L (tE f L q)) ∧ tV f L (tE f L (tE f L q)) ≤ 4) (hb : BdB (chB f L B q)) : WfT (chB f L B q) := by
  have e : ∀ a j, ¬ a = 5 + B 0 4 → ¬ (a = 0 ∧ j = 4) → chB f L B q a j = B a j := fun a j g1 g2 => by
    unfold chB
    rw [ux_ne (by omega), ux_ne (by omega), ux_ne (by omega), ux_ne (by omega)]
  have e4 : chB f L B q 0 4 = B 0 4 + 1 := by
    unfold chB
    rw [ux_at rfl]
  obtain ⟨⟨b4, -⟩, h1, h2, h3, h4, h5⟩ := hB
  refine ⟨hb, fun c a b => ?_, fun t a b => ?_, fun j a b => ?_, fun k a b => ?_, ?_⟩
  · rw [e4] at b
    by_cases g : c = B 0 4
    · subst g
      unfold chB chQ
      refine ⟨?_, ?_, ?_⟩
      · rw [ux_ne (by omega), ux_ne (by omega), ux_ne (by omega), ux_at rfl]
        exact z1.2
      · rw [ux_ne (by omega), ux_ne (by omega), ux_at rfl]
        exact z2
      · rw [ux_ne (by omega), ux_at rfl]
        exact z3
    · exact (h1 c a (by omega)).of (fun j _ _ => e _ _ (by omega) (by omega))
  · rw [e 0 5 (by omega) (by decide)] at b
    exact (h2 t a b).of (fun j _ _ => e _ _ (by omega) (by omega))
  · rw [e 3 j (by omega) (by omega), e 23 9 (by omega) (by decide)]
    exact h3 j a b
  · rw [e 0 6 (by omega) (by decide)] at b
    rw [e 4 k (by omega) (by omega)]
    exact h4 k a b
  · rw [e 23 6 (by omega) (by decide)]
    exact h5
theorem wf_ma (hB : WfT B) (hc : B 0 6 < 6) (z1 : 1 ≤ tV f L q ∧ tV f L q ≤ 40) (hb : BdB (maB f L B q)) : WfT (maB f L B q) := by
  have e : ∀ a j, ¬ (a = 4 ∧ j = B 0 6) → ¬ (a = 0 ∧ j = 6) → maB f L B q a j = B a j := fun a j g1 g2 => by
    unfold maB
    rw [ux_ne (by omega), ux_ne (by omega)]
  have e6 : maB f L B q 0 6 = B 0 6 + 1 := by
    unfold maB
    rw [ux_at rfl]
  obtain ⟨⟨-, -, b6, -⟩, h1, h2, h3, h4, h5⟩ := hB
  refine ⟨hb, fun c a b => ?_, fun t a b => ?_, fun j a b => ?_, fun k a b => ?_, ?_⟩
  · rw [e 0 4 (by omega) (by decide)] at b
    exact (h1 c a b).of (fun j _ _ => e _ _ (by omega) (by omega))
  · rw [e 0 5 (by omega) (by decide)] at b
    exact (h2 t a b).of (fun j _ _ => e _ _ (by omega) (by omega))
  · rw [e 3 j (by omega) (by omega), e 23 9 (by omega) (by decide)]
    exact h3 j a b
  · rw [e6] at b
    by_cases g : k = B 0 6
    · subst g
      unfold maB
      rw [ux_ne (by omega), ux_at rfl]
      exact z1
    · rw [e 4 k (by omega) (by omega)]
      exact h4 k a (by omega)
  · rw [e 23 6 (by omega) (by decide)]
    exact h5
theorem wf_li (hB : WfT B) (z1 : 0 ≤ tV f L q ∧ tV f L q ≤ 7) (z2 : 0 ≤ tV f L (tE f L q) ∧ tV f L (tE f L q) ≤ 9) (z3 : 0 ≤ tV f L (tE f L (tE f L q)) ∧ tV f L (tE f L (tE f L q)) ≤ 9) (hb : BdB (liB f L B q)) : WfT (liB f L B q) := by
  have e : ∀ a j, ¬ a = 3 → ¬ (a = 23 ∧ (j = 8 ∨ j = 9)) → liB f L B q a j = B a j := fun a j g1 g2 => by
    unfold liB
    rw [ux_ne (by omega), ux_ne (by omega), ux_ne (by omega)]
  have e9 : liB f L B q 23 9 = cmx (B 23 9) (tV f L (tE f L q) + 1) := by
    unfold liB
    rw [ux_ne (by omega), ux_at rfl]
  obtain ⟨⟨-, -, -, -, b9⟩, h1, h2, h3, h4, h5⟩ := hB
  have c2 := cmx_bd (a := B 23 9) (b := tV f L (tE f L q) + 1) (m := 10) b9 (by omega)
  refine ⟨hb, fun c a b => ?_, fun t a b => ?_, fun j a b => ?_, fun k a b => ?_, ?_⟩
  · rw [e 0 4 (by omega) (by decide)] at b
    exact (h1 c a b).of (fun j _ _ => e _ _ (by omega) (by omega))
  · rw [e 0 5 (by omega) (by decide)] at b
    exact (h2 t a b).of (fun j _ _ => e _ _ (by omega) (by omega))
  · rw [e9]
    by_cases g : j = tV f L q * 10 + tV f L (tE f L q)
    · have e3 : liB f L B q 3 j = tV f L (tE f L (tE f L q)) := by
        unfold liB
        rw [ux_at g]
      rw [e3]
      exact ⟨z3, fun _ => by omega⟩
    · have e3 : liB f L B q 3 j = B 3 j := by
        unfold liB
        rw [ux_ne (by omega), ux_ne (by omega), ux_ne (by omega)]
      rw [e3]
      have := h3 j a b
      exact ⟨this.1, fun z => by have := this.2 z; omega⟩
  · rw [e 0 6 (by omega) (by decide)] at b
    rw [e 4 k (by omega) (by omega)]
    exact h4 k a b
  · rw [e 23 6 (by omega) (by decide)]
    exact h5
theorem tgB_new {k j : Int} (h : 0 ≤ B 0 5) : tgB f L B k q (13 + B 0 5) j = if j = 6 then heirT f L q else if j = 1 then kdT f L q else plainF (keB f L B q) (13 + B 0 5) k (tV f L (thS f L q)) (tV f L (tE f L (thS f L q))) (13 + B 0 5) j := by
  unfold tgB
  by_cases h6 : j = 6
  · rw [if_pos h6, ux_at h6]
  · rw [if_neg h6, ux_ne (Or.inr h6)]
    by_cases h1 : j = 1
    · rw [if_pos h1, ux_at h1]
    · rw [if_neg h1, ux_ne (Or.inr h1), ux_ne (by omega)]
theorem wf_tg {k : Int} (hB : WfT B) (hk : k = 0 ∨ k = 1) (hc : B 0 5 < 10) (hz : (tgF f L q).1 = 0) (hb : BdB (tgB f L B k q)) : WfT (tgB f L B k q) := by
  have e : ∀ a j, ¬ a = 13 + B 0 5 → ¬ (a = 0 ∧ j = 5) → ¬ (a = 23 ∧ j = 8) → tgB f L B k q a j = B a j := fun a j g1 g2 g3 => by
    rw [tgB_at g1 g2, keB_ne g3]
  have b5 := hB.1.2.1
  have e5 : tgB f L B k q 0 5 = B 0 5 + 1 := tgB_05 b5.1
  obtain ⟨k1, k2, k3⟩ := tgF_z hz
  have hkr := kdT_rng (f := f) (L := L) (q := q)
  unfold thF at k3
  obtain ⟨k4, -⟩ := orF_z k3
  obtain ⟨k5, k6⟩ := orF_z k4
  have n1 := nP_z k5
  have n2 := nP_z k6
  obtain ⟨-, h1, h2, h3, h4, h5⟩ := hB
  refine ⟨hb, fun c a b => ?_, fun t a b => ?_, fun j a b => ?_, fun m a b => ?_, ?_⟩
  · rw [e 0 4 (by omega) (by decide) (by decide)] at b
    have := hb.1
    rw [e 0 4 (by omega) (by decide) (by decide)] at this
    exact (h1 c a b).of (fun j _ _ => e _ _ (by omega) (by omega) (by omega))
  · rw [e5] at b
    by_cases g : t = B 0 5
    · subst g
      unfold tgQ
      rw [tgB_new b5.1, tgB_new b5.1, tgB_new b5.1, tgB_new b5.1, tgB_new b5.1, tgB_new b5.1, tgB_new b5.1, tgB_new b5.1]
      simp only [plainF, upd2]
      unfold heirT
      simp
      refine ⟨hk, by omega, n1.2, n2.2, ?_⟩
      by_cases g4 : kdT f L q = 4
      · have := k2 g4
        rw [if_pos g4]
        omega
      · rw [if_neg g4]
        omega
    · exact (h2 t a (by omega)).of (fun j _ _ => e _ _ (by omega) (by omega) (by omega))
  · rw [e 3 j (by omega) (by omega) (by omega), e 23 9 (by omega) (by decide) (by decide)]
    exact h3 j a b
  · rw [e 0 6 (by omega) (by decide) (by decide)] at b
    rw [e 4 m (by omega) (by omega) (by omega)]
    exact h4 m a b
  · rw [e 23 6 (by omega) (by decide) (by decide)]
    exact h5
theorem lin_wf (hB : WfT B) (h : (linF f L B q).1 = 0) : WfT (linB f L B q) := by
  have hb := lin_bd hB.1 h
  have hw := wdT_rng (f := f) (L := L) (q := q)
  have hn := lin_wd h
  by_cases h2 : wdT f L q = 2
  · rw [(lin_sl h2).2.1] at hb ⊢
    rw [(lin_sl h2).1] at h
    by_cases g : B 23 7 = 0
    · rw [if_pos g] at h
      unfold slF at h
      exact wf_sl hB (nP_z (orF_z h).1) hb
    · rw [if_neg g] at h
      exact absurd (show (4 : Int) = 0 from h) (by decide)
  · by_cases h3 : wdT f L q = 3
    · rw [(lin_ch h3).2.1] at hb ⊢
      rw [(lin_ch h3).1] at h
      by_cases g : 8 ≤ B 0 4
      · rw [if_pos g] at h
        exact absurd (show (5 : Int) = 0 from h) (by decide)
      · rw [if_neg g] at h
        unfold chF at h
        obtain ⟨h, -⟩ := orF_z h
        obtain ⟨h, z3⟩ := orF_z h
        obtain ⟨z1, z2⟩ := orF_z h
        have n1 := nP_z z1
        have n2 := nP_z z2
        have n3 := nP_z z3
        exact wf_ch hB (by omega) n1 n2.2 (by omega) hb
    · by_cases h4 : wdT f L q = 4
      · rw [(lin_li h4).2.1] at hb ⊢
        rw [(lin_li h4).1] at h
        unfold liF at h
        obtain ⟨h, -⟩ := orF_z h
        obtain ⟨h, z3⟩ := orF_z h
        obtain ⟨z1, z2⟩ := orF_z h
        exact wf_li hB (nP_z z1).2 (nP_z z2).2 (nP_z z3).2 hb
      · by_cases h5 : wdT f L q = 5
        · rw [(lin_ma h5).2.1] at hb ⊢
          rw [(lin_ma h5).1] at h
          by_cases g : 6 ≤ B 0 6
          · rw [if_pos g] at h
            exact absurd (show (5 : Int) = 0 from h) (by decide)
          · rw [if_neg g] at h
            unfold maF at h
            exact wf_ma hB (by omega) (nP_z (orF_z h).1).2 hb
        · have hw2 : wdT f L q = 0 ∨ wdT f L q = 1 := by omega
          rw [(lin_tg hw2).2.1] at hb ⊢
          rw [(lin_tg hw2).1] at h
          by_cases g : 10 ≤ B 0 5
          · rw [if_pos g] at h
            exact absurd (show (5 : Int) = 0 from h) (by decide)
          · rw [if_neg g] at h
            exact wf_tg hB hw2 (by omega) h hb
theorem par_wf : ∀ (k : Nat) (q n : Int) (B : VT), WfT B → (parN f L k q B n).1.1 = 0 → WfT (parN f L k q B n).2.2 ∧ (parN f L k q B n).2.2 23 8 ≤ (parN f L k q B n).2.2 0 4 ∧ (parN f L k q B n).2.2 23 9 ≤ (parN f L k q B n).2.2 0 5
  | 0, q, n, B, _, h => by
    rw [parN] at h
    exact absurd (show (7 : Int) = 0 from h) (by decide)
  | k + 1, q, n, B, hB, h => by
    by_cases g : tK f L q = 0
    · rw [par_0 g] at h ⊢
      by_cases g2 : B 0 4 < B 23 8 ∨ B 0 5 < B 23 9
      · rw [if_pos g2] at h
        exact absurd (show (6 : Int) = 0 from h) (by decide)
      · exact ⟨hB, by show B 23 8 ≤ B 0 4; omega, by show B 23 9 ≤ B 0 5; omega⟩
    · by_cases g2 : (linF f L B q).1 = 0
      · rw [par_1 g g2] at h ⊢
        exact par_wf k _ _ _ (lin_wf hB g2) h
      · rw [par_2 g g2] at h
        exact absurd h g2
theorem strt_row {a : Int} (h1 : ¬ a = 0) (h2 : ¬ a = 3) (h3 : ¬ a = 23) : strtB B a = B a := by
  funext j
  unfold strtB
  rw [ux_ne (by omega), ux_ne (by omega), ux_ne (by omega), ux_ne (by omega), congrFun (fillF_row h2) j, ux_ne (by omega), ux_ne (by omega), ux_ne (by omega)]
theorem strt_0 : strtB B 0 4 = 0 ∧ strtB B 0 5 = 0 ∧ strtB B 0 6 = 0 ∧ strtB B 23 6 = 2 ∧ strtB B 23 7 = 0 ∧ strtB B 23 8 = 0 ∧ strtB B 23 9 = 0 ∧ ∀ j, 0 ≤ j → j < 80 → strtB B 3 j = 0 := by
  have h3 : ∀ j, ¬ (0 : Int) = 3 → fillF (upd2 (upd2 (upd2 B 0 4 0) 0 5 0) 0 6 0) 3 0 80 0 j = upd2 (upd2 (upd2 B 0 4 0) 0 5 0) 0 6 0 0 j := fun j h => congrFun (fillF_row h) j
  refine ⟨?_, ?_, ?_, ?_, ?_, ?_, ?_, fun j a b => ?_⟩
  · unfold strtB
    rw [ux_ne (by decide), ux_ne (by decide), ux_ne (by decide), ux_ne (by decide), h3 4 (by decide), ux_ne (by decide), ux_ne (by decide), ux_at rfl]
  · unfold strtB
    rw [ux_ne (by decide), ux_ne (by decide), ux_ne (by decide), ux_ne (by decide), h3 5 (by decide), ux_ne (by decide), ux_at rfl]
  · unfold strtB
    rw [ux_ne (by decide), ux_ne (by decide), ux_ne (by decide), ux_ne (by decide), h3 6 (by decide), ux_at rfl]
  · unfold strtB
    rw [ux_ne (by decide), ux_ne (by decide), ux_ne (by decide), ux_at rfl]
  · unfold strtB
    rw [ux_ne (by decide), ux_ne (by decide), ux_at rfl]
  · unfold strtB
    rw [ux_ne (by decide), ux_at rfl]
  · unfold strtB
    rw [ux_at rfl]
  · unfold strtB
    rw [ux_ne (by omega), ux_ne (by omega), ux_ne (by omega), ux_ne (by omega)]
    unfold fillF
    rw [if_pos ⟨rfl, a, b⟩]
theorem strt_wf : WfT (strtB B) := by
  obtain ⟨s4, s5, s6, s26, s27, s28, s29, s3⟩ := strt_0 (B := B)
  refine ⟨strt_bd, fun c a b => by omega, fun t a b => by omega, fun j a b => ?_, fun k a b => by omega, by omega⟩
  rw [s3 j a b]
  exact ⟨by omega, fun z => absurd rfl z⟩
/-- the village at o is the one told -/
def TldV (w : VT) (o : Int) (B : VT) : Prop := w o 4 = B 0 4 ∧ w o 5 = B 0 5 ∧ w o 6 = B 0 6 ∧ (∀ c k, 0 ≤ c → c < B 0 4 → 0 ≤ k → k < 3 → w (o + 5 + c) k = B (5 + c) k) ∧ (∀ t k, 0 ≤ t → t < B 0 5 → 0 ≤ k → k < 8 → w (o + 13 + t) k = B (13 + t) k) ∧ (∀ j, 0 ≤ j → j < 80 → w (o + 3) j = B 3 j) ∧ (∀ k, 0 ≤ k → k < 6 → w (o + 4) k = B 4 k)
theorem TldV.fr {o : Int} (h : TldV v o B) (hb : BdB B) (e : ∀ a j, o ≤ a → a < o + 23 → w a j = v a j) : TldV w o B := by
  obtain ⟨h1, h2, h3, h4, h5, h6, h7⟩ := h
  obtain ⟨b4, b5, -⟩ := hb
  exact ⟨(e o 4 (by omega) (by omega)).trans h1, (e o 5 (by omega) (by omega)).trans h2, (e o 6 (by omega) (by omega)).trans h3, fun c k a1 a2 a3 a4 => (e _ _ (by omega) (by omega)).trans (h4 c k a1 a2 a3 a4), fun c k a1 a2 a3 a4 => (e _ _ (by omega) (by omega)).trans (h5 c k a1 a2 a3 a4), fun j a1 a2 => (e _ _ (by omega) (by omega)).trans (h6 j a1 a2), fun j a1 a2 => (e _ _ (by omega) (by omega)).trans (h7 j a1 a2)⟩
theorem became (hB : BdB B) (hs : shV v = B) : TldV (upd2 (cpyF (cpyF (bodF v 4 27 (v 27 4) (v 27 5)) (4 + 3) (27 + 3) 80) (4 + 4) (27 + 4) 6) 4 6 (v 27 6)) 4 B ∧ ∀ a j, (a < 4 ∨ 27 ≤ a) → upd2 (cpyF (cpyF (bodF v 4 27 (v 27 4) (v 27 5)) (4 + 3) (27 + 3) 80) (4 + 4) (27 + 4) 6) 4 6 (v 27 6) a j = v a j := by
  subst hs
  obtain ⟨b4, b5, b6, -⟩ := hB
  rw [sh04] at b4
  rw [sh05] at b5
  rw [sh06] at b6
  have e : ∀ a j, ¬ a = 7 → ¬ a = 8 → ¬ (a = 4 ∧ j = 6) → upd2 (cpyF (cpyF (bodF v 4 27 (v 27 4) (v 27 5)) (4 + 3) (27 + 3) 80) (4 + 4) (27 + 4) 6) 4 6 (v 27 6) a j = bodF v 4 27 (v 27 4) (v 27 5) a j := fun a j g1 g2 g3 => by
    rw [ux_ne (by omega), congrFun (cpyF_row (by omega)) j, congrFun (cpyF_row (by omega)) j]
  refine ⟨⟨?_, ?_, ?_, fun c k a1 a2 a3 a4 => ?_, fun t k a1 a2 a3 a4 => ?_, fun j a1 a2 => ?_, fun j a1 a2 => ?_⟩, fun a j g => ?_⟩
  · rw [e 4 4 (by decide) (by decide) (by decide), bodF_4]
    rfl
  · rw [e 4 5 (by decide) (by decide) (by decide), bodF_5]
    rfl
  · rw [ux_at rfl]
    rfl
  · rw [sh04] at a2
    rw [e _ _ (by omega) (by omega) (by omega), shV_at (by omega)]
    unfold bodF
    rw [if_neg (by omega), if_neg (by omega), if_pos (by omega), show 27 + (4 + 5 + c - 4) = 27 + (5 + c) by omega]
  · rw [sh05] at a2
    rw [e _ _ (by omega) (by omega) (by omega), shV_at (by omega)]
    unfold bodF
    rw [if_neg (by omega), if_neg (by omega), if_pos (by omega), show 27 + (4 + 13 + t - 4) = 27 + (13 + t) by omega]
  · rw [ux_ne (by omega), congrFun (cpyF_row (by omega)) j, shV_at (by omega)]
    unfold cpyF
    rw [if_pos ⟨rfl, a1, a2⟩, bodF_out (by omega) (by omega) (by omega)]
  · rw [ux_ne (by omega), shV_at (by omega)]
    unfold cpyF
    rw [if_pos ⟨rfl, a1, a2⟩, if_neg (by omega), bodF_out (by omega) (by omega) (by omega)]
  · rw [ux_ne (by omega), congrFun (cpyF_row (by omega)) j, congrFun (cpyF_row (by omega)) j, bodF_out (by omega) (by omega) (by omega)]
/-- the text was read: the class's answer and what holds then -/
def TxtC (R : (Int × Int) × Int × VT) (v : VT) (x : Int) (w : VT) : Prop :=
  (¬ R.1.1 = 0 ∧ x = w32 (-10 - R.1.2) ∧ w 1 11 = R.1.1 ∧ w 2 1 = 0 ∧ (∀ a j, (a < 27 ∨ 50 < a) → ¬ (a = 1 ∧ j = 11) → ¬ (a = 2 ∧ j = 1) → w a j = v a j)) ∨
  (R.1.1 = 0 ∧ x = R.2.1 ∧ w 1 11 = 0 ∧ w 2 1 = 0 ∧ w 1 10 = R.2.2 23 6 ∧ w 52 0 = 0 ∧ w 52 1 = 0 ∧ TldV w 4 R.2.2 ∧ (∀ a j, (a < 4 ∨ 50 < a) → ¬ a = 52 → ¬ (a = 1 ∧ (j = 10 ∨ j = 11)) → ¬ (a = 2 ∧ j = 1) → w a j = v a j))
end TOLD
