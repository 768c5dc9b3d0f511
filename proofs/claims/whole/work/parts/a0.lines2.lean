-- the text's lines: things; what stays in bounds
section LIN2
variable {f : Int → Int} {L r i x p lo hi c t q hr s n : Int} {v w u : VT} {B : VT} {F : Int × Int} {ok : Prop}
theorem sh04 : shV v 0 4 = v 27 4 := rfl
theorem sh05 : shV v 0 5 = v 27 5 := rfl
theorem sh06 : shV v 0 6 = v 27 6 := rfl
theorem sh26 : shV v 23 6 = v 50 6 := rfl
theorem sh27 : shV v 23 7 = v 50 7 := rfl
theorem sh28 : shV v 23 8 = v 50 8 := rfl
theorem sh29 : shV v 23 9 = v 50 9 := rfl
theorem TapC.plain {s z l : Int} (hr : ¬ r = 2 ∧ ¬ r = 3) (h : TapC f L v) : TapC f L (plainF v r s z l) :=
  h.of (fun j => plain_ne (fun e => hr.1 e.symm)) (fun j => plain_ne (fun e => hr.2 e.symm))
theorem kd_no4 (h : kdT f L q = 4) : ¬ kdT f L q = -4 := by omega
theorem kdT_1 (h : ¬ kdT f L q = -4) : tK f L q = 1 := by
  by_cases g : tK f L q = 1
  · exact g
  · exact absurd (if_neg g) h
theorem kdT_rng : kdT f L q = -4 ∨ (0 ≤ kdT f L q ∧ kdT f L q ≤ 4) := by
  unfold kdT
  split
  · exact kd_rng
  · exact Or.inl rfl
theorem wdT_rng : wdT f L q = -4 ∨ (0 ≤ wdT f L q ∧ wdT f L q ≤ 5) := by
  unfold wdT
  split
  · exact wd_rng
  · exact Or.inl rfl
theorem wdT_1 (h : ¬ wdT f L q = -4) : tK f L q = 1 := by
  by_cases g : tK f L q = 1
  · exact g
  · exact absurd (if_neg g) h
theorem kP_0 (h : ¬ kdT f L q = -4) : (kP f L q).1 = 0 := if_neg h
theorem kP_n (h : kdT f L q = -4) : kP f L q = (if tK f L q = 4 then 1 else 2, tS f L q) := by
  unfold kP
  rw [if_pos h]
theorem tg_k (h : kdT f L q = -4) : tgF f L q = (if tK f L q = 4 then 1 else 2, tS f L q) := by
  have e := kP_n h
  have g : ¬ (kP f L q).1 = 0 := by
    rw [e]
    show ¬ (if tK f L q = 4 then (1 : Int) else 2) = 0
    split <;> omega
  unfold tgF
  rw [orF_n g, orF_n g, e]
theorem tg_h (h : kdT f L q = 4) (hn : ¬ (nP f L (tE f L q) 0 7).1 = 0) : tgF f L q = nP f L (tE f L q) 0 7 := by
  unfold tgF
  rw [orF_0 (kP_0 (kd_no4 h)), if_pos h, orF_n hn]
theorem thS_rng (h : 0 ≤ q ∧ q ≤ L) : tE f L q ≤ thS f L q ∧ thS f L q ≤ L := by
  have h1 : tE f L q ≤ L := tE_le h.2
  have h2 : tE f L q ≤ tE f L (tE f L q) := tE_ge
  have h3 : tE f L (tE f L q) ≤ L := tE_le h1
  unfold thS
  split <;> omega
/-- the kind was read, and an heir where there is one -/
def JT (f : Int → Int) (L : Int) (v : VT) (hr : Int) (u : VT) : Prop := FrV v u ∧ TapC f L u ∧ u 50 2 = thS f L (v 50 2) ∧ hr = heirT f L (v 50 2) ∧ shV u = keB f L (shV v) (v 50 2) ∧ u 50 10 = v 50 10 ∧ u 50 11 = v 50 11 ∧ u 27 5 = v 27 5 ∧ (orF (kP f L (v 50 2)) (if kdT f L (v 50 2) = 4 then nP f L (tE f L (v 50 2)) 0 7 else (0, 0))).1 = 0
theorem JT.a (hT : TapC f L v) (hN : NxtQ f L v w) (h1 : ¬ kdT f L (v 50 2) = -4) (h4 : ¬ kdT f L (v 50 2) = 4) : JT f L v (-4) w := by
  obtain ⟨hF, k1, k2, k3, k4⟩ := hN
  have hk := kdT_1 h1
  refine ⟨hF.toR.toV, hT.fn hF, ?_, ?_, ?_, hF 50 10 (by decide), hF 50 11 (by decide), hF 27 5 (by decide), ?_⟩
  · unfold thS
    rw [if_neg h4]
    exact k3 (by omega)
  · unfold heirT
    rw [if_neg h4]
  · unfold keB
    rw [if_neg h4]
    exact sh_fr hF.toR
  · rw [orF_0 (kP_0 h1), if_neg h4]
theorem JT.b (hT : TapC f L v) (hN : NxtQ f L v w) (h4 : kdT f L (v 50 2) = 4) (hn : NumQ f L w 0 7 t u) (ht : ¬ t = 0) : JT f L v (u 50 5) (upd2 u 50 8 (if u 50 8 < u 50 5 + 1 then u 50 5 + 1 else u 50 8)) := by
  obtain ⟨hF, k1, k2, k3, k4⟩ := hN
  have hk := kdT_1 (kd_no4 h4)
  obtain ⟨hR, hO⟩ := hn.at_ (k3 (by omega))
  obtain ⟨z, z10, z11, zE, zV, zK, zL, zH⟩ := hO.good ht
  have e8 : u 50 8 = v 50 8 := (hR 50 8 (by decide)).trans (hF 50 8 (by decide))
  refine ⟨hF.toR.toV.tr (FrV.up (by decide) hR.toV), TapC.up (by decide) ((hT.fn hF).fr hR), ?_, ?_, ?_, ?_, ?_, ?_, ?_⟩
  · unfold thS
    rw [if_pos h4, ux_ne (by decide), zE]
  · unfold heirT
    rw [if_pos h4, zV]
  · unfold keB
    rw [if_pos h4, sh_u50 (by decide), sh_fr hR, sh_fr hF.toR, sh28, e8, zV]
    rfl
  · rw [ux_ne (by decide), z10]
    exact hF 50 10 (by decide)
  · rw [ux_ne (by decide), z11]
    exact hF 50 11 (by decide)
  · rw [ux_ne (by decide)]
    exact (hR 27 5 (by decide)).trans (hF 27 5 (by decide))
  · rw [orF_0 (kP_0 (kd_no4 h4)), if_pos h4, z]
theorem Out.later (hR : u 50 10 = F.1) (h2 : u 50 11 = F.2) (h : ¬ F.1 = 0) : Out F v u 0 ok := Or.inr ⟨h, rfl, hR, h2⟩
theorem tg_bad (hN : NxtQ f L v w) (h1 : kdT f L (v 50 2) = -4) (hc : c = if tK f L (v 50 2) = 4 then 1 else 2) : FrV v (upd2 (upd2 w 50 10 c) 50 11 (w 50 4)) ∧ Out (tgF f L (v 50 2)) v (upd2 (upd2 w 50 10 c) 50 11 (w 50 4)) 0 ok := by
  refine ⟨FrV.up (by decide) (FrV.up (by decide) hN.1.toR.toV), ?_⟩
  rw [tg_k h1, ← hc]
  have : ¬ c = 0 := by
    rw [hc]
    split <;> omega
  refine Or.inr ⟨this, rfl, ?_, ?_⟩
  · rw [ux_ne (by decide), ux_at rfl]
  · rw [ux_at rfl]
    exact hN.2.2.1
/-- what a village told keeps within bounds -/
def BdB (B : VT) : Prop := (0 ≤ B 0 4 ∧ B 0 4 ≤ 8) ∧ (0 ≤ B 0 5 ∧ B 0 5 ≤ 10) ∧ (0 ≤ B 0 6 ∧ B 0 6 ≤ 6) ∧ (0 ≤ B 23 8 ∧ B 23 8 ≤ 8) ∧ (0 ≤ B 23 9 ∧ B 23 9 ≤ 10)
theorem orF_z {F H : Int × Int} (h : (orF F H).1 = 0) : F.1 = 0 ∧ H.1 = 0 := by
  unfold orF at h
  by_cases g : F.1 = 0
  · rw [if_pos g] at h
    exact ⟨g, h⟩
  · rw [if_neg g] at h
    exact absurd h g
theorem nP_z (h : (nP f L q lo hi).1 = 0) : tK f L q = 2 ∧ lo ≤ tV f L q ∧ tV f L q ≤ hi := by
  unfold nP at h
  simp only at h
  by_cases g : tK f L q = 2
  · rw [if_pos g] at h
    by_cases g2 : lo ≤ tV f L q ∧ tV f L q ≤ hi
    · exact ⟨g, g2⟩
    · rw [if_neg g2] at h
      omega
  · rw [if_neg g] at h
    by_cases g2 : tK f L q = 4
    · rw [if_pos g2] at h
      omega
    · rw [if_neg g2] at h
      omega
theorem cmx_bd {a b m : Int} (h1 : 0 ≤ a ∧ a ≤ m) (h2 : b ≤ m) : 0 ≤ cmx a b ∧ cmx a b ≤ m ∧ a ≤ cmx a b ∧ b ≤ cmx a b := by
  unfold cmx
  split <;> omega
theorem plain_at {s z l k : Int} {r2 : Int} (h : ¬ r2 = r) : plainF B r s z l r2 k = B r2 k := plain_ne h
theorem keB_ne {a j : Int} (h : ¬ (a = 23 ∧ j = 8)) : keB f L B q a j = B a j := by
  unfold keB
  split
  · exact ux_ne (by omega)
  · rfl
theorem tgF_z (h : (tgF f L q).1 = 0) : ¬ kdT f L q = -4 ∧ (kdT f L q = 4 → tK f L (tE f L q) = 2 ∧ 0 ≤ tV f L (tE f L q) ∧ tV f L (tE f L q) ≤ 7) ∧ (thF f L (thS f L q)).1 = 0 := by
  unfold tgF at h
  obtain ⟨h1, h2⟩ := orF_z h
  obtain ⟨h3, h4⟩ := orF_z h1
  have h5 : ¬ kdT f L q = -4 := by
    intro g
    rw [kP_n g] at h3
    simp only at h3
    by_cases g2 : tK f L q = 4
    · rw [if_pos g2] at h3
      omega
    · rw [if_neg g2] at h3
      omega
  refine ⟨h5, fun g => ?_, h2⟩
  rw [if_pos g] at h4
  exact nP_z h4
theorem ke_bd (hB : BdB B) (h : (tgF f L q).1 = 0) : 0 ≤ keB f L B q 23 8 ∧ keB f L B q 23 8 ≤ 8 ∧ B 23 8 ≤ keB f L B q 23 8 ∧ (kdT f L q = 4 → tV f L (tE f L q) + 1 ≤ keB f L B q 23 8) := by
  obtain ⟨-, h2, -⟩ := tgF_z h
  unfold keB
  by_cases g : kdT f L q = 4
  · rw [if_pos g, ux_at rfl]
    have h3 := h2 g
    have := cmx_bd (a := B 23 8) (b := tV f L (tE f L q) + 1) (m := 8) hB.2.2.2.1 (by omega)
    omega
  · rw [if_neg g]
    have := hB.2.2.2.1
    omega
theorem tgB_at {k a j : Int} (h : ¬ a = 13 + B 0 5) (h2 : ¬ (a = 0 ∧ j = 5)) : tgB f L B k q a j = keB f L B q a j := by
  unfold tgB
  rw [ux_ne (Or.inl h), ux_ne (Or.inl h), ux_ne (by omega), plain_at h]
theorem tgB_05 {k : Int} (h : 0 ≤ B 0 5) : tgB f L B k q 0 5 = B 0 5 + 1 := by
  unfold tgB
  rw [ux_ne (by omega), ux_ne (by omega), ux_at rfl]
theorem lin_bd (hB : BdB B) (h : (linF f L B q).1 = 0) : BdB (linB f L B q) := by
  obtain ⟨b4, b5, b6, b8, b9⟩ := hB
  have hB : BdB B := ⟨b4, b5, b6, b8, b9⟩
  rcases wdT_rng (f := f) (L := L) (q := q) with hw | hw
  · rw [lin_no hw] at h
    simp only at h
    by_cases g : tK f L q = 4
    · rw [if_pos g] at h; omega
    · rw [if_neg g] at h; omega
  · by_cases h2 : wdT f L q = 2
    · rw [(lin_sl h2).2.1]
      unfold slB
      exact ⟨by rw [ux_ne (by decide), ux_ne (by decide)]; exact b4, by rw [ux_ne (by decide), ux_ne (by decide)]; exact b5, by rw [ux_ne (by decide), ux_ne (by decide)]; exact b6, by rw [ux_ne (by decide), ux_ne (by decide)]; exact b8, by rw [ux_ne (by decide), ux_ne (by decide)]; exact b9⟩
    · by_cases h3 : wdT f L q = 3
      · rw [(lin_ch h3).2.1]
        rw [(lin_ch h3).1] at h
        by_cases g : 8 ≤ B 0 4
        · rw [if_pos g] at h
          exact absurd (show (5 : Int) = 0 from h) (by decide)
        · have e : ∀ a j, ¬ a = 5 + B 0 4 → ¬ (a = 0 ∧ j = 4) → chB f L B (tE f L q) a j = B a j := fun a j g1 g2 => by
            unfold chB
            rw [ux_ne (by omega), ux_ne (by omega), ux_ne (by omega), ux_ne (by omega)]
          exact ⟨by unfold chB; rw [ux_at rfl]; omega, by rw [e 0 5 (by omega) (by decide)]; exact b5, by rw [e 0 6 (by omega) (by decide)]; exact b6, by rw [e 23 8 (by omega) (by decide)]; exact b8, by rw [e 23 9 (by omega) (by decide)]; exact b9⟩
      · by_cases h4 : wdT f L q = 4
        · rw [(lin_li h4).2.1]
          rw [(lin_li h4).1] at h
          unfold liF at h
          obtain ⟨h, -⟩ := orF_z h
          obtain ⟨h, hz3⟩ := orF_z h
          obtain ⟨hz1, hz2⟩ := orF_z h
          have n1 := nP_z hz1
          have n2 := nP_z hz2
          have c1 := cmx_bd (a := B 23 8) (b := tV f L (tE f L q) + 1) (m := 8) b8 (by omega)
          have c2 := cmx_bd (a := B 23 9) (b := tV f L (tE f L (tE f L q)) + 1) (m := 10) b9 (by omega)
          unfold liB
          exact ⟨by rw [ux_ne (by omega), ux_ne (by omega), ux_ne (by omega)]; exact b4, by rw [ux_ne (by omega), ux_ne (by omega), ux_ne (by omega)]; exact b5, by rw [ux_ne (by omega), ux_ne (by omega), ux_ne (by omega)]; exact b6, by rw [ux_ne (by omega), ux_ne (by omega), ux_at rfl]; omega, by rw [ux_ne (by omega), ux_at rfl]; omega⟩
        · by_cases h5 : wdT f L q = 5
          · rw [(lin_ma h5).2.1]
            rw [(lin_ma h5).1] at h
            by_cases g : 6 ≤ B 0 6
            · rw [if_pos g] at h
              exact absurd (show (5 : Int) = 0 from h) (by decide)
            · unfold maB
              exact ⟨by rw [ux_ne (by decide), ux_ne (by omega)]; exact b4, by rw [ux_ne (by decide), ux_ne (by omega)]; exact b5, by rw [ux_at rfl]; omega, by rw [ux_ne (by decide), ux_ne (by omega)]; exact b8, by rw [ux_ne (by decide), ux_ne (by omega)]; exact b9⟩
          · have hw2 : wdT f L q = 0 ∨ wdT f L q = 1 := by omega
            rw [(lin_tg hw2).2.1]
            rw [(lin_tg hw2).1] at h
            by_cases g : 10 ≤ B 0 5
            · rw [if_pos g] at h
              exact absurd (show (5 : Int) = 0 from h) (by decide)
            · rw [if_neg g] at h
              have hk := ke_bd hB h
              exact ⟨by rw [tgB_at (by omega) (by decide), keB_ne (by decide)]; exact b4, by rw [tgB_05 b5.1]; omega, by rw [tgB_at (by omega) (by decide), keB_ne (by decide)]; exact b6, by rw [tgB_at (by omega) (by decide)]; omega, by rw [tgB_at (by omega) (by decide), keB_ne (by decide)]; exact b9⟩
theorem lin_wd (h : (linF f L B q).1 = 0) : ¬ wdT f L q = -4 := by
  intro hw
  rw [lin_no hw] at h
  simp only at h
  by_cases g : tK f L q = 4
  · rw [if_pos g] at h; omega
  · rw [if_neg g] at h; omega
theorem linE_rng (h : 0 ≤ q ∧ q ≤ L) : tE f L q ≤ linE f L q ∧ linE f L q ≤ L := by
  have key : ∀ x, x ≤ L → x ≤ tE f L x ∧ tE f L x ≤ L := fun x hx => ⟨tE_ge, tE_le hx⟩
  have k1 := key q h.2
  have k2 := key _ k1.2
  have k3 := key _ k2.2
  have k4 := key _ k3.2
  have k5 := key _ k4.2
  have hs := thS_rng (f := f) (q := tE f L q) (L := L) ⟨by omega, k1.2⟩
  have s1 := key _ hs.2
  have s2 := key _ s1.2
  have s3 := key _ s2.2
  unfold linE
  split
  · omega
  · split <;> omega
theorem lin_adv (h : 0 ≤ q ∧ q ≤ L) (hz : (linF f L B q).1 = 0) : q + 1 ≤ linE f L q ∧ linE f L q ≤ L := by
  have h1 := wdT_1 (lin_wd hz)
  have h2 := tok_adv (f := f) (L := L) (p := q) (by omega) (by omega)
  have h3 : q ≤ tS f L q := tS_ge
  have h4 := linE_rng (f := f) h
  omega
/-- a village to be told: nothing yet -/
def strtB (B : VT) : VT := upd2 (upd2 (upd2 (upd2 (fillF (upd2 (upd2 (upd2 B 0 4 0) 0 5 0) 0 6 0) 3 0 80) 23 6 2) 23 7 0) 23 8 0) 23 9 0
theorem strt_bd : BdB (strtB B) := by
  have e : ∀ j, ¬ j = 6 → fillF (upd2 (upd2 (upd2 B 0 4 0) 0 5 0) 0 6 0) 3 0 80 0 j = (upd2 (upd2 B 0 4 0) 0 5 0) 0 j := fun j hj => by
    rw [show fillF (upd2 (upd2 (upd2 B 0 4 0) 0 5 0) 0 6 0) 3 0 80 0 j = _ from congrFun (fillF_row (by decide)) j, ux_ne (Or.inr hj)]
  refine ⟨?_, ?_, ?_, ?_, ?_⟩
  · unfold strtB
    rw [ux_ne (by decide), ux_ne (by decide), ux_ne (by decide), ux_ne (by decide), e 4 (by decide), ux_ne (by decide), ux_at rfl]
    omega
  · unfold strtB
    rw [ux_ne (by decide), ux_ne (by decide), ux_ne (by decide), ux_ne (by decide), e 5 (by decide), ux_at rfl]
    omega
  · unfold strtB
    rw [ux_ne (by decide), ux_ne (by decide), ux_ne (by decide), ux_ne (by decide), congrFun (fillF_row (by decide)) 6, ux_at rfl]
    omega
  · unfold strtB
    rw [ux_ne (by decide), ux_at rfl]
    omega
  · unfold strtB
    rw [ux_at rfl]
    omega
theorem sh_fill (h : 0 ≤ r ∧ r ≤ 22) {R : Int} (hR : R = 27 + r) : shV (fillF v R x n) = fillF (shV v) r x n := by
  subst hR
  funext a j
  unfold shV fillF
  by_cases e : a = r ∧ 0 ≤ j ∧ j < n
  · rw [if_pos (by omega), if_pos (by omega), if_pos e]
  · rw [if_neg e]
    show _ = (if (0 ≤ a ∧ a ≤ 22) ∨ (a = 23 ∧ 6 ≤ j ∧ j ≤ 9) then v (27 + a) j else 0)
    by_cases g : (0 ≤ a ∧ a ≤ 22) ∨ (a = 23 ∧ 6 ≤ j ∧ j ≤ 9)
    · rw [if_pos g, if_pos g, if_neg (by omega)]
    · rw [if_neg g, if_neg g]
theorem sh_strt : shV (upd2 (upd2 (upd2 (upd2 (upd2 (upd2 (upd2 (fillF (upd2 (upd2 (upd2 v 27 4 0) 27 5 0) 27 6 0) (27 + 3) 0 80) 50 2 0) 50 6 2) 50 7 0) 50 8 0) 50 9 0) 50 10 0) 50 11 0) = strtB (shV v) := by
  rw [sh_o50 (by decide), sh_o50 (by decide), sh_u50 (by decide), sh_u50 (by decide), sh_u50 (by decide), sh_u50 (by decide), sh_o50 (by decide), sh_fill (r := 3) (by decide) (by decide), sh_up (r := 0) (by decide) (by decide), sh_up (r := 0) (by decide) (by decide), sh_up (r := 0) (by decide) (by decide)]
  rfl
theorem par_s (h : 0 ≤ n ∧ n ≤ 400) : (401 - n).toNat = (401 - (n + 1)).toNat + 1 := by omega
theorem par_0 {k : Nat} (h : tK f L q = 0) : parN f L (k + 1) q B n = ((if B 0 4 < B 23 8 ∨ B 0 5 < B 23 9 then 6 else 0, tS f L q), n, B) := by
  rw [parN, if_pos h]
theorem par_1 {k : Nat} (h : ¬ tK f L q = 0) (h2 : (linF f L B q).1 = 0) : parN f L (k + 1) q B n = parN f L k (linE f L q) (linB f L B q) (n + 1) := by
  rw [parN, if_neg h, if_pos h2]
theorem par_2 {k : Nat} (h : ¬ tK f L q = 0) (h2 : ¬ (linF f L B q).1 = 0) : parN f L (k + 1) q B n = (linF f L B q, n, B) := by
  rw [parN, if_neg h, if_neg h2]
end LIN2
