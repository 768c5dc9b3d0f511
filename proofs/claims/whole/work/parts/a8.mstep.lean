-- the Model's lines: steps
def Hid (P : Prop) : Prop := P
section MSTP
variable {f : Int → Int} {L r i x y p q lo hi c g k s t kd : Int} {v w u z X B : VT} {F H K : Int × Int}
theorem tj_s (hM : MSt f L v (0, 0) q) (h14 : v 119 14 = 0) (hk : kd = kdT f L q) (hg : (g = 1 ∧ ¬ kd = -4) ∨ (g = 0 ∧ kd = -4)) (hn : NedQ v g 2 w) (hu : NxtM f L w u) : MSt f L u (kP f L q) (tE f L q) := by
  obtain ⟨-, k4, k12, k11, k10⟩ := hM.w14 h14
  obtain ⟨hF, hd⟩ := hn
  have e10 := hF 119 10 (by decide)
  have h := hM.step (H := kP f L q) (fun _ => e10.trans k10) (by
    by_cases g1 : kdT f L q = -4
    · rw [kP_n g1, if_neg k4]
      exact Or.inr (Or.inl ⟨rfl, by show (0 : Int) < 2; decide, by show w 119 14 = 2; omega, by show w 119 15 = tS f L q; omega⟩)
    · exact Or.inr (Or.inr ⟨rfl, kP_0 g1, by omega⟩)) hu
  rw [orF_00] at h
  exact h
theorem tj_a (hF : FrL v z) (hT : TapM f L z) (hM : MSt f L z (kP f L q) (tE f L q)) (hK : FrM X z) (e41 : z 122 41 = v 122 41) (hk : kd = kdT f L q) (h : ¬ kd = 4) : FrL v z ∧ TapM f L z ∧ MSt f L z (t0G f L q) (thS f L q) ∧ ((t0G f L q).1 = 0 → -4 = heirT f L q ∧ FrM (keD f L X q) z) ∧ z 122 41 = v 122 41 := by
  rw [hk] at h
  refine ⟨hF, hT, ?_, fun _ => ?_, e41⟩
  · unfold t0G thS
    rw [if_neg h, if_neg h]
    by_cases g : (kP f L q).1 = 0
    · exact hM.z g (by rw [orF_0 g])
    · rw [orF_n g]
      exact hM
  · unfold heirT keD
    rw [if_neg h, if_neg h]
    exact ⟨rfl, hK⟩
theorem tj_b (hF : FrL v z) (hT : TapM f L z) (hK : FrM X z) (e41 : z 122 41 = v 122 41) (hk : kd = kdT f L q) (h : kd = 4) (hp : FrM (upd2 z 119 6 (cmz (z 119 6) t)) w ∧ MSt f L w (orF (kP f L q) (nP f L (tE f L q) 0 7)) (tE f L (tE f L q)) ∧ (((orF (kP f L q) (nP f L (tE f L q) 0 7)).1 = 0 ∧ t = tV f L (tE f L q) ∧ 0 ≤ t ∧ t ≤ 7 ∧ tK f L (tE f L q) = 2) ∨ (¬ (orF (kP f L q) (nP f L (tE f L q) 0 7)).1 = 0 ∧ t = 0))) : FrL v w ∧ TapM f L w ∧ MSt f L w (t0G f L q) (thS f L q) ∧ ((t0G f L q).1 = 0 → t = heirT f L q ∧ FrM (keD f L X q) w) ∧ w 122 41 = v 122 41 := by
  rw [hk] at h
  obtain ⟨h1, h2, h3⟩ := hp
  have hL : FrL z w := (FrL.up FrL.rf (Or.inr (by decide))).tr h1.toL
  have e41w : w 122 41 = z 122 41 := (h1 122 41 (Or.inl (by decide))).trans (ux_ne (by decide))
  refine ⟨hF.tr hL, hT.fl hL, ?_, fun g => ?_, e41w.trans e41⟩
  · unfold t0G thS
    rw [if_pos h, if_pos h]
    exact h2
  · unfold t0G at g
    rw [if_pos h] at g
    unfold heirT keD
    rw [if_pos h, if_pos h]
    have ht : t = tV f L (tE f L q) := by omega
    refine ⟨ht, (FrM.put hK ?_).tr h1⟩
    rw [ht, hK 119 6 (by decide)]
/-- from where no token stands nothing is read -/
theorem nP_4 (h : tK f L q = 4) : nP f L q lo hi = (1, tS f L q) := by
  unfold nP
  rw [if_neg (by omega), if_pos h]
theorem kdT_4 (h : tK f L q = 4) : kdT f L q = -4 := by
  unfold kdT
  rw [if_neg (by omega)]
theorem lnG_4 (h : tK f L q = 4) : lnG f L k q = (1, tS f L q) := by
  have h1 : ∀ H : Int × Int, orF ((1 : Int), tS f L q) H = (1, tS f L q) := fun H => orF_n (by show ¬ (1 : Int) = 0; decide)
  unfold lnG
  split
  · rw [orF_00, nP_4 h]
  · split
    · unfold chG
      rw [orF_00, nP_4 h, h1, h1]
    · split
      · unfold liG
        rw [orF_00, nP_4 h, h1, h1]
      · split
        · rw [orF_00, nP_4 h]
        · unfold tgG t0G
          rw [kP_n (kdT_4 h), if_pos h, h1, h1, h1]
theorem lnP_rng (h : 0 ≤ q ∧ q ≤ L) : q ≤ lnP f L k q ∧ lnP f L k q ≤ L := by
  have key : ∀ x, x ≤ L → x ≤ tE f L x ∧ tE f L x ≤ L := fun x hx => ⟨tE_ge, tE_le hx⟩
  have k1 := key q h.2
  have k2 := key _ k1.2
  have k3 := key _ k2.2
  have hs := thS_rng (f := f) h
  have s1 := key _ hs.2
  have s2 := key _ s1.2
  unfold lnP
  split
  · omega
  · split <;> omega
/-- a line: its name, what is told, the sign at its end -/
theorem lin_is (hz : (hdP f L B q (wdT f L q)).1 = 0) : linF f L B q = orF (lnG f L (wdT f L q) (tE f L q)) (sP f L (lnP f L (wdT f L q) (tE f L q))) ∧ linE f L q = tE f L (lnP f L (wdT f L q) (tE f L q)) := by
  unfold linF linE lnG lnP
  rw [orF_0 hz]
  by_cases h2 : wdT f L q = 2
  · rw [if_pos h2, if_pos h2, if_pos (Or.inl h2), if_pos (Or.inl h2), orF_00]
    exact ⟨rfl, rfl⟩
  · rw [if_neg h2, if_neg h2]
    by_cases h3 : wdT f L q = 3
    · rw [if_pos h3, if_pos h3, if_neg (by omega), if_pos (Or.inl h3), if_neg (by omega), if_pos (Or.inl h3)]
      unfold chG
      rw [orF_00]
      exact ⟨rfl, rfl⟩
    · rw [if_neg h3, if_neg h3]
      by_cases h4 : wdT f L q = 4
      · rw [if_pos h4, if_pos h4, if_neg (by omega), if_pos (Or.inr h4), if_neg (by omega), if_pos (Or.inr h4)]
        unfold liG
        rw [orF_00]
        exact ⟨rfl, rfl⟩
      · rw [if_neg h4, if_neg h4]
        by_cases h5 : wdT f L q = 5
        · rw [if_pos h5, if_pos h5, if_pos (Or.inr h5), if_pos (Or.inr h5), orF_00]
          exact ⟨rfl, rfl⟩
        · rw [if_neg h5, if_neg h5, if_neg (by omega), if_neg (by omega), if_neg (by omega), if_neg (by omega)]
          unfold tgF tgG thF t0G
          rw [orF_as, orF_as, orF_as, orF_as, orF_as]
          exact ⟨rfl, rfl⟩
theorem lin_hd (hz : ¬ (hdP f L B q (wdT f L q)).1 = 0) : linF f L B q = hdP f L B q (wdT f L q) := by
  unfold linF
  exact orF_n hz
theorem hdP_c (k4 : ¬ tK f L q = 4) : (k = -4 ∧ (hdP f L B q k).1 = 2) ∨ (¬ k = -4 ∧ ((k = 3 ∧ 8 ≤ B 0 4) ∨ ((k = 0 ∨ k = 1) ∧ 10 ≤ B 0 5) ∨ (k = 5 ∧ 6 ≤ B 0 6)) ∧ (hdP f L B q k).1 = 5) ∨ (¬ k = -4 ∧ ¬ ((k = 3 ∧ 8 ≤ B 0 4) ∨ ((k = 0 ∨ k = 1) ∧ 10 ≤ B 0 5) ∨ (k = 5 ∧ 6 ≤ B 0 6)) ∧ (k = 2 ∧ ¬ B 23 7 = 0) ∧ (hdP f L B q k).1 = 4) ∨ (¬ k = -4 ∧ ¬ ((k = 3 ∧ 8 ≤ B 0 4) ∨ ((k = 0 ∨ k = 1) ∧ 10 ≤ B 0 5) ∨ (k = 5 ∧ 6 ≤ B 0 6)) ∧ ¬ (k = 2 ∧ ¬ B 23 7 = 0) ∧ (hdP f L B q k).1 = 0) := by
  unfold hdP
  simp only
  by_cases h1 : k = -4
  · rw [if_pos h1, if_neg k4]
    exact Or.inl ⟨h1, rfl⟩
  · rw [if_neg h1]
    by_cases h2 : (k = 3 ∧ 8 ≤ B 0 4) ∨ ((k = 0 ∨ k = 1) ∧ 10 ≤ B 0 5) ∨ (k = 5 ∧ 6 ≤ B 0 6)
    · rw [if_pos h2]
      exact Or.inr (Or.inl ⟨h1, h2, rfl⟩)
    · rw [if_neg h2]
      by_cases h3 : k = 2 ∧ ¬ B 23 7 = 0
      · rw [if_pos h3]
        exact Or.inr (Or.inr (Or.inl ⟨h1, h2, h3, rfl⟩))
      · rw [if_neg h3]
        exact Or.inr (Or.inr (Or.inr ⟨h1, h2, h3, rfl⟩))
/-- the head of a line was looked at -/
theorem hd_step (hM : MSt f L v (0, 0) q) (h14 : v 119 14 = 0) (e10 : w 119 10 = v 119 10) (hd : (¬ (hdP f L B q k).1 = 0 ∧ w 119 14 = (hdP f L B q k).1 ∧ w 119 15 = tS f L q) ∨ ((hdP f L B q k).1 = 0 ∧ w 119 14 = 0)) (hu : NxtM f L w u) : MSt f L u (hdP f L B q k) (tE f L q) := by
  obtain ⟨-, k4, k12, k11, k10⟩ := hM.w14 h14
  have hc := hdP_c (k := k) (B := B) k4
  have h := hM.step (H := hdP f L B q k) (fun _ => e10.trans k10) (by
    rcases hd with ⟨a, b, c⟩ | ⟨a, b⟩
    · exact Or.inr (Or.inl ⟨rfl, by omega, b, c⟩)
    · exact Or.inr (Or.inr ⟨rfl, a, b⟩)) hu
  rw [orF_00] at h
  exact h
/-- the end of a line was looked at -/
theorem sp_step (hM : MSt f L v F q) (e10 : w 119 10 = v 119 10) (hd : (¬ v 119 14 = 0 ∧ w 119 14 = v 119 14 ∧ w 119 15 = v 119 15) ∨ (v 119 14 = 0 ∧ v 119 12 = 3 ∧ w 119 14 = 0) ∨ (v 119 14 = 0 ∧ ¬ v 119 12 = 3 ∧ w 119 14 = 2 ∧ w 119 15 = v 119 11)) (hu : NxtM f L w u) : MSt f L u (orF F (sP f L q)) (tE f L q) := by
  have hc := sP_c (f := f) (L := L) (q := q)
  have h2 : (sP f L q).2 = tS f L q := rfl
  by_cases g : v 119 14 = 0
  · obtain ⟨a, k4, k12, k11, k10⟩ := hM.w14 g
    refine hM.step (fun _ => e10.trans k10) ?_ hu
    by_cases g3 : v 119 12 = 3
    · exact Or.inr (Or.inr ⟨a, by omega, by omega⟩)
    · exact Or.inr (Or.inl ⟨a, by omega, by omega, by omega⟩)
  · have hw := hM.w1 g
    refine hM.step (fun z => by omega) ?_ hu
    rcases hw with ⟨a, b, d⟩ | ⟨a, b, d, e⟩
    · exact Or.inl ⟨a, by omega, by omega⟩
    · exact Or.inr (Or.inl ⟨a, by omega, by omega, by omega⟩)
theorem lnG_n (h : (lnG f L k q).1 = 0) : (k = 4 → (0 ≤ tV f L q ∧ tV f L q ≤ 7) ∧ (0 ≤ tV f L (tE f L q) ∧ tV f L (tE f L q) ≤ 9)) ∧ (¬ k = 2 → ¬ k = 3 → ¬ k = 4 → ¬ k = 5 → kdT f L q = 4 → 0 ≤ tV f L (tE f L q)) := by
  refine ⟨fun e => ?_, fun e2 e3 e4 e5 ek => ?_⟩
  · unfold lnG at h
    rw [if_neg (by omega), if_neg (by omega), if_pos e] at h
    unfold liG at h
    have h2 := (orF_z h).1
    have h1 := orF_z h2
    rw [orF_00] at h1
    exact ⟨(nP_z h1.1).2, (nP_z h1.2).2⟩
  · unfold lnG at h
    rw [if_neg e2, if_neg e3, if_neg e4, if_neg e5] at h
    unfold tgG t0G at h
    have h2 := (orF_z (orF_z (orF_z h).1).1).2
    rw [if_pos ek] at h2
    exact (nP_z h2).2.1
/-- what a line makes of the draft tells what it makes of the village -/
theorem dr_ln (h : MDr v (if k = 2 then upd2 B 23 7 1 else B)) (hB : BdB B) (hk : k = wdT f L q) (h0 : 0 ≤ k ∧ k ≤ 5) (hc : ¬ ((k = 3 ∧ 8 ≤ B 0 4) ∨ ((k = 0 ∨ k = 1) ∧ 10 ≤ B 0 5) ∨ (k = 5 ∧ 6 ≤ B 0 6))) (hz : (lnG f L k (tE f L q)).1 = 0) : MDr (lnD f L k v (tE f L q)) (linB f L B q) := by
  obtain ⟨z4, zt⟩ := lnG_n hz
  unfold lnD linB
  rw [← hk]
  by_cases h2 : k = 2
  · rw [if_pos h2] at h ⊢
    rw [if_pos h2]
    exact dr_sl h hB
  · rw [if_neg h2] at h ⊢
    rw [if_neg h2]
    by_cases h3 : k = 3
    · rw [if_pos h3, if_pos h3]
      exact dr_ch h hB (by omega)
    · rw [if_neg h3, if_neg h3]
      by_cases h4 : k = 4
      · rw [if_pos h4, if_pos h4]
        exact dr_li h hB (z4 h4).1 (z4 h4).2
      · rw [if_neg h4, if_neg h4]
        by_cases h5 : k = 5
        · rw [if_pos h5, if_pos h5]
          exact dr_ma h hB (by omega)
        · rw [if_neg h5, if_neg h5]
          exact dr_tg h hB (by omega) (zt h2 h3 h4 h5)
/-- a line that is slack's was told of -/
theorem MDr.sl (h : MDr v B) (hw : FrM v w) {z : Int} (hz : (z = 1 ∧ (¬ B 23 7 = 0 ∨ k = 2)) ∨ (z = 0 ∧ B 23 7 = 0 ∧ ¬ k = 2)) : MDr (upd2 w 119 5 z) (if k = 2 then upd2 B 23 7 1 else B) := by
  obtain ⟨d, h2, h3, h4, h5, h6⟩ := h.fm hw
  have e : ∀ j, upd2 w 119 5 z 122 j = w 122 j := fun j => ux_ne (by omega)
  by_cases g : k = 2
  · rw [if_pos g]
    obtain ⟨d1, d2, d3, d4, d5, d6, d7, d8⟩ := d
    have eB : ∀ a j, ¬ (a = 23 ∧ j = 7) → upd2 B 23 7 1 a j = B a j := fun a j q => ux_ne (by omega)
    refine ⟨⟨?_, ?_, ?_, fun c k a b a2 b2 => ?_, fun c k a b a2 b2 => ?_, fun c k a b a2 b2 => ?_, fun k a b => ?_, fun j a b => ?_⟩, ?_, ?_, ?_, ?_, ?_⟩
    · rw [e, eB 0 4 (by decide)]; exact d1
    · rw [e, eB 0 5 (by decide)]; exact d2
    · rw [e, eB 0 6 (by decide)]; exact d3
    · rw [eB 0 4 (by decide)] at b; rw [e, eB _ _ (by omega)]; exact d4 c k a b a2 b2
    · rw [eB 0 4 (by decide)] at b; rw [e]; exact d5 c k a b a2 b2
    · rw [eB 0 5 (by decide)] at b; rw [e, eB _ _ (by omega)]; exact d6 c k a b a2 b2
    · rw [eB 0 6 (by decide)] at b; rw [e, eB _ _ (by omega)]; exact d7 k a b
    · rw [e, eB _ _ (by omega)]; exact d8 j a b
    · rw [ux_ne (by decide), eB _ _ (by decide)]; exact h2
    · rw [ux_at rfl, ux_at rfl]; omega
    · rw [ux_at rfl]; exact Or.inr rfl
    · rw [ux_ne (by decide), eB _ _ (by decide)]; exact h5
    · rw [ux_ne (by decide), eB _ _ (by decide)]; exact h6
  · rw [if_neg g]
    exact ⟨d.of (fun j => (e j).symm), (ux_ne (by decide)).trans h2, by rw [ux_at rfl]; omega, h4, by rw [ux_ne (by decide)]; exact h5, by rw [ux_ne (by decide)]; exact h6⟩
theorem lnG_2 : lnG f L 2 q = orF (0, 0) (nP f L q 0 4) := by
  unfold lnG
  exact if_pos rfl
theorem lnG_3 : lnG f L 3 q = chG f L (0, 0) q := by
  unfold lnG
  rw [if_neg (by decide), if_pos rfl]
theorem lnG_l : lnG f L 4 q = liG f L (0, 0) q := by
  unfold lnG
  rw [if_neg (by decide), if_neg (by decide), if_pos rfl]
theorem lnG_5 : lnG f L 5 q = orF (0, 0) (nP f L q 1 40) := by
  unfold lnG
  rw [if_neg (by decide), if_neg (by decide), if_neg (by decide), if_pos rfl]
theorem lnG_t (h : k = 0 ∨ k = 1) : lnG f L k q = tgG f L q := by
  unfold lnG
  rw [if_neg (by omega), if_neg (by omega), if_neg (by omega), if_neg (by omega)]
theorem lnP_2 : lnP f L 2 q = tE f L q := by
  unfold lnP
  exact if_pos (Or.inl rfl)
theorem lnP_5 : lnP f L 5 q = tE f L q := by
  unfold lnP
  exact if_pos (Or.inr rfl)
theorem lnP_3 : lnP f L 3 q = tE f L (tE f L (tE f L q)) := by
  unfold lnP
  rw [if_neg (by decide), if_pos (Or.inl rfl)]
theorem lnP_l : lnP f L 4 q = tE f L (tE f L (tE f L q)) := by
  unfold lnP
  rw [if_neg (by decide), if_pos (Or.inr rfl)]
theorem lnP_t (h : k = 0 ∨ k = 1) : lnP f L k q = tE f L (tE f L (thS f L q)) := by
  unfold lnP
  rw [if_neg (by omega), if_neg (by omega)]
theorem lnD_2 : lnD f L 2 v q = slD f L v q := by
  unfold lnD
  exact if_pos rfl
theorem lnD_3 : lnD f L 3 v q = chD f L v q := by
  unfold lnD
  rw [if_neg (by decide), if_pos rfl]
theorem lnD_l : lnD f L 4 v q = liD f L v q := by
  unfold lnD
  rw [if_neg (by decide), if_neg (by decide), if_pos rfl]
theorem lnD_5 : lnD f L 5 v q = maD f L v q := by
  unfold lnD
  rw [if_neg (by decide), if_neg (by decide), if_neg (by decide), if_pos rfl]
theorem lnD_t (h : k = 0 ∨ k = 1) : lnD f L k v q = tgD f L v k q := by
  unfold lnD
  rw [if_neg (by omega), if_neg (by omega), if_neg (by omega), if_neg (by omega)]
theorem hdP_0 (k4 : ¬ tK f L q = 4) (hz : (hdP f L B q k).1 = 0) : ¬ k = -4 ∧ ¬ ((k = 3 ∧ 8 ≤ B 0 4) ∨ ((k = 0 ∨ k = 1) ∧ 10 ≤ B 0 5) ∨ (k = 5 ∧ 6 ≤ B 0 6)) := by
  rcases hdP_c (k := k) (B := B) k4 with ⟨a, b⟩ | ⟨a, b, c⟩ | ⟨a, b, c, d⟩ | ⟨a, b, c, d⟩
  · omega
  · omega
  · exact ⟨a, b⟩
  · exact ⟨a, b⟩
theorem hdP_nn (k4 : ¬ tK f L q = 4) : 0 ≤ (hdP f L B q k).1 := by
  rcases hdP_c (k := k) (B := B) k4 with ⟨a, b⟩ | ⟨a, b, c⟩ | ⟨a, b, c, d⟩ | ⟨a, b, c, d⟩ <;> omega
theorem cnd_3 (h : Hid (¬ ((k = 3 ∧ 8 ≤ B 0 4) ∨ ((k = 0 ∨ k = 1) ∧ 10 ≤ B 0 5) ∨ (k = 5 ∧ 6 ≤ B 0 6)))) : (k = 3 → B 0 4 < 8) ∧ (k = 0 ∨ k = 1 → B 0 5 < 10) ∧ (k = 5 → B 0 6 < 6) := by
  have h' : ¬ ((k = 3 ∧ 8 ≤ B 0 4) ∨ ((k = 0 ∨ k = 1) ∧ 10 ≤ B 0 5) ∨ (k = 5 ∧ 6 ≤ B 0 6)) := h
  refine ⟨fun e => ?_, fun e => ?_, fun e => ?_⟩ <;> omega
theorem need3 {g2 g3 E T : Int} {P Q : Prop} {w2 w3 : VT} (hn1 : NedQ v g 2 w) (hn2 : NedQ w g2 5 w2) (hn3 : NedQ w2 g3 4 w3) (h14 : v 119 14 = 0) (k11 : v 119 11 = T) (j1 : (g = 1 ∧ ¬ k = -4) ∨ (g = 0 ∧ k = -4)) (j2 : (g2 = 1 ∧ ¬ P) ∨ (g2 = 0 ∧ P)) (j3 : (g3 = 1 ∧ ¬ Q) ∨ (g3 = 0 ∧ Q)) (hc : (k = -4 ∧ E = 2) ∨ (¬ k = -4 ∧ P ∧ E = 5) ∨ (¬ k = -4 ∧ ¬ P ∧ Q ∧ E = 4) ∨ (¬ k = -4 ∧ ¬ P ∧ ¬ Q ∧ E = 0)) : (¬ E = 0 ∧ w3 119 14 = E ∧ w3 119 15 = T) ∨ (E = 0 ∧ w3 119 14 = 0) := by
  obtain ⟨f1, n1⟩ := hn1
  obtain ⟨f2, n2⟩ := hn2
  obtain ⟨f3, n3⟩ := hn3
  have a1 := f1 119 11 (by decide)
  have a2 := f2 119 11 (by decide)
  rcases hc with ⟨c1, c2⟩ | ⟨c1, c2, c3⟩ | ⟨c1, c2, c3, c4⟩ | ⟨c1, c2, c3, c4⟩
  · omega
  · have j2 : g2 = 0 := by
      rcases j2 with z | z
      · exact absurd c2 z.2
      · exact z.1
    omega
  · have j2 : g2 = 1 := by
      rcases j2 with z | z
      · exact z.1
      · exact absurd z.2 c2
    have j3 : g3 = 0 := by
      rcases j3 with z | z
      · exact absurd c3 z.2
      · exact z.1
    omega
  · have j2 : g2 = 1 := by
      rcases j2 with z | z
      · exact z.1
      · exact absurd z.2 c2
    have j3 : g3 = 1 := by
      rcases j3 with z | z
      · exact z.1
      · exact absurd z.2 c3
    omega
theorem ln_early (hM : MSt f L w (hdP f L B q k) (tE f L q)) (hk : k = wdT f L q) (h : ¬ w 119 14 = 0) : 0 < (linF f L B q).1 ∧ w 119 14 = (linF f L B q).1 ∧ w 119 15 = (linF f L B q).2 := by
  subst hk
  rcases hM.w1 h with ⟨a, b, c⟩ | ⟨a, b, c, d⟩
  · rw [lin_hd (by omega)]
    exact ⟨a, b, c⟩
  · rw [(lin_is a).1, lnG_4 b, orF_n (by show ¬ (1 : Int) = 0; decide)]
    exact ⟨by show (0 : Int) < 1; decide, c, d⟩
theorem ln_end (hM : MSt f L u (orF (lnG f L k (tE f L q)) (sP f L (lnP f L k (tE f L q)))) (tE f L (lnP f L k (tE f L q)))) (hk : k = wdT f L q) (hz : (hdP f L B q k).1 = 0) (hD : (lnG f L k (tE f L q)).1 = 0 → MDr u (linB f L B q)) : (0 < (linF f L B q).1 ∧ u 119 14 = (linF f L B q).1 ∧ u 119 15 = (linF f L B q).2) ∨ ((linF f L B q).1 = 0 ∧ MSt f L u (0, 0) (linE f L q) ∧ MDr u (linB f L B q)) := by
  subst hk
  have e := (lin_is hz).1
  rw [← (lin_is hz).1, ← (lin_is hz).2] at hM
  rcases hM.2 with g | ⟨a, b⟩
  · exact Or.inl g
  · refine Or.inr ⟨a, hM.z a rfl, hD ?_⟩
    rw [e] at a
    exact (orF_z a).1
end MSTP
