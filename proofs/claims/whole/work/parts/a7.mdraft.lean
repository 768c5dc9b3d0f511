-- the Model's draft of a village
def FrL (v w : VT) : Prop := ∀ a j, ¬ a = 122 → (¬ a = 119 ∨ j < 4 ∨ (7 < j ∧ j < 10) ∨ 15 < j) → w a j = v a j
def cmz (x y : Int) : Int := if x < y then y else x
def cmM (x y : Int) : Prop := (x = -4 ∧ y = 0) ∨ (0 ≤ x ∧ y = x + 1)
def DrR (st : Int → Int) (B : VT) : Prop := st 0 = B 0 4 ∧ st 41 = B 0 5 ∧ st 112 = B 0 6 ∧ (∀ c k, 0 ≤ c → c < B 0 4 → 0 ≤ k → k < 3 → st (1 + 5 * c + k) = B (5 + c) k) ∧ (∀ c s, 0 ≤ c → c < B 0 4 → 0 ≤ s → s < 2 → st (1 + 5 * c + 3 + s) = -4) ∧ (∀ t k, 0 ≤ t → t < B 0 5 → 0 ≤ k → k < 7 → st (42 + 7 * t + k) = B (13 + t) k) ∧ (∀ k, 0 ≤ k → k < B 0 6 → st (113 + k) = B 4 k) ∧ (∀ j, 0 ≤ j → j < 80 → st (119 + j) = B 3 j)
def MDr (v B : VT) : Prop := DrR (v 122) B ∧ v 119 4 = B 23 6 ∧ v 119 5 = B 23 7 ∧ (B 23 7 = 0 ∨ B 23 7 = 1) ∧ cmM (v 119 6) (B 23 8) ∧ cmM (v 119 7) (B 23 9)
/-- what a line makes of the draft -/
def chD (f : Int → Int) (L : Int) (v : VT) (q : Int) : VT := upd2 (upd2 (upd2 (upd2 (upd2 (upd2 v 122 (1 + 5 * v 122 0) (tV f L q)) 122 (1 + 5 * v 122 0 + 1) (tV f L (tE f L q))) 122 (1 + 5 * v 122 0 + 2) (tV f L (tE f L (tE f L q)))) 122 (1 + 5 * v 122 0 + 3) (-4)) 122 (1 + 5 * v 122 0 + 4) (-4)) 122 0 (v 122 0 + 1)
def liD (f : Int → Int) (L : Int) (v : VT) (q : Int) : VT := upd2 (upd2 (upd2 v 119 6 (cmz (v 119 6) (tV f L q))) 119 7 (cmz (v 119 7) (tV f L (tE f L q)))) 122 (119 + 10 * tV f L q + tV f L (tE f L q)) (tV f L (tE f L (tE f L q)))
def slD (f : Int → Int) (L : Int) (v : VT) (q : Int) : VT := upd2 v 119 4 (tV f L q)
def maD (f : Int → Int) (L : Int) (v : VT) (q : Int) : VT := upd2 (upd2 v 122 (113 + v 122 112) (tV f L q)) 122 112 (v 122 112 + 1)
def keD (f : Int → Int) (L : Int) (v : VT) (q : Int) : VT := if kdT f L q = 4 then upd2 v 119 6 (cmz (v 119 6) (tV f L (tE f L q))) else v
def tgD (f : Int → Int) (L : Int) (v : VT) (s q : Int) : VT := upd2 (upd2 (upd2 (upd2 (upd2 (upd2 (keD f L (upd2 (upd2 v 122 (42 + 7 * v 122 41 + 0) s) 122 (42 + 7 * v 122 41 + 1) (kdT f L q)) q) 122 (42 + 7 * v 122 41 + 6) (heirT f L q)) 122 (42 + 7 * v 122 41 + 2) (tV f L (thS f L q))) 122 (42 + 7 * v 122 41 + 3) (tV f L (tE f L (thS f L q)))) 122 (42 + 7 * v 122 41 + 4) 0) 122 (42 + 7 * v 122 41 + 5) 0) 122 41 (v 122 41 + 1)
def chG (f : Int → Int) (L : Int) (F : Int × Int) (q : Int) : Int × Int := orF (orF (orF F (nP f L q 1 40)) (nP f L (tE f L q) 0 4)) (nP f L (tE f L (tE f L q)) (tV f L (tE f L q)) 4)
def liG (f : Int → Int) (L : Int) (F : Int × Int) (q : Int) : Int × Int := orF (orF (orF F (nP f L q 0 7)) (nP f L (tE f L q) 0 9)) (nP f L (tE f L (tE f L q)) 0 9)
def t0G (f : Int → Int) (L q : Int) : Int × Int := orF (kP f L q) (if kdT f L q = 4 then nP f L (tE f L q) 0 7 else (0, 0))
def tgG (f : Int → Int) (L q : Int) : Int × Int := orF (orF (t0G f L q) (nP f L (thS f L q) 1 40)) (nP f L (tE f L (thS f L q)) 1 9)
def lnG (f : Int → Int) (L k q : Int) : Int × Int := if k = 2 then orF (0, 0) (nP f L q 0 4) else if k = 3 then chG f L (0, 0) q else if k = 4 then liG f L (0, 0) q else if k = 5 then orF (0, 0) (nP f L q 1 40) else tgG f L q
def lnP (f : Int → Int) (L k q : Int) : Int := if k = 2 ∨ k = 5 then tE f L q else if k = 3 ∨ k = 4 then tE f L (tE f L (tE f L q)) else tE f L (tE f L (thS f L q))
def lnD (f : Int → Int) (L k : Int) (v : VT) (q : Int) : VT := if k = 2 then slD f L v q else if k = 3 then chD f L v q else if k = 4 then liD f L v q else if k = 5 then maD f L v q else tgD f L v k q
section MDR
variable {f : Int → Int} {L r i x y p q lo hi c g k s : Int} {v w u B : VT} {F H K : Int × Int} {st : Int → Int}
theorem FrM.put (h : FrM v w) (e : x = y) : FrM (upd2 v r i y) (upd2 w r i x) := fun a j g => by
  subst e
  by_cases z : a = r ∧ j = i
  · rw [z.1, z.2, ux_at rfl, ux_at rfl]
  · rw [ux_ne (by omega), ux_ne (by omega)]
    exact h a j g
theorem FrL.rf : FrL v v := fun _ _ _ _ => rfl
theorem FrL.tr (h : FrL v w) (h2 : FrL w u) : FrL v u := fun a j g1 g2 => (h2 a j g1 g2).trans (h a j g1 g2)
theorem FrM.toL (h : FrM v w) : FrL v w := fun a j g1 g2 => h a j (by omega)
theorem FrL.up (h : FrL v w) (hr : r = 122 ∨ (r = 119 ∧ 4 ≤ i ∧ i ≤ 15 ∧ (i ≤ 7 ∨ 10 ≤ i))) : FrL v (upd2 w r i x) := fun a j g1 g2 => by
  rw [ux_ne (by omega)]
  exact h a j g1 g2
theorem TapM.fl (h : TapM f L v) (hF : FrL v w) : TapM f L w := h.of (hF 119 9 (by decide) (by decide)) (fun j => hF 123 j (by decide) (Or.inl (by decide)))
theorem MSt.up (h : MSt f L v F q) (hr : ¬ r = 119 ∨ i < 10) : MSt f L (upd2 v r i x) F q := h.fr (fun j a b => ux_ne (by omega))
theorem MSt.z (h : MSt f L v F q) (h1 : F.1 = 0) (h2 : H.1 = 0) : MSt f L v H q := by
  refine ⟨h.1, ?_⟩
  rcases h.2 with g | g
  · omega
  · exact Or.inr ⟨h2, g.2⟩
theorem MSt.w14 (h : MSt f L v F q) (h0 : v 119 14 = 0) : F.1 = 0 ∧ ¬ tK f L q = 4 ∧ v 119 12 = tK f L q ∧ v 119 11 = tS f L q ∧ v 119 10 = tE f L q := by
  have h2 := h.2
  unfold LokQ at h2
  omega
/-- where something is wrong, the step before told of it, or what stands there is no token -/
theorem MSt.w1 (h : MSt f L v F q) (h0 : ¬ v 119 14 = 0) : (0 < F.1 ∧ v 119 14 = F.1 ∧ v 119 15 = F.2) ∨ (F.1 = 0 ∧ tK f L q = 4 ∧ v 119 14 = 1 ∧ v 119 15 = tS f L q) := by
  have h2 := h.2
  unfold LokQ at h2
  omega
theorem orF_as : orF (orF F H) K = orF F (orF H K) := by
  by_cases h : F.1 = 0
  · rw [orF_0 h, orF_0 h]
  · rw [orF_n h, orF_n h, orF_n h]
theorem orF_00 : orF ((0 : Int), (0 : Int)) H = H := if_pos rfl
theorem orF_z0 (h : H.1 = 0) (h2 : F.1 = 0) : (orF F H).1 = 0 := by
  rw [orF_0 h2]
  exact h
theorem DrR.of (h : DrR (v 122) B) (e : ∀ j, v 122 j = st j) : DrR st B := by
  have : st = v 122 := funext (fun j => (e j).symm)
  rw [this]
  exact h
theorem MDr.fm (h : MDr v B) (hF : FrM v w) : MDr w B := by
  obtain ⟨h1, h2, h3, h4, h5, h6⟩ := h
  exact ⟨h1.of (fun j => (hF 122 j (Or.inl (by decide))).symm), (hF 119 4 (by decide)).trans h2, (hF 119 5 (by decide)).trans h3, h4, by rw [hF 119 6 (by decide)]; exact h5, by rw [hF 119 7 (by decide)]; exact h6⟩
theorem cmM.mx (h : cmM x y) (hc : 0 ≤ c) : cmM (cmz x c) (cmx y (c + 1)) := by
  unfold cmM cmz cmx at *
  split <;> split <;> omega
/-- slack -/
theorem dr_sl (h : MDr v (upd2 B 23 7 1)) (hB : BdB B) : MDr (slD f L v q) (slB f L B q) := by
  obtain ⟨b4, b5, -⟩ := hB
  obtain ⟨⟨d1, d2, d3, d4, d5, d6, d7, d8⟩, h2, h3, h4, h5, h6⟩ := h
  have e : ∀ a j, ¬ a = 23 → slB f L B q a j = upd2 B 23 7 1 a j := fun a j g => by
    unfold slB
    rw [ux_ne (Or.inl g)]
  have e2 : ∀ j, slD f L v q 122 j = v 122 j := fun j => by
    unfold slD
    rw [ux_ne (by omega)]
  have e3 : ∀ j, ¬ j = 4 → slD f L v q 119 j = v 119 j := fun j g => by
    unfold slD
    rw [ux_ne (by omega)]
  have e4 : ∀ j, ¬ j = 6 → slB f L B q 23 j = upd2 B 23 7 1 23 j := fun j g => by
    unfold slB
    rw [ux_ne (by omega)]
  refine ⟨⟨?_, ?_, ?_, fun c k a b a2 b2 => ?_, fun c k a b a2 b2 => ?_, fun c k a b a2 b2 => ?_, fun k a b => ?_, fun j a b => ?_⟩, ?_, ?_, ?_, ?_, ?_⟩
  · rw [e2, e 0 4 (by decide)]; exact d1
  · rw [e2, e 0 5 (by decide)]; exact d2
  · rw [e2, e 0 6 (by decide)]; exact d3
  · rw [e 0 4 (by decide)] at b; have b' := b; rw [ux_ne (by decide)] at b'; rw [e2, e _ _ (by omega)]; exact d4 c k a b a2 b2
  · rw [e 0 4 (by decide)] at b; rw [e2]; exact d5 c k a b a2 b2
  · rw [e 0 5 (by decide)] at b; have b' := b; rw [ux_ne (by decide)] at b'; rw [e2, e _ _ (by omega)]; exact d6 c k a b a2 b2
  · rw [e 0 6 (by decide)] at b; rw [e2, e _ _ (by omega)]; exact d7 k a b
  · rw [e2, e _ _ (by omega)]; exact d8 j a b
  · unfold slD slB
    rw [ux_at rfl, ux_at rfl]
  · rw [e3 5 (by decide), e4 7 (by decide)]; exact h3
  · rw [e4 7 (by decide)]; exact h4
  · rw [e3 6 (by decide), e4 8 (by decide)]; exact h5
  · rw [e3 7 (by decide), e4 9 (by decide)]; exact h6
theorem dr_ch (h : MDr v B) (hB : BdB B) (hc : B 0 4 < 8) : MDr (chD f L v q) (chB f L B q) := by
  obtain ⟨⟨d1, d2, d3, d4, d5, d6, d7, d8⟩, h2, h3, h4, h5, h6⟩ := h
  obtain ⟨b4, b5, b6, -⟩ := hB
  have e : ∀ a j, ¬ a = 5 + B 0 4 → ¬ (a = 0 ∧ j = 4) → chB f L B q a j = B a j := fun a j g1 g2 => by
    unfold chB
    rw [ux_ne (by omega), ux_ne (by omega), ux_ne (by omega), ux_ne (by omega)]
  have e4 : chB f L B q 0 4 = B 0 4 + 1 := by
    unfold chB
    rw [ux_at rfl]
  have e2 : ∀ a j, ¬ (a = 122 ∧ (j = 0 ∨ (1 + 5 * B 0 4 ≤ j ∧ j ≤ 5 + 5 * B 0 4))) → chD f L v q a j = v a j := fun a j g => by
    unfold chD
    rw [d1, ux_ne (by omega), ux_ne (by omega), ux_ne (by omega), ux_ne (by omega), ux_ne (by omega), ux_ne (by omega)]
  refine ⟨⟨?_, ?_, ?_, fun c k a b a2 b2 => ?_, fun c k a b a2 b2 => ?_, fun c k a b a2 b2 => ?_, fun k a b => ?_, fun j a b => ?_⟩, ?_, ?_, ?_, ?_, ?_⟩
  · rw [e4]
    unfold chD
    rw [ux_at rfl, d1]
  · rw [e2 _ _ (by omega), e 0 5 (by omega) (by decide)]; exact d2
  · rw [e2 _ _ (by omega), e 0 6 (by omega) (by decide)]; exact d3
  · rw [e4] at b
    by_cases z : c = B 0 4
    · subst z
      unfold chD chB
      rw [d1]
      rcases (show k = 0 ∨ k = 1 ∨ k = 2 by omega) with rfl | rfl | rfl
      · rw [ux_ne (by omega), ux_ne (by omega), ux_ne (by omega), ux_ne (by omega), ux_ne (by omega), ux_at (by omega), ux_ne (by omega), ux_ne (by omega), ux_ne (by omega), ux_at rfl]
      · rw [ux_ne (by omega), ux_ne (by omega), ux_ne (by omega), ux_ne (by omega), ux_at rfl, ux_ne (by omega), ux_ne (by omega), ux_at rfl]
      · rw [ux_ne (by omega), ux_ne (by omega), ux_ne (by omega), ux_at rfl, ux_ne (by omega), ux_at rfl]
    · rw [e2 _ _ (by omega), e _ _ (by omega) (by omega)]; exact d4 c k a (by omega) a2 b2
  · rw [e4] at b
    by_cases z : c = B 0 4
    · subst z
      unfold chD
      rw [d1]
      rcases (show k = 0 ∨ k = 1 by omega) with rfl | rfl
      · rw [ux_ne (by omega), ux_ne (by omega), ux_at (by omega)]
      · rw [ux_ne (by omega), ux_at (by omega)]
    · rw [e2 _ _ (by omega)]; exact d5 c k a (by omega) a2 b2
  · rw [e 0 5 (by omega) (by decide)] at b; rw [e2 _ _ (by omega), e _ _ (by omega) (by omega)]; exact d6 c k a b a2 b2
  · rw [e 0 6 (by omega) (by decide)] at b; rw [e2 _ _ (by omega), e _ _ (by omega) (by omega)]; exact d7 k a b
  · rw [e2 _ _ (by omega), e _ _ (by omega) (by omega)]; exact d8 j a b
  · rw [e2 _ _ (by omega), e _ _ (by omega) (by omega)]; exact h2
  · rw [e2 _ _ (by omega), e _ _ (by omega) (by omega)]; exact h3
  · rw [e _ _ (by omega) (by omega)]; exact h4
  · rw [e2 _ _ (by omega), e _ _ (by omega) (by omega)]; exact h5
  · rw [e2 _ _ (by omega), e _ _ (by omega) (by omega)]; exact h6
theorem dr_ma (h : MDr v B) (hB : BdB B) (hc : B 0 6 < 6) : MDr (maD f L v q) (maB f L B q) := by
  obtain ⟨⟨d1, d2, d3, d4, d5, d6, d7, d8⟩, h2, h3, h4, h5, h6⟩ := h
  obtain ⟨b4, b5, b6, -⟩ := hB
  have e : ∀ a j, ¬ (a = 4 ∧ j = B 0 6) → ¬ (a = 0 ∧ j = 6) → maB f L B q a j = B a j := fun a j g1 g2 => by
    unfold maB
    rw [ux_ne (by omega), ux_ne (by omega)]
  have e6 : maB f L B q 0 6 = B 0 6 + 1 := by
    unfold maB
    rw [ux_at rfl]
  have e2 : ∀ a j, ¬ (a = 122 ∧ (j = 112 ∨ j = 113 + B 0 6)) → maD f L v q a j = v a j := fun a j g => by
    unfold maD
    rw [d3, ux_ne (by omega), ux_ne (by omega)]
  refine ⟨⟨?_, ?_, ?_, fun c k a b a2 b2 => ?_, fun c k a b a2 b2 => ?_, fun c k a b a2 b2 => ?_, fun k a b => ?_, fun j a b => ?_⟩, ?_, ?_, ?_, ?_, ?_⟩
  · rw [e2 _ _ (by omega), e 0 4 (by omega) (by decide)]; exact d1
  · rw [e2 _ _ (by omega), e 0 5 (by omega) (by decide)]; exact d2
  · rw [e6]
    unfold maD
    rw [ux_at rfl, d3]
  · rw [e 0 4 (by omega) (by decide)] at b; rw [e2 _ _ (by omega), e _ _ (by omega) (by omega)]; exact d4 c k a b a2 b2
  · rw [e 0 4 (by omega) (by decide)] at b; rw [e2 _ _ (by omega)]; exact d5 c k a b a2 b2
  · rw [e 0 5 (by omega) (by decide)] at b; rw [e2 _ _ (by omega), e _ _ (by omega) (by omega)]; exact d6 c k a b a2 b2
  · rw [e6] at b
    by_cases z : k = B 0 6
    · subst z
      unfold maD maB
      rw [d3, ux_ne (by omega), ux_at rfl, ux_ne (by omega), ux_at rfl]
    · rw [e2 _ _ (by omega), e _ _ (by omega) (by omega)]; exact d7 k a (by omega)
  · rw [e2 _ _ (by omega), e _ _ (by omega) (by omega)]; exact d8 j a b
  · rw [e2 _ _ (by omega), e _ _ (by omega) (by omega)]; exact h2
  · rw [e2 _ _ (by omega), e _ _ (by omega) (by omega)]; exact h3
  · rw [e _ _ (by omega) (by omega)]; exact h4
  · rw [e2 _ _ (by omega), e _ _ (by omega) (by omega)]; exact h5
  · rw [e2 _ _ (by omega), e _ _ (by omega) (by omega)]; exact h6
theorem dr_li (h : MDr v B) (hB : BdB B) (z1 : 0 ≤ tV f L q ∧ tV f L q ≤ 7) (z2 : 0 ≤ tV f L (tE f L q) ∧ tV f L (tE f L q) ≤ 9) : MDr (liD f L v q) (liB f L B q) := by
  obtain ⟨⟨d1, d2, d3, d4, d5, d6, d7, d8⟩, h2, h3, h4, h5, h6⟩ := h
  obtain ⟨b4, b5, b6, -⟩ := hB
  have e : ∀ a j, ¬ a = 3 → ¬ (a = 23 ∧ (j = 8 ∨ j = 9)) → liB f L B q a j = B a j := fun a j g1 g2 => by
    unfold liB
    rw [ux_ne (by omega), ux_ne (by omega), ux_ne (by omega)]
  have e2 : ∀ a j, ¬ (a = 122 ∧ j = 119 + 10 * tV f L q + tV f L (tE f L q)) → ¬ (a = 119 ∧ (j = 6 ∨ j = 7)) → liD f L v q a j = v a j := fun a j g1 g2 => by
    unfold liD
    rw [ux_ne (by omega), ux_ne (by omega), ux_ne (by omega)]
  refine ⟨⟨?_, ?_, ?_, fun c k a b a2 b2 => ?_, fun c k a b a2 b2 => ?_, fun c k a b a2 b2 => ?_, fun k a b => ?_, fun j a b => ?_⟩, ?_, ?_, ?_, ?_, ?_⟩
  · rw [e2 _ _ (by omega) (by omega), e 0 4 (by omega) (by decide)]; exact d1
  · rw [e2 _ _ (by omega) (by omega), e 0 5 (by omega) (by decide)]; exact d2
  · rw [e2 _ _ (by omega) (by omega), e 0 6 (by omega) (by decide)]; exact d3
  · rw [e 0 4 (by omega) (by decide)] at b; rw [e2 _ _ (by omega) (by omega), e _ _ (by omega) (by omega)]; exact d4 c k a b a2 b2
  · rw [e 0 4 (by omega) (by decide)] at b; rw [e2 _ _ (by omega) (by omega)]; exact d5 c k a b a2 b2
  · rw [e 0 5 (by omega) (by decide)] at b; rw [e2 _ _ (by omega) (by omega), e _ _ (by omega) (by omega)]; exact d6 c k a b a2 b2
  · rw [e 0 6 (by omega) (by decide)] at b; rw [e2 _ _ (by omega) (by omega), e _ _ (by omega) (by omega)]; exact d7 k a b
  · by_cases z : j = tV f L q * 10 + tV f L (tE f L q)
    · unfold liD liB
      rw [ux_at (by omega), ux_at z]
    · rw [e2 _ _ (by omega) (by omega)]
      unfold liB
      rw [ux_ne (by omega), ux_ne (by omega), ux_ne (by omega)]
      exact d8 j a b
  · rw [e2 _ _ (by omega) (by omega), e _ _ (by omega) (by omega)]; exact h2
  · rw [e2 _ _ (by omega) (by omega), e _ _ (by omega) (by omega)]; exact h3
  · rw [e _ _ (by omega) (by omega)]; exact h4
  · unfold liD liB
    rw [ux_ne (by omega), ux_ne (by omega), ux_at rfl, ux_ne (by omega), ux_ne (by omega), ux_at rfl]
    exact h5.mx z1.1
  · unfold liD liB
    rw [ux_ne (by omega), ux_at rfl, ux_ne (by omega), ux_at rfl]
    exact h6.mx z2.1
theorem dr_tg (h : MDr v B) (hB : BdB B) (hc : B 0 5 < 10) (hz : kdT f L q = 4 → 0 ≤ tV f L (tE f L q)) : MDr (tgD f L v k q) (tgB f L B k q) := by
  obtain ⟨⟨d1, d2, d3, d4, d5, d6, d7, d8⟩, h2, h3, h4, h5, h6⟩ := h
  obtain ⟨b4, b5, b6, -⟩ := hB
  have ek : ∀ (v : VT) a j, ¬ (a = 119 ∧ j = 6) → keD f L v q a j = v a j := fun v a j g => by
    unfold keD
    split
    · exact ux_ne (by omega)
    · rfl
  have e : ∀ a j, ¬ a = 13 + B 0 5 → ¬ (a = 0 ∧ j = 5) → ¬ (a = 23 ∧ j = 8) → tgB f L B k q a j = B a j := fun a j g1 g2 g3 => by
    rw [tgB_at g1 g2, keB_ne g3]
  have e5 : tgB f L B k q 0 5 = B 0 5 + 1 := tgB_05 b5.1
  have e2 : ∀ a j, ¬ (a = 122 ∧ (j = 41 ∨ (42 + 7 * B 0 5 ≤ j ∧ j ≤ 48 + 7 * B 0 5))) → ¬ (a = 119 ∧ j = 6) → tgD f L v k q a j = v a j := fun a j g1 g2 => by
    unfold tgD
    rw [d2, ux_ne (by omega), ux_ne (by omega), ux_ne (by omega), ux_ne (by omega), ux_ne (by omega), ux_ne (by omega), ek _ _ _ g2, ux_ne (by omega), ux_ne (by omega)]
  refine ⟨⟨?_, ?_, ?_, fun c k a b a2 b2 => ?_, fun c k a b a2 b2 => ?_, fun t n a b a2 b2 => ?_, fun k a b => ?_, fun j a b => ?_⟩, ?_, ?_, ?_, ?_, ?_⟩
  · rw [e2 _ _ (by omega) (by omega), e 0 4 (by omega) (by omega) (by omega)]; exact d1
  · rw [e5]
    unfold tgD
    rw [ux_at rfl, d2]
  · rw [e2 _ _ (by omega) (by omega), e 0 6 (by omega) (by omega) (by omega)]; exact d3
  · rw [e 0 4 (by omega) (by omega) (by omega)] at b; rw [e2 _ _ (by omega) (by omega), e _ _ (by omega) (by omega) (by omega)]; exact d4 c k a b a2 b2
  · rw [e 0 4 (by omega) (by omega) (by omega)] at b; rw [e2 _ _ (by omega) (by omega)]; exact d5 c k a b a2 b2
  · rw [e5] at b
    by_cases z : t = B 0 5
    · subst z
      unfold tgD tgB plainF
      rw [d2]
      rcases (show n = 0 ∨ n = 1 ∨ n = 2 ∨ n = 3 ∨ n = 4 ∨ n = 5 ∨ n = 6 by omega) with rfl | rfl | rfl | rfl | rfl | rfl | rfl
      · rw [ux_ne (by omega), ux_ne (by omega), ux_ne (by omega), ux_ne (by omega), ux_ne (by omega), ux_ne (by omega), ek _ _ _ (by omega), ux_ne (by omega), ux_at (by omega), ux_ne (by omega), ux_ne (by omega), ux_ne (by omega), ux_ne (by omega), ux_ne (by omega), ux_ne (by omega), ux_ne (by omega), ux_ne (by omega), ux_ne (by omega), ux_ne (by omega), ux_at rfl]
      · rw [ux_ne (by omega), ux_ne (by omega), ux_ne (by omega), ux_ne (by omega), ux_ne (by omega), ux_ne (by omega), ek _ _ _ (by omega), ux_at (by omega), ux_ne (by omega), ux_at rfl]
      · rw [ux_ne (by omega), ux_ne (by omega), ux_ne (by omega), ux_ne (by omega), ux_at (by omega), ux_ne (by omega), ux_ne (by omega), ux_ne (by omega), ux_ne (by omega), ux_ne (by omega), ux_ne (by omega), ux_ne (by omega), ux_ne (by omega), ux_at rfl]
      · rw [ux_ne (by omega), ux_ne (by omega), ux_ne (by omega), ux_at (by omega), ux_ne (by omega), ux_ne (by omega), ux_ne (by omega), ux_ne (by omega), ux_ne (by omega), ux_ne (by omega), ux_ne (by omega), ux_at rfl]
      · rw [ux_ne (by omega), ux_ne (by omega), ux_at (by omega), ux_ne (by omega), ux_ne (by omega), ux_ne (by omega), ux_ne (by omega), ux_ne (by omega), ux_ne (by omega), ux_at rfl]
      · rw [ux_ne (by omega), ux_at (by omega), ux_ne (by omega), ux_ne (by omega), ux_ne (by omega), ux_ne (by omega), ux_ne (by omega), ux_at rfl]
      · rw [ux_ne (by omega), ux_ne (by omega), ux_ne (by omega), ux_ne (by omega), ux_ne (by omega), ux_at (by omega), ux_at rfl]
    · rw [e2 _ _ (by omega) (by omega), e _ _ (by omega) (by omega) (by omega)]; exact d6 t n a (by omega) a2 b2
  · rw [e 0 6 (by omega) (by omega) (by omega)] at b; rw [e2 _ _ (by omega) (by omega), e _ _ (by omega) (by omega) (by omega)]; exact d7 k a b
  · rw [e2 _ _ (by omega) (by omega), e _ _ (by omega) (by omega) (by omega)]; exact d8 j a b
  · rw [e2 _ _ (by omega) (by omega), e _ _ (by omega) (by omega) (by omega)]; exact h2
  · rw [e2 _ _ (by omega) (by omega), e _ _ (by omega) (by omega) (by omega)]; exact h3
  · rw [e _ _ (by omega) (by omega) (by omega)]; exact h4
  · rw [tgB_at (by omega) (by omega)]
    unfold tgD
    rw [ux_ne (by omega), ux_ne (by omega), ux_ne (by omega), ux_ne (by omega), ux_ne (by omega), ux_ne (by omega)]
    unfold keD keB
    by_cases z : kdT f L q = 4
    · rw [if_pos z, if_pos z, ux_at rfl, ux_at rfl, ux_ne (by omega), ux_ne (by omega)]
      exact h5.mx (hz z)
    · rw [if_neg z, if_neg z, ux_ne (by omega), ux_ne (by omega)]
      exact h5
  · rw [e2 _ _ (by omega) (by omega), e _ _ (by omega) (by omega) (by omega)]; exact h6
end MDR
