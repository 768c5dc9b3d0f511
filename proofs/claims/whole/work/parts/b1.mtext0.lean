-- the Model's text: what its turns tell
def TxtM (R : (Int × Int) × Int × VT) (v : VT) (x : Int) (w : VT) : Prop :=
  (0 < R.1.1 ∧ x = w32 (-10 - R.1.2) ∧ w 119 14 = R.1.1 ∧ w 119 9 = 0 ∧ (∀ a j, ¬ a = 122 → (¬ a = 119 ∨ j < 4 ∨ j = 8 ∨ 15 < j) → w a j = v a j)) ∨
  (R.1.1 = 0 ∧ x = R.2.1 ∧ w 119 14 = 0 ∧ w 119 9 = 0 ∧ w 119 2 = R.2.2 23 6 ∧ w 121 0 = 0 ∧ w 121 1 = 0 ∧ DrR (w 120) R.2.2 ∧ (∀ a j, ¬ a = 122 → ¬ a = 120 → ¬ a = 121 → (¬ a = 119 ∨ j < 2 ∨ j = 3 ∨ j = 8 ∨ 15 < j) → w a j = v a j))
/-- behind some lines -/
def TxtI (f : Int → Int) (L : Int) (R : (Int × Int) × Int × VT) (n q : Int) (B w : VT) : Prop := (0 < R.1.1 ∧ w 119 14 = R.1.1 ∧ w 119 15 = R.1.2) ∨ (MSt f L w (0, 0) q ∧ MDr w B ∧ BdB B ∧ n ≤ q ∧ parN f L (401 - n).toNat q B n = R)
def TxtE (R : (Int × Int) × Int × VT) (n : Int) (w : VT) : Prop := (0 < R.1.1 ∧ w 119 14 = R.1.1 ∧ w 119 15 = R.1.2) ∨ (R.1.1 = 0 ∧ w 119 14 = 0 ∧ MDr w R.2.2 ∧ BdB R.2.2 ∧ n = R.2.1)
section MTX
variable {f : Int → Int} {L r i x y p q lo hi c g k s t n : Int} {v w u z X B D : VT} {F H K : Int × Int} {R : (Int × Int) × Int × VT} {m : Nat}
theorem FrL.fill (h : FrL v w) : FrL v (fillF w 122 x n) := fun a j g1 g2 => (congrFun (fillF_row g1) j).trans (h a j g1 g2)
theorem dr_strt : MDr (upd2 (upd2 (upd2 (upd2 (fillF X 122 0 199) 119 4 2) 119 5 0) 119 6 (-4)) 119 7 (-4)) (strtB D) := by
  obtain ⟨s4, s5, s6, s26, s27, s28, s29, s3⟩ := strt_0 (B := D)
  have e : ∀ j, 0 ≤ j → j < 199 → upd2 (upd2 (upd2 (upd2 (fillF X 122 0 199) 119 4 2) 119 5 0) 119 6 (-4)) 119 7 (-4) 122 j = 0 := fun j a b => by
    rw [ux_ne (by omega), ux_ne (by omega), ux_ne (by omega), ux_ne (by omega)]
    unfold fillF
    rw [if_pos ⟨rfl, a, b⟩]
  refine ⟨⟨?_, ?_, ?_, fun c k a b a2 b2 => by omega, fun c k a b a2 b2 => by omega, fun c k a b a2 b2 => by omega, fun k a b => by omega, fun j a b => ?_⟩, ?_, ?_, ?_, ?_, ?_⟩
  · rw [e 0 (by decide) (by decide), s4]
  · rw [e 41 (by decide) (by decide), s5]
  · rw [e 112 (by decide) (by decide), s6]
  · rw [e _ (by omega) (by omega), s3 j a b]
  · rw [ux_ne (by decide), ux_ne (by decide), ux_ne (by decide), ux_at rfl, s26]
  · rw [ux_ne (by decide), ux_ne (by decide), ux_at rfl, s27]
  · exact Or.inl s27
  · rw [ux_ne (by decide), ux_at rfl]
    exact Or.inl ⟨rfl, s28⟩
  · rw [ux_at rfl]
    exact Or.inl ⟨rfl, s29⟩
theorem nx_st (hn : NxtM f L w u) (h14 : w 119 14 = 0) (h10 : w 119 10 = q) (hq : 0 ≤ q ∧ q ≤ L) : MSt f L u (0, 0) q := by
  obtain ⟨-, hn⟩ := hn
  rcases hn with hn | hn
  · omega
  · rw [h10] at hn
    exact ⟨hq, Or.inr ⟨rfl, hn.2⟩⟩
theorem tx_init (hM : MSt f L w (0, 0) 0) (hD : MDr w (strtB D)) : TxtI f L (parN f L 401 0 (strtB D) 0) 0 0 (strtB D) w := Or.inr ⟨hM, hD, strt_bd, Int.le_refl 0, rfl⟩
theorem tx_ok (h : TxtI f L R n q B w) (h14 : w 119 14 = 0) : MSt f L w (0, 0) q ∧ MDr w B ∧ BdB B ∧ n ≤ q ∧ parN f L (401 - n).toNat q B n = R := by
  rcases h with h | h
  · omega
  · exact h
theorem tx_step (h : TxtI f L R n q B w) (h14 : w 119 14 = 0) (h12 : ¬ w 119 12 = 0) (hn : 0 ≤ n) (hL : L ≤ 400) (hp : (0 < (linF f L B q).1 ∧ u 119 14 = (linF f L B q).1 ∧ u 119 15 = (linF f L B q).2) ∨ ((linF f L B q).1 = 0 ∧ MSt f L u (0, 0) (linE f L q) ∧ MDr u (linB f L B q))) : TxtI f L R (n + 1) (linE f L q) (linB f L B q) u := by
  obtain ⟨hM, hD, hB, hnq, hpar⟩ := tx_ok h h14
  obtain ⟨-, k4, k12, -, -⟩ := hM.w14 h14
  have hq := hM.1
  rw [par_s ⟨hn, by omega⟩] at hpar
  rcases hp with ⟨a, b, c⟩ | ⟨a, b, c⟩
  · rw [par_2 (by omega) (by omega)] at hpar
    rw [← hpar]
    exact Or.inl ⟨a, b, c⟩
  · rw [par_1 (by omega) a] at hpar
    have := lin_adv (f := f) (L := L) (B := B) hq a
    exact Or.inr ⟨b, c, lin_bd hB a, by omega, hpar⟩
theorem tx_bad (h : TxtI f L R n q B w) (h14 : ¬ w 119 14 = 0) (hn : 0 ≤ n) (hL : L ≤ 400) : TxtE R n w := by
  rcases h with h | ⟨hM, hD, hB, hnq, hpar⟩
  · exact Or.inl h
  · have hq := hM.1
    rcases hM.w1 h14 with g | ⟨-, k4, a, b⟩
    · exact absurd (show (0 : Int) < 0 from g.1) (by decide)
    · have hwd : wdT f L q = -4 := by
        unfold wdT
        rw [if_neg (by omega)]
      have e := lin_no (B := B) hwd
      rw [if_pos k4] at e
      rw [par_s ⟨hn, by omega⟩, par_2 (by omega) (by rw [e]; show ¬ (1 : Int) = 0; decide), e] at hpar
      rw [← hpar]
      exact Or.inl ⟨by show (0 : Int) < 1; decide, a, b⟩
theorem tx_fin (h : TxtI f L R n q B w) (h14 : w 119 14 = 0) (h12 : w 119 12 = 0) (hn : 0 ≤ n) (hL : L ≤ 400) (hg : (g = 1 ∧ w 119 6 < w 122 0 ∧ w 119 7 < w 122 41) ∨ (g = 0 ∧ ¬ (w 119 6 < w 122 0 ∧ w 119 7 < w 122 41))) (hp : NedQ w g 6 u) : TxtE R n u := by
  obtain ⟨hM, hD, hB, hnq, hpar⟩ := tx_ok h h14
  obtain ⟨-, k4, k12, k11, -⟩ := hM.w14 h14
  have hq := hM.1
  have hD2 := hD.fm hp.fm
  obtain ⟨⟨d1, d2, -⟩, -, -, -, h6, h7⟩ := hD
  obtain ⟨b4, b5, -⟩ := id hB
  unfold cmM at h6 h7
  have hd := hp.2
  rw [par_s ⟨hn, by omega⟩, par_0 (by omega)] at hpar
  by_cases e : B 0 4 < B 23 8 ∨ B 0 5 < B 23 9
  · rw [if_pos e] at hpar
    rw [← hpar]
    exact Or.inl ⟨by show (0 : Int) < 6; decide, by show u 119 14 = 6; omega, by show u 119 15 = tS f L q; omega⟩
  · rw [if_neg e] at hpar
    rw [← hpar]
    exact Or.inr ⟨rfl, by omega, hD2, hB, rfl⟩
theorem tx_no (hF : FrL v w) (h : TxtE R n w) (h14 : ¬ w 119 14 ≤ 0) : TxtM R v (w32 (-10 - w 119 15)) (upd2 w 119 9 0) := by
  rcases h with ⟨a, b, c⟩ | ⟨a, b, -⟩
  · exact Or.inl ⟨a, by rw [c], (ux_ne (by decide)).trans b, ux_at rfl, fun a j g1 g2 => by
      by_cases e : a = 119 ∧ j = 9
      · omega
      · rw [ux_ne (by omega)]
        exact hF a j g1 (by omega)⟩
  · omega
theorem tx_yes (hF : FrL v w) (h : TxtE R n w) (h14 : w 119 14 ≤ 0) : TxtM R v n (upd2 (upd2 (upd2 (cpyF (upd2 w 119 9 0) 120 122 199) 119 2 ((upd2 w 119 9 0) 119 4)) 121 0 0) 121 1 0) := by
  rcases h with ⟨a, b, c⟩ | ⟨a, b, hD, hB, e⟩
  · omega
  · have e9 : ∀ a j, ¬ a = 120 → ¬ a = 121 → ¬ (a = 119 ∧ (j = 2 ∨ j = 9)) → upd2 (upd2 (upd2 (cpyF (upd2 w 119 9 0) 120 122 199) 119 2 ((upd2 w 119 9 0) 119 4)) 121 0 0) 121 1 0 a j = w a j := fun a j g1 g2 g3 => by
      rw [ux_ne (by omega), ux_ne (by omega), ux_ne (by omega), congrFun (cpyF_row g1) j, ux_ne (by omega)]
    have e120 : ∀ j, 0 ≤ j → j < 199 → upd2 (upd2 (upd2 (cpyF (upd2 w 119 9 0) 120 122 199) 119 2 ((upd2 w 119 9 0) 119 4)) 121 0 0) 121 1 0 120 j = w 122 j := fun j g1 g2 => by
      rw [ux_ne (by omega), ux_ne (by omega), ux_ne (by omega)]
      unfold cpyF
      rw [if_pos ⟨rfl, g1, g2⟩, ux_ne (by omega)]
    obtain ⟨⟨d1, d2, d3, d4, d5, d6, d7, d8⟩, h2, -⟩ := hD
    obtain ⟨b4, b5, b6, -⟩ := hB
    refine Or.inr ⟨a, e, (e9 119 14 (by decide) (by decide) (by decide)).trans b, ?_, ?_, ?_, ux_at rfl, ⟨?_, ?_, ?_, fun c k a b a2 b2 => ?_, fun c k a b a2 b2 => ?_, fun c k a b a2 b2 => ?_, fun k a b => ?_, fun j a b => ?_⟩, fun a j g1 g2 g3 g4 => ?_⟩
    · rw [ux_ne (by omega), ux_ne (by omega), ux_ne (by omega), congrFun (cpyF_row (by decide)) 9, ux_at rfl]
    · rw [ux_ne (by omega), ux_ne (by omega), ux_at rfl, ux_ne (by decide)]
      exact h2
    · rw [ux_ne (by omega), ux_at rfl]
    · rw [e120 _ (by omega) (by omega)]; exact d1
    · rw [e120 _ (by omega) (by omega)]; exact d2
    · rw [e120 _ (by omega) (by omega)]; exact d3
    · rw [e120 _ (by omega) (by omega)]; exact d4 c k a b a2 b2
    · rw [e120 _ (by omega) (by omega)]; exact d5 c k a b a2 b2
    · rw [e120 _ (by omega) (by omega)]; exact d6 c k a b a2 b2
    · rw [e120 _ (by omega) (by omega)]; exact d7 k a b
    · rw [e120 _ (by omega) (by omega)]; exact d8 j a b
    · rw [e9 a j g2 g3 (by omega)]
      exact hF a j g1 (by omega)
end MTX
