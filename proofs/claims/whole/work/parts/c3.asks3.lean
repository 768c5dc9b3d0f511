-- the asks that change the village
def IP (a j : Int) : Prop := a = 52 ∨ (65 ≤ a ∧ a ≤ 118) ∨ (a = 120 ∧ 199 ≤ j ∧ j < 597) ∨ a = 121
def SP (a : Int) : Prop := (111 ≤ a ∧ a ≤ 118) ∨ (135 ≤ a ∧ a ≤ 137)
section ASK3
variable {G : GT} {v w u A A' B : VT} {o k p sl : Int}
theorem InImg.fr (hk : 0 ≤ k ∧ k < 2) (h : InImg v k) (e : ∀ a j, IP a j → w a j = v a j) : InImg w k := by
  obtain ⟨h1, h2⟩ := h
  have e1 : w 52 k = v 52 k := e _ _ (by unfold IP; omega)
  have e2 : w 121 k = v 121 k := e _ _ (by unfold IP; omega)
  refine ⟨by omega, ?_⟩
  rcases h2 with h2 | ⟨h2, B, hB⟩
  · exact Or.inl (by omega)
  · exact Or.inr ⟨by omega, B, hB.same (fun a j a1 a2 => e a j (by unfold IP; omega)) (fun j a1 a2 => e _ _ (by unfold IP; omega))⟩
theorem InSh.fr (hk : 0 ≤ k ∧ k < 4) (h : InSh v k) (e : ∀ a j, SP a → w a j = v a j) : InSh w k := by
  obtain ⟨h1, h2, h3, h4, h5⟩ := h
  have e1 : w (111 + 2 * k) 1 = v (111 + 2 * k) 1 := e _ _ (by unfold SP; omega)
  have e2 : w (111 + 2 * k) 2 = v (111 + 2 * k) 2 := e _ _ (by unfold SP; omega)
  have e3 : w 135 k = v 135 k := e _ _ (by unfold SP; omega)
  have e4 : w 136 k = v 136 k := e _ _ (by unfold SP; omega)
  exact ⟨by omega, by omega, by omega, by omega, fun i a b => by rw [e (111 + 2 * k + 1) i (by unfold SP; omega), e 137 _ (by unfold SP; omega)]; exact h5 i a b⟩
theorem InTape.fr (h : InTape v) (e2 : ∀ j, w 2 j = v 2 j) (e3 : ∀ j, w 3 j = v 3 j) (e9 : w 119 9 = v 119 9) (e123 : ∀ j, w 123 j = v 123 j) : InTape w := by
  obtain ⟨f, L, h1, h2⟩ := h
  exact ⟨f, L, h1.of e2 e3, h2.of e9 e123⟩
theorem Sm.fr (h : Sm w o A' 0) (hA : WFV A' 0) (e : ∀ a j, o ≤ a → a ≤ o + 22 → u a j = w a j) : Sm u o A' 0 := by
  have h4 := hA.1
  have h5 := hA.2.1
  obtain ⟨h1, h2, h3, h4⟩ := h
  exact ⟨(e o 4 (by omega) (by omega)).trans h1, (e o 5 (by omega) (by omega)).trans h2, fun c k a b d f => (e _ _ (by omega) (by omega)).trans (h3 c k a b d f), fun t k a b d f => (e _ _ (by omega) (by omega)).trans (h4 t k a b d f)⟩
theorem Sm.fr2 (h : Sm v o A 0) (hA : WFV A 0) (e : ∀ a j, (a = o ∧ (j = 4 ∨ j = 5)) ∨ (o + 5 ≤ a ∧ a ≤ o + 22) → u a j = v a j) : Sm u o A 0 := by
  have h4 := hA.1
  have h5 := hA.2.1
  obtain ⟨h1, h2, h3, h4⟩ := h
  exact ⟨(e o 4 (by omega)).trans h1, (e o 5 (by omega)).trans h2, fun c k a b d f => (e _ _ (by omega)).trans (h3 c k a b d f), fun t k a b d f => (e _ _ (by omega)).trans (h4 t k a b d f)⟩
theorem INV.vil (hR : InR v) (hV : InVil A v 4 (v 120)) (hA' : WFV A' 0) (hS' : Sm w 4 A' 0) (hM' : MR A' (u 120)) (h5 : A' 0 5 = A 0 5) (e3 : ∀ i, 0 ≤ i → i < 80 → A' (0 + 3) i = A (0 + 3) i)
    (ew : ∀ a j, (RP a j ∨ a = 7 ∨ a = 8 ∨ (a = 4 ∧ j = 6) ∨ (a = 120 ∧ 112 ≤ j ∧ j < 199)) → w a j = v a j) (eu : ∀ a j, (RP a j ∨ (4 ≤ a ∧ a ≤ 26)) → ¬ a = 120 → u a j = w a j) (e120 : ∀ j, 112 ≤ j → j < 597 → u 120 j = w 120 j) : INV u := by
  refine ⟨⟨A', hV.step hA' (hS'.fr hA' (fun a j a1 a2 => eu a j (by omega) (by omega))) hM' h5 e3 (fun i a b => ?_) (fun j a b => ?_) ?_ (fun k a b => ?_)⟩, hR.same (fun a j g => ?_)⟩
  · rw [eu _ _ (by omega) (by omega), ew _ _ (by omega)]
  · rw [e120 j a (by omega), ew _ _ (by omega)]
  · rw [eu _ _ (by omega) (by omega), ew _ _ (by omega)]
  · rw [eu _ _ (by omega) (by omega), ew _ _ (by omega)]
  · by_cases e : a = 120
    · subst e
      rw [e120 j (by unfold RP at g; omega) (by unfold RP at g; omega)]
      exact ew _ _ (Or.inl g)
    · rw [eu a j (Or.inl g) e]
      exact ew _ _ (Or.inl g)
theorem as_slack (hI : INV v) (a : Int) : AskI G yX8_slack cX8_slack 3 1 22 yX9_slack cX9_slack 3 1 25 [vi a] v := by
  obtain ⟨⟨A, hV⟩, hR⟩ := id hI
  obtain ⟨⟨hal, hs0, hs4⟩, htp, hf, him, hsh, hto⟩ := id hR
  refine ⟨_, ok_X8_slack G a v, fun x w hp => ?_⟩
  refine ⟨_, ok_X9_slack G a w, fun y u hq => ?_⟩
  rcases hp with ⟨a0, a1, rfl, rfl⟩ | ⟨a0, rfl, rfl⟩ <;> rcases hq with ⟨b0, b1, rfl, rfl⟩ | ⟨b0, rfl, rfl⟩
  · refine ⟨by rw [ux_ne (by omega)]; exact hal, ⟨A, hV.same (fun r j h1 h2 => by rw [ux_ne (by omega), ux_ne (by omega)]) (fun j _ _ => by rw [ux_ne (by omega), ux_ne (by omega)])⟩, ⟨by rw [ux_ne (by omega), ux_at rfl, ux_at rfl], by rw [ux_at rfl]; omega, by rw [ux_at rfl]; omega⟩, htp.fr (fun j => by rw [ux_ne (by omega), ux_ne (by omega)]) (fun j => by rw [ux_ne (by omega), ux_ne (by omega)]) (by rw [ux_ne (by omega), ux_ne (by omega)]) (fun j => by rw [ux_ne (by omega), ux_ne (by omega)]), ?_, fun k a b => (him k a b).fr ⟨a, b⟩ (fun r j g => by unfold IP at g; rw [ux_ne (by omega), ux_ne (by omega)]), fun k a b => (hsh k a b).fr ⟨a, b⟩ (fun r j g => by unfold SP at g; rw [ux_ne (by omega), ux_ne (by omega)]), ?_⟩
    · rw [ux_ne (by omega), ux_ne (by omega), ux_ne (by omega), ux_ne (by omega)]; exact hf
    · rw [ux_ne (by omega), ux_ne (by omega), ux_ne (by omega), ux_ne (by omega)]; exact hto
  · exact absurd ⟨a0, a1⟩ b0
  · exact absurd ⟨b0, b1⟩ a0
  · exact ⟨rfl, hI⟩
theorem as_like (hI : INV v) (c t a : Int) : AskI G yX8_like cX8_like 5 1 23 yX9_like cX9_like 5 2 46 [vi c, vi t, vi a] v := by
  obtain ⟨⟨A, hV⟩, hR⟩ := id hI
  obtain ⟨hA, hS, hM, hl, hz, hm, hm0, hm6, hmk⟩ := id hV
  have hb4 := hA.1
  have hb5 := hA.2.1
  refine ⟨_, ok_X8_like G c t a v (hS.wfv hA), fun x w hp => ?_⟩
  have e120 : w 120 = v 120 := by
    rcases hp with ⟨-, -, -, -, -, -, -, rfl⟩ | ⟨-, -, rfl⟩
    · exact row_eq (fun j => ux_ne (by omega))
    · rfl
  refine ⟨_, ok_X9_like G c t a A w hA (by rw [e120]; exact hM), fun y u hq => ?_⟩
  rw [hS.1, hS.2.1] at hp
  rcases hp with ⟨a0, a1, a2, a3, a4, a5, rfl, rfl⟩ | ⟨a0, rfl, rfl⟩ <;> rcases hq with ⟨b0, b1, b2, b3, b4, b5, rfl, rfl⟩ | ⟨b0, rfl, rfl⟩
  · have hlk := hl (10 * c + t) (by omega) (by omega)
    have hs1 : Sm (upd2 A (0 + 3) (10 * c + t) a) 0 A 0 := ⟨ux_ne (by omega), ux_ne (by omega), fun c k _ _ _ _ => ux_ne (by omega), fun t k _ _ _ _ => ux_ne (by omega)⟩
    have eo : ∀ r j, ¬ r = 7 → ¬ r = 120 → upd2 (upd2 v 7 (c * 10 + t) a) 120 (119 + 10 * c + t) a r j = v r j := fun r j g1 g2 => by rw [ux_ne (by omega), ux_ne (by omega)]
    have ek : ∀ j, ¬ j = 119 + 10 * c + t → upd2 (upd2 v 7 (c * 10 + t) a) 120 (119 + 10 * c + t) a 120 j = v 120 j := fun j g1 => by rw [ux_ne (by omega), ux_ne (by omega)]
    refine ⟨?_, ⟨upd2 A (0 + 3) (10 * c + t) a, hs1.wfv hA, ?_, ?_, fun i i0 i1 => ?_, fun c2 t2 c0 c1 t0 t1 => ?_, ?_⟩, ?_⟩
    · rw [ux_ne (by omega), show v 7 (c * 10 + t) = v (4 + 3) (10 * c + t) by rw [show c * 10 + t = 10 * c + t by omega]; rfl, hlk.1, ← hlk.2.1, show 119 + (10 * c + t) = 119 + 10 * c + t by omega]
    · exact (hS.fr2 hA (fun r j g => eo r j (by omega) (by omega))).tr hs1.sy
    · exact (hM.st' hA (st2 := v 120) (fun _ _ _ => rfl)).sm hs1 hb5.1 |>.st (hs1.wfv hA) (fun j g1 g2 => ek j (by omega))
    · by_cases g : i = 10 * c + t
      · rw [ux_ne (by omega), show (4 + 3 : Int) = 7 from rfl, ux_at (by omega), ux_at (by omega), ux_at (by omega)]
        omega
      · rw [show (4 + 3 : Int) = 7 from rfl, ux_ne (by omega), ux_ne (by omega), ek _ (by omega), ux_ne (by omega)]
        exact hl i i0 i1
    · rw [ux_ne (by omega)] at t0
      rw [ux_ne (by omega)]
      exact hz c2 t2 c0 c1 t0 t1
    · rw [ek 112 (by omega)]
      refine ⟨by rw [eo _ _ (by omega) (by omega)]; exact hm, hm0, hm6, fun k k0 k1 => ?_⟩
      rw [eo _ _ (by omega) (by omega), ek _ (by omega)]
      exact hmk k k0 k1
    · exact hR.same (fun r j g => by unfold RP at g; rw [ux_ne (by omega), ux_ne (by omega)])
  · exact absurd ⟨a0, a1, a2, a3, a4, a5⟩ b0
  · exact absurd ⟨b0, b1, b2, b3, b4, b5⟩ a0
  · exact ⟨rfl, hI⟩
theorem as_wear (hI : INV v) (c t : Int) : AskI G yX8_wear cX8_wear 4 3 70 yX9_wear cX9_wear 5 4 94 [vi c, vi t] v := by
  obtain ⟨⟨A, hV⟩, hR⟩ := id hI
  obtain ⟨hA, hS, hM, -⟩ := id hV
  obtain ⟨⟨hal, hs⟩, -⟩ := id hR
  have hb4 := hA.1
  have hb5 := hA.2.1
  have h4 := hS.1
  have h5 := hS.2.1
  refine ⟨_, ok_X8_wear G c t (v 119 2) v (hS.wfv hA) hal hs, fun x w hp => ?_⟩
  have ew : ∀ a j, (a < 17 ∨ 27 ≤ a) → w a j = v a j := fun a j g => by
    rcases hp with ⟨-, -, rfl⟩ | ⟨-, -, -, rfl⟩ | ⟨k1, -, -, rfl⟩
    · rfl
    · rfl
    · exact wear_ne ⟨k1.2.2.1, k1.2.2.2⟩ (by omega) (by omega)
  have e120 : w 120 = v 120 := row_eq (fun j => ew 120 j (by decide))
  refine ⟨_, ok_X9_wear G c t (v 119 2) A w hA (by rw [e120]; exact hM) (ew _ _ (by decide)) hs, fun y u hq => ?_⟩
  obtain ⟨hF, hF2, hq⟩ := hq
  rw [h4, h5] at hp
  by_cases g : 0 ≤ c ∧ c < A 0 4 ∧ 0 ≤ t ∧ t < A 0 5
  · have hp := hp.resolve_left (fun z => z.1 g)
    have hq := hq.resolve_left (fun z => z.1 g)
    rw [hS.fit ⟨g.1, g.2.1⟩ ⟨g.2.2.1, g.2.2.2⟩] at hp
    rcases hp with ⟨-, a, b, e⟩ | ⟨-, a, b, e⟩ <;> rcases hq with ⟨-, a2, b2, e2⟩ | ⟨-, a2, b2, m1, m2⟩
    · exact ⟨by rw [b, b2], by rw [e2, e]; exact hI⟩
    · exact absurd a a2
    · exact absurd a2 a
    · refine ⟨?_, INV.vil hR hV m2 (w := w) (by rw [e]; exact hS.wear ⟨g.1, g.2.1⟩ ⟨g.2.2.1, g.2.2.2⟩ hb4.2) m1 (wear_ne ⟨g.2.2.1, g.2.2.2⟩ (by omega) (by omega)) (fun i _ _ => wear_ne ⟨g.2.2.1, g.2.2.2⟩ (by omega) (by omega)) (fun a j k => ew a j (by unfold RP at k; omega)) (fun a j _ k => hF a j k) (fun j _ _ => hF2 j (by omega))⟩
      rw [b, b2, hS.2.2.2 t 0 g.2.2.1 g.2.2.2 (by decide) (by decide)]
      exact hS.wo hb5.1
  · rcases hp with ⟨-, b, e⟩ | ⟨a, -⟩ | ⟨a, -⟩
    · rcases hq with ⟨-, b2, e2⟩ | ⟨a, -⟩ | ⟨a, -⟩
      · exact ⟨by rw [b, b2], by rw [e2, e]; exact hI⟩
      · exact absurd a g
      · exact absurd a g
    · exact absurd a g
    · exact absurd a g
theorem as_doff (hI : INV v) (c s : Int) : AskI G yX8_doff cX8_doff 4 2 42 yX9_doff cX9_doff 4 2 46 [vi c, vi s] v := by
  obtain ⟨⟨A, hV⟩, hR⟩ := id hI
  obtain ⟨hA, hS, hM, -⟩ := id hV
  have hb4 := hA.1
  have hb5 := hA.2.1
  have h4 := hS.1
  have h5 := hS.2.1
  refine ⟨_, ok_X8_doff G c s v (hS.wfv hA), fun x w hp => ?_⟩
  have ew : ∀ a j, (a < 17 ∨ 27 ≤ a) → w a j = v a j := fun a j g => by
    rcases hp with ⟨-, -, rfl⟩ | ⟨-, -, -, -, -, rfl⟩
    · rfl
    · exact offF_ne (by omega)
  have e120 : w 120 = v 120 := row_eq (fun j => ew 120 j (by decide))
  refine ⟨_, ok_X9_doff G c s A w hA (by rw [e120]; exact hM), fun y u hq => ?_⟩
  obtain ⟨hF, hF2, hq⟩ := hq
  rw [h4] at hp
  rcases hp with ⟨a, b, e⟩ | ⟨a0, a1, a2, a3, b, e⟩ <;> rcases hq with ⟨a', b', e'⟩ | ⟨c0, c1, c2, c3, b', m1, m2⟩
  · exact ⟨by rw [b, b'], by rw [e', e]; exact hI⟩
  · exact absurd ⟨c0, c1, c2, c3⟩ a
  · exact absurd ⟨a0, a1, a2, a3⟩ a'
  · have hxy : x = y := by rw [b, b']; exact hS.wo hb5.1
    refine ⟨hxy, INV.vil hR hV m2 (w := w) (by rw [e, hxy]; exact hS.off hb4.2) m1 (offF_ne (by omega)) (fun i _ _ => offF_ne (by omega)) (fun a j k => ew a j (by unfold RP at k; omega)) (fun a j _ k => hF a j k) (fun j _ _ => hF2 j (by omega))⟩
theorem as_dress (hI : INV v) (s : Int) : AskI G yX8_dress cX8_dress 2 5 121 yX9_dress cX9_dress 2 6 144 [vi s] v := by
  obtain ⟨⟨A, hV⟩, hR⟩ := id hI
  obtain ⟨hA, hS, hM, -⟩ := id hV
  obtain ⟨⟨hal, hs⟩, -⟩ := id hR
  have hb4 := hA.1
  have hb5 := hA.2.1
  have h5 := hS.2.1
  refine ⟨_, ok_X8_dress G s (v 119 2) v (hS.wfv hA) hal hs, fun x w hp => ?_⟩
  have ew : ∀ a j, (a < 17 ∨ 27 ≤ a) → (a < 54 ∨ 59 < a) → w a j = v a j := fun a j g g2 => by
    rcases hp with ⟨-, -, rfl⟩ | ⟨-, -, -, k1, -⟩
    · rfl
    · rw [k1 a j g2]
      exact drsV_out (by omega)
  have e120 : w 120 = v 120 := row_eq (fun j => ew 120 j (by decide) (by decide))
  refine ⟨_, ok_X9_dress G s (v 119 2) A w hA (by rw [e120]; exact hM) (ew _ _ (by decide) (by decide)) hs, fun y u hq => ?_⟩
  obtain ⟨hF, hF2, hq⟩ := hq
  rcases hp with ⟨a, b, e⟩ | ⟨a0, a1, b, e, -⟩ <;> rcases hq with ⟨a', b', e'⟩ | ⟨c0, c1, b', m1⟩
  · exact ⟨by rw [b, b'], by rw [e', e]; exact hI⟩
  · exact absurd ⟨c0, c1⟩ a
  · exact absurd ⟨a0, a1⟩ a'
  · have hW := hA.dr (s := s) (sl := v 119 2)
    refine ⟨by rw [b, b']; exact hS.new, INV.vil hR hV hW (w := w) ((hS.drv hb4).fr hW (fun a j g1 g2 => e a j (by omega))) m1 (drsV_out (by omega)) (fun i _ _ => drsV_out (by omega)) (fun a j k => ew a j (by unfold RP at k; omega) (by unfold RP at k; omega)) (fun a j k1 k => hF a j (by unfold RP at k1; omega) k (by unfold RP at k1; omega)) (fun j _ _ => hF2 j (by omega))⟩
theorem as_winter (hI : INV v) : AskI G yX8_winter cX8_winter 1 2 43 yX9_winter cX9_winter 1 3 68 [] v := by
  obtain ⟨⟨A, hV⟩, hR⟩ := id hI
  obtain ⟨hA, hS, hM, -⟩ := id hV
  have hb4 := hA.1
  have hb5 := hA.2.1
  have h5 := hS.2.1
  refine ⟨_, ok_X8_winter G v (hS.wfv hA), fun x w hp => ?_⟩
  obtain ⟨b, e⟩ := hp
  have ew : ∀ a j, (a < 17 ∨ 27 ≤ a) → w a j = v a j := fun a j g => by
    rw [e]
    exact winF_out (by omega)
  have e120 : w 120 = v 120 := row_eq (fun j => ew 120 j (by decide))
  refine ⟨_, ok_X9_winter G A w hA (by rw [e120]; exact hM), fun y u hq => ?_⟩
  obtain ⟨hF, hF2, b', m1⟩ := hq
  refine ⟨by rw [b, b']; exact hS.winN hb5.1, INV.vil hR hV hA.win (w := w) (by rw [e]; exact hS.win hb4.2) m1 (winF_out (by omega)) (fun i _ _ => winF_out (by omega)) (fun a j k => ew a j (by unfold RP at k; omega)) (fun a j _ k => hF a j k) (fun j _ _ => hF2 j (by omega))⟩
theorem sprV_out {q a j : Int} (h : a < o + 5 ∨ o + 23 ≤ a) (h4 : v o 4 ≤ 8) (h5 : v o 5 ≤ 10) : sprV v o q sl a j = v a j := by
  unfold sprV
  rw [sprF_out (by omega), grwF_out (by omega)]
theorem as_spring (hI : INV v) (q : Int) : AskI G yX8_spring cX8_spring 2 4 94 yX9_spring cX9_spring 2 4 97 [vi q] v := by
  obtain ⟨⟨A, hV⟩, hR⟩ := id hI
  obtain ⟨hA, hS, hM, -⟩ := id hV
  obtain ⟨⟨hal, hs⟩, -⟩ := id hR
  have hb4 := hA.1
  have hb5 := hA.2.1
  have h4 := hS.1
  have h5 := hS.2.1
  refine ⟨_, ok_X8_spring G q (v 119 2) v (hS.wfv hA) hal hs, fun x w hp => ?_⟩
  obtain ⟨b, e⟩ := hp
  have ew : ∀ a j, (a < 9 ∨ 27 ≤ a) → w a j = v a j := fun a j g => by
    rw [e]
    exact sprV_out (by omega) (by omega) (by omega)
  have e120 : w 120 = v 120 := row_eq (fun j => ew 120 j (by decide))
  refine ⟨_, ok_X9_spring G q (v 119 2) A w hA (by rw [e120]; exact hM) (ew _ _ (by decide)) hs, fun y u hq => ?_⟩
  obtain ⟨hF, hF2, b', m1⟩ := hq
  refine ⟨?_, INV.vil hR hV hA.sprv (w := w) (by rw [e]; exact hS.spr hb4.2) m1 (sprV_out (by omega) (by omega) (by omega)) (fun i _ _ => sprV_out (by omega) (by omega) (by omega)) (fun a j k => ew a j (by unfold RP at k; omega)) (fun a j _ k => hF a j k) (fun j _ _ => hF2 j (by omega))⟩
  rw [b, b', h5]
  refine cnt_congr _ (fun t t0 t1 => ?_)
  have hg := hS.grw (q := q) hb4.2
  have h := hg.offb (sl := v 119 2) (x := t) (by rw [grwF_out (by omega)]; omega)
  rw [grwF_out (by omega), grwF_out (by omega)] at h
  exact h
theorem as_cut (hI : INV v) (t z : Int) : AskI G yX8_cut cX8_cut 4 1 22 yX9_cut cX9_cut 4 2 46 [vi t, vi z] v := by
  obtain ⟨⟨A, hV⟩, hR⟩ := id hI
  obtain ⟨hA, hS, hM, -⟩ := id hV
  have hb4 := hA.1
  have hb5 := hA.2.1
  have h5 := hS.2.1
  refine ⟨_, ok_X8_cut G t z v (hS.wfv hA), fun x w hp => ?_⟩
  have ew : ∀ a j, (a < 17 ∨ 27 ≤ a) → w a j = v a j := fun a j g => by
    rcases hp with ⟨-, -, rfl⟩ | ⟨-, -, -, rfl⟩ | ⟨k1, -, -, rfl⟩
    · rfl
    · rfl
    · unfold cutV
      exact ux_ne (by omega)
  have e120 : w 120 = v 120 := row_eq (fun j => ew 120 j (by decide))
  refine ⟨_, ok_X9_cut G t z A w hA (by rw [e120]; exact hM), fun y u hq => ?_⟩
  obtain ⟨hF, hF2, hq⟩ := hq
  rw [h5] at hp
  by_cases ht : 0 ≤ t ∧ t < A 0 5
  · have r := fun j (z0 : 0 ≤ j) (z1 : j < 8) => hS.2.2.2 t j ht.1 ht.2 z0 z1
    rw [r 2 (by decide) (by decide), r 7 (by decide) (by decide)] at hp
    by_cases g : 0 ≤ t ∧ t < A 0 5 ∧ 1 ≤ z ∧ z ≤ A (0 + 13 + t) 2 - 1
    · have hp := hp.resolve_left (fun z => z.1 g)
      have hq := hq.resolve_left (fun z => z.1 g)
      rcases hp with ⟨-, a, b, e⟩ | ⟨-, a, b, e⟩ <;> rcases hq with ⟨-, a', b', e'⟩ | ⟨-, a', b', m1⟩
      · exact ⟨by rw [b, b'], by rw [e', e]; exact hI⟩
      · exact absurd a' a
      · exact absurd a a'
      · refine ⟨by rw [b, b'], INV.vil hR hV (hA.cut (z := z) ht (by omega)) (w := w) (by rw [e]; exact hS.cut ht hb4.2) m1 (ux_ne (by omega)) (fun i _ _ => ux_ne (by omega)) (fun a j k => ew a j (by unfold RP at k; omega)) (fun a j _ k => hF a j k) (fun j _ _ => hF2 j (by omega))⟩
    · rcases hp with ⟨-, b, e⟩ | ⟨a, -⟩ | ⟨a, -⟩
      · rcases hq with ⟨-, b', e'⟩ | ⟨a, -⟩ | ⟨a, -⟩
        · exact ⟨by rw [b, b'], by rw [e', e]; exact hI⟩
        · exact absurd a g
        · exact absurd a g
      · exact absurd a g
      · exact absurd a g
  · rcases hp with ⟨-, b, e⟩ | ⟨a, -⟩ | ⟨a, -⟩
    · rcases hq with ⟨-, b', e'⟩ | ⟨a, -⟩ | ⟨a, -⟩
      · exact ⟨by rw [b, b'], by rw [e', e]; exact hI⟩
      · exact absurd ⟨a.1, a.2.1⟩ ht
      · exact absurd ⟨a.1, a.2.1⟩ ht
    · exact absurd ⟨a.1, a.2.1⟩ ht
    · exact absurd ⟨a.1, a.2.1⟩ ht
end ASK3
