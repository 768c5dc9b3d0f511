-- asks: images, sheets
section ASK5
variable {G : GT} {v w u A A' B : VT} {o o2 k p sl : Int} {st st2 : Int → Int}
theorem as_unmark (hI : INV v) (n : Int) : AskI G yX8_unmark cX8_unmark 3 1 22 yX9_unmark cX9_unmark 3 1 25 [vi n] v := by
  obtain ⟨⟨A, hV⟩, hR⟩ := id hI
  obtain ⟨hA, hS, hM, hl, hz, hm, hm0, hm6, hmk⟩ := id hV
  have hb4 := hA.1
  have hb5 := hA.2.1
  refine ⟨_, ok_X8_unmark G n v (by omega), fun x w hp => ?_⟩
  have ew : ∀ a j, ¬ (a = 4 ∧ j = 6) → w a j = v a j := fun a j g => by
    rcases hp with ⟨-, -, rfl⟩ | ⟨-, -, rfl⟩
    · rfl
    · rw [ux_ne (by omega)]
  have e120 : w 120 = v 120 := row_eq (fun j => ew 120 j (by omega))
  refine ⟨_, ok_X9_unmark G n w (by rw [e120]; exact ⟨hm0, hm6⟩), fun y u hq => ?_⟩
  rw [e120] at hq
  rw [hm] at hp
  rcases hp with ⟨a, b, e⟩ | ⟨a, b, e⟩ <;> rcases hq with ⟨a', b', e'⟩ | ⟨a', b', e'⟩
  · exact ⟨by rw [b, b'], by rw [e', e]; exact hI⟩
  · exact absurd a' a
  · exact absurd a a'
  · have eu : ∀ a j, ¬ (a = 120 ∧ j = 112) → ¬ (a = 4 ∧ j = 6) → u a j = v a j := fun a j g1 g2 => by
      rw [e', ux_ne (by omega)]
      exact ew a j g2
    have e1 : u 120 112 = n := by rw [e', ux_at rfl]
    have e2 : u 4 6 = n := by rw [e', ux_ne (by omega), e, ux_at rfl]
    refine ⟨by rw [b, b'], ⟨A, hA, hS.fr2 hA (fun a j g => eu a j (by omega) (by omega)), hM.st hA (fun j g1 g2 => eu _ _ (by omega) (by omega)), fun i i0 i1 => ?_, hz, ?_⟩, hR.same (fun a j g => eu a j (by unfold RP at g; omega) (by unfold RP at g; omega))⟩
    · rw [eu _ _ (by omega) (by omega), eu _ _ (by omega) (by omega)]
      exact hl i i0 i1
    · refine ⟨by omega, by omega, by omega, fun k k0 k1 => ?_⟩
      rw [eu _ _ (by omega) (by omega), eu _ _ (by omega) (by omega)]
      exact hmk k k0 (by omega)
theorem InVil.mv (h : InVil A v o2 st) (hS : Sm u o A 0) (e3 : ∀ i, 0 ≤ i → i < 80 → u (o + 3) i = v (o2 + 3) i) (e6 : u o 6 = v o2 6) (e4 : ∀ i, 0 ≤ i → i < 6 → u (o + 4) i = v (o2 + 4) i) (e : ∀ j, 0 ≤ j → j < 199 → st2 j = st j) : InVil A u o st2 := by
  obtain ⟨hA, -, hM, hl, hz, hm, hm0, hm6, hmk⟩ := h
  have e112 := e 112 (by decide) (by decide)
  refine ⟨hA, hS, hM.st' hA e, fun i a b => ?_, hz, by rw [e6, e112]; exact hm, by omega, by omega, fun k a b => ?_⟩
  · rw [e3 i a b, e _ (by omega) (by omega)]
    exact hl i a b
  · rw [e4 k a (by omega), e (113 + k) (by omega) (by omega)]
    exact hmk k a (by omega)
theorem InImg.fr1 (h : InImg v k) (e52 : w 52 k = v 52 k) (e121 : w 121 k = v 121 k) (e : ∀ a j, 65 + 23 * k ≤ a → a ≤ 65 + 23 * k + 22 → w a j = v a j) (e2 : ∀ j, 0 ≤ j → j < 199 → w 120 (199 * (k + 1) + j) = v 120 (199 * (k + 1) + j)) : InImg w k := by
  obtain ⟨h1, h2⟩ := h
  refine ⟨by omega, ?_⟩
  rcases h2 with h2 | ⟨h2, B, hB⟩
  · exact Or.inl (by omega)
  · exact Or.inr ⟨by omega, B, hB.same e e2⟩
theorem cps_at {a b n j : Int} (h : a ≤ j ∧ j < a + n) : cpsF v a b n 120 j = v 120 (b + (j - a)) := by
  unfold cpsF
  rw [if_pos ⟨rfl, h.1, h.2⟩]
theorem as_keep (hI : INV v) (k : Int) : AskI G yX8_keep cX8_keep 3 3 64 yX9_keep cX9_keep 3 1 25 [vi k] v := by
  obtain ⟨⟨A, hV⟩, hR⟩ := id hI
  obtain ⟨hA, hS, hM, hl, hz, hm, hm0, hm6, hmk⟩ := id hV
  obtain ⟨⟨hal, hs0, hs4⟩, htp, hf, him, hsh, hto⟩ := id hR
  have hb4 := hA.1
  have hb5 := hA.2.1
  have h4 := hS.1
  have h5 := hS.2.1
  refine ⟨_, ok_X8_keep G k v (hS.wfv hA) hR.h01c, fun x w hp => ?_⟩
  have ew : ∀ a j, (a < 65 + 23 * k ∨ 65 + 23 * k + 23 ≤ a) → ¬ (a = 52 ∧ j = k) → w a j = v a j := fun a j g g2 => by
    rcases hp with ⟨-, -, rfl⟩ | ⟨k1, -, rfl⟩
    · rfl
    · rw [ux_ne (by omega)]
      exact all_out g (by omega) (by omega)
  have e121 : ∀ i, 0 ≤ i → i < 2 → w 121 i = v 121 i := fun i a b => by
    rcases hp with ⟨-, -, rfl⟩ | ⟨k1, -, rfl⟩
    · rfl
    · rw [ux_ne (by omega)]
      exact all_out (by omega) (by omega) (by omega)
  refine ⟨_, ok_X9_keep G k w (fun i a b => by rw [e121 i a b]; exact hR.h01 i a b), fun y u hq => ?_⟩
  rcases hp with ⟨a, b, e⟩ | ⟨a, b, e⟩ <;> rcases hq with ⟨a', b', e'⟩ | ⟨a', b', e'⟩
  · exact ⟨by rw [b, b'], by rw [e', e]; exact hI⟩
  · exact absurd a' a
  · exact absurd a a'
  · have eu : ∀ a j, ¬ a = 120 → (a < 65 + 23 * k ∨ 65 + 23 * k + 23 ≤ a) → ¬ (a = 52 ∧ j = k) → ¬ (a = 121 ∧ j = k) → u a j = v a j := fun a j g1 g2 g3 g4 => by
      rw [e', cpsF_out (by omega), ux_ne (by omega)]
      exact ew a j g2 g3
    have ei : ∀ a j, 65 + 23 * k ≤ a → a ≤ 65 + 23 * k + 22 → u a j = allF v (65 + 23 * k) 4 a j := fun a j g1 g2 => by
      rw [e', cpsF_out (by omega), ux_ne (by omega), e, ux_ne (by omega)]
    have ek : ∀ j, (j < 199 * (k + 1) ∨ 199 * (k + 1) + 199 ≤ j) → u 120 j = v 120 j := fun j g => by
      rw [e', cpsF_out (by omega), ux_ne (by omega)]
      exact ew _ _ (by omega) (by omega)
    have ec : ∀ j, 0 ≤ j → j < 199 → u 120 (199 * (k + 1) + j) = v 120 j := fun j g1 g2 => by
      rw [e', cps_at (by omega), ux_ne (by omega), ew _ _ (by omega) (by omega), show 0 + (199 * (k + 1) + j - 199 * (k + 1)) = j by omega]
    refine ⟨?_, ⟨A, hV.same (fun a j g1 g2 => eu a j (by omega) (by omega) (by omega) (by omega)) (fun j g1 g2 => ek j (by omega))⟩, ⟨?_, ?_, ?_⟩, ?_, ?_, fun i i0 i1 => ?_, fun i i0 i1 => ?_, ?_⟩
    · rw [b, b', e121 k a.1 (by omega)]
      exact (him k a.1 (by omega)).1
    · rw [eu _ _ (by omega) (by omega) (by omega) (by omega), eu _ _ (by omega) (by omega) (by omega) (by omega)]
      exact hal
    · rw [eu _ _ (by omega) (by omega) (by omega) (by omega)]
      exact hs0
    · rw [eu _ _ (by omega) (by omega) (by omega) (by omega)]
      exact hs4
    · exact htp.fr (fun j => eu _ _ (by omega) (by omega) (by omega) (by omega)) (fun j => eu _ _ (by omega) (by omega) (by omega) (by omega)) (eu _ _ (by omega) (by omega) (by omega) (by omega)) (fun j => eu _ _ (by omega) (by omega) (by omega) (by omega))
    · rw [eu _ _ (by omega) (by omega) (by omega) (by omega), eu _ _ (by omega) (by omega) (by omega) (by omega)]
      exact hf
    · by_cases g : i = k
      · subst g
        have h52 : u 52 i = 1 := by rw [e', cpsF_out (by omega), ux_ne (by omega), e, ux_at rfl]
        have h121 : u 121 i = 1 := by rw [e', cpsF_out (by omega), ux_at rfl]
        have hsm : Sm (allF v (65 + 23 * i) 4) (65 + 23 * i) A 0 := (all_sm (by omega) (by omega)).tr hS
        refine ⟨by omega, Or.inr ⟨h121, A, hV.mv (hsm.fr hA ei) (fun j g1 g2 => ?_) ?_ (fun j g1 g2 => ?_) (fun j g1 g2 => ec j g1 g2)⟩⟩
        · rw [ei _ _ (by omega) (by omega)]
          exact all_lk (by omega) ⟨g1, g2⟩ (by omega) (by omega)
        · rw [ei _ _ (by omega) (by omega)]
          exact all_6
        · rw [ei _ _ (by omega) (by omega)]
          exact all_mk (by omega) ⟨g1, g2⟩ (by omega) (by omega)
      · exact (him i i0 i1).fr1 (eu _ _ (by omega) (by omega) (by omega) (by omega)) (eu _ _ (by omega) (by omega) (by omega) (by omega)) (fun a j g1 g2 => eu a j (by omega) (by omega) (by omega) (by omega)) (fun j g1 g2 => ek _ (by omega))
    · exact (hsh i i0 i1).fr ⟨i0, i1⟩ (fun a j g => eu a j (by unfold SP at g; omega) (by unfold SP at g; omega) (by unfold SP at g; omega) (by unfold SP at g; omega))
    · rw [eu _ _ (by omega) (by omega) (by omega) (by omega), eu _ _ (by omega) (by omega) (by omega) (by omega)]
      exact hto
theorem as_back (hI : INV v) (k : Int) : AskI G yX8_back cX8_back 2 3 64 yX9_back cX9_back 2 1 25 [vi k] v := by
  obtain ⟨⟨A, hV⟩, hR⟩ := id hI
  obtain ⟨⟨hal, hs0, hs4⟩, htp, hf, him, hsh, hto⟩ := id hR
  have hB : 0 ≤ k → k ≤ 1 → v 52 k = 1 → ∃ B, InVil B v (65 + 23 * k) (fun j => v 120 (199 * (k + 1) + j)) := fun a b c => by
    obtain ⟨h1, h2⟩ := him k a (by omega)
    rcases h2 with h2 | ⟨-, h2⟩
    · omega
    · exact h2
  refine ⟨_, ok_X8_back G k v (fun a b c => by obtain ⟨B, hB⟩ := hB a b c; exact hB.2.1.wfv hB.1) hR.h01c, fun x w hp => ?_⟩
  by_cases g : (0 ≤ k ∧ k ≤ 1) ∧ v 52 k = 1
  · have h2 := (him k g.1.1 (by omega)).1
    obtain ⟨B, hB⟩ := hB g.1.1 g.1.2 g.2
    obtain ⟨hA, hS, hM, hl, hz, hm, hm0, hm6, hmk⟩ := id hB
    have hb4 := hA.1
    have hb5 := hA.2.1
    have h4 := hS.1
    have h5 := hS.2.1
    rcases hp with ⟨a, -⟩ | ⟨-, a, -⟩ | ⟨-, -, e, b⟩
    · exact absurd g.1 a
    · omega
    · have ew : ∀ a j, (a < 4 ∨ 27 ≤ a) → w a j = v a j := fun a j q => by
        rw [e]
        exact all_out (by omega) (by omega) (by omega)
      refine ⟨_, ok_X9_back G k w (fun i a b => by rw [ew _ _ (by omega)]; exact hR.h01 i a b), fun y u hq => ?_⟩
      rw [ew 121 k (by omega)] at hq
      rcases hq with ⟨a, -⟩ | ⟨-, a, -⟩ | ⟨-, -, e', b'⟩
      · exact absurd g.1 a
      · omega
      · have eu : ∀ a j, ¬ (a = 120 ∧ 0 ≤ j ∧ j < 199) → u a j = w a j := fun a j q => by
          rw [e', cpsF_out (by omega)]
        have ec : ∀ j, 0 ≤ j → j < 199 → u 120 j = v 120 (199 * (k + 1) + j) := fun j g1 g2 => by
          rw [e', cps_at (by omega), ew _ _ (by omega), show 199 * (k + 1) + (j - 0) = 199 * (k + 1) + j by omega]
        have hsm : Sm w 4 B 0 := by rw [e]; exact (all_sm (by omega) (by omega)).tr hS
        refine ⟨?_, ⟨B, hB.mv (hsm.fr hA (fun a j _ _ => eu a j (by omega))) (fun j g1 g2 => ?_) ?_ (fun j g1 g2 => ?_) (fun j g1 g2 => ec j g1 g2)⟩, hR.same (fun a j q => by unfold RP at q; rw [eu a j (by omega), ew a j (by omega)])⟩
        · rw [b, b', hsm.2.1, ec 41 (by decide) (by decide)]
          exact hM.2.1.symm
        · rw [eu _ _ (by omega), e]
          exact all_lk (by omega) ⟨g1, g2⟩ (by omega) (by omega)
        · rw [eu _ _ (by omega), e]
          exact all_6
        · rw [eu _ _ (by omega), e]
          exact all_mk (by omega) ⟨g1, g2⟩ (by omega) (by omega)
  · have e : w = v := by
      rcases hp with ⟨-, -, e⟩ | ⟨-, -, -, e⟩ | ⟨a, b, -⟩
      · exact e
      · exact e
      · exact absurd ⟨a, b⟩ g
    subst e
    refine ⟨_, ok_X9_back G k w hR.h01, fun y u hq => ?_⟩
    by_cases g2 : 0 ≤ k ∧ k ≤ 1
    · have h2 := (him k g2.1 (by omega)).1
      rcases hp with ⟨a, -⟩ | ⟨-, a, b, -⟩ | ⟨a, b, -⟩
      · exact absurd g2 a
      · rcases hq with ⟨a', -⟩ | ⟨-, a', b', e'⟩ | ⟨-, a', -⟩
        · exact absurd g2 a'
        · exact ⟨by rw [b, b'], by rw [e']; exact hI⟩
        · omega
      · exact absurd ⟨a, b⟩ g
    · rcases hp with ⟨-, b, -⟩ | ⟨a, -⟩ | ⟨a, -⟩
      · rcases hq with ⟨-, b', e'⟩ | ⟨a', -⟩ | ⟨a', -⟩
        · exact ⟨by rw [b, b'], by rw [e']; exact hI⟩
        · exact absurd a' g2
        · exact absurd a' g2
      · exact absurd a g2
      · exact absurd a g2
/-- all but the sheets -/
theorem INV.sh (hI : INV v) (e : ∀ a j, (KP a j ∧ ¬ SP a) → u a j = v a j) (hs : ∀ k, 0 ≤ k → k < 4 → InSh u k) : INV u := by
  obtain ⟨⟨A, hV⟩, ⟨hal, hs0, hs4⟩, htp, hf, him, hsh, hto⟩ := id hI
  have e' : ∀ a j, KP a j → ¬ SP a → u a j = v a j := fun a j g g2 => e a j ⟨g, g2⟩
  refine ⟨⟨A, hV.same (fun a j g1 g2 => e' a j (by unfold KP; omega) (by unfold SP; omega)) (fun j g1 g2 => e' _ _ (by unfold KP; omega) (by unfold SP; omega))⟩, ⟨?_, ?_, ?_⟩, ?_, ?_, fun k k0 k1 => ?_, hs, ?_⟩
  · rw [e' _ _ (by unfold KP RP; omega) (by unfold SP; omega), e' _ _ (by unfold KP RP; omega) (by unfold SP; omega)]
    exact hal
  · rw [e' _ _ (by unfold KP RP; omega) (by unfold SP; omega)]
    exact hs0
  · rw [e' _ _ (by unfold KP RP; omega) (by unfold SP; omega)]
    exact hs4
  · exact htp.fr (fun j => e' _ _ (by unfold KP RP; omega) (by unfold SP; omega)) (fun j => e' _ _ (by unfold KP RP; omega) (by unfold SP; omega)) (e' _ _ (by unfold KP RP; omega) (by unfold SP; omega)) (fun j => e' _ _ (by unfold KP RP; omega) (by unfold SP; omega))
  · rw [e' _ _ (by unfold KP RP; omega) (by unfold SP; omega), e' _ _ (by unfold KP RP; omega) (by unfold SP; omega)]
    exact hf
  · exact (him k k0 k1).fr1 (e' _ _ (by unfold KP RP; omega) (by unfold SP; omega)) (e' _ _ (by unfold KP RP; omega) (by unfold SP; omega)) (fun a j g1 g2 => e' a j (by unfold KP RP; omega) (by unfold SP; omega)) (fun j g1 g2 => e' _ _ (by unfold KP RP; omega) (by unfold SP; omega))
  · rw [e' _ _ (by unfold KP RP; omega) (by unfold SP; omega), e' _ _ (by unfold KP RP; omega) (by unfold SP; omega)]
    exact hto
theorem as_sheet (hI : INV v) (k l n : Int) : AskI G yX8_sheet cX8_sheet 4 2 45 yX9_sheet cX9_sheet 5 2 46 [vi k, vi l, vi n] v := by
  have hsh := hI.2.2.2.2.2.1
  refine ⟨_, ok_X8_sheet G k l n v, fun x w hp => ?_⟩
  refine ⟨_, ok_X9_sheet G k l n w, fun y u hq => ?_⟩
  by_cases g : (0 ≤ k ∧ k ≤ 3) ∧ (0 ≤ l ∧ l ≤ 2) ∧ n ≤ 40
  · have hp := hp.resolve_left (fun z => z.1 g)
    have hq := hq.resolve_left (fun z => z.1 g)
    rcases hp with ⟨-, a, b, e⟩ | ⟨-, a, b, e⟩ <;> rcases hq with ⟨-, a', b', e'⟩ | ⟨-, a', b', q1, q2, q3, q4⟩
    · exact ⟨by rw [b, b'], by rw [e', e]; exact hI⟩
    · omega
    · omega
    · have ew : ∀ a j, ¬ a = 111 + 2 * k → ¬ a = 111 + 2 * k + 1 → w a j = v a j := fun a j g1 g2 => by
        rw [e, congrFun (fillF_row g2) j, ux_ne (by omega), ux_ne (by omega)]
      have eu : ∀ a j, ¬ a = 111 + 2 * k → ¬ a = 111 + 2 * k + 1 → ¬ (a = 135 ∧ j = k) → ¬ (a = 136 ∧ j = k) → ¬ (a = 137 ∧ 40 * k ≤ j ∧ j < 40 * k + 40) → u a j = v a j := fun a j g1 g2 g3 g4 g5 => by
        rw [q4 a j g3 g4 g5, ew a j g1 g2]
      refine ⟨by rw [b, b'], hI.sh (fun a j g => eu a j (by unfold SP at g; omega) (by unfold SP at g; omega) (by unfold SP at g; omega) (by unfold SP at g; omega) (by unfold SP at g; omega)) (fun i i0 i1 => ?_)⟩
      by_cases gi : i = k
      · subst gi
        have w1 : u (111 + 2 * i) 1 = l := by
          rw [q4 _ _ (by omega) (by omega) (by omega), e, congrFun (fillF_row (by omega)) 1, ux_ne (by omega), ux_at rfl]
        have w2 : u (111 + 2 * i) 2 = n := by
          rw [q4 _ _ (by omega) (by omega) (by omega), e, congrFun (fillF_row (by omega)) 2, ux_at rfl]
        refine ⟨by rw [w1, q1], by rw [w2, q2], by omega, by omega, fun j j0 j1 => ?_⟩
        rw [q3 j j0 j1, q4 _ _ (by omega) (by omega) (by omega), e]
        unfold fillF
        rw [if_pos ⟨rfl, j0, j1⟩]
      · obtain ⟨h1, h2, h3, h4, h5⟩ := hsh i i0 i1
        exact ⟨by rw [eu _ _ (by omega) (by omega) (by omega) (by omega) (by omega), eu _ _ (by omega) (by omega) (by omega) (by omega) (by omega)]; exact h1, by rw [eu _ _ (by omega) (by omega) (by omega) (by omega) (by omega), eu _ _ (by omega) (by omega) (by omega) (by omega) (by omega)]; exact h2, by rw [eu _ _ (by omega) (by omega) (by omega) (by omega) (by omega)]; exact h3, by rw [eu _ _ (by omega) (by omega) (by omega) (by omega) (by omega)]; exact h4, fun j j0 j1 => by rw [eu _ _ (by omega) (by omega) (by omega) (by omega) (by omega), eu _ _ (by omega) (by omega) (by omega) (by omega) (by omega)]; exact h5 j j0 j1⟩
  · rcases hp with ⟨-, b, e⟩ | ⟨a, -⟩ | ⟨a, -⟩
    · rcases hq with ⟨-, b', e'⟩ | ⟨a', -⟩ | ⟨a', -⟩
      · exact ⟨by rw [b, b'], by rw [e', e]; exact hI⟩
      · exact absurd a' g
      · exact absurd a' g
    · exact absurd a g
    · exact absurd a g
theorem as_lay (hI : INV v) (k i x0 : Int) : AskI G yX8_lay cX8_lay 4 2 42 yX9_lay cX9_lay 4 2 46 [vi k, vi i, vi x0] v := by
  have hsh := hI.2.2.2.2.2.1
  refine ⟨_, ok_X8_lay G k i x0 v (fun k a b => by have := hsh k a b; obtain ⟨-, h2, h3, h4, -⟩ := this; omega), fun x w hp => ?_⟩
  have ew : ∀ a j, ¬ (a = 111 + 2 * k + 1 ∧ 0 ≤ k ∧ k ≤ 3) → w a j = v a j := fun a j g => by
    rcases hp with ⟨-, -, rfl⟩ | ⟨-, -, -, rfl⟩ | ⟨-, -, -, -, rfl⟩ | ⟨k1, -, -, -, rfl⟩
    · rfl
    · rfl
    · rfl
    · exact ux_ne (by omega)
  refine ⟨_, ok_X9_lay G k i x0 w (fun k a b => by have := hsh k a b; rw [ew _ _ (by omega)]; exact ⟨this.2.2.1, this.2.2.2.1⟩), fun y u hq => ?_⟩
  by_cases g : 0 ≤ k ∧ k ≤ 3
  · obtain ⟨h1, h2, h3, h4, h5⟩ := hsh k g.1 (by omega)
    rw [ew 135 k (by omega), ew 136 k (by omega)] at hq
    rw [h1, h2] at hp
    have hp := hp.resolve_left (fun z => z.1 g)
    have hq := hq.resolve_left (fun z => z.1 g)
    rcases hp with ⟨-, a, b, e⟩ | ⟨-, a, a2, b, e⟩ | ⟨-, a, a2, b, e⟩ <;> rcases hq with ⟨-, a', b', e'⟩ | ⟨-, a', a2', b', e'⟩ | ⟨-, a', a2', b', e'⟩
    · exact ⟨by rw [b, b'], by rw [e', e]; exact hI⟩
    · exact absurd a a'
    · exact absurd a a'
    · exact absurd a' a
    · exact ⟨by rw [b, b'], by rw [e', e]; exact hI⟩
    · exact absurd a2' a2
    · exact absurd a' a
    · exact absurd a2 a2'
    · have eu : ∀ a j, ¬ (a = 111 + 2 * k + 1 ∧ j = i) → ¬ (a = 137 ∧ j = 40 * k + i) → u a j = v a j := fun a j g1 g2 => by
        rw [e', ux_ne (by omega), e, ux_ne (by omega)]
      refine ⟨by rw [b, b'], hI.sh (fun a j g => eu a j (by unfold SP at g; omega) (by unfold SP at g; omega)) (fun m m0 m1 => ?_)⟩
      obtain ⟨s1, s2, s3, s4, s5⟩ := hsh m m0 m1
      refine ⟨by rw [eu _ _ (by omega) (by omega), eu _ _ (by omega) (by omega)]; exact s1, by rw [eu _ _ (by omega) (by omega), eu _ _ (by omega) (by omega)]; exact s2, by rw [eu _ _ (by omega) (by omega)]; exact s3, by rw [eu _ _ (by omega) (by omega)]; exact s4, fun j j0 j1 => ?_⟩
      by_cases gm : m = k ∧ j = i
      · rw [gm.1, gm.2, e', ux_ne (by omega), ux_at rfl, e, ux_at rfl]
      · rw [eu _ _ (by omega) (by omega), eu _ _ (by omega) (by omega)]
        exact s5 j j0 j1
  · rcases hp with ⟨-, b, e⟩ | ⟨a, -⟩ | ⟨a, -⟩ | ⟨a, -⟩
    · rcases hq with ⟨-, b', e'⟩ | ⟨a', -⟩ | ⟨a', -⟩ | ⟨a', -⟩
      · exact ⟨by rw [b, b'], by rw [e', e]; exact hI⟩
      · exact absurd a' g
      · exact absurd a' g
      · exact absurd a' g
    · exact absurd a g
    · exact absurd a g
    · exact absurd a g
end ASK5
