-- more asks that change the village: sewing, swaps, marks, images
section ASK4
variable {G : GT} {v w u A A' B : VT} {o o2 k p sl : Int} {st st2 : Int → Int}
theorem as_sew (hI : INV v) (s z : Int) : AskI G yX8_sew cX8_sew 4 3 64 yX9_sew cX9_sew 3 2 45 [vi s, vi z] v := by
  obtain ⟨⟨A, hV⟩, hR⟩ := id hI
  obtain ⟨hA, hS, hM, hl, hz, hm, hm0, hm6, hmk⟩ := id hV
  have hb4 := hA.1
  have hb5 := hA.2.1
  have h4 := hS.1
  have h5 := hS.2.1
  refine ⟨_, ok_X8_sew G s z v (hS.wfv hA), fun x w hp => ?_⟩
  have ew : ∀ a j, (a < 17 ∨ 27 ≤ a) → ¬ (a = 4 ∧ j = 5) → w a j = v a j := fun a j g g2 => by
    rcases hp with ⟨-, -, rfl⟩ | ⟨-, -, -, rfl⟩ | ⟨-, k5, -, rfl⟩
    · rfl
    · rfl
    · exact sewV_o (by omega) (by omega)
  have e120 : w 120 = v 120 := row_eq (fun j => ew 120 j (by decide) (by omega))
  refine ⟨_, ok_X9_sew G s z A w hA (by rw [e120]; exact hM), fun y u hq => ?_⟩
  rw [h5] at hp
  rcases hp with ⟨a, b, e⟩ | ⟨a, a2, b, e⟩ | ⟨a, a2, b, e⟩ <;> rcases hq with ⟨a', b', e'⟩ | ⟨a', a2', b', e'⟩ | ⟨a', a2', b', hq⟩
  · exact ⟨by rw [b, b'], by rw [e', e]; exact hI⟩
  · exact absurd a' a
  · exact absurd a' a
  · exact absurd a a'
  · exact ⟨by rw [b, b'], by rw [e', e]; exact hI⟩
  · omega
  · exact absurd a a'
  · omega
  · have hM2 : MR A (w 120) := by rw [e120]; exact hM
    obtain ⟨m1, m2⟩ := hM2.sew hA a2 (by omega) a.2 (by decide) hq
    obtain ⟨q1, q2, -, q4, q5⟩ := hq
    have n5 := sewV_5 (v := A) (o := 0) (s := s) (z := z) (l := 3)
    have e3 : ∀ i, sewV A 0 s z 3 (0 + 3) i = A (0 + 3) i := fun i => sewV_o (by omega) (by omega)
    have eu : ∀ a j, ¬ a = 120 → (a < 17 ∨ 27 ≤ a) → ¬ (a = 4 ∧ j = 5) → u a j = v a j := fun a j g1 g2 g3 => (q1 a j g1).trans (ew a j g2 g3)
    have ek : ∀ j, 112 ≤ j → (j < 119 ∨ 199 ≤ j) → u 120 j = v 120 j := fun j g1 g2 => by
      rw [q5 j (by omega) (by omega) (fun c c0 c1 => by omega), e120]
    refine ⟨by rw [b, b'], ⟨sewV A 0 s z 3, m2, ?_, m1, fun i i0 i1 => ?_, fun c t c0 c1 t0 t1 => ?_, ?_⟩, ?_⟩
    · refine Sm.fr (w := w) ?_ m2 (fun a j g1 g2 => q1 a j (by omega))
      rw [e]
      exact hS.sew hb4.2 hb5.1
    · rw [eu _ _ (by omega) (by omega) (by omega), e3]
      obtain ⟨l1, l2, l3⟩ := hl i i0 i1
      refine ⟨l1, ?_, l3⟩
      by_cases g : i % 10 = A 0 5
      · have := q4 (i / 10) (by omega) (by omega)
        rw [show 119 + 10 * (i / 10) + A 0 5 = 119 + i by omega] at this
        have h0 := hz (i / 10) (A 0 5) (by omega) (by omega) (Int.le_refl _) a2
        rw [show 10 * (i / 10) + A 0 5 = i by omega] at h0
        rw [this, h0]
      · rw [q5 _ (by omega) (by omega) (fun c c0 c1 => by omega), e120]
        exact l2
    · rw [n5] at t0
      rw [e3]
      exact hz c t c0 c1 (by omega) t1
    · rw [ek 112 (by decide) (by decide)]
      refine ⟨by rw [eu _ _ (by omega) (by omega) (by omega)]; exact hm, hm0, hm6, fun k k0 k1 => ?_⟩
      rw [eu _ _ (by omega) (by omega) (by omega), ek (113 + k) (by omega) (by omega)]
      exact hmk k k0 k1
    · refine hR.same (fun a j g => ?_)
      unfold RP at g
      by_cases e0 : a = 120
      · subst e0
        exact ek j (by omega) (by omega)
      · exact eu a j e0 (by omega) (by omega)
theorem stl_wf {v : VT} {o sl : Int} (hw : WFV v o) (hl : LikOK v o) : ∀ k : Nat, (∀ i : Nat, i < k → ¬ fstS (stlN v o sl i) o sl = -4) → WFV (stlN v o sl k) o ∧ LikOK (stlN v o sl k) o ∧ (∀ r j, (r < o + 13 ∨ o + 23 ≤ r ∨ ¬ j = 7) → stlN v o sl k r j = v r j)
  | 0, _ => ⟨hw, hl, fun _ _ _ => rfl⟩
  | k + 1, h => by
    obtain ⟨h1, h2, h3⟩ := stl_wf hw hl k (fun i hi => h i (by omega))
    have n4 : stlN v o sl k o 4 = v o 4 := h3 o 4 (by omega)
    have hb4 := hw.1
    have hb5 := h1.2.1
    obtain ⟨x, hx⟩ := ex_swapQ (P := swp (stlN v o sl k) o sl) (nC := stlN v o sl k o 4) (by omega)
    obtain ⟨-, hq⟩ := fst_is (by omega) hx
    obtain ⟨a1, a2, -, a4, -⟩ := swp_next h1 h2 hq (h k (Nat.lt_succ_self k))
    exact ⟨a1, a2, fun r j g => (a4 r j (by omega)).trans (h3 r j g)⟩
theorem as_settle (hI : INV v) : AskI G yX8_settle cX8_settle 4 5 120 yX9_settle cX9_settle 6 5 120 [] v := by
  obtain ⟨⟨A, hV⟩, hR⟩ := id hI
  obtain ⟨hA, hS, hM, hl, -⟩ := id hV
  obtain ⟨⟨hal, hs⟩, -⟩ := id hR
  have hb4 := hA.1
  have hb5 := hA.2.1
  have hW := hS.wfv hA
  have hlv : LikOK v 4 := fun i a b => by rw [(hl i a b).1]; exact (hl i a b).2.2
  have hlA : LikOK A 0 := fun i a b => (hl i a b).2.2
  refine ⟨_, ok_X8_settle G (v 119 2) v hW hal hs hlv, fun x w hp => ?_⟩
  obtain ⟨x0, x1, e, hn, hend⟩ := hp
  have ewf := stl_wf hW hlv x.toNat (fun i hi => hn i (by omega))
  have ew : ∀ a j, (a < 17 ∨ 27 ≤ a) → w a j = v a j := fun a j g => by
    rw [e]
    exact ewf.2.2 a j (by omega)
  have e120 : w 120 = v 120 := row_eq (fun j => ew 120 j (by decide))
  refine ⟨_, ok_X9_settle G (v 119 2) A w hA (by rw [e120]; exact hM) (ew _ _ (by decide)) hs (by rw [e120]; exact fun i a b => (hl i a b).2.1) hlA, fun y u hq => ?_⟩
  obtain ⟨hF, hF2, y0, m1, m2, hn', hend'⟩ := hq
  have hsm : ∀ k : Nat, (k : Int) ≤ y → Sm (stlN v 4 (v 119 2) k) 4 (stlN A 0 (v 119 2) k) 0 ∧ fstS (stlN v 4 (v 119 2) k) 4 (v 119 2) = fstS (stlN A 0 (v 119 2) k) 0 (v 119 2) := fun k hk => by
    obtain ⟨s1, s2⟩ := hS.stl (sl := v 119 2) (fun i a b => (hl i a b).1) hA hlA (Int.le_refl 0) k (fun i hi => hn' i (by omega))
    obtain ⟨w1, -⟩ := stl_wf hA hlA k (fun i hi => hn' i (by omega))
    exact ⟨s1, s1.fst s2 w1⟩
  have hxy : x = y := by
    by_cases g1 : x < y
    · have := (hsm x.toNat (by omega)).2
      rw [hend] at this
      exact absurd this.symm (hn' x.toNat (by omega))
    · by_cases g2 : y < x
      · have := (hsm y.toNat (by omega)).2
        rw [hend'] at this
        exact absurd this (hn y.toNat (by omega))
      · omega
  obtain ⟨w1, -, w3⟩ := stl_wf hA hlA y.toNat (fun i hi => hn' i (by omega))
  refine ⟨hxy, INV.vil hR hV m2 (w := w) (by rw [e, hxy]; exact (hsm y.toNat (by omega)).1) m1 (w3 _ _ (by omega)) (fun i _ _ => w3 _ _ (by omega)) (fun a j k => ew a j (by unfold RP at k; omega)) (fun a j _ k => hF a j k) (fun j _ _ => hF2 j (by omega))⟩
theorem as_mark (hI : INV v) (z : Int) : AskI G yX8_mark cX8_mark 2 2 42 yX9_mark cX9_mark 2 1 25 [vi z] v := by
  obtain ⟨⟨A, hV⟩, hR⟩ := id hI
  obtain ⟨hA, hS, hM, hl, hz, hm, hm0, hm6, hmk⟩ := id hV
  have hb4 := hA.1
  have hb5 := hA.2.1
  refine ⟨_, ok_X8_mark G z v (by omega), fun x w hp => ?_⟩
  have ew : ∀ a j, ¬ a = 8 → ¬ (a = 4 ∧ j = 6) → w a j = v a j := fun a j g g2 => by
    rcases hp with ⟨-, -, rfl⟩ | ⟨-, -, -, rfl⟩ | ⟨-, -, -, rfl⟩
    · rfl
    · rfl
    · rw [ux_ne (by omega), ux_ne (by omega)]
  have e120 : w 120 = v 120 := row_eq (fun j => ew 120 j (by decide) (by omega))
  refine ⟨_, ok_X9_mark G z w (by rw [e120]; exact ⟨hm0, hm6⟩), fun y u hq => ?_⟩
  rw [e120] at hq
  rw [hm] at hp
  rcases hp with ⟨a, b, e⟩ | ⟨a, a2, b, e⟩ | ⟨a, a2, b, e⟩ <;> rcases hq with ⟨a', b', e'⟩ | ⟨a', a2', b', e'⟩ | ⟨a', a2', b', e'⟩
  · exact ⟨by rw [b, b'], by rw [e', e]; exact hI⟩
  · exact absurd a' a
  · exact absurd a' a
  · exact absurd a a'
  · exact ⟨by rw [b, b'], by rw [e', e]; exact hI⟩
  · omega
  · exact absurd a a'
  · omega
  · have eu : ∀ a j, ¬ a = 120 → ¬ a = 8 → ¬ (a = 4 ∧ j = 6) → u a j = v a j := fun a j g1 g2 g3 => by
      rw [e', ux_ne (by omega), ux_ne (by omega)]
      exact ew a j g2 g3
    have ek : ∀ j, ¬ j = 112 → ¬ j = 113 + v 120 112 → u 120 j = v 120 j := fun j g1 g2 => by
      rw [e', ux_ne (by omega), ux_ne (by omega), e120]
    refine ⟨by rw [b, b'], ⟨A, hA, hS.fr2 hA (fun a j g => eu a j (by omega) (by omega) (by omega)), hM.st hA (fun j g1 g2 => ek j (by omega) (by omega)), fun i i0 i1 => ?_, hz, ?_⟩, hR.same (fun a j g => ?_)⟩
    · rw [eu _ _ (by omega) (by omega) (by omega), ek _ (by omega) (by omega)]
      exact hl i i0 i1
    · have e1 : u 120 112 = v 120 112 + 1 := by rw [e', ux_at rfl]
      have e2 : u 4 6 = v 120 112 + 1 := by rw [e', ux_ne (by omega), ux_ne (by omega), e, ux_at rfl]
      refine ⟨by omega, by omega, by omega, fun k k0 k1 => ?_⟩
      by_cases g : k = v 120 112
      · subst g
        have e3 : u (4 + 4) (v 120 112) = z := by rw [e', ux_ne (by omega), ux_ne (by omega), e, ux_ne (by omega), ux_at rfl]
        have e4 : u 120 (113 + v 120 112) = z := by rw [e', ux_ne (by omega), ux_at rfl]
        rw [e3, e4]
        exact ⟨rfl, a⟩
      · rw [ek _ (by omega) (by omega)]
        have : u (4 + 4) k = v (4 + 4) k := by rw [e', ux_ne (by omega), ux_ne (by omega), e, ux_ne (by omega), ux_ne (by omega)]
        rw [this]
        exact hmk k k0 (by omega)
    · unfold RP at g
      by_cases e0 : a = 120
      · subst e0
        exact ek j (by omega) (by omega)
      · exact eu a j e0 (by omega) (by omega)
end ASK4
