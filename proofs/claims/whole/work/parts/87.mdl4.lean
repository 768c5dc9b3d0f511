set_option maxHeartbeats 4000000 in
set_option maxRecDepth 20000 in
theorem ok_X9_isSwap (G : GT) (s a b sl : Int) (A v : VT) (hA : WFV A 0) (hM : MR A (v 120)) (hal : v 119 2 = sl) (hsl : 0 ≤ sl ∧ sl ≤ 4) (hL : LkS A (v 120)) (hs : 0 ≤ s ∧ s < 2) (ha : 0 ≤ a ∧ a < A 0 4) (hb2 : 0 ≤ b ∧ b < A 0 4) : MI G yX9_isSwap cX9_isSwap 6 (some .boolean) 3 72 [vr 119, vi s, vi a, vi b] v (fun x => (x = 1 ∧ swp A 0 sl s a b) ∨ (x = 0 ∧ ¬ swp A 0 sl s a b)) := by
  refine MN.of pn_X9_isSwap [some (vr 119), some (vi s), some (vi a), some (vi b), none, none] 2 rfl rfl (fun X C hX hn hR => ?_)
  have hN : ∀ i : Nat, i < 6 → i < xn X := fun i h => by rw [hn]; exact h
  refine E.rngk (fun hinv => ?_)
  refine E.loc (fun hloc => ?_)
  have hin_1 : in32 s := hloc _ (List.mem_of_getElem? (i := 1) rfl)
  have hin_2 : in32 a := hloc _ (List.mem_of_getElem? (i := 2) rfl)
  have hin_3 : in32 b := hloc _ (List.mem_of_getElem? (i := 3) rfl)
  have hc := hM.1
  have hb := hM.2.1
  have hA1 := hA.1
  have hA2 := hA.2.1
  refine E.aload_n C dX9_isSwap_0 rfl rfl ?_
  refine E.iload_n C dX9_isSwap_1 rfl rfl ?_
  refine E.iload_n C dX9_isSwap_2 rfl rfl ?_
  refine N.callVp (S := []) (As := [vi a, vi s]) C hX (ok_X9_worn G a s v (by omega)) yf_X9_worn yv_X9_worn ml_X9_175 rfl rfl rfl kd_119 (by decide) (by decide) (Nat.le_of_ble_eq_true rfl) dX9_isSwap_3 rfl ?_
  obtain ⟨x, hx⟩ : ∃ zqv, zqv = (v 120 (1 + 5 * a + 3 + s)) := ⟨_, rfl⟩
  refine E.veq hx.symm ?_
  have hxw : x = wornI A 0 a s := hx.trans (hM.2.2.2.2 a s ha.1 ha.2 hs.1 hs.2)
  refine N.ist_4 C dX9_isSwap_6 (hN 4 (by decide)) rfl ?_
  refine E.aload_n C dX9_isSwap_8 rfl rfl ?_
  refine E.iload_n C dX9_isSwap_9 rfl rfl ?_
  refine E.iload_n C dX9_isSwap_10 rfl rfl ?_
  refine N.callVp (S := []) (As := [vi b, vi s]) C hX (ok_X9_worn G b s v (by omega)) yf_X9_worn yv_X9_worn ml_X9_175 rfl rfl rfl kd_119 (by decide) (by decide) (Nat.le_of_ble_eq_true rfl) dX9_isSwap_11 rfl ?_
  obtain ⟨y, hy⟩ : ∃ zqv, zqv = (v 120 (1 + 5 * b + 3 + s)) := ⟨_, rfl⟩
  refine E.veq hy.symm ?_
  have hyw : y = wornI A 0 b s := hy.trans (hM.2.2.2.2 b s hb2.1 hb2.2 hs.1 hs.2)
  refine N.ist_5 C dX9_isSwap_14 (hN 5 (by decide)) rfl ?_
  refine E.iload C dX9_isSwap_16 rfl ?_
  refine E.bipush C dX9_isSwap_18 (by decide) ?_
  refine E.icmp_eq C dX9_isSwap_20 (tgt := 52) (by decide) (fun h20 => ?_) (fun h20 => ?_)
  · skip
    refine E.iconst C dX9_isSwap_52 (by decide) ?_
    exact N.zret C hR dX9_isSwap_53 (by omega) (fun hi => by first | exact ⟨Or.inr ⟨rfl, fun z => z.1 (hxw.symm.trans h20)⟩, rfl⟩ | exact ⟨Or.inr ⟨rfl, fun z => z.2.1 (hyw.symm.trans h27)⟩, rfl⟩ | exact ⟨Or.inl ⟨rfl, hsw.mpr ⟨by omega, by omega, by omega, by omega⟩⟩, rfl⟩ | exact ⟨Or.inr ⟨rfl, fun z => by have := hsw.mp z; omega⟩, rfl⟩)
  · skip
    refine E.iload C dX9_isSwap_23 rfl ?_
    refine E.bipush C dX9_isSwap_25 (by decide) ?_
    refine E.icmp_eq C dX9_isSwap_27 (tgt := 52) (by decide) (fun h27 => ?_) (fun h27 => ?_)
    · skip
      refine E.iconst C dX9_isSwap_52 (by decide) ?_
      exact N.zret C hR dX9_isSwap_53 (by omega) (fun hi => by first | exact ⟨Or.inr ⟨rfl, fun z => z.1 (hxw.symm.trans h20)⟩, rfl⟩ | exact ⟨Or.inr ⟨rfl, fun z => z.2.1 (hyw.symm.trans h27)⟩, rfl⟩ | exact ⟨Or.inl ⟨rfl, hsw.mpr ⟨by omega, by omega, by omega, by omega⟩⟩, rfl⟩ | exact ⟨Or.inr ⟨rfl, fun z => by have := hsw.mp z; omega⟩, rfl⟩)
    · skip
      obtain ⟨x1, x2, x3, x4⟩ := wornI_rng (v := A) (o := 0) (c := a) (s := s) hA2.1 (by rw [← hxw]; exact h20)
      obtain ⟨y1, y2, y3, y4⟩ := wornI_rng (v := A) (o := 0) (c := b) (s := s) hA2.1 (by rw [← hyw]; exact h27)
      rw [← hxw] at x1 x2
      rw [← hyw] at y1 y2
      have f1 := hM.fit hal ha (t := y) ⟨y1, y2⟩
      have f2 := hM.fit hal hb2 (t := x) ⟨x1, x2⟩
      have l1 := lk_at hL (c := a) (t := y) (by omega) (by omega)
      have l2 := lk_at hL (c := a) (t := x) (by omega) (by omega)
      have l3 := lk_at hL (c := b) (t := x) (by omega) (by omega)
      have l4 := lk_at hL (c := b) (t := y) (by omega) (by omega)
      have hw01 := wantI_01 A 0 a x b y sl
      have hsw : swp A 0 sl s a b ↔ (fitV A 0 a y sl = 1 ∧ fitV A 0 b x sl = 1 ∧ A (0 + 3) (a * 10 + x) < A (0 + 3) (a * 10 + y) ∧ A (0 + 3) (b * 10 + y) < A (0 + 3) (b * 10 + x)) := by
        unfold swp
        rw [← hxw, ← hyw]
        unfold wantI
        constructor
        · rintro ⟨-, -, q⟩
          split at q
          · assumption
          · omega
        · intro q
          exact ⟨h20, h27, by rw [if_pos q]⟩
      refine E.aload_n C dX9_isSwap_30 rfl rfl ?_
      refine E.iload_n C dX9_isSwap_31 rfl rfl ?_
      refine E.iload C dX9_isSwap_32 rfl ?_
      refine N.callVp (S := []) (As := [vi a, vi y]) C hX (ok_X9_fitNow G a y v (by omega) (hM.th hA _ (by omega) (by omega)) ⟨(hM.fz hA _ (by omega) (by omega)).1, (hM.fz hA _ (by omega) (by omega)).2, by omega, by omega⟩) yf_X9_fitNow yv_X9_fitNow ml_X9_206 rfl rfl rfl kd_119 (by decide) (by decide) (Nat.le_of_ble_eq_true rfl) dX9_isSwap_34 rfl ?_
      refine E.veq (x' := fitI (v 120 (42 + 7 * y + 1)) (v 120 (42 + 7 * y + 2)) (v 120 (42 + 7 * y + 3)) (v 120 (42 + 7 * y + 4)) (v 120 (42 + 7 * y + 5)) (v 120 (42 + 7 * y + 6)) a (v 120 (1 + 5 * a)) (v 119 2)) (by unfold fitS; rfl) ?_
      refine E.veq (x' := fitV A 0 a y sl) (by rw [← f1]; unfold fitS; rfl) ?_
      refine E.iconst C dX9_isSwap_37 (by decide) ?_
      refine E.icmp_ne C dX9_isSwap_38 (tgt := 52) (by decide) (fun h38 => ?_) (fun h38 => ?_)
      · skip
        refine E.iconst C dX9_isSwap_52 (by decide) ?_
        exact N.zret C hR dX9_isSwap_53 (by omega) (fun hi => by first | exact ⟨Or.inr ⟨rfl, fun z => z.1 (hxw.symm.trans h20)⟩, rfl⟩ | exact ⟨Or.inr ⟨rfl, fun z => z.2.1 (hyw.symm.trans h27)⟩, rfl⟩ | exact ⟨Or.inl ⟨rfl, hsw.mpr ⟨by omega, by omega, by omega, by omega⟩⟩, rfl⟩ | exact ⟨Or.inr ⟨rfl, fun z => by have := hsw.mp z; omega⟩, rfl⟩)
      · skip
        refine E.aload_n C dX9_isSwap_41 rfl rfl ?_
        refine E.iload_n C dX9_isSwap_42 rfl rfl ?_
        refine E.iload C dX9_isSwap_43 rfl ?_
        refine N.callVp (S := []) (As := [vi b, vi x]) C hX (ok_X9_fitNow G b x v (by omega) (hM.th hA _ (by omega) (by omega)) ⟨(hM.fz hA _ (by omega) (by omega)).1, (hM.fz hA _ (by omega) (by omega)).2, by omega, by omega⟩) yf_X9_fitNow yv_X9_fitNow ml_X9_206 rfl rfl rfl kd_119 (by decide) (by decide) (Nat.le_of_ble_eq_true rfl) dX9_isSwap_45 rfl ?_
        refine E.veq (x' := fitI (v 120 (42 + 7 * x + 1)) (v 120 (42 + 7 * x + 2)) (v 120 (42 + 7 * x + 3)) (v 120 (42 + 7 * x + 4)) (v 120 (42 + 7 * x + 5)) (v 120 (42 + 7 * x + 6)) b (v 120 (1 + 5 * b)) (v 119 2)) (by unfold fitS; rfl) ?_
        refine E.veq (x' := fitV A 0 b x sl) (by rw [← f2]; unfold fitS; rfl) ?_
        refine E.iconst C dX9_isSwap_48 (by decide) ?_
        refine E.icmp_eq C dX9_isSwap_49 (tgt := 54) (by decide) (fun h49 => ?_) (fun h49 => ?_)
        · skip
          refine E.aload_n C dX9_isSwap_54 rfl rfl ?_
          refine E.iload_n C dX9_isSwap_55 rfl rfl ?_
          refine E.iload C dX9_isSwap_56 rfl ?_
          refine N.callVp (S := []) (As := [vi a, vi y]) C hX (ok_X9_likes G a y v (by omega)) yf_X9_likes yv_X9_likes ml_X9_294 rfl rfl rfl kd_119 (by decide) (by decide) (Nat.le_of_ble_eq_true rfl) dX9_isSwap_58 rfl ?_
          refine E.veq (x' := A (0 + 3) (a * 10 + y)) (l1) ?_
          refine E.aload_n C dX9_isSwap_61 rfl rfl ?_
          refine E.iload_n C dX9_isSwap_62 rfl rfl ?_
          refine E.iload C dX9_isSwap_63 rfl ?_
          refine N.callVp (S := [vi (A (0 + 3) (a * 10 + y))]) (As := [vi a, vi x]) C hX (ok_X9_likes G a x v (by omega)) yf_X9_likes yv_X9_likes ml_X9_294 rfl rfl rfl kd_119 (by decide) (by decide) (Nat.le_of_ble_eq_true rfl) dX9_isSwap_65 rfl ?_
          refine E.veq (x' := A (0 + 3) (a * 10 + x)) (l2) ?_
          refine E.icmp_le C dX9_isSwap_68 (tgt := 92) (by decide) (fun h68 => ?_) (fun h68 => ?_)
          · skip
            refine E.iconst C dX9_isSwap_92 (by decide) ?_
            exact N.zret C hR dX9_isSwap_93 (by omega) (fun hi => by first | exact ⟨Or.inr ⟨rfl, fun z => z.1 (hxw.symm.trans h20)⟩, rfl⟩ | exact ⟨Or.inr ⟨rfl, fun z => z.2.1 (hyw.symm.trans h27)⟩, rfl⟩ | exact ⟨Or.inl ⟨rfl, hsw.mpr ⟨by omega, by omega, by omega, by omega⟩⟩, rfl⟩ | exact ⟨Or.inr ⟨rfl, fun z => by have := hsw.mp z; omega⟩, rfl⟩)
          · skip
            refine E.aload_n C dX9_isSwap_71 rfl rfl ?_
            refine E.iload_n C dX9_isSwap_72 rfl rfl ?_
            refine E.iload C dX9_isSwap_73 rfl ?_
            refine N.callVp (S := []) (As := [vi b, vi x]) C hX (ok_X9_likes G b x v (by omega)) yf_X9_likes yv_X9_likes ml_X9_294 rfl rfl rfl kd_119 (by decide) (by decide) (Nat.le_of_ble_eq_true rfl) dX9_isSwap_75 rfl ?_
            refine E.veq (x' := A (0 + 3) (b * 10 + x)) (l3) ?_
            refine E.aload_n C dX9_isSwap_78 rfl rfl ?_
            refine E.iload_n C dX9_isSwap_79 rfl rfl ?_
            refine E.iload C dX9_isSwap_80 rfl ?_
            refine N.callVp (S := [vi (A (0 + 3) (b * 10 + x))]) (As := [vi b, vi y]) C hX (ok_X9_likes G b y v (by omega)) yf_X9_likes yv_X9_likes ml_X9_294 rfl rfl rfl kd_119 (by decide) (by decide) (Nat.le_of_ble_eq_true rfl) dX9_isSwap_82 rfl ?_
            refine E.veq (x' := A (0 + 3) (b * 10 + y)) (l4) ?_
            refine E.icmp_le C dX9_isSwap_85 (tgt := 92) (by decide) (fun h85 => ?_) (fun h85 => ?_)
            · skip
              refine E.iconst C dX9_isSwap_92 (by decide) ?_
              exact N.zret C hR dX9_isSwap_93 (by omega) (fun hi => by first | exact ⟨Or.inr ⟨rfl, fun z => z.1 (hxw.symm.trans h20)⟩, rfl⟩ | exact ⟨Or.inr ⟨rfl, fun z => z.2.1 (hyw.symm.trans h27)⟩, rfl⟩ | exact ⟨Or.inl ⟨rfl, hsw.mpr ⟨by omega, by omega, by omega, by omega⟩⟩, rfl⟩ | exact ⟨Or.inr ⟨rfl, fun z => by have := hsw.mp z; omega⟩, rfl⟩)
            · skip
              refine E.iconst C dX9_isSwap_88 (by decide) ?_
              refine E.goto C dX9_isSwap_89 (tgt := 93) (by decide) ?_
              exact N.zret C hR dX9_isSwap_93 (by omega) (fun hi => by first | exact ⟨Or.inr ⟨rfl, fun z => z.1 (hxw.symm.trans h20)⟩, rfl⟩ | exact ⟨Or.inr ⟨rfl, fun z => z.2.1 (hyw.symm.trans h27)⟩, rfl⟩ | exact ⟨Or.inl ⟨rfl, hsw.mpr ⟨by omega, by omega, by omega, by omega⟩⟩, rfl⟩ | exact ⟨Or.inr ⟨rfl, fun z => by have := hsw.mp z; omega⟩, rfl⟩)
        · skip
          refine E.iconst C dX9_isSwap_52 (by decide) ?_
          exact N.zret C hR dX9_isSwap_53 (by omega) (fun hi => by first | exact ⟨Or.inr ⟨rfl, fun z => z.1 (hxw.symm.trans h20)⟩, rfl⟩ | exact ⟨Or.inr ⟨rfl, fun z => z.2.1 (hyw.symm.trans h27)⟩, rfl⟩ | exact ⟨Or.inl ⟨rfl, hsw.mpr ⟨by omega, by omega, by omega, by omega⟩⟩, rfl⟩ | exact ⟨Or.inr ⟨rfl, fun z => by have := hsw.mp z; omega⟩, rfl⟩)

set_option maxHeartbeats 4000000 in
set_option maxRecDepth 20000 in
theorem ok_X9_firstSwap (G : GT) (sl : Int) (A v : VT) (hA : WFV A 0) (hM : MR A (v 120)) (hal : v 119 2 = sl) (hsl : 0 ≤ sl ∧ sl ≤ 4) (hL : LkS A (v 120)) : MI G yX9_firstSwap cX9_firstSwap 4 (some .int) 4 97 [vr 119] v (fun x => swapQ (swp A 0 sl) (A 0 4) x) := by
  refine MN.of pn_X9_firstSwap [some (vr 119), none, none, none] 3 rfl rfl (fun X C hX hn hR => ?_)
  have hN : ∀ i : Nat, i < 4 → i < xn X := fun i h => by rw [hn]; exact h
  refine E.rngk (fun hinv => ?_)
  refine E.loc (fun hloc => ?_)
  have hc := hM.1
  have hb := hM.2.1
  have hA1 := hA.1
  have hA2 := hA.2.1
  refine E.iconst C dX9_firstSwap_0 (by decide) ?_
  refine N.ist_1 C dX9_firstSwap_1 (hN 1 (by decide)) rfl ?_
  have lp2 : ∀ (k2 : Nat) (s : Int), (2 - s).toNat = k2 → (0 ≤ s ∧ s ≤ 2 ∧ ∀ s1 a1 b1, 0 ≤ s1 → s1 < s → 0 ≤ a1 → a1 < b1 → b1 < A 0 4 → ¬ swp A 0 sl s1 a1 b1) → E X G 0 0 1000 v 2 [some (vr 119), some (vi s), none, none] [] := by
    intro k2
    induction k2 using Nat.strongRecOn with
    | ind k2 ih2 =>
      intro s hk2 hI2
      obtain ⟨hs0, hs1, hs2⟩ := hI2
      refine E.iload_n C dX9_firstSwap_2 rfl rfl ?_
      refine E.iconst C dX9_firstSwap_3 (by decide) ?_
      refine E.icmp_ge C dX9_firstSwap_4 (tgt := 73) (by decide) (fun h4 => ?_) (fun h4 => ?_)
      · skip
        refine E.bipush C dX9_firstSwap_73 (by decide) ?_
        exact N.iret C hR dX9_firstSwap_75 (fun hi hx => by exact ⟨Or.inl ⟨rfl, fun s1 a1 b1 g1 g2 g3 g4 g5 => hs2 s1 a1 b1 g1 (by omega) g3 g4 g5⟩, rfl⟩)
      · skip
        refine E.iconst C dX9_firstSwap_7 (by decide) ?_
        refine N.ist_2 C dX9_firstSwap_8 (hN 2 (by decide)) rfl ?_
        have lp9 : ∀ (k9 : Nat) (a : Int), (A 0 4 - a).toNat = k9 → (0 ≤ a ∧ a ≤ A 0 4 ∧ ∀ a1 b1, 0 ≤ a1 → a1 < a → a1 < b1 → b1 < A 0 4 → ¬ swp A 0 sl s a1 b1) → E X G 0 0 1000 v 9 [some (vr 119), some (vi s), some (vi a), none] [] := by
          intro k9
          induction k9 using Nat.strongRecOn with
          | ind k9 ih9 =>
            intro a hk9 hI9
            obtain ⟨ha0, ha1, ha2⟩ := hI9
            refine E.iload_n C dX9_firstSwap_9 rfl rfl ?_
            refine E.aload_n C dX9_firstSwap_10 rfl rfl ?_
            refine N.getR C fa_X9_7 rfl dX9_firstSwap_11 kd_119 (x := 120) (by decide +kernel) (by decide) ?_
            refine E.iconst C dX9_firstSwap_14 (by decide) ?_
            refine N.iald C dX9_firstSwap_15 kd_120 ln_120 (by omega) (x := v 120 0) rfl ?_
            refine E.icmp_ge C dX9_firstSwap_16 (tgt := 67) (by decide) (fun h16 => ?_) (fun h16 => ?_)
            · skip
              refine N.iinc_1 C dX9_firstSwap_67 (hN 1 (by decide)) rfl (by omega) ?_
              refine E.goto C dX9_firstSwap_70 (tgt := 2) (by decide) ?_
              refine E.drop (i := 2) ?_
              exact ih2 _ (by omega) (s + 1) rfl (by refine ⟨by omega, by omega, fun s1 a1 b1 g1 g2 g3 g4 g5 => ?_⟩; by_cases hz : s1 = s; (subst hz; exact ha2 a1 b1 g3 (by omega) g4 g5); exact hs2 s1 a1 b1 g1 (by omega) g3 g4 g5)
            · skip
              refine E.iload_n C dX9_firstSwap_19 rfl rfl ?_
              refine E.iconst C dX9_firstSwap_20 (by decide) ?_
              refine E.iadd C dX9_firstSwap_21 (by omega) ?_
              refine N.ist_3 C dX9_firstSwap_22 (hN 3 (by decide)) rfl ?_
              have lp23 : ∀ (k23 : Nat) (b : Int), (A 0 4 - b).toNat = k23 → (a < b ∧ b ≤ A 0 4 ∧ ∀ b1, a < b1 → b1 < b → ¬ swp A 0 sl s a b1) → E X G 0 0 1000 v 23 [some (vr 119), some (vi s), some (vi a), some (vi b)] [] := by
                intro k23
                induction k23 using Nat.strongRecOn with
                | ind k23 ih23 =>
                  intro b hk23 hI23
                  obtain ⟨hb0, hb1, hb2⟩ := hI23
                  refine E.iload_n C dX9_firstSwap_23 rfl rfl ?_
                  refine E.aload_n C dX9_firstSwap_24 rfl rfl ?_
                  refine N.getR C fa_X9_7 rfl dX9_firstSwap_25 kd_119 (x := 120) (by decide +kernel) (by decide) ?_
                  refine E.iconst C dX9_firstSwap_28 (by decide) ?_
                  refine N.iald C dX9_firstSwap_29 kd_120 ln_120 (by omega) (x := v 120 0) rfl ?_
                  refine E.icmp_ge C dX9_firstSwap_30 (tgt := 61) (by decide) (fun h30 => ?_) (fun h30 => ?_)
                  · skip
                    refine N.iinc_2 C dX9_firstSwap_61 (hN 2 (by decide)) rfl (by omega) ?_
                    refine E.goto C dX9_firstSwap_64 (tgt := 9) (by decide) ?_
                    refine E.drop (i := 3) ?_
                    exact ih9 _ (by omega) (a + 1) rfl (by refine ⟨by omega, by omega, fun a1 b1 h1 h2 h3 h4 => ?_⟩; by_cases hz : a1 = a; (subst hz; exact hb2 b1 h3 (by omega)); exact ha2 a1 b1 h1 (by omega) h3 h4)
                  · skip
                    refine E.aload_n C dX9_firstSwap_33 rfl rfl ?_
                    refine E.iload_n C dX9_firstSwap_34 rfl rfl ?_
                    refine E.iload_n C dX9_firstSwap_35 rfl rfl ?_
                    refine E.iload_n C dX9_firstSwap_36 rfl rfl ?_
                    refine N.callVq (S := []) (As := [vi s, vi a, vi b]) C hX (ok_X9_isSwap G s a b sl A v hA hM hal hsl hL (by omega) (by omega) (by omega)) yf_X9_isSwap yv_X9_isSwap ml_X9_297 rfl rfl rfl kd_119 (by decide) (by decide) (Nat.le_of_ble_eq_true rfl) dX9_firstSwap_37 rfl (fun t37 hb37 hp37 => ?_)
                    refine E.if_eq C dX9_firstSwap_40 (tgt := 55) (by decide) (fun h40 => ?_) (fun h40 => ?_)
                    · skip
                      refine N.iinc_3 C dX9_firstSwap_55 (hN 3 (by decide)) rfl (by omega) ?_
                      refine E.goto C dX9_firstSwap_58 (tgt := 23) (by decide) ?_
                      exact ih23 _ (by omega) (b + 1) rfl (by refine ⟨by omega, by omega, fun b1 h1 h2 => ?_⟩; by_cases hz : b1 = b; (subst hz; exact (hp37.resolve_left (fun z => by omega)).2); exact hb2 b1 h1 (by omega))
                    · skip
                      refine E.bipush C dX9_firstSwap_43 (by decide) ?_
                      refine E.iload_n C dX9_firstSwap_45 rfl rfl ?_
                      refine E.imul C dX9_firstSwap_46 (by omega) ?_
                      refine E.bipush C dX9_firstSwap_47 (by decide) ?_
                      refine E.iload_n C dX9_firstSwap_49 rfl rfl ?_
                      refine E.imul C dX9_firstSwap_50 (by omega) ?_
                      refine E.iadd C dX9_firstSwap_51 (by omega) ?_
                      refine E.iload_n C dX9_firstSwap_52 rfl rfl ?_
                      refine E.iadd C dX9_firstSwap_53 (by omega) ?_
                      exact N.iret C hR dX9_firstSwap_54 (fun hi hx => by refine ⟨Or.inr ⟨s, a, b, rfl, hs0, by omega, ha0, hb0, by omega, (hp37.resolve_right (fun z => by omega)).2, fun s1 a1 b1 g1 g2 g3 g4 g5 => ?_⟩, rfl⟩; rcases g5 with g5 | ⟨rfl, g5 | ⟨rfl, g5⟩⟩; (exact hs2 s1 a1 b1 g1 g5 g2 g3 g4); (exact ha2 a1 b1 g2 g5 g3 g4); exact hb2 b1 g3 g5)
              exact lp23 _ (a + 1) rfl (by exact ⟨by omega, by omega, fun b1 h1 h2 => by omega⟩)
        exact lp9 _ 0 rfl (by exact ⟨by omega, by omega, fun a1 b1 h1 h2 => by omega⟩)
  exact lp2 _ 0 rfl (by exact ⟨by omega, by omega, fun s1 a1 b1 h1 h2 => by omega⟩)

set_option maxHeartbeats 4000000 in
set_option maxRecDepth 20000 in
theorem ok_X9_swap (G : GT) (sl : Int) (A v : VT) (hA : WFV A 0) (hM : MR A (v 120)) (hal : v 119 2 = sl) (hsl : 0 ≤ sl ∧ sl ≤ 4) (hL : LkS A (v 120)) : MNi G yX9_swap cX9_swap 1 (some .int) 5 120 [vr 119] v (fun x w => w = v ∧ x = fstS A 0 sl) := by
  refine MN.of pn_X9_swap [some (vr 119)] 0 rfl rfl (fun X C hX hn hR => ?_)
  have hN : ∀ i : Nat, i < 1 → i < xn X := fun i h => by rw [hn]; exact h
  refine E.rngk (fun hinv => ?_)
  refine E.loc (fun hloc => ?_)
  have hc := hM.1
  have hb := hM.2.1
  have hA1 := hA.1
  have hA2 := hA.2.1
  refine E.aload_n C dX9_swap_0 rfl rfl ?_
  refine N.callVq (S := []) (As := []) C hX (ok_X9_firstSwap G sl A v hA hM hal hsl hL) yf_X9_firstSwap yv_X9_firstSwap ml_X9_300 rfl rfl rfl kd_119 (by decide) (by decide) (Nat.le_of_ble_eq_true rfl) dX9_swap_1 rfl (fun t1 hb1 hp1 => ?_)
  exact N.iret C hR dX9_swap_4 (fun hi hx => by exact ⟨rfl, (fst_is (by omega) hp1).1⟩)

set_option maxHeartbeats 4000000 in
set_option maxRecDepth 20000 in
theorem ok_X9_settle (G : GT) (sl : Int) (A v : VT) (hA : WFV A 0) (hM : MR A (v 120)) (hal : v 119 2 = sl) (hsl : 0 ≤ sl ∧ sl ≤ 4) (hL : LkS A (v 120)) (hlk : LikOK A 0) : MNi G yX9_settle cX9_settle 6 (some .int) 5 120 [vr 119] v (fun x w => (∀ a j, ¬ a = 120 → w a j = v a j) ∧ (∀ j, (j < 1 ∨ j = 41 ∨ 112 ≤ j) → w 120 j = v 120 j) ∧ 0 ≤ x ∧ MR (stlN A 0 sl x.toNat) (w 120) ∧ WFV (stlN A 0 sl x.toNat) 0 ∧ (∀ i : Nat, (i : Int) < x → ¬ fstS (stlN A 0 sl i) 0 sl = -4) ∧ fstS (stlN A 0 sl x.toNat) 0 sl = -4) := by
  refine MN.of pn_X9_settle [some (vr 119), none, none, none, none, none] 5 rfl rfl (fun X C hX hn hR => ?_)
  have hN : ∀ i : Nat, i < 6 → i < xn X := fun i h => by rw [hn]; exact h
  refine E.rngk (fun hinv => ?_)
  refine E.loc (fun hloc => ?_)
  have hc := hM.1
  have hb := hM.2.1
  have hA1 := hA.1
  have hA2 := hA.2.1
  have hpb := pot_bd hA hlk
  refine E.iconst C dX9_settle_0 (by decide) ?_
  refine N.ist_1 C dX9_settle_1 (hN 1 (by decide)) rfl ?_
  refine E.aload_n C dX9_settle_2 rfl rfl ?_
  refine N.callVq (S := []) (As := []) C hX (ok_X9_firstSwap G sl A v hA hM hal hsl hL) yf_X9_firstSwap yv_X9_firstSwap ml_X9_300 rfl rfl rfl kd_119 (by decide) (by decide) (Nat.le_of_ble_eq_true rfl) dX9_settle_3 rfl (fun t3 hb3 hp3 => ?_)
  refine N.ist_2 C dX9_settle_6 (hN 2 (by decide)) rfl ?_
  have lp7 : ∀ (k7 : Nat) (n : Int) (k : Int) (w : VT), (100 - n).toNat = k7 → (0 ≤ n ∧ (∀ a j, ¬ a = 120 → w a j = v a j) ∧ (∀ j, (j < 1 ∨ j = 41 ∨ 112 ≤ j) → w 120 j = v 120 j) ∧ MR (stlN A 0 sl n.toNat) (w 120) ∧ WFV (stlN A 0 sl n.toNat) 0 ∧ LikOK (stlN A 0 sl n.toNat) 0 ∧ (∀ i, (stlN A 0 sl n.toNat) (0 + 3) i = A (0 + 3) i) ∧ (stlN A 0 sl n.toNat) 0 4 = A 0 4 ∧ (stlN A 0 sl n.toNat) 0 5 = A 0 5 ∧ 2 * n ≤ sumN (potF (stlN A 0 sl n.toNat) 0) (A 0 5).toNat ∧ (∀ i : Nat, (i : Int) < n → ¬ fstS (stlN A 0 sl i) 0 sl = -4) ∧ swapQ (swp (stlN A 0 sl n.toNat) 0 sl) (A 0 4) k) → E X G 0 0 1000 w 7 [some (vr 119), some (vi n), some (vi k), none, none, none] [] := by
    intro k7
    induction k7 using Nat.strongRecOn with
    | ind k7 ih7 =>
      intro n k w hk7 hI7
      obtain ⟨hn0, hfr, hst, hMw, Ww, hlw, hl3, b4, b5, hpw, hno, hq⟩ := hI7; have hpb2 := pot_bd Ww hlw; rw [b5] at hpb2; have hq2 : swapQ (swp (stlN A 0 sl n.toNat) 0 sl) ((stlN A 0 sl n.toNat) 0 4) k := (by rw [b4]; exact hq); have hfx := fst_is (by omega) hq2; have hkr : k = -4 ∨ (0 ≤ k ∧ k < 300 ∧ ∃ s a b, k = 100 * s + 10 * a + b ∧ 0 ≤ s ∧ s < 2 ∧ 0 ≤ a ∧ a < b ∧ b < A 0 4 ∧ swp (stlN A 0 sl n.toNat) 0 sl s a b) := (by rcases hq with q | ⟨s, a, b, q1, q2, q3, q4, q5, q6, q7, -⟩; exact Or.inl q.1; exact Or.inr ⟨by omega, by omega, s, a, b, q1, q2, q3, q4, q5, q6, q7⟩)
      refine E.iload_n C dX9_settle_7 rfl rfl ?_
      refine E.bipush C dX9_settle_8 (by decide) ?_
      refine E.icmp_eq C dX9_settle_10 (tgt := 90) (by decide) (fun h10 => ?_) (fun h10 => ?_)
      · skip
        refine E.iload_n C dX9_settle_90 rfl rfl ?_
        exact N.iret C hR dX9_settle_91 (fun hi hx => by exact ⟨hfr, hst, hn0, hMw, Ww, hno, by rw [← hfx.1]; omega⟩)
      · skip
        have hn45 : n ≤ 45 := by omega
        obtain ⟨hk0, hk1, s, a, b, q1, q2, q3, q4, q5, q6, q7⟩ := hkr.resolve_left h10
        have ks : k / 100 = s := by omega
        have ka : k / 10 % 10 = a := by omega
        have kb : k % 10 = b := by omega
        obtain ⟨px, py, w1, w2, wx, wy, wne, wx7, wy7, wx0, wy0, -, -, -, -, wsw⟩ := swp_facts Ww ⟨q4, q5, by rw [b4]; exact q6⟩ q7
        have rx := hMw.2.2.2.2 a s q4 (by rw [b4]; omega) q2 (by omega)
        have ry := hMw.2.2.2.2 b s (by omega) (by rw [b4]; omega) q2 (by omega)
        rw [w1] at rx
        rw [w2] at ry
        have hnx := swp_next (sl := sl) Ww hlw hq2 h10
        have hnx1 : WFV (stlN A 0 sl (n + 1).toNat) 0 := by rw [stl_step hn0]; exact hnx.1
        have hnx2 : LikOK (stlN A 0 sl (n + 1).toNat) 0 := by rw [stl_step hn0]; exact hnx.2.1
        have hnx4 := hnx.2.2.2.1
        have b4n : stlN A 0 sl (n + 1).toNat 0 4 = A 0 4 := by rw [stl_step hn0, hnx4 _ _ (by omega)]; exact b4
        have b5n : stlN A 0 sl (n + 1).toNat 0 5 = A 0 5 := by rw [stl_step hn0, hnx4 _ _ (by omega)]; exact b5
        have hl3n : ∀ i, stlN A 0 sl (n + 1).toNat (0 + 3) i = stlN A 0 sl n.toNat (0 + 3) i := fun i => by rw [stl_step hn0, hnx4 _ _ (by omega)]
        have hpn := hnx.2.2.1
        rw [b5, ← stl_step hn0, b5n] at hpn
        refine E.iconst C dX9_settle_13 (by decide) ?_
        refine E.iconst C dX9_settle_14 (by decide) ?_
        refine E.iload_n C dX9_settle_15 rfl rfl ?_
        refine E.bipush C dX9_settle_16 (by decide) ?_
        refine E.idiv C dX9_settle_18 (by omega) (by omega) ?_
        refine E.bipush C dX9_settle_19 (by decide) ?_
        refine E.irem C dX9_settle_21 (by omega) (by omega) ?_
        refine E.imul C dX9_settle_22 (by omega) ?_
        refine E.iadd C dX9_settle_23 (by omega) ?_
        refine E.iconst C dX9_settle_24 (by decide) ?_
        refine E.iadd C dX9_settle_25 (by omega) ?_
        refine E.iload_n C dX9_settle_26 rfl rfl ?_
        refine E.bipush C dX9_settle_27 (by decide) ?_
        refine E.idiv C dX9_settle_29 (by omega) (by omega) ?_
        refine E.iadd C dX9_settle_30 (by omega) ?_
        refine E.veq (x' := 1 + 5 * a + 3 + s) (by omega) ?_
        refine N.ist_3 C dX9_settle_31 (hN 3 (by decide)) rfl ?_
        refine E.iconst C dX9_settle_32 (by decide) ?_
        refine E.iconst C dX9_settle_33 (by decide) ?_
        refine E.iload_n C dX9_settle_34 rfl rfl ?_
        refine E.bipush C dX9_settle_35 (by decide) ?_
        refine E.irem C dX9_settle_37 (by omega) (by omega) ?_
        refine E.imul C dX9_settle_38 (by omega) ?_
        refine E.iadd C dX9_settle_39 (by omega) ?_
        refine E.iconst C dX9_settle_40 (by decide) ?_
        refine E.iadd C dX9_settle_41 (by omega) ?_
        refine E.iload_n C dX9_settle_42 rfl rfl ?_
        refine E.bipush C dX9_settle_43 (by decide) ?_
        refine E.idiv C dX9_settle_45 (by omega) (by omega) ?_
        refine E.iadd C dX9_settle_46 (by omega) ?_
        refine E.veq (x' := 1 + 5 * b + 3 + s) (by omega) ?_
        refine N.ist_4 C dX9_settle_47 (hN 4 (by decide)) rfl ?_
        refine E.aload_n C dX9_settle_49 rfl rfl ?_
        refine N.getR C fa_X9_7 rfl dX9_settle_50 kd_119 (x := 120) (by decide +kernel) (by decide) ?_
        refine E.iload_n C dX9_settle_53 rfl rfl ?_
        refine N.iald C dX9_settle_54 kd_120 ln_120 (by omega) (x := w 120 (1 + 5 * a + 3 + s)) rfl ?_
        refine E.veq (x' := px) (rx) ?_
        refine N.ist_5 C dX9_settle_55 (hN 5 (by decide)) rfl ?_
        refine E.aload_n C dX9_settle_57 rfl rfl ?_
        refine N.getR C fa_X9_7 rfl dX9_settle_58 kd_119 (x := 120) (by decide +kernel) (by decide) ?_
        refine E.iload_n C dX9_settle_61 rfl rfl ?_
        refine E.aload_n C dX9_settle_62 rfl rfl ?_
        refine N.getR C fa_X9_7 rfl dX9_settle_63 kd_119 (x := 120) (by decide +kernel) (by decide) ?_
        refine E.iload C dX9_settle_66 rfl ?_
        refine N.iald C dX9_settle_68 kd_120 ln_120 (by omega) (x := w 120 (1 + 5 * b + 3 + s)) rfl ?_
        refine E.veq (x' := py) (ry) ?_
        refine N.iast C dX9_settle_69 kd_120 ln_120 (by omega) ?_
        refine E.aload_n C dX9_settle_70 rfl rfl ?_
        refine N.getR C fa_X9_7 rfl dX9_settle_71 kd_119 (x := 120) (by decide +kernel) (by decide) ?_
        refine E.iload C dX9_settle_74 rfl ?_
        refine E.iload C dX9_settle_76 rfl ?_
        refine N.iast C dX9_settle_78 kd_120 ln_120 (by omega) ?_
        obtain ⟨w79, hw79⟩ : ∃ zqv, zqv = (upd2 (upd2 w 120 (1 + 5 * a + 3 + s) py) 120 (1 + 5 * b + 3 + s) px) := ⟨_, rfl⟩
        refine E.heq hw79.symm ?_
        have g1f : (∀ a j, ¬ a = 120 → w79 a j = v a j) := fun a j g => by rw [hw79, u_ne (Or.inl g), u_ne (Or.inl g)]; exact hfr a j g
        have g2f : (∀ j, (j < 1 ∨ j = 41 ∨ 112 ≤ j) → w79 120 j = v 120 j) := fun j g => by rw [hw79, u_ne (Or.inr (by omega)), u_ne (Or.inr (by omega))]; exact hst j g
        have hMn : MR (stlN A 0 sl (n + 1).toNat) (w79 120) := by
          rw [stl_step hn0, hnx.2.2.2.2, ks, ka, kb, wsw, hw79, upd2_row, upd2_row]
          exact hMw.swp Ww ⟨q4, q5, by rw [b4]; exact q6⟩ wx wy wne wx7 wy7 wx0 wy0
        have hLn : LkS (stlN A 0 sl (n + 1).toNat) (w79 120) := fun i i1 i2 => by rw [hl3n, hl3, g2f _ (by omega)]; exact hL i i1 i2
        refine N.iinc_1 C dX9_settle_79 (hN 1 (by decide)) rfl (by omega) ?_
        refine E.aload_n C dX9_settle_82 rfl rfl ?_
        refine N.callVq (S := []) (As := []) C hX (ok_X9_firstSwap G sl (stlN A 0 sl (n + 1).toNat) w79 hnx1 hMn ((g1f _ _ (by decide)).trans hal) hsl hLn) yf_X9_firstSwap yv_X9_firstSwap ml_X9_300 rfl rfl rfl kd_119 (by decide) (by decide) (Nat.le_of_ble_eq_true rfl) dX9_settle_83 rfl (fun t83 hb83 hp83 => ?_)
        rw [b4n] at hp83
        refine N.ist_2 C dX9_settle_86 (hN 2 (by decide)) rfl ?_
        refine E.goto C dX9_settle_87 (tgt := 7) (by decide) ?_
        refine E.drop (i := 3) ?_
        refine E.drop (i := 4) ?_
        refine E.drop (i := 5) ?_
        exact ih7 _ (dec100 hn45 hk7) (n + 1) t83 w79 rfl (by refine ⟨by omega, g1f, g2f, hMn, hnx1, hnx2, fun i => (hl3n i).trans (hl3 i), b4n, b5n, by omega, fun i hi => ?_, hp83⟩; by_cases hi2 : (i : Int) = n; (have e : i = n.toNat := (by omega); rw [e, ← hfx.1]; exact h10); exact hno i (by omega))
  exact lp7 _ 0 t3 v rfl (by exact ⟨by omega, fun a j _ => rfl, fun j _ => rfl, hM, hA, hlk, fun _ => rfl, rfl, rfl, by show (2 * 0 : Int) ≤ sumN (potF A 0) (A 0 5).toNat; omega, fun i hi => by omega, hp3⟩)

set_option maxHeartbeats 4000000 in
set_option maxRecDepth 20000 in
theorem ok_X9_mark (G : GT) (z : Int) (v : VT) (hm : 0 ≤ v 120 112 ∧ v 120 112 ≤ 6) : MNi G yX9_mark cX9_mark 2 (some .int) 1 25 [vr 119, vi z] v (fun x w => (¬ (1 ≤ z ∧ z ≤ 40) ∧ x = -1 ∧ w = v) ∨ ((1 ≤ z ∧ z ≤ 40) ∧ 6 ≤ v 120 112 ∧ x = -3 ∧ w = v) ∨ ((1 ≤ z ∧ z ≤ 40) ∧ v 120 112 < 6 ∧ x = v 120 112 + 1 ∧ w = upd2 (upd2 v 120 (113 + v 120 112) z) 120 112 (v 120 112 + 1))) := by
  refine MN.of pn_X9_mark [some (vr 119), some (vi z)] 0 rfl rfl (fun X C hX hn hR => ?_)
  have hN : ∀ i : Nat, i < 2 → i < xn X := fun i h => by rw [hn]; exact h
  refine E.rngk (fun hinv => ?_)
  refine E.loc (fun hloc => ?_)
  have hin_1 : in32 z := hloc _ (List.mem_of_getElem? (i := 1) rfl)
  refine E.iload_n C dX9_mark_0 rfl rfl ?_
  refine E.i2l C dX9_mark_1 ?_
  refine E.lconst C dX9_mark_2 (x := 1) rfl ?_
  refine E.ldc2 C ct_X9_287 (x := 40) (by decide) dX9_mark_3 ?_
  refine N.callSp (S := []) (As := [vl z, vl 1, vl 40]) C hX (ok_X9_in G z 1 40 v) yf_X9_in yv_X9_in ml_X9_93 rfl (by decide) (Nat.le_of_ble_eq_true rfl) dX9_mark_6 rfl ?_
  refine E.if_ne C dX9_mark_9 (tgt := 14) (by decide) (fun h9 => ?_) (fun h9 => ?_)
  · have h9 := b0n.mp h9
    refine E.aload_n C dX9_mark_14 rfl rfl ?_
    refine N.getR C fa_X9_7 rfl dX9_mark_15 kd_119 (x := 120) (by decide +kernel) (by decide) ?_
    refine E.bipush C dX9_mark_18 (by decide) ?_
    refine N.iald C dX9_mark_20 kd_120 ln_120 (by omega) (x := v 120 112) rfl ?_
    refine E.bipush C dX9_mark_21 (by decide) ?_
    refine E.icmp_ne C dX9_mark_23 (tgt := 29) (by decide) (fun h23 => ?_) (fun h23 => ?_)
    · skip
      refine E.aload_n C dX9_mark_29 rfl rfl ?_
      refine N.getR C fa_X9_7 rfl dX9_mark_30 kd_119 (x := 120) (by decide +kernel) (by decide) ?_
      refine E.bipush C dX9_mark_33 (by decide) ?_
      refine E.aload_n C dX9_mark_35 rfl rfl ?_
      refine N.getR C fa_X9_7 rfl dX9_mark_36 kd_119 (x := 120) (by decide +kernel) (by decide) ?_
      refine E.bipush C dX9_mark_39 (by decide) ?_
      refine N.iald C dX9_mark_41 kd_120 ln_120 (by omega) (x := v 120 112) rfl ?_
      refine E.iadd C dX9_mark_42 (by omega) ?_
      refine E.iload_n C dX9_mark_43 rfl rfl ?_
      refine N.iast C dX9_mark_44 kd_120 ln_120 (by omega) ?_
      refine E.aload_n C dX9_mark_45 rfl rfl ?_
      refine N.getR C fa_X9_7 rfl dX9_mark_46 kd_119 (x := 120) (by decide +kernel) (by decide) ?_
      refine E.bipush C dX9_mark_49 (by decide) ?_
      refine E.dup2 C dX9_mark_51 ?_
      refine N.iald C dX9_mark_52 kd_120 ln_120 (by omega) (x := (upd2 v 120 (113 + (v 120 112)) z) 120 112) rfl ?_
      refine E.veq (x' := v 120 112) (u_ne (Or.inr (by omega))) ?_
      refine E.iconst C dX9_mark_53 (by decide) ?_
      refine E.iadd C dX9_mark_54 (by omega) ?_
      refine N.iast C dX9_mark_55 kd_120 ln_120 (by omega) ?_
      refine E.aload_n C dX9_mark_56 rfl rfl ?_
      refine N.getR C fa_X9_7 rfl dX9_mark_57 kd_119 (x := 120) (by decide +kernel) (by decide) ?_
      refine E.bipush C dX9_mark_60 (by decide) ?_
      refine N.iald C dX9_mark_62 kd_120 ln_120 (by omega) (x := (v 120 112) + 1) (upd2_same _ _ _ _) ?_
      exact N.iret C hR dX9_mark_63 (fun hi hx => by first | exact Or.inl ⟨by omega, rfl, rfl⟩ | exact Or.inr (Or.inl ⟨by omega, by omega, rfl, rfl⟩) | exact Or.inr (Or.inr ⟨by omega, by omega, rfl, rfl⟩))
    · skip
      refine E.bipush C dX9_mark_26 (by decide) ?_
      exact N.iret C hR dX9_mark_28 (fun hi hx => by first | exact Or.inl ⟨by omega, rfl, rfl⟩ | exact Or.inr (Or.inl ⟨by omega, by omega, rfl, rfl⟩) | exact Or.inr (Or.inr ⟨by omega, by omega, rfl, rfl⟩))
  · have h9 := b0.mp h9
    refine E.iconst C dX9_mark_12 (by decide) ?_
    exact N.iret C hR dX9_mark_13 (fun hi hx => by first | exact Or.inl ⟨by omega, rfl, rfl⟩ | exact Or.inr (Or.inl ⟨by omega, by omega, rfl, rfl⟩) | exact Or.inr (Or.inr ⟨by omega, by omega, rfl, rfl⟩))

set_option maxHeartbeats 4000000 in
set_option maxRecDepth 20000 in
theorem ok_X9_unmark (G : GT) (n : Int) (v : VT) (hm : 0 ≤ v 120 112 ∧ v 120 112 ≤ 6) : MNi G yX9_unmark cX9_unmark 3 (some .int) 1 25 [vr 119, vi n] v (fun x w => (¬ (0 ≤ n ∧ n ≤ v 120 112) ∧ x = -1 ∧ w = v) ∨ ((0 ≤ n ∧ n ≤ v 120 112) ∧ x = v 120 112 ∧ w = upd2 v 120 112 n)) := by
  refine MN.of pn_X9_unmark [some (vr 119), some (vi n), none] 1 rfl rfl (fun X C hX hn hR => ?_)
  have hN : ∀ i : Nat, i < 3 → i < xn X := fun i h => by rw [hn]; exact h
  refine E.rngk (fun hinv => ?_)
  refine E.loc (fun hloc => ?_)
  have hin_1 : in32 n := hloc _ (List.mem_of_getElem? (i := 1) rfl)
  refine E.iload_n C dX9_unmark_0 rfl rfl ?_
  refine E.i2l C dX9_unmark_1 ?_
  refine E.lconst C dX9_unmark_2 (x := 0) rfl ?_
  refine E.aload_n C dX9_unmark_3 rfl rfl ?_
  refine N.getR C fa_X9_7 rfl dX9_unmark_4 kd_119 (x := 120) (by decide +kernel) (by decide) ?_
  refine E.bipush C dX9_unmark_7 (by decide) ?_
  refine N.iald C dX9_unmark_9 kd_120 ln_120 (by omega) (x := v 120 112) rfl ?_
  refine E.i2l C dX9_unmark_10 ?_
  refine N.callSp (S := []) (As := [vl n, vl 0, vl (v 120 112)]) C hX (ok_X9_in G n 0 (v 120 112) v) yf_X9_in yv_X9_in ml_X9_93 rfl (by decide) (Nat.le_of_ble_eq_true rfl) dX9_unmark_11 rfl ?_
  refine E.if_ne C dX9_unmark_14 (tgt := 19) (by decide) (fun h14 => ?_) (fun h14 => ?_)
  · have h14 := b0n.mp h14
    refine E.aload_n C dX9_unmark_19 rfl rfl ?_
    refine N.getR C fa_X9_7 rfl dX9_unmark_20 kd_119 (x := 120) (by decide +kernel) (by decide) ?_
    refine E.bipush C dX9_unmark_23 (by decide) ?_
    refine N.iald C dX9_unmark_25 kd_120 ln_120 (by omega) (x := v 120 112) rfl ?_
    refine N.ist_2 C dX9_unmark_26 (hN 2 (by decide)) rfl ?_
    refine E.aload_n C dX9_unmark_27 rfl rfl ?_
    refine N.getR C fa_X9_7 rfl dX9_unmark_28 kd_119 (x := 120) (by decide +kernel) (by decide) ?_
    refine E.bipush C dX9_unmark_31 (by decide) ?_
    refine E.iload_n C dX9_unmark_33 rfl rfl ?_
    refine N.iast C dX9_unmark_34 kd_120 ln_120 (by omega) ?_
    refine E.iload_n C dX9_unmark_35 rfl rfl ?_
    exact N.iret C hR dX9_unmark_36 (fun hi hx => by first | exact Or.inl ⟨by omega, rfl, rfl⟩ | exact Or.inr ⟨by omega, rfl, rfl⟩)
  · have h14 := b0.mp h14
    refine E.iconst C dX9_unmark_17 (by decide) ?_
    exact N.iret C hR dX9_unmark_18 (fun hi hx => by first | exact Or.inl ⟨by omega, rfl, rfl⟩ | exact Or.inr ⟨by omega, rfl, rfl⟩)

set_option maxHeartbeats 4000000 in
set_option maxRecDepth 20000 in
theorem ok_X9_keep (G : GT) (k : Int) (v : VT) (h01 : ∀ k, 0 ≤ k → k < 2 → v 121 k = 0 ∨ v 121 k = 1) : MNi G yX9_keep cX9_keep 3 (some .int) 1 25 [vr 119, vi k] v (fun x w => (¬ (0 ≤ k ∧ k ≤ 1) ∧ x = -1 ∧ w = v) ∨ ((0 ≤ k ∧ k ≤ 1) ∧ x = v 121 k ∧ w = cpsF (upd2 v 121 k 1) (199 * (k + 1)) 0 199)) := by
  refine MN.of pn_X9_keep [some (vr 119), some (vi k), none] 1 rfl rfl (fun X C hX hn hR => ?_)
  have hN : ∀ i : Nat, i < 3 → i < xn X := fun i h => by rw [hn]; exact h
  refine E.rngk (fun hinv => ?_)
  refine E.loc (fun hloc => ?_)
  have hin_1 : in32 k := hloc _ (List.mem_of_getElem? (i := 1) rfl)
  refine E.iload_n C dX9_keep_0 rfl rfl ?_
  refine E.i2l C dX9_keep_1 ?_
  refine E.lconst C dX9_keep_2 (x := 0) rfl ?_
  refine E.lconst C dX9_keep_3 (x := 1) rfl ?_
  refine N.callSp (S := []) (As := [vl k, vl 0, vl 1]) C hX (ok_X9_in G k 0 1 v) yf_X9_in yv_X9_in ml_X9_93 rfl (by decide) (Nat.le_of_ble_eq_true rfl) dX9_keep_4 rfl ?_
  refine E.if_ne C dX9_keep_7 (tgt := 12) (by decide) (fun h7 => ?_) (fun h7 => ?_)
  · have h7 := b0n.mp h7
    have hkz := h01 k (by omega) (by omega)
    refine E.aload_n C dX9_keep_12 rfl rfl ?_
    refine N.getR C fa_X9_13 rfl dX9_keep_13 kd_119 (x := 121) (by decide +kernel) (by decide) ?_
    refine E.iload_n C dX9_keep_16 rfl rfl ?_
    refine N.zald C dX9_keep_17 kd_121 ln_121 (by omega) (x := v 121 k) rfl ?_
    refine N.callSp (S := []) (As := [vi (v 121 k)]) C hX (ok_X9_flag G (v 121 k) v (h01 k (by omega) (by omega))) yf_X9_flag yv_X9_flag ml_X9_219 rfl (by decide) (Nat.le_of_ble_eq_true rfl) dX9_keep_18 rfl ?_
    refine N.ist_2 C dX9_keep_21 (hN 2 (by decide)) rfl ?_
    refine E.aload_n C dX9_keep_22 rfl rfl ?_
    refine N.getR C fa_X9_13 rfl dX9_keep_23 kd_119 (x := 121) (by decide +kernel) (by decide) ?_
    refine E.iload_n C dX9_keep_26 rfl rfl ?_
    refine E.iconst C dX9_keep_27 (by decide) ?_
    refine N.zast C dX9_keep_28 kd_121 ln_121 (by omega) (by omega) ?_
    refine E.aload_n C dX9_keep_29 rfl rfl ?_
    refine E.sipush C dX9_keep_30 (by decide) ?_
    refine E.iload_n C dX9_keep_33 rfl rfl ?_
    refine E.iconst C dX9_keep_34 (by decide) ?_
    refine E.iadd C dX9_keep_35 (by omega) ?_
    refine E.imul C dX9_keep_36 (by omega) ?_
    refine E.iconst C dX9_keep_37 (by decide) ?_
    refine N.callVe (S := []) (As := [vi (199 * (k + 1)), vi 0]) C hX (ok_X9_copies G (199 * (k + 1)) 0 (upd2 v 121 k 1) (by omega) (by omega)) yf_X9_copies yv_X9_copies ml_X9_267 rfl rfl rfl kd_119 (by decide) (by decide) (Nat.le_of_ble_eq_true rfl) dX9_keep_38 rfl ?_
    refine E.iload_n C dX9_keep_41 rfl rfl ?_
    exact N.iret C hR dX9_keep_42 (fun hi hx => by first | exact Or.inl ⟨by omega, rfl, rfl⟩ | exact Or.inr ⟨by omega, rfl, rfl⟩)
  · have h7 := b0.mp h7
    refine E.iconst C dX9_keep_10 (by decide) ?_
    exact N.iret C hR dX9_keep_11 (fun hi hx => by first | exact Or.inl ⟨by omega, rfl, rfl⟩ | exact Or.inr ⟨by omega, rfl, rfl⟩)

set_option maxHeartbeats 4000000 in
set_option maxRecDepth 20000 in
theorem ok_X9_back (G : GT) (k : Int) (v : VT) (h01 : ∀ k, 0 ≤ k → k < 2 → v 121 k = 0 ∨ v 121 k = 1) : MNi G yX9_back cX9_back 2 (some .int) 1 25 [vr 119, vi k] v (fun x w => (¬ (0 ≤ k ∧ k ≤ 1) ∧ x = -1 ∧ w = v) ∨ ((0 ≤ k ∧ k ≤ 1) ∧ v 121 k = 0 ∧ x = -2 ∧ w = v) ∨ ((0 ≤ k ∧ k ≤ 1) ∧ v 121 k = 1 ∧ w = cpsF v 0 (199 * (k + 1)) 199 ∧ x = w 120 41)) := by
  refine MN.of pn_X9_back [some (vr 119), some (vi k)] 0 rfl rfl (fun X C hX hn hR => ?_)
  have hN : ∀ i : Nat, i < 2 → i < xn X := fun i h => by rw [hn]; exact h
  refine E.rngk (fun hinv => ?_)
  refine E.loc (fun hloc => ?_)
  have hin_1 : in32 k := hloc _ (List.mem_of_getElem? (i := 1) rfl)
  refine E.iload_n C dX9_back_0 rfl rfl ?_
  refine E.i2l C dX9_back_1 ?_
  refine E.lconst C dX9_back_2 (x := 0) rfl ?_
  refine E.lconst C dX9_back_3 (x := 1) rfl ?_
  refine N.callSp (S := []) (As := [vl k, vl 0, vl 1]) C hX (ok_X9_in G k 0 1 v) yf_X9_in yv_X9_in ml_X9_93 rfl (by decide) (Nat.le_of_ble_eq_true rfl) dX9_back_4 rfl ?_
  refine E.if_ne C dX9_back_7 (tgt := 12) (by decide) (fun h7 => ?_) (fun h7 => ?_)
  · have h7 := b0n.mp h7
    have hkz := h01 k (by omega) (by omega)
    refine E.aload_n C dX9_back_12 rfl rfl ?_
    refine N.getR C fa_X9_13 rfl dX9_back_13 kd_119 (x := 121) (by decide +kernel) (by decide) ?_
    refine E.iload_n C dX9_back_16 rfl rfl ?_
    refine N.zald C dX9_back_17 kd_121 ln_121 (by omega) (x := v 121 k) rfl ?_
    refine E.if_ne C dX9_back_18 (tgt := 24) (by decide) (fun h18 => ?_) (fun h18 => ?_)
    · skip
      refine E.aload_n C dX9_back_24 rfl rfl ?_
      refine E.iconst C dX9_back_25 (by decide) ?_
      refine E.sipush C dX9_back_26 (by decide) ?_
      refine E.iload_n C dX9_back_29 rfl rfl ?_
      refine E.iconst C dX9_back_30 (by decide) ?_
      refine E.iadd C dX9_back_31 (by omega) ?_
      refine E.imul C dX9_back_32 (by omega) ?_
      refine N.callVe (S := []) (As := [vi 0, vi (199 * (k + 1))]) C hX (ok_X9_copies G 0 (199 * (k + 1)) v (by omega) (by omega)) yf_X9_copies yv_X9_copies ml_X9_267 rfl rfl rfl kd_119 (by decide) (by decide) (Nat.le_of_ble_eq_true rfl) dX9_back_33 rfl ?_
      refine E.aload_n C dX9_back_36 rfl rfl ?_
      refine N.getR C fa_X9_7 rfl dX9_back_37 kd_119 (x := 120) (by decide +kernel) (by decide) ?_
      refine E.bipush C dX9_back_40 (by decide) ?_
      refine N.iald C dX9_back_42 kd_120 ln_120 (by omega) (x := (cpsF v 0 (199 * (k + 1)) 199) 120 41) rfl ?_
      exact N.iret C hR dX9_back_43 (fun hi hx => by first | exact Or.inl ⟨by omega, rfl, rfl⟩ | exact Or.inr (Or.inl ⟨by omega, by omega, rfl, rfl⟩) | exact Or.inr (Or.inr ⟨by omega, by omega, rfl, rfl⟩))
    · skip
      refine E.bipush C dX9_back_21 (by decide) ?_
      exact N.iret C hR dX9_back_23 (fun hi hx => by first | exact Or.inl ⟨by omega, rfl, rfl⟩ | exact Or.inr (Or.inl ⟨by omega, by omega, rfl, rfl⟩) | exact Or.inr (Or.inr ⟨by omega, by omega, rfl, rfl⟩))
  · have h7 := b0.mp h7
    refine E.iconst C dX9_back_10 (by decide) ?_
    exact N.iret C hR dX9_back_11 (fun hi hx => by first | exact Or.inl ⟨by omega, rfl, rfl⟩ | exact Or.inr (Or.inl ⟨by omega, by omega, rfl, rfl⟩) | exact Or.inr (Or.inr ⟨by omega, by omega, rfl, rfl⟩))
