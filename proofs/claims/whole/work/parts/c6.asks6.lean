-- asks: things read from sheets, the tape, the text
section ASK6
variable {G : GT} {v w u A A' B : VT} {o o2 k p sl : Int} {st st2 : Int → Int}
theorem InR.mk' (h : InR v) (e10 : u 1 10 = v 1 10) (e2 : u 119 2 = v 119 2) (htp : InTape u) (hf : u 1 11 = u 119 14) (eI : ∀ a j, IP a j → u a j = v a j) (eS : ∀ a j, SP a → u a j = v a j) (hto : u 1 12 = u 119 37) : InR u := by
  obtain ⟨⟨hal, hs0, hs4⟩, -, -, him, hsh, -⟩ := h
  exact ⟨⟨by omega, by omega, by omega⟩, htp, hf, fun k a b => (him k a b).fr ⟨a, b⟩ eI, fun k a b => (hsh k a b).fr ⟨a, b⟩ eS, hto⟩
theorem RdI.le {cf : Int → Int} {f0 sz nT q : Int} (h : RdI cf f0 sz nT q) (hq : 0 ≤ q) (hn : nT ≤ 10) : nT + q ≤ 10 := by
  by_cases g : q = 0
  · omega
  · have := (h (q - 1) (by omega) (by omega)).2
    unfold RdRef at this
    omega
theorem as_read (hI : INV v) (k l f n : Int) : AskI G yX8_read cX8_read 10 3 64 yX9_read cX9_read 12 3 67 [vi k, vi l, vi f, vi n] v := by
  obtain ⟨⟨A, hV⟩, hR⟩ := id hI
  obtain ⟨hA, hS, hM, hl, hz, hm, hm0, hm6, hmk⟩ := id hV
  obtain ⟨⟨hal, hs0, hs4⟩, htp, hf, him, hsh, hto⟩ := id hR
  have hb4 := hA.1
  have hb5 := hA.2.1
  have h4 := hS.1
  have h5 := hS.2.1
  refine ⟨_, ok_X8_read G k l f n v (hS.wfv hA) (fun k a b => by have := hsh k a b; obtain ⟨-, h2, h3, h4, -⟩ := this; omega), fun x w hp => ?_⟩
  have ew : ∀ a j, (a < 17 ∨ 27 ≤ a) → ¬ (a = 4 ∧ j = 5) → ¬ (a = 1 ∧ j = 12) → w a j = v a j := fun a j g g2 g3 => by
    rcases hp with ⟨-, -, e⟩ | ⟨-, m, tn, -, ⟨-, e⟩ | ⟨m0, r, e⟩⟩
    · rw [e]
    · rw [e]
    · have := r.le m0 (by omega)
      rw [e, ux_ne (by omega)]
      by_cases ga : a < 17
      · exact sews_o (by omega) (by omega) (by omega) _
      · exact sews_hi (by omega) (by omega) _ (by omega)
  have er : ∀ a, (a < 17 ∨ 27 ≤ a) → ¬ a = 4 → ¬ a = 1 → w a = v a := fun a g1 g2 g3 => row_eq (fun j => ew a j g1 (by omega) (by omega))
  have e120 := er 120 (by decide) (by decide) (by decide)
  have e135 := er 135 (by decide) (by decide) (by decide)
  have e136 := er 136 (by decide) (by decide) (by decide)
  have e137 := er 137 (by decide) (by decide) (by decide)
  refine ⟨_, ok_X9_read G k l f n A w hA (by rw [e120]; exact hM) (fun k a b => by rw [e136]; have := hsh k a b; exact ⟨this.2.2.1, this.2.2.2.1⟩) (fun c t c0 c1 t0 t1 => by rw [e120]; exact lik_col hV ⟨c0, c1⟩ ⟨t0, t1⟩), fun y u hq => ?_⟩
  rw [e120, e135, e136, e137] at hq
  obtain ⟨hF, hF2, hq⟩ := hq
  by_cases g : (0 ≤ k ∧ k ≤ 3) ∧ (0 ≤ l ∧ l ≤ 2) ∧ (0 ≤ n ∧ n ≤ 10)
  · obtain ⟨-, m, tn, r1, h1⟩ := hp.resolve_left (fun z => z.1 g)
    obtain ⟨-, m2, tn2, r2, h2⟩ := hq.resolve_left (fun z => z.1 g)
    obtain ⟨s1, s2, s3, s4, s5⟩ := hsh k g.1.1 (by omega)
    have hc : ∀ j, 0 ≤ j → j < v 136 k → (fun e => v (111 + 2 * k + 1) e) j = (fun e => v 137 (40 * k + e)) j := fun j j0 j1 => s5 j j0 (by omega)
    rw [s1, s2, h5] at r1
    obtain ⟨u1, u2, u3⟩ := (r1.congr hc).uniq r2
    refine ⟨u1, ?_⟩
    rcases h1 with ⟨a, e⟩ | ⟨a, ri, e⟩ <;> rcases h2 with ⟨a', m1, t1⟩ | ⟨a', ri', m1, t1⟩
    · refine INV.vil hR hV hA (w := w) (by rw [e]; exact hS) m1 rfl (fun _ _ _ => rfl) (fun a j k => by rw [e]) (fun a j k1 k2 => ?_) (fun j j0 j1 => by rw [hF2 j (by omega) (by omega), e120])
      by_cases g37 : a = 119 ∧ j = 37
      · rw [g37.1, g37.2]
        exact t1
      · exact hF a j k2 g37
    · omega
    · omega
    · have hle := ri'.le a' hb5.2
      have hmm : ((m.toNat : Nat) : Int) = m := Int.toNat_of_nonneg a
      subst u2 u3
      rw [h5, s2] at ri
      have hW' := ri'.wf hA m.toNat (by omega)
      have n5 : sewsN A 0 (fun e => v 137 (40 * k + e)) f m.toNat 0 5 = A 0 5 + m := by rw [sews_5, hmm]
      have e3 : ∀ i, sewsN A 0 (fun e => v 137 (40 * k + e)) f m.toNat (0 + 3) i = A (0 + 3) i := fun i => sews_o hb5.1 (by omega) (by omega) _
      have hsm := (hS.sews hb4.2 hb5.1 hc ri m.toNat (by omega)).1
      have eu : ∀ a j, ¬ a = 120 → (a < 17 ∨ 27 ≤ a) → ¬ (a = 4 ∧ j = 5) → ¬ (a = 1 ∧ j = 12) → ¬ (a = 119 ∧ j = 37) → u a j = v a j := fun a j g1 g2 g3 g4 g5 => by rw [hF a j g1 g5, ew a j g2 g3 g4]
      have ek : ∀ j, 112 ≤ j → u 120 j = v 120 j := fun j g1 => by rw [hF2 j (by omega) (by omega)]
      refine ⟨⟨sewsN A 0 (fun e => v 137 (40 * k + e)) f m.toNat, hW', ?_, m1, fun i i0 i1 => ?_, fun c t c0 c1 t0 t1 => ?_, ?_⟩, ?_⟩
      · refine Sm.fr (w := w) ?_ hW' (fun a j g1 g2 => hF a j (by omega) (by omega))
        refine Sm.fr (w := sewsN v 4 (fun e => v (111 + 2 * k + 1) e) f m.toNat) hsm hW' (fun a j g1 g2 => ?_)
        rw [e, ux_ne (by omega)]
      · rw [eu _ _ (by omega) (by omega) (by omega) (by omega) (by omega), e3, ek _ (by omega)]
        exact hl i i0 i1
      · rw [n5] at t0
        rw [e3]
        exact hz c t c0 c1 (by omega) t1
      · rw [ek 112 (by decide)]
        refine ⟨by rw [eu _ _ (by omega) (by omega) (by omega) (by omega) (by omega)]; exact hm, hm0, hm6, fun k k0 k1 => ?_⟩
        rw [eu _ _ (by omega) (by omega) (by omega) (by omega) (by omega), ek (113 + k) (by omega)]
        exact hmk k k0 k1
      · have e1 : u 1 12 = tn := by rw [hF _ _ (by omega) (by omega), e, ux_at rfl]
        refine hR.mk' (eu _ _ (by omega) (by omega) (by omega) (by omega) (by omega)) (eu _ _ (by omega) (by omega) (by omega) (by omega) (by omega)) (htp.fr (fun j => eu _ _ (by omega) (by omega) (by omega) (by omega) (by omega)) (fun j => eu _ _ (by omega) (by omega) (by omega) (by omega) (by omega)) (eu _ _ (by omega) (by omega) (by omega) (by omega) (by omega)) (fun j => eu _ _ (by omega) (by omega) (by omega) (by omega) (by omega))) ?_ (fun a j q => ?_) (fun a j q => by unfold SP at q; exact eu a j (by omega) (by omega) (by omega) (by omega) (by omega)) (by rw [e1, t1])
        · rw [eu _ _ (by omega) (by omega) (by omega) (by omega) (by omega), eu _ _ (by omega) (by omega) (by omega) (by omega) (by omega)]
          exact hf
        · unfold IP at q
          by_cases g0 : a = 120
          · subst g0
            exact ek j (by omega)
          · exact eu a j g0 (by omega) (by omega) (by omega) (by omega)
  · rcases hp with ⟨-, b, e⟩ | ⟨a, -⟩
    · rcases hq with ⟨-, b', e'⟩ | ⟨a', -⟩
      · exact ⟨by rw [b, b'], by rw [e', e]; exact hI⟩
      · exact absurd a' g
    · exact absurd a g
theorem as_feed (hI : INV v) (x : Int) : ∃ P8 : Int → VT → Prop, MNi G yX8_feed cX8_feed 3 (some .int) 1 23 [vr 1, vl x] v P8 ∧ ∀ r w, P8 r w → ∃ P9 : Int → VT → Prop, MNi G yX9_feed cX9_feed 4 (some .int) 0 0 [vr 119, vl x] w P9 ∧ ∀ y u, P9 y u → r = y ∧ INV u := by
  obtain ⟨⟨A, hV⟩, hR⟩ := id hI
  obtain ⟨⟨hal, hs0, hs4⟩, ⟨f, L, hC, hT⟩, hf, him, hsh, hto⟩ := id hR
  obtain ⟨c1, c2, c3, c4⟩ := id hC
  obtain ⟨t1, -, -, t4⟩ := id hT
  refine ⟨_, ok_X8_feed G x v (by rw [c1]; exact c2), fun r w hp => ?_⟩
  rw [c1] at hp
  have ew : ∀ a j, ¬ a = 2 → ¬ a = 3 → w a j = v a j := fun a j g1 g2 => by
    rcases hp with ⟨-, -, e⟩ | ⟨-, -, -, -, e⟩
    · rw [e]
    · exact e a j (by omega) (by omega)
  have e9 : w 119 9 = L := (ew _ _ (by decide) (by decide)).trans t1
  refine ⟨_, ok_X9_feed G x w (by rw [e9]; exact c2), fun y u hq => ?_⟩
  rw [e9] at hq
  rcases hp with ⟨a, b, e⟩ | ⟨a, b, w1, w3, e⟩ <;> rcases hq with ⟨a', b', e'⟩ | ⟨a', b', u1, u3, e'⟩
  · exact ⟨by rw [b, b'], by rw [e', e]; exact hI⟩
  · omega
  · omega
  · have eu : ∀ a j, ¬ a = 2 → ¬ a = 3 → ¬ (a = 119 ∧ j = 9) → ¬ a = 123 → u a j = v a j := fun a j g1 g2 g3 g4 => by
      rw [e' a j g3 (by omega), ew a j g1 g2]
    refine ⟨by rw [b, b'], ⟨A, hV.same (fun a j g1 g2 => eu a j (by omega) (by omega) (by omega) (by omega)) (fun j g1 g2 => eu _ _ (by omega) (by omega) (by omega) (by omega))⟩, hR.mk' (eu _ _ (by omega) (by omega) (by omega) (by omega)) (eu _ _ (by omega) (by omega) (by omega) (by omega)) ?_ ?_ (fun a j q => by unfold IP at q; exact eu a j (by omega) (by omega) (by omega) (by omega)) (fun a j q => by unfold SP at q; exact eu a j (by omega) (by omega) (by omega) (by omega)) ?_⟩
    · refine ⟨fun q => if q < L then f q else byM x (56 - 8 * (q - L)), L + 8, ⟨?_, by omega, fun q q0 q1 => ?_, fun q q0 q1 => ?_⟩, ⟨u1, by omega, fun q q0 q1 => ?_, fun q q0 q1 => ?_⟩⟩
      · rw [e' _ _ (by omega) (by omega)]
        exact w1
      · show 0 ≤ (if q < L then f q else byM x (56 - 8 * (q - L))) ∧ (if q < L then f q else byM x (56 - 8 * (q - L))) ≤ 255
        by_cases g : q < L
        · rw [if_pos g]
          exact c3 q q0 g
        · rw [if_neg g]
          exact byM_in _ _
      · show u 3 q = if (if q < L then f q else byM x (56 - 8 * (q - L))) < 128 then (if q < L then f q else byM x (56 - 8 * (q - L))) else (if q < L then f q else byM x (56 - 8 * (q - L))) - 256
        rw [e' _ _ (by omega) (by omega)]
        by_cases g : q < L
        · rw [if_pos g, e _ _ (by omega) (by omega)]
          exact c4 q q0 g
        · rw [if_neg g]
          have h3 := w3 (q - L) (by omega) (by omega)
          rw [show L + (q - L) = q by omega] at h3
          rw [h3, ← byM_rel, ji2b_256 (byM_in _ _)]
          by_cases g2 : byM x (56 - 8 * (q - L)) < 128
          · rw [if_pos g2, if_pos (by omega)]
          · rw [if_neg g2, if_neg (by omega)]
      · show 0 ≤ (if q < L then f q else byM x (56 - 8 * (q - L))) ∧ (if q < L then f q else byM x (56 - 8 * (q - L))) ≤ 255
        by_cases g : q < L
        · rw [if_pos g]
          exact c3 q q0 g
        · rw [if_neg g]
          exact byM_in _ _
      · show u 123 q = if q < L then f q else byM x (56 - 8 * (q - L))
        by_cases g : q < L
        · rw [if_pos g, e' _ _ (by omega) (by omega), ew _ _ (by omega) (by omega)]
          exact t4 q q0 g
        · rw [if_neg g]
          have h3 := u3 (q - L) (by omega) (by omega)
          rw [show L + (q - L) = q by omega] at h3
          exact h3
    · rw [eu _ _ (by omega) (by omega) (by omega) (by omega), eu _ _ (by omega) (by omega) (by omega) (by omega)]
      exact hf
    · rw [eu _ _ (by omega) (by omega) (by omega) (by omega), eu _ _ (by omega) (by omega) (by omega) (by omega)]
      exact hto
theorem as_end (hI : INV v) (n : Int) : AskI G yX8_end cX8_end 3 1 22 yX9_end cX9_end 3 1 25 [vi n] v := by
  obtain ⟨⟨A, hV⟩, hR⟩ := id hI
  obtain ⟨⟨hal, hs0, hs4⟩, ⟨f, L, hC, hT⟩, hf, him, hsh, hto⟩ := id hR
  obtain ⟨c1, c2, c3, c4⟩ := id hC
  obtain ⟨t1, -, -, t4⟩ := id hT
  refine ⟨_, ok_X8_end G n v, fun x w hp => ?_⟩
  rw [c1] at hp
  have ew : ∀ a j, ¬ (a = 2 ∧ j = 1) → w a j = v a j := fun a j g => by
    rcases hp with ⟨-, -, e⟩ | ⟨-, -, e⟩
    · rw [e]
    · rw [e, ux_ne (by omega)]
  have e9 : w 119 9 = L := (ew _ _ (by decide)).trans t1
  refine ⟨_, ok_X9_end G n w, fun y u hq => ?_⟩
  rw [e9] at hq
  rcases hp with ⟨a, b, e⟩ | ⟨a, b, e⟩ <;> rcases hq with ⟨a', b', e'⟩ | ⟨a', b', e'⟩
  · exact ⟨by rw [b, b'], by rw [e', e]; exact hI⟩
  · exact absurd a' a
  · exact absurd a a'
  · have eu : ∀ a j, ¬ (a = 2 ∧ j = 1) → ¬ (a = 119 ∧ j = 9) → u a j = v a j := fun a j g1 g2 => by
      rw [e', ux_ne (by omega), ew a j g1]
    refine ⟨by rw [b, b'], ⟨A, hV.same (fun a j g1 g2 => eu a j (by omega) (by omega)) (fun j g1 g2 => eu _ _ (by omega) (by omega))⟩, hR.mk' (eu _ _ (by omega) (by omega)) (eu _ _ (by omega) (by omega)) ?_ ?_ (fun a j q => by unfold IP at q; exact eu a j (by omega) (by omega)) (fun a j q => by unfold SP at q; exact eu a j (by omega) (by omega)) ?_⟩
    · refine ⟨f, n, ⟨?_, by omega, fun q q0 q1 => c3 q q0 (by omega), fun q q0 q1 => ?_⟩, ⟨?_, by omega, fun q q0 q1 => c3 q q0 (by omega), fun q q0 q1 => ?_⟩⟩
      · rw [e', ux_ne (by omega), e, ux_at rfl]
      · rw [eu _ _ (by omega) (by omega)]
        exact c4 q q0 (by omega)
      · rw [e', ux_at rfl]
      · rw [eu _ _ (by omega) (by omega)]
        exact t4 q q0 (by omega)
    · rw [eu _ _ (by omega) (by omega), eu _ _ (by omega) (by omega)]
      exact hf
    · rw [eu _ _ (by omega) (by omega), eu _ _ (by omega) (by omega)]
      exact hto
theorem told_wfv (hB : WfT B) : WFV B 0 := by
  obtain ⟨⟨b4, b5, -⟩, h1, h2, -⟩ := hB
  refine ⟨b4, b5, fun c a b => ?_, fun t a b => ?_, fun t x a b d e f g i => ?_⟩
  · obtain ⟨q1, q2, q3⟩ := h1 c a b
    have e : (0 : Int) + 5 + c = 5 + c := by omega
    unfold chOK
    rw [e]
    omega
  · obtain ⟨q0, q1, q2, q3, q4, q5, q6, q7⟩ := h2 t a b
    have e : (0 : Int) + 13 + t = 13 + t := by omega
    unfold tgOK
    rw [e]
    refine ⟨q0, q1, by omega, q3, by omega, Or.inl q5, fun _ => q2.2, q6, Or.inl q7, fun z => absurd q7 z⟩
  · obtain ⟨-, -, -, -, -, -, -, q7⟩ := h2 t a b
    rw [show (0 : Int) + 13 + t = 13 + t by omega] at f
    exact absurd q7 f
theorem told_worn {c s : Int} (hB : WfT B) (hc : 0 ≤ c) : wornI B 0 c s = -4 := by
  unfold wornI
  refine fst_no hB.1.2.1.1 (fun i a b => ?_)
  obtain ⟨-, -, -, -, -, -, -, q7⟩ := hB.2.2.1 i a b
  rw [show (0 : Int) + 13 + i = 13 + i by omega, q7]
  simp
  omega
theorem as_text (hI : INV v) : AskI G yX8_text cX8_text 3 10 214 yX9_text cX9_text 2 7 155 [] v := by
  obtain ⟨⟨A, hV⟩, hR⟩ := id hI
  obtain ⟨⟨hal, hs0, hs4⟩, ⟨f, L, hC, hT⟩, hf, him, hsh, hto⟩ := id hR
  refine ⟨_, ok_X8_text G f L v hC, fun x w hp => ?_⟩
  have ew : ∀ a j, (a < 4 ∨ 50 < a) → ¬ a = 52 → ¬ (a = 1 ∧ (j = 10 ∨ j = 11)) → ¬ (a = 2 ∧ j = 1) → w a j = v a j := fun a j g1 g2 g3 g4 => by
    rcases hp with ⟨-, -, -, -, e⟩ | ⟨-, -, -, -, -, -, -, -, e⟩
    · exact e a j (by omega) (by omega) g4
    · exact e a j g1 g2 g3 g4
  refine ⟨_, ok_X9_text G f L (shV v) w (hT.of (ew _ _ (by decide) (by decide) (by decide) (by decide)) (fun j => ew _ _ (by decide) (by decide) (by omega) (by omega))), fun y u hq => ?_⟩
  have hz0 := par_wf (f := f) (L := L) 401 0 0 (strtB (shV v)) strt_wf
  obtain ⟨R, hRR⟩ : ∃ R, R = parN f L 401 0 (strtB (shV v)) 0 := ⟨_, rfl⟩
  rw [← hRR] at hp hq hz0
  have tape0 : ∀ u : VT, u 2 1 = 0 → u 119 9 = 0 → InTape u := fun u g1 g2 => ⟨f, 0, ⟨g1, by omega, fun q q0 q1 => by omega, fun q q0 q1 => by omega⟩, ⟨g2, by omega, fun q q0 q1 => by omega, fun q q0 q1 => by omega⟩⟩
  rcases hp with ⟨a, b, p11, p2, e⟩ | ⟨a, b, p11, p2, p10, p52, p52', hTl, e⟩ <;> rcases hq with ⟨a', b', q14, q9, e'⟩ | ⟨a', b', q14, q9, q2, q121, q121', hD, e'⟩
  · have eu : ∀ a j, (a < 27 ∨ 50 < a) → ¬ (a = 1 ∧ j = 11) → ¬ (a = 2 ∧ j = 1) → ¬ a = 122 → (¬ a = 119 ∨ j < 4 ∨ j = 8 ∨ 15 < j) → u a j = v a j := fun a j g1 g2 g3 g4 g5 => by rw [e' a j g4 g5, e a j g1 g2 g3]
    refine ⟨by rw [b, b'], ⟨A, hV.same (fun a j g1 g2 => eu a j (by omega) (by omega) (by omega) (by omega) (by omega)) (fun j g1 g2 => eu _ _ (by omega) (by omega) (by omega) (by omega) (by omega))⟩, hR.mk' (eu _ _ (by omega) (by omega) (by omega) (by omega) (by omega)) (eu _ _ (by omega) (by omega) (by omega) (by omega) (by omega)) (tape0 u ?_ q9) ?_ (fun a j q => by unfold IP at q; exact eu a j (by omega) (by omega) (by omega) (by omega) (by omega)) (fun a j q => by unfold SP at q; exact eu a j (by omega) (by omega) (by omega) (by omega) (by omega)) ?_⟩
    · rw [e' _ _ (by omega) (by omega)]
      exact p2
    · rw [e' _ _ (by omega) (by omega), p11, q14]
    · rw [eu _ _ (by omega) (by omega) (by omega) (by omega) (by omega), eu _ _ (by omega) (by omega) (by omega) (by omega) (by omega)]
      exact hto
  · exact absurd a' a
  · omega
  · obtain ⟨hB, hb8, hb9⟩ := hz0 a
    have hW := told_wfv hB
    obtain ⟨⟨b4, b5, b6, -⟩, h1, h2, h3, h4, h6⟩ := id hB
    have eu : ∀ a j, ¬ a = 122 → ¬ a = 120 → ¬ a = 121 → (¬ a = 119 ∨ j < 2 ∨ j = 3 ∨ j = 8 ∨ 15 < j) → u a j = w a j := e'
    have ev : ∀ a j, ¬ a = 122 → ¬ a = 120 → ¬ a = 121 → (¬ a = 119 ∨ j < 2 ∨ j = 3 ∨ j = 8 ∨ 15 < j) → (a < 4 ∨ 50 < a) → ¬ a = 52 → ¬ (a = 1 ∧ (j = 10 ∨ j = 11)) → ¬ (a = 2 ∧ j = 1) → u a j = v a j := fun a j g1 g2 g3 g4 g5 g6 g7 g8 => by rw [eu a j g1 g2 g3 g4, e a j g5 g6 g7 g8]
    obtain ⟨l1, l2, l3, l4, l5, l6, l7⟩ := hTl
    obtain ⟨d1, d2, d3, d4, d5, d6, d7, d8⟩ := hD
    have z3 : ∀ i, R.2.2 (0 + 3) i = R.2.2 3 i := fun i => rfl
    refine ⟨by rw [b, b'], ⟨R.2.2, hW, ?_, ?_, fun i i0 i1 => ?_, fun c t c0 c1 t0 t1 => ?_, ?_⟩, ⟨?_, ?_, ?_⟩, tape0 u ?_ q9, ?_, fun k k0 k1 => ?_, fun k k0 k1 => (hsh k k0 k1).fr ⟨k0, k1⟩ (fun a j q => by unfold SP at q; exact ev a j (by omega) (by omega) (by omega) (by omega) (by omega) (by omega) (by omega) (by omega)), ?_⟩
    · refine ⟨?_, ?_, fun c k c0 c1 k0 k1 => ?_, fun t k t0 t1 k0 k1 => ?_⟩
      · rw [eu _ _ (by omega) (by omega) (by omega) (by omega)]; exact l1
      · rw [eu _ _ (by omega) (by omega) (by omega) (by omega)]; exact l2
      · rw [eu _ _ (by omega) (by omega) (by omega) (by omega), show (0 : Int) + 5 + c = 5 + c by omega]; exact l4 c k c0 c1 k0 k1
      · rw [eu _ _ (by omega) (by omega) (by omega) (by omega), show (0 : Int) + 13 + t = 13 + t by omega]; exact l5 t k t0 t1 k0 k1
    · refine ⟨d1, d2, fun c k c0 c1 k0 k1 => ?_, fun t k t0 t1 k0 k1 => ?_, fun c s c0 c1 s0 s1 => ?_⟩
      · rw [show (0 : Int) + 5 + c = 5 + c by omega]; exact d4 c k c0 c1 k0 k1
      · rw [show (0 : Int) + 13 + t = 13 + t by omega]; exact d6 t k t0 t1 k0 k1
      · rw [told_worn hB c0]; exact d5 c s c0 c1 s0 s1
    · rw [eu _ _ (by omega) (by omega) (by omega) (by omega), z3]
      exact ⟨l6 i i0 i1, d8 i i0 i1, (h3 i i0 i1).1⟩
    · rw [z3]
      have := (h3 (10 * c + t) (by omega) (by omega)).2
      by_cases g : R.2.2 3 (10 * c + t) = 0
      · exact g
      · have := this g
        omega
    · rw [eu _ _ (by omega) (by omega) (by omega) (by omega), d3]
      refine ⟨l3, b6.1, b6.2, fun k k0 k1 => ?_⟩
      rw [eu _ _ (by omega) (by omega) (by omega) (by omega), d7 k k0 k1]
      exact ⟨l7 k k0 (by omega), h4 k k0 k1⟩
    · rw [eu _ _ (by omega) (by omega) (by omega) (by omega), p10, q2]
    · rw [q2]; exact h6.1
    · rw [q2]; exact h6.2
    · rw [eu _ _ (by omega) (by omega) (by omega) (by omega)]
      exact p2
    · rw [eu _ _ (by omega) (by omega) (by omega) (by omega), p11, q14]
    · have hk : u 52 k = 0 ∧ u 121 k = 0 := by
        rw [eu _ _ (by omega) (by omega) (by omega) (by omega)]
        rcases (show k = 0 ∨ k = 1 by omega) with rfl | rfl
        · exact ⟨p52, q121⟩
        · exact ⟨p52', q121'⟩
      exact ⟨by omega, Or.inl hk.2⟩
    · rw [ev _ _ (by omega) (by omega) (by omega) (by omega) (by omega) (by omega) (by omega) (by omega), ev _ _ (by omega) (by omega) (by omega) (by omega) (by omega) (by omega) (by omega) (by omega)]
      exact hto
end ASK6
