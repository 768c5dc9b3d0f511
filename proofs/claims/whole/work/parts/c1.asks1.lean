-- the asks that change nothing
def AskI (G : GT) (y8 : MethodName) (c8 : ByteArray) (m8 f8 l8 : Nat) (y9 : MethodName) (c9 : ByteArray) (m9 f9 l9 : Nat) (As : List AV) (v : VT) : Prop :=
  ∃ P8 : Int → VT → Prop, MNi G y8 c8 m8 (some .int) f8 l8 (vr 1 :: As) v P8 ∧ ∀ x w, P8 x w → ∃ P9 : Int → VT → Prop, MNi G y9 c9 m9 (some .int) f9 l9 (vr 119 :: As) w P9 ∧ ∀ y u, P9 y u → x = y ∧ INV u
theorem two_q {P : Prop} {x y a b : Int} (hp : (¬ P ∧ x = a) ∨ (P ∧ x = b)) (hq : (¬ P ∧ y = a) ∨ (P ∧ y = b)) : x = y := by
  rcases hp with ⟨p, h⟩ | ⟨p, h⟩ <;> rcases hq with ⟨q, g⟩ | ⟨q, g⟩
  · rw [h, g]
  · exact absurd q p
  · exact absurd p q
  · rw [h, g]
section ASK1
variable {G : GT} {v : VT}
theorem as_fault (hI : INV v) : AskI G yX8_fault cX8_fault 1 0 0 yX9_fault cX9_fault 1 0 0 [] v := by
  refine ⟨_, ok_X8_fault G v, fun x w hp => ?_⟩
  obtain ⟨rfl, rfl⟩ := hp
  refine ⟨_, ok_X9_fault G w, fun y u hq => ?_⟩
  obtain ⟨rfl, rfl⟩ := hq
  exact ⟨hI.2.2.2.1, hI⟩
theorem as_torn (hI : INV v) : AskI G yX8_torn cX8_torn 1 0 0 yX9_torn cX9_torn 1 0 0 [] v := by
  refine ⟨_, ok_X8_torn G v, fun x w hp => ?_⟩
  obtain ⟨rfl, rfl⟩ := hp
  refine ⟨_, ok_X9_torn G w, fun y u hq => ?_⟩
  obtain ⟨rfl, rfl⟩ := hq
  exact ⟨hI.2.2.2.2.2.2, hI⟩
theorem as_child (hI : INV v) (c k : Int) : AskI G yX8_child cX8_child 3 1 23 yX9_child cX9_child 3 2 46 [vi c, vi k] v := by
  obtain ⟨⟨A, hA, hS, hM, -⟩, hR⟩ := id hI
  refine ⟨_, ok_X8_child G c k v (hS.wfv hA), fun x w hp => ?_⟩
  obtain ⟨rfl, rfl⟩ := hp
  refine ⟨_, ok_X9_child G c k A w hA hM, fun y u hq => ?_⟩
  obtain ⟨rfl, rfl⟩ := hq
  exact ⟨hS.child hA.2.1.1, hI⟩
theorem as_thing (hI : INV v) (c k : Int) : AskI G yX8_thing cX8_thing 4 1 21 yX9_thing cX9_thing 3 2 46 [vi c, vi k] v := by
  obtain ⟨⟨A, hA, hS, hM, -⟩, hR⟩ := id hI
  refine ⟨_, ok_X8_thing G c k v (hS.wfv hA), fun x w hp => ?_⟩
  obtain ⟨rfl, rfl⟩ := hp
  refine ⟨_, ok_X9_thing G c k A w hA hM, fun y u hq => ?_⟩
  obtain ⟨rfl, rfl⟩ := hq
  exact ⟨hS.thing, hI⟩
theorem as_fits (hI : INV v) (c t : Int) : AskI G yX8_fits cX8_fits 3 3 69 yX9_fits cX9_fits 3 3 72 [vi c, vi t] v := by
  obtain ⟨⟨A, hA, hS, hM, -⟩, ⟨hal, hs⟩, -⟩ := id hI
  refine ⟨_, ok_X8_fits G c t (v 119 2) v (hS.wfv hA) hal hs, fun x w hp => ?_⟩
  obtain ⟨rfl, hp⟩ := hp
  refine ⟨_, ok_X9_fits G c t (w 119 2) A w hA hM rfl hs, fun y u hq => ?_⟩
  obtain ⟨rfl, hq⟩ := hq
  refine ⟨?_, hI⟩
  rw [hS.1, hS.2.1] at hp
  rcases hp with ⟨a, b⟩ | ⟨a, b⟩ <;> rcases hq with ⟨c, d⟩ | ⟨c, d⟩
  · rw [b, d]
    exact hS.fit ⟨a.1, a.2.1⟩ ⟨a.2.2.1, a.2.2.2⟩
  · exact absurd a c
  · exact absurd c a
  · rw [b, d]
theorem as_cold (hI : INV v) (s : Int) : AskI G yX8_cold cX8_cold 2 2 46 yX9_cold cX9_cold 4 2 45 [vi s] v := by
  obtain ⟨⟨A, hA, hS, hM, -⟩, hR⟩ := id hI
  refine ⟨_, ok_X8_cold G s v (hS.wfv hA), fun x w hp => ?_⟩
  obtain ⟨rfl, hp⟩ := hp
  refine ⟨_, ok_X9_cold G s A w hA hM, fun y u hq => ?_⟩
  obtain ⟨rfl, hq⟩ := hq
  refine ⟨?_, hI⟩
  have e : orN (fun c => decide (wornI u 4 c s = -4)) (u 4 4).toNat = orN (fun c => decide (wornI A 0 c s = -4)) (A 0 4).toNat := by
    rw [hS.1]
    exact or_congr _ (fun y _ _ => by rw [hS.wo hA.2.1.1])
  rw [e] at hp
  rcases hp with ⟨a, a2, b⟩ | ⟨a, b⟩ <;> rcases hq with ⟨c, c2, d⟩ | ⟨c, d⟩
  · rw [b, d]
  · exact absurd ⟨a, a2⟩ c
  · exact absurd ⟨c, c2⟩ a
  · rw [b, d]
theorem as_deal (hI : INV v) (s k : Int) : AskI G yX8_deal cX8_deal 4 5 120 yX9_deal cX9_deal 4 5 121 [vi s, vi k] v := by
  obtain ⟨⟨A, hA, hS, hM, -⟩, ⟨hal, hs⟩, -⟩ := id hI
  refine ⟨_, ok_X8_deal G s k (v 119 2) v (hS.wfv hA) hal hs, fun x w hp => ?_⟩
  obtain ⟨hF, hp⟩ := hp
  refine ⟨_, ok_X9_deal G s k (v 119 2) A w hA (by rw [row_eq (fun j => hF 120 j (by decide))]; exact hM) (hF _ _ (by decide)) hs, fun y u hq => ?_⟩
  obtain ⟨hF2, hq⟩ := hq
  rw [hS.warm, hS.deal, hS.1] at hp
  exact ⟨two_q hp hq, hI.same (fun a j g => by unfold KP RP at g; rw [hF2 a j (by omega) (by omega), hF a j (by omega)])⟩
theorem as_spare (hI : INV v) (s : Int) : AskI G yX8_spare cX8_spare 2 5 120 yX9_spare cX9_spare 4 5 121 [vi s] v := by
  obtain ⟨⟨A, hA, hS, hM, -⟩, ⟨hal, hs⟩, -⟩ := id hI
  have hW := hS.wfv hA
  refine ⟨_, ok_X8_spare G s (v 119 2) v hW hal hs, fun x w hp => ?_⟩
  obtain ⟨hF, hp⟩ := hp
  refine ⟨_, ok_X9_spare G s (v 119 2) A w hA (by rw [row_eq (fun j => hF 120 j (by decide))]; exact hM) (hF _ _ (by decide)) hs, fun y u hq => ?_⟩
  obtain ⟨hF2, hq⟩ := hq
  refine ⟨?_, hI.same (fun a j g => by unfold KP RP at g; rw [hF2 a j (by omega) (by omega), hF a j (by omega)])⟩
  rcases hp with ⟨a, b⟩ | ⟨a, a2, m, b⟩ <;> rcases hq with ⟨c, d⟩ | ⟨c, c2, d⟩
  · rw [b, d]
  · exact absurd ⟨c, c2⟩ a
  · exact absurd ⟨a, a2⟩ c
  · rw [b, d, left_lef hW hv4 m, hS.2.1]
    exact or_congr _ (fun y h1 h2 => hS.lef ⟨h1, by have := hA.2.1.1; omega⟩)
theorem as_ahead (hI : INV v) (s y q k : Int) : AskI G yX8_ahead cX8_ahead 6 6 146 yX9_ahead cX9_ahead 6 7 169 [vi s, vi y, vi q, vi k] v := by
  obtain ⟨⟨A, hA, hS, hM, -⟩, ⟨hal, hs⟩, -⟩ := id hI
  refine ⟨_, ok_X8_ahead G s y q k (v 119 2) v (hS.wfv hA) hal hs, fun x w hp => ?_⟩
  obtain ⟨hF, hp⟩ := hp
  refine ⟨_, ok_X9_ahead G s y q k (v 119 2) A w hA (by rw [row_eq (fun j => hF 120 j (by decide) (by decide) (by decide))]; exact hM) (hF _ _ (by decide) (by decide) (by decide)) hs, fun y u hq => ?_⟩
  obtain ⟨hF2, hF3, hq⟩ := hq
  rw [hS.ahs hA.1, hS.ahn hA.1] at hp
  refine ⟨two_q hp hq, hI.same (fun a j g => ?_)⟩
  unfold KP RP at g
  by_cases e : a = 120
  · subst e
    rw [hF3 j (by omega), hF _ _ (by decide) (by decide) (by decide)]
  · rw [hF2 a j (by omega) e (by omega), hF a j (by omega) (by omega) (by omega)]
theorem as_strong (hI : INV v) (s y q : Int) : AskI G yX8_strong cX8_strong 5 6 146 yX9_strong cX9_strong 7 7 169 [vi s, vi y, vi q] v := by
  obtain ⟨⟨A, hA, hS, hM, -⟩, ⟨hal, hs⟩, -⟩ := id hI
  refine ⟨_, ok_X8_strong G s y q (v 119 2) v (hS.wfv hA) hal hs, fun x w hp => ?_⟩
  obtain ⟨hF, hp⟩ := hp
  refine ⟨_, ok_X9_strong G s y q (v 119 2) A w hA (by rw [row_eq (fun j => hF 120 j (by decide) (by decide) (by decide))]; exact hM) (hF _ _ (by decide) (by decide) (by decide)) hs, fun z u hq => ?_⟩
  obtain ⟨hF2, hF3, hq⟩ := hq
  have e : ∀ l, ahdS (strF v 4 s l (v 4 5)) 4 s q (v 119 2) y.toNat = ahdS (strF A 0 s l (A 0 5)) 0 s q (v 119 2) y.toNat := fun l =>
    (hS.str (l := l) hA.1.2).ahs (by rw [strF_out (by omega)]; exact hA.1) _
  refine ⟨?_, hI.same (fun a j g => ?_)⟩
  · simp only [e] at hp
    rcases hp with ⟨a, b⟩ | ⟨a, b⟩ <;> rcases hq with ⟨c, d⟩ | ⟨c, d⟩
    · rw [b, d]
    · exact absurd c a
    · exact absurd a c
    · rcases b with ⟨b1, b2, b3, b4⟩ | ⟨b1, b2⟩ <;> rcases d with ⟨d1, d2, d3, d4⟩ | ⟨d1, d2⟩
      · by_cases h1 : x < z
        · exact absurd b3 (d4 x b1 h1)
        · by_cases h2 : z < x
          · exact absurd d3 (b4 z d1 h2)
          · omega
      · exact absurd b3 (d2 x b1 b2)
      · exact absurd d3 (b2 z d1 d2)
      · omega
  · unfold KP RP at g
    by_cases e : a = 120
    · subst e
      rw [hF3 j (by omega), hF _ _ (by decide) (by decide) (by decide)]
    · rw [hF2 a j (by omega) e (by omega), hF a j (by omega) (by omega) (by omega)]
theorem as_pays (hI : INV v) (t y q k : Int) : AskI G yX8_pays cX8_pays 5 7 173 yX9_pays cX9_pays 5 8 196 [vi t, vi y, vi q, vi k] v := by
  obtain ⟨⟨A, hA, hS, hM, -⟩, ⟨hal, hs⟩, -⟩ := id hI
  refine ⟨_, ok_X8_pays G t y q k (v 119 2) v (hS.wfv hA) hal hs, fun x w hp => ?_⟩
  obtain ⟨hF, hp⟩ := hp
  refine ⟨_, ok_X9_pays G t y q k (v 119 2) A w hA (by rw [row_eq (fun j => hF 120 j (by decide) (by decide) (by decide) (by omega))]; exact hM) (hF _ _ (by decide) (by decide) (by decide) (by decide)) hs, fun z u hq => ?_⟩
  obtain ⟨hF2, hF3, hq⟩ := hq
  refine ⟨?_, hI.same (fun a j g => ?_)⟩
  · rw [hS.2.1] at hp
    by_cases ht : 0 ≤ t ∧ t < A 0 5 ∧ (1 ≤ y ∧ y ≤ 4) ∧ (k = 0 ∨ k = 1)
    · have hp := hp.resolve_left (fun g => g.1 ht)
      have hq := hq.resolve_left (fun g => g.1 ht)
      have r := fun j (z0 : 0 ≤ j) (z1 : j < 8) => hS.2.2.2 t j ht.1 ht.2.1 z0 z1
      rw [r 0 (by decide) (by decide), r 2 (by decide) (by decide), r 7 (by decide) (by decide), hS.ahs hA.1] at hp
      rw [show cutA v 4 t (A (0 + 13 + t) 0) q (v 119 2) y.toNat = cutA A 0 t (A (0 + 13 + t) 0) q (v 119 2) y.toNat from funext (fun z => hS.cta ⟨ht.1, ht.2.1⟩ hA.1)] at hp
      rcases hp with ⟨-, a, b⟩ | ⟨-, a, n, th, zz, hc, b⟩ <;> rcases hq with ⟨-, c, d⟩ | ⟨-, c, n2, th2, zz2, hc2, d⟩
      · rw [b, d]
      · exact absurd c a
      · exact absurd a c
      · obtain ⟨u1, u2, u3⟩ := CutQ.uniq ht.1 hc hc2
        rw [b, d, u1, u2]
        by_cases g : th2 = -4
        · rw [if_pos g, if_pos g]
        · rw [if_neg g, if_neg g, u3 (by rw [u2]; exact g)]
    · rcases hp with ⟨-, b⟩ | ⟨a, -⟩ | ⟨a, -⟩
      · rcases hq with ⟨-, d⟩ | ⟨c, -⟩ | ⟨c, -⟩
        · rw [b, d]
        · exact absurd c ht
        · exact absurd c ht
      · exact absurd a ht
      · exact absurd a ht
  · unfold KP RP at g
    by_cases e : a = 120
    · subst e
      rw [hF3 j (by omega), hF _ _ (by decide) (by decide) (by decide) (by omega)]
    · rw [hF2 a j (by omega) e (by omega), hF a j (by omega) (by omega) (by omega) (by omega)]
theorem BestQ.congr {f g : Int → Int → Int} {sz sz2 : Int → Int} {el el2 : Int → Prop} {b0 T n th zz : Int} (hf : ∀ t, 0 ≤ t → t < T → (∀ i, f t i = g t i) ∧ sz t = sz2 t ∧ (el t ↔ el2 t)) (h : BestQ f sz el b0 T n th zz) : BestQ g sz2 el2 b0 T n th zz := by
  have key : ∀ t, 0 ≤ t → t < T → ∀ {p : Int → Prop}, (∀ i, p (f t i)) → ∀ i, p (g t i) := fun t a b p hp i => by
    rw [← (hf t a b).1 i]
    exact hp i
  rcases h with ⟨h1, h2, h3⟩ | ⟨⟨a1, a2, a3, a4, a5, a6, a7⟩, h2, h3, h4⟩
  · refine Or.inl ⟨h1, h2, fun t a b c i d e => ?_⟩
    obtain ⟨k1, k2, k3⟩ := hf t a b
    rw [← k1 i]
    exact h3 t a b (k3.mpr c) i d (by rw [k2]; exact e)
  · obtain ⟨k1, k2, k3⟩ := hf th a1 a2
    refine Or.inr ⟨⟨a1, a2, k3.mp a3, a4, by rw [← k2]; exact a5, by rw [← k1]; exact a6, a7⟩, fun t a b c i d e => ?_, fun t a b c i d e => ?_, fun i d e => ?_⟩
    · obtain ⟨m1, m2, m3⟩ := hf t a b
      rw [← m1 i]
      exact h2 t a b (m3.mpr c) i d (by rw [m2]; exact e)
    · obtain ⟨m1, m2, m3⟩ := hf t a (by omega)
      rw [← m1 i]
      exact h3 t a b (m3.mpr c) i d (by rw [m2]; exact e)
    · rw [← k1 i]
      exact h4 i d (by rw [k2]; exact e)
theorem as_best (hI : INV v) (s y q k : Int) : AskI G yX8_best cX8_best 6 7 173 yX9_best cX9_best 8 8 196 [vi s, vi y, vi q, vi k] v := by
  obtain ⟨⟨A, hA, hS, hM, -⟩, ⟨hal, hs⟩, -⟩ := id hI
  refine ⟨_, ok_X8_best G s y q k (v 119 2) v (hS.wfv hA) hal hs, fun x w hp => ?_⟩
  obtain ⟨hF, hp⟩ := hp
  refine ⟨_, ok_X9_best G s y q k (v 119 2) A w hA (by rw [row_eq (fun j => hF 120 j (by decide) (by decide) (by decide) (by omega))]; exact hM) (hF _ _ (by decide) (by decide) (by decide) (by decide)) hs, fun z u hq => ?_⟩
  obtain ⟨hF2, hF3, hq⟩ := hq
  refine ⟨?_, hI.same (fun a j g => ?_)⟩
  · rw [hS.2.1, hS.ahs hA.1] at hp
    rcases hp with ⟨a, b⟩ | ⟨a, n, th, zz, hc, b⟩ <;> rcases hq with ⟨c, d⟩ | ⟨c, n2, th2, zz2, hc2, d⟩
    · rw [b, d]
    · exact absurd c a
    · exact absurd a c
    · have hc3 := BestQ.congr (g := fun t => cutA A 0 t s q (v 119 2) y.toNat) (sz2 := fun t => A (0 + 13 + t) 2) (el2 := fun t => A (0 + 13 + t) 0 = s ∧ A (0 + 13 + t) 7 = -4) (fun t t0 t1 => ⟨fun i => hS.cta ⟨t0, t1⟩ hA.1, hS.2.2.2 t 2 t0 t1 (by decide) (by decide), by rw [hS.2.2.2 t 0 t0 t1 (by decide) (by decide), hS.2.2.2 t 7 t0 t1 (by decide) (by decide)]⟩) hc
      obtain ⟨u1, u2, u3⟩ := hc3.uniq hc2
      rw [b, d, u1, u2]
      by_cases g : th2 = -4
      · rw [if_pos g, if_pos g]
      · rw [if_neg g, if_neg g, u3 (by rw [u2]; exact g)]
  · unfold KP RP at g
    by_cases e : a = 120
    · subst e
      rw [hF3 j (by omega), hF _ _ (by decide) (by decide) (by decide) (by omega)]
    · rw [hF2 a j (by omega) e (by omega), hF a j (by omega) (by omega) (by omega) (by omega)]
theorem as_swap (hI : INV v) : AskI G yX8_swap cX8_swap 1 5 120 yX9_swap cX9_swap 1 5 120 [] v := by
  obtain ⟨⟨A, hA, hS, hM, hl, -⟩, ⟨hal, hs⟩, -⟩ := id hI
  refine ⟨_, ok_X8_swap G (v 119 2) v (hS.wfv hA) hal hs, fun x w hp => ?_⟩
  obtain ⟨rfl, hp, -⟩ := hp
  refine ⟨_, ok_X9_swap G (w 119 2) A w hA hM rfl hs (fun i a b => (hl i a b).2.1), fun y u hq => ?_⟩
  obtain ⟨rfl, hq⟩ := hq
  refine ⟨?_, hI⟩
  rw [hp, hq]
  exact hS.fst (fun i a b => (hl i a b).1) hA
theorem as_count (hI : INV v) (k : Int) : AskI G yX8_count cX8_count 2 2 43 yX9_count cX9_count 4 2 44 [vi k] v := by
  obtain ⟨⟨A, hA, hS, hM, -, -, hm, -⟩, hR⟩ := id hI
  obtain ⟨⟨hal, -⟩, ⟨f, L, hC, hT⟩, -, him, hsh, -⟩ := id hR
  refine ⟨_, ok_X8_count G k v (hS.wfv hA) hR.h01c, fun x w hp => ?_⟩
  obtain ⟨rfl, hp⟩ := hp
  refine ⟨_, ok_X9_count G k A w hA hM hR.h01, fun y u hq => ?_⟩
  obtain ⟨rfl, hq⟩ := hq
  refine ⟨?_, hI⟩
  have e3 : cntN (fun t => decide (outI (u (4 + 13 + t) 1) (u (4 + 13 + t) 3) (u (4 + 13 + t) 4) = 1)) (u 4 5).toNat = cntN (fun t => decide (outI (A (0 + 13 + t) 1) (A (0 + 13 + t) 3) (A (0 + 13 + t) 4) = 1)) (A 0 5).toNat := by
    rw [hS.2.1]
    have h5 := hA.2.1.1
    exact cnt_congr _ (fun t a b => by rw [hS.2.2.2 t 1 a (by omega) (by decide) (by decide), hS.2.2.2 t 3 a (by omega) (by decide) (by decide), hS.2.2.2 t 4 a (by omega) (by decide) (by decide)])
  have s1 := hsh 0 (by decide) (by decide)
  have s2 : u 111 1 = u 135 0 := s1.1
  have s3 : u 111 2 = u 136 0 := s1.2.1
  rw [hp, hq, e3, hS.1, hS.2.1, hm, (him 0 (by decide) (by decide)).1, (him 1 (by decide) (by decide)).1, hC.1, hT.1, s2, s3, hal]
end ASK1
