-- more asks that change nothing: wishes, odds, another village, marks
def AskL (G : GT) (y8 : MethodName) (c8 : ByteArray) (m8 f8 l8 : Nat) (y9 : MethodName) (c9 : ByteArray) (m9 f9 l9 : Nat) (As : List AV) (v : VT) : Prop :=
  ∃ P8 : Int → VT → Prop, MNl G y8 c8 m8 (some .long) f8 l8 (vr 1 :: As) v P8 ∧ ∀ x w, P8 x w → ∃ P9 : Int → VT → Prop, MNl G y9 c9 m9 (some .long) f9 l9 (vr 119 :: As) w P9 ∧ ∀ y u, P9 y u → x = y ∧ INV u
section ASK2
variable {G : GT} {v : VT}
theorem lik_col {A : VT} {st : Int → Int} {o : Int} (h : InVil A v o st) {c t : Int} (hc : 0 ≤ c ∧ c < 8) (ht : A 0 5 ≤ t ∧ t < 10) : st (119 + 10 * c + t) = 0 := by
  obtain ⟨hA, hS, hM, hl, hz, -⟩ := h
  have h5 := hA.2.1
  have := (hl (10 * c + t) (by omega) (by omega)).2.1
  rw [hz c t hc.1 hc.2 ht.1 ht.2, show 119 + (10 * c + t) = 119 + 10 * c + t by omega] at this
  exact this
theorem as_wish (hI : INV v) (s y q k : Int) : AskI G yX8_wish cX8_wish 9 6 146 yX9_wish cX9_wish 9 7 169 [vi s, vi y, vi q, vi k] v := by
  obtain ⟨⟨A, hV⟩, ⟨hal, hs⟩, -⟩ := id hI
  obtain ⟨hA, hS, hM, -⟩ := id hV
  have hb5 := hA.2.1
  refine ⟨_, ok_X8_wish G s y q k (v 119 2) v (hS.wfv hA) hal hs, fun x w hp => ?_⟩
  obtain ⟨hF, hp⟩ := hp
  have e120 : w 120 = v 120 := row_eq (fun j => hF 120 j (by decide) (by decide) (by decide))
  refine ⟨_, ok_X9_wish G s y q k (v 119 2) A w hA (by rw [e120]; exact hM) (hF _ _ (by decide) (by decide) (by decide)) hs (fun h10 c c0 c8 => by rw [e120]; exact lik_col hV ⟨c0, c8⟩ ⟨Int.le_refl _, h10⟩), fun z u hq => ?_⟩
  obtain ⟨hF2, hF3, hq⟩ := hq
  refine ⟨?_, ?_⟩
  · rw [hS.2.1] at hp
    have e : wishA v 4 s q (v 119 2) y.toNat = wishA A 0 s q (v 119 2) y.toNat := funext (fun z => by
      unfold wishA
      exact (hS.sew hA.1.2 hb5.1).ahs (by rw [sewV_o (by omega) (by omega)]; exact hA.1) _)
    rw [e] at hp
    by_cases h10 : 10 ≤ A 0 5
    · rcases hp with ⟨a, b⟩ | ⟨a, -, b⟩ | ⟨a, a2, -⟩ <;> rcases hq with ⟨c, d⟩ | ⟨c, -, d⟩ | ⟨c, c2, -⟩
      · rw [b, d]
      · exact absurd c a
      · omega
      · exact absurd a c
      · rw [b, d]
      · omega
      · omega
      · omega
      · omega
    · rcases hp with ⟨a, b⟩ | ⟨a, a2, b⟩ | ⟨a, a2, z1, n1, l1, b⟩ <;> rcases hq with ⟨c, d⟩ | ⟨c, c2, d⟩ | ⟨c, c2, z2, n2, l2, d⟩
      · rw [b, d]
      · omega
      · exact absurd c a
      · omega
      · omega
      · omega
      · exact absurd a c
      · omega
      · obtain ⟨u1, u2⟩ := l1.uniq l2
        rw [b, d, u1, u2]
  · obtain ⟨h1, h2⟩ := hI
    have e1 : ∀ a j, RP a j → u a j = v a j := fun a j g => by
      unfold RP at g
      by_cases e : a = 120
      · subst e
        rw [hF3 j (by omega) (by omega), e120]
      · rw [hF2 a j (by omega) e (by omega), hF a j (by omega) (by omega) (by omega)]
    refine ⟨⟨A, ?_⟩, h2.same e1⟩
    obtain ⟨-, hS', -⟩ := hV.same (w := u) (st2 := v 120) (fun a j a1 a2 => by rw [hF2 a j (by omega) (by omega) (by omega), hF a j (by omega) (by omega) (by omega)]) (fun j _ _ => rfl)
    refine hV.step hA hS' ?_ rfl (fun _ _ _ => rfl) (fun i _ _ => by rw [hF2 _ _ (by omega) (by omega) (by omega), hF _ _ (by omega) (by omega) (by omega)]) (fun j a b => by rw [hF3 j (by omega) (by omega), e120]) (by rw [hF2 _ _ (by omega) (by omega) (by omega), hF _ _ (by omega) (by omega) (by omega)]) (fun k _ _ => by rw [hF2 _ _ (by omega) (by omega) (by omega), hF _ _ (by omega) (by omega) (by omega)])
    have hu : ∀ j, j < 597 → (10 ≤ A 0 5 ∨ j < 42 + 7 * A 0 5 ∨ 49 + 7 * A 0 5 ≤ j) → u 120 j = v 120 j := fun j a b => by rw [hF3 j a b, e120]
    obtain ⟨m1, m2, m3, m4, m5⟩ := hM
    have hb4 := hA.1
    exact ⟨by rw [hu 0 (by omega) (by omega)]; exact m1, by rw [hu 41 (by omega) (by omega)]; exact m2, fun c k a b a2 b2 => by rw [hu _ (by omega) (by omega)]; exact m3 c k a b a2 b2, fun c k a b a2 b2 => by rw [hu _ (by omega) (by omega)]; exact m4 c k a b a2 b2, fun c k a b a2 b2 => by rw [hu _ (by omega) (by omega)]; exact m5 c k a b a2 b2⟩
theorem as_odds (hI : INV v) (s what : Int) : AskL G yX8_odds cX8_odds 6 3 73 yX9_odds cX9_odds 10 4 95 [vi s, vi what] v := by
  obtain ⟨⟨A, hA, hS, hM, -⟩, ⟨hal, hs⟩, -⟩ := id hI
  refine ⟨_, ok_X8_odds G s what (v 119 2) v (hS.wfv hA) hal hs, fun x w hp => ?_⟩
  obtain ⟨hF, hp⟩ := hp
  refine ⟨_, ok_X9_odds G s what (v 119 2) A w hA (by rw [row_eq (fun j => hF 120 j (by decide) (by decide))]; exact hM) (hF _ _ (by decide) (by decide)) hs, fun y u hq => ?_⟩
  obtain ⟨hF2, hF3, hq⟩ := hq
  rw [hS.oda hA.1.2] at hp
  refine ⟨two_q hp hq, hI.same (fun a j g => ?_)⟩
  unfold KP RP at g
  by_cases e : a = 120
  · subst e
    rw [hF3 j (by omega), hF _ _ (by decide) (by decide)]
  · rw [hF2 a j (by omega) e (by omega), hF a j (by omega) (by omega)]
theorem as_lend (hI : INV v) (k s what : Int) : AskI G yX8_lend cX8_lend 6 5 120 yX9_lend cX9_lend 8 6 144 [vi k, vi s, vi what] v := by
  obtain ⟨⟨A, hA, hS, hM, -⟩, hR⟩ := id hI
  obtain ⟨⟨hal, hs⟩, -, -, him, -⟩ := id hR
  have hB : ∃ B : VT, 0 ≤ k → k ≤ 1 → v 121 k = 1 → InVil B v (65 + 23 * k) (fun j => v 120 (199 * (k + 1) + j)) := by
    by_cases g : 0 ≤ k ∧ k ≤ 1 ∧ v 121 k = 1
    · obtain ⟨h1, h2⟩ := him k g.1 (by omega)
      rcases h2 with h2 | ⟨h2, B, hB⟩
      · omega
      · exact ⟨B, fun _ _ _ => hB⟩
    · exact ⟨v, fun a b c => absurd ⟨a, b, c⟩ g⟩
  obtain ⟨B, hB⟩ := hB
  have e52 : ∀ k, 0 ≤ k → k ≤ 1 → v 52 k = v 121 k := fun k a b => (him k a (by omega)).1
  refine ⟨_, ok_X8_lend G k s what (v 119 2) v (hS.wfv hA) hal hs (fun a b c => (hB a b (by rw [← e52 k a b]; exact c)).2.1.wfv (hB a b (by rw [← e52 k a b]; exact c)).1) hR.h01c, fun x w hp => ?_⟩
  obtain ⟨hF, hp⟩ := hp
  have e120 : w 120 = v 120 := row_eq (fun j => hF 120 j (by decide))
  have e121 : w 121 = v 121 := row_eq (fun j => hF 121 j (by decide))
  refine ⟨_, ok_X9_lend G k s what (v 119 2) A w hA (by rw [e120]; exact hM) (by rw [e121]; exact hR.h01) B (fun a b c => by rw [e120]; rw [e121] at c; exact ⟨(hB a b c).1, (hB a b c).2.2.1⟩) (hF _ _ (by decide)) hs, fun y u hq => ?_⟩
  obtain ⟨hF2, hF3, hq⟩ := hq
  rw [e121] at hq
  refine ⟨?_, hI.same (fun a j g => ?_)⟩
  · by_cases g : (0 ≤ k ∧ k ≤ 1) ∧ (0 ≤ s ∧ s ≤ 1) ∧ (0 ≤ what ∧ what ≤ 1)
    · have hp := hp.resolve_left (fun z => z.1 g)
      have hq := hq.resolve_left (fun z => z.1 g)
      rw [e52 k g.1.1 g.1.2, hS.1, hS.warm] at hp
      rcases hp with ⟨-, a, b⟩ | ⟨-, a, W, hW, b⟩ <;> rcases hq with ⟨-, c, d⟩ | ⟨-, c, W2, hW2, d⟩
      · rw [b, d]
      · omega
      · omega
      · have hS2 := (hB g.1.1 g.1.2 a).2.1
        have := len_one ((hS.len hS2).mp hW) hW2
        rw [b, d, this]
    · rcases hp with ⟨-, b⟩ | ⟨a, -⟩ | ⟨a, -⟩
      · rcases hq with ⟨-, d⟩ | ⟨c, -⟩ | ⟨c, -⟩
        · rw [b, d]
        · exact absurd c g
        · exact absurd c g
      · exact absurd a g
      · exact absurd a g
  · unfold KP RP at g
    by_cases e : a = 120
    · subst e
      rw [hF3 j (by omega), hF _ _ (by decide)]
    · rw [hF2 a j (by omega) e (by omega), hF a j (by omega)]
/-- who can have left which mark, as both tell it -/
theorem mk_same {A : VT} {st : Int → Int} (h : InVil A v 4 st) {sl : Int} : ∀ i c, 0 ≤ i → i < st 112 → 0 ≤ c → c < A 0 4 → mkB v 4 (v 8) sl i c = mkB A 0 (fun k => st (113 + k)) sl i c := fun i c a b d e => by
  obtain ⟨hA, hS, hM, hl, hz, hm, hm0, hm6, hmk⟩ := h
  exact mkB_eq (hS.2.2.1 c 0 d e (by decide) (by decide)) (hS.2.2.1 c 1 d e (by decide) (by decide)) (hmk i a b).1
theorem as_rows (hI : INV v) (q : Int) : AskI G yX8_rows cX8_rows 3 3 71 yX9_rows cX9_rows 2 3 72 [vi q] v := by
  obtain ⟨⟨A, hV⟩, ⟨hal, hs⟩, -⟩ := id hI
  have hfg := mk_same hV (sl := v 119 2)
  obtain ⟨hA, hS, hM, hl, hz, hm, hm0, hm6, hmk⟩ := id hV
  refine ⟨_, ok_X8_rows G q (v 119 2) v (hS.wfv hA) (by omega) (fun k a b => by have := hmk k a (by omega); rw [show v 8 k = v (4 + 4) k from rfl, this.1]; exact this.2) hal hs, fun x w hp => ?_⟩
  obtain ⟨hF, hp⟩ := hp
  have e120 : w 120 = v 120 := row_eq (fun j => hF 120 j (by decide))
  refine ⟨_, ok_X9_rows G q (v 119 2) A w hA (by rw [e120]; exact hM) (by rw [e120]; exact ⟨hm0, hm6⟩) (hF _ _ (by decide)) hs, fun y u hq => ?_⟩
  obtain ⟨hF2, hq⟩ := hq
  rw [e120] at hq
  refine ⟨?_, hI.same (fun a j g => by unfold KP RP at g; rw [hF2 a j (by omega) (by omega) (by omega), hF a j (by omega)])⟩
  rw [hS.1, hm] at hp
  have hen : enuM (mkB v 4 (v 8) (v 119 2)) (A 0 4) (v 120 112).toNat 0 0 = enuM (mkB A 0 (fun k => v 120 (113 + k)) (v 119 2)) (A 0 4) (v 120 112).toNat 0 0 := enu_congr _ 0 0 (fun i c a b d e => hfg i c a (by omega) d e)
  rw [end_enu0 hm0, hen] at hp
  by_cases g : q = 0 ∨ (0 ≤ q - 10 ∧ q - 10 < v 120 112)
  · have hp := hp.resolve_left (fun z => z.1 g)
    have hq := hq.resolve_left (fun z => z.1 g)
    rcases hp with ⟨a, b⟩ | ⟨a, a2, b⟩ <;> rcases hq with ⟨c, d⟩ | ⟨c, c2, d⟩
    · rw [b, d]
    · exact absurd a c
    · exact absurd c a
    · rcases b with ⟨b1, b2⟩ | ⟨b1, b2⟩ <;> rcases d with ⟨d1, d2⟩ | ⟨t, d1, d2⟩
      · rw [b2, d2]
      · have : (enuM (mkB A 0 (fun k => v 120 (113 + k)) (v 119 2)) (A 0 4) (v 120 112).toNat 0 0) = [] := List.eq_nil_of_length_eq_zero (by omega)
        rw [this] at d1
        simp at d1
      · omega
      · rw [b2, d2]
        rw [← hen] at d1
        exact (head_all hA.1 (by omega) d1).symm
  · rcases hp with ⟨-, b⟩ | ⟨a, -⟩ | ⟨-, a, -⟩
    · rcases hq with ⟨-, d⟩ | ⟨c, -⟩ | ⟨-, c, -⟩
      · rw [b, d]
      · exact absurd (Or.inl c) g
      · exact absurd c g
    · exact absurd (Or.inl a) g
    · exact absurd a g
theorem as_whose (hI : INV v) (q : Int) : AskI G yX8_whose cX8_whose 2 3 71 yX9_whose cX9_whose 2 3 72 [vi q] v := by
  obtain ⟨⟨A, hV⟩, ⟨hal, hs⟩, -⟩ := id hI
  have hfg := mk_same hV (sl := v 119 2)
  obtain ⟨hA, hS, hM, hl, hz, hm, hm0, hm6, hmk⟩ := id hV
  refine ⟨_, ok_X8_whose G q (v 119 2) v (hS.wfv hA) (by omega) (fun k a b => by have := hmk k a (by omega); rw [show v 8 k = v (4 + 4) k from rfl, this.1]; exact this.2) hal hs, fun x w hp => ?_⟩
  obtain ⟨hF, hp⟩ := hp
  have e120 : w 120 = v 120 := row_eq (fun j => hF 120 j (by decide))
  refine ⟨_, ok_X9_whose G q (v 119 2) A w hA (by rw [e120]; exact hM) (by rw [e120]; exact ⟨hm0, hm6⟩) (hF _ _ (by decide)) hs, fun y u hq => ?_⟩
  obtain ⟨hF2, hq⟩ := hq
  rw [e120] at hq
  refine ⟨?_, hI.same (fun a j g => by unfold KP RP at g; rw [hF2 a j (by omega) (by omega) (by omega), hF a j (by omega)])⟩
  rw [hS.1, hm] at hp
  have hen : enuM (mkB v 4 (v 8) (v 119 2)) (A 0 4) (v 120 112).toNat 0 0 = enuM (mkB A 0 (fun k => v 120 (113 + k)) (v 119 2)) (A 0 4) (v 120 112).toNat 0 0 := enu_congr _ 0 0 (fun i c a b d e => hfg i c a (by omega) d e)
  by_cases g : q = 0 ∨ q = 1
  · have hp := hp.resolve_left (fun z => z.1 g)
    have hq := hq.resolve_left (fun z => z.1 g)
    rcases hq with ⟨c, c2, d⟩ | ⟨c, c2, yin, d⟩
    · rcases hp with ⟨a, a2, b⟩ | ⟨a, -⟩ | ⟨a, -⟩
      · rw [b, d]
      · omega
      · omega
    · rcases hp with ⟨a, a2, b⟩ | ⟨a, a2, b⟩ | ⟨a, a2, xin, b⟩
      · omega
      · refine bt_ext (by rw [b]; exact orN_in _ _) yin (fun t t0 t1 => ?_)
        rw [b, Bool.eq_iff_iff, first_all hA.1 c ⟨t0, t1⟩, d t t0 t1, hen, if_pos a2]
      · refine bt_ext xin yin (fun t t0 t1 => ?_)
        rw [Bool.eq_iff_iff, b t t0 t1, d t t0 t1, last_all hA.1 c, hen, if_neg (by omega)]
  · rcases hp with ⟨-, b⟩ | ⟨a, -⟩ | ⟨-, a, -⟩ | ⟨-, a, -⟩
    · rcases hq with ⟨-, d⟩ | ⟨c, -⟩ | ⟨-, c, -⟩
      · rw [b, d]
      · exact absurd c g
      · exact absurd c g
    · exact absurd a g
    · exact absurd (Or.inl a) g
    · exact absurd (Or.inr a) g
end ASK2
