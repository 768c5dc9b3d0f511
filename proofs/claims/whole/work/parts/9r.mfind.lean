set_option maxHeartbeats 4000000 in
set_option maxRecDepth 20000 in
theorem ok_X9_findRows (G : GT) (sl : Int) (A v : VT) (hA : WFV A 0) (hM : MR A (v 120)) (hK : 0 ≤ v 120 112 ∧ v 120 112 ≤ 6) (hal : v 119 2 = sl) (hsl : 0 ≤ sl ∧ sl ≤ 4) : MNv G yX9_findRows cX9_findRows 5 none 2 48 [vr 119] v (fun w => (∀ a j, (¬ a = 119 ∨ (¬ j = 30 ∧ ¬ j = 31 ∧ ¬ j = 32)) → ¬ a = 133 → ¬ a = 134 → w a j = v a j) ∧ ((v 120 112 = 0 ∧ w 119 30 = 1 ∧ w 119 31 = 0 ∧ w 119 32 = 0) ∨ (0 < v 120 112 ∧ TakeQ (v 120 112) (enuM (mkB A 0 (fun k => v 120 (113 + k)) sl) (A 0 4) (v 120 112).toNat 0 0) w))) := by
  refine MN.of pn_X9_findRows [some (vr 119), none, none, none, none] 4 rfl rfl (fun X C hX hn hR => ?_)
  have hN : ∀ i : Nat, i < 5 → i < xn X := fun i h => by rw [hn]; exact h
  refine E.rngk (fun hinv => ?_)
  refine E.loc (fun hloc => ?_)
  have hc := hM.1
  have hb := hM.2.1
  have hA1 := hA.1
  have hA2 := hA.2.1
  have hlen := enu_len (f := (mkB A 0 (fun k => v 120 (113 + k)) sl)) (n := A 0 4) (v 120 112).toNat 0 0
  have hcb := cntR_bd (f := (mkB A 0 (fun k => v 120 (113 + k)) sl)) (nC := (A 0 4).toNat) (by omega) (v 120 112).toNat 0 0
  have hp6 := p8_6 (m := (v 120 112).toNat) (by omega)
  have hlB : ((enuM (mkB A 0 (fun k => v 120 (113 + k)) sl) (A 0 4) (v 120 112).toNat 0 0).length : Int) ≤ 262144 := by omega
  refine E.aload_n C dX9_findRows_0 rfl rfl ?_
  refine N.getR C fa_X9_7 rfl dX9_findRows_1 kd_119 (x := 120) (by decide +kernel) (by decide) ?_
  refine E.bipush C dX9_findRows_4 (by decide) ?_
  refine N.iald C dX9_findRows_6 kd_120 ln_120 (by omega) (x := v 120 112) rfl ?_
  refine N.ist_1 C dX9_findRows_7 (hN 1 (by decide)) rfl ?_
  refine E.aload_n C dX9_findRows_8 rfl rfl ?_
  refine E.iconst C dX9_findRows_9 (by decide) ?_
  refine N.putI C fp_X9_305 rfl dX9_findRows_10 kd_119 ?_
  refine E.aload_n C dX9_findRows_13 rfl rfl ?_
  refine E.iconst C dX9_findRows_14 (by decide) ?_
  refine N.putI C fp_X9_308 rfl dX9_findRows_15 kd_119 ?_
  refine E.aload_n C dX9_findRows_18 rfl rfl ?_
  refine E.iconst C dX9_findRows_19 (by decide) ?_
  refine N.putI C fp_X9_311 rfl dX9_findRows_20 kd_119 ?_
  refine E.iload_n C dX9_findRows_23 rfl rfl ?_
  refine E.if_ne C dX9_findRows_24 (tgt := 33) (by decide) (fun h24 => ?_) (fun h24 => ?_)
  · skip
    refine E.iconst C dX9_findRows_33 (by decide) ?_
    refine N.ist_2 C dX9_findRows_34 (hN 2 (by decide)) rfl ?_
    refine E.iconst C dX9_findRows_35 (by decide) ?_
    refine N.ist_3 C dX9_findRows_36 (hN 3 (by decide)) rfl ?_
    refine E.iconst C dX9_findRows_37 (by decide) ?_
    refine N.ist_4 C dX9_findRows_38 (hN 4 (by decide)) rfl ?_
    have lp40 : ∀ (k40 : Nat) (at_ : Int) (us : Int) (c : Int) (w : VT), (mesA (A 0 4) (v 120 112) (w 133) at_ c).toNat = k40 → ((∀ a j, (¬ a = 119 ∨ (¬ j = 30 ∧ ¬ j = 31 ∧ ¬ j = 32)) → ¬ a = 133 → ¬ a = 134 → w a j = v a j) ∧ ∃ done, TakeQ (v 120 112) done w ∧ FndI (mkB A 0 (fun k => v 120 (113 + k)) sl) (A 0 4) (v 120 112) done (w 133) at_ us c) → E X G 0 0 1000 w 40 [some (vr 119), some (vi (v 120 112)), some (vi at_), some (vi us), some (vi c)] [] := by
      intro k40
      induction k40 using Nat.strongRecOn with
      | ind k40 ih40 =>
        intro at_ us c w hk40 hI40
        obtain ⟨hfr, done, hT, hq⟩ := hI40
        refine E.iload_n C dX9_findRows_40 rfl rfl ?_
        refine E.if_lt C dX9_findRows_41 (tgt := 168) (by decide) (fun h41 => ?_) (fun h41 => ?_)
        · skip
          exact N.vret C hR dX9_findRows_168 (fun hi => by exact ⟨hfr, Or.inr ⟨by omega, by rcases hq with z | z; (rw [← z.2]; exact hT); (exfalso; have := z.1.1; omega)⟩⟩)
        · skip
          obtain ⟨hW, hD⟩ := hq.resolve_left (fun z => by have := z.1; omega)
          have hW1 := hW.1
          have hW3 := hW.2.2.1
          have hdb := FndI.bd hD hlB
          refine E.iload C dX9_findRows_44 rfl ?_
          refine E.aload_n C dX9_findRows_46 rfl rfl ?_
          refine N.getR C fa_X9_7 rfl dX9_findRows_47 kd_119 (x := 120) (by decide +kernel) (by decide) ?_
          refine E.iconst C dX9_findRows_50 (by decide) ?_
          refine N.iald C dX9_findRows_51 kd_120 ln_120 (by omega) (x := v 120 0) (hfr _ _ (Or.inl (by decide)) (by decide) (by decide)) ?_
          refine E.icmp_ne C dX9_findRows_52 (tgt := 100) (by decide) (fun h52 => ?_) (fun h52 => ?_)
          · skip
            refine E.iload_n C dX9_findRows_100 rfl rfl ?_
            refine E.iload C dX9_findRows_101 rfl ?_
            refine E.ishr C dX9_findRows_103 ?_
            refine E.iconst C dX9_findRows_104 (by decide) ?_
            refine E.iand C dX9_findRows_105 ?_
            refine E.iconst C dX9_findRows_106 (by decide) ?_
            refine E.icmp_eq C dX9_findRows_107 (tgt := 120) (by decide) (fun h107 => ?_) (fun h107 => ?_)
            · skip
              refine N.iinc_4 C dX9_findRows_120 (hN 4 (by decide)) rfl (by omega) ?_
              refine E.goto C dX9_findRows_123 (tgt := 40) (by decide) ?_
              exact ih40 _ (by rw [← hk40]; first | exact hW.mskip (by omega) (fun i _ _ => rfl) | exact hW.mfin (by omega) (by omega) | exact hW.mpop' (by omega) (by omega) (by omega) | exact hW.mdeep (by omega) (fun i _ g => u_ne (Or.inr (by omega))) (u_at rfl) (by omega) | exact hW.mskip (by omega) (fun i g1 g2 => (hp143.1 133 i (Or.inl (by decide)) (by decide)).trans (u_ne (Or.inr (by omega)))) | (exfalso; omega)) at_ us (c + 1) w rfl (by first | exact ⟨fun a j g1 g2 g3 => (hp143.1 a j g1 g3).trans ((u_ne (Or.inl g2)).trans (hfr a j g1 g2 g3)), _, htk, hf2⟩ | exact ⟨hfr, done, hT, FndI.pop (by omega) hW hD (by omega) (by omega)⟩ | exact ⟨hfr, done, hT, FndI.fin hD (by omega) (by omega) (by omega)⟩ | exact ⟨hfr, done, hT, FndI.no hW hD (by omega) (fun z => by rw [bsh1 ⟨by omega, by omega⟩ h107] at z; exact absurd z.2 (by decide))⟩ | exact ⟨hfr, done, hT, FndI.no hW hD (by omega) (fun z => h117 z.1)⟩ | exact ⟨fun a j g1 g2 g3 => (u_ne (Or.inl g2)).trans (hfr a j g1 g2 g3), done, hT.off (fun j => u_ne (Or.inl (by decide))) (fun i => u_ne (Or.inl (by decide))), FndI.deep (by omega) hW hD (by omega) ⟨h117, hbf⟩ (by omega) (fun i g => u_ne (Or.inr g)) (u_at rfl)⟩ | (exfalso; omega))
            · skip
              have hbf := bsh0 ⟨by omega, by omega⟩ h107
              have hca := can_mk2 (sl := sl) (k := at_) (c := c) hA hM (fun j => hfr 120 j (Or.inl (by decide)) (by decide) (by decide)) ((hfr 119 2 (Or.inr (by decide)) (by decide) (by decide)).trans hal) hsl ⟨by omega, by omega⟩ ⟨by omega, by omega⟩
              refine E.aload_n C dX9_findRows_110 rfl rfl ?_
              refine E.iload_n C dX9_findRows_111 rfl rfl ?_
              refine E.iload C dX9_findRows_112 rfl ?_
              refine N.callVp (S := []) (As := [vi at_, vi c]) C hX (ok_X9_canMark G at_ c w ⟨by omega, by omega, by omega, by omega⟩ hca.1 hca.2.1) yf_X9_canMark yv_X9_canMark ml_X9_317 rfl rfl rfl kd_119 (by decide) (by decide) (Nat.le_of_ble_eq_true rfl) dX9_findRows_114 rfl ?_
              refine E.veq (x' := (if (mkB A 0 (fun k => v 120 (113 + k)) sl) at_ c = true then 1 else 0)) (hca.2.2) ?_
              refine E.if_ne C dX9_findRows_117 (tgt := 126) (by decide) (fun h117 => ?_) (fun h117 => ?_)
              · have h117 := b0n.mp h117
                refine E.aload_n C dX9_findRows_126 rfl rfl ?_
                refine N.getR C fa_X9_50 rfl dX9_findRows_127 kd_119 (x := 133) (by decide +kernel) (by decide) ?_
                refine E.iload_n C dX9_findRows_130 rfl rfl ?_
                refine E.iload C dX9_findRows_131 rfl ?_
                refine N.iast C dX9_findRows_133 kd_133 ln_133 (by omega) ?_
                refine E.iload_n C dX9_findRows_134 rfl rfl ?_
                refine E.iload_n C dX9_findRows_135 rfl rfl ?_
                refine E.iconst C dX9_findRows_136 (by decide) ?_
                refine E.isub C dX9_findRows_137 (by omega) ?_
                refine E.icmp_ne C dX9_findRows_138 (tgt := 152) (by decide) (fun h138 => ?_) (fun h138 => ?_)
                · skip
                  refine E.iload_n C dX9_findRows_152 rfl rfl ?_
                  refine E.iconst C dX9_findRows_153 (by decide) ?_
                  refine E.iload C dX9_findRows_154 rfl ?_
                  refine E.ishl C dX9_findRows_156 ?_
                  refine E.ior C dX9_findRows_157 ?_
                  refine N.ist_3 C dX9_findRows_158 (hN 3 (by decide)) rfl ?_
                  refine N.iinc_2 C dX9_findRows_159 (hN 2 (by decide)) rfl (by omega) ?_
                  refine E.iconst C dX9_findRows_162 (by decide) ?_
                  refine N.ist_4 C dX9_findRows_163 (hN 4 (by decide)) rfl ?_
                  refine E.goto C dX9_findRows_165 (tgt := 40) (by decide) ?_
                  exact ih40 _ (by rw [← hk40]; first | exact hW.mskip (by omega) (fun i _ _ => rfl) | exact hW.mfin (by omega) (by omega) | exact hW.mpop' (by omega) (by omega) (by omega) | exact hW.mdeep (by omega) (fun i _ g => u_ne (Or.inr (by omega))) (u_at rfl) (by omega) | exact hW.mskip (by omega) (fun i g1 g2 => (hp143.1 133 i (Or.inl (by decide)) (by decide)).trans (u_ne (Or.inr (by omega)))) | (exfalso; omega)) (at_ + 1) (jor us (jshl 1 c)) 0 (upd2 w 133 at_ c) rfl (by first | exact ⟨fun a j g1 g2 g3 => (hp143.1 a j g1 g3).trans ((u_ne (Or.inl g2)).trans (hfr a j g1 g2 g3)), _, htk, hf2⟩ | exact ⟨hfr, done, hT, FndI.pop (by omega) hW hD (by omega) (by omega)⟩ | exact ⟨hfr, done, hT, FndI.fin hD (by omega) (by omega) (by omega)⟩ | exact ⟨hfr, done, hT, FndI.no hW hD (by omega) (fun z => by rw [bsh1 ⟨by omega, by omega⟩ h107] at z; exact absurd z.2 (by decide))⟩ | exact ⟨hfr, done, hT, FndI.no hW hD (by omega) (fun z => h117 z.1)⟩ | exact ⟨fun a j g1 g2 g3 => (u_ne (Or.inl g2)).trans (hfr a j g1 g2 g3), done, hT.off (fun j => u_ne (Or.inl (by decide))) (fun i => u_ne (Or.inl (by decide))), FndI.deep (by omega) hW hD (by omega) ⟨h117, hbf⟩ (by omega) (fun i g => u_ne (Or.inr g)) (u_at rfl)⟩ | (exfalso; omega))
                · skip
                  refine E.aload_n C dX9_findRows_141 rfl rfl ?_
                  refine E.iload_n C dX9_findRows_142 rfl rfl ?_
                  refine N.callVv (S := []) (As := [vi (v 120 112)]) C hX (ok_X9_takesRow G (v 120 112) (upd2 w 133 at_ c) (by omega) (by rw [u_ne (Or.inl (by decide)), hT.1]; omega)) yf_X9_takesRow yv_X9_takesRow ml_X9_314 rfl rfl rfl kd_119 (by decide) (by decide) (Nat.le_of_ble_eq_true rfl) dX9_findRows_143 rfl (fun w143 hp143 => ?_)
                  have hr : ∀ i, 0 ≤ i → i ≤ at_ → 0 ≤ upd2 w 133 at_ c 133 i ∧ upd2 w 133 at_ c 133 i < 32 := fun i g1 g2 => by
                    by_cases e : i = at_
                    · rw [u_at e]; omega
                    · rw [u_ne (Or.inr e)]
                      have := (hW.2.2.2 i g1 (by omega)).1
                      omega
                  have e133 : w143 133 = upd2 w 133 at_ c 133 := funext (fun i => hp143.1 133 i (Or.inl (by decide)) (by decide))
                  have hrz := hr (v 120 112 - 1) (by omega) (by omega)
                  have htk := TakeQ.next (y := upd2 w 133 at_ c) (hT.off (fun j => u_ne (Or.inl (by decide))) (fun i => u_ne (Or.inl (by decide)))) (by omega) (hr 0 (by omega) (by omega)) hrz hp143.2.1 hp143.2.2.1 hp143.2.2.2.1 hp143.2.2.2.2
                  have hf2 : FndI (mkB A 0 (fun k => v 120 (113 + k)) sl) (A 0 4) (v 120 112) (done ++ [preR (w143 133) (v 120 112).toNat]) (w143 133) at_ us (c + 1) := FndI.take hW hD (by omega) ⟨h117, hbf⟩ (by omega) (fun i g => by rw [e133]; exact u_ne (Or.inr g)) (by rw [e133]; exact u_at rfl)
                  rw [← e133] at htk
                  refine N.iinc_4 C dX9_findRows_146 (hN 4 (by decide)) rfl (by omega) ?_
                  refine E.goto C dX9_findRows_149 (tgt := 40) (by decide) ?_
                  exact ih40 _ (by rw [← hk40]; first | exact hW.mskip (by omega) (fun i _ _ => rfl) | exact hW.mfin (by omega) (by omega) | exact hW.mpop' (by omega) (by omega) (by omega) | exact hW.mdeep (by omega) (fun i _ g => u_ne (Or.inr (by omega))) (u_at rfl) (by omega) | exact hW.mskip (by omega) (fun i g1 g2 => (hp143.1 133 i (Or.inl (by decide)) (by decide)).trans (u_ne (Or.inr (by omega)))) | (exfalso; omega)) at_ us (c + 1) w143 rfl (by first | exact ⟨fun a j g1 g2 g3 => (hp143.1 a j g1 g3).trans ((u_ne (Or.inl g2)).trans (hfr a j g1 g2 g3)), _, htk, hf2⟩ | exact ⟨hfr, done, hT, FndI.pop (by omega) hW hD (by omega) (by omega)⟩ | exact ⟨hfr, done, hT, FndI.fin hD (by omega) (by omega) (by omega)⟩ | exact ⟨hfr, done, hT, FndI.no hW hD (by omega) (fun z => by rw [bsh1 ⟨by omega, by omega⟩ h107] at z; exact absurd z.2 (by decide))⟩ | exact ⟨hfr, done, hT, FndI.no hW hD (by omega) (fun z => h117 z.1)⟩ | exact ⟨fun a j g1 g2 g3 => (u_ne (Or.inl g2)).trans (hfr a j g1 g2 g3), done, hT.off (fun j => u_ne (Or.inl (by decide))) (fun i => u_ne (Or.inl (by decide))), FndI.deep (by omega) hW hD (by omega) ⟨h117, hbf⟩ (by omega) (fun i g => u_ne (Or.inr g)) (u_at rfl)⟩ | (exfalso; omega))
              · have h117 := b0.mp h117
                refine N.iinc_4 C dX9_findRows_120 (hN 4 (by decide)) rfl (by omega) ?_
                refine E.goto C dX9_findRows_123 (tgt := 40) (by decide) ?_
                exact ih40 _ (by rw [← hk40]; first | exact hW.mskip (by omega) (fun i _ _ => rfl) | exact hW.mfin (by omega) (by omega) | exact hW.mpop' (by omega) (by omega) (by omega) | exact hW.mdeep (by omega) (fun i _ g => u_ne (Or.inr (by omega))) (u_at rfl) (by omega) | exact hW.mskip (by omega) (fun i g1 g2 => (hp143.1 133 i (Or.inl (by decide)) (by decide)).trans (u_ne (Or.inr (by omega)))) | (exfalso; omega)) at_ us (c + 1) w rfl (by first | exact ⟨fun a j g1 g2 g3 => (hp143.1 a j g1 g3).trans ((u_ne (Or.inl g2)).trans (hfr a j g1 g2 g3)), _, htk, hf2⟩ | exact ⟨hfr, done, hT, FndI.pop (by omega) hW hD (by omega) (by omega)⟩ | exact ⟨hfr, done, hT, FndI.fin hD (by omega) (by omega) (by omega)⟩ | exact ⟨hfr, done, hT, FndI.no hW hD (by omega) (fun z => by rw [bsh1 ⟨by omega, by omega⟩ h107] at z; exact absurd z.2 (by decide))⟩ | exact ⟨hfr, done, hT, FndI.no hW hD (by omega) (fun z => h117 z.1)⟩ | exact ⟨fun a j g1 g2 g3 => (u_ne (Or.inl g2)).trans (hfr a j g1 g2 g3), done, hT.off (fun j => u_ne (Or.inl (by decide))) (fun i => u_ne (Or.inl (by decide))), FndI.deep (by omega) hW hD (by omega) ⟨h117, hbf⟩ (by omega) (fun i g => u_ne (Or.inr g)) (u_at rfl)⟩ | (exfalso; omega))
          · skip
            refine N.iinc_2 C dX9_findRows_55 (hN 2 (by decide)) rfl (by omega) ?_
            refine E.iload_n C dX9_findRows_58 rfl rfl ?_
            refine E.if_ge C dX9_findRows_59 (tgt := 66) (by decide) (fun h59 => ?_) (fun h59 => ?_)
            · skip
              have hwr := (hW.2.2.2 (at_ + (-1)) (by omega) (by omega)).1
              refine E.aload_n C dX9_findRows_66 rfl rfl ?_
              refine N.getR C fa_X9_50 rfl dX9_findRows_67 kd_119 (x := 133) (by decide +kernel) (by decide) ?_
              refine E.iload_n C dX9_findRows_70 rfl rfl ?_
              refine N.iald C dX9_findRows_71 kd_133 ln_133 (by omega) (x := w 133 (at_ + (-1))) rfl ?_
              refine E.iconst C dX9_findRows_72 (by decide) ?_
              refine E.iadd C dX9_findRows_73 (by omega) ?_
              refine N.ist_4 C dX9_findRows_74 (hN 4 (by decide)) rfl ?_
              refine E.iload_n C dX9_findRows_76 rfl rfl ?_
              refine E.if_ge C dX9_findRows_77 (tgt := 84) (by decide) (fun h77 => ?_) (fun h77 => ?_)
              · skip
                refine E.iload_n C dX9_findRows_84 rfl rfl ?_
                refine E.iconst C dX9_findRows_85 (by decide) ?_
                refine E.aload_n C dX9_findRows_86 rfl rfl ?_
                refine N.getR C fa_X9_50 rfl dX9_findRows_87 kd_119 (x := 133) (by decide +kernel) (by decide) ?_
                refine E.iload_n C dX9_findRows_90 rfl rfl ?_
                refine N.iald C dX9_findRows_91 kd_133 ln_133 (by omega) (x := w 133 (at_ + (-1))) rfl ?_
                refine E.ishl C dX9_findRows_92 ?_
                refine E.iconst C dX9_findRows_93 (by decide) ?_
                refine E.ixor C dX9_findRows_94 ?_
                refine E.iand C dX9_findRows_95 ?_
                refine N.ist_3 C dX9_findRows_96 (hN 3 (by decide)) rfl ?_
                refine E.goto C dX9_findRows_97 (tgt := 40) (by decide) ?_
                exact ih40 _ (by rw [← hk40]; first | exact hW.mskip (by omega) (fun i _ _ => rfl) | exact hW.mfin (by omega) (by omega) | exact hW.mpop' (by omega) (by omega) (by omega) | exact hW.mdeep (by omega) (fun i _ g => u_ne (Or.inr (by omega))) (u_at rfl) (by omega) | exact hW.mskip (by omega) (fun i g1 g2 => (hp143.1 133 i (Or.inl (by decide)) (by decide)).trans (u_ne (Or.inr (by omega)))) | (exfalso; omega)) (at_ + (-1)) (jand us (jxor (jshl 1 (w 133 (at_ + (-1)))) (-1))) ((w 133 (at_ + (-1))) + 1) w rfl (by first | exact ⟨fun a j g1 g2 g3 => (hp143.1 a j g1 g3).trans ((u_ne (Or.inl g2)).trans (hfr a j g1 g2 g3)), _, htk, hf2⟩ | exact ⟨hfr, done, hT, FndI.pop (by omega) hW hD (by omega) (by omega)⟩ | exact ⟨hfr, done, hT, FndI.fin hD (by omega) (by omega) (by omega)⟩ | exact ⟨hfr, done, hT, FndI.no hW hD (by omega) (fun z => by rw [bsh1 ⟨by omega, by omega⟩ h107] at z; exact absurd z.2 (by decide))⟩ | exact ⟨hfr, done, hT, FndI.no hW hD (by omega) (fun z => h117 z.1)⟩ | exact ⟨fun a j g1 g2 g3 => (u_ne (Or.inl g2)).trans (hfr a j g1 g2 g3), done, hT.off (fun j => u_ne (Or.inl (by decide))) (fun i => u_ne (Or.inl (by decide))), FndI.deep (by omega) hW hD (by omega) ⟨h117, hbf⟩ (by omega) (fun i g => u_ne (Or.inr g)) (u_at rfl)⟩ | (exfalso; omega))
              · skip
                refine E.iconst C dX9_findRows_80 (by decide) ?_
                refine E.goto C dX9_findRows_81 (tgt := 96) (by decide) ?_
                refine N.ist_3 C dX9_findRows_96 (hN 3 (by decide)) rfl ?_
                refine E.goto C dX9_findRows_97 (tgt := 40) (by decide) ?_
                exact ih40 _ (by rw [← hk40]; first | exact hW.mskip (by omega) (fun i _ _ => rfl) | exact hW.mfin (by omega) (by omega) | exact hW.mpop' (by omega) (by omega) (by omega) | exact hW.mdeep (by omega) (fun i _ g => u_ne (Or.inr (by omega))) (u_at rfl) (by omega) | exact hW.mskip (by omega) (fun i g1 g2 => (hp143.1 133 i (Or.inl (by decide)) (by decide)).trans (u_ne (Or.inr (by omega)))) | (exfalso; omega)) (at_ + (-1)) 0 ((w 133 (at_ + (-1))) + 1) w rfl (by first | exact ⟨fun a j g1 g2 g3 => (hp143.1 a j g1 g3).trans ((u_ne (Or.inl g2)).trans (hfr a j g1 g2 g3)), _, htk, hf2⟩ | exact ⟨hfr, done, hT, FndI.pop (by omega) hW hD (by omega) (by omega)⟩ | exact ⟨hfr, done, hT, FndI.fin hD (by omega) (by omega) (by omega)⟩ | exact ⟨hfr, done, hT, FndI.no hW hD (by omega) (fun z => by rw [bsh1 ⟨by omega, by omega⟩ h107] at z; exact absurd z.2 (by decide))⟩ | exact ⟨hfr, done, hT, FndI.no hW hD (by omega) (fun z => h117 z.1)⟩ | exact ⟨fun a j g1 g2 g3 => (u_ne (Or.inl g2)).trans (hfr a j g1 g2 g3), done, hT.off (fun j => u_ne (Or.inl (by decide))) (fun i => u_ne (Or.inl (by decide))), FndI.deep (by omega) hW hD (by omega) ⟨h117, hbf⟩ (by omega) (fun i g => u_ne (Or.inr g)) (u_at rfl)⟩ | (exfalso; omega))
            · skip
              refine E.iconst C dX9_findRows_62 (by decide) ?_
              refine E.goto C dX9_findRows_63 (tgt := 74) (by decide) ?_
              refine N.ist_4 C dX9_findRows_74 (hN 4 (by decide)) rfl ?_
              refine E.iload_n C dX9_findRows_76 rfl rfl ?_
              refine E.if_ge C dX9_findRows_77 (tgt := 84) (by decide) (fun h77 => ?_) (fun h77 => ?_)
              · skip
                refine E.iload_n C dX9_findRows_84 rfl rfl ?_
                refine E.iconst C dX9_findRows_85 (by decide) ?_
                refine E.aload_n C dX9_findRows_86 rfl rfl ?_
                refine N.getR C fa_X9_50 rfl dX9_findRows_87 kd_119 (x := 133) (by decide +kernel) (by decide) ?_
                refine E.iload_n C dX9_findRows_90 rfl rfl ?_
                refine N.iald C dX9_findRows_91 kd_133 ln_133 (by omega) (x := w 133 (at_ + (-1))) rfl ?_
                refine E.ishl C dX9_findRows_92 ?_
                refine E.iconst C dX9_findRows_93 (by decide) ?_
                refine E.ixor C dX9_findRows_94 ?_
                refine E.iand C dX9_findRows_95 ?_
                refine N.ist_3 C dX9_findRows_96 (hN 3 (by decide)) rfl ?_
                refine E.goto C dX9_findRows_97 (tgt := 40) (by decide) ?_
                exact ih40 _ (by rw [← hk40]; first | exact hW.mskip (by omega) (fun i _ _ => rfl) | exact hW.mfin (by omega) (by omega) | exact hW.mpop' (by omega) (by omega) (by omega) | exact hW.mdeep (by omega) (fun i _ g => u_ne (Or.inr (by omega))) (u_at rfl) (by omega) | exact hW.mskip (by omega) (fun i g1 g2 => (hp143.1 133 i (Or.inl (by decide)) (by decide)).trans (u_ne (Or.inr (by omega)))) | (exfalso; omega)) (at_ + (-1)) (jand us (jxor (jshl 1 (w 133 (at_ + (-1)))) (-1))) 0 w rfl (by first | exact ⟨fun a j g1 g2 g3 => (hp143.1 a j g1 g3).trans ((u_ne (Or.inl g2)).trans (hfr a j g1 g2 g3)), _, htk, hf2⟩ | exact ⟨hfr, done, hT, FndI.pop (by omega) hW hD (by omega) (by omega)⟩ | exact ⟨hfr, done, hT, FndI.fin hD (by omega) (by omega) (by omega)⟩ | exact ⟨hfr, done, hT, FndI.no hW hD (by omega) (fun z => by rw [bsh1 ⟨by omega, by omega⟩ h107] at z; exact absurd z.2 (by decide))⟩ | exact ⟨hfr, done, hT, FndI.no hW hD (by omega) (fun z => h117 z.1)⟩ | exact ⟨fun a j g1 g2 g3 => (u_ne (Or.inl g2)).trans (hfr a j g1 g2 g3), done, hT.off (fun j => u_ne (Or.inl (by decide))) (fun i => u_ne (Or.inl (by decide))), FndI.deep (by omega) hW hD (by omega) ⟨h117, hbf⟩ (by omega) (fun i g => u_ne (Or.inr g)) (u_at rfl)⟩ | (exfalso; omega))
              · skip
                refine E.iconst C dX9_findRows_80 (by decide) ?_
                refine E.goto C dX9_findRows_81 (tgt := 96) (by decide) ?_
                refine N.ist_3 C dX9_findRows_96 (hN 3 (by decide)) rfl ?_
                refine E.goto C dX9_findRows_97 (tgt := 40) (by decide) ?_
                exact ih40 _ (by rw [← hk40]; first | exact hW.mskip (by omega) (fun i _ _ => rfl) | exact hW.mfin (by omega) (by omega) | exact hW.mpop' (by omega) (by omega) (by omega) | exact hW.mdeep (by omega) (fun i _ g => u_ne (Or.inr (by omega))) (u_at rfl) (by omega) | exact hW.mskip (by omega) (fun i g1 g2 => (hp143.1 133 i (Or.inl (by decide)) (by decide)).trans (u_ne (Or.inr (by omega)))) | (exfalso; omega)) (at_ + (-1)) 0 0 w rfl (by first | exact ⟨fun a j g1 g2 g3 => (hp143.1 a j g1 g3).trans ((u_ne (Or.inl g2)).trans (hfr a j g1 g2 g3)), _, htk, hf2⟩ | exact ⟨hfr, done, hT, FndI.pop (by omega) hW hD (by omega) (by omega)⟩ | exact ⟨hfr, done, hT, FndI.fin hD (by omega) (by omega) (by omega)⟩ | exact ⟨hfr, done, hT, FndI.no hW hD (by omega) (fun z => by rw [bsh1 ⟨by omega, by omega⟩ h107] at z; exact absurd z.2 (by decide))⟩ | exact ⟨hfr, done, hT, FndI.no hW hD (by omega) (fun z => h117 z.1)⟩ | exact ⟨fun a j g1 g2 g3 => (u_ne (Or.inl g2)).trans (hfr a j g1 g2 g3), done, hT.off (fun j => u_ne (Or.inl (by decide))) (fun i => u_ne (Or.inl (by decide))), FndI.deep (by omega) hW hD (by omega) ⟨h117, hbf⟩ (by omega) (fun i g => u_ne (Or.inr g)) (u_at rfl)⟩ | (exfalso; omega))
    exact lp40 _ 0 0 0 (upd2 (upd2 (upd2 v 119 30 0) 119 31 0) 119 32 0) rfl (by exact ⟨fun a j g1 g2 g3 => by rw [u_ne (by omega), u_ne (by omega), u_ne (by omega)], [], TakeQ.nil ((u_ne (by decide)).trans ((u_ne (by decide)).trans (u_at (by decide)))) ((u_ne (by decide)).trans (u_at (by decide))) (u_at (by decide)), FndI.zero (by omega) (by omega)⟩)
  · skip
    refine E.aload_n C dX9_findRows_27 rfl rfl ?_
    refine E.iconst C dX9_findRows_28 (by decide) ?_
    refine N.callVv (S := []) (As := [vi 0]) C hX (ok_X9_takesRow G 0 (upd2 (upd2 (upd2 v 119 30 0) 119 31 0) 119 32 0) (by omega) (by rw [u_ne (Or.inr (by decide)), u_ne (Or.inr (by decide)), u_at rfl]; omega)) yf_X9_takesRow yv_X9_takesRow ml_X9_314 rfl rfl rfl kd_119 (by decide) (by decide) (Nat.le_of_ble_eq_true rfl) dX9_findRows_29 rfl (fun w29 hp29 => ?_)
    exact N.vret C hR dX9_findRows_32 (fun hi => by exact ⟨fun a j g1 g2 g3 => (hp29.1 a j g1 g3).trans (by rw [u_ne (by omega), u_ne (by omega), u_ne (by omega)]), Or.inl ⟨by omega, hp29.2.1.trans (by rw [u_ne (Or.inr (by decide)), u_ne (Or.inr (by decide)), u_at rfl]; rfl), hp29.2.2.1.trans (by rw [u_ne (Or.inr (by decide)), u_at rfl, if_pos rfl]; decide +kernel), hp29.2.2.2.1.trans (by rw [u_at rfl, if_pos rfl]; decide +kernel)⟩⟩)
