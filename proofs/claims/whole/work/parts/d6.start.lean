/-! THE CLAIM OUT OF ONE WALK OF THE LAW'S BODY. Your part is whole_start (and what it stands on); all else here is the same for every law, but numbers. -/
def R_law : String := "HandedDownLaw"
def lw_P (b : Addr) (xs : List Int32) (args : Array Value) (s : State) : Prop := args = #[.ref b] ∧ s.IntsAt b xs ∧ xs.length ≤ 2560 ∧ (Jvm.Cond.and given_1 narrow_1).before args s = true
def lw_Q (_ : Array Value) (s : State) (o : Outcome) (t : State) : Prop := o = .returned (some (.int 1)) ∧ Framed s o t [] 600000 7302250
def lw_Z (below : List Frame) (a : Array Value) (s : State) : State → Prop := fun t => ∃ o, t.status = .running ∧ Ended t below o ∧ lw_Q a s o t
/-- the law's own end, with 1 on the stack, nothing written that was there before, its room as the claim has it -/
theorem lw_ret {p : Program} {l : Launch} {e : Env} {s : State} {m : MethodId} {below : List Frame} {meth : Method} {c : Code} {b : Nat} (hx : p.tables.exec = Jvm.exec) (hb : c.code = code) (hr : meth.sig.returnType = ret) (hlocks : meth.locks = false) {pc : Nat} {H : Heap} {ls : Array Slot} (hdg : decode code pc = .ok (.ireturn, 1)) : W p l e room_1 s m #[Value.ref b] below meth c H [] 600000 7302250 (lw_Z below #[Value.ref b] s) (F0 m pc ls [.int 1]) := by
  intro T hT X
  obtain ⟨fs, hret, hrun, hended, hW, hframe⟩ := X.leave (v := some (.int 1)) (hlocks := hlocks) (fun h => by rw [hr] at h; cases h)
  have hmeth' : T.vm.method? m = some meth := X.method'
  refine ⟨T.setFrames fs, ?_, .returned (some (.int 1)), hrun, hended, rfl, ⟨_, rfl⟩, hW, hframe⟩
  jvm_step X.here [X.here.top, hx, hb, hdg, hmeth', hr, ret, narrow_b1]
  (try refine ⟨rfl, ?_⟩); (try refine ⟨rfl, ?_⟩)
  first | (intro acts; rw [hret _ acts rfl rfl rfl]) | rw [hret _ _ rfl rfl rfl]
  exact Steps.refl _
/-- what holds at the law's entry: the machine, the code, the tables' words (any of lw_tbl by 'hts w (by decide +kernel)'), the script of L ints xs at the cell b, what the Statement gives of the start (any of its parts by flat_of_before) -/
def lw_At (p : Program) (s : State) (m : MethodId) (meth : Method) (c : Code) (b L : Nat) (xs : Nat → Int32) : Prop :=
  p.tables.exec = Jvm.exec ∧ c.code = code ∧ meth.sig.returnType = ret ∧ c.maxLocals = 4 ∧ s.vm.findClass R_law = some m.cls ∧ (∀ w ∈ lw_tbl, w.before #[Value.ref b] s = true) ∧ va_X b L xs s s.heap ∧ b < s.heap.size ∧ meth.locks = false ∧ (Jvm.Cond.and given_1 narrow_1).before #[Value.ref b] s = true
-- ===== MY PART =====
theorem lw_nest_in {w : Cond} (h : w ∈ lw_nest) : w ∈ lw_tbl := (List.mem_filter.mp h).1
theorem nw_known {own : String} {index ci N : Nat} {args : Array Value} {s : State} (h : NW own index ci N) (hg : ∀ w ∈ lw_good, w.before args s = true) : ∃ q : ClassId × (Nat → Nat), ∀ r, vwCl[ci]? = some r → u_Kn s r.1 r.2.1 r.2.2 q.1 q.2 := by
  obtain ⟨Cn, T, ty, hl, hi, hini, hin, hty, hc, hci, hN, hd⟩ := h
  obtain ⟨cC, iS, hk⟩ := u_known hg hin (hg _ hi)
  exact ⟨(cC, iS), fun r hr => by rw [hc] at hr; cases hr; exact hk⟩
theorem cls_known {args : Array Value} {s : State} (hg : ∀ w ∈ lw_good, w.before args s = true) : ∃ D : va_G, ∀ (k : Nat) (r : vw_C), vwCl[k]? = some r → u_Kn s r.1 r.2.1 r.2.2 (D.1 k) (D.2 k) := by
  have h : ∀ k : Nat, ∃ q : ClassId × (Nat → Nat), ∀ r, vwCl[k]? = some r → u_Kn s r.1 r.2.1 r.2.2 q.1 q.2 := by
    intro k
    by_cases hk : k < 10
    · rcases (show k = 0 ∨ k = 1 ∨ k = 2 ∨ k = 3 ∨ k = 4 ∨ k = 5 ∨ k = 6 ∨ k = 7 ∨ k = 8 ∨ k = 9 by omega) with rfl | rfl | rfl | rfl | rfl | rfl | rfl | rfl | rfl | rfl
      · exact nw_known nw_X7_9 hg
      · exact nw_known nw_X8_49 hg
      · exact nw_known nw_X8_56 hg
      · exact nw_known nw_X8_26 hg
      · exact nw_known nw_X8_43 hg
      · exact nw_known nw_X8_7 hg
      · exact nw_known nw_X7_17 hg
      · exact nw_known nw_X8_16 hg
      · exact nw_known nw_L_7 hg
      · exact nw_known nw_L_10 hg
    · obtain ⟨q, -⟩ := nw_known nw_X7_9 hg
      refine ⟨q, fun r hr => ?_⟩
      rw [List.getElem?_eq_none (by show 10 ≤ k; omega)] at hr
      cases hr
  obtain ⟨f, hf⟩ := Classical.axiomOfChoice h
  exact ⟨(fun k => (f k).1, fun k => (f k).2), hf⟩
theorem arr_prim {ty : FieldType} {args : Array Value} {s : State} (h : (Cond.arrayClass ty).before args s = true) : ∃ cA : ClassId, ArrOfT s cA ty ∧ s.vm.findClass ("[" ++ ty.toString) = some cA := by
  obtain ⟨cA, kA, comp, h1, h2, h3⟩ := Cond.arrayClass_spec h
  exact ⟨cA, fun n z => ⟨fun k h => (by cases h), kA, h2, comp, h3⟩, h1⟩
theorem arr_obj {C : String} {args : Array Value} {s : State} (h : (Cond.arrayOver (.object C)).before args s = true) : ∃ cA : ClassId, ArrOfT s cA (.object C) ∧ va_RA s cA (.object C) := by
  obtain ⟨comp, c, k, h1, h2, h3, h4, h5⟩ := Cond.arrayOver_spec h
  exact ⟨c, fun n z => ⟨fun k h => (by cases h), k, h3, comp, h4⟩, k, comp, h3, h4, h1, h5⟩
def tmS (i : Nat) : Term := Term.string RX3 (strI.getD i 0)
def flG : List Cond := flatC (Jvm.Cond.and given_1 narrow_1)
theorem fl_ex : ∀ i : Nat, i < 11 → Cond.exactly (tmS i) "java/lang/String" ∈ flG := by decide +kernel
theorem fl_co : ∀ i : Nat, i < 11 → Cond.eq (.field (tmS i) "java/lang/String" "coder" "B") (.int 0) ∈ flG := by decide +kernel
theorem fl_ar : ∀ i : Nat, i < 11 → Cond.arrayOf (.field (tmS i) "java/lang/String" "value" "[B") .byte ∈ flG := by decide +kernel
theorem fl_le : ∀ i : Nat, i < 11 → Cond.eq (.length (.field (tmS i) "java/lang/String" "value" "[B")) (.int (Int32.ofNat (strL.getD i 0))) ∈ flG := by decide +kernel
theorem fl_el : ∀ i : Nat, i < 11 → ∀ j : Nat, j < strL.getD i 0 → Cond.eq (.elem (.field (tmS i) "java/lang/String" "value" "[B") (.int (Int32.ofNat j))) (.int ((strB.getD i []).getD j 0)) ∈ flG := by decide +kernel
theorem fl_ne : ∀ i : Nat, i < 11 → ∀ j : Nat, j < 11 → i ≠ j → Cond.not (Cond.eq (tmS i) (tmS j)) ∈ flG ∨ Cond.not (Cond.eq (tmS j) (tmS i)) ∈ flG := by decide +kernel
theorem fl_cs : Cond.eq (.static "java/lang/String" "COMPACT_STRINGS" "Z") (.int 1) ∈ flG := by decide +kernel
theorem fl_sf : Cond.isRef (.static "jdk/internal/util/Preconditions" "SIOOBE_FORMATTER" "Ljava/util/function/BiFunction;") ∈ flG := by decide +kernel
theorem tb_sr : ∀ i : Nat, i < 11 → Cond.stringRef RX3 (strI.getD i 0) (strX.getD i "") ∈ tables_1 := by decide +kernel
theorem tb_in {w : Cond} (h : w ∈ tables_1) : w ∈ lw_tbl := List.mem_append_right _ h
theorem tb_cs : Cond.laysStatic "java/lang/String" "COMPACT_STRINGS" "Z" ∈ tables_1 ∧ Cond.initialized "java/lang/String" ∈ tables_1 := ⟨by decide +kernel, by decide +kernel⟩
theorem tb_sf : Cond.laysStatic "jdk/internal/util/Preconditions" "SIOOBE_FORMATTER" "Ljava/util/function/BiFunction;" ∈ tables_1 ∧ Cond.initialized "jdk/internal/util/Preconditions" ∈ tables_1 := ⟨by decide +kernel, by decide +kernel⟩
theorem tb_ao : Cond.arrayOver (.object RX0) ∈ tables_1 ∧ Cond.arrayOver (.object RX4) ∈ tables_1 ∧ Cond.arrayOver (.object RX6) ∈ tables_1 ∧ Cond.arrayOver (.object RX7) ∈ tables_1 := ⟨by decide +kernel, by decide +kernel, by decide +kernel, by decide +kernel⟩
set_option maxHeartbeats 4000000 in
set_option maxRecDepth 20000 in
theorem law_go {X : XT} {G : GT} {Ln : Nat} {sc : Nat → Int32} (C : Cx X G RL cL_law) (hw : LW X G Ln sc) (hend : ∀ (u : VT) (j : Int), E X G 137 3791 1000 u 1514 [some (vr 0), some (vr 1), some (vr 119), some (vi j)] []) : E X G 0 0 0 zV 0 [some (vr 0), none, none, none] [] := by
  have hX := hw.2.2.2.2.1
  have hn := hw.2.2.2.2.2
  have z8 : ∀ j, updL zV ls_X8_init_1 119 j = 0 := fun j => updL_no (hasK_row (by decide +kernel))
  have zb : Zb 119 (updL zV ls_X8_init_1) := Zb.upL (fun r j _ => rfl) (by decide +kernel)
  refine E.newO (r := 1) (n' := 1) (c' := 1) (s' := 16) C nw_L_7 dL_law_0 (by decide) rfl rfl rfl rfl kd_1 (fun _ => rfl) (by rw [hX]; exact Nat.le_of_ble_eq_true rfl) (by rw [hX]; exact Nat.le_of_ble_eq_true rfl) ?_
  refine E.dupR C dL_law_3 ?_
  refine E.callI (S := [vr 1]) (As := []) C hX (ok_X8_init_1 G zV (fun _ _ _ => rfl)) yf_X8_init rfl yv_X8_init ml_L_9 rfl ⟨Nat.le_of_ble_eq_true rfl, Nat.le_of_ble_eq_true rfl⟩ ⟨Nat.le_of_ble_eq_true rfl, Nat.le_of_ble_eq_true rfl⟩ (Nat.le_of_ble_eq_true rfl) dL_law_4 rfl (fun r n' w hq => ?_)
  obtain ⟨rfl, rfl, hv⟩ := hq
  rw [hv]
  refine E.count (c' := 118) (s' := 2069) (S' := [vr 1]) rfl rfl rfl ?_
  refine E.astore_n C dL_law_7 rfl (by rw [hn]; decide) rfl ?_
  refine E.lset (L' := [some (vr 0), some (vr 1), none, none]) rfl ?_
  refine E.newO (r := 119) (n' := 119) (c' := 119) (s' := 2107) C nw_L_10 dL_law_8 (by decide) rfl rfl rfl rfl kd_119 z8 (by rw [hX]; exact Nat.le_of_ble_eq_true rfl) (by rw [hX]; exact Nat.le_of_ble_eq_true rfl) ?_
  refine E.dupR C dL_law_11 ?_
  refine E.callI (S := [vr 119]) (As := []) C hX (ok_X9_init G _ zb lay8) yf_X9_init rfl yv_X9_init ml_L_12 rfl ⟨Nat.le_of_ble_eq_true rfl, Nat.le_of_ble_eq_true rfl⟩ ⟨Nat.le_of_ble_eq_true rfl, Nat.le_of_ble_eq_true rfl⟩ (Nat.le_of_ble_eq_true rfl) dL_law_12 rfl (fun r n' w hq => ?_)
  obtain ⟨rfl, rfl, hv2⟩ := hq
  have hv3 : w = V0 := hv2
  rw [hv3]
  refine E.count (c' := 137) (s' := 3791) (S' := [vr 119]) rfl rfl rfl ?_
  refine E.astore_n C dL_law_15 rfl (by rw [hn]; decide) rfl ?_
  refine E.lset (L' := [some (vr 0), some (vr 1), some (vr 119), none]) rfl ?_
  refine E.iconst C dL_law_16 (by decide) ?_
  refine E.istore_n C dL_law_17 rfl (by rw [hn]; decide) rfl ?_
  refine E.lset (L' := [some (vr 0), some (vr 1), some (vr 119), some (vi 0)]) rfl ?_
  exact law_loop C hw hend _ V0 0 rfl (by omega) inv0
set_option maxHeartbeats 4000000 in
set_option maxRecDepth 20000 in
theorem whole_start {p : Program} {e : Env} {s : State} {m : MethodId} {below : List Frame} {meth : Method} {c : Code} (l : Launch) (hflags : l.flags = flags0) {b L : Nat} {xs : Nat → Int32} (hL : L ≤ 2560) (C0 : lw_At p s m meth c b L xs) : W p l e room_1 s m #[Value.ref b] below meth c s.heap [] 0 0 (lw_Z below #[Value.ref b] s) (entryFrame m ([Value.ref b] : List Value).toArray 4) := by
  obtain ⟨hx, hcb, hr, hml, hown, hts, hXs, hbl, hlocks, hgv⟩ := id C0
  have hgood : ∀ w ∈ lw_good, w.before #[Value.ref b] s = true := fun w hw => hts w (lw_good_in hw)
  have htb : ∀ w ∈ tables_1, w.before #[Value.ref b] s = true := fun w hw => hts w (tb_in hw)
  have hfl : ∀ w ∈ flG, w.before #[Value.ref b] s = true := flat_of_before _ hgv
  obtain ⟨D, hD⟩ := cls_known hgood
  obtain ⟨a0, p0, r0⟩ := arr_prim (hgood _ ac_byte)
  obtain ⟨a1, p1, r1⟩ := arr_prim (hgood _ ac_int)
  obtain ⟨a2, p2, r2⟩ := arr_prim (hgood _ ac_boolean)
  obtain ⟨a3, p3, r3⟩ := arr_obj (htb _ tb_ao.1)
  obtain ⟨a4, p4, r4⟩ := arr_obj (htb _ tb_ao.2.1)
  obtain ⟨a5, p5, r5⟩ := arr_obj (htb _ tb_ao.2.2.1)
  obtain ⟨a6, p6, r6⟩ := arr_obj (htb _ tb_ao.2.2.2)
  have hAq : ∀ a : Nat, a < s.heap.size → ¬ (fun q : Nat => s.heap.size - 1 < q) a := fun a ha h => by
    have : s.heap.size - 1 < a := h
    omega
  obtain ⟨adK, adV, hvS, hev⟩ := vk_Sof (args := #[Value.ref b]) (s := s) (N := 11) (tm := tmS) (len := strL) (byt := strB) (A := fun q : Nat => s.heap.size - 1 < q) (by decide) (fun i hi => hfl _ (fl_ex i hi)) (fun i hi => hfl _ (fl_co i hi)) (fun i hi => hfl _ (fl_ar i hi)) (fun i hi => hfl _ (fl_le i hi)) (fun i hi j hj => hfl _ (fl_el i hi j hj)) (fun i j hi hj hij => (fl_ne i hi j hj hij).imp (fun h => hfl _ h) (fun h => hfl _ h)) hAq
  obtain ⟨G, hG⟩ : ∃ G : GT, G = (s.heap.size - 1, (fun r : Int => if r = 0 then b else if -101 < r then adK (-r - 1).toNat else adV (-r - 101).toNat), D, (fun t : Nat => if t = 0 then a0 else if t = 1 then a1 else if t = 2 then a2 else if t = 3 then a3 else if t = 4 then a4 else if t = 5 then a5 else a6), s.heap) := ⟨_, rfl⟩
  have g1 : G.1 = s.heap.size - 1 := by rw [hG]
  have gA : Afr G = fun q : Nat => s.heap.size - 1 < q := by
    funext q
    show (G.1 < q) = _
    rw [g1]
  have hb0 : adr G 0 = b := by
    unfold adr
    rw [if_neg (by decide), hG]
    rfl
  have hK : ∀ i : Nat, i < 11 → adS G i = adK i := fun i hi => by
    unfold adS adr
    rw [if_neg (by omega), hG]
    show (if (-((i : Int) + 1)) = 0 then b else if -101 < (-((i : Int) + 1)) then adK (-(-((i : Int) + 1)) - 1).toNat else adV (-(-((i : Int) + 1)) - 101).toNat) = adK i
    rw [if_neg (by omega), if_pos (by omega)]
    congr 1
    omega
  have hV : ∀ i : Nat, i < 11 → adB G i = adV i := fun i hi => by
    unfold adB adr
    rw [if_neg (by omega), hG]
    show (if (-((i : Int) + 101)) = 0 then b else if -101 < (-((i : Int) + 101)) then adK (-(-((i : Int) + 101)) - 1).toNat else adV (-(-((i : Int) + 101)) - 101).toNat) = adV i
    rw [if_neg (by omega), if_neg (by omega)]
    congr 1
    omega
  have hvS' : vk_S 11 strL strB (adS G) (adB G) (Afr G) s s.heap := by
    rw [gA]
    refine ⟨fun i hi => ?_, fun i j hi hj h => ?_⟩
    · rw [hK i hi, hV i hi]
      exact hvS.1 i hi
    · rw [hK i hi, hK j hj] at h
      exact hvS.2 i j hi hj h
  have hKK : va_K G.2.2.1 vwCl (tysG G) s := by
    rw [hG]
    refine ⟨hD, fun k q hq => ?_⟩
    match k, hq with
    | 0, hq => cases hq; exact ⟨p0, r0⟩
    | 1, hq => cases hq; exact ⟨p1, r1⟩
    | 2, hq => cases hq; exact ⟨p2, r2⟩
    | 3, hq => cases hq; exact ⟨p3, r3⟩
    | 4, hq => cases hq; exact ⟨p4, r4⟩
    | 5, hq => cases hq; exact ⟨p5, r5⟩
    | 6, hq => cases hq; exact ⟨p6, r6⟩
    | k + 7, hq => simp [tysG] at hq
  have hST : STK G s := by
    refine ⟨fun i hi => ?_, ?_, ?_, ?_⟩
    · rw [hK i hi]
      exact vk_R.of (htb _ (tb_sr i hi)) (hev i hi)
    · rw [hG] at hvS' ⊢
      exact hvS'
    · rw [show G.2.2.2.2 = s.heap by rw [hG], gA]
      exact va_Zof (htb _ tb_cs.1) (htb _ tb_cs.2) (va_eqt (hfl _ fl_cs)) hAq
    · rw [show G.2.2.2.2 = s.heap by rw [hG], gA]
      exact va_Zqof (htb _ tb_sf.1) (htb _ tb_sf.2) (hfl _ fl_sf) hAq
  have hE1 : ∀ w ∈ lw_nest, va_Nw w s := fun w hw => by
    have h1 := hts w (lw_nest_in hw)
    have h2 := (List.mem_filter.mp hw).2
    cases w with
    | fieldLinkNest a b c d e f => exact va_Nw.of rfl h1
    | methodLinkNest a b c d => exact va_Nw.of rfl h1
    | _ => cases h2
  have hE : EXT G s := ⟨hE1, va_AO.of (htb _ tb_ao.1), va_AO.of (htb _ tb_ao.2.1), va_AO.of (htb _ tb_ao.2.2.1), va_AO.of (htb _ tb_ao.2.2.2), hST⟩
  have hgs : G.1 < s.heap.size := by omega
  obtain ⟨X, hX⟩ : ∃ X : XT, X = (p, l, e, room_1, s, m, #[Value.ref b], below, meth, c, lw_Z below #[Value.ref b] s, 4) := ⟨_, rfl⟩
  have C : Cx X G RL cL_law := by
    rw [hX]
    exact ⟨hx, hcb, hml, hown, hgood, hKK, hgs, hlocks, hE⟩
  have hw : LW X G L xs := by
    rw [hX]
    refine ⟨?_, ?_, ?_, hL, rfl, rfl⟩
    · rw [hb0]
      exact hXs
    · rw [hb0]
      exact hbl
    · rw [hb0, gA]
      exact hAq b hbl
  have hend : ∀ (u : VT) (j : Int), E X G 137 3791 1000 u 1514 [some (vr 0), some (vr 1), some (vr 119), some (vi j)] [] := fun u j => by
    refine E.iconst C dL_law_1514 (by decide) ?_
    intro q1 q2 q3 H locs ls hwl hS hl2
    rw [hX] at hS hl2 ⊢
    refine va_forget (fun q hq => ?_) ?_
    · have h1 := hS.2.2 q hq
      rw [gA] at h1
      have h2 : s.heap.size - 1 < q.base := h1
      show s.heap.size ≤ q.base
      omega
    · refine W.widen (k := 600000) (n := 7302250) (Nat.le_of_ble_eq_true rfl) (Nat.le_of_ble_eq_true rfl) ?_
      exact lw_ret hx hcb hr hlocks dL_law_1515
  have hgo := law_go C hw hend
  have hl := lv_entry ([.ref b]) (n := 4) (Nat.le_of_ble_eq_true rfl)
  rw [lg_entry_eq]
  generalize (lg_sl ([.ref b]) ++ List.replicate (4 - (lg_sl ([.ref b])).length) Slot.unset).toArray = ls at hl ⊢
  have hl2 : lv_has ls 4 (lvl G 0 [some (vr 0), none, none, none]) := by
    show lv_has ls 4 [(0, Value.ref (adr G 0))]
    rw [hb0]
    exact hl
  have hwl : wld G 0 zV s.heap := by
    refine ⟨?_, fun k q hq => ?_, fun q hq => by rw [hG]⟩
    · show s.heap.size = G.1 + nc 0 + 1
      rw [nc_lt (by decide)]
      omega
    · rw [nc_lt (by decide)] at hq
      simp [wl] at hq
  have hfin := hgo ⟨fun r i => by show in32 (zV r i); exact ⟨by show (-2147483648 : Int) ≤ 0; decide, by show (0 : Int) ≤ 2147483647; decide⟩, fun h => absurd h (by decide)⟩ (fun a ha => by
    simp at ha
    rw [ha]
    exact trivial) (fun a ha => by cases ha) s.heap [] ls hwl (by rw [hX]; exact va_S.rf) (by rw [hX]; exact hl2)
  rw [hX] at hfin
  exact hfin
-- ===== YOUR PART ENDS =====
set_option maxHeartbeats 4000000 in
theorem lw_walk (l : Launch) (hflags : l.flags = flags0) (b : Addr) (xs : List Int32) : MetFree l x (headSpec (Jvm.Cond.code x code maxLocals ret :: tables_1) room_1) (lw_P b xs) (fun _ _ _ _ _ => True) lw_Q := by
  refine MetFree.of_bodyS (code := code) (maxLocals := maxLocals) (ret := ret) (by decide) ?_ ?_
  · intro args s m h hn
    obtain ⟨meth, c, h1, h2, h3, h4, h5, h6, -, -⟩ := Cond.code_spec hn (atoms_spec (ws := Jvm.Cond.code x code maxLocals ret :: tables_1) h _ List.mem_cons_self)
    exact ⟨meth, c, h1, h2, h3, h4, h5, h6⟩
  · intro p e s m args below meth c s₁ B hml0 hP _
    obtain ⟨rfl, hx, hbd, hgv⟩ := hP
    obtain ⟨scr, harrAt, hlist, hof, hsmall⟩ := hx
    obtain ⟨hcb, hkn, -, -⟩ := State.arrayAt?_spec harrAt
    have hown : s.vm.findClass R_law = some m.cls := findClass_of_methodNamed B.named
    have hts0 : ∀ c ∈ (Jvm.Cond.code x code maxLocals ret :: tables_1), c.before #[Value.ref b] s = true := atoms_spec (ws := Jvm.Cond.code x code maxLocals ret :: tables_1) B.pre
    have hts : ∀ w ∈ lw_tbl, w.before #[Value.ref b] s = true := k2_hts_sels lw_privs (fun w hw => hts0 w (List.mem_cons_of_mem _ hw)) lw_privs_ok
    have hml : c.maxLocals = 4 := B.maxLocals_eq (hts0 _ List.mem_cons_self)
    have X₀ : Stand p l e room_1 s m #[Value.ref b] below meth c s₁ [] 0 0 := Stand.of_body B
    have hh0 : s₁.heap = s.heap := by rw [B.state]; rfl
    have hsz : scr.slots.size = xs.length := by rw [← Array.length_toList, hlist, List.length_map]
    have hval : ∀ j : Nat, j < xs.length → scr.slots[j]? = some (.int (xs.getD j 0)) := fun j hj => by
      rw [← Array.getElem?_toList, hlist]
      simp [hj]
    have hbl : b < s.heap.size := (Array.getElem?_eq_some_iff.mp hcb).1
    have hX : va_X b xs.length (fun j => xs.getD j 0) s s.heap := ⟨scr, hcb, hof, hkn, hsz, hval⟩
    have K : W p l e room_1 s m #[Value.ref b] below meth c s₁.heap [] 0 0 (lw_Z below #[Value.ref b] s) (entryFrame m ([Value.ref b] : List Value).toArray 4) := by
      rw [hh0]
      exact whole_start l hflags hbd ⟨B.exec, B.bytes, B.returns, hml, hown, hts, hX, hbl, B.notSynchronized, hgv⟩
    obtain ⟨t, a1, o, b1, b2, b3⟩ := K s₁ rfl X₀
    exact ⟨t, o, a1, b1, b2, b3⟩
theorem lw_pre_spec {args : Array Value} {s : State} (h : (Jvm.Cond.and given_1 narrow_1).before args s = true) (hr : rest_1_c.before args s = true) : ∃ (b : Addr) (xs : List Int32), lw_P b xs args s := by
  have hs := flat_of_before _ h
  have hq := flat_of_before _ hr
  have hc : (Cond.count 1).before args s = true := hs _ (by decide +kernel)
  have harr : (Cond.arrayOf (.arg 0) .int).before args s = true := hs _ (by decide +kernel)
  have hle : (Cond.le (.length (.arg 0)) (.int 2560)).before args s = true := hs _ (by decide +kernel)
  have hlen : (Cond.isInt (.length (.arg 0))).before args s = true := hq _ (by decide +kernel)
  have hall : (Cond.all (.arg 0) (.isInt (.elem (.arg 0) (.index 0)))).before args s = true := hq _ (by decide +kernel)
  obtain ⟨b, xs, hb, hx⟩ := State.ints_of_pre rfl harr hlen hall
  have hsm : xs.length < 2 ^ 31 := hx.choose_spec.2.2.2
  have hev : (Term.length (.arg 0)).eval args s none [] s = some (.int xs.length.toInt32) := hx.length_eval hb
  have hv := Cond.le_ints hev (show (Term.int 2560).eval args s none [] s = some (.int 2560) from rfl)
  have hd : xs.length.toInt32 ≤ 2560 := by
    simpa [Cond.before, Cond.holds, hv] using hle
  have hN : xs.length ≤ 2560 := (Int32.ofNat_le_ofNat hsm (by decide)).mp (show Int32.ofNat xs.length ≤ Int32.ofNat 2560 from hd)
  exact ⟨b, xs, Cond.one_arg hc (show args[0]? = some (.ref b) from hb), hx, hN, h⟩
theorem lw_comes (l : Launch) (hflags : l.flags = flags0) : Comes l x (Jvm.Cond.code x code maxLocals ret :: tables_1) room_1 (fun tb e args s => Calls_1 tb e args s ∧ rest_1 tb e args s ∧ Pre_1 tb e args s)
    (fun _ _ args s o t => lw_Q args s o t) := by
  intro p e ha hc hk s m args below hf hfit hheap happ hpre
  obtain ⟨b, xs, hP⟩ := lw_pre_spec hpre.2.2 hpre.2.1
  obtain ⟨k, o, h1, h2, h3, hQ⟩ := lw_walk l hflags b xs p e ha hc hk s m args below hf ((Spec.applies_iff_loose hf).mp happ).1 hP trivial
  exact ⟨k, o, h1, h2, h3, hQ⟩
theorem lw_frame {s t : State} {o : Outcome} {args : Array Value} (h : Framed s o t [] 600000 7302250) :
    Framed s o t (fieldLocs frame_1_writes args s ++ arrayLocs frame_1_arrays args s ++ staticLocs frame_1_statics s) 600000 7302250 := h
theorem lw_limb (L : Cond) (hL : ∀ (args : Array Value) (s t : State), L.after args s (.returned (some (.int 1))) t = true) :
    ArmFor flags0 classFile x code maxLocals ret World_1 tables_1 room_1 Calls_1 rest_1 Pre_1
      (fun tb e a s o t => postC L tb e a s o t ∧ Framed s o t (fieldLocs frame_1_writes a s ++ arrayLocs frame_1_arrays a s ++ staticLocs frame_1_statics s) 600000 7302250) := by
  intro l hflags _ _ p e ha hc hk s m args below hf hfit hheap happ hpre
  obtain ⟨k, o, h1, h2, h3, rfl, hF⟩ := lw_comes l hflags p e ha hc hk s m args below hf hfit hheap happ hpre
  exact ⟨k, _, h1, h2, h3, hL args s _, lw_frame hF⟩
theorem i_vc : Claimed_1_1 ∧ Claimed_1_2 := ⟨lw_limb limb_1_1 (fun args s t => by simp [limb_1_1, Cond.after, Cond.holds, Cond.value]), lw_limb limb_1_2 (fun args s t => Cond.after_iff.mpr (by
  first | (rw [show limb_1_2 = Cond.eq .result (.int 1) from rfl, Cond.eq_ints (x := 1) (y := 1) rfl rfl]; simp; done) | (simp [limb_1_2, Cond.value, Term.eval]; done)))⟩
