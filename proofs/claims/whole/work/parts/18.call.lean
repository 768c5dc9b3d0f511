-- the calls
def ML (own : String) (index : Nat) (y : MethodName) : Prop := Cond.methodLink own index y ∈ lw_good ∨ ∃ host, Cond.methodLinkNest own index y host ∈ lw_nest
section CALL
variable {X : XT} {G : GT} {own : String} {cc bytes : ByteArray} {cells slots n maxL np : Nat} {v : VT} {pc : Nat} {L : List (Option AV)} {S S0 : List AV} {b : Int} {index ci : Nat} {Φ : PT} {rm rm0 : Room} {y : MethodName} {ret : Option FieldType} {As : List AV}
theorem code_good {y : MethodName} {bytes : ByteArray} {maxL : Nat} {ret : Option FieldType} (h : Cond.code y bytes maxL ret ∈ lw_good) : GoodIn lw_good (Cond.code y bytes maxL ret :: lw_good) := by
  intro w hw
  rcases List.mem_cons.mp hw with rfl | hw
  · exact lw_good_all _ h
  · exact lw_good_all _ hw
theorem callB_ok (C : Cx X G own cc) (hy : YF y bytes maxL ret np) (hl : Cond.methodLink own index y ∈ lw_good) (hX : xR X = rm0) (hR : rm.frames + 1 ≤ rm0.frames ∧ 8 + (maxL + 11) + rm.locals ≤ rm0.locals) :
    CallB (xR X) (xs X) (xa X) own index y bytes maxL ret (Cond.code y bytes maxL ret :: lw_good) rm rm.cells rm.slots np := by
  refine callB_of np C.2.2.2.2.1 (code_good hy.1) rfl rfl rfl (C.2.2.2.2.1 _ hy.2.1) (C.2.2.2.2.1 _ hl) ⟨hy.2.2.1, hy.2.2.2.1, hy.2.2.2.2⟩ ?_
  rw [hX]
  exact hR
theorem callN_ok {host : String} (C : Cx X G own cc) (hy : YF y bytes maxL ret np) (hl : Cond.methodLinkNest own index y host ∈ lw_nest) (hX : xR X = rm0) (hR : rm.frames + 1 ≤ rm0.frames ∧ 8 + (maxL + 11) + rm.locals ≤ rm0.locals) :
    va_CN (xR X) (xs X) (xa X) own index y host bytes maxL ret (Cond.code y bytes maxL ret :: lw_good) rm rm.cells rm.slots np := by
  refine va_cnB np C.2.2.2.2.1 (code_good hy.1) rfl rfl rfl (C.2.2.2.2.2.2.2.2.1 _ hl) (C.2.2.2.2.1 _ hy.2.1) ⟨hy.2.2.1, hy.2.2.2.1, hy.2.2.2.2⟩ ?_
  rw [hX]
  exact hR
theorem fix_ok (C : Cx X G own cc) : CallFix (xp X) (xm X) (xc X) cc (xn X) (xs X) (xa X) lw_good own := ⟨C.1, C.2.1, C.2.2.1, C.2.2.2.1, C.2.2.2.2.1⟩
theorem pre_ok (C : Cx X G own cc) {H : Heap} (hw : wld G n v H) : PreS (xs X) H (va_Pc (As.map (conc G)) (BS G n v)) (As.map (conc G)) :=
  ⟨BS.blind, fun U hU hW => ⟨rfl, by rw [hU]; exact hw, va_K.moved hW.alike C.2.2.2.2.2.1, EXT.warm hW C.2.2.2.2.2.2.2.2⟩⟩
theorem preV_ok (C : Cx X G own cc) {H : Heap} (hw : wld G n v H) {q : vw_C} (hc : vwCl[ci]? = some q) (hs : kd b = ci) (hci : ci < 10) (hb : b ≤ (nc n : Int)) : PreV (xs X) H q.1 (adr G b) (va_Pc ((vr b :: As).map (conc G)) (BS G n v)) (As.map (conc G)) := by
  have hat := wl_at (G := G) (n := nc n) (v := v) (kd_pos hs (by omega)).1 hb
  rw [cellE_obj hs hci] at hat
  exact ⟨BS.blind, va_recv C.2.2.2.2.2.1 hw.2.1 hc hat, fun U hU hW => ⟨rfl, by rw [hU]; exact hw, va_K.moved hW.alike C.2.2.2.2.2.1, EXT.warm hW C.2.2.2.2.2.2.2.2⟩⟩
theorem ok_split (h3 : ∀ a ∈ As.reverse ++ S, okv a) : (∀ a ∈ As, okv a) ∧ ∀ a ∈ S, okv a :=
  ⟨fun a ha => h3 a (List.mem_append_left _ (List.mem_reverse.mpr ha)), fun a ha => h3 a (List.mem_append_right _ ha)⟩
theorem E.callV (C : Cx X G own cc) (hX : xR X = rm0) (hM : MT G y bytes maxL ret rm (vr b :: As) n v Φ) (hy : YF y bytes maxL ret np) (hV : Cond.instanceMethod y ∈ lw_good ∧ Cond.selects y.cls y y ∈ lw_good) (hl : ML own index y)
    (hnp : As.length = np) {q : vw_C} (hc : vwCl[ci]? = some q) (hq : q.1 = y.cls) (hs : kd b = ci) (hci : ci < 10) (hb : b ≤ (nc n : Int)) (hR : rm.frames + 1 ≤ rm0.frames ∧ 8 + (maxL + 11) + rm.locals ≤ rm0.locals) (hf : cells + rm.cells ≤ rm0.cells ∧ slots + rm.slots ≤ rm0.slots)
    (hcat : (S.map catA).sum ≤ 8) (hd : decode cc pc = .ok (.invokevirtual index, 3)) (hst : S0 = As.reverse ++ vr b :: S)
    (kk : ∀ (r : Option AV) (n' : Nat) (v' : VT), Φ r n' v' → E X G (cells + rm.cells) (slots + rm.slots) n' v' (pc + 3) L (r.toList ++ S)) : E X G cells slots n v pc L S0 := by
  subst hst
  intro h1 h2 h3 H locs ls hw hS hl2
  obtain ⟨k1, k2⟩ := ok_split h3
  have hM := hM (xl X) h1 (fun a ha => by
    rcases List.mem_cons.mp ha with rfl | ha
    · exact trivial
    · exact k1 a ha)
  have hP := preV_ok (As := As) C hw hc hs hci hb
  rw [hq] at hP
  have hstk : ((As.reverse ++ vr b :: S).map (conc G)) = (As.map (conc G)).reverse ++ .ref (adr G b) :: S.map (conc G) := by simp [conc, List.map_reverse]
  have hroom : 2 * (F0 (xm X) pc ls ((As.reverse ++ vr b :: S).map (conc G))).monitorRoom + ((S.map (conc G)).map fun v => v.category).sum ≤ 8 := lv_room (by rw [catA_map]; exact hcat)
  rw [← hX] at hf
  rcases hl with hl | ⟨host, hl⟩
  · exact E.call0 (va_runV (fix_ok C) hM ⟨callB_ok C hy hl hX hR, C.2.2.2.2.1 _ hV.1, C.2.2.2.2.1 _ hV.2⟩ hP rfl (by rw [List.length_map]; exact hnp) hl2.1 hstk hroom hd hf) hw hS hl2 h2 (ok_t k2) kk
  · exact E.call0 (va_runVN (fix_ok C) hM ⟨callN_ok C hy hl hX hR, C.2.2.2.2.1 _ hV.1, C.2.2.2.2.1 _ hV.2⟩ hP rfl (by rw [List.length_map]; exact hnp) hl2.1 hstk hroom hd hf) hw hS hl2 h2 (ok_t k2) kk
theorem E.callS (C : Cx X G own cc) (hX : xR X = rm0) (hM : MT G y bytes maxL ret rm As n v Φ) (hy : YF y bytes maxL ret np) (hV : Cond.static y ∈ lw_good) (hl : ML own index y)
    (hnp : As.length = np) (hR : rm.frames + 1 ≤ rm0.frames ∧ 8 + (maxL + 11) + rm.locals ≤ rm0.locals) (hf : cells + rm.cells ≤ rm0.cells ∧ slots + rm.slots ≤ rm0.slots)
    (hcat : (S.map catA).sum ≤ 8) (hd : decode cc pc = .ok (.invokestatic index, 3)) (hst : S0 = As.reverse ++ S)
    (kk : ∀ (r : Option AV) (n' : Nat) (v' : VT), Φ r n' v' → E X G (cells + rm.cells) (slots + rm.slots) n' v' (pc + 3) L (r.toList ++ S)) : E X G cells slots n v pc L S0 := by
  subst hst
  intro h1 h2 h3 H locs ls hw hS hl2
  obtain ⟨k1, k2⟩ := ok_split h3
  have hM := hM (xl X) h1 k1
  have hstk : ((As.reverse ++ S).map (conc G)) = (As.map (conc G)).reverse ++ S.map (conc G) := by simp [List.map_reverse]
  have hroom : 2 * (F0 (xm X) pc ls ((As.reverse ++ S).map (conc G))).monitorRoom + ((S.map (conc G)).map fun v => v.category).sum ≤ 8 := lv_room (by rw [catA_map]; exact hcat)
  rw [← hX] at hf
  rcases hl with hl | ⟨host, hl⟩
  · exact E.call0 (va_runS (fix_ok C) hM ⟨callB_ok C hy hl hX hR, C.2.2.2.2.1 _ hV⟩ (pre_ok C hw) rfl (by rw [List.length_map]; exact hnp) hl2.1 hstk hroom hd hf) hw hS hl2 h2 k2 kk
  · exact E.call0 (va_runSN (fix_ok C) hM ⟨callN_ok C hy hl hX hR, C.2.2.2.2.1 _ hV, trivial⟩ (pre_ok C hw) rfl (by rw [List.length_map]; exact hnp) hl2.1 hstk hroom hd hf) hw hS hl2 h2 k2 kk
theorem E.callI (C : Cx X G own cc) (hX : xR X = rm0) (hM : MT G y bytes maxL none rm (vr b :: As) n v Φ) (hy : YF y bytes maxL none np) (hn : y.name = "<init>") (hV : Cond.instanceMethod y ∈ lw_good) (hl : ML own index y)
    (hnp : As.length = np) (hR : rm.frames + 1 ≤ rm0.frames ∧ 8 + (maxL + 11) + rm.locals ≤ rm0.locals) (hf : cells + rm.cells ≤ rm0.cells ∧ slots + rm.slots ≤ rm0.slots)
    (hcat : (S.map catA).sum ≤ 8) (hd : decode cc pc = .ok (.invokespecial index, 3)) (hst : S0 = As.reverse ++ vr b :: S)
    (kk : ∀ (r : Option AV) (n' : Nat) (v' : VT), Φ r n' v' → E X G (cells + rm.cells) (slots + rm.slots) n' v' (pc + 3) L (r.toList ++ S)) : E X G cells slots n v pc L S0 := by
  subst hst
  intro h1 h2 h3 H locs ls hw hS hl2
  obtain ⟨k1, k2⟩ := ok_split h3
  have hM := hM (xl X) h1 (fun a ha => by
    rcases List.mem_cons.mp ha with rfl | ha
    · exact trivial
    · exact k1 a ha)
  have hP : PreS (xs X) H (va_Pc ((vr b :: As).map (conc G)) (BS G n v)) (Value.ref (adr G b) :: As.map (conc G)) := pre_ok (As := vr b :: As) C hw
  have hstk : ((As.reverse ++ vr b :: S).map (conc G)) = (As.map (conc G)).reverse ++ .ref (adr G b) :: S.map (conc G) := by simp [conc, List.map_reverse]
  have hroom : 2 * (F0 (xm X) pc ls ((As.reverse ++ vr b :: S).map (conc G))).monitorRoom + ((S.map (conc G)).map fun v => v.category).sum ≤ 8 := lv_room (by rw [catA_map]; exact hcat)
  rw [← hX] at hf
  rcases hl with hl | ⟨host, hl⟩
  · exact E.call0 (va_runI (fix_ok C) hM ⟨callB_ok C hy hl hX hR, hn, C.2.2.2.2.1 _ hV⟩ hP rfl (by rw [List.length_map]; exact hnp) hl2.1 hstk hroom hd hf) hw hS hl2 h2 (ok_t k2) kk
  · exact E.call0 (va_runIN (fix_ok C) hM ⟨callN_ok C hy hl hX hR, hn, C.2.2.2.2.1 _ hV⟩ hP rfl (by rw [List.length_map]; exact hnp) hl2.1 hstk hroom hd hf) hw hS hl2 h2 (ok_t k2) kk
theorem E.objInit (C : Cx X G own cc) (hX : xR X = rm0) (hl : Cond.methodLink own index objectInit ∈ lw_good) (hi : Cond.instanceMethod objectInit ∈ lw_good) (hcd : Cond.code objectInit ⟨#[0xb1]⟩ 1 none ∈ lw_good) (hd : decode cc pc = .ok (.invokespecial index, 3)) (hfr : 1 ≤ rm0.frames) (hlo : (S.map catA).sum + 12 ≤ rm0.locals)
    (kk : E X G cells slots n v (pc + 3) L S) : E X G cells slots n v pc L (vr b :: S) := by
  intro h1 h2 h3 H locs ls hw hS hl2
  refine W.objInit C.1 C.2.1 C.2.2.2.1 (C.2.2.2.2.1 _ hl) (C.2.2.2.2.1 _ hi) (C.2.2.2.2.1 _ hcd) rfl (by rw [C.2.2.1]; exact hl2.1) rfl hd (by rw [hX]; exact hfr) ?_ (kk h1 h2 (ok_t h3) H locs ls hw hS hl2)
  rw [hX, catA_map]
  exact (by simpa [JFrame.monitorRoom] using hlo)
end CALL
