-- String constants
section STR
variable {X : XT} {G : GT} {own : String} {cc bytes : ByteArray} {cells slots n maxL np : Nat} {v : VT} {pc : Nat} {L : List (Option AV)} {S S0 : List AV} {x j : Int} {index i : Nat} {Φ : PT} {rm rm0 : Room} {y : MethodName} {ret : Option FieldType} {As : List AV}
abbrev sr (i : Nat) : AV := vr (-((i : Int) + 1))
abbrev sb (i : Nat) : AV := vr (-((i : Int) + 101))
theorem str_at (C : Cx X G own cc) {H : Heap} {locs : List Loc} (hw : wld G n v H) (hS : va_S (Afr G) (xs X).heap H locs) : vk_S 11 strL strB (adS G) (adB G) (Afr G) (xs X) (xs X).heap ∧
    va_Z "java/lang/String" "COMPACT_STRINGS" "Z" (.int 1) (Afr G) (xs X) (xs X).heap ∧ va_Zq "jdk/internal/util/Preconditions" "SIOOBE_FORMATTER" "Ljava/util/function/BiFunction;" (Afr G) (xs X) (xs X).heap := by
  have hk : ∀ a : Nat, a < G.2.2.2.2.size → ¬ Afr G a → (xs X).heap[a]? = G.2.2.2.2[a]? := fun a _ ha => by
    have h1 : a ≤ G.1 := Nat.le_of_not_lt ha
    rw [← hw.2.2 a h1]
    exact (hS.2.1 a (Nat.lt_of_le_of_lt h1 C.2.2.2.2.2.2.1) ha).symm
  have hE := C.2.2.2.2.2.2.2.2.2.2.2.2.2
  exact ⟨hE.2.1.kept hk, hE.2.2.1.kept hk, hE.2.2.2.kept hk⟩
theorem E.ldcS (C : Cx X G RX3 cc) (hi : i < 11) (hI : strI.getD i 0 = index) (hd : decode cc pc = .ok (.ldc index, 2)) (kk : E X G cells slots n v (pc + 2) L (sr i :: S)) : E X G cells slots n v pc L S := by
  intro h1 h2 h3 H locs ls hw hS hl
  exact va_ldcS C.1 C.2.1 C.2.2.2.1 (C.2.2.2.2.2.2.2.2.2.2.2.2.2.1 i hi) (by rw [hI]; exact hd) (kk h1 h2 (okc trivial h3) H locs ls hw hS hl)
theorem E.gtCod (C : Cx X G own cc) (hl : Cond.fieldLink own index "java/lang/String" "coder" "B" ∈ lw_good) (hi : i < 11) (hd : decode cc pc = .ok (.getfield index, 3)) (kk : E X G cells slots n v (pc + 3) L (vi 0 :: S)) : E X G cells slots n v pc L (sr i :: S) := by
  intro h1 h2 h3 H locs ls hw hS hl2
  exact vk_getf C.1 C.2.1 ((str_at C hw hS).1.1 i hi).2.1 hS C.2.2.2.1 (C.2.2.2.2.1 _ hl) (fun x h => h) hd (kk h1 h2 (okc (by show in32 0; unfold in32; omega) (ok_t h3)) H locs ls hw hS hl2)
theorem E.gtVal (C : Cx X G own cc) (hl : Cond.fieldLink own index "java/lang/String" "value" "[B" ∈ lw_good) (hi : i < 11) (hd : decode cc pc = .ok (.getfield index, 3)) (kk : E X G cells slots n v (pc + 3) L (sb i :: S)) : E X G cells slots n v pc L (sr i :: S) := by
  intro h1 h2 h3 H locs ls hw hS hl2
  exact vk_getf C.1 C.2.1 ((str_at C hw hS).1.1 i hi).2.2.1 hS C.2.2.2.1 (C.2.2.2.2.1 _ hl) (fun x h => h) hd (kk h1 h2 (okc trivial (ok_t h3)) H locs ls hw hS hl2)
theorem E.gtLen (C : Cx X G own cc) (hi : i < 11) (hx : ((strL.getD i 0 : Nat) : Int) = x) (hd : decode cc pc = .ok (.arraylength, 1)) (kk : E X G cells slots n v (pc + 1) L (vi x :: S)) : E X G cells slots n v pc L (sb i :: S) := by
  intro h1 h2 h3 H locs ls hw hS hl2
  have hb : strL.getD i 0 ≤ 6 := (by decide : ∀ i : Nat, i < 11 → strL.getD i 0 ≤ 6) i hi
  exact va_tlen C.1 C.2.1 ((str_at C hw hS).1.1 i hi).2.2.2 hS (v := Int32.ofInt x) (by rw [← hx]; exact Int32.ofInt_eq_ofNat.symm) hd (kk h1 h2 (okc (by show in32 x; unfold in32; omega) (ok_t h3)) H locs ls hw hS hl2)
def strS (i : Nat) (j : Int) : Int := ((strB.getD i []).getD j.toNat 0).toInt
theorem E.gtByt (C : Cx X G own cc) (hi : i < 11) (h0 : 0 ≤ j) (hj : j < ((strL.getD i 0 : Nat) : Int)) (hd : decode cc pc = .ok (.baload, 1)) (kk : E X G cells slots n v (pc + 1) L (vi (strS i j) :: S)) : E X G cells slots n v pc L (vi j :: sb i :: S) := by
  intro h1 h2 h3 H locs ls hw hS hl2
  have ii : in32 j := ok_h h3
  refine va_tb C.1 C.2.1 ((str_at C hw hS).1.1 i hi).2.2.2 hS (jin_of h0 hj ii) (v := .int (Int32.ofInt (strS i j))) ?_ hd (kk h1 h2 (okc (toInt_in _) (ok_t (ok_t h3))) H locs ls hw hS hl2)
  rw [cl32 ii]
  show Value.int ((strB.getD i []).getD j.toNat 0) = .int (Int32.ofInt ((strB.getD i []).getD j.toNat 0).toInt)
  rw [Int32.ofInt_toInt]
theorem E.gtZ (C : Cx X G own cc) (hl : Cond.fieldLink own index "java/lang/String" "COMPACT_STRINGS" "Z" ∈ lw_good) (hd : decode cc pc = .ok (.getstatic index, 3)) (kk : E X G cells slots n v (pc + 3) L (vi 1 :: S)) : E X G cells slots n v pc L S := by
  intro h1 h2 h3 H locs ls hw hS hl2
  exact va_gets C.1 C.2.1 (str_at C hw hS).2.1 hS C.2.2.2.1 (C.2.2.2.2.1 _ hl) (fun x h => h) hd (kk h1 h2 (okc (by show in32 1; unfold in32; omega) h3) H locs ls hw hS hl2)
theorem E.i2c (C : Cx X G own cc) (hx : 0 ≤ x ∧ x < 128) (hd : decode cc pc = .ok (.i2c, 1)) (kk : E X G cells slots n v (pc + 1) L (vi x :: S)) : E X G cells slots n v pc L (vi x :: S) := by
  intro h1 h2 h3 H locs ls hw hS hl2
  refine lv_i2c C.1 C.2.1 hd (v := Int32.ofInt x) ?_ (kk h1 h2 h3 H locs ls hw hS hl2)
  have key : ∀ k : Fin 128, ((Int32.ofInt (k.val : Int)).toUInt32 % 65536).toInt32 = Int32.ofInt (k.val : Int) := by decide +kernel
  have h := key ⟨x.toNat, by omega⟩
  simp only at h
  rw [Int.toNat_of_nonneg hx.1] at h
  exact h
theorem E.yret (C : Cx X G own cc) {ty : FieldType} (hR : Rt X G Φ rm (some ty)) (hn : narrow ty (.int (Int32.ofInt x)) = .int (Int32.ofInt x)) (hd : decode cc pc = .ok (.ireturn, 1)) (hΦ : inv n v → Φ (some (vi x)) n v) : E X G rm.cells rm.slots n v pc L [vi x] := by
  intro h1 h2 h3 H locs ls hw hS hl
  rw [hR.1]
  exact W.zret C.1 C.2.1 hR.2 hn (fun t ht hW => ⟨⟨some (vi x), n, v, rfl, hΦ h1, h1, fun a ha => by cases ha; exact ok_h h3, by rw [ht]; exact hw⟩, hS.F ht⟩) hS.2.2 hd C.2.2.2.2.2.2.2.1
theorem nar_char (h : 0 ≤ x ∧ x < 128) : narrow .char (.int (Int32.ofInt x)) = .int (Int32.ofInt x) := by
  have key : ∀ k : Fin 128, narrow .char (.int (Int32.ofInt (k.val : Int))) = .int (Int32.ofInt (k.val : Int)) := fun k => by
    show Value.int _ = Value.int _
    congr 1
    revert k
    decide +kernel
  have h2 := key ⟨x.toNat, by omega⟩
  simp only at h2
  rw [Int.toNat_of_nonneg h.1] at h2
  exact h2
theorem preT_ok (C : Cx X G own cc) {H : Heap} {locs : List Loc} (hw : wld G n v H) (hS : va_S (Afr G) (xs X).heap H locs) (hi : i < 11) : PreV (xs X) H "java/lang/String" (adS G i) (va_Pc ((sr i :: As).map (conc G)) (BS G n v)) (As.map (conc G)) :=
  ⟨BS.blind, vk_recv (str_at C hw hS).1 hi hS, fun U hU hW => ⟨rfl, by rw [hU]; exact hw, va_K.moved hW.alike C.2.2.2.2.2.1, EXT.warm hW C.2.2.2.2.2.2.2.2⟩⟩
theorem E.callT (C : Cx X G own cc) (hX : xR X = rm0) (hM : MT G y bytes maxL ret rm (sr i :: As) n v Φ) (hy : YF y bytes maxL ret np) (hV : Cond.instanceMethod y ∈ lw_good ∧ Cond.selects y.cls y y ∈ lw_good) (hl : Cond.methodLink own index y ∈ lw_good)
    (hnp : As.length = np) (hq : "java/lang/String" = y.cls) (hi : i < 11) (hR : rm.frames + 1 ≤ rm0.frames ∧ 8 + (maxL + 11) + rm.locals ≤ rm0.locals) (hf : cells + rm.cells ≤ rm0.cells ∧ slots + rm.slots ≤ rm0.slots)
    (hcat : (S.map catA).sum ≤ 8) (hd : decode cc pc = .ok (.invokevirtual index, 3)) (hst : S0 = As.reverse ++ sr i :: S)
    (kk : ∀ (r : Option AV) (n' : Nat) (v' : VT), Φ r n' v' → E X G (cells + rm.cells) (slots + rm.slots) n' v' (pc + 3) L (r.toList ++ S)) : E X G cells slots n v pc L S0 := by
  subst hst
  intro h1 h2 h3 H locs ls hw hS hl2
  obtain ⟨k1, k2⟩ := ok_split h3
  have hM := hM (xl X) h1 (fun a ha => by
    rcases List.mem_cons.mp ha with rfl | ha
    · exact trivial
    · exact k1 a ha)
  have hP := preT_ok (As := As) C hw hS hi
  rw [hq] at hP
  have hstk : ((As.reverse ++ sr i :: S).map (conc G)) = (As.map (conc G)).reverse ++ .ref (adS G i) :: S.map (conc G) := by simp [conc, List.map_reverse, adS]
  have hroom : 2 * (F0 (xm X) pc ls ((As.reverse ++ sr i :: S).map (conc G))).monitorRoom + ((S.map (conc G)).map fun v => v.category).sum ≤ 8 := lv_room (by rw [catA_map]; exact hcat)
  rw [← hX] at hf
  exact E.call0 (va_runV (fix_ok C) hM ⟨callB_ok C hy hl hX hR, C.2.2.2.2.1 _ hV.1, C.2.2.2.2.1 _ hV.2⟩ hP rfl (by rw [List.length_map]; exact hnp) hl2.1 hstk hroom hd hf) hw hS hl2 h2 (ok_t k2) kk
/-- a contract at raw values -/
def MV (G : GT) (y : MethodName) (cc : ByteArray) (maxL : Nat) (ret : Option FieldType) (rm : Room) (As : List Value) (n : Nat) (v : VT) (Φ : PT) : Prop :=
  ∀ l : Launch, inv n v → Met l y (Cond.code y cc maxL ret :: lw_good) rm (va_Pc As (BS G n v)) (QA G Φ) rm.cells rm.slots (Afr G)
theorem MV.of {Vs : List Value} (hy : plainName y.cls = true) (L : List (Option AV)) (hok : ∀ a, some a ∈ L → okv a) (hL : ∀ q ∈ lvl G 0 L, q ∈ lv_args 0 Vs) (hlen : (lg_sl Vs).length ≤ maxL)
    (h : ∀ X : XT, Cx X G y.cls cc → xR X = rm → xn X = maxL → Rt X G Φ rm ret → E X G 0 0 n v 0 L []) : MV G y cc maxL ret rm Vs n v Φ := by
  intro l hr
  refine Met.ofW (cc := cc) (maxL := maxL) (ret := ret) hy rfl ?_
  intro p e s m args below meth c s₁ B hml hv
  obtain ⟨rfl, hw, hK, hE⟩ := hv
  have hts0 := atoms_spec (ws := Cond.code y cc maxL ret :: lw_good) B.pre
  have hg : G.1 < s.heap.size := by rw [hw.1]; omega
  obtain ⟨X, hX⟩ : ∃ X : XT, X = (p, l, e, rm, s, m, Vs.toArray, below, meth, c, MQ below (QA G Φ) Vs.toArray s rm.cells rm.slots (Afr G), maxL) := ⟨_, rfl⟩
  have hE2 := h X (by rw [hX]; exact ⟨B.exec, B.bytes, hml, findClass_of_methodNamed B.named, fun w hw => hts0 w (List.mem_cons_of_mem _ hw), hK, hg, B.notSynchronized, hE⟩) (by rw [hX]) (by rw [hX]) (by rw [hX]; exact ⟨rfl, B.returns⟩)
  have hl := lv_entry Vs (n := maxL) hlen
  rw [lg_entry_eq]
  generalize (lg_sl Vs ++ List.replicate (maxL - (lg_sl Vs).length) Slot.unset).toArray = ls at hl ⊢
  have hl2 : lv_has ls maxL (lvl G 0 L) := lv_has_sub hl hL
  have hfin := hE2 hr hok (fun a ha => by cases ha) s.heap [] ls hw (by rw [hX]; exact va_S.rf) (by rw [hX]; exact hl2)
  rw [hX] at hfin
  exact hfin
theorem preW_ok (C : Cx X G own cc) {H : Heap} {Vs : List Value} (hw : wld G n v H) : PreS (xs X) H (va_Pc Vs (BS G n v)) Vs :=
  ⟨BS.blind, fun U hU hW => ⟨rfl, by rw [hU]; exact hw, va_K.moved hW.alike C.2.2.2.2.2.1, EXT.warm hW C.2.2.2.2.2.2.2.2⟩⟩
theorem E.call1 {H : Heap} {locs : List Loc} {ls : Array Slot} {mc ms : Nat} {as : Array Value} {st : List Value} (hr : va_Run (xp X) (xl X) (xe X) (xR X) (xs X) (xm X) (xa X) (xb X) (xme X) (xc X) H locs cells slots mc ms (F0 (xm X) pc ls st) (S.map (conc G)) (QA G Φ as) (Afr G))
    (hw : wld G n v H) (hS : va_S (Afr G) (xs X).heap H locs) (hl : lv_has ls (xn X) (lvl G 0 L)) (h2 : ∀ a, some a ∈ L → okv a) (h3 : ∀ a ∈ S, okv a)
    (kk : ∀ (r : Option AV) (n' : Nat) (v' : VT), Φ r n' v' → E X G (cells + mc) (slots + ms) n' v' (pc + 3) L (r.toList ++ S)) :
    W (xp X) (xl X) (xe X) (xR X) (xs X) (xm X) (xa X) (xb X) (xme X) (xc X) H locs cells slots (xQ X) (F0 (xm X) pc ls st) := by
  intro T hT XX
  obtain ⟨rv, st₀, t, T', LL, e0, X', hL, e1, e2, ⟨⟨r, n', v', hv, hΦ, hrng, hok, hw'⟩, hz, hk⟩, st'⟩ := hr T hT XX
  have hv2 : rv = r.map (conc G) := by
    injection hv
  subst hv2
  rw [e0] at hz hk
  have hS' : va_S (Afr G) (xs X).heap T'.heap (locs ++ LL) := by
    refine ⟨Nat.le_trans hS.1 (by rw [e1]; exact hz), fun q h1 h2 => ?_, fun q hq => ?_⟩
    · rw [e1, hk q (Nat.lt_of_lt_of_le h1 hS.1) h2]
      exact hS.2.1 q h1 h2
    · rcases List.mem_append.mp hq with h | h
      · exact hS.2.2 q h
      · exact hL q h
  have h3' : ∀ a ∈ r.toList ++ S, okv a := by
    intro a ha
    rcases List.mem_append.mp ha with h | h
    · cases r with
      | none => cases h
      | some b =>
        rcases List.mem_cons.mp h with h | h
        · subst h; exact hok _ rfl
        · cases h
    · exact h3 a h
  obtain ⟨t2, a1, b1⟩ := kk r n' v' hΦ hrng h2 h3' T'.heap (locs ++ LL) ls (by rw [e1]; exact hw') hS' hl T' rfl X'
  refine ⟨t2, st' t2 ?_, b1⟩
  have e3 : (r.map (conc G)).toList ++ S.map (conc G) = (r.toList ++ S).map (conc G) := by
    cases r <;> simp
  rw [e3]
  exact a1
/-- the formatter is taken up and handed on: nobody asks what it is -/
theorem E.fmt (C : Cx X G own cc) {index2 : Nat} {a b : Int} (hX : xR X = rm0) (hM : ∀ w : Value, w.category = 1 → MV G y bytes maxL ret rm [conc G (vi a), conc G (vi b), w] n v Φ) (hy : YF y bytes maxL ret 3) (hV : Cond.static y ∈ lw_good) (hl : Cond.methodLink own index2 y ∈ lw_good)
    (hF : Cond.fieldLink own index "jdk/internal/util/Preconditions" "SIOOBE_FORMATTER" "Ljava/util/function/BiFunction;" ∈ lw_good) (hR : rm.frames + 1 ≤ rm0.frames ∧ 8 + (maxL + 11) + rm.locals ≤ rm0.locals) (hf : cells + rm.cells ≤ rm0.cells ∧ slots + rm.slots ≤ rm0.slots)
    (hd : decode cc pc = .ok (.getstatic index, 3)) (hd2 : decode cc (pc + 3) = .ok (.invokestatic index2, 3))
    (kk : ∀ (r : Option AV) (n' : Nat) (v' : VT), Φ r n' v' → E X G (cells + rm.cells) (slots + rm.slots) n' v' (pc + 3 + 3) L r.toList) : E X G cells slots n v pc L [vi b, vi a] := by
  intro h1 h2 h3 H locs ls hw hS hl2
  have key : ∀ w : Value, w.category = 1 → W (xp X) (xl X) (xe X) (xR X) (xs X) (xm X) (xa X) (xb X) (xme X) (xc X) H locs cells slots (xQ X) (F0 (xm X) (pc + 3) ls [w, conc G (vi b), conc G (vi a)]) := fun w hwc => by
    have hM := hM w hwc (xl X) h1
    have hroom : 2 * (F0 (xm X) (pc + 3) ls [w, conc G (vi b), conc G (vi a)]).monitorRoom + ((([] : List AV).map (conc G)).map fun v => v.category).sum ≤ 8 := lv_room (by simp)
    rw [← hX] at hf
    exact E.call1 (S := []) (va_runS (fix_ok C) hM ⟨callB_ok C hy hl hX hR, C.2.2.2.2.1 _ hV⟩ (preW_ok C hw) rfl rfl hl2.1 rfl hroom hd2 hf) hw hS hl2 h2 (fun a ha => by cases ha) (fun r n' v' h => by rw [List.append_nil]; exact kk r n' v' h)
  rcases (str_at C hw hS).2.2 with hZ | ⟨t, hZ⟩
  · exact va_gets C.1 C.2.1 hZ hS C.2.2.2.1 (C.2.2.2.2.1 _ hF) (fun x h => h) hd (key _ rfl)
  · exact va_gets C.1 C.2.1 hZ hS C.2.2.2.1 (C.2.2.2.2.1 _ hF) (fun x h => h) hd (key _ rfl)
end STR
