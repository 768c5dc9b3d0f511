-- what is written to fields; arrays
section ARR
variable {X : XT} {G : GT} {own : String} {cc : ByteArray} {cells slots n : Nat} {v : VT} {pc tgt : Nat} {L : List (Option AV)} {S : List AV} {x r i : Int} {index ci k : Nat}
theorem E.putI (C : Cx X G own cc) (hF : FP own index ci k .int false) (hI : isR ci k = false) (hd : decode cc pc = .ok (.putfield index, 3)) (hs : kd r = ci) (hr : r ≤ (nc n : Int))
    (kk : E X G cells slots n (upd2 v r (k : Int) x) (pc + 3) L S) : E X G cells slots n v pc L (vi x :: vr r :: S) :=
  E.put0 C hF (fun h => by cases h) hd hs hr (x := x) (by rw [hI]; rfl) rfl rfl (fun h => h) (fun _ => hI) kk
theorem E.putZ (C : Cx X G own cc) (hF : FP own index ci k .boolean false) (hI : isR ci k = false) (hd : decode cc pc = .ok (.putfield index, 3)) (hs : kd r = ci) (hr : r ≤ (nc n : Int)) (hx : x = 0 ∨ x = 1)
    (kk : E X G cells slots n (upd2 v r (k : Int) x) (pc + 3) L S) : E X G cells slots n v pc L (vi x :: vr r :: S) :=
  E.put0 C hF (fun h => by cases h) hd hs hr (x := x) (by rw [hI]; rfl) (by rcases hx with rfl | rfl <;> rfl) (by rcases hx with rfl | rfl <;> rfl) (fun h => h) (fun _ => hI) kk
theorem E.putR (C : Cx X G own cc) {ty : FieldType} (hty : (∃ c, ty = .object c) ∨ ∃ t, ty = .array t) (hF : FP own index ci k ty true) (hI : isR ci k = true) (hi : (xme X).name = "<init>") (hd : decode cc pc = .ok (.putfield index, 3)) (hs : kd r = ci) (hr : r ≤ (nc n : Int)) (hx : 0 < x) (hx2 : in32 x) (hnn : n ≠ 1000)
    (kk : E X G cells slots n (upd2 v r (k : Int) x) (pc + 3) L S) : E X G cells slots n v pc L (vr x :: vr r :: S) :=
  E.put0 C hF (fun _ => hi) hd hs hr (x := x) (by rw [hI]; show Value.ref (adr G x) = (if x = 0 then Value.null else .ref (adr G x)); rw [if_neg (by omega)]) (by rcases hty with ⟨c, rfl⟩ | ⟨c, rfl⟩ <;> rfl) (by rcases hty with ⟨c, rfl⟩ | ⟨c, rfl⟩ <;> rfl) (fun _ => hx2) (fun q => absurd q hnn) kk
theorem jin_of {i : Int} {m : Nat} (h0 : 0 ≤ i) (h1 : i < (m : Int)) (hi : in32 i) : vp_in (Int32.ofInt i) m := by
  rintro (h | h)
  · have := (zlt hi).mp h
    omega
  · rw [cl32 hi] at h
    omega
theorem nat_back {i : Int} (h0 : 0 ≤ i) : ((i.toNat : Nat) : Int) = i := Int.toNat_of_nonneg h0
theorem E.iald (C : Cx X G own cc) (hd : decode cc pc = .ok (.iaload, 1)) (hs : kd r = 11) (hr : r ≤ (nc n : Int)) (h0 : 0 ≤ i) (h1 : i < (ln r : Int)) (hv : v r i = x)
    (kk : E X G cells slots n v (pc + 1) L (vi x :: S)) : E X G cells slots n v pc L (vi i :: vr r :: S) := by
  intro q1 q2 q3 H locs ls hw hS hl
  have ii : in32 i := ok_h q3
  have hat := wl_at (G := G) (n := nc n) (v := v) (kd_pos hs (by omega)).1 hr
  rw [cellE_arr (t := 1) hs (by decide)] at hat
  refine va_iald C.1 C.2.1 C.2.2.2.2.2.1 hw.2.1 _ 1 hat rfl (jin_of h0 h1 ii) hd ?_
  rw [cl32 ii, nat_back h0, hv]
  exact kk q1 q2 (okc (by show in32 x; rw [← hv]; exact q1.1 _ _) (ok_t (ok_t q3))) H locs ls hw hS hl
theorem E.bald (C : Cx X G own cc) (hd : decode cc pc = .ok (.baload, 1)) (hs : kd r = 10) (hr : r ≤ (nc n : Int)) (h0 : 0 ≤ i) (h1 : i < (ln r : Int)) (hv : v r i = x)
    (kk : E X G cells slots n v (pc + 1) L (vi x :: S)) : E X G cells slots n v pc L (vi i :: vr r :: S) := by
  intro q1 q2 q3 H locs ls hw hS hl
  have ii : in32 i := ok_h q3
  have hat := wl_at (G := G) (n := nc n) (v := v) (kd_pos hs (by omega)).1 hr
  rw [cellE_arr (t := 0) hs (by decide)] at hat
  refine va_bald C.1 C.2.1 C.2.2.2.2.2.1 hw.2.1 _ 0 hat rfl (jin_of h0 h1 ii) hd ?_
  rw [cl32 ii, nat_back h0, hv]
  exact kk q1 q2 (okc (by show in32 x; rw [← hv]; exact q1.1 _ _) (ok_t (ok_t q3))) H locs ls hw hS hl
theorem E.zald (C : Cx X G own cc) (hd : decode cc pc = .ok (.baload, 1)) (hs : kd r = 12) (hr : r ≤ (nc n : Int)) (h0 : 0 ≤ i) (h1 : i < (ln r : Int)) (hv : v r i = x)
    (kk : E X G cells slots n v (pc + 1) L (vi x :: S)) : E X G cells slots n v pc L (vi i :: vr r :: S) := by
  intro q1 q2 q3 H locs ls hw hS hl
  have ii : in32 i := ok_h q3
  have hat := wl_at (G := G) (n := nc n) (v := v) (kd_pos hs (by omega)).1 hr
  rw [cellE_arr (t := 2) hs (by decide)] at hat
  refine va_zald C.1 C.2.1 C.2.2.2.2.2.1 hw.2.1 _ 2 hat rfl (jin_of h0 h1 ii) hd ?_
  rw [cl32 ii, nat_back h0, hv]
  exact kk q1 q2 (okc (by show in32 x; rw [← hv]; exact q1.1 _ _) (ok_t (ok_t q3))) H locs ls hw hS hl
theorem E.aald (C : Cx X G own cc) {t : Nat} (ht : 3 ≤ t ∧ t ≤ 6) (hd : decode cc pc = .ok (.aaload, 1)) (hs : kd r = 10 + t) (hr : r ≤ (nc n : Int)) (h0 : 0 ≤ i) (h1 : i < (ln r : Int)) (hv : v r i = x) (hx : 0 < x)
    (kk : E X G cells slots n v (pc + 1) L (vr x :: S)) : E X G cells slots n v pc L (vi i :: vr r :: S) := by
  intro q1 q2 q3 H locs ls hw hS hl
  have ii : in32 i := ok_h q3
  have hat := wl_at (G := G) (n := nc n) (v := v) (kd_pos hs (by omega)).1 hr
  rw [cellE_arq hs ht.1] at hat
  have kk := kk q1 q2 (okc trivial (ok_t (ok_t q3))) H locs ls hw hS hl
  have hz : va_rf (rfo G (v r ((Int32.ofInt i).toNatClampNeg : Int))) = .ref (adr G x) := by
    rw [cl32 ii, nat_back h0, hv]
    unfold rfo
    rw [if_neg (by omega)]
    rfl
  have hcase : ∃ c, (tysG G)[t]? = some (G.2.2.2.1 t, .object c) := by
    rcases (show t = 3 ∨ t = 4 ∨ t = 5 ∨ t = 6 by omega) with h | h | h | h <;> subst h <;> exact ⟨_, rfl⟩
  obtain ⟨c, hc⟩ := hcase
  refine va_aldq C.1 C.2.1 C.2.2.2.2.2.1 hw.2.1 _ t hat hc (jin_of h0 h1 ii) hd ?_
  rw [hz]
  exact kk
theorem upd_ofInt {f g : Int → Int} {i x : Int} (h0 : 0 ≤ i) (h : g = fun j => if j = i then x else f j) : upd (fun j : Nat => Int32.ofInt (f (j : Int))) i.toNat (Int32.ofInt x) = fun j : Nat => Int32.ofInt (g (j : Int)) := by
  funext j
  subst h
  unfold upd
  by_cases hj : j = i.toNat
  · subst hj
    rw [if_pos rfl]
    show _ = Int32.ofInt (if ((i.toNat : Nat) : Int) = i then x else f _)
    rw [if_pos (nat_back h0)]
  · rw [if_neg hj]
    show _ = Int32.ofInt (if (j : Int) = i then x else f _)
    rw [if_neg (by omega)]
theorem upd2_row (v : VT) (r i x : Int) : upd2 v r i x r = fun j => if j = i then x else v r j := by
  funext j
  unfold upd2
  by_cases h : j = i
  · rw [if_pos ⟨rfl, h⟩, if_pos h]
  · rw [if_neg (fun q => h q.2), if_neg h]
theorem arr_at {G : GT} {v : VT} {r i x : Int} {t : Nat} {H1 : Heap} {cell : Cell} (ht : t < 3) (hs : kd r = 10 + t) (h0 : 0 ≤ i) (ii : in32 i) (hc : cell = vp_cell (G.2.2.2.1 t) (ln r, .inl (fun j => Int32.ofInt (v r (j : Int))))) (e : H1[adr G r]? = some (cell.setSlot (Int32.ofInt i).toNatClampNeg (.int (Int32.ofInt x)))) : va_at G.2.2.1 vwCl (adr G r, cellE G (upd2 v r i x) r) H1 := by
  rw [cellE_arr hs ht]
  show H1[adr G r]? = some (vp_cell _ _)
  rw [e, hc, vp_cell_i, vp_cell_i, arrV_store, cl32 ii]
  congr 2
  funext q
  have h1 := congrFun (upd_ofInt (f := v r) (g := upd2 v r i x r) h0 (upd2_row v r i x)) q
  rw [← h1]
  by_cases hq : q = i.toNat
  · subst hq
    simp [updV, upd]
  · simp [updV, upd, hq]
theorem E.iast (C : Cx X G own cc) (hd : decode cc pc = .ok (.iastore, 1)) (hs : kd r = 11) (hr : r ≤ (nc n : Int)) (h0 : 0 ≤ i) (h1 : i < (ln r : Int))
    (kk : E X G cells slots n (upd2 v r i x) (pc + 1) L S) : E X G cells slots n v pc L (vi x :: vi i :: vr r :: S) := by
  intro q1 q2 q3 H locs ls hw hS hl
  have ix : in32 x := ok_h q3
  have ii : in32 i := ok_h (ok_t q3)
  have hp := (kd_pos hs (by omega)).1
  have hat := wl_at (G := G) (n := nc n) (v := v) hp hr
  rw [cellE_arr (t := 1) hs (by decide)] at hat
  have hin := jin_of h0 h1 ii
  refine W.iast C.1 C.2.1 (hw.2.1 _ _ hat) ((C.2.2.2.2.2.1.2 1 _ rfl).1 (ln r) (fun j => .int (Int32.ofInt (v r (j : Int))))) (fun q => by cases q) (by show ¬ (Int32.ofInt i < 0 ∨ (arrV _ _ _).slots.size ≤ _); rw [arrV_size]; exact hin) rfl rfl hd fun H1 e z oq => ?_
  have hS1 := hS.put (k := (Int32.ofInt i).toNatClampNeg) z oq (adr_Afr hp)
  exact kk (inv_upd q1 ix (fun _ => isref_arr hs (by decide) (by decide))) q2 (ok_t (ok_t (ok_t q3))) H1 _ ls (wld_set hp hr hw C.2.2.2.2.2.2.1 hS hS1 z (arr_at (t := 1) (by decide) hs h0 ii rfl e) oq) hS1 hl
theorem E.bast (C : Cx X G own cc) (hd : decode cc pc = .ok (.bastore, 1)) (hs : kd r = 10) (hr : r ≤ (nc n : Int)) (h0 : 0 ≤ i) (h1 : i < (ln r : Int)) (hx : -128 ≤ x ∧ x ≤ 127)
    (kk : E X G cells slots n (upd2 v r i x) (pc + 1) L S) : E X G cells slots n v pc L (vi x :: vi i :: vr r :: S) := by
  intro q1 q2 q3 H locs ls hw hS hl
  have ix : in32 x := ok_h q3
  have ii : in32 i := ok_h (ok_t q3)
  have hp := (kd_pos hs (by omega)).1
  have hat := wl_at (G := G) (n := nc n) (v := v) hp hr
  rw [cellE_arr (t := 0) hs (by decide)] at hat
  have hin := jin_of h0 h1 ii
  refine W.bast C.1 C.2.1 (hw.2.1 _ _ hat) ((C.2.2.2.2.2.1.2 0 _ rfl).1 (ln r) (fun j => .int (Int32.ofInt (v r (j : Int))))) (fun q => by cases q) (by show ¬ (Int32.ofInt i < 0 ∨ (arrV _ _ _).slots.size ≤ _); rw [arrV_size]; exact hin) rfl rfl hd fun H1 e z oq => ?_
  have hnx : narrow .byte (.int (Int32.ofInt x)) = .int (Int32.ofInt x) := by
    show Value.int ((Int32.ofInt x).toInt8.toInt32) = _
    rw [Int32.toInt8_ofInt, of8 hx.1 hx.2]
  rw [hnx] at e
  have hS1 := hS.put (k := (Int32.ofInt i).toNatClampNeg) z oq (adr_Afr hp)
  exact kk (inv_upd q1 ix (fun _ => isref_arr hs (by decide) (by decide))) q2 (ok_t (ok_t (ok_t q3))) H1 _ ls (wld_set hp hr hw C.2.2.2.2.2.2.1 hS hS1 z (arr_at (t := 0) (by decide) hs h0 ii rfl e) oq) hS1 hl
theorem E.zast (C : Cx X G own cc) (hd : decode cc pc = .ok (.bastore, 1)) (hs : kd r = 12) (hr : r ≤ (nc n : Int)) (h0 : 0 ≤ i) (h1 : i < (ln r : Int)) (hx : x = 0 ∨ x = 1)
    (kk : E X G cells slots n (upd2 v r i x) (pc + 1) L S) : E X G cells slots n v pc L (vi x :: vi i :: vr r :: S) := by
  intro q1 q2 q3 H locs ls hw hS hl
  have ix : in32 x := ok_h q3
  have ii : in32 i := ok_h (ok_t q3)
  have hp := (kd_pos hs (by omega)).1
  have hat := wl_at (G := G) (n := nc n) (v := v) hp hr
  rw [cellE_arr (t := 2) hs (by decide)] at hat
  have hin := jin_of h0 h1 ii
  refine W.zast C.1 C.2.1 (hw.2.1 _ _ hat) ((C.2.2.2.2.2.1.2 2 _ rfl).1 (ln r) (fun j => .int (Int32.ofInt (v r (j : Int))))) (fun q => by cases q) (by show ¬ (Int32.ofInt i < 0 ∨ (arrV _ _ _).slots.size ≤ _); rw [arrV_size]; exact hin) rfl rfl hd fun H1 e z oq => ?_
  have hnx : narrow .boolean (.int (Int32.ofInt x)) = .int (Int32.ofInt x) := by
    rcases hx with rfl | rfl <;> rfl
  rw [hnx] at e
  have hS1 := hS.put (k := (Int32.ofInt i).toNatClampNeg) z oq (adr_Afr hp)
  exact kk (inv_upd q1 ix (fun _ => isref_arr hs (by decide) (by decide))) q2 (ok_t (ok_t (ok_t q3))) H1 _ ls (wld_set hp hr hw C.2.2.2.2.2.2.1 hS hS1 z (arr_at (t := 2) (by decide) hs h0 ii rfl e) oq) hS1 hl
end ARR
