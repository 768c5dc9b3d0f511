-- a row an instruction
theorem okc {a : AV} {S : List AV} (h : okv a) (hs : ∀ b ∈ S, okv b) : ∀ b ∈ a :: S, okv b := by
  intro b hb
  rcases List.mem_cons.mp hb with rfl | hb
  · exact h
  · exact hs b hb
theorem ok_h {a : AV} {S : List AV} (h : ∀ b ∈ a :: S, okv b) : okv a := h a List.mem_cons_self
theorem ok_t {a : AV} {S : List AV} (h : ∀ b ∈ a :: S, okv b) : ∀ b ∈ S, okv b := fun b hb => h b (List.mem_cons_of_mem _ hb)
theorem of8 {x : Int} (h1 : -128 ≤ x) (h2 : x ≤ 127) : (Int8.ofInt x).toInt32 = Int32.ofInt x := by
  rw [← Int32.ofInt_int8ToInt, Int8.toInt_ofInt_of_le (by omega) (by omega)]
theorem of16 {x : Int} (h1 : -32768 ≤ x) (h2 : x ≤ 32767) : (Int16.ofInt x).toInt32 = Int32.ofInt x := by
  rw [← Int32.ofInt_int16ToInt, Int16.toInt_ofInt_of_le (by omega) (by omega)]
theorem z32 {x : Int} (h : in32 x) : Int32.ofInt x = 0 ↔ x = 0 := eq32 (y := 0) h (by decide)
theorem zlt {x : Int} (h : in32 x) : Int32.ofInt x < 0 ↔ x < 0 := lt32 (y := 0) h (by decide)
theorem zle {x : Int} (h : in32 x) : Int32.ofInt x ≤ 0 ↔ x ≤ 0 := le32 (y := 0) h (by decide)
theorem zgt {x : Int} (h : in32 x) : 0 < Int32.ofInt x ↔ 0 < x := lt32 (x := 0) (by decide) h
theorem zge {x : Int} (h : in32 x) : 0 ≤ Int32.ofInt x ↔ 0 ≤ x := le32 (x := 0) (by decide) h
theorem z64 {x : Int} (h : in64 x) : Int64.ofInt x = 0 ↔ x = 0 := eq64 (y := 0) h (by decide)
theorem l32 {x : Int} (h : in32 x) : (Int32.ofInt x).toInt64 = Int64.ofInt x := by
  apply Int64.toInt_inj.mp
  rw [Int32.toInt_toInt64, o32 h, o64 (by omega)]
section INS
variable {X : XT} {G : GT} {own : String} {cc : ByteArray} {cells slots n : Nat} {v : VT} {pc tgt : Nat} {L : List (Option AV)} {S : List AV} {x y z : Int} {off : Int} {i : Nat}
/-- what is known of the numbers that the state holds -/
theorem E.rngk (k : inv n v → E X G cells slots n v pc L S) : E X G cells slots n v pc L S := fun h1 h2 h3 => k h1 h1 h2 h3
theorem E.loc (k : (∀ a, some a ∈ L → okv a) → E X G cells slots n v pc L S) : E X G cells slots n v pc L S := fun h1 h2 h3 => k h2 h1 h2 h3
theorem E.stk (k : (∀ a ∈ S, okv a) → E X G cells slots n v pc L S) : E X G cells slots n v pc L S := fun h1 h2 h3 => k h3 h1 h2 h3

theorem E.iconst (C : Cx X G own cc) (hd : decode cc pc = .ok (.iconst x, 1)) (hx : in32 x) (k : E X G cells slots n v (pc + 1) L (vi x :: S)) : E X G cells slots n v pc L S := by
  intro h1 h2 h3 H locs ls hw hS hl
  exact lv_iconst C.1 C.2.1 hd rfl (k h1 h2 (okc hx h3) H locs ls hw hS hl)

theorem E.bipush (C : Cx X G own cc) (hd : decode cc pc = .ok (.bipush x, 2)) (hx : -128 ≤ x ∧ x ≤ 127) (k : E X G cells slots n v (pc + 2) L (vi x :: S)) : E X G cells slots n v pc L S := by
  intro h1 h2 h3 H locs ls hw hS hl
  exact lv_bipush C.1 C.2.1 hd (of8 hx.1 hx.2) (k h1 h2 (okc (by show in32 x; omega) h3) H locs ls hw hS hl)

theorem E.sipush (C : Cx X G own cc) (hd : decode cc pc = .ok (.sipush x, 3)) (hx : -32768 ≤ x ∧ x ≤ 32767) (k : E X G cells slots n v (pc + 3) L (vi x :: S)) : E X G cells slots n v pc L S := by
  intro h1 h2 h3 H locs ls hw hS hl
  exact lv_sipush C.1 C.2.1 hd (of16 hx.1 hx.2) (k h1 h2 (okc (by show in32 x; omega) h3) H locs ls hw hS hl)

theorem E.ldc (C : Cx X G own cc) {index : Nat} {a : Int32} (hc : Cond.constant own index a ∈ lw_good) (hx : a.toInt = x) (hd : decode cc pc = .ok (.ldc index, 2)) (k : E X G cells slots n v (pc + 2) L (vi x :: S)) : E X G cells slots n v pc L S := by
  intro h1 h2 h3 H locs ls hw hS hl
  subst hx
  have k := k h1 h2 (okc (toInt_in a) h3) H locs ls hw hS hl
  simp only [List.map_cons, conc, Int32.ofInt_toInt] at k
  exact lv_ldc C.1 C.2.1 C.2.2.2.1 (C.2.2.2.2.1 _ hc) hd k

theorem E.ldc2 (C : Cx X G own cc) {index : Nat} {a : Int64} (hc : Cond.constantLong own index a ∈ lw_good) (hx : a.toInt = x) (hd : decode cc pc = .ok (.ldc2_w index, 3)) (k : E X G cells slots n v (pc + 3) L (vl x :: S)) : E X G cells slots n v pc L S := by
  intro h1 h2 h3 H locs ls hw hS hl
  subst hx
  have k := k h1 h2 (okc (toInt_in64 a) h3) H locs ls hw hS hl
  simp only [List.map_cons, conc, Int64.ofInt_toInt] at k
  exact lv_ldc2 C.1 C.2.1 C.2.2.2.1 (C.2.2.2.2.1 _ hc) hd k

theorem E.lconst (C : Cx X G own cc) {m : Fin 2} (hd : decode cc pc = .ok (.lconst m, 1)) (hx : ((m : Nat) : Int) = x) (k : E X G cells slots n v (pc + 1) L (vl x :: S)) : E X G cells slots n v pc L S := by
  intro h1 h2 h3 H locs ls hw hS hl
  have h4 := m.isLt
  exact lv_lconst C.1 C.2.1 hd (by rw [← hx]; exact Int64.ofInt_eq_ofNat.symm) (k h1 h2 (okc (by show in64 x; omega) h3) H locs ls hw hS hl)

theorem E.iload_n (C : Cx X G own cc) {m : Fin 4} (hd : decode cc pc = .ok (.iload_n m, 1)) (hi : (m : Nat) = i) (hL : L[i]? = some (some (vi x))) (k : E X G cells slots n v (pc + 1) L (vi x :: S)) : E X G cells slots n v pc L S := by
  intro h1 h2 h3 H locs ls hw hS hl
  exact lv_iload_n C.1 C.2.1 hd hi (lv_read hl hL) (k h1 h2 (okc (h2 _ (List.mem_of_getElem? hL)) h3) H locs ls hw hS hl)

theorem E.iload (C : Cx X G own cc) (hd : decode cc pc = .ok (.iload i, 2)) (hL : L[i]? = some (some (vi x))) (k : E X G cells slots n v (pc + 2) L (vi x :: S)) : E X G cells slots n v pc L S := by
  intro h1 h2 h3 H locs ls hw hS hl
  exact lv_iload C.1 C.2.1 hd (lv_read hl hL) (k h1 h2 (okc (h2 _ (List.mem_of_getElem? hL)) h3) H locs ls hw hS hl)

theorem E.lload_n (C : Cx X G own cc) {m : Fin 4} (hd : decode cc pc = .ok (.lload_n m, 1)) (hi : (m : Nat) = i) (hL : L[i]? = some (some (vl x))) (k : E X G cells slots n v (pc + 1) L (vl x :: S)) : E X G cells slots n v pc L S := by
  intro h1 h2 h3 H locs ls hw hS hl
  exact lv_lload_n C.1 C.2.1 hd hi (lv_read hl hL) (k h1 h2 (okc (h2 _ (List.mem_of_getElem? hL)) h3) H locs ls hw hS hl)

theorem E.lload (C : Cx X G own cc) (hd : decode cc pc = .ok (.lload i, 2)) (hL : L[i]? = some (some (vl x))) (k : E X G cells slots n v (pc + 2) L (vl x :: S)) : E X G cells slots n v pc L S := by
  intro h1 h2 h3 H locs ls hw hS hl
  exact lv_lload C.1 C.2.1 hd (lv_read hl hL) (k h1 h2 (okc (h2 _ (List.mem_of_getElem? hL)) h3) H locs ls hw hS hl)

theorem E.aload_n (C : Cx X G own cc) {m : Fin 4} (hd : decode cc pc = .ok (.aload_n m, 1)) (hi : (m : Nat) = i) (hL : L[i]? = some (some (vr x))) (k : E X G cells slots n v (pc + 1) L (vr x :: S)) : E X G cells slots n v pc L S := by
  intro h1 h2 h3 H locs ls hw hS hl
  exact lv_aload_n C.1 C.2.1 hd hi (lv_read hl hL) (k h1 h2 (okc trivial h3) H locs ls hw hS hl)

theorem E.aload (C : Cx X G own cc) (hd : decode cc pc = .ok (.aload i, 2)) (hL : L[i]? = some (some (vr x))) (k : E X G cells slots n v (pc + 2) L (vr x :: S)) : E X G cells slots n v pc L S := by
  intro h1 h2 h3 H locs ls hw hS hl
  exact lv_aload C.1 C.2.1 hd (lv_read hl hL) (k h1 h2 (okc trivial h3) H locs ls hw hS hl)

theorem ok_set {L : List (Option AV)} {i : Nat} {a : AV} (h : okv a) (h2 : ∀ b, some b ∈ L → okv b) : ∀ b, some b ∈ L.set i (some a) → okv b := by
  intro b hb
  rcases List.mem_or_eq_of_mem_set hb with hb | hb
  · exact h2 b hb
  · cases hb; exact h
theorem ok_setn {L : List (Option AV)} {i : Nat} (h2 : ∀ b, some b ∈ L → okv b) : ∀ b, some b ∈ L.set i none → okv b := by
  intro b hb
  rcases List.mem_or_eq_of_mem_set hb with hb | hb
  · exact h2 b hb
  · cases hb

theorem E.istore_n (C : Cx X G own cc) {m : Fin 4} (hd : decode cc pc = .ok (.istore_n m, 1)) (hi : (m : Nat) = i) (hn : i < xn X) (hg : noLong L i = true) (k : E X G cells slots n v (pc + 1) (L.set i (some (vi x))) S) : E X G cells slots n v pc L (vi x :: S) := by
  intro h1 h2 h3 H locs ls hw hS hl
  refine lv_istore_n C.1 C.2.1 hd hi hl hn rfl (fun ls2 hl2 => ?_)
  exact k h1 (ok_set (ok_h h3) h2) (ok_t h3) H locs ls2 hw hS (lv_has_sub hl2 (lvl_store hg))

theorem E.istore (C : Cx X G own cc)  (hd : decode cc pc = .ok (.istore i, 2)) (hn : i < xn X) (hg : noLong L i = true) (k : E X G cells slots n v (pc + 2) (L.set i (some (vi x))) S) : E X G cells slots n v pc L (vi x :: S) := by
  intro h1 h2 h3 H locs ls hw hS hl
  refine lv_istore C.1 C.2.1 hd hl hn rfl (fun ls2 hl2 => ?_)
  exact k h1 (ok_set (ok_h h3) h2) (ok_t h3) H locs ls2 hw hS (lv_has_sub hl2 (lvl_store hg))

theorem E.astore_n (C : Cx X G own cc) {m : Fin 4} (hd : decode cc pc = .ok (.astore_n m, 1)) (hi : (m : Nat) = i) (hn : i < xn X) (hg : noLong L i = true) (k : E X G cells slots n v (pc + 1) (L.set i (some (vr x))) S) : E X G cells slots n v pc L (vr x :: S) := by
  intro h1 h2 h3 H locs ls hw hS hl
  refine lv_astore_n C.1 C.2.1 hd hi hl hn rfl (fun ls2 hl2 => ?_)
  exact k h1 (ok_set trivial h2) (ok_t h3) H locs ls2 hw hS (lv_has_sub hl2 (lvl_store hg))

theorem E.astore (C : Cx X G own cc)  (hd : decode cc pc = .ok (.astore i, 2)) (hn : i < xn X) (hg : noLong L i = true) (k : E X G cells slots n v (pc + 2) (L.set i (some (vr x))) S) : E X G cells slots n v pc L (vr x :: S) := by
  intro h1 h2 h3 H locs ls hw hS hl
  refine lv_astore C.1 C.2.1 hd hl hn rfl (fun ls2 hl2 => ?_)
  exact k h1 (ok_set trivial h2) (ok_t h3) H locs ls2 hw hS (lv_has_sub hl2 (lvl_store hg))

theorem E.lstore (C : Cx X G own cc) (hd : decode cc pc = .ok (.lstore i, 2)) (hn : i + 1 < xn X) (hg : noLong L i = true) (k : E X G cells slots n v (pc + 2) ((L.set i (some (vl x))).set (i + 1) none) S) : E X G cells slots n v pc L (vl x :: S) := by
  intro h1 h2 h3 H locs ls hw hS hl
  refine lv_lstore C.1 C.2.1 hd hl hn rfl (fun ls2 hl2 => ?_)
  exact k h1 (ok_setn (ok_set (ok_h h3) h2)) (ok_t h3) H locs ls2 hw hS (lv_has_sub hl2 (lvl_storeL hg))

theorem E.iincW (C : Cx X G own cc) (hd : decode cc pc = .ok (.iinc i y, 3)) (hL : L[i]? = some (some (vi x))) (hn : i < xn X) (hg : noLong L i = true) (k : E X G cells slots n v (pc + 3) (L.set i (some (vi (w32 (x + y))))) S) : E X G cells slots n v pc L S := by
  intro h1 h2 h3 H locs ls hw hS hl
  obtain ⟨q, hq⟩ := List.getElem?_of_mem (lvl_mem (G := G) (i := 0) hL)
  rw [Nat.zero_add] at hq
  refine lv_iinc (v := Int32.ofInt (w32 (x + y))) C.1 C.2.1 hd hl hq (by rw [of_w32, Int32.ofInt_add]) hn rfl (fun ls2 hl2 => ?_)
  exact k h1 (ok_set (w32_in _) h2) h3 H locs ls2 hw hS (lv_has_sub hl2 (lvl_store hg))
theorem E.iinc (C : Cx X G own cc) (hd : decode cc pc = .ok (.iinc i y, 3)) (hL : L[i]? = some (some (vi x))) (hn : i < xn X) (hg : noLong L i = true) (hr : in32 (x + y)) (k : E X G cells slots n v (pc + 3) (L.set i (some (vi (x + y)))) S) : E X G cells slots n v pc L S := by
  refine E.iincW C hd hL hn hg ?_
  rw [w32_id hr]
  exact k
/-- a local that is not wanted any more -/
theorem E.drop (k : E X G cells slots n v pc (L.set i none) S) : E X G cells slots n v pc L S := by
  intro h1 h2 h3 H locs ls hw hS hl
  refine k h1 (ok_setn h2) h3 H locs ls hw hS (lv_has_sub hl (fun q hq => ?_))
  obtain ⟨j, a, e1, e2⟩ := lvl_of hq
  rw [Nat.zero_add] at e1
  subst e1
  by_cases hj : j = i
  · subst hj
    have hl2 : j < (L.set j none).length := (List.getElem?_eq_some_iff.mp e2).1
    rw [List.length_set] at hl2
    rw [List.getElem?_set_self hl2] at e2
    cases e2
  · rw [List.getElem?_set_ne (Ne.symm hj)] at e2
    simpa using lvl_mem (G := G) (i := 0) e2

theorem E.iaddW (C : Cx X G own cc) (hd : decode cc pc = .ok (.iadd, 1)) (k : E X G cells slots n v (pc + 1) L (vi (w32 (x + y)) :: S)) : E X G cells slots n v pc L (vi y :: vi x :: S) := by
  intro h1 h2 h3 H locs ls hw hS hl
  refine lv_iadd C.1 C.2.1 hd ?_
  have k := k h1 h2 (okc (w32_in _) (ok_t (ok_t h3))) H locs ls hw hS hl
  simp only [List.map_cons, conc, of_w32, Int32.ofInt_add] at k
  exact k

theorem E.iadd (C : Cx X G own cc) (hd : decode cc pc = .ok (.iadd, 1)) (hr : in32 (x + y)) (k : E X G cells slots n v (pc + 1) L (vi (x + y) :: S)) : E X G cells slots n v pc L (vi y :: vi x :: S) := by
  refine E.iaddW C hd ?_
  rw [w32_id hr]
  exact k

theorem E.isubW (C : Cx X G own cc) (hd : decode cc pc = .ok (.isub, 1)) (k : E X G cells slots n v (pc + 1) L (vi (w32 (x - y)) :: S)) : E X G cells slots n v pc L (vi y :: vi x :: S) := by
  intro h1 h2 h3 H locs ls hw hS hl
  refine lv_isub C.1 C.2.1 hd ?_
  have k := k h1 h2 (okc (w32_in _) (ok_t (ok_t h3))) H locs ls hw hS hl
  simp only [List.map_cons, conc, of_w32, Int32.ofInt_sub] at k
  exact k

theorem E.isub (C : Cx X G own cc) (hd : decode cc pc = .ok (.isub, 1)) (hr : in32 (x - y)) (k : E X G cells slots n v (pc + 1) L (vi (x - y) :: S)) : E X G cells slots n v pc L (vi y :: vi x :: S) := by
  refine E.isubW C hd ?_
  rw [w32_id hr]
  exact k

theorem E.imulW (C : Cx X G own cc) (hd : decode cc pc = .ok (.imul, 1)) (k : E X G cells slots n v (pc + 1) L (vi (w32 (x * y)) :: S)) : E X G cells slots n v pc L (vi y :: vi x :: S) := by
  intro h1 h2 h3 H locs ls hw hS hl
  refine lv_imul C.1 C.2.1 hd ?_
  have k := k h1 h2 (okc (w32_in _) (ok_t (ok_t h3))) H locs ls hw hS hl
  simp only [List.map_cons, conc, of_w32, Int32.ofInt_mul] at k
  exact k

theorem E.imul (C : Cx X G own cc) (hd : decode cc pc = .ok (.imul, 1)) (hr : in32 (x * y)) (k : E X G cells slots n v (pc + 1) L (vi (x * y) :: S)) : E X G cells slots n v pc L (vi y :: vi x :: S) := by
  refine E.imulW C hd ?_
  rw [w32_id hr]
  exact k

theorem E.idiv (C : Cx X G own cc) (hd : decode cc pc = .ok (.idiv, 1)) (h0 : 0 ≤ x) (hy : 0 < y) (k : E X G cells slots n v (pc + 1) L (vi (x / y) :: S)) : E X G cells slots n v pc L (vi y :: vi x :: S) := by
  intro h1 h2 h3 H locs ls hw hS hl
  have ix : in32 x := ok_h (ok_t h3)
  have iy : in32 y := ok_h h3
  refine lv_idiv C.1 C.2.1 hd (fun q => by have := (z32 iy).mp q; omega) ?_
  rw [div32 h0 hy ix iy]
  have i1 := Int.ediv_nonneg h0 (Int.le_of_lt hy)
  have i2 := Int.ediv_le_self y h0
  exact k h1 h2 (okc (by show in32 (x / y); omega) (ok_t (ok_t h3))) H locs ls hw hS hl

theorem E.irem (C : Cx X G own cc) (hd : decode cc pc = .ok (.irem, 1)) (h0 : 0 ≤ x) (hy : 0 < y) (k : E X G cells slots n v (pc + 1) L (vi (x % y) :: S)) : E X G cells slots n v pc L (vi y :: vi x :: S) := by
  intro h1 h2 h3 H locs ls hw hS hl
  have ix : in32 x := ok_h (ok_t h3)
  have iy : in32 y := ok_h h3
  refine lv_irem C.1 C.2.1 hd (fun q => by have := (z32 iy).mp q; omega) ?_
  rw [rem32 h0 hy ix iy]
  have i1 := Int.emod_nonneg x (by omega : y ≠ 0)
  have i2 := Int.emod_lt_of_pos x hy
  exact k h1 h2 (okc (by show in32 (x % y); omega) (ok_t (ok_t h3))) H locs ls hw hS hl

theorem E.iand (C : Cx X G own cc) (hd : decode cc pc = .ok (.iand, 1)) (k : E X G cells slots n v (pc + 1) L (vi (jand x y) :: S)) : E X G cells slots n v pc L (vi y :: vi x :: S) := by
  intro h1 h2 h3 H locs ls hw hS hl
  refine lv_iand C.1 C.2.1 hd ?_
  have k := k h1 h2 (okc (toInt_in _) (ok_t (ok_t h3))) H locs ls hw hS hl
  simp only [List.map_cons, conc, jand, Int32.ofInt_toInt] at k
  exact k

theorem E.ior (C : Cx X G own cc) (hd : decode cc pc = .ok (.ior, 1)) (k : E X G cells slots n v (pc + 1) L (vi (jor x y) :: S)) : E X G cells slots n v pc L (vi y :: vi x :: S) := by
  intro h1 h2 h3 H locs ls hw hS hl
  refine lv_ior C.1 C.2.1 hd ?_
  have k := k h1 h2 (okc (toInt_in _) (ok_t (ok_t h3))) H locs ls hw hS hl
  simp only [List.map_cons, conc, jor, Int32.ofInt_toInt] at k
  exact k

theorem E.ixor (C : Cx X G own cc) (hd : decode cc pc = .ok (.ixor, 1)) (k : E X G cells slots n v (pc + 1) L (vi (jxor x y) :: S)) : E X G cells slots n v pc L (vi y :: vi x :: S) := by
  intro h1 h2 h3 H locs ls hw hS hl
  refine lv_ixor C.1 C.2.1 hd ?_
  have k := k h1 h2 (okc (toInt_in _) (ok_t (ok_t h3))) H locs ls hw hS hl
  simp only [List.map_cons, conc, jxor, Int32.ofInt_toInt] at k
  exact k

theorem E.ishl (C : Cx X G own cc) (hd : decode cc pc = .ok (.ishl, 1)) (k : E X G cells slots n v (pc + 1) L (vi (jshl x y) :: S)) : E X G cells slots n v pc L (vi y :: vi x :: S) := by
  intro h1 h2 h3 H locs ls hw hS hl
  refine lv_ishl C.1 C.2.1 hd ?_
  have k := k h1 h2 (okc (toInt_in _) (ok_t (ok_t h3))) H locs ls hw hS hl
  simp only [List.map_cons, conc, jshl, Int32.ofInt_toInt] at k
  exact k

theorem E.ishr (C : Cx X G own cc) (hd : decode cc pc = .ok (.ishr, 1)) (k : E X G cells slots n v (pc + 1) L (vi (jshr x y) :: S)) : E X G cells slots n v pc L (vi y :: vi x :: S) := by
  intro h1 h2 h3 H locs ls hw hS hl
  refine lv_ishr C.1 C.2.1 hd ?_
  have k := k h1 h2 (okc (toInt_in _) (ok_t (ok_t h3))) H locs ls hw hS hl
  simp only [List.map_cons, conc, jshr, Int32.ofInt_toInt] at k
  exact k

theorem E.iushr (C : Cx X G own cc) (hd : decode cc pc = .ok (.iushr, 1)) (k : E X G cells slots n v (pc + 1) L (vi (jushr x y) :: S)) : E X G cells slots n v pc L (vi y :: vi x :: S) := by
  intro h1 h2 h3 H locs ls hw hS hl
  refine lv_iushr C.1 C.2.1 hd rfl ?_
  have k := k h1 h2 (okc (toInt_in _) (ok_t (ok_t h3))) H locs ls hw hS hl
  simp only [List.map_cons, conc, jushr, Int32.ofInt_toInt] at k
  exact k

theorem E.i2b (C : Cx X G own cc) (hd : decode cc pc = .ok (.i2b, 1)) (k : E X G cells slots n v (pc + 1) L (vi (ji2b x) :: S)) : E X G cells slots n v pc L (vi x :: S) := by
  intro h1 h2 h3 H locs ls hw hS hl
  refine lv_i2b C.1 C.2.1 hd rfl ?_
  have k := k h1 h2 (okc (toInt_in _) (ok_t h3)) H locs ls hw hS hl
  simp only [List.map_cons, conc, ji2b, Int32.ofInt_toInt] at k
  exact k

theorem E.i2s (C : Cx X G own cc) (hd : decode cc pc = .ok (.i2s, 1)) (k : E X G cells slots n v (pc + 1) L (vi (ji2s x) :: S)) : E X G cells slots n v pc L (vi x :: S) := by
  intro h1 h2 h3 H locs ls hw hS hl
  refine lv_i2s C.1 C.2.1 hd rfl ?_
  have k := k h1 h2 (okc (toInt_in _) (ok_t h3)) H locs ls hw hS hl
  simp only [List.map_cons, conc, ji2s, Int32.ofInt_toInt] at k
  exact k

theorem E.i2l (C : Cx X G own cc) (hd : decode cc pc = .ok (.i2l, 1)) (k : E X G cells slots n v (pc + 1) L (vl x :: S)) : E X G cells slots n v pc L (vi x :: S) := by
  intro h1 h2 h3 H locs ls hw hS hl
  have ix : in32 x := ok_h h3
  exact lv_i2l C.1 C.2.1 hd (l32 ix) (k h1 h2 (okc (by show in64 x; omega) (ok_t h3)) H locs ls hw hS hl)

theorem E.l2i (C : Cx X G own cc) (hd : decode cc pc = .ok (.l2i, 1)) (k : E X G cells slots n v (pc + 1) L (vi (w32 x) :: S)) : E X G cells slots n v pc L (vl x :: S) := by
  intro h1 h2 h3 H locs ls hw hS hl
  have ix : in64 x := ok_h h3
  refine lv_l2i C.1 C.2.1 hd ?_ (k h1 h2 (okc (w32_in x) (ok_t h3)) H locs ls hw hS hl)
  apply Int32.toInt_inj.mp
  rw [Int64.toInt_toInt32, o64 ix, of_w32, Int32.toInt_ofInt]

theorem E.laddW (C : Cx X G own cc) (hd : decode cc pc = .ok (.ladd, 1)) (k : E X G cells slots n v (pc + 1) L (vl (w64 (x + y)) :: S)) : E X G cells slots n v pc L (vl y :: vl x :: S) := by
  intro h1 h2 h3 H locs ls hw hS hl
  refine lv_ladd C.1 C.2.1 hd ?_
  have k := k h1 h2 (okc (w64_in _) (ok_t (ok_t h3))) H locs ls hw hS hl
  simp only [List.map_cons, conc, of_w64, Int64.ofInt_add] at k
  exact k

theorem E.ladd (C : Cx X G own cc) (hd : decode cc pc = .ok (.ladd, 1)) (hr : in64 (x + y)) (k : E X G cells slots n v (pc + 1) L (vl (x + y) :: S)) : E X G cells slots n v pc L (vl y :: vl x :: S) := by
  refine E.laddW C hd ?_
  rw [w64_id hr]
  exact k

theorem E.ldiv (C : Cx X G own cc) (hd : decode cc pc = .ok (.ldiv, 1)) (h0 : 0 ≤ x) (hy : 0 < y) (k : E X G cells slots n v (pc + 1) L (vl (x / y) :: S)) : E X G cells slots n v pc L (vl y :: vl x :: S) := by
  intro h1 h2 h3 H locs ls hw hS hl
  have ix : in64 x := ok_h (ok_t h3)
  have iy : in64 y := ok_h h3
  refine lv_ldiv C.1 C.2.1 hd (fun q => by have := (z64 iy).mp q; omega) ?_
  rw [div64 h0 hy ix iy]
  have i1 := Int.ediv_nonneg h0 (Int.le_of_lt hy)
  have i2 := Int.ediv_le_self y h0
  exact k h1 h2 (okc (by show in64 (x / y); omega) (ok_t (ok_t h3))) H locs ls hw hS hl

theorem E.lrem (C : Cx X G own cc) (hd : decode cc pc = .ok (.lrem, 1)) (h0 : 0 ≤ x) (hy : 0 < y) (k : E X G cells slots n v (pc + 1) L (vl (x % y) :: S)) : E X G cells slots n v pc L (vl y :: vl x :: S) := by
  intro h1 h2 h3 H locs ls hw hS hl
  have ix : in64 x := ok_h (ok_t h3)
  have iy : in64 y := ok_h h3
  refine lv_lrem C.1 C.2.1 hd (fun q => by have := (z64 iy).mp q; omega) ?_
  rw [rem64 h0 hy ix iy]
  have i1 := Int.emod_nonneg x (by omega : y ≠ 0)
  have i2 := Int.emod_lt_of_pos x hy
  exact k h1 h2 (okc (by show in64 (x % y); omega) (ok_t (ok_t h3))) H locs ls hw hS hl

theorem E.land (C : Cx X G own cc) (hd : decode cc pc = .ok (.land, 1)) (k : E X G cells slots n v (pc + 1) L (vl (jland x y) :: S)) : E X G cells slots n v pc L (vl y :: vl x :: S) := by
  intro h1 h2 h3 H locs ls hw hS hl
  refine lv_land C.1 C.2.1 hd ?_
  have k := k h1 h2 (okc (toInt_in64 _) (ok_t (ok_t h3))) H locs ls hw hS hl
  simp only [List.map_cons, conc, jland, Int64.ofInt_toInt] at k
  exact k

theorem E.lor (C : Cx X G own cc) (hd : decode cc pc = .ok (.lor, 1)) (k : E X G cells slots n v (pc + 1) L (vl (jlor x y) :: S)) : E X G cells slots n v pc L (vl y :: vl x :: S) := by
  intro h1 h2 h3 H locs ls hw hS hl
  refine lv_lor C.1 C.2.1 hd ?_
  have k := k h1 h2 (okc (toInt_in64 _) (ok_t (ok_t h3))) H locs ls hw hS hl
  simp only [List.map_cons, conc, jlor, Int64.ofInt_toInt] at k
  exact k

theorem E.lshl (C : Cx X G own cc) (hd : decode cc pc = .ok (.lshl, 1)) (k : E X G cells slots n v (pc + 1) L (vl (jlshl x y) :: S)) : E X G cells slots n v pc L (vi y :: vl x :: S) := by
  intro h1 h2 h3 H locs ls hw hS hl
  refine lv_lshl C.1 C.2.1 hd rfl ?_
  have k := k h1 h2 (okc (toInt_in64 _) (ok_t (ok_t h3))) H locs ls hw hS hl
  simp only [List.map_cons, conc, jlshl, Int64.ofInt_toInt] at k
  exact k

theorem E.lshr (C : Cx X G own cc) (hd : decode cc pc = .ok (.lshr, 1)) (k : E X G cells slots n v (pc + 1) L (vl (jlshr x y) :: S)) : E X G cells slots n v pc L (vi y :: vl x :: S) := by
  intro h1 h2 h3 H locs ls hw hS hl
  refine lv_lshr C.1 C.2.1 hd rfl ?_
  have k := k h1 h2 (okc (toInt_in64 _) (ok_t (ok_t h3))) H locs ls hw hS hl
  simp only [List.map_cons, conc, jlshr, Int64.ofInt_toInt] at k
  exact k

theorem E.lcmp (C : Cx X G own cc) (hd : decode cc pc = .ok (.lcmp, 1)) (k : E X G cells slots n v (pc + 1) L (vi (lcmpv x y) :: S)) : E X G cells slots n v pc L (vl y :: vl x :: S) := by
  intro h1 h2 h3 H locs ls hw hS hl
  have ix : in64 x := ok_h (ok_t h3)
  have iy : in64 y := ok_h h3
  refine W.lcmp C.1 C.2.1 hd ?_
  rw [lgcmp ix iy]
  exact k h1 h2 (okc (lcmpv_in x y) (ok_t (ok_t h3))) H locs ls hw hS hl

theorem cat1 {G : GT} {a : AV} (h : ∀ x, a ≠ vl x) : (conc G a).category = 1 := by
  rcases lv_cat (conc G a) with q | q
  · exact q
  · obtain ⟨x, hx⟩ := conc_cat.mp q
    exact absurd hx (h x)

theorem E.dupI (C : Cx X G own cc) (hd : decode cc pc = .ok (.dup, 1)) (k : E X G cells slots n v (pc + 1) L (vi x :: vi x :: S)) : E X G cells slots n v pc L (vi x :: S) := by
  intro h1 h2 h3 H locs ls hw hS hl
  refine lv_dup C.1 C.2.1 hd rfl ?_
  exact k h1 h2 (okc (ok_h h3) h3) H locs ls hw hS hl

theorem E.popI (C : Cx X G own cc) (hd : decode cc pc = .ok (.pop, 1)) (k : E X G cells slots n v (pc + 1) L S) : E X G cells slots n v pc L (vi x :: S) := by
  intro h1 h2 h3 H locs ls hw hS hl
  refine lv_pop C.1 C.2.1 hd rfl ?_
  exact k h1 h2 (ok_t h3) H locs ls hw hS hl

theorem E.dupR (C : Cx X G own cc) (hd : decode cc pc = .ok (.dup, 1)) (k : E X G cells slots n v (pc + 1) L (vr x :: vr x :: S)) : E X G cells slots n v pc L (vr x :: S) := by
  intro h1 h2 h3 H locs ls hw hS hl
  refine lv_dup C.1 C.2.1 hd rfl ?_
  exact k h1 h2 (okc (ok_h h3) h3) H locs ls hw hS hl

theorem E.popR (C : Cx X G own cc) (hd : decode cc pc = .ok (.pop, 1)) (k : E X G cells slots n v (pc + 1) L S) : E X G cells slots n v pc L (vr x :: S) := by
  intro h1 h2 h3 H locs ls hw hS hl
  refine lv_pop C.1 C.2.1 hd rfl ?_
  exact k h1 h2 (ok_t h3) H locs ls hw hS hl

theorem E.dup2 (C : Cx X G own cc) (hd : decode cc pc = .ok (.dup2, 1)) (k : E X G cells slots n v (pc + 1) L (vi y :: vr x :: vi y :: vr x :: S)) : E X G cells slots n v pc L (vi y :: vr x :: S) := by
  intro h1 h2 h3 H locs ls hw hS hl
  refine lv_dup2_11 C.1 C.2.1 hd rfl rfl ?_
  exact k h1 h2 (okc (ok_h h3) (okc trivial h3)) H locs ls hw hS hl

theorem E.goto (C : Cx X G own cc) (hd : decode cc pc = .ok (.goto off, 3)) (ht : (pc : Int) + off = (tgt : Int)) (k : E X G cells slots n v tgt L S) : E X G cells slots n v pc L S := by
  intro h1 h2 h3 H locs ls hw hS hl
  exact lv_goto C.1 C.2.1 hd ht (k h1 h2 h3 H locs ls hw hS hl)

theorem E.if_eq (C : Cx X G own cc) (hd : decode cc pc = .ok (.ifCond .eq off, 3)) (ht : (pc : Int) + off = (tgt : Int)) (k1 : x = 0 → E X G cells slots n v tgt L S) (k2 : ¬ x = 0 → E X G cells slots n v (pc + 3) L S) : E X G cells slots n v pc L (vi x :: S) := by
  intro h1 h2 h3 H locs ls hw hS hl
  have ix : in32 x := ok_h h3
  exact lv_if_eq C.1 C.2.1 hd ht (fun q => k1 ((z32 ix).mp q) h1 h2 (ok_t h3) H locs ls hw hS hl) (fun q => k2 (fun z => q ((z32 ix).mpr z)) h1 h2 (ok_t h3) H locs ls hw hS hl)

theorem E.if_ne (C : Cx X G own cc) (hd : decode cc pc = .ok (.ifCond .ne off, 3)) (ht : (pc : Int) + off = (tgt : Int)) (k1 : ¬ x = 0 → E X G cells slots n v tgt L S) (k2 : x = 0 → E X G cells slots n v (pc + 3) L S) : E X G cells slots n v pc L (vi x :: S) := by
  intro h1 h2 h3 H locs ls hw hS hl
  have ix : in32 x := ok_h h3
  exact lv_if_ne C.1 C.2.1 hd ht (fun q => k1 (fun z => q ((z32 ix).mpr z)) h1 h2 (ok_t h3) H locs ls hw hS hl) (fun q => k2 ((z32 ix).mp q) h1 h2 (ok_t h3) H locs ls hw hS hl)

theorem E.if_lt (C : Cx X G own cc) (hd : decode cc pc = .ok (.ifCond .lt off, 3)) (ht : (pc : Int) + off = (tgt : Int)) (k1 : x < 0 → E X G cells slots n v tgt L S) (k2 : ¬ x < 0 → E X G cells slots n v (pc + 3) L S) : E X G cells slots n v pc L (vi x :: S) := by
  intro h1 h2 h3 H locs ls hw hS hl
  have ix : in32 x := ok_h h3
  exact lv_if_lt C.1 C.2.1 hd ht (fun q => k1 ((zlt ix).mp q) h1 h2 (ok_t h3) H locs ls hw hS hl) (fun q => k2 (fun z => q ((zlt ix).mpr z)) h1 h2 (ok_t h3) H locs ls hw hS hl)

theorem E.if_ge (C : Cx X G own cc) (hd : decode cc pc = .ok (.ifCond .ge off, 3)) (ht : (pc : Int) + off = (tgt : Int)) (k1 : 0 ≤ x → E X G cells slots n v tgt L S) (k2 : ¬ 0 ≤ x → E X G cells slots n v (pc + 3) L S) : E X G cells slots n v pc L (vi x :: S) := by
  intro h1 h2 h3 H locs ls hw hS hl
  have ix : in32 x := ok_h h3
  exact lv_if_ge C.1 C.2.1 hd ht (fun q => k1 ((zge ix).mp q) h1 h2 (ok_t h3) H locs ls hw hS hl) (fun q => k2 (fun z => q ((zge ix).mpr z)) h1 h2 (ok_t h3) H locs ls hw hS hl)

theorem E.if_gt (C : Cx X G own cc) (hd : decode cc pc = .ok (.ifCond .gt off, 3)) (ht : (pc : Int) + off = (tgt : Int)) (k1 : 0 < x → E X G cells slots n v tgt L S) (k2 : ¬ 0 < x → E X G cells slots n v (pc + 3) L S) : E X G cells slots n v pc L (vi x :: S) := by
  intro h1 h2 h3 H locs ls hw hS hl
  have ix : in32 x := ok_h h3
  exact lv_if_gt C.1 C.2.1 hd ht (fun q => k1 ((zgt ix).mp q) h1 h2 (ok_t h3) H locs ls hw hS hl) (fun q => k2 (fun z => q ((zgt ix).mpr z)) h1 h2 (ok_t h3) H locs ls hw hS hl)

theorem E.if_le (C : Cx X G own cc) (hd : decode cc pc = .ok (.ifCond .le off, 3)) (ht : (pc : Int) + off = (tgt : Int)) (k1 : x ≤ 0 → E X G cells slots n v tgt L S) (k2 : ¬ x ≤ 0 → E X G cells slots n v (pc + 3) L S) : E X G cells slots n v pc L (vi x :: S) := by
  intro h1 h2 h3 H locs ls hw hS hl
  have ix : in32 x := ok_h h3
  exact lv_if_le C.1 C.2.1 hd ht (fun q => k1 ((zle ix).mp q) h1 h2 (ok_t h3) H locs ls hw hS hl) (fun q => k2 (fun z => q ((zle ix).mpr z)) h1 h2 (ok_t h3) H locs ls hw hS hl)

theorem E.icmp_eq (C : Cx X G own cc) (hd : decode cc pc = .ok (.if_icmp .eq off, 3)) (ht : (pc : Int) + off = (tgt : Int)) (k1 : x = y → E X G cells slots n v tgt L S) (k2 : ¬ x = y → E X G cells slots n v (pc + 3) L S) : E X G cells slots n v pc L (vi y :: vi x :: S) := by
  intro h1 h2 h3 H locs ls hw hS hl
  have ix : in32 x := ok_h (ok_t h3)
  have iy : in32 y := ok_h h3
  exact lv_icmp_eq C.1 C.2.1 hd ht (fun q => k1 ((eq32 ix iy).mp q) h1 h2 (ok_t (ok_t h3)) H locs ls hw hS hl) (fun q => k2 (fun z => q ((eq32 ix iy).mpr z)) h1 h2 (ok_t (ok_t h3)) H locs ls hw hS hl)

theorem E.icmp_ne (C : Cx X G own cc) (hd : decode cc pc = .ok (.if_icmp .ne off, 3)) (ht : (pc : Int) + off = (tgt : Int)) (k1 : ¬ x = y → E X G cells slots n v tgt L S) (k2 : x = y → E X G cells slots n v (pc + 3) L S) : E X G cells slots n v pc L (vi y :: vi x :: S) := by
  intro h1 h2 h3 H locs ls hw hS hl
  have ix : in32 x := ok_h (ok_t h3)
  have iy : in32 y := ok_h h3
  exact lv_icmp_ne C.1 C.2.1 hd ht (fun q => k1 (fun z => q ((eq32 ix iy).mpr z)) h1 h2 (ok_t (ok_t h3)) H locs ls hw hS hl) (fun q => k2 ((eq32 ix iy).mp q) h1 h2 (ok_t (ok_t h3)) H locs ls hw hS hl)

theorem E.icmp_lt (C : Cx X G own cc) (hd : decode cc pc = .ok (.if_icmp .lt off, 3)) (ht : (pc : Int) + off = (tgt : Int)) (k1 : x < y → E X G cells slots n v tgt L S) (k2 : ¬ x < y → E X G cells slots n v (pc + 3) L S) : E X G cells slots n v pc L (vi y :: vi x :: S) := by
  intro h1 h2 h3 H locs ls hw hS hl
  have ix : in32 x := ok_h (ok_t h3)
  have iy : in32 y := ok_h h3
  exact lv_icmp_lt C.1 C.2.1 hd ht (fun q => k1 ((lt32 ix iy).mp q) h1 h2 (ok_t (ok_t h3)) H locs ls hw hS hl) (fun q => k2 (fun z => q ((lt32 ix iy).mpr z)) h1 h2 (ok_t (ok_t h3)) H locs ls hw hS hl)

theorem E.icmp_ge (C : Cx X G own cc) (hd : decode cc pc = .ok (.if_icmp .ge off, 3)) (ht : (pc : Int) + off = (tgt : Int)) (k1 : y ≤ x → E X G cells slots n v tgt L S) (k2 : ¬ y ≤ x → E X G cells slots n v (pc + 3) L S) : E X G cells slots n v pc L (vi y :: vi x :: S) := by
  intro h1 h2 h3 H locs ls hw hS hl
  have ix : in32 x := ok_h (ok_t h3)
  have iy : in32 y := ok_h h3
  exact lv_icmp_ge C.1 C.2.1 hd ht (fun q => k1 ((le32 iy ix).mp q) h1 h2 (ok_t (ok_t h3)) H locs ls hw hS hl) (fun q => k2 (fun z => q ((le32 iy ix).mpr z)) h1 h2 (ok_t (ok_t h3)) H locs ls hw hS hl)

theorem E.icmp_gt (C : Cx X G own cc) (hd : decode cc pc = .ok (.if_icmp .gt off, 3)) (ht : (pc : Int) + off = (tgt : Int)) (k1 : y < x → E X G cells slots n v tgt L S) (k2 : ¬ y < x → E X G cells slots n v (pc + 3) L S) : E X G cells slots n v pc L (vi y :: vi x :: S) := by
  intro h1 h2 h3 H locs ls hw hS hl
  have ix : in32 x := ok_h (ok_t h3)
  have iy : in32 y := ok_h h3
  exact lv_icmp_gt C.1 C.2.1 hd ht (fun q => k1 ((lt32 iy ix).mp q) h1 h2 (ok_t (ok_t h3)) H locs ls hw hS hl) (fun q => k2 (fun z => q ((lt32 iy ix).mpr z)) h1 h2 (ok_t (ok_t h3)) H locs ls hw hS hl)

theorem E.icmp_le (C : Cx X G own cc) (hd : decode cc pc = .ok (.if_icmp .le off, 3)) (ht : (pc : Int) + off = (tgt : Int)) (k1 : x ≤ y → E X G cells slots n v tgt L S) (k2 : ¬ x ≤ y → E X G cells slots n v (pc + 3) L S) : E X G cells slots n v pc L (vi y :: vi x :: S) := by
  intro h1 h2 h3 H locs ls hw hS hl
  have ix : in32 x := ok_h (ok_t h3)
  have iy : in32 y := ok_h h3
  exact lv_icmp_le C.1 C.2.1 hd ht (fun q => k1 ((le32 ix iy).mp q) h1 h2 (ok_t (ok_t h3)) H locs ls hw hS hl) (fun q => k2 (fun z => q ((le32 ix iy).mpr z)) h1 h2 (ok_t (ok_t h3)) H locs ls hw hS hl)

theorem E.table (C : Cx X G own cc) {dflt lo hi : Int} {offs : Array Int} {len : Nat} (hd : decode cc pc = .ok (.tableswitch dflt lo hi offs, len)) (tg : Int → Nat)
    (h : ∀ j : Int, lo ≤ j → j ≤ hi → ∃ off, offs[(j - lo).toNat]? = some off ∧ (pc : Int) + off = (tg j : Int)) (ht : (pc : Int) + dflt = (tgt : Int))
    (k1 : lo ≤ x → x ≤ hi → E X G cells slots n v (tg x) L S) (k2 : x < lo ∨ hi < x → E X G cells slots n v tgt L S) : E X G cells slots n v pc L (vi x :: S) := by
  intro h1 h2 h3 H locs ls hw hS hl
  have ix : in32 x := ok_h h3
  by_cases hx : x < lo ∨ hi < x
  · exact lv_tableOut C.1 C.2.1 hd (by rw [o32 ix]; exact hx) ht (k2 hx h1 h2 (ok_t h3) H locs ls hw hS hl)
  · obtain ⟨off, e1, e2⟩ := h x (by omega) (by omega)
    exact lv_tableIn C.1 C.2.1 hd (by rw [o32 ix]; omega) (by rw [o32 ix]; omega) (by rw [o32 ix]; exact e1) e2 (k1 (by omega) (by omega) h1 h2 (ok_t h3) H locs ls hw hS hl)
theorem E.lookup (C : Cx X G own cc) {dflt : Int} {ps : Array (Int × Int)} {len : Nat} (hd : decode cc pc = .ok (.lookupswitch dflt ps, len)) (hp : (ps.toList.zip (ps.toList.drop 1)).all (fun (a, next) => a.1 < next.1) = true) (ho : Op.lookupswitch.offset ps.toList dflt x = off) (ht : (pc : Int) + off = (tgt : Int)) (k : E X G cells slots n v tgt L S) : E X G cells slots n v pc L (vi x :: S) := by
  intro h1 h2 h3 H locs ls hw hS hl
  have ix : in32 x := ok_h h3
  exact lv_lookup C.1 C.2.1 hd hp (by rw [o32 ix]; exact ho) ht (k h1 h2 (ok_t h3) H locs ls hw hS hl)
end INS
