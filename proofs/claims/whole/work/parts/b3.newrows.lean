-- what is made: objects, arrays; references into arrays
theorem nc_lt {n : Nat} (h : n < 138) : nc n = n := if_neg (by omega)
theorem wl_succ {G : GT} {n : Nat} {v : VT} : wl G (n + 1) v = wl G n v ++ [(G.1 + (n + 1), cellE G v ((n + 1 : Nat) : Int))] := by
  simp [wl, List.range_succ]
theorem wld_push {G : GT} {n : Nat} {v : VT} {H H1 : Heap} (hw : wld G n v H) (h137 : n < 137) (z : H1.size = H.size + 1) (old : ∀ q, q < H.size → H1[q]? = H[q]?) (hat : va_at G.2.2.1 vwCl (G.1 + (n + 1), cellE G v ((n + 1 : Nat) : Int)) H1) : wld G (n + 1) v H1 := by
  obtain ⟨h1, h2, h3⟩ := hw
  rw [nc_lt (by omega)] at h1 h2
  refine ⟨?_, ?_, fun q hq => (old q (by omega)).trans (h3 q hq)⟩
  · rw [nc_lt (by omega), z, h1]
    omega
  · rw [nc_lt (by omega), wl_succ]
    refine (h2.kept (fun k q hk => old q.1 (h2 k q hk).lt)).app (fun k q hk => ?_)
    have hz : k < 1 := (List.getElem?_eq_some_iff.mp hk).1
    rw [show k = 0 by omega] at hk
    cases hk
    exact hat
theorem adr_succ {G : GT} {n : Nat} : adr G ((n + 1 : Nat) : Int) = G.1 + n + 1 := by
  unfold adr
  rw [if_pos (by omega), Int.toNat_natCast]
  rfl
theorem wld_size {G : GT} {n : Nat} {v : VT} {H : Heap} (hw : wld G n v H) (h137 : n < 137) : H.size = G.1 + n + 1 := by
  have := hw.1
  rwa [nc_lt (by omega)] at this
section NEWR
variable {X : XT} {G : GT} {own : String} {cc : ByteArray} {cells slots n n' c' s' : Nat} {v : VT} {pc : Nat} {L : List (Option AV)} {S : List AV} {x r i y : Int} {index ci t : Nat}
/-- a class that is made -/
def NW (own : String) (index ci N : Nat) : Prop := ∃ (Cn : String) (T : u_T) (ty : Nat → FieldType), Cond.classLink own index Cn ∈ lw_good ∧ Cond.instantiable Cn N ∈ lw_good ∧ Cond.initialized Cn ∈ lw_good ∧ (∀ w ∈ u_ws Cn T N, w ∈ lw_good) ∧ (∀ k, k < N → parseFieldDescriptor (T k).2.2.1 = some (ty k)) ∧ vwCl[ci]? = some (Cn, T, N) ∧ ci < 10 ∧ nfl ci = N ∧ ∀ j, j < N → defaultValue (ty j) = if isR ci j = true then Value.null else Value.int 0
theorem E.newO {N : Nat} (C : Cx X G own cc) (hNW : NW own index ci N) (hd : decode cc pc = .ok (.new index, 3)) (h137 : n < 137) (hr : r = ((n + 1 : Nat) : Int)) (hn' : n' = n + 1) (hc' : c' = cells + 1) (hs' : s' = slots + N) (hk : kd r = ci) (hz : ∀ j, v r j = 0) (hcells : c' ≤ (xR X).cells) (hslots : s' ≤ (xR X).slots)
    (kk : E X G c' s' n' v (pc + 3) L (vr r :: S)) : E X G cells slots n v pc L S := by
  subst hn' hc' hs' hr
  obtain ⟨Cn, T, ty, hl, hinst, hini, hin, hty, hc, hci, hN, hdef⟩ := hNW
  intro q1 q2 q3 H locs ls hw hS hl2
  have hts := C.2.2.2.2.1
  have hK := C.2.2.2.2.2.1
  have hKn := hK.1 ci _ hc
  have hsz := wld_size hw h137
  refine W.newcK C.1 C.2.1 C.2.2.2.1 (hts _ hl) (hts _ hinst) (hts _ hini) rfl hd hcells hslots hKn.2.1 hsz fun H1 kC hkC e1 z1 o1 => ?_
  have hw1 : wld G (n + 1) v H1 := by
    refine wld_push hw h137 (by rw [z1, hsz]) (fun q hq => o1 q (by omega)) ?_
    rw [cellE_obj hk hci]
    refine ⟨_, hc, (u_born ty hts hin hKn hkC e1 hty).to (fun k hkN => ?_)⟩
    have hof := ofields_at G ci (v ((n + 1 : Nat) : Int)) (k := k) (by rw [hN]; exact hkN)
    show defaultValue (ty k) = (ofields G ci (v ((n + 1 : Nat) : Int))).getD k .null
    rw [List.getD_eq_getElem?_getD, hof, hdef k hkN, hz]
    unfold fldv
    cases isR ci k <;> rfl
  have hS1 : va_S (Afr G) (xs X).heap H1 locs := ⟨by have := hS.1; omega, fun q h1 h2 => (o1 q (by have := hS.1; omega)).trans (hS.2.1 q h1 h2), hS.2.2⟩
  have kk := kk ⟨q1.1, fun h => by omega⟩ q2 (okc trivial q3) H1 locs ls hw1 hS1 hl2
  rw [List.map_cons, show conc G (vr ((n + 1 : Nat) : Int)) = Value.ref (G.1 + n + 1) from congrArg Value.ref adr_succ] at kk
  exact kk
/-- an array of numbers that is made -/
theorem E.newA {atype : ArrayType} {m : Nat} {ty : FieldType} (C : Cx X G own cc) (hty : newarray.typeOf atype = ty) (harr : Cond.arrayClass ty ∈ lw_good) (ht : t < 3) (htt : (tysG G)[t]? = some (G.2.2.2.1 t, ty)) (hRA : ∀ (U : State) (cA : ClassId), va_RA U cA ty → U.vm.findClass ("[" ++ ty.toString) = some cA) (hdv : defaultValue ty = .int 0) (hby : componentBytes ty ≤ 4)
    (hd : decode cc pc = .ok (.newarray atype, 2)) (h137 : n < 137) (hr : r = ((n + 1 : Nat) : Int)) (hn' : n' = n + 1) (hc' : c' = cells + 1) (hs' : s' = slots + m) (hk : kd r = 10 + t) (hln : ln r = m) (hm : x = (m : Int)) (hm2 : m ≤ 1000) (hz : ∀ j, v r j = 0) (hcells : c' ≤ (xR X).cells) (hslots : s' ≤ (xR X).slots)
    (kk : E X G c' s' n' v (pc + 2) L (vr r :: S)) : E X G cells slots n v pc L (vi x :: S) := by
  subst hn' hc' hs' hr hm hty
  intro q1 q2 q3 H locs ls hw hS hl2
  have hts := C.2.2.2.2.1
  have hK := C.2.2.2.2.2.1
  have hsz := wld_size hw h137
  have i32 : in32 (m : Int) := ok_h q3
  have hin := jin_of (i := (m : Int)) (m := m + 1) (by omega) (by omega) i32
  have hcl : (Int32.ofInt (m : Int)).toNatClampNeg = m := by rw [cl32 i32]; omega
  refine va_newaK C.1 C.2.1 (hts _ harr) rfl hd rfl (fun q => hin (Or.inl q)) hcl (Nat.le_trans (Nat.mul_le_mul hm2 hby) (by decide)) hcells hslots hsz fun H1 cA e1 z1 o1 hAr hNm => ?_
  have hcA : cA = G.2.2.2.1 t := Option.some.inj (hNm.symm.trans (hRA _ _ (hK.2 t _ htt).2))
  subst hcA
  have hw1 : wld G (n + 1) v H1 := by
    refine wld_push hw h137 (by rw [z1, hsz]) (fun q hq => o1 q (by omega)) ?_
    rw [cellE_arr hk ht]
    show H1[G.1 + (n + 1)]? = some (arrV (G.2.2.2.1 t) (ln ((n + 1 : Nat) : Int)) (fun j => .int (Int32.ofInt (v ((n + 1 : Nat) : Int) (j : Int)))))
    rw [hln, show (fun j : Nat => Value.int (Int32.ofInt (v ((n + 1 : Nat) : Int) (j : Int)))) = fun _ => defaultValue (newarray.typeOf atype) from funext (fun j => by rw [hz, hdv]; rfl)]
    exact e1
  have hS1 : va_S (Afr G) (xs X).heap H1 locs := ⟨by have := hS.1; omega, fun q h1 h2 => (o1 q (by have := hS.1; omega)).trans (hS.2.1 q h1 h2), hS.2.2⟩
  have kk := kk ⟨q1.1, fun h => by omega⟩ q2 (okc trivial (ok_t q3)) H1 locs ls hw1 hS1 hl2
  rw [List.map_cons, show conc G (vr ((n + 1 : Nat) : Int)) = Value.ref (G.1 + n + 1) from congrArg Value.ref adr_succ] at kk
  exact kk
/-- an array of references that is made -/
theorem E.newQ {m : Nat} {Cn : String} (C : Cx X G own cc) (hl : Cond.classLink own index Cn ∈ lw_good) (hover : va_AO Cn (xs X)) (ht : 3 ≤ t) (htt : (tysG G)[t]? = some (G.2.2.2.1 t, .object Cn))
    (hd : decode cc pc = .ok (.anewarray index, 3)) (h137 : n < 137) (hr : r = ((n + 1 : Nat) : Int)) (hn' : n' = n + 1) (hc' : c' = cells + 1) (hs' : s' = slots + m) (hk : kd r = 10 + t) (hln : ln r = m) (hm : x = (m : Int)) (hm2 : m ≤ 1000) (hz : ∀ j, v r j = 0) (hcells : c' ≤ (xR X).cells) (hslots : s' ≤ (xR X).slots)
    (kk : E X G c' s' n' v (pc + 3) L (vr r :: S)) : E X G cells slots n v pc L (vi x :: S) := by
  subst hn' hc' hs' hr hm
  intro q1 q2 q3 H locs ls hw hS hl2
  have hts := C.2.2.2.2.1
  have hK := C.2.2.2.2.2.1
  have hsz := wld_size hw h137
  have i32 : in32 (m : Int) := ok_h q3
  have hin := jin_of (i := (m : Int)) (m := m + 1) (by omega) (by omega) i32
  have hcl : (Int32.ofInt (m : Int)).toNatClampNeg = m := by rw [cl32 i32]; omega
  refine W.anew C.1 C.2.1 C.2.2.2.1 (hts _ hl) (va_AO.use hover) rfl hd rfl (fun q => hin (Or.inl q)) (by rw [hcl]; omega) hcells (by rw [hcl]; exact hslots) fun cA kA comp f1 f2 f3 f4 => ?_
  obtain ⟨kA2, comp2, -, -, -, g4⟩ := (hK.2 t _ htt).2
  have hcA : cA = G.2.2.2.1 t := Option.some.inj (f1.symm.trans g4)
  subst hcA
  rw [hcl]
  generalize hH1 : H.push ({ cls := G.2.2.2.1 t, slots := Array.replicate m .null, vm := .none } : Cell) = H1
  have z1 : H1.size = H.size + 1 := by rw [← hH1, Array.size_push]
  have e1 : H1[H.size]? = some (arrV (G.2.2.2.1 t) m (fun _ => .null)) := by rw [← hH1, Array.getElem?_push_size, ← arrV_new]
  have o1 : ∀ q : Nat, q < H.size → H1[q]? = H[q]? := fun q hq => by rw [← hH1, Array.getElem?_push, if_neg (Nat.ne_of_lt hq)]
  have hw1 : wld G (n + 1) v H1 := by
    refine wld_push hw h137 z1 o1 ?_
    rw [cellE_arq hk ht]
    show H1[G.1 + (n + 1)]? = some (vp_cell (G.2.2.2.1 t) (ln ((n + 1 : Nat) : Int), .inr (.inr (.inr (.inr (fun j : Nat => rfo G (v ((n + 1 : Nat) : Int) (j : Int))))))))
    rw [vp_cell_q, hln, show (fun j : Nat => va_rf (rfo G (v ((n + 1 : Nat) : Int) (j : Int)))) = fun _ => Value.null from funext (fun j => by rw [hz]; rfl), ← e1, hsz]
    rfl
  have hS1 : va_S (Afr G) (xs X).heap H1 locs := ⟨by have := hS.1; omega, fun q h1 h2 => (o1 q (by have := hS.1; omega)).trans (hS.2.1 q h1 h2), hS.2.2⟩
  have kk := kk ⟨q1.1, fun h => by omega⟩ q2 (okc trivial (ok_t q3)) H1 locs ls hw1 hS1 hl2
  rw [List.map_cons, show conc G (vr ((n + 1 : Nat) : Int)) = Value.ref (G.1 + n + 1) from congrArg Value.ref adr_succ] at kk
  rw [hsz]
  exact kk
/-- a reference that is laid into an array -/
theorem E.aastQ {q0 : vw_C} (C : Cx X G own cc) (ht : 3 ≤ t) (htt : (tysG G)[t]? = some (G.2.2.2.1 t, .object q0.1)) (hc : vwCl[ci]? = some q0) (hci : ci < 10) (hd : decode cc pc = .ok (.aastore, 1)) (hs : kd r = 10 + t) (ht2 : t ≤ 6) (hr : r ≤ (nc n : Int)) (h0 : 0 ≤ i) (h1 : i < (ln r : Int)) (hky : kd y = ci) (hy : y ≤ (nc n : Int)) (hy2 : in32 y) (hnn : n ≠ 1000)
    (kk : E X G cells slots n (upd2 v r i y) (pc + 1) L S) : E X G cells slots n v pc L (vr y :: vi i :: vr r :: S) := by
  intro q1 q2 q3 H locs ls hw hS hl2
  have ii : in32 i := ok_h (ok_t q3)
  have hK := C.2.2.2.2.2.1
  have hp := (kd_pos hs (by omega)).1
  have hpy := (kd_pos hky (by omega)).1
  have hat := wl_at (G := G) (n := nc n) (v := v) hp hr
  rw [cellE_arq hs ht] at hat
  have hat2 := wl_at (G := G) (n := nc n) (v := v) hpy hy
  rw [cellE_obj hky hci] at hat2
  have hin := jin_of h0 h1 ii
  obtain ⟨r', hr', cellV, g1, g2, g3, -⟩ := hw.2.1 _ _ hat2
  have hcls := (hK.1 ci q0 hc).2
  obtain ⟨kA, comp, k1, k2, k3, -⟩ := (hK.2 t _ htt).2
  have hcomp : comp = G.2.2.1.1 ci := Option.some.inj (k3.symm.trans hcls.1)
  subst hcomp
  obtain ⟨kC, hkC, -⟩ := hcls.2
  refine W.aast C.1 C.2.1 (hw.2.1 _ _ hat) (fun q h => by cases h) (fun h => by cases h) k1 k2 rfl hkC (by constructor; exact fun q => hin (Or.inl q); show _ < (arrV _ _ _).slots.size; rw [arrV_size]; exact Nat.not_le.mp fun q => hin (Or.inr q)) g1 (fun q h => by rw [g3] at h; cases h) (by rw [g2]; exact hkC) (by rw [g2]; exact va_assign hcls) rfl rfl hd fun H1 e z oq => ?_
  have hS1 := hS.put (k := (Int32.ofInt i).toNatClampNeg) z oq (adr_Afr hp)
  refine kk ⟨rng_upd q1.1 hy2, fun h => absurd h hnn⟩ q2 (ok_t (ok_t (ok_t q3))) H1 _ ls (wld_set hp hr hw C.2.2.2.2.2.2.1 hS hS1 z ?_ oq) hS1 hl2
  show va_at _ _ _ _
  rw [cellE_arq hs ht]
  show H1[adr G r]? = some (vp_cell _ _)
  rw [e]
  rw [vp_cell_q, vp_cell_q, arrV_store]
  congr 2
  funext q
  rw [cl32 ii]
  by_cases hq : q = i.toNat
  · subst hq
    rw [nat_back h0, upd2_same]
    have : ¬ y = 0 := by omega
    simp [updV, va_rf, rfo, this, conc]
  · rw [upd2_ne _ _ _ _ _ _ (Or.inr (by omega))]
    simp [updV, hq]
/-- all is made -/
theorem E.full (hlay : lay v) (kk : E X G cells slots 1000 v pc L S) : E X G cells slots 137 v pc L S := by
  intro q1 q2 q3 H locs ls hw hS hl2
  refine kk ⟨q1.1, fun _ => hlay⟩ q2 q3 H locs ls ?_ hS hl2
  have e : nc 1000 = nc 137 := rfl
  unfold wld
  rw [e]
  exact hw
end NEWR
