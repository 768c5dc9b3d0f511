-- fields and arrays
section HEAP
variable {X : XT} {G : GT} {own : String} {cc : ByteArray} {cells slots n : Nat} {v : VT} {pc tgt : Nat} {L : List (Option AV)} {S : List AV} {x r i : Int} {index ci k : Nat}
theorem cellE_obj {G : GT} {v : VT} {r : Int} {ci : Nat} (h : kd r = ci) (hc : ci < 10) : cellE G v r = .inr (ci, ofields G ci (v r)) := by
  unfold cellE
  rw [h, if_pos hc]
theorem cellE_arr {G : GT} {v : VT} {r : Int} {t : Nat} (h : kd r = 10 + t) (ht : t < 3) : cellE G v r = .inl (G.2.2.2.1 t, ln r, .inl (fun j => Int32.ofInt (v r (j : Int)))) := by
  unfold cellE acont
  rw [h, if_neg (by omega), show 10 + t - 10 = t by omega, if_pos ht]
theorem cellE_arq {G : GT} {v : VT} {r : Int} {t : Nat} (h : kd r = 10 + t) (ht : 3 ≤ t) : cellE G v r = .inl (G.2.2.2.1 t, ln r, .inr (.inr (.inr (.inr (fun j => rfo G (v r (j : Int))))))) := by
  unfold cellE acont
  rw [h, if_neg (by omega), show 10 + t - 10 = t by omega, if_neg (by omega)]
theorem kd_pos {r : Int} {k : Nat} (h : kd r = k) (hk : k < 99) : 0 < r ∧ r ≤ 137 := kd_bound (by rw [h]; exact hk)
/-- a field, as the tables link it -/
def FA (own : String) (index ci k : Nat) : Prop := ∃ (Cn : String) (T : u_T) (N : Nat), (∀ w ∈ u_ws Cn T N, w ∈ lw_good) ∧ vwCl[ci]? = some (Cn, T, N) ∧ ci < 10 ∧ k < N ∧ k < nfl ci ∧
  (Cond.fieldLink own index (T k).1 (T k).2.1 (T k).2.2.1 ∈ lw_good ∨ ∃ host, Cond.fieldLinkNest own index (T k).1 (T k).2.1 (T k).2.2.1 host ∈ lw_nest)
theorem E.get0 (C : Cx X G own cc) (hF : FA own index ci k) (hd : decode cc pc = .ok (.getfield index, 3)) (hs : kd r = ci) (hr : r ≤ (nc n : Int)) {a : AV} (ha : fldv G (isR ci k) (v r (k : Int)) = conc G a) (hok : inv n v → okv a)
    (kk : E X G cells slots n v (pc + 3) L (a :: S)) : E X G cells slots n v pc L (vr r :: S) := by
  intro h1 h2 h3 H locs ls hw hS hl
  obtain ⟨Cn, T, N, hin, hc, hci, hk, hnk, hlink⟩ := hF
  have hp := kd_pos hs (by omega)
  have hat := wl_at (G := G) (n := nc n) (v := v) hp.1 hr
  rw [cellE_obj hs hci] at hat
  have kk := kk h1 h2 (okc (hok h1) (ok_t h3)) H locs ls hw hS hl
  rcases hlink with hlink | ⟨host, hlink⟩
  · exact va_get C.1 C.2.1 C.2.2.2.2.1 hin C.2.2.2.1 C.2.2.2.2.2.1 hw.2.1 _ hat hc k hk (C.2.2.2.2.1 _ hlink) (fun x h => h) ((ofields_at _ _ _ hnk).trans (congrArg some ha)) hd kk
  · exact va_getN C.1 C.2.1 C.2.2.2.2.1 hin C.2.2.2.1 C.2.2.2.2.2.1 hw.2.1 _ hat hc k hk (va_Nw.use rfl (C.2.2.2.2.2.2.2.2.1 _ hlink)) (fun x h => h) ((ofields_at _ _ _ hnk).trans (congrArg some ha)) hd kk
theorem E.getI (C : Cx X G own cc) (hF : FA own index ci k) (hI : isR ci k = false) (hd : decode cc pc = .ok (.getfield index, 3)) (hs : kd r = ci) (hr : r ≤ (nc n : Int)) (hv : v r (k : Int) = x)
    (kk : E X G cells slots n v (pc + 3) L (vi x :: S)) : E X G cells slots n v pc L (vr r :: S) :=
  E.get0 C hF hd hs hr (a := vi x) (by rw [hI, hv]; rfl) (fun h => by rw [← hv]; exact h.1 _ _) kk
theorem E.getR (C : Cx X G own cc) (hF : FA own index ci k) (hI : isR ci k = true) (hd : decode cc pc = .ok (.getfield index, 3)) (hs : kd r = ci) (hr : r ≤ (nc n : Int)) (hv : v r (k : Int) = x) (hx : 0 < x)
    (kk : E X G cells slots n v (pc + 3) L (vr x :: S)) : E X G cells slots n v pc L (vr r :: S) :=
  E.get0 C hF hd hs hr (a := vr x) (by rw [hI, hv]; show (if x = 0 then Value.null else .ref (adr G x)) = _; rw [if_neg (by omega)]; rfl) (fun _ => trivial) kk
theorem E.rngi (k : inv n v → E X G cells slots n v pc L S) : E X G cells slots n v pc L S := fun h1 h2 h3 => k h1 h1 h2 h3
theorem wld_old {G : GT} {H0 H H1 : Heap} {locs locs1 : List Loc} (hg : G.1 < H0.size) (h : va_S (Afr G) H0 H locs) (h1 : va_S (Afr G) H0 H1 locs1) : ∀ q : Nat, q ≤ G.1 → H1[q]? = H[q]? := fun q hq =>
  (h1.2.1 q (by omega) (by show ¬ G.1 < q; omega)).trans (h.2.1 q (by omega) (by show ¬ G.1 < q; omega)).symm
theorem adr_Afr {G : GT} {r : Int} (h : 0 < r) : Afr G (adr G r) := by
  show G.1 < adr G r
  unfold adr
  rw [if_pos h]
  omega
theorem wld_set {G : GT} {n : Nat} {v : VT} {H H1 : Heap} {H0 : Heap} {locs locs1 : List Loc} {r i x : Int} (h1 : 0 < r) (hr : r ≤ (nc n : Int)) (hw : wld G n v H) (hg : G.1 < H0.size) (hS : va_S (Afr G) H0 H locs) (hS1 : va_S (Afr G) H0 H1 locs1)
    (z : H1.size = H.size) (hat : va_at G.2.2.1 vwCl (adr G r, cellE G (upd2 v r i x) r) H1) (oq : ∀ q : Nat, q ≠ adr G r → H1[q]? = H[q]?) : wld G n (upd2 v r i x) H1 := by
  refine ⟨z.trans hw.1, ?_, fun q hq => (wld_old hg hS hS1 q hq).trans (hw.2.2 q hq)⟩
  have hP := hw.2.1.set wl_D (wl_at (G := G) (n := nc n) (v := v) h1 hr) hat oq
  rwa [wl_set h1 hr] at hP
/-- a field that is written -/
def FP (own : String) (index ci k : Nat) (ty : FieldType) (fin : Bool) : Prop := ∃ (Cn : String) (T : u_T) (N : Nat) (ty0 : Nat → FieldType), (∀ w ∈ u_ws Cn T N, w ∈ lw_good) ∧ vwCl[ci]? = some (Cn, T, N) ∧ ci < 10 ∧ k < N ∧ k < nfl ci ∧
  (Cond.fieldLink own index (T k).1 (T k).2.1 (T k).2.2.1 ∈ lw_good ∨ (fin = false ∧ ∃ host, Cond.fieldLinkNest own index (T k).1 (T k).2.1 (T k).2.2.1 host ∈ lw_nest)) ∧
  (∀ k, k < N → parseFieldDescriptor (T k).2.2.1 = some (ty0 k)) ∧ (∀ a, a < N → ∀ b, b < N → a ≠ b → (T a).2.1 ≠ (T b).2.1) ∧ (T k).2.2.2 = fin ∧ parseFieldDescriptor (T k).2.2.1 = some ty ∧ (fin = true → (T k).1 = own)
theorem E.put0 (C : Cx X G own cc) {ty : FieldType} {fin : Bool} (hF : FP own index ci k ty fin) (hi : fin = true → (xme X).name = "<init>") (hd : decode cc pc = .ok (.putfield index, 3)) (hs : kd r = ci) (hr : r ≤ (nc n : Int)) {a : AV} (ha : conc G a = fldv G (isR ci k) x) (hn : narrow ty (conc G a) = conc G a) (hfit : fits ty (conc G a) = true) (hx : okv a → in32 x) (hnr : n = 1000 → isR ci k = false)
    (kk : E X G cells slots n (upd2 v r (k : Int) x) (pc + 3) L S) : E X G cells slots n v pc L (a :: vr r :: S) := by
  intro h1 h2 h3 H locs ls hw hS hl
  obtain ⟨Cn, T, N, ty0, hin, hc, hci, hk, hnk, hlink, hty, hnm, hfin, hpd, hown⟩ := hF
  have hp := kd_pos hs (by omega)
  have hat := wl_at (G := G) (n := nc n) (v := v) hp.1 hr
  rw [cellE_obj hs hci] at hat
  have hts := C.2.2.2.2.1
  have hK := C.2.2.2.2.2.1
  have hP := hw.2.1
  have hD : va_D (Afr G) (wl G (nc n) v) := wl_D
  have hap := va_apart (own := own) hts hin ty0 hty hnm hK hc
  obtain ⟨r', e1, cell, q1, q2, q3, q4⟩ := hP _ _ hat
  have hr' : r' = (Cn, T, N) := Option.some.inj (e1.symm.trans hc)
  subst hr'
  obtain ⟨hSl, hfc, kC, hkC, hkind⟩ := hK.1 ci _ hc
  obtain ⟨cf, kf, fi, f, hif, hsl⟩ := hSl k hk
  have hlay := hts _ (hin _ (u_in_lay hk))
  unfold u_lay at hlay
  have hst := (u_facts hfc hkC (u_lays hts hin hk) hif).1
  have fin_ : ∀ (H' : Heap) (locs' : List Loc), va_S (Afr G) (xs X).heap H' locs' → H'[adr G r]? = some (cell.setSlot f.slot (conc G a)) → H'.size = H.size → (∀ q : Nat, q ≠ adr G r → H'[q]? = H[q]?) →
      W (xp X) (xl X) (xe X) (xR X) (xs X) (xm X) (xa X) (xb X) (xme X) (xc X) H' locs' cells slots (xQ X) (F0 (xm X) (pc + 3) ls (S.map (conc G))) := by
    intro H' locs' hS' g1 g2 g3
    refine kk (inv_upd h1 (hx (ok_h h3)) (fun q => isref_fld hs hci (hnr q))) h2 (ok_t (ok_t h3)) H' locs' ls (wld_set hp.1 hr hw C.2.2.2.2.2.2.1 hS hS' g2 ?_ g3) hS' hl
    rw [cellE_obj hs hci, ← ofields_set hnk, ← ha]
    rw [hsl] at g1
    exact ⟨_, hc, t_OB.to (V := updV (vp_V (ofields G ci (v r))) k (conc G a)) ⟨_, g1, q2, q3, t_set q4 hap hk _⟩ (fun j _ => vp_updV_set (by rw [ofields_length]; exact hnk) _ j)⟩
  have hslot : f.slot < cell.slots.size := by rw [hsl]; exact k2_hasslot (q4 k hk)
  cases hfb : fin with
  | false =>
    rw [if_neg (by rw [hfin, hfb]; decide)] at hlay
    have h6 := u_store hfc hkC hkind hlay hif hpd hn hfit
    rcases hlink with hlink | ⟨-, host, hlink⟩
    · exact W.putK C.1 C.2.1 (f := f) ⟨C.2.2.2.1, hts _ hlink, ⟨_, _, _, hif⟩, hst⟩ (by rw [q2]; exact h6) q1 q3 hslot rfl rfl hd fun H' g1 g2 g3 => fin_ H' _ (hS.put g2 g3 (adr_Afr hp.1)) g1 g2 g3
    · exact va_WputK C.1 C.2.1 (f := f) C.2.2.2.1 (va_Nw.use rfl (C.2.2.2.2.2.2.2.2.1 _ hlink)) hif hst (by rw [q2]; exact h6) q1 q3 hslot rfl rfl hd fun H' g1 g2 g3 => fin_ H' _ (hS.put g2 g3 (adr_Afr hp.1)) g1 g2 g3
  | true =>
    rw [if_pos (by rw [hfin, hfb])] at hlay
    rcases hlink with hlink | ⟨hz, -⟩
    · have hcf : (xm X).cls = cf := by
        obtain ⟨_, _, c', _, _, _, -, -, hf', -, -, -, hown2, -⟩ := Cond.laysFinal_spec hlay
        have e1 : c' = cf := by have := hif.symm.trans hf'; simp at this; exact this.1.symm
        rw [hown hfb] at hown2
        rw [← e1]; exact Option.some.inj (C.2.2.2.1.symm.trans hown2)
      have h6 := u_fits hfc hkC hkind (Or.inr hlay) hif hpd hn hfit
      exact W.putFinK C.1 C.2.1 C.2.2.2.1 (hts _ hlink) hif hst hcf (hi hfb) (by rw [q2]; exact h6) q1 q3 hslot rfl rfl hd fun H' g1 g2 g3 => fin_ H' _ (hS.put g2 g3 (adr_Afr hp.1)) g1 g2 g3
    · rw [hfb] at hz; cases hz
end HEAP
