-- returns and calls
theorem lw_good_all : GoodIn lw_good lw_good := fun w hw => ⟨hw, good_of_word (List.mem_filter.mp hw).2⟩
section RET
variable {X : XT} {G : GT} {own : String} {cc : ByteArray} {cells slots n : Nat} {v : VT} {pc tgt : Nat} {L : List (Option AV)} {S : List AV} {x r i : Int} {index ci k : Nat} {Φ : PT} {rm : Room}
theorem E.iret (C : Cx X G own cc) (hR : Rt X G Φ rm (some .int)) (hd : decode cc pc = .ok (.ireturn, 1)) (hΦ : inv n v → in32 x → Φ (some (vi x)) n v) : E X G rm.cells rm.slots n v pc L [vi x] := by
  intro h1 h2 h3 H locs ls hw hS hl
  rw [hR.1]
  exact W.iret C.1 C.2.1 hR.2 (fun t ht hW => ⟨⟨some (vi x), n, v, rfl, hΦ h1 (ok_h h3), h1, fun a ha => by cases ha; exact ok_h h3, by rw [ht]; exact hw⟩, hS.F ht⟩) hS.2.2 hd C.2.2.2.2.2.2.2.1
theorem E.zret (C : Cx X G own cc) (hR : Rt X G Φ rm (some .boolean)) (hd : decode cc pc = .ok (.ireturn, 1)) (hx : x = 0 ∨ x = 1) (hΦ : inv n v → Φ (some (vi x)) n v) : E X G rm.cells rm.slots n v pc L [vi x] := by
  intro h1 h2 h3 H locs ls hw hS hl
  rw [hR.1]
  exact W.zret C.1 C.2.1 hR.2 (by rcases hx with rfl | rfl <;> rfl) (fun t ht hW => ⟨⟨some (vi x), n, v, rfl, hΦ h1, h1, fun a ha => by cases ha; exact ok_h h3, by rw [ht]; exact hw⟩, hS.F ht⟩) hS.2.2 hd C.2.2.2.2.2.2.2.1
theorem E.lret (C : Cx X G own cc) (hR : Rt X G Φ rm (some .long)) (hd : decode cc pc = .ok (.lreturn, 1)) (hΦ : inv n v → in64 x → Φ (some (vl x)) n v) : E X G rm.cells rm.slots n v pc L [vl x] := by
  intro h1 h2 h3 H locs ls hw hS hl
  rw [hR.1]
  exact W.lret C.1 C.2.1 hR.2 (fun t ht hW => ⟨⟨some (vl x), n, v, rfl, hΦ h1 (ok_h h3), h1, fun a ha => by cases ha; exact ok_h h3, by rw [ht]; exact hw⟩, hS.F ht⟩) hS.2.2 hd C.2.2.2.2.2.2.2.1
theorem E.vret (C : Cx X G own cc) (hR : Rt X G Φ rm none) (hd : decode cc pc = .ok (.return_, 1)) (hΦ : inv n v → Φ none n v) : E X G rm.cells rm.slots n v pc L [] := by
  intro h1 h2 h3 H locs ls hw hS hl
  rw [hR.1]
  exact W.vret C.1 C.2.1 hR.2 (fun t ht hW => ⟨⟨none, n, v, rfl, hΦ h1, h1, fun a ha => by (cases ha), by rw [ht]; exact hw⟩, hS.F ht⟩) hS.2.2 hd C.2.2.2.2.2.2.2.1
theorem E.widen {cells' slots' : Nat} (h1 : cells ≤ cells') (h2 : slots ≤ slots') (k : E X G cells' slots' n v pc L S) : E X G cells slots n v pc L S := by
  intro q1 q2 q3 H locs ls hw hS hl
  exact W.widen h1 h2 (k q1 q2 q3 H locs ls hw hS hl)
def catA : AV → Nat
  | .inr (.inl _) => 2
  | _ => 1
theorem catA_map {G : GT} (S : List AV) : ((S.map (conc G)).map fun v => v.category).sum = (S.map catA).sum := by
  rw [List.map_map]
  congr 1
  apply List.map_congr_left
  intro a _
  rcases a with a | a | a <;> rfl
theorem E.call0 {H : Heap} {locs : List Loc} {ls : Array Slot} {mc ms : Nat} {as : Array Value} {st : List AV} (hr : va_Run (xp X) (xl X) (xe X) (xR X) (xs X) (xm X) (xa X) (xb X) (xme X) (xc X) H locs cells slots mc ms (F0 (xm X) pc ls (st.map (conc G))) (S.map (conc G)) (QA G Φ as) (Afr G))
    (hw : wld G n v H) (hS : va_S (Afr G) (xs X).heap H locs) (hl : lv_has ls (xn X) (lvl G 0 L)) (h2 : ∀ a, some a ∈ L → okv a) (h3 : ∀ a ∈ S, okv a)
    (kk : ∀ (r : Option AV) (n' : Nat) (v' : VT), Φ r n' v' → E X G (cells + mc) (slots + ms) n' v' (pc + 3) L (r.toList ++ S)) :
    W (xp X) (xl X) (xe X) (xR X) (xs X) (xm X) (xa X) (xb X) (xme X) (xc X) H locs cells slots (xQ X) (F0 (xm X) pc ls (st.map (conc G))) := by
  intro T hT XX
  obtain ⟨rv, st₀, t, T', LL, e0, X', hL, e1, e2, ⟨⟨r, n', v', hv, hΦ, hrng, hok, hw'⟩, hz, hk⟩, st'⟩ := hr T hT XX
  have hv2 : rv = r.map (conc G) := by
    injection hv
  subst hv2
  rw [e0] at hz hk
  have hS' : va_S (Afr G) (xs X).heap T'.heap (locs ++ LL) := by
    refine ⟨Nat.le_trans hS.1 (by rw [e1]; exact hz), fun q h1 h2 => ?_, fun q hq => ?_⟩
    · rw [e1, hk q (Nat.lt_of_lt_of_le h1 hS.1) h2]
      exact hS.2.1 q h1 h2
    · rcases List.mem_append.mp hq with h | h
      · exact hS.2.2 q h
      · exact hL q h
  have h3' : ∀ a ∈ r.toList ++ S, okv a := by
    intro a ha
    rcases List.mem_append.mp ha with h | h
    · cases r with
      | none => cases h
      | some b => 
        rcases List.mem_cons.mp h with h | h
        · subst h; exact hok _ rfl
        · cases h
    · exact h3 a h
  obtain ⟨t2, a1, b1⟩ := kk r n' v' hΦ hrng h2 h3' T'.heap (locs ++ LL) ls (by rw [e1]; exact hw') hS' hl T' rfl X'
  refine ⟨t2, st' t2 ?_, b1⟩
  have e3 : (r.map (conc G)).toList ++ S.map (conc G) = (r.toList ++ S).map (conc G) := by
    cases r <;> simp
  rw [e3]
  exact a1
end RET
