-- the rows as they are used when all cells are there (n = 1000)
def bI (p : Prop) (h : Decidable p) : Int := @ite Int p h 1 0
abbrev R0 (fr lo : Nat) : Room := { frames := fr, cells := 0, slots := 0, locals := lo }
def MN (G : GT) (y : MethodName) (cc : ByteArray) (maxL : Nat) (ret : Option FieldType) (fr lo : Nat) (As : List AV) (v : VT) (post : Option AV → VT → Prop) : Prop :=
  MT G y cc maxL ret (R0 fr lo) As 1000 v (fun r n' v' => n' = 1000 ∧ post r v')
def MNi (G : GT) (y : MethodName) (cc : ByteArray) (maxL : Nat) (ret : Option FieldType) (fr lo : Nat) (As : List AV) (v : VT) (post : Int → VT → Prop) : Prop :=
  MN G y cc maxL ret fr lo As v (fun r v' => ∃ x, r = some (vi x) ∧ post x v')
def MNl (G : GT) (y : MethodName) (cc : ByteArray) (maxL : Nat) (ret : Option FieldType) (fr lo : Nat) (As : List AV) (v : VT) (post : Int → VT → Prop) : Prop :=
  MN G y cc maxL ret fr lo As v (fun r v' => ∃ x, r = some (vl x) ∧ post x v')
def MNv (G : GT) (y : MethodName) (cc : ByteArray) (maxL : Nat) (ret : Option FieldType) (fr lo : Nat) (As : List AV) (v : VT) (post : VT → Prop) : Prop :=
  MN G y cc maxL ret fr lo As v (fun r v' => r = none ∧ post v')
/-- an answer t, nothing changed -/
def MP (G : GT) (y : MethodName) (cc : ByteArray) (maxL : Nat) (ret : Option FieldType) (fr lo : Nat) (As : List AV) (v : VT) (t : Int) : Prop :=
  MNi G y cc maxL ret fr lo As v (fun x v' => x = t ∧ v' = v)
abbrev RtN (X : XT) (G : GT) (fr lo : Nat) (ret : Option FieldType) (post : Option AV → VT → Prop) : Prop := Rt X G (fun r n' v' => n' = 1000 ∧ post r v') (R0 fr lo) ret
section NORM
variable {X : XT} {G : GT} {own : String} {cc bytes : ByteArray} {v : VT} {pc maxL np : Nat} {L : List (Option AV)} {S S0 : List AV} {x r i b : Int} {index ci k : Nat} {y : MethodName} {ret : Option FieldType} {As : List AV} {fr lo fr0 lo0 : Nat}
theorem nle {r : Int} {k : Nat} (h : kd r = k) (hk : k < 99) : r ≤ (nc 1000 : Int) := (kd_pos h hk).2
theorem lt99 {ci k : Nat} (h : FA own index ci k) : ci < 99 := by
  obtain ⟨_, _, _, _, _, h, _⟩ := h
  omega
theorem lt99p {ci k : Nat} {ty : FieldType} {fin : Bool} (h : FP own index ci k ty fin) : ci < 99 := by
  obtain ⟨_, _, _, _, _, _, h, _⟩ := h
  omega
theorem lt10 {ci k : Nat} (h : FA own index ci k) : ci < 10 := by
  obtain ⟨_, _, _, _, _, h, _⟩ := h
  exact h
theorem N.getI (C : Cx X G own cc) (hF : FA own index ci k) (hI : isR ci k = false) (hd : decode cc pc = .ok (.getfield index, 3)) (hs : kd r = ci) (hv : v r (k : Int) = x)
    (kk : E X G 0 0 1000 v (pc + 3) L (vi x :: S)) : E X G 0 0 1000 v pc L (vr r :: S) := E.getI C hF hI hd hs (nle hs (lt99 hF)) hv kk
theorem isref_yes {r : Int} {ci k : Nat} (hs : kd r = ci) (hci : ci < 10) (h : isR ci k = true) : isref r (k : Int) = true := by
  unfold isref
  rw [hs, if_pos hci, Int.toNat_natCast, h]
  simp
theorem N.getR (C : Cx X G own cc) (hF : FA own index ci k) (hI : isR ci k = true) (hd : decode cc pc = .ok (.getfield index, 3)) (hs : kd r = ci) (hv : refval r (k : Int) = x) (hx : 0 < x)
    (kk : E X G 0 0 1000 v (pc + 3) L (vr x :: S)) : E X G 0 0 1000 v pc L (vr r :: S) :=
  E.rngi fun hi => E.getR C hF hI hd hs (nle hs (lt99 hF)) ((hi.2 rfl r (k : Int) (isref_yes hs (lt10 hF) hI)).trans hv) hx kk
theorem N.putI (C : Cx X G own cc) (hF : FP own index ci k .int false) (hI : isR ci k = false) (hd : decode cc pc = .ok (.putfield index, 3)) (hs : kd r = ci)
    (kk : E X G 0 0 1000 (upd2 v r (k : Int) x) (pc + 3) L S) : E X G 0 0 1000 v pc L (vi x :: vr r :: S) := E.putI C hF hI hd hs (nle hs (lt99p hF)) kk
theorem N.putZ (C : Cx X G own cc) (hF : FP own index ci k .boolean false) (hI : isR ci k = false) (hd : decode cc pc = .ok (.putfield index, 3)) (hs : kd r = ci) (hx : x = 0 ∨ x = 1)
    (kk : E X G 0 0 1000 (upd2 v r (k : Int) x) (pc + 3) L S) : E X G 0 0 1000 v pc L (vi x :: vr r :: S) := E.putZ C hF hI hd hs (nle hs (lt99p hF)) hx kk
theorem N.iald {m : Nat} (C : Cx X G own cc) (hd : decode cc pc = .ok (.iaload, 1)) (hs : kd r = 11) (hm : ln r = m) (h0 : 0 ≤ i ∧ i < (m : Int)) (hv : v r i = x)
    (kk : E X G 0 0 1000 v (pc + 1) L (vi x :: S)) : E X G 0 0 1000 v pc L (vi i :: vr r :: S) := E.iald C hd hs (nle hs (by decide)) h0.1 (by rw [hm]; exact h0.2) hv kk
theorem N.bald {m : Nat} (C : Cx X G own cc) (hd : decode cc pc = .ok (.baload, 1)) (hs : kd r = 10) (hm : ln r = m) (h0 : 0 ≤ i ∧ i < (m : Int)) (hv : v r i = x)
    (kk : E X G 0 0 1000 v (pc + 1) L (vi x :: S)) : E X G 0 0 1000 v pc L (vi i :: vr r :: S) := E.bald C hd hs (nle hs (by decide)) h0.1 (by rw [hm]; exact h0.2) hv kk
theorem N.zald {m : Nat} (C : Cx X G own cc) (hd : decode cc pc = .ok (.baload, 1)) (hs : kd r = 12) (hm : ln r = m) (h0 : 0 ≤ i ∧ i < (m : Int)) (hv : v r i = x)
    (kk : E X G 0 0 1000 v (pc + 1) L (vi x :: S)) : E X G 0 0 1000 v pc L (vi i :: vr r :: S) := E.zald C hd hs (nle hs (by decide)) h0.1 (by rw [hm]; exact h0.2) hv kk
theorem N.iast {m : Nat} (C : Cx X G own cc) (hd : decode cc pc = .ok (.iastore, 1)) (hs : kd r = 11) (hm : ln r = m) (h0 : 0 ≤ i ∧ i < (m : Int))
    (kk : E X G 0 0 1000 (upd2 v r i x) (pc + 1) L S) : E X G 0 0 1000 v pc L (vi x :: vi i :: vr r :: S) := E.iast C hd hs (nle hs (by decide)) h0.1 (by rw [hm]; exact h0.2) kk
theorem N.bast {m : Nat} (C : Cx X G own cc) (hd : decode cc pc = .ok (.bastore, 1)) (hs : kd r = 10) (hm : ln r = m) (h0 : 0 ≤ i ∧ i < (m : Int)) (hx : -128 ≤ x ∧ x ≤ 127)
    (kk : E X G 0 0 1000 (upd2 v r i x) (pc + 1) L S) : E X G 0 0 1000 v pc L (vi x :: vi i :: vr r :: S) := E.bast C hd hs (nle hs (by decide)) h0.1 (by rw [hm]; exact h0.2) hx kk
theorem N.zast {m : Nat} (C : Cx X G own cc) (hd : decode cc pc = .ok (.bastore, 1)) (hs : kd r = 12) (hm : ln r = m) (h0 : 0 ≤ i ∧ i < (m : Int)) (hx : x = 0 ∨ x = 1)
    (kk : E X G 0 0 1000 (upd2 v r i x) (pc + 1) L S) : E X G 0 0 1000 v pc L (vi x :: vi i :: vr r :: S) := E.zast C hd hs (nle hs (by decide)) h0.1 (by rw [hm]; exact h0.2) hx kk
theorem isref_arq {r i : Int} {t m : Nat} (hs : kd r = 10 + t) (ht : 3 ≤ t ∧ t ≤ 6) (hm : ln r = m) (h0 : 0 ≤ i ∧ i < (m : Int)) : isref r i = true := by
  unfold isref
  rw [hs, if_neg (by omega), hm]
  simp only [Bool.and_eq_true, decide_eq_true_eq]
  omega
theorem N.aald {m t : Nat} (C : Cx X G own cc) (ht : 3 ≤ t ∧ t ≤ 6) (hd : decode cc pc = .ok (.aaload, 1)) (hs : kd r = 10 + t) (hm : ln r = m) (h0 : 0 ≤ i ∧ i < (m : Int)) (hv : refval r i = x) (hx : 0 < x)
    (kk : E X G 0 0 1000 v (pc + 1) L (vr x :: S)) : E X G 0 0 1000 v pc L (vi i :: vr r :: S) :=
  E.rngi fun hi => E.aald C ht hd hs (nle hs (by omega)) h0.1 (by rw [hm]; exact h0.2) ((hi.2 rfl r i (isref_arq hs ht hm h0)).trans hv) hx kk
-- returns
theorem N.iret {post : Int → VT → Prop} (C : Cx X G own cc) (hR : RtN X G fr lo (some .int) (fun r v' => ∃ x, r = some (vi x) ∧ post x v')) (hd : decode cc pc = .ok (.ireturn, 1)) (hΦ : inv 1000 v → in32 x → post x v) : E X G 0 0 1000 v pc L [vi x] :=
  E.iret (rm := R0 fr lo) C hR hd (fun h1 h2 => ⟨rfl, x, rfl, hΦ h1 h2⟩)
theorem N.zret {post : Int → VT → Prop} (C : Cx X G own cc) (hR : RtN X G fr lo (some .boolean) (fun r v' => ∃ x, r = some (vi x) ∧ post x v')) (hd : decode cc pc = .ok (.ireturn, 1)) (hx : x = 0 ∨ x = 1) (hΦ : inv 1000 v → post x v) : E X G 0 0 1000 v pc L [vi x] :=
  E.zret (rm := R0 fr lo) C hR hd hx (fun h1 => ⟨rfl, x, rfl, hΦ h1⟩)
theorem N.lret {post : Int → VT → Prop} (C : Cx X G own cc) (hR : RtN X G fr lo (some .long) (fun r v' => ∃ x, r = some (vl x) ∧ post x v')) (hd : decode cc pc = .ok (.lreturn, 1)) (hΦ : inv 1000 v → in64 x → post x v) : E X G 0 0 1000 v pc L [vl x] :=
  E.lret (rm := R0 fr lo) C hR hd (fun h1 h2 => ⟨rfl, x, rfl, hΦ h1 h2⟩)
theorem N.vret {post : VT → Prop} (C : Cx X G own cc) (hR : RtN X G fr lo none (fun r v' => r = none ∧ post v')) (hd : decode cc pc = .ok (.return_, 1)) (hΦ : inv 1000 v → post v) : E X G 0 0 1000 v pc L [] :=
  E.vret (rm := R0 fr lo) C hR hd (fun h1 => ⟨rfl, rfl, hΦ h1⟩)
/-- a method from its body -/
theorem MN.of {post : Option AV → VT → Prop} (hy : plainName y.cls = true) (L : List (Option AV)) (k : Nat) (hL : argsl As ++ List.replicate k none = L) (hlen : (argsl As).length + k = maxL)
    (h : ∀ X : XT, Cx X G y.cls cc → xR X = R0 fr lo → xn X = maxL → RtN X G fr lo ret post → E X G 0 0 1000 v 0 L []) : MN G y cc maxL ret fr lo As v post :=
  MT.of hy L k hL hlen (fun X C hX hn hR _ => h X C hX hn hR)
-- calls
theorem E.inv_in (k : (∀ a ∈ S, okv a) → inv 1000 v → E X G 0 0 1000 v pc L S) : E X G 0 0 1000 v pc L S := fun h1 h2 h3 => k h3 h1 h1 h2 h3
theorem N.callV {post : Option AV → VT → Prop} (C : Cx X G own cc) (hX : xR X = R0 fr0 lo0) (hM : MN G y bytes maxL ret fr lo (vr b :: As) v post) (hy : YF y bytes maxL ret np) (hV : Cond.instanceMethod y ∈ lw_good ∧ Cond.selects y.cls y y ∈ lw_good) (hl : ML own index y)
    (hnp : As.length = np) {q : vw_C} (hc : vwCl[ci]? = some q) (hq : q.1 = y.cls) (hs : kd b = ci) (hci : ci < 10) (hR : fr + 1 ≤ fr0 ∧ 8 + (maxL + 11) + lo ≤ lo0)
    (hcat : (S.map catA).sum ≤ 8) (hd : decode cc pc = .ok (.invokevirtual index, 3)) (hst : S0 = As.reverse ++ vr b :: S)
    (kk : ∀ (r : Option AV) (v' : VT), post r v' → E X G 0 0 1000 v' (pc + 3) L (r.toList ++ S)) : E X G 0 0 1000 v pc L S0 :=
  E.callV C hX hM hy hV hl hnp hc hq hs hci (nle hs (by omega)) hR ⟨Nat.le_refl _, Nat.le_refl _⟩ hcat hd hst (fun r n' v' h => by
    obtain ⟨rfl, h⟩ := h
    exact kk r v' h)
theorem N.callS {post : Option AV → VT → Prop} (C : Cx X G own cc) (hX : xR X = R0 fr0 lo0) (hM : MN G y bytes maxL ret fr lo As v post) (hy : YF y bytes maxL ret np) (hV : Cond.static y ∈ lw_good) (hl : ML own index y)
    (hnp : As.length = np) (hR : fr + 1 ≤ fr0 ∧ 8 + (maxL + 11) + lo ≤ lo0)
    (hcat : (S.map catA).sum ≤ 8) (hd : decode cc pc = .ok (.invokestatic index, 3)) (hst : S0 = As.reverse ++ S)
    (kk : ∀ (r : Option AV) (v' : VT), post r v' → E X G 0 0 1000 v' (pc + 3) L (r.toList ++ S)) : E X G 0 0 1000 v pc L S0 :=
  E.callS C hX hM hy hV hl hnp hR ⟨Nat.le_refl _, Nat.le_refl _⟩ hcat hd hst (fun r n' v' h => by
    obtain ⟨rfl, h⟩ := h
    exact kk r v' h)
theorem N.callVp (C : Cx X G own cc) (hX : xR X = R0 fr0 lo0) (hM : MP G y bytes maxL ret fr lo (vr b :: As) v x) (hy : YF y bytes maxL ret np) (hV : Cond.instanceMethod y ∈ lw_good ∧ Cond.selects y.cls y y ∈ lw_good) (hl : ML own index y)
    (hnp : As.length = np) {q : vw_C} (hc : vwCl[ci]? = some q) (hq : q.1 = y.cls) (hs : kd b = ci) (hci : ci < 10) (hR : fr + 1 ≤ fr0 ∧ 8 + (maxL + 11) + lo ≤ lo0)
    (hcat : (S.map catA).sum ≤ 8) (hd : decode cc pc = .ok (.invokevirtual index, 3)) (hst : S0 = As.reverse ++ vr b :: S)
    (kk : E X G 0 0 1000 v (pc + 3) L (vi x :: S)) : E X G 0 0 1000 v pc L S0 :=
  N.callV C hX hM hy hV hl hnp hc hq hs hci hR hcat hd hst (fun r v' h => by
    obtain ⟨z, rfl, rfl, rfl⟩ := h
    exact kk)
theorem N.callVi {post : Int → VT → Prop} (C : Cx X G own cc) (hX : xR X = R0 fr0 lo0) (hM : MNi G y bytes maxL ret fr lo (vr b :: As) v post) (hy : YF y bytes maxL ret np) (hV : Cond.instanceMethod y ∈ lw_good ∧ Cond.selects y.cls y y ∈ lw_good) (hl : ML own index y)
    (hnp : As.length = np) {q : vw_C} (hc : vwCl[ci]? = some q) (hq : q.1 = y.cls) (hs : kd b = ci) (hci : ci < 10) (hR : fr + 1 ≤ fr0 ∧ 8 + (maxL + 11) + lo ≤ lo0)
    (hcat : (S.map catA).sum ≤ 8) (hd : decode cc pc = .ok (.invokevirtual index, 3)) (hst : S0 = As.reverse ++ vr b :: S)
    (kk : ∀ (x : Int) (v' : VT), in32 x → post x v' → E X G 0 0 1000 v' (pc + 3) L (vi x :: S)) : E X G 0 0 1000 v pc L S0 :=
  N.callV C hX hM hy hV hl hnp hc hq hs hci hR hcat hd hst (fun r v' h => by
    obtain ⟨z, rfl, h⟩ := h
    exact E.inv_in (fun hs _ => kk z v' (hs _ List.mem_cons_self) h))
theorem N.callVl {post : Int → VT → Prop} (C : Cx X G own cc) (hX : xR X = R0 fr0 lo0) (hM : MNl G y bytes maxL ret fr lo (vr b :: As) v post) (hy : YF y bytes maxL ret np) (hV : Cond.instanceMethod y ∈ lw_good ∧ Cond.selects y.cls y y ∈ lw_good) (hl : ML own index y)
    (hnp : As.length = np) {q : vw_C} (hc : vwCl[ci]? = some q) (hq : q.1 = y.cls) (hs : kd b = ci) (hci : ci < 10) (hR : fr + 1 ≤ fr0 ∧ 8 + (maxL + 11) + lo ≤ lo0)
    (hcat : (S.map catA).sum ≤ 8) (hd : decode cc pc = .ok (.invokevirtual index, 3)) (hst : S0 = As.reverse ++ vr b :: S)
    (kk : ∀ (x : Int) (v' : VT), in64 x → post x v' → E X G 0 0 1000 v' (pc + 3) L (vl x :: S)) : E X G 0 0 1000 v pc L S0 :=
  N.callV C hX hM hy hV hl hnp hc hq hs hci hR hcat hd hst (fun r v' h => by
    obtain ⟨z, rfl, h⟩ := h
    exact E.inv_in (fun hs _ => kk z v' (hs _ List.mem_cons_self) h))
theorem N.callVv {post : VT → Prop} (C : Cx X G own cc) (hX : xR X = R0 fr0 lo0) (hM : MNv G y bytes maxL ret fr lo (vr b :: As) v post) (hy : YF y bytes maxL ret np) (hV : Cond.instanceMethod y ∈ lw_good ∧ Cond.selects y.cls y y ∈ lw_good) (hl : ML own index y)
    (hnp : As.length = np) {q : vw_C} (hc : vwCl[ci]? = some q) (hq : q.1 = y.cls) (hs : kd b = ci) (hci : ci < 10) (hR : fr + 1 ≤ fr0 ∧ 8 + (maxL + 11) + lo ≤ lo0)
    (hcat : (S.map catA).sum ≤ 8) (hd : decode cc pc = .ok (.invokevirtual index, 3)) (hst : S0 = As.reverse ++ vr b :: S)
    (kk : ∀ (v' : VT), post v' → E X G 0 0 1000 v' (pc + 3) L S) : E X G 0 0 1000 v pc L S0 :=
  N.callV C hX hM hy hV hl hnp hc hq hs hci hR hcat hd hst (fun r v' h => by
    obtain ⟨rfl, h⟩ := h
    exact kk v' h)
theorem N.callSp (C : Cx X G own cc) (hX : xR X = R0 fr0 lo0) (hM : MP G y bytes maxL ret fr lo As v x) (hy : YF y bytes maxL ret np) (hV : Cond.static y ∈ lw_good) (hl : ML own index y)
    (hnp : As.length = np) (hR : fr + 1 ≤ fr0 ∧ 8 + (maxL + 11) + lo ≤ lo0)
    (hcat : (S.map catA).sum ≤ 8) (hd : decode cc pc = .ok (.invokestatic index, 3)) (hst : S0 = As.reverse ++ S)
    (kk : E X G 0 0 1000 v (pc + 3) L (vi x :: S)) : E X G 0 0 1000 v pc L S0 :=
  N.callS C hX hM hy hV hl hnp hR hcat hd hst (fun r v' h => by
    obtain ⟨z, rfl, rfl, rfl⟩ := h
    exact kk)
theorem N.callSi {post : Int → VT → Prop} (C : Cx X G own cc) (hX : xR X = R0 fr0 lo0) (hM : MNi G y bytes maxL ret fr lo As v post) (hy : YF y bytes maxL ret np) (hV : Cond.static y ∈ lw_good) (hl : ML own index y)
    (hnp : As.length = np) (hR : fr + 1 ≤ fr0 ∧ 8 + (maxL + 11) + lo ≤ lo0)
    (hcat : (S.map catA).sum ≤ 8) (hd : decode cc pc = .ok (.invokestatic index, 3)) (hst : S0 = As.reverse ++ S)
    (kk : ∀ (x : Int) (v' : VT), in32 x → post x v' → E X G 0 0 1000 v' (pc + 3) L (vi x :: S)) : E X G 0 0 1000 v pc L S0 :=
  N.callS C hX hM hy hV hl hnp hR hcat hd hst (fun r v' h => by
    obtain ⟨z, rfl, h⟩ := h
    exact E.inv_in (fun hs _ => kk z v' (hs _ List.mem_cons_self) h))
theorem N.callSl {post : Int → VT → Prop} (C : Cx X G own cc) (hX : xR X = R0 fr0 lo0) (hM : MNl G y bytes maxL ret fr lo As v post) (hy : YF y bytes maxL ret np) (hV : Cond.static y ∈ lw_good) (hl : ML own index y)
    (hnp : As.length = np) (hR : fr + 1 ≤ fr0 ∧ 8 + (maxL + 11) + lo ≤ lo0)
    (hcat : (S.map catA).sum ≤ 8) (hd : decode cc pc = .ok (.invokestatic index, 3)) (hst : S0 = As.reverse ++ S)
    (kk : ∀ (x : Int) (v' : VT), in64 x → post x v' → E X G 0 0 1000 v' (pc + 3) L (vl x :: S)) : E X G 0 0 1000 v pc L S0 :=
  N.callS C hX hM hy hV hl hnp hR hcat hd hst (fun r v' h => by
    obtain ⟨z, rfl, h⟩ := h
    exact E.inv_in (fun hs _ => kk z v' (hs _ List.mem_cons_self) h))
theorem N.callSv {post : VT → Prop} (C : Cx X G own cc) (hX : xR X = R0 fr0 lo0) (hM : MNv G y bytes maxL ret fr lo As v post) (hy : YF y bytes maxL ret np) (hV : Cond.static y ∈ lw_good) (hl : ML own index y)
    (hnp : As.length = np) (hR : fr + 1 ≤ fr0 ∧ 8 + (maxL + 11) + lo ≤ lo0)
    (hcat : (S.map catA).sum ≤ 8) (hd : decode cc pc = .ok (.invokestatic index, 3)) (hst : S0 = As.reverse ++ S)
    (kk : ∀ (v' : VT), post v' → E X G 0 0 1000 v' (pc + 3) L S) : E X G 0 0 1000 v pc L S0 :=
  N.callS C hX hM hy hV hl hnp hR hcat hd hst (fun r v' h => by
    obtain ⟨rfl, h⟩ := h
    exact kk v' h)
end NORM

-- the villages
def isV (o : Int) : Prop := o = 4 ∨ o = 27 ∨ o = 65 ∨ o = 88
theorem isV_in {P : Int → Prop} (h : P 4 ∧ P 27 ∧ P 65 ∧ P 88) {o : Int} (ho : isV o) : P o := by
  rcases ho with rfl | rfl | rfl | rfl
  · exact h.1
  · exact h.2.1
  · exact h.2.2.1
  · exact h.2.2.2
theorem kdV {o : Int} (ho : isV o) : kd o = 7 := isV_in (P := fun o => kd o = 7) (by decide +kernel) ho
theorem kdVc {o : Int} (ho : isV o) : kd (o + 1) = 13 := isV_in (P := fun o => kd (o + 1) = 13) (by decide +kernel) ho
theorem kdVt {o : Int} (ho : isV o) : kd (o + 2) = 15 := isV_in (P := fun o => kd (o + 2) = 15) (by decide +kernel) ho
theorem kdVl {o : Int} (ho : isV o) : kd (o + 3) = 11 := isV_in (P := fun o => kd (o + 3) = 11) (by decide +kernel) ho
theorem kdVm {o : Int} (ho : isV o) : kd (o + 4) = 11 := isV_in (P := fun o => kd (o + 4) = 11) (by decide +kernel) ho
theorem lnVc {o : Int} (ho : isV o) : ln (o + 1) = 8 := isV_in (P := fun o => ln (o + 1) = 8) (by decide +kernel) ho
theorem lnVt {o : Int} (ho : isV o) : ln (o + 2) = 10 := isV_in (P := fun o => ln (o + 2) = 10) (by decide +kernel) ho
theorem lnVl {o : Int} (ho : isV o) : ln (o + 3) = 80 := isV_in (P := fun o => ln (o + 3) = 80) (by decide +kernel) ho
theorem lnVm {o : Int} (ho : isV o) : ln (o + 4) = 6 := isV_in (P := fun o => ln (o + 4) = 6) (by decide +kernel) ho
theorem rvV0 {o : Int} (ho : isV o) : refval o 0 = o + 1 := isV_in (P := fun o => refval o 0 = o + 1) (by decide +kernel) ho
theorem rvV1 {o : Int} (ho : isV o) : refval o 1 = o + 2 := isV_in (P := fun o => refval o 1 = o + 2) (by decide +kernel) ho
theorem rvV2 {o : Int} (ho : isV o) : refval o 2 = o + 3 := isV_in (P := fun o => refval o 2 = o + 3) (by decide +kernel) ho
theorem rvV3 {o : Int} (ho : isV o) : refval o 3 = o + 4 := isV_in (P := fun o => refval o 3 = o + 4) (by decide +kernel) ho
theorem posV {o x : Int} (ho : isV o) (h : isV o → 0 < o → 0 < x) : 0 < x := h ho (by unfold isV at ho; omega)
theorem nat8 {P : Int → Prop} (h : P 0 ∧ P 1 ∧ P 2 ∧ P 3 ∧ P 4 ∧ P 5 ∧ P 6 ∧ P 7) {c : Int} (hc : 0 ≤ c ∧ c < 8) : P c := by
  rcases (show c = 0 ∨ c = 1 ∨ c = 2 ∨ c = 3 ∨ c = 4 ∨ c = 5 ∨ c = 6 ∨ c = 7 by omega) with rfl | rfl | rfl | rfl | rfl | rfl | rfl | rfl
  · exact h.1
  · exact h.2.1
  · exact h.2.2.1
  · exact h.2.2.2.1
  · exact h.2.2.2.2.1
  · exact h.2.2.2.2.2.1
  · exact h.2.2.2.2.2.2.1
  · exact h.2.2.2.2.2.2.2
theorem nat10 {P : Int → Prop} (h : (P 0 ∧ P 1 ∧ P 2 ∧ P 3 ∧ P 4 ∧ P 5 ∧ P 6 ∧ P 7) ∧ P 8 ∧ P 9) {c : Int} (hc : 0 ≤ c ∧ c < 10) : P c := by
  by_cases h8 : c < 8
  · exact nat8 h.1 ⟨hc.1, h8⟩
  · rcases (show c = 8 ∨ c = 9 by omega) with rfl | rfl
    · exact h.2.1
    · exact h.2.2
theorem kdVC {o c : Int} (ho : isV o) (hc : 0 ≤ c ∧ c < 8) : kd (o + 5 + c) = 0 := isV_in (P := fun o => kd (o + 5 + c) = 0) ⟨nat8 (P := fun c => kd (4 + 5 + c) = 0) (by decide +kernel) hc, nat8 (P := fun c => kd (27 + 5 + c) = 0) (by decide +kernel) hc, nat8 (P := fun c => kd (65 + 5 + c) = 0) (by decide +kernel) hc, nat8 (P := fun c => kd (88 + 5 + c) = 0) (by decide +kernel) hc⟩ ho
theorem rvVc {o c : Int} (ho : isV o) (hc : 0 ≤ c ∧ c < 8) : refval (o + 1) c = o + 5 + c := isV_in (P := fun o => refval (o + 1) c = o + 5 + c) ⟨nat8 (P := fun c => refval (4 + 1) c = 4 + 5 + c) (by decide +kernel) hc, nat8 (P := fun c => refval (27 + 1) c = 27 + 5 + c) (by decide +kernel) hc, nat8 (P := fun c => refval (65 + 1) c = 65 + 5 + c) (by decide +kernel) hc, nat8 (P := fun c => refval (88 + 1) c = 88 + 5 + c) (by decide +kernel) hc⟩ ho
theorem kdVT {o c : Int} (ho : isV o) (hc : 0 ≤ c ∧ c < 10) : kd (o + 13 + c) = 6 := isV_in (P := fun o => kd (o + 13 + c) = 6) ⟨nat10 (P := fun c => kd (4 + 13 + c) = 6) (by decide +kernel) hc, nat10 (P := fun c => kd (27 + 13 + c) = 6) (by decide +kernel) hc, nat10 (P := fun c => kd (65 + 13 + c) = 6) (by decide +kernel) hc, nat10 (P := fun c => kd (88 + 13 + c) = 6) (by decide +kernel) hc⟩ ho
theorem rvVt {o c : Int} (ho : isV o) (hc : 0 ≤ c ∧ c < 10) : refval (o + 2) c = o + 13 + c := isV_in (P := fun o => refval (o + 2) c = o + 13 + c) ⟨nat10 (P := fun c => refval (4 + 2) c = 4 + 13 + c) (by decide +kernel) hc, nat10 (P := fun c => refval (27 + 2) c = 27 + 13 + c) (by decide +kernel) hc, nat10 (P := fun c => refval (65 + 2) c = 65 + 13 + c) (by decide +kernel) hc, nat10 (P := fun c => refval (88 + 2) c = 88 + 13 + c) (by decide +kernel) hc⟩ ho
theorem posVk {o : Int} (ho : isV o) : 0 < o := by unfold isV at ho; omega
theorem isVi {k : Int} (h : 0 ≤ k ∧ k < 2) : isV (65 + 23 * k) := by unfold isV; omega
theorem rvI {k : Int} (h : 0 ≤ k ∧ k < 2) : refval 51 k = 65 + 23 * k := by
  rcases (show k = 0 ∨ k = 1 by omega) with rfl | rfl <;> decide +kernel
theorem rvSh {k : Int} (h : 0 ≤ k ∧ k < 4) : refval 53 k = 111 + 2 * k := by
  rcases (show k = 0 ∨ k = 1 ∨ k = 2 ∨ k = 3 by omega) with rfl | rfl | rfl | rfl <;> decide +kernel
theorem kdSh {k : Int} (h : 0 ≤ k ∧ k < 4) : kd (111 + 2 * k) = 4 := by
  rcases (show k = 0 ∨ k = 1 ∨ k = 2 ∨ k = 3 by omega) with rfl | rfl | rfl | rfl <;> decide +kernel
theorem isSh {r : Int} (h : kd r = 4) : r = 111 ∨ r = 113 ∨ r = 115 ∨ r = 117 := by
  have hb := kd_pos h (by omega)
  have key : ∀ k : Nat, k < 138 → kd (k : Int) = 4 → k = 111 ∨ k = 113 ∨ k = 115 ∨ k = 117 := by decide +kernel
  have := key r.toNat (by omega) (by rw [Int.toNat_of_nonneg (by omega)]; exact h)
  omega
theorem kdSc {r : Int} (h : kd r = 4) : kd (r + 1) = 11 := by
  rcases isSh h with rfl | rfl | rfl | rfl <;> decide +kernel
theorem lnSc {r : Int} (h : kd r = 4) : ln (r + 1) = 40 := by
  rcases isSh h with rfl | rfl | rfl | rfl <;> decide +kernel
theorem rvS {r : Int} (h : kd r = 4) : refval r 0 = r + 1 := by
  rcases isSh h with rfl | rfl | rfl | rfl <;> decide +kernel
theorem posS {r : Int} (h : kd r = 4) : 0 < r + 1 := by
  have hb := kd_pos h (by omega)
  omega
section NST
variable {X : XT} {G : GT} {own : String} {cc : ByteArray} {v : VT} {pc : Nat} {L : List (Option AV)} {S : List AV} {x y y' : Int} {index fr0 lo0 : Nat}
theorem N.ist_0 {a0 : Option AV} (C : Cx X G own cc) (hd : decode cc pc = .ok (.istore_n 0, 1)) (hn : 0 < xn X) (hg : noLong (a0 :: L) 0 = true) (k : E X G 0 0 1000 v (pc + 1) (some (vi x) :: L) S) : E X G 0 0 1000 v pc (a0 :: L) (vi x :: S) := E.istore_n C hd rfl hn hg k
theorem N.ast_0 {a0 : Option AV} (C : Cx X G own cc) (hd : decode cc pc = .ok (.astore_n 0, 1)) (hn : 0 < xn X) (hg : noLong (a0 :: L) 0 = true) (k : E X G 0 0 1000 v (pc + 1) (some (vr x) :: L) S) : E X G 0 0 1000 v pc (a0 :: L) (vr x :: S) := E.astore_n C hd rfl hn hg k
theorem N.iinc_0 (C : Cx X G own cc) (hd : decode cc pc = .ok (.iinc 0 y, 3)) (hn : 0 < xn X) (hg : noLong (some (vi x) :: L) 0 = true) (hr : in32 (x + y)) (k : E X G 0 0 1000 v (pc + 3) (some (vi (x + y)) :: L) S) : E X G 0 0 1000 v pc (some (vi x) :: L) S := E.iinc C hd rfl hn hg hr k
theorem N.ist_1 {a0 a1 : Option AV} (C : Cx X G own cc) (hd : decode cc pc = .ok (.istore_n 1, 1)) (hn : 1 < xn X) (hg : noLong (a0 :: a1 :: L) 1 = true) (k : E X G 0 0 1000 v (pc + 1) (a0 :: some (vi x) :: L) S) : E X G 0 0 1000 v pc (a0 :: a1 :: L) (vi x :: S) := E.istore_n C hd rfl hn hg k
theorem N.ast_1 {a0 a1 : Option AV} (C : Cx X G own cc) (hd : decode cc pc = .ok (.astore_n 1, 1)) (hn : 1 < xn X) (hg : noLong (a0 :: a1 :: L) 1 = true) (k : E X G 0 0 1000 v (pc + 1) (a0 :: some (vr x) :: L) S) : E X G 0 0 1000 v pc (a0 :: a1 :: L) (vr x :: S) := E.astore_n C hd rfl hn hg k
theorem N.iinc_1 {a0 : Option AV} (C : Cx X G own cc) (hd : decode cc pc = .ok (.iinc 1 y, 3)) (hn : 1 < xn X) (hg : noLong (a0 :: some (vi x) :: L) 1 = true) (hr : in32 (x + y)) (k : E X G 0 0 1000 v (pc + 3) (a0 :: some (vi (x + y)) :: L) S) : E X G 0 0 1000 v pc (a0 :: some (vi x) :: L) S := E.iinc C hd rfl hn hg hr k
theorem N.ist_2 {a0 a1 a2 : Option AV} (C : Cx X G own cc) (hd : decode cc pc = .ok (.istore_n 2, 1)) (hn : 2 < xn X) (hg : noLong (a0 :: a1 :: a2 :: L) 2 = true) (k : E X G 0 0 1000 v (pc + 1) (a0 :: a1 :: some (vi x) :: L) S) : E X G 0 0 1000 v pc (a0 :: a1 :: a2 :: L) (vi x :: S) := E.istore_n C hd rfl hn hg k
theorem N.ast_2 {a0 a1 a2 : Option AV} (C : Cx X G own cc) (hd : decode cc pc = .ok (.astore_n 2, 1)) (hn : 2 < xn X) (hg : noLong (a0 :: a1 :: a2 :: L) 2 = true) (k : E X G 0 0 1000 v (pc + 1) (a0 :: a1 :: some (vr x) :: L) S) : E X G 0 0 1000 v pc (a0 :: a1 :: a2 :: L) (vr x :: S) := E.astore_n C hd rfl hn hg k
theorem N.iinc_2 {a0 a1 : Option AV} (C : Cx X G own cc) (hd : decode cc pc = .ok (.iinc 2 y, 3)) (hn : 2 < xn X) (hg : noLong (a0 :: a1 :: some (vi x) :: L) 2 = true) (hr : in32 (x + y)) (k : E X G 0 0 1000 v (pc + 3) (a0 :: a1 :: some (vi (x + y)) :: L) S) : E X G 0 0 1000 v pc (a0 :: a1 :: some (vi x) :: L) S := E.iinc C hd rfl hn hg hr k
theorem N.ist_3 {a0 a1 a2 a3 : Option AV} (C : Cx X G own cc) (hd : decode cc pc = .ok (.istore_n 3, 1)) (hn : 3 < xn X) (hg : noLong (a0 :: a1 :: a2 :: a3 :: L) 3 = true) (k : E X G 0 0 1000 v (pc + 1) (a0 :: a1 :: a2 :: some (vi x) :: L) S) : E X G 0 0 1000 v pc (a0 :: a1 :: a2 :: a3 :: L) (vi x :: S) := E.istore_n C hd rfl hn hg k
theorem N.ast_3 {a0 a1 a2 a3 : Option AV} (C : Cx X G own cc) (hd : decode cc pc = .ok (.astore_n 3, 1)) (hn : 3 < xn X) (hg : noLong (a0 :: a1 :: a2 :: a3 :: L) 3 = true) (k : E X G 0 0 1000 v (pc + 1) (a0 :: a1 :: a2 :: some (vr x) :: L) S) : E X G 0 0 1000 v pc (a0 :: a1 :: a2 :: a3 :: L) (vr x :: S) := E.astore_n C hd rfl hn hg k
theorem N.iinc_3 {a0 a1 a2 : Option AV} (C : Cx X G own cc) (hd : decode cc pc = .ok (.iinc 3 y, 3)) (hn : 3 < xn X) (hg : noLong (a0 :: a1 :: a2 :: some (vi x) :: L) 3 = true) (hr : in32 (x + y)) (k : E X G 0 0 1000 v (pc + 3) (a0 :: a1 :: a2 :: some (vi (x + y)) :: L) S) : E X G 0 0 1000 v pc (a0 :: a1 :: a2 :: some (vi x) :: L) S := E.iinc C hd rfl hn hg hr k
theorem N.ist_4 {a0 a1 a2 a3 a4 : Option AV} (C : Cx X G own cc) (hd : decode cc pc = .ok (.istore 4, 2)) (hn : 4 < xn X) (hg : noLong (a0 :: a1 :: a2 :: a3 :: a4 :: L) 4 = true) (k : E X G 0 0 1000 v (pc + 2) (a0 :: a1 :: a2 :: a3 :: some (vi x) :: L) S) : E X G 0 0 1000 v pc (a0 :: a1 :: a2 :: a3 :: a4 :: L) (vi x :: S) := E.istore C hd hn hg k
theorem N.ast_4 {a0 a1 a2 a3 a4 : Option AV} (C : Cx X G own cc) (hd : decode cc pc = .ok (.astore 4, 2)) (hn : 4 < xn X) (hg : noLong (a0 :: a1 :: a2 :: a3 :: a4 :: L) 4 = true) (k : E X G 0 0 1000 v (pc + 2) (a0 :: a1 :: a2 :: a3 :: some (vr x) :: L) S) : E X G 0 0 1000 v pc (a0 :: a1 :: a2 :: a3 :: a4 :: L) (vr x :: S) := E.astore C hd hn hg k
theorem N.iinc_4 {a0 a1 a2 a3 : Option AV} (C : Cx X G own cc) (hd : decode cc pc = .ok (.iinc 4 y, 3)) (hn : 4 < xn X) (hg : noLong (a0 :: a1 :: a2 :: a3 :: some (vi x) :: L) 4 = true) (hr : in32 (x + y)) (k : E X G 0 0 1000 v (pc + 3) (a0 :: a1 :: a2 :: a3 :: some (vi (x + y)) :: L) S) : E X G 0 0 1000 v pc (a0 :: a1 :: a2 :: a3 :: some (vi x) :: L) S := E.iinc C hd rfl hn hg hr k
theorem N.ist_5 {a0 a1 a2 a3 a4 a5 : Option AV} (C : Cx X G own cc) (hd : decode cc pc = .ok (.istore 5, 2)) (hn : 5 < xn X) (hg : noLong (a0 :: a1 :: a2 :: a3 :: a4 :: a5 :: L) 5 = true) (k : E X G 0 0 1000 v (pc + 2) (a0 :: a1 :: a2 :: a3 :: a4 :: some (vi x) :: L) S) : E X G 0 0 1000 v pc (a0 :: a1 :: a2 :: a3 :: a4 :: a5 :: L) (vi x :: S) := E.istore C hd hn hg k
theorem N.ast_5 {a0 a1 a2 a3 a4 a5 : Option AV} (C : Cx X G own cc) (hd : decode cc pc = .ok (.astore 5, 2)) (hn : 5 < xn X) (hg : noLong (a0 :: a1 :: a2 :: a3 :: a4 :: a5 :: L) 5 = true) (k : E X G 0 0 1000 v (pc + 2) (a0 :: a1 :: a2 :: a3 :: a4 :: some (vr x) :: L) S) : E X G 0 0 1000 v pc (a0 :: a1 :: a2 :: a3 :: a4 :: a5 :: L) (vr x :: S) := E.astore C hd hn hg k
theorem N.iinc_5 {a0 a1 a2 a3 a4 : Option AV} (C : Cx X G own cc) (hd : decode cc pc = .ok (.iinc 5 y, 3)) (hn : 5 < xn X) (hg : noLong (a0 :: a1 :: a2 :: a3 :: a4 :: some (vi x) :: L) 5 = true) (hr : in32 (x + y)) (k : E X G 0 0 1000 v (pc + 3) (a0 :: a1 :: a2 :: a3 :: a4 :: some (vi (x + y)) :: L) S) : E X G 0 0 1000 v pc (a0 :: a1 :: a2 :: a3 :: a4 :: some (vi x) :: L) S := E.iinc C hd rfl hn hg hr k
theorem N.ist_6 {a0 a1 a2 a3 a4 a5 a6 : Option AV} (C : Cx X G own cc) (hd : decode cc pc = .ok (.istore 6, 2)) (hn : 6 < xn X) (hg : noLong (a0 :: a1 :: a2 :: a3 :: a4 :: a5 :: a6 :: L) 6 = true) (k : E X G 0 0 1000 v (pc + 2) (a0 :: a1 :: a2 :: a3 :: a4 :: a5 :: some (vi x) :: L) S) : E X G 0 0 1000 v pc (a0 :: a1 :: a2 :: a3 :: a4 :: a5 :: a6 :: L) (vi x :: S) := E.istore C hd hn hg k
theorem N.ast_6 {a0 a1 a2 a3 a4 a5 a6 : Option AV} (C : Cx X G own cc) (hd : decode cc pc = .ok (.astore 6, 2)) (hn : 6 < xn X) (hg : noLong (a0 :: a1 :: a2 :: a3 :: a4 :: a5 :: a6 :: L) 6 = true) (k : E X G 0 0 1000 v (pc + 2) (a0 :: a1 :: a2 :: a3 :: a4 :: a5 :: some (vr x) :: L) S) : E X G 0 0 1000 v pc (a0 :: a1 :: a2 :: a3 :: a4 :: a5 :: a6 :: L) (vr x :: S) := E.astore C hd hn hg k
theorem N.iinc_6 {a0 a1 a2 a3 a4 a5 : Option AV} (C : Cx X G own cc) (hd : decode cc pc = .ok (.iinc 6 y, 3)) (hn : 6 < xn X) (hg : noLong (a0 :: a1 :: a2 :: a3 :: a4 :: a5 :: some (vi x) :: L) 6 = true) (hr : in32 (x + y)) (k : E X G 0 0 1000 v (pc + 3) (a0 :: a1 :: a2 :: a3 :: a4 :: a5 :: some (vi (x + y)) :: L) S) : E X G 0 0 1000 v pc (a0 :: a1 :: a2 :: a3 :: a4 :: a5 :: some (vi x) :: L) S := E.iinc C hd rfl hn hg hr k
theorem N.ist_7 {a0 a1 a2 a3 a4 a5 a6 a7 : Option AV} (C : Cx X G own cc) (hd : decode cc pc = .ok (.istore 7, 2)) (hn : 7 < xn X) (hg : noLong (a0 :: a1 :: a2 :: a3 :: a4 :: a5 :: a6 :: a7 :: L) 7 = true) (k : E X G 0 0 1000 v (pc + 2) (a0 :: a1 :: a2 :: a3 :: a4 :: a5 :: a6 :: some (vi x) :: L) S) : E X G 0 0 1000 v pc (a0 :: a1 :: a2 :: a3 :: a4 :: a5 :: a6 :: a7 :: L) (vi x :: S) := E.istore C hd hn hg k
theorem N.ast_7 {a0 a1 a2 a3 a4 a5 a6 a7 : Option AV} (C : Cx X G own cc) (hd : decode cc pc = .ok (.astore 7, 2)) (hn : 7 < xn X) (hg : noLong (a0 :: a1 :: a2 :: a3 :: a4 :: a5 :: a6 :: a7 :: L) 7 = true) (k : E X G 0 0 1000 v (pc + 2) (a0 :: a1 :: a2 :: a3 :: a4 :: a5 :: a6 :: some (vr x) :: L) S) : E X G 0 0 1000 v pc (a0 :: a1 :: a2 :: a3 :: a4 :: a5 :: a6 :: a7 :: L) (vr x :: S) := E.astore C hd hn hg k
theorem N.iinc_7 {a0 a1 a2 a3 a4 a5 a6 : Option AV} (C : Cx X G own cc) (hd : decode cc pc = .ok (.iinc 7 y, 3)) (hn : 7 < xn X) (hg : noLong (a0 :: a1 :: a2 :: a3 :: a4 :: a5 :: a6 :: some (vi x) :: L) 7 = true) (hr : in32 (x + y)) (k : E X G 0 0 1000 v (pc + 3) (a0 :: a1 :: a2 :: a3 :: a4 :: a5 :: a6 :: some (vi (x + y)) :: L) S) : E X G 0 0 1000 v pc (a0 :: a1 :: a2 :: a3 :: a4 :: a5 :: a6 :: some (vi x) :: L) S := E.iinc C hd rfl hn hg hr k
theorem N.ist_8 {a0 a1 a2 a3 a4 a5 a6 a7 a8 : Option AV} (C : Cx X G own cc) (hd : decode cc pc = .ok (.istore 8, 2)) (hn : 8 < xn X) (hg : noLong (a0 :: a1 :: a2 :: a3 :: a4 :: a5 :: a6 :: a7 :: a8 :: L) 8 = true) (k : E X G 0 0 1000 v (pc + 2) (a0 :: a1 :: a2 :: a3 :: a4 :: a5 :: a6 :: a7 :: some (vi x) :: L) S) : E X G 0 0 1000 v pc (a0 :: a1 :: a2 :: a3 :: a4 :: a5 :: a6 :: a7 :: a8 :: L) (vi x :: S) := E.istore C hd hn hg k
theorem N.ast_8 {a0 a1 a2 a3 a4 a5 a6 a7 a8 : Option AV} (C : Cx X G own cc) (hd : decode cc pc = .ok (.astore 8, 2)) (hn : 8 < xn X) (hg : noLong (a0 :: a1 :: a2 :: a3 :: a4 :: a5 :: a6 :: a7 :: a8 :: L) 8 = true) (k : E X G 0 0 1000 v (pc + 2) (a0 :: a1 :: a2 :: a3 :: a4 :: a5 :: a6 :: a7 :: some (vr x) :: L) S) : E X G 0 0 1000 v pc (a0 :: a1 :: a2 :: a3 :: a4 :: a5 :: a6 :: a7 :: a8 :: L) (vr x :: S) := E.astore C hd hn hg k
theorem N.iinc_8 {a0 a1 a2 a3 a4 a5 a6 a7 : Option AV} (C : Cx X G own cc) (hd : decode cc pc = .ok (.iinc 8 y, 3)) (hn : 8 < xn X) (hg : noLong (a0 :: a1 :: a2 :: a3 :: a4 :: a5 :: a6 :: a7 :: some (vi x) :: L) 8 = true) (hr : in32 (x + y)) (k : E X G 0 0 1000 v (pc + 3) (a0 :: a1 :: a2 :: a3 :: a4 :: a5 :: a6 :: a7 :: some (vi (x + y)) :: L) S) : E X G 0 0 1000 v pc (a0 :: a1 :: a2 :: a3 :: a4 :: a5 :: a6 :: a7 :: some (vi x) :: L) S := E.iinc C hd rfl hn hg hr k
theorem N.ist_9 {a0 a1 a2 a3 a4 a5 a6 a7 a8 a9 : Option AV} (C : Cx X G own cc) (hd : decode cc pc = .ok (.istore 9, 2)) (hn : 9 < xn X) (hg : noLong (a0 :: a1 :: a2 :: a3 :: a4 :: a5 :: a6 :: a7 :: a8 :: a9 :: L) 9 = true) (k : E X G 0 0 1000 v (pc + 2) (a0 :: a1 :: a2 :: a3 :: a4 :: a5 :: a6 :: a7 :: a8 :: some (vi x) :: L) S) : E X G 0 0 1000 v pc (a0 :: a1 :: a2 :: a3 :: a4 :: a5 :: a6 :: a7 :: a8 :: a9 :: L) (vi x :: S) := E.istore C hd hn hg k
theorem N.ast_9 {a0 a1 a2 a3 a4 a5 a6 a7 a8 a9 : Option AV} (C : Cx X G own cc) (hd : decode cc pc = .ok (.astore 9, 2)) (hn : 9 < xn X) (hg : noLong (a0 :: a1 :: a2 :: a3 :: a4 :: a5 :: a6 :: a7 :: a8 :: a9 :: L) 9 = true) (k : E X G 0 0 1000 v (pc + 2) (a0 :: a1 :: a2 :: a3 :: a4 :: a5 :: a6 :: a7 :: a8 :: some (vr x) :: L) S) : E X G 0 0 1000 v pc (a0 :: a1 :: a2 :: a3 :: a4 :: a5 :: a6 :: a7 :: a8 :: a9 :: L) (vr x :: S) := E.astore C hd hn hg k
theorem N.iinc_9 {a0 a1 a2 a3 a4 a5 a6 a7 a8 : Option AV} (C : Cx X G own cc) (hd : decode cc pc = .ok (.iinc 9 y, 3)) (hn : 9 < xn X) (hg : noLong (a0 :: a1 :: a2 :: a3 :: a4 :: a5 :: a6 :: a7 :: a8 :: some (vi x) :: L) 9 = true) (hr : in32 (x + y)) (k : E X G 0 0 1000 v (pc + 3) (a0 :: a1 :: a2 :: a3 :: a4 :: a5 :: a6 :: a7 :: a8 :: some (vi (x + y)) :: L) S) : E X G 0 0 1000 v pc (a0 :: a1 :: a2 :: a3 :: a4 :: a5 :: a6 :: a7 :: a8 :: some (vi x) :: L) S := E.iinc C hd rfl hn hg hr k
theorem N.ist_10 {a0 a1 a2 a3 a4 a5 a6 a7 a8 a9 a10 : Option AV} (C : Cx X G own cc) (hd : decode cc pc = .ok (.istore 10, 2)) (hn : 10 < xn X) (hg : noLong (a0 :: a1 :: a2 :: a3 :: a4 :: a5 :: a6 :: a7 :: a8 :: a9 :: a10 :: L) 10 = true) (k : E X G 0 0 1000 v (pc + 2) (a0 :: a1 :: a2 :: a3 :: a4 :: a5 :: a6 :: a7 :: a8 :: a9 :: some (vi x) :: L) S) : E X G 0 0 1000 v pc (a0 :: a1 :: a2 :: a3 :: a4 :: a5 :: a6 :: a7 :: a8 :: a9 :: a10 :: L) (vi x :: S) := E.istore C hd hn hg k
theorem N.ast_10 {a0 a1 a2 a3 a4 a5 a6 a7 a8 a9 a10 : Option AV} (C : Cx X G own cc) (hd : decode cc pc = .ok (.astore 10, 2)) (hn : 10 < xn X) (hg : noLong (a0 :: a1 :: a2 :: a3 :: a4 :: a5 :: a6 :: a7 :: a8 :: a9 :: a10 :: L) 10 = true) (k : E X G 0 0 1000 v (pc + 2) (a0 :: a1 :: a2 :: a3 :: a4 :: a5 :: a6 :: a7 :: a8 :: a9 :: some (vr x) :: L) S) : E X G 0 0 1000 v pc (a0 :: a1 :: a2 :: a3 :: a4 :: a5 :: a6 :: a7 :: a8 :: a9 :: a10 :: L) (vr x :: S) := E.astore C hd hn hg k
theorem N.iinc_10 {a0 a1 a2 a3 a4 a5 a6 a7 a8 a9 : Option AV} (C : Cx X G own cc) (hd : decode cc pc = .ok (.iinc 10 y, 3)) (hn : 10 < xn X) (hg : noLong (a0 :: a1 :: a2 :: a3 :: a4 :: a5 :: a6 :: a7 :: a8 :: a9 :: some (vi x) :: L) 10 = true) (hr : in32 (x + y)) (k : E X G 0 0 1000 v (pc + 3) (a0 :: a1 :: a2 :: a3 :: a4 :: a5 :: a6 :: a7 :: a8 :: a9 :: some (vi (x + y)) :: L) S) : E X G 0 0 1000 v pc (a0 :: a1 :: a2 :: a3 :: a4 :: a5 :: a6 :: a7 :: a8 :: a9 :: some (vi x) :: L) S := E.iinc C hd rfl hn hg hr k
theorem N.ist_11 {a0 a1 a2 a3 a4 a5 a6 a7 a8 a9 a10 a11 : Option AV} (C : Cx X G own cc) (hd : decode cc pc = .ok (.istore 11, 2)) (hn : 11 < xn X) (hg : noLong (a0 :: a1 :: a2 :: a3 :: a4 :: a5 :: a6 :: a7 :: a8 :: a9 :: a10 :: a11 :: L) 11 = true) (k : E X G 0 0 1000 v (pc + 2) (a0 :: a1 :: a2 :: a3 :: a4 :: a5 :: a6 :: a7 :: a8 :: a9 :: a10 :: some (vi x) :: L) S) : E X G 0 0 1000 v pc (a0 :: a1 :: a2 :: a3 :: a4 :: a5 :: a6 :: a7 :: a8 :: a9 :: a10 :: a11 :: L) (vi x :: S) := E.istore C hd hn hg k
theorem N.ast_11 {a0 a1 a2 a3 a4 a5 a6 a7 a8 a9 a10 a11 : Option AV} (C : Cx X G own cc) (hd : decode cc pc = .ok (.astore 11, 2)) (hn : 11 < xn X) (hg : noLong (a0 :: a1 :: a2 :: a3 :: a4 :: a5 :: a6 :: a7 :: a8 :: a9 :: a10 :: a11 :: L) 11 = true) (k : E X G 0 0 1000 v (pc + 2) (a0 :: a1 :: a2 :: a3 :: a4 :: a5 :: a6 :: a7 :: a8 :: a9 :: a10 :: some (vr x) :: L) S) : E X G 0 0 1000 v pc (a0 :: a1 :: a2 :: a3 :: a4 :: a5 :: a6 :: a7 :: a8 :: a9 :: a10 :: a11 :: L) (vr x :: S) := E.astore C hd hn hg k
theorem N.iinc_11 {a0 a1 a2 a3 a4 a5 a6 a7 a8 a9 a10 : Option AV} (C : Cx X G own cc) (hd : decode cc pc = .ok (.iinc 11 y, 3)) (hn : 11 < xn X) (hg : noLong (a0 :: a1 :: a2 :: a3 :: a4 :: a5 :: a6 :: a7 :: a8 :: a9 :: a10 :: some (vi x) :: L) 11 = true) (hr : in32 (x + y)) (k : E X G 0 0 1000 v (pc + 3) (a0 :: a1 :: a2 :: a3 :: a4 :: a5 :: a6 :: a7 :: a8 :: a9 :: a10 :: some (vi (x + y)) :: L) S) : E X G 0 0 1000 v pc (a0 :: a1 :: a2 :: a3 :: a4 :: a5 :: a6 :: a7 :: a8 :: a9 :: a10 :: some (vi x) :: L) S := E.iinc C hd rfl hn hg hr k
theorem N.ist_12 {a0 a1 a2 a3 a4 a5 a6 a7 a8 a9 a10 a11 a12 : Option AV} (C : Cx X G own cc) (hd : decode cc pc = .ok (.istore 12, 2)) (hn : 12 < xn X) (hg : noLong (a0 :: a1 :: a2 :: a3 :: a4 :: a5 :: a6 :: a7 :: a8 :: a9 :: a10 :: a11 :: a12 :: L) 12 = true) (k : E X G 0 0 1000 v (pc + 2) (a0 :: a1 :: a2 :: a3 :: a4 :: a5 :: a6 :: a7 :: a8 :: a9 :: a10 :: a11 :: some (vi x) :: L) S) : E X G 0 0 1000 v pc (a0 :: a1 :: a2 :: a3 :: a4 :: a5 :: a6 :: a7 :: a8 :: a9 :: a10 :: a11 :: a12 :: L) (vi x :: S) := E.istore C hd hn hg k
theorem N.ast_12 {a0 a1 a2 a3 a4 a5 a6 a7 a8 a9 a10 a11 a12 : Option AV} (C : Cx X G own cc) (hd : decode cc pc = .ok (.astore 12, 2)) (hn : 12 < xn X) (hg : noLong (a0 :: a1 :: a2 :: a3 :: a4 :: a5 :: a6 :: a7 :: a8 :: a9 :: a10 :: a11 :: a12 :: L) 12 = true) (k : E X G 0 0 1000 v (pc + 2) (a0 :: a1 :: a2 :: a3 :: a4 :: a5 :: a6 :: a7 :: a8 :: a9 :: a10 :: a11 :: some (vr x) :: L) S) : E X G 0 0 1000 v pc (a0 :: a1 :: a2 :: a3 :: a4 :: a5 :: a6 :: a7 :: a8 :: a9 :: a10 :: a11 :: a12 :: L) (vr x :: S) := E.astore C hd hn hg k
theorem N.iinc_12 {a0 a1 a2 a3 a4 a5 a6 a7 a8 a9 a10 a11 : Option AV} (C : Cx X G own cc) (hd : decode cc pc = .ok (.iinc 12 y, 3)) (hn : 12 < xn X) (hg : noLong (a0 :: a1 :: a2 :: a3 :: a4 :: a5 :: a6 :: a7 :: a8 :: a9 :: a10 :: a11 :: some (vi x) :: L) 12 = true) (hr : in32 (x + y)) (k : E X G 0 0 1000 v (pc + 3) (a0 :: a1 :: a2 :: a3 :: a4 :: a5 :: a6 :: a7 :: a8 :: a9 :: a10 :: a11 :: some (vi (x + y)) :: L) S) : E X G 0 0 1000 v pc (a0 :: a1 :: a2 :: a3 :: a4 :: a5 :: a6 :: a7 :: a8 :: a9 :: a10 :: a11 :: some (vi x) :: L) S := E.iinc C hd rfl hn hg hr k
theorem N.ist_13 {a0 a1 a2 a3 a4 a5 a6 a7 a8 a9 a10 a11 a12 a13 : Option AV} (C : Cx X G own cc) (hd : decode cc pc = .ok (.istore 13, 2)) (hn : 13 < xn X) (hg : noLong (a0 :: a1 :: a2 :: a3 :: a4 :: a5 :: a6 :: a7 :: a8 :: a9 :: a10 :: a11 :: a12 :: a13 :: L) 13 = true) (k : E X G 0 0 1000 v (pc + 2) (a0 :: a1 :: a2 :: a3 :: a4 :: a5 :: a6 :: a7 :: a8 :: a9 :: a10 :: a11 :: a12 :: some (vi x) :: L) S) : E X G 0 0 1000 v pc (a0 :: a1 :: a2 :: a3 :: a4 :: a5 :: a6 :: a7 :: a8 :: a9 :: a10 :: a11 :: a12 :: a13 :: L) (vi x :: S) := E.istore C hd hn hg k
theorem N.ast_13 {a0 a1 a2 a3 a4 a5 a6 a7 a8 a9 a10 a11 a12 a13 : Option AV} (C : Cx X G own cc) (hd : decode cc pc = .ok (.astore 13, 2)) (hn : 13 < xn X) (hg : noLong (a0 :: a1 :: a2 :: a3 :: a4 :: a5 :: a6 :: a7 :: a8 :: a9 :: a10 :: a11 :: a12 :: a13 :: L) 13 = true) (k : E X G 0 0 1000 v (pc + 2) (a0 :: a1 :: a2 :: a3 :: a4 :: a5 :: a6 :: a7 :: a8 :: a9 :: a10 :: a11 :: a12 :: some (vr x) :: L) S) : E X G 0 0 1000 v pc (a0 :: a1 :: a2 :: a3 :: a4 :: a5 :: a6 :: a7 :: a8 :: a9 :: a10 :: a11 :: a12 :: a13 :: L) (vr x :: S) := E.astore C hd hn hg k
theorem N.iinc_13 {a0 a1 a2 a3 a4 a5 a6 a7 a8 a9 a10 a11 a12 : Option AV} (C : Cx X G own cc) (hd : decode cc pc = .ok (.iinc 13 y, 3)) (hn : 13 < xn X) (hg : noLong (a0 :: a1 :: a2 :: a3 :: a4 :: a5 :: a6 :: a7 :: a8 :: a9 :: a10 :: a11 :: a12 :: some (vi x) :: L) 13 = true) (hr : in32 (x + y)) (k : E X G 0 0 1000 v (pc + 3) (a0 :: a1 :: a2 :: a3 :: a4 :: a5 :: a6 :: a7 :: a8 :: a9 :: a10 :: a11 :: a12 :: some (vi (x + y)) :: L) S) : E X G 0 0 1000 v pc (a0 :: a1 :: a2 :: a3 :: a4 :: a5 :: a6 :: a7 :: a8 :: a9 :: a10 :: a11 :: a12 :: some (vi x) :: L) S := E.iinc C hd rfl hn hg hr k
theorem N.lst_4 {a0 a1 a2 a3 a4 a5 : Option AV} (C : Cx X G own cc) (hd : decode cc pc = .ok (.lstore 4, 2)) (hn : 5 < xn X) (hg : noLong (a0 :: a1 :: a2 :: a3 :: a4 :: a5 :: L) 4 = true) (k : E X G 0 0 1000 v (pc + 2) (a0 :: a1 :: a2 :: a3 :: some (vl x) :: none :: L) S) : E X G 0 0 1000 v pc (a0 :: a1 :: a2 :: a3 :: a4 :: a5 :: L) (vl x :: S) := E.lstore C hd hn hg k
theorem N.lst_5 {a0 a1 a2 a3 a4 a5 a6 : Option AV} (C : Cx X G own cc) (hd : decode cc pc = .ok (.lstore 5, 2)) (hn : 6 < xn X) (hg : noLong (a0 :: a1 :: a2 :: a3 :: a4 :: a5 :: a6 :: L) 5 = true) (k : E X G 0 0 1000 v (pc + 2) (a0 :: a1 :: a2 :: a3 :: a4 :: some (vl x) :: none :: L) S) : E X G 0 0 1000 v pc (a0 :: a1 :: a2 :: a3 :: a4 :: a5 :: a6 :: L) (vl x :: S) := E.lstore C hd hn hg k
theorem N.lst_6 {a0 a1 a2 a3 a4 a5 a6 a7 : Option AV} (C : Cx X G own cc) (hd : decode cc pc = .ok (.lstore 6, 2)) (hn : 7 < xn X) (hg : noLong (a0 :: a1 :: a2 :: a3 :: a4 :: a5 :: a6 :: a7 :: L) 6 = true) (k : E X G 0 0 1000 v (pc + 2) (a0 :: a1 :: a2 :: a3 :: a4 :: a5 :: some (vl x) :: none :: L) S) : E X G 0 0 1000 v pc (a0 :: a1 :: a2 :: a3 :: a4 :: a5 :: a6 :: a7 :: L) (vl x :: S) := E.lstore C hd hn hg k
theorem N.lst_7 {a0 a1 a2 a3 a4 a5 a6 a7 a8 : Option AV} (C : Cx X G own cc) (hd : decode cc pc = .ok (.lstore 7, 2)) (hn : 8 < xn X) (hg : noLong (a0 :: a1 :: a2 :: a3 :: a4 :: a5 :: a6 :: a7 :: a8 :: L) 7 = true) (k : E X G 0 0 1000 v (pc + 2) (a0 :: a1 :: a2 :: a3 :: a4 :: a5 :: a6 :: some (vl x) :: none :: L) S) : E X G 0 0 1000 v pc (a0 :: a1 :: a2 :: a3 :: a4 :: a5 :: a6 :: a7 :: a8 :: L) (vl x :: S) := E.lstore C hd hn hg k
theorem N.lst_8 {a0 a1 a2 a3 a4 a5 a6 a7 a8 a9 : Option AV} (C : Cx X G own cc) (hd : decode cc pc = .ok (.lstore 8, 2)) (hn : 9 < xn X) (hg : noLong (a0 :: a1 :: a2 :: a3 :: a4 :: a5 :: a6 :: a7 :: a8 :: a9 :: L) 8 = true) (k : E X G 0 0 1000 v (pc + 2) (a0 :: a1 :: a2 :: a3 :: a4 :: a5 :: a6 :: a7 :: some (vl x) :: none :: L) S) : E X G 0 0 1000 v pc (a0 :: a1 :: a2 :: a3 :: a4 :: a5 :: a6 :: a7 :: a8 :: a9 :: L) (vl x :: S) := E.lstore C hd hn hg k
theorem N.lst_9 {a0 a1 a2 a3 a4 a5 a6 a7 a8 a9 a10 : Option AV} (C : Cx X G own cc) (hd : decode cc pc = .ok (.lstore 9, 2)) (hn : 10 < xn X) (hg : noLong (a0 :: a1 :: a2 :: a3 :: a4 :: a5 :: a6 :: a7 :: a8 :: a9 :: a10 :: L) 9 = true) (k : E X G 0 0 1000 v (pc + 2) (a0 :: a1 :: a2 :: a3 :: a4 :: a5 :: a6 :: a7 :: a8 :: some (vl x) :: none :: L) S) : E X G 0 0 1000 v pc (a0 :: a1 :: a2 :: a3 :: a4 :: a5 :: a6 :: a7 :: a8 :: a9 :: a10 :: L) (vl x :: S) := E.lstore C hd hn hg k
theorem N.lst_10 {a0 a1 a2 a3 a4 a5 a6 a7 a8 a9 a10 a11 : Option AV} (C : Cx X G own cc) (hd : decode cc pc = .ok (.lstore 10, 2)) (hn : 11 < xn X) (hg : noLong (a0 :: a1 :: a2 :: a3 :: a4 :: a5 :: a6 :: a7 :: a8 :: a9 :: a10 :: a11 :: L) 10 = true) (k : E X G 0 0 1000 v (pc + 2) (a0 :: a1 :: a2 :: a3 :: a4 :: a5 :: a6 :: a7 :: a8 :: a9 :: some (vl x) :: none :: L) S) : E X G 0 0 1000 v pc (a0 :: a1 :: a2 :: a3 :: a4 :: a5 :: a6 :: a7 :: a8 :: a9 :: a10 :: a11 :: L) (vl x :: S) := E.lstore C hd hn hg k
theorem N.lst_11 {a0 a1 a2 a3 a4 a5 a6 a7 a8 a9 a10 a11 a12 : Option AV} (C : Cx X G own cc) (hd : decode cc pc = .ok (.lstore 11, 2)) (hn : 12 < xn X) (hg : noLong (a0 :: a1 :: a2 :: a3 :: a4 :: a5 :: a6 :: a7 :: a8 :: a9 :: a10 :: a11 :: a12 :: L) 11 = true) (k : E X G 0 0 1000 v (pc + 2) (a0 :: a1 :: a2 :: a3 :: a4 :: a5 :: a6 :: a7 :: a8 :: a9 :: a10 :: some (vl x) :: none :: L) S) : E X G 0 0 1000 v pc (a0 :: a1 :: a2 :: a3 :: a4 :: a5 :: a6 :: a7 :: a8 :: a9 :: a10 :: a11 :: a12 :: L) (vl x :: S) := E.lstore C hd hn hg k
def mth (y : MethodName) (bytes : ByteArray) : Prop := Cond.static y ∈ lw_good ∧ Cond.initialized "java/lang/Math" ∈ lw_good ∧ Cond.code y bytes 2 (some .int) ∈ lw_good
theorem N.mmax (C : Cx X G own cc) (hX : xR X = R0 fr0 lo0) (hl : Cond.methodLink own index Lib.Math.max.name ∈ lw_good) (hm : mth Lib.Math.max.name Lib.Math.max.code) (hd : decode cc pc = .ok (.invokestatic index, 3)) (hR : 1 ≤ fr0 ∧ 21 ≤ lo0) (hcat : (S.map catA).sum ≤ 8)
    (k : E X G 0 0 1000 v (pc + 3) L (vi (if x < y' then y' else x) :: S)) : E X G 0 0 1000 v pc L (vi y' :: vi x :: S) := by
  intro h1 h2 h3 H locs ls hw hS hl2
  have ix : in32 x := ok_h (ok_t h3)
  have iy : in32 y' := ok_h h3
  have k := k h1 h2 (okc (by show in32 (if x < y' then y' else x); split <;> assumption) (ok_t (ok_t h3))) H locs ls hw hS hl2
  have e : (if Int32.ofInt x < Int32.ofInt y' then Int32.ofInt y' else Int32.ofInt x) = Int32.ofInt (if x < y' then y' else x) := by
    by_cases h : x < y'
    · rw [if_pos h, if_pos ((lt32 ix iy).mpr h)]
    · rw [if_neg h, if_neg (fun q => h ((lt32 ix iy).mp q))]
  refine va_mmax C.1 C.2.1 (by rw [C.2.2.1]; exact hl2.1.symm) C.2.2.2.1 (C.2.2.2.2.1 _ hl) (C.2.2.2.2.1 _ hm.1) (C.2.2.2.2.1 _ hm.2.1) (C.2.2.2.2.1 _ hm.2.2) (by rw [hX]; exact hR.1) (by rw [hX, catA_map]; have := hR.2; show _ ≤ lo0; omega) (Nat.zero_le _) (Nat.zero_le _) hd ?_
  rw [e]
  exact k
theorem N.mmin (C : Cx X G own cc) (hX : xR X = R0 fr0 lo0) (hl : Cond.methodLink own index Lib.Math.min.name ∈ lw_good) (hm : mth Lib.Math.min.name Lib.Math.min.code) (hd : decode cc pc = .ok (.invokestatic index, 3)) (hR : 1 ≤ fr0 ∧ 21 ≤ lo0) (hcat : (S.map catA).sum ≤ 8)
    (k : E X G 0 0 1000 v (pc + 3) L (vi (if y' < x then y' else x) :: S)) : E X G 0 0 1000 v pc L (vi y' :: vi x :: S) := by
  intro h1 h2 h3 H locs ls hw hS hl2
  have ix : in32 x := ok_h (ok_t h3)
  have iy : in32 y' := ok_h h3
  have k := k h1 h2 (okc (by show in32 (if y' < x then y' else x); split <;> assumption) (ok_t (ok_t h3))) H locs ls hw hS hl2
  have e : (if Int32.ofInt y' < Int32.ofInt x then Int32.ofInt y' else Int32.ofInt x) = Int32.ofInt (if y' < x then y' else x) := by
    by_cases h : y' < x
    · rw [if_pos h, if_pos ((lt32 iy ix).mpr h)]
    · rw [if_neg h, if_neg (fun q => h ((lt32 iy ix).mp q))]
  refine va_mmin C.1 C.2.1 (by rw [C.2.2.1]; exact hl2.1.symm) C.2.2.2.1 (C.2.2.2.2.1 _ hl) (C.2.2.2.2.1 _ hm.1) (C.2.2.2.2.1 _ hm.2.1) (C.2.2.2.2.1 _ hm.2.2) (by rw [hX]; exact hR.1) (by rw [hX, catA_map]; have := hR.2; show _ ≤ lo0; omega) (Nat.zero_le _) (Nat.zero_le _) hd ?_
  rw [e]
  exact k
end NST
