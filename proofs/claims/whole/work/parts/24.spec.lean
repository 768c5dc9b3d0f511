-- more of what is asked
def firstT (p : Int → Bool) : Nat → Int → Int
  | 0, _ => -4
  | k + 1, i => if p i then i else firstT p k (i + 1)
theorem firstT_spec (p : Int → Bool) : ∀ (k : Nat) (i : Int), (firstT p k i = -4 ∧ ∀ j, i ≤ j → j < i + k → p j = false) ∨ (i ≤ firstT p k i ∧ firstT p k i < i + k ∧ p (firstT p k i) = true ∧ ∀ j, i ≤ j → j < firstT p k i → p j = false)
  | 0, i => Or.inl ⟨rfl, fun j h1 h2 => by omega⟩
  | k + 1, i => by
    unfold firstT
    by_cases h : p i = true
    · rw [if_pos h]
      exact Or.inr ⟨by omega, by omega, h, fun j h1 h2 => by omega⟩
    · rw [if_neg h]
      have hf : p i = false := by simpa using h
      rcases firstT_spec p k (i + 1) with ⟨h1, h2⟩ | ⟨h1, h2, h3, h4⟩
      · refine Or.inl ⟨h1, fun j q1 q2 => ?_⟩
        by_cases hj : j = i
        · rw [hj]; exact hf
        · exact h2 j (by omega) (by omega)
      · refine Or.inr ⟨by omega, by omega, h3, fun j q1 q2 => ?_⟩
        by_cases hj : j = i
        · rw [hj]; exact hf
        · exact h4 j (by omega) q2
/-- the thing of slot s that c wears -/
def wornI (v : VT) (o c s : Int) : Int := firstT (fun j => decide (v (o + 13 + j) 0 = s ∧ v (o + 13 + j) 7 = c)) (v o 5).toNat 0
theorem wornI_Q {v : VT} {o c s : Int} (h : 0 ≤ v o 5) : wornQ v o c s (wornI v o c s) := by
  unfold wornI wornQ
  have e : ((v o 5).toNat : Int) = v o 5 := Int.toNat_of_nonneg h
  rcases firstT_spec (fun j => decide (v (o + 13 + j) 0 = s ∧ v (o + 13 + j) 7 = c)) (v o 5).toNat 0 with ⟨h1, h2⟩ | ⟨h1, h2, h3, h4⟩
  · refine Or.inl ⟨h1, fun j q1 q2 => ?_⟩
    have := h2 j q1 (by omega)
    simpa using this
  · refine Or.inr ⟨h1, by omega, ?_, ?_, fun j q1 q2 => ?_⟩
    · have := of_decide_eq_true h3
      exact this.1
    · have := of_decide_eq_true h3
      exact this.2
    · have := h4 j q1 q2
      simpa using this
theorem wornQ_eq {v : VT} {o c s x : Int} (h : 0 ≤ v o 5) (hq : wornQ v o c s x) : x = wornI v o c s := by
  have h2 := wornI_Q (c := c) (s := s) h
  generalize wornI v o c s = y at h2
  rcases hq with ⟨h3, h4⟩ | ⟨h3, h4, h5, h6, h7⟩ <;> rcases h2 with ⟨k3, k4⟩ | ⟨k3, k4, k5, k6, k7⟩
  · omega
  · exact absurd ⟨k5, k6⟩ (h4 y k3 k4)
  · exact absurd ⟨h5, h6⟩ (k4 x h3 h4)
  · by_cases hlt : x < y
    · exact absurd ⟨h5, h6⟩ (k7 x h3 hlt)
    · by_cases hgt : y < x
      · exact absurd ⟨k5, k6⟩ (h7 y k3 hgt)
      · omega
/-- the bits of those of 0 .. k-1 that are so, as the machine sets them -/
def orN (p : Int → Bool) : Nat → Int
  | 0 => 0
  | k + 1 => if p (k : Int) then jor (orN p k) (jshl 1 k) else orN p k
theorem orN_step {p : Int → Bool} {t : Int} (h : 0 ≤ t) : orN p (t + 1).toNat = if p t then jor (orN p t.toNat) (jshl 1 t) else orN p t.toNat := by
  have e : (t + 1).toNat = t.toNat + 1 := by omega
  rw [e, orN, Int.toNat_of_nonneg h]
/-- children grown, the first t -/
def grwV (v : VT) (q a : Int) : Int := growI (v a 0) (if q = 0 then v a 1 else v a 2)
def grwF (v : VT) (o q t : Int) : VT := fun a j => if o + 5 ≤ a ∧ a < o + 5 + t ∧ j = 0 then grwV v q a else v a j
theorem grwF_out {v : VT} {o q t a j : Int} (h : a < o + 5 ∨ o + 5 + t ≤ a ∨ j ≠ 0) : grwF v o q t a j = v a j := by
  unfold grwF
  rw [if_neg (by omega)]
theorem grwF_0 {v : VT} {o q : Int} : v = grwF v o q 0 := by
  funext a j
  rw [grwF_out (by omega)]
theorem grwF_s {v : VT} {o q t : Int} (ht : 0 ≤ t) : upd2 (grwF v o q t) (o + 5 + t) 0 (growI (grwF v o q t (o + 5 + t) 0) (if q = 0 then grwF v o q t (o + 5 + t) 1 else grwF v o q t (o + 5 + t) 2)) = grwF v o q (t + 1) := by
  rw [grwF_out (by omega), grwF_out (by omega), grwF_out (by omega)]
  show upd2 _ _ _ (grwV v q (o + 5 + t)) = _
  funext a j
  unfold upd2
  by_cases ha : a = o + 5 + t
  · subst ha
    by_cases hj : j = 0
    · subst hj
      rw [if_pos ⟨rfl, rfl⟩]
      unfold grwF
      rw [if_pos ⟨by omega, by omega, rfl⟩]
    · rw [if_neg (by omega), grwF_out (by omega), grwF_out (by omega)]
  · rw [if_neg (by omega)]
    unfold grwF
    by_cases hb : o + 5 ≤ a ∧ a < o + 5 + t ∧ j = 0
    · rw [if_pos hb, if_pos ⟨by omega, by omega, hb.2.2⟩]
    · rw [if_neg hb, if_neg (by omega)]
/-- who wears the thing at a, that does not fit as it is, takes it off: the first t things -/
def offP (g : VT) (o nC sl a : Int) : Prop := 0 ≤ g a 7 ∧ g a 7 < nC ∧ ¬ fitI (g a 1) (g a 2) (g a 3) (g a 4) (g a 5) (g a 6) (g a 7) (g (o + 5 + g a 7) 0) sl = 1
def offB (g : VT) (o nC sl t : Int) : Bool := decide (0 ≤ g (o + 13 + t) 7) && decide (g (o + 13 + t) 7 < nC) && decide (¬ fitI (g (o + 13 + t) 1) (g (o + 13 + t) 2) (g (o + 13 + t) 3) (g (o + 13 + t) 4) (g (o + 13 + t) 5) (g (o + 13 + t) 6) (g (o + 13 + t) 7) (g (o + 5 + g (o + 13 + t) 7) 0) sl = 1)
theorem offB_iff {g : VT} {o nC sl t : Int} : offB g o nC sl t = true ↔ offP g o nC sl (o + 13 + t) := by
  unfold offB offP
  simp only [Bool.and_eq_true, decide_eq_true_eq, and_assoc]
noncomputable def sprF (g : VT) (o nC sl t : Int) : VT := fun a j => if o + 13 ≤ a ∧ a < o + 13 + t ∧ j = 7 ∧ offB g o nC sl (a - o - 13) = true then -4 else g a j
theorem sprF_out {g : VT} {o nC sl t a j : Int} (h : a < o + 13 ∨ o + 13 + t ≤ a ∨ j ≠ 7) : sprF g o nC sl t a j = g a j := by
  unfold sprF
  rw [if_neg (by omega)]
theorem sprF_0 {g : VT} {o nC sl : Int} : g = sprF g o nC sl 0 := by
  funext a j
  rw [sprF_out (by omega)]
theorem sprF_s {g : VT} {o nC sl t : Int} (h : offB g o nC sl t = true) (ht : 0 ≤ t) : upd2 (sprF g o nC sl t) (o + 13 + t) 7 (-4) = sprF g o nC sl (t + 1) := by
  funext a j
  unfold upd2 sprF
  by_cases ha : a = o + 13 + t
  · subst ha
    by_cases hj : j = 7
    · rw [if_pos ⟨rfl, hj⟩, if_pos ⟨by omega, by omega, hj, by rw [show o + 13 + t - o - 13 = t by omega]; exact h⟩]
    · rw [if_neg (by omega), if_neg (by omega), if_neg (by omega)]
  · rw [if_neg (by omega)]
    by_cases hb : o + 13 ≤ a ∧ a < o + 13 + t ∧ j = 7 ∧ offB g o nC sl (a - o - 13) = true
    · rw [if_pos hb, if_pos ⟨by omega, by omega, hb.2.2⟩]
    · rw [if_neg hb, if_neg (fun q => hb ⟨q.1, by omega, q.2.2⟩)]
theorem sprF_n {g : VT} {o nC sl t : Int} (h : offB g o nC sl t = false) : sprF g o nC sl t = sprF g o nC sl (t + 1) := by
  funext a j
  unfold sprF
  by_cases hb : o + 13 ≤ a ∧ a < o + 13 + t ∧ j = 7 ∧ offB g o nC sl (a - o - 13) = true
  · rw [if_pos hb, if_pos ⟨by omega, by omega, hb.2.2⟩]
  · rw [if_neg hb, if_neg (fun q => ?_)]
    by_cases ha : a = o + 13 + t
    · rw [show a - o - 13 = t by omega, h] at q
      exact absurd q.2.2.2 (by decide)
    · exact hb ⟨q.1, by omega, q.2.2⟩
/-- lasts no less, in a slot: the first t things -/
def lasV (v : VT) (l a : Int) : Int := if v a 3 < l then l else v a 3
def strF (v : VT) (o s l t : Int) : VT := fun a j => if o + 13 ≤ a ∧ a < o + 13 + t ∧ j = 3 ∧ v a 0 = s then lasV v l a else v a j
theorem strF_out {v : VT} {o s l t a j : Int} (h : a < o + 13 ∨ o + 13 + t ≤ a ∨ j ≠ 3) : strF v o s l t a j = v a j := by
  unfold strF
  rw [if_neg (by omega)]
theorem strF_0 {v : VT} {o s l : Int} : v = strF v o s l 0 := by
  funext a j
  rw [strF_out (by omega)]
theorem strF_s {v : VT} {o s l t : Int} (h : v (o + 13 + t) 0 = s) (ht : 0 ≤ t) : upd2 (strF v o s l t) (o + 13 + t) 3 (if v (o + 13 + t) 3 < l then l else v (o + 13 + t) 3) = strF v o s l (t + 1) := by
  show upd2 _ _ _ (lasV v l (o + 13 + t)) = _
  funext a j
  unfold upd2 strF
  by_cases ha : a = o + 13 + t
  · subst ha
    by_cases hj : j = 3
    · subst hj
      rw [if_pos ⟨rfl, rfl⟩, if_pos ⟨by omega, by omega, rfl, h⟩]
    · rw [if_neg (by omega), if_neg (by omega), if_neg (by omega)]
  · rw [if_neg (by omega)]
    by_cases hb : o + 13 ≤ a ∧ a < o + 13 + t ∧ j = 3 ∧ v a 0 = s
    · rw [if_pos hb, if_pos ⟨by omega, by omega, hb.2.2⟩]
    · rw [if_neg hb, if_neg (fun q => hb ⟨q.1, by omega, q.2.2⟩)]
theorem strF_n {v : VT} {o s l t : Int} (h : ¬ v (o + 13 + t) 0 = s) : strF v o s l t = strF v o s l (t + 1) := by
  funext a j
  unfold strF
  by_cases hb : o + 13 ≤ a ∧ a < o + 13 + t ∧ j = 3 ∧ v a 0 = s
  · rw [if_pos hb, if_pos ⟨by omega, by omega, hb.2.2⟩]
  · rw [if_neg hb, if_neg (fun q => ?_)]
    by_cases ha : a = o + 13 + t
    · rw [ha] at q
      exact h q.2.2.2
    · exact hb ⟨q.1, by omega, q.2.2⟩
/-- each child grown by its bit -/
def bitI (x c : Int) : Int := jand (jshr x c) 1
def geV (v : VT) (x a c : Int) : Int := growI (v a 0) (if bitI x c = 1 then v a 2 else v a 1)
def geF (v : VT) (o x t : Int) : VT := fun a j => if o + 5 ≤ a ∧ a < o + 5 + t ∧ j = 0 then geV v x a (a - o - 5) else v a j
theorem geF_out {v : VT} {o x t a j : Int} (h : a < o + 5 ∨ o + 5 + t ≤ a ∨ j ≠ 0) : geF v o x t a j = v a j := by
  unfold geF
  rw [if_neg (by omega)]
theorem geF_0 {v : VT} {o x : Int} : v = geF v o x 0 := by
  funext a j
  rw [geF_out (by omega)]
theorem geF_s {v : VT} {o x t q : Int} (hq : (bitI x t = 1 ∧ q = 1) ∨ (¬ bitI x t = 1 ∧ q = 0)) (ht : 0 ≤ t) : upd2 (geF v o x t) (o + 5 + t) 0 (growI (geF v o x t (o + 5 + t) 0) (if q = 0 then geF v o x t (o + 5 + t) 1 else geF v o x t (o + 5 + t) 2)) = geF v o x (t + 1) := by
  rw [geF_out (by omega), geF_out (by omega), geF_out (by omega)]
  have e : (if q = 0 then v (o + 5 + t) 1 else v (o + 5 + t) 2) = if bitI x t = 1 then v (o + 5 + t) 2 else v (o + 5 + t) 1 := by
    rcases hq with ⟨h1, h2⟩ | ⟨h1, h2⟩
    · rw [if_neg (by omega), if_pos h1]
    · rw [if_pos h2, if_neg h1]
  rw [e]
  show upd2 _ _ _ (geV v x (o + 5 + t) t) = _
  funext a j
  unfold upd2
  by_cases ha : a = o + 5 + t
  · subst ha
    by_cases hj : j = 0
    · subst hj
      rw [if_pos ⟨rfl, rfl⟩]
      unfold geF
      rw [if_pos ⟨by omega, by omega, rfl⟩, show o + 5 + t - o - 5 = t by omega]
    · rw [if_neg (by omega), geF_out (by omega), geF_out (by omega)]
  · rw [if_neg (by omega)]
    unfold geF
    by_cases hb : o + 5 ≤ a ∧ a < o + 5 + t ∧ j = 0
    · rw [if_pos hb, if_pos ⟨by omega, by omega, hb.2.2⟩]
    · rw [if_neg hb, if_neg (by omega)]
theorem growI_bd {s d : Int} (h1 : 0 ≤ s) (h2 : 0 ≤ d) : 0 ≤ growI s d ∧ growI s d ≤ 40 := by
  unfold growI
  split <;> omega
theorem grwF_bd {v : VT} {o q t c : Int} (h1 : 0 ≤ v (o + 5 + c) 0) (h2 : 0 ≤ v (o + 5 + c) 1) (h3 : 0 ≤ v (o + 5 + c) 2) (hc : 0 ≤ c ∧ c < t) : 0 ≤ grwF v o q t (o + 5 + c) 0 ∧ grwF v o q t (o + 5 + c) 0 ≤ 40 := by
  unfold grwF
  rw [if_pos ⟨by omega, by omega, rfl⟩]
  unfold grwV
  exact growI_bd h1 (by split <;> assumption)
