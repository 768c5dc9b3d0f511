-- the Model's springs: states on the way
noncomputable def sprM (A : VT) (q sl c0 c s : Int) : VT := fun a j => @ite Int (j = 7 ∧ dn A c s a) (Classical.propDecidable _) (sprV A 0 q sl a 7) (grwF A 0 q c0 a j)
theorem sprM_y {A : VT} {q sl c0 c s a : Int} (h : dn A c s a) : sprM A q sl c0 c s a 7 = sprV A 0 q sl a 7 := by unfold sprM; exact @if_pos _ (Classical.propDecidable _) ⟨rfl, h⟩ _ _ _
theorem sprM_n {A : VT} {q sl c0 c s a : Int} (h : ¬ dn A c s a) : sprM A q sl c0 c s a 7 = A a 7 := by
  unfold sprM
  exact (@if_neg _ (Classical.propDecidable _) (fun z => h z.2) _ _ _).trans (grwF_out (by omega))
theorem sprM_k {A : VT} {q sl c0 c s a j : Int} (h : ¬ j = 7) : sprM A q sl c0 c s a j = grwF A 0 q c0 a j := by unfold sprM; exact @if_neg _ (Classical.propDecidable _) (fun z => h z.1) _ _ _
theorem spr_7 {A : VT} {q sl t : Int} (ht : 0 ≤ t ∧ t < A 0 5) : sprV A 0 q sl (0 + 13 + t) 7 = if offB (grwF A 0 q (A 0 4)) 0 (A 0 4) sl t = true then -4 else A (0 + 13 + t) 7 := by
  unfold sprV sprF
  rw [show 0 + 13 + t - 0 - 13 = t by omega]
  by_cases h : offB (grwF A 0 q (A 0 4)) 0 (A 0 4) sl t = true
  · rw [if_pos ⟨by omega, by omega, rfl, h⟩, if_pos h]
  · rw [if_neg (fun z => h z.2.2.2), if_neg h, grwF_out (by omega)]
theorem sprM_o {A : VT} {q sl c0 c s a j : Int} (h : a < 0 + 13 ∨ 0 + 13 + A 0 5 ≤ a) : sprM A q sl c0 c s a j = grwF A 0 q c0 a j := by
  by_cases hj : j = 7
  · by_cases hd : dn A c s a
    · rw [hj, sprM_y hd]
      unfold sprV
      rw [sprF_out (by omega), grwF_out (by omega), grwF_out (by omega)]
    · rw [hj, sprM_n hd, grwF_out (by omega)]
  · exact sprM_k hj
theorem sprM_t {A : VT} {q sl c0 c s t j : Int} (ht : 0 ≤ t) (hj : ¬ j = 7) (hc : c0 ≤ 8) : sprM A q sl c0 c s (0 + 13 + t) j = A (0 + 13 + t) j := by
  rw [sprM_k hj, grwF_out (by omega)]
theorem sprM_45 {A : VT} {q sl c0 c s j : Int} : sprM A q sl c0 c s 0 j = A 0 j := by
  rw [sprM_o (by omega), grwF_out (by omega)]
theorem sprM_wf {A : VT} {q sl c0 c s : Int} (hA : WFV A 0) (hc : c0 ≤ 8) : WFV (sprM A q sl c0 c s) 0 := by
  have h1 := hA.1
  have h2 := hA.2.1
  have e4 : sprV A 0 q sl 0 4 = A 0 4 := by unfold sprV; rw [sprF_out (by omega), grwF_out (by omega)]
  have e5 : sprV A 0 q sl 0 5 = A 0 5 := by unfold sprV; rw [sprF_out (by omega), grwF_out (by omega)]
  refine hA.mix hA.sprv sprM_45 e4 sprM_45 e5 (fun d a b => ?_) (fun t a b => ?_) (fun t a b => ?_)
  · by_cases hd : d < c0
    · right
      intro k k1 k2
      rw [sprM_o (by omega)]
      unfold sprV
      rw [sprF_out (by omega)]
      unfold grwF
      by_cases hk : k = 0
      · rw [if_pos ⟨by omega, by omega, hk⟩, if_pos ⟨by omega, by omega, hk⟩]
      · rw [if_neg (fun z => hk z.2.2), if_neg (fun z => hk z.2.2)]
    · left
      intro k k1 k2
      rw [sprM_o (by omega), grwF_out (by omega)]
  · by_cases hd : dn A c s (0 + 13 + t)
    · right
      intro k
      by_cases hk : k = 7
      · rw [hk, sprM_y hd]
      · rw [sprM_t a hk hc]
        unfold sprV
        rw [sprF_out (by omega), grwF_out (by omega)]
    · left
      intro k
      by_cases hk : k = 7
      · rw [hk, sprM_n hd]
      · exact sprM_t a hk hc
  · rw [spr_7 ⟨a, b⟩]
    constructor
    · unfold sprV
      rw [sprF_out (by omega), grwF_out (by omega)]
    · split
      · exact Or.inl rfl
      · exact Or.inr rfl
theorem sprM_0 {A : VT} {q sl : Int} (hA : WFV A 0) : sprM A q sl 0 0 0 = A := by
  funext a j
  by_cases ha : a < 0 + 13 ∨ 0 + 13 + A 0 5 ≤ a
  · rw [sprM_o ha, grwF_out (by omega)]
  · obtain ⟨t, rfl⟩ : ∃ t, a = 0 + 13 + t := ⟨a - 13, by omega⟩
    by_cases hj : j = 7
    · rw [hj]
      by_cases hd : dn A 0 0 (0 + 13 + t)
      · rw [sprM_y hd, spr_7 ⟨by omega, by omega⟩, if_neg]
        intro z
        have h00 := (hA.2.2.2.1 t (by omega) (by omega)).1
        have := (offB_iff.mp z).1
        rw [grwF_out (by omega)] at this
        unfold dn at hd
        omega
      · exact sprM_n hd
    · exact sprM_t (by omega) hj (by omega)
theorem sprM_2 {A : VT} {q sl c0 c : Int} (hA : WFV A 0) : sprM A q sl c0 c 2 = sprM A q sl c0 (c + 1) 0 := by
  funext a j
  by_cases ha : a < 0 + 13 ∨ 0 + 13 + A 0 5 ≤ a
  · rw [sprM_o ha, sprM_o ha]
  · obtain ⟨t, rfl⟩ : ∃ t, a = 0 + 13 + t := ⟨a - 13, by omega⟩
    have e := dn_2 (A := A) (c := c) (hA.2.2.2.1 t (by omega) (by omega)).1
    by_cases hj : j = 7
    · rw [hj]
      by_cases hd : dn A c 2 (0 + 13 + t)
      · rw [sprM_y hd, sprM_y (e.mp hd)]
      · rw [sprM_n hd, sprM_n (fun z => hd (e.mpr z))]
    · rw [sprM_k hj, sprM_k hj]
theorem sprM_end {A : VT} {q sl : Int} (hA : WFV A 0) : sprM A q sl (A 0 4) (A 0 4) 0 = sprV A 0 q sl := by
  funext a j
  by_cases hj : j = 7
  · rw [hj]
    by_cases ha : a < 0 + 13 ∨ 0 + 13 + A 0 5 ≤ a
    · rw [sprM_o ha]
      unfold sprV
      rw [sprF_out (by omega)]
    · obtain ⟨t, rfl⟩ : ∃ t, a = 0 + 13 + t := ⟨a - 13, by omega⟩
      have := (hA.2.2.2.1 t (by omega) (by omega)).2.2.2.2.2.2.2.2.1
      have h1 := hA.1
      refine sprM_y ?_
      unfold dn
      omega
  · rw [sprM_k hj]
    unfold sprV
    rw [sprF_out (by omega)]
theorem sprM_grow {A : VT} {q sl c : Int} (hc : 0 ≤ c ∧ c < A 0 4) (h8 : A 0 4 ≤ 8) : Sm (sprM A q sl (c + 1) c 0) 0 (upd2 (sprM A q sl c c 0) (0 + 5 + c) 0 (grwV A q (0 + 5 + c))) 0 := by
  have q4 : upd2 (sprM A q sl c c 0) (0 + 5 + c) 0 (grwV A q (0 + 5 + c)) 0 4 = A 0 4 := by rw [u_ne (by omega), sprM_45]
  have q5 : upd2 (sprM A q sl c c 0) (0 + 5 + c) 0 (grwV A q (0 + 5 + c)) 0 5 = A 0 5 := by rw [u_ne (by omega), sprM_45]
  refine ⟨by rw [q4, sprM_45], by rw [q5, sprM_45], fun d k a b e f => ?_, fun x k a b e f => ?_⟩
  · rw [q4] at b
    rw [sprM_o (by omega)]
    by_cases hz : d = c ∧ k = 0
    · rw [hz.1, hz.2, upd2_same]
      unfold grwF
      rw [if_pos ⟨by omega, by omega, rfl⟩]
    · rw [u_ne (by omega), sprM_o (by omega)]
      unfold grwF
      by_cases hk : 0 + 5 + d < 0 + 5 + c ∧ k = 0
      · rw [if_pos ⟨by omega, by omega, hk.2⟩, if_pos ⟨by omega, hk⟩]
      · rw [if_neg (by omega), if_neg (by omega)]
  · rw [q5] at b
    rw [u_ne (by omega)]
    by_cases hj : k = 7
    · rw [hj]
      by_cases hd : dn A c 0 (0 + 13 + x)
      · rw [sprM_y hd, sprM_y hd]
      · rw [sprM_n hd, sprM_n hd]
    · rw [sprM_t a hj (by omega), sprM_t a hj (by omega)]
/-- how many take off so far -/
noncomputable def smB (A : VT) (q sl c s : Int) : Int → Bool := fun y => offB (grwF A 0 q (A 0 4)) 0 (A 0 4) sl y && @decide (dn A c s (0 + 13 + y)) (Classical.propDecidable _)
theorem smB_t {A : VT} {q sl c s y : Int} : smB A q sl c s y = true ↔ offB (grwF A 0 q (A 0 4)) 0 (A 0 4) sl y = true ∧ dn A c s (0 + 13 + y) := by
  unfold smB
  rw [Bool.and_eq_true_iff, @decide_eq_true_iff _ (Classical.propDecidable _)]
theorem sm_cnt {A : VT} {q sl c s t : Int} (hA : WFV A 0) (ht : 0 ≤ t ∧ t < A 0 5) (h7 : A (0 + 13 + t) 7 = c) (h0 : A (0 + 13 + t) 0 = s) (hc : 0 ≤ c) : cntN (smB A q sl c (s + 1)) (A 0 5).toNat = cntN (smB A q sl c s) (A 0 5).toNat + (if offB (grwF A 0 q (A 0 4)) 0 (A 0 4) sl t = true then 1 else 0) := by
  have ho : ∀ y, 0 ≤ y → y < A 0 5 → ¬ y = t → smB A q sl c s y = smB A q sl c (s + 1) y := fun y a b hy => beq_of (by
    rw [smB_t, smB_t]
    unfold dn
    have : ¬ (A (0 + 13 + y) 7 = c ∧ A (0 + 13 + y) 0 = s) := fun z => hy (hA.2.2.2.2 y t a b ht.1 ht.2 (by omega) (by omega) (by omega))
    have e : (A (0 + 13 + y) 7 < c ∨ A (0 + 13 + y) 7 = c ∧ A (0 + 13 + y) 0 < s) ↔ (A (0 + 13 + y) 7 < c ∨ A (0 + 13 + y) 7 = c ∧ A (0 + 13 + y) 0 < s + 1) := by omega
    rw [e])
  by_cases h : offB (grwF A 0 q (A 0 4)) 0 (A 0 4) sl t = true
  · rw [if_pos h]
    refine cnt_one _ (x := t) ⟨ht.1, by omega⟩ ?_ ?_ (fun y a b hy => ho y a (by omega) hy)
    · apply Bool.eq_false_iff.mpr
      intro z
      have := (smB_t.mp z).2
      unfold dn at this
      omega
    · exact smB_t.mpr ⟨h, by unfold dn; omega⟩
  · rw [if_neg h]
    have : cntN (smB A q sl c (s + 1)) (A 0 5).toNat = cntN (smB A q sl c s) (A 0 5).toNat := cnt_congr _ (fun y a b => by
      by_cases hy : y = t
      · apply beq_of
        rw [smB_t, smB_t, hy]
        constructor
        · intro z; exact absurd z.1 h
        · intro z; exact absurd z.1 h
      · exact (ho y a (by omega) hy).symm)
    omega
theorem sm_same {A : VT} {q sl c0 c s : Int} (hn : ∀ t, 0 ≤ t → t < A 0 5 → ¬ (A (0 + 13 + t) 0 = s ∧ A (0 + 13 + t) 7 = c)) : cntN (smB A q sl c (s + 1)) (A 0 5).toNat = cntN (smB A q sl c s) (A 0 5).toNat ∧ sprM A q sl c0 c (s + 1) = sprM A q sl c0 c s := by
  have hd : ∀ t, 0 ≤ t → t < A 0 5 → (dn A c (s + 1) (0 + 13 + t) ↔ dn A c s (0 + 13 + t)) := fun t a b => by
    have := hn t a b
    unfold dn
    omega
  refine ⟨cnt_congr _ (fun y a b => beq_of (by rw [smB_t, smB_t, hd y a (by omega)])), ?_⟩
  funext a j
  by_cases ha : a < 0 + 13 ∨ 0 + 13 + A 0 5 ≤ a
  · rw [sprM_o ha, sprM_o ha]
  · obtain ⟨t, rfl⟩ : ∃ t, a = 0 + 13 + t := ⟨a - 13, by omega⟩
    have e := hd t (by omega) (by omega)
    by_cases hj : j = 7
    · rw [hj]
      by_cases hz : dn A c s (0 + 13 + t)
      · rw [sprM_y hz, sprM_y (e.mpr hz)]
      · rw [sprM_n hz, sprM_n (fun z => hz (e.mp z))]
    · rw [sprM_k hj, sprM_k hj]
theorem sm_2 {A : VT} {q sl c : Int} (hA : WFV A 0) : cntN (smB A q sl c 2) (A 0 5).toNat = cntN (smB A q sl (c + 1) 0) (A 0 5).toNat :=
  cnt_congr _ (fun y a b => beq_of (by rw [smB_t, smB_t, dn_2 (hA.2.2.2.1 y a (by omega)).1]))
theorem sm_0 {A : VT} {q sl : Int} (hA : WFV A 0) : cntN (smB A q sl 0 0) (A 0 5).toNat = 0 :=
  cnt_none _ (fun y a b => by
    apply Bool.eq_false_iff.mpr
    intro z
    obtain ⟨k1, k2⟩ := smB_t.mp z
    have h00 := (hA.2.2.2.1 y a (by omega)).1
    have := (offB_iff.mp k1).1
    rw [grwF_out (by have := hA.1; omega)] at this
    unfold dn at k2
    omega)
theorem sm_end {A : VT} {q sl : Int} (hA : WFV A 0) : cntN (smB A q sl (A 0 4) 0) (A 0 5).toNat = cntN (offB (grwF A 0 q (A 0 4)) 0 (A 0 4) sl) (A 0 5).toNat :=
  cnt_congr _ (fun y a b => by
    unfold smB
    have := (hA.2.2.2.1 y a (by omega)).2.2.2.2.2.2.2.2.1
    have h1 := hA.1
    rw [@decide_eq_true _ (Classical.propDecidable _) (show dn A (A 0 4) 0 (0 + 13 + y) by unfold dn; omega)]
    simp)
theorem sprM_th {A : VT} {q sl c0 c s t : Int} (hc : 0 ≤ c) (h8 : c0 ≤ 8) (ht : 0 ≤ t ∧ t < A 0 5) (h7 : sprM A q sl c0 c s (0 + 13 + t) 7 = c) (h0 : sprM A q sl c0 c s (0 + 13 + t) 0 = s) : (∀ j, sprM A q sl c0 c s (0 + 13 + t) j = A (0 + 13 + t) j) ∧ A (0 + 13 + t) 7 = c ∧ A (0 + 13 + t) 0 = s := by
  rw [sprM_t ht.1 (by omega) h8] at h0
  have e7 : A (0 + 13 + t) 7 = c := by
    by_cases hd : dn A c s (0 + 13 + t)
    · rw [sprM_y hd, spr_7 ht] at h7
      split at h7
      · omega
      · exact h7
    · rw [sprM_n hd] at h7; exact h7
  refine ⟨fun j => ?_, e7, h0⟩
  by_cases hj : j = 7
  · rw [hj]
    refine sprM_n (fun z => ?_)
    unfold dn at z
    omega
  · exact sprM_t ht.1 hj h8
theorem sprM_none {A : VT} {q sl c0 c s : Int} (hA : WFV A 0) (h8 : c0 ≤ 8) (hc : 0 ≤ c) (h : wornI (sprM A q sl c0 c s) 0 c s = -4) : ∀ t, 0 ≤ t → t < A 0 5 → ¬ (A (0 + 13 + t) 0 = s ∧ A (0 + 13 + t) 7 = c) := by
  intro t a b z
  have hd : ¬ dn A c s (0 + 13 + t) := by unfold dn; omega
  have := worn_neg (by rw [sprM_45]; exact hA.2.1.1) h t a (by rw [sprM_45]; exact b)
  rw [sprM_n hd, sprM_t a (by omega) h8] at this
  exact this z
theorem spr_sm {A : VT} {q sl c0 c s t : Int} (hA : WFV A 0) (h8 : c0 ≤ 8) (hc : 0 ≤ c) (ht : 0 ≤ t ∧ t < A 0 5) (h7 : A (0 + 13 + t) 7 = c) (h0 : A (0 + 13 + t) 0 = s) :
    (offB (grwF A 0 q (A 0 4)) 0 (A 0 4) sl t = true → Sm (sprM A q sl c0 c (s + 1)) 0 (upd2 (sprM A q sl c0 c s) (0 + 13 + t) 7 (-4)) 0) ∧
    (¬ offB (grwF A 0 q (A 0 4)) 0 (A 0 4) sl t = true → Sm (sprM A q sl c0 c (s + 1)) 0 (sprM A q sl c0 c s) 0) := by
  have h1 := hA.1
  have h2 := hA.2.1
  have hd : ∀ x, 0 ≤ x → x < A 0 5 → ¬ x = t → (dn A c (s + 1) (0 + 13 + x) ↔ dn A c s (0 + 13 + x)) := fun x a b hx => by
    have : ¬ (A (0 + 13 + x) 7 = c ∧ A (0 + 13 + x) 0 = s) := fun z => hx (hA.2.2.2.2 x t a b ht.1 ht.2 (by omega) (by omega) (by omega))
    unfold dn
    omega
  have hx : ∀ x j, 0 ≤ x → x < A 0 5 → ¬ x = t → sprM A q sl c0 c (s + 1) (0 + 13 + x) j = sprM A q sl c0 c s (0 + 13 + x) j := fun x j a b k => by
    by_cases hj : j = 7
    · rw [hj]
      by_cases hz : dn A c s (0 + 13 + x)
      · rw [sprM_y hz, sprM_y ((hd x a b k).mpr hz)]
      · rw [sprM_n hz, sprM_n (fun z => hz ((hd x a b k).mp z))]
    · rw [sprM_k hj, sprM_k hj]
  have hy : dn A c (s + 1) (0 + 13 + t) := by unfold dn; omega
  have hn : ¬ dn A c s (0 + 13 + t) := by unfold dn; omega
  constructor
  · intro ho
    have q5 : upd2 (sprM A q sl c0 c s) (0 + 13 + t) 7 (-4) 0 5 = A 0 5 := by rw [u_ne (by omega), sprM_45]
    refine ⟨by rw [u_ne (by omega), sprM_45, sprM_45], by rw [q5, sprM_45], fun d k a b e f => ?_, fun x k a b e f => ?_⟩
    · rw [u_ne (by omega), sprM_45] at b
      rw [u_ne (by omega), sprM_o (by omega), sprM_o (by omega)]
    · rw [q5] at b
      by_cases hk : x = t
      · rw [hk]
        by_cases k7 : k = 7
        · rw [k7, upd2_same, sprM_y hy, spr_7 ht, if_pos ho]
        · rw [u_ne (Or.inr k7), sprM_k k7, sprM_k k7]
      · rw [u_ne (by omega)]
        exact hx x k a b hk
  · intro ho
    refine ⟨by rw [sprM_45, sprM_45], by rw [sprM_45, sprM_45], fun d k a b e f => ?_, fun x k a b e f => ?_⟩
    · rw [sprM_45] at b
      rw [sprM_o (by omega), sprM_o (by omega)]
    · rw [sprM_45] at b
      by_cases hk : x = t
      · rw [hk]
        by_cases k7 : k = 7
        · rw [k7, sprM_y hy, spr_7 ht, if_neg ho, sprM_n hn]
        · rw [sprM_k k7, sprM_k k7]
      · exact hx x k a b hk
theorem off_fit {A w : VT} {q sl c s t : Int} (hA : WFV A 0) (hM : MR (sprM A q sl (c + 1) c s) (w 120)) (hs : w 119 2 = sl) (hc : 0 ≤ c ∧ c < A 0 4) (ht : 0 ≤ t ∧ t < A 0 5) (h7 : A (0 + 13 + t) 7 = c) : offB (grwF A 0 q (A 0 4)) 0 (A 0 4) sl t = true ↔ ¬ fitS w c t = 1 := by
  have h1 := hA.1
  rw [hM.fit hs (by rw [sprM_45]; exact hc) (by rw [sprM_45]; exact ht), offB_iff]
  unfold offP
  have g : ∀ j, grwF A 0 q (A 0 4) (0 + 13 + t) j = A (0 + 13 + t) j := fun j => grwF_out (by omega)
  have e : fitV (sprM A q sl (c + 1) c s) 0 c t sl = fitI (A (0 + 13 + t) 1) (A (0 + 13 + t) 2) (A (0 + 13 + t) 3) (A (0 + 13 + t) 4) (A (0 + 13 + t) 5) (A (0 + 13 + t) 6) c (grwF A 0 q (A 0 4) (0 + 5 + c) 0) sl := by
    have gc : grwF A 0 q (c + 1) (0 + 5 + c) 0 = grwF A 0 q (A 0 4) (0 + 5 + c) 0 := by
      unfold grwF
      rw [if_pos ⟨by omega, by omega, rfl⟩, if_pos ⟨by omega, by omega, rfl⟩]
    unfold fitV
    rw [sprM_t ht.1 (by omega) (by omega), sprM_t ht.1 (by omega) (by omega), sprM_t ht.1 (by omega) (by omega), sprM_t ht.1 (by omega) (by omega), sprM_t ht.1 (by omega) (by omega), sprM_t ht.1 (by omega) (by omega), sprM_o (by omega), gc]
  rw [e, g, g, g, g, g, g, g, h7]
  exact ⟨fun z => z.2.2, fun z => ⟨hc.1, hc.2, z⟩⟩
