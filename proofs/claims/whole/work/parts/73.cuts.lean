-- cuts: what is too small for all stays so
theorem w10 {k : Int} (h : in32 k) : (-2147483638 ≤ k → w32 (k - 10) = k - 10) ∧ (k < -2147483638 → w32 (k - 10) = k - 10 + 4294967296) := by
  unfold in32 at h
  refine ⟨fun h1 => w32_id (by unfold in32; omega), fun h1 => ?_⟩
  have e : w32 (k - 10) = w32 (k - 10 + 4294967296) := by
    unfold w32
    congr 1
    apply Int32.toBitVec_inj.mp
    show BitVec.ofInt 32 (k - 10) = BitVec.ofInt 32 (k - 10 + 4294967296)
    apply BitVec.eq_of_toInt_eq
    rw [BitVec.toInt_ofInt, BitVec.toInt_ofInt]
    have : (k - 10 + 4294967296).bmod (2 ^ 32) = (k - 10).bmod (2 ^ 32) := by
      have := Int.add_bmod_right (k - 10) (2 ^ 32)
      simpa using this
    rw [this]
  rw [e]
  exact w32_id (by unfold in32; omega)
def cutV (v : VT) (o t z : Int) : VT := upd2 v (o + 13 + t) 2 z
/-- two villages that differ in the size of a thing that fits nobody -/
def Sz (v u : VT) (o t : Int) : Prop := (0 ≤ v o 4 ∧ v o 4 ≤ 8) ∧ (0 ≤ t ∧ t < v o 5) ∧ u o 4 = v o 4 ∧ u o 5 = v o 5 ∧ (∀ c k, 0 ≤ c → c < v o 4 → 0 ≤ k → k < 3 → u (o + 5 + c) k = v (o + 5 + c) k) ∧ (∀ x k, 0 ≤ x → x < v o 5 → 0 ≤ k → k < 8 → ¬ (x = t ∧ k = 2) → u (o + 13 + x) k = v (o + 13 + x) k) ∧ v (o + 13 + t) 7 = -4 ∧
  (∀ c, 0 ≤ c → c < v o 4 → v (o + 13 + t) 2 + 2 < v (o + 5 + c) 0 ∧ u (o + 13 + t) 2 + 2 < v (o + 5 + c) 0 ∧ v (o + 5 + c) 0 ≤ 40 ∧ 0 ≤ v (o + 5 + c) 1 ∧ 0 ≤ v (o + 5 + c) 2)
theorem fit_small {k z l w lt h c b sl : Int} (hz : z + 2 < b) : fitI k z l w lt h c b sl = 0 := by
  unfold fitI
  (repeat' split) <;> omega
theorem Sz.fit {v u : VT} {o t c x sl : Int} (h : Sz v u o t) (hc : 0 ≤ c ∧ c < v o 4) (hx : 0 ≤ x ∧ x < v o 5) : fitV u o c x sl = fitV v o c x sl := by
  obtain ⟨h0, ht, h4, h5, hch, hth, hw, hz⟩ := h
  have hzc := hz c hc.1 hc.2
  by_cases hxt : x = t
  · subst hxt
    unfold fitV
    rw [fit_small hzc.1, fit_small (by rw [hch c 0 hc.1 hc.2 (by omega) (by omega)]; exact hzc.2.1)]
  · unfold fitV
    rw [hch c 0 hc.1 hc.2 (by omega) (by omega), hth x 1 hx.1 hx.2 (by omega) (by omega) (by omega), hth x 2 hx.1 hx.2 (by omega) (by omega) (by omega), hth x 3 hx.1 hx.2 (by omega) (by omega) (by omega), hth x 4 hx.1 hx.2 (by omega) (by omega) (by omega), hth x 5 hx.1 hx.2 (by omega) (by omega) (by omega), hth x 6 hx.1 hx.2 (by omega) (by omega) (by omega)]
theorem Sz.may {v u : VT} {o t s sl : Int} (h : Sz v u o t) : mayA u o s sl = mayA v o s sl := by
  funext c x
  apply propext
  obtain ⟨h0, ht, h4, h5, hch, hth, hw, hz⟩ := id h
  unfold mayA
  rw [h4, h5]
  constructor
  · rintro ⟨a1, a2, a3, a4, a5, a6⟩
    rw [hth x 0 a3 a4 (by omega) (by omega) (by omega)] at a5
    rw [h.fit ⟨a1, a2⟩ ⟨a3, a4⟩] at a6
    exact ⟨a1, a2, a3, a4, a5, a6⟩
  · rintro ⟨a1, a2, a3, a4, a5, a6⟩
    rw [← hth x 0 a3 a4 (by omega) (by omega) (by omega)] at a5
    rw [← h.fit ⟨a1, a2⟩ ⟨a3, a4⟩] at a6
    exact ⟨a1, a2, a3, a4, a5, a6⟩
theorem Sz.deal {v u : VT} {o t s sl : Int} (h : Sz v u o t) : dealV u o s sl = dealV v o s sl ∧ warmV u o s sl = warmV v o s sl := by
  have e : dealV u o s sl = dealV v o s sl := by
    unfold dealV
    rw [h.may, h.2.2.1]
  refine ⟨e, ?_⟩
  unfold warmV
  rw [e, h.2.2.1]
theorem Sz.new {v u : VT} {o t s sl : Int} (h : Sz v u o t) : newV u o s sl = newV v o s sl := by
  unfold newV
  rw [h.deal.2, h.2.2.1]
theorem Sz.und {v u : VT} {o t s : Int} (h : Sz v u o t) : Sz (undF v o s (v o 5)) (undF u o s (u o 5)) o t := by
  obtain ⟨h0, ht, h4, h5, hch, hth, hw, hz⟩ := h
  have e4 : undF v o s (v o 5) o 4 = v o 4 := undF_out (by omega)
  have e5 : undF v o s (v o 5) o 5 = v o 5 := undF_out (by omega)
  refine ⟨by rw [e4]; exact h0, by rw [e5]; exact ht, by rw [e4, undF_out (by omega)]; exact h4, by rw [e5, undF_out (by omega)]; exact h5, fun c k a b d e => ?_, fun x k a b d e f => ?_, ?_, fun c a b => ?_⟩
  · rw [e4] at b
    rw [undF_out (by omega), undF_out (by omega)]
    exact hch c k a b d e
  · rw [e5] at b
    by_cases k7 : k = 7
    · rw [k7, und_7 ⟨a, by rw [h5]; exact b⟩, und_7 ⟨a, b⟩, hth x 0 a b (by omega) (by omega) (by omega), hth x 7 a b (by omega) (by omega) (by omega)]
    · rw [und_ne7 k7, und_ne7 k7]
      exact hth x k a b d e f
  · rw [und_7 ht]
    split
    · rfl
    · exact hw
  · rw [e4] at b
    rw [und_ne7 (by omega), und_ne7 (by omega), undF_out (by omega), undF_out (by omega), undF_out (by omega)]
    exact hz c a b
theorem Sz.drs {v u : VT} {o t sl : Int} {g : Int → Int} (h : Sz v u o t) (hg : ∀ c, 0 ≤ c → c < v o 4 → ¬ g c = t) : ∀ k : Nat, (k : Int) ≤ v o 4 → Sz (drsN v o sl g k) (drsN u o sl g k) o t ∧ (∀ a j, (a < o + 13 ∨ o + 13 + v o 5 ≤ a) → drsN v o sl g k a j = v a j)
  | 0, _ => ⟨h, fun _ _ _ => rfl⟩
  | k + 1, hk => by
    obtain ⟨ih, io⟩ := h.drs (sl := sl) hg k (by omega)
    have io2 : ∀ a j, (a < o + 13 ∨ o + 13 + u o 5 ≤ a) → drsN u o sl g k a j = u a j := fun a j z => drs_out z k
    obtain ⟨h0, ht, h4, h5, hch, hth, hw, hz⟩ := id h
    refine ⟨?_, fun a j z => drs_out z (k + 1)⟩
    rw [drsN, drsN, h5]
    have hgk := hg (k : Int) (by omega) (by omega)
    by_cases hc : 0 ≤ g (k : Int) ∧ g (k : Int) < v o 5
    · rw [if_pos hc, if_pos hc, hch (k : Int) 0 (by omega) (by omega) (by omega) (by omega)]
      obtain ⟨i0, it, i4, i5, ich, ith, iw, iz⟩ := ih
      have d4 : drsN v o sl g k o 4 = v o 4 := io o 4 (by omega)
      have d5 : drsN v o sl g k o 5 = v o 5 := io o 5 (by omega)
      refine ⟨by rw [putF_ne (by omega)]; exact i0, by rw [putF_ne (by omega)]; exact it, by rw [putF_ne (by omega), putF_ne (by omega)]; exact i4, by rw [putF_ne (by omega), putF_ne (by omega)]; exact i5, fun c j a b d e => ?_, fun x j a b d e f => ?_, by rw [putF_ne (by omega)]; exact iw, fun c a b => ?_⟩
      · rw [putF_ne (by omega)] at b
        rw [putF_ne (by omega), putF_ne (by omega)]
        exact ich c j a b d e
      · rw [putF_ne (by omega)] at b
        by_cases hx : x = g (k : Int)
        · rw [hx]
          exact putF_congr (fun j2 b1 b2 => ith _ j2 hc.1 (by rw [d5]; exact hc.2) b1 b2 (by omega)) j d e
        · rw [putF_ne (by omega), putF_ne (by omega)]
          exact ith x j a b d e f
      · rw [putF_ne (by omega)] at b
        rw [putF_ne (by omega), putF_ne (by omega), putF_ne (by omega), putF_ne (by omega), putF_ne (by omega)]
        exact iz c a b
    · rw [if_neg hc, if_neg hc]
      exact ih
theorem Sz.drv {v u : VT} {o t s sl : Int} (h : Sz v u o t) (hd : ∀ c, 0 ≤ c → c < v o 4 → ¬ dealV v o s sl c = t) : Sz (drsV v o s sl) (drsV u o s sl) o t := by
  unfold drsV
  have e4 : undF v o s (v o 5) o 4 = v o 4 := undF_out (by omega)
  rw [h.deal.1, h.2.2.1]
  exact (h.und.drs (by rw [e4]; exact hd) _ (by rw [e4]; have := h.1; omega)).1
theorem Sz.win {v u : VT} {o t : Int} (h : Sz v u o t) : Sz (winF v o (v o 5)) (winF u o (u o 5)) o t := by
  obtain ⟨h0, ht, h4, h5, hch, hth, hw, hz⟩ := h
  have e4 : winF v o (v o 5) o 4 = v o 4 := winF_out (by omega)
  have e5 : winF v o (v o 5) o 5 = v o 5 := winF_out (by omega)
  have hw2 : u (o + 13 + t) 7 = -4 := (hth t 7 ht.1 ht.2 (by omega) (by omega) (by omega)).trans hw
  refine ⟨by rw [e4]; exact h0, by rw [e5]; exact ht, by rw [e4, winF_out (by omega)]; exact h4, by rw [e5, winF_out (by omega)]; exact h5, fun c k a b d e => ?_, fun x k a b d e f => ?_, ?_, fun c a b => ?_⟩
  · rw [e4] at b
    rw [winF_out (by omega), winF_out (by omega)]
    exact hch c k a b d e
  · rw [e5] at b
    by_cases hx : x = t
    · rw [hx, winF_in ⟨ht.1, by rw [h5]; exact ht.2⟩, winF_in ht, if_neg (fun z => z hw2), if_neg (fun z => z hw)]
      exact hth t k ht.1 ht.2 d e (by omega)
    · have q := fun k (z : 0 ≤ k) (z2 : k < 8) => hth x k a b z z2 (by omega)
      rw [winF_in ⟨a, by rw [h5]; exact b⟩, winF_in ⟨a, b⟩, q 1 (by omega) (by omega), q 3 (by omega) (by omega), q 4 (by omega) (by omega), q 7 (by omega) (by omega), q k d e]
  · rw [winF_in ht, if_neg (fun z => z hw)]
    exact hw
  · rw [e4] at b
    rw [winF_in ht, if_neg (fun z => z hw), winF_in ⟨ht.1, by rw [h5]; exact ht.2⟩, if_neg (fun z => z hw2), winF_out (by omega), winF_out (by omega), winF_out (by omega)]
    exact hz c a b
theorem Sz.grw {v u : VT} {o t q : Int} (h : Sz v u o t) : Sz (grwF v o q (v o 4)) (grwF u o q (u o 4)) o t := by
  obtain ⟨h0, ht, h4, h5, hch, hth, hw, hz⟩ := h
  have e4 : grwF v o q (v o 4) o 4 = v o 4 := grwF_out (by omega)
  have e5 : grwF v o q (v o 4) o 5 = v o 5 := grwF_out (by omega)
  have gv : ∀ c, 0 ≤ c → c < v o 4 → grwF v o q (v o 4) (o + 5 + c) 0 = grwV v q (o + 5 + c) := fun c a b => by unfold grwF; rw [if_pos ⟨by omega, by omega, rfl⟩]
  have gu : ∀ c, 0 ≤ c → c < v o 4 → grwF u o q (u o 4) (o + 5 + c) 0 = grwV u q (o + 5 + c) := fun c a b => by unfold grwF; rw [if_pos ⟨by omega, by omega, rfl⟩]
  refine ⟨by rw [e4]; exact h0, by rw [e5]; exact ht, by rw [e4, grwF_out (by omega)]; exact h4, by rw [e5, grwF_out (by omega)]; exact h5, fun c k a b d e => ?_, fun x k a b d e f => ?_, ?_, fun c a b => ?_⟩
  · rw [e4] at b
    by_cases hk : k = 0
    · rw [hk, gv c a b, gu c a b]
      unfold grwV
      rw [hch c 0 a b (by omega) (by omega), hch c 1 a b (by omega) (by omega), hch c 2 a b (by omega) (by omega)]
    · rw [grwF_out (by omega), grwF_out (by omega)]
      exact hch c k a b d e
  · rw [e5] at b
    rw [grwF_out (by omega), grwF_out (by omega)]
    exact hth x k a b d e f
  · rw [grwF_out (by omega)]
    exact hw
  · rw [e4] at b
    have hzc := hz c a b
    rw [grwF_out (a := o + 13 + t) (by omega), grwF_out (a := o + 13 + t) (by omega), gv c a b, grwF_out (j := 1) (by omega), grwF_out (j := 2) (by omega)]
    have : v (o + 5 + c) 0 ≤ grwV v q (o + 5 + c) ∧ grwV v q (o + 5 + c) ≤ 40 := by
      unfold grwV growI
      (repeat' split) <;> omega
    omega
theorem Sz.spr0 {v u : VT} {o t sl : Int} (h : Sz v u o t) : Sz (sprF v o (v o 4) sl (v o 5)) (sprF u o (u o 4) sl (u o 5)) o t := by
  obtain ⟨h0, ht, h4, h5, hch, hth, hw, hz⟩ := id h
  have e4 : sprF v o (v o 4) sl (v o 5) o 4 = v o 4 := sprF_out (by omega)
  have e5 : sprF v o (v o 4) sl (v o 5) o 5 = v o 5 := sprF_out (by omega)
  have q7 : ∀ x, 0 ≤ x → x < v o 5 → sprF u o (u o 4) sl (u o 5) (o + 13 + x) 7 = sprF v o (v o 4) sl (v o 5) (o + 13 + x) 7 := fun x a b => by
    have hb : offB u o (u o 4) sl x = offB v o (v o 4) sl x := beq_of (by
      rw [offB_iff, offB_iff]
      unfold offP
      have e7 := hth x 7 a b (by omega) (by omega) (by omega)
      rw [e7, h4]
      constructor
      · rintro ⟨b1, b2, b3⟩
        refine ⟨b1, b2, fun z => b3 ?_⟩
        have := h.fit (sl := sl) ⟨b1, b2⟩ ⟨a, b⟩
        unfold fitV at this
        rw [this]; exact z
      · rintro ⟨b1, b2, b3⟩
        refine ⟨b1, b2, fun z => b3 ?_⟩
        have := h.fit (sl := sl) ⟨b1, b2⟩ ⟨a, b⟩
        unfold fitV at this
        rw [← this]; exact z)
    unfold sprF
    rw [show o + 13 + x - o - 13 = x by omega, hb, hth x 7 a b (by omega) (by omega) (by omega), h5]
  refine ⟨by rw [e4]; exact h0, by rw [e5]; exact ht, by rw [e4, sprF_out (by omega)]; exact h4, by rw [e5, sprF_out (by omega)]; exact h5, fun c k a b d e => ?_, fun x k a b d e f => ?_, ?_, fun c a b => ?_⟩
  · rw [e4] at b
    rw [sprF_out (by omega), sprF_out (by omega)]
    exact hch c k a b d e
  · rw [e5] at b
    by_cases k7 : k = 7
    · rw [k7]; exact q7 x a b
    · rw [sprF_out (by omega), sprF_out (by omega)]
      exact hth x k a b d e f
  · unfold sprF
    split
    · rfl
    · exact hw
  · rw [e4] at b
    rw [sprF_out (by omega), sprF_out (by omega), sprF_out (by omega), sprF_out (by omega), sprF_out (by omega)]
    exact hz c a b
theorem Sz.spr {v u : VT} {o t q sl : Int} (h : Sz v u o t) : Sz (sprV v o q sl) (sprV u o q sl) o t := by
  rw [sprV_eq, sprV_eq]
  exact h.grw.spr0
theorem Sz.nd {v u : VT} {o t s sl W : Int} (h : Sz v u o t) (hd : IsDeal (v o 4) (mayA v o s sl) W (dealV v o s sl)) : ∀ c, 0 ≤ c → c < v o 4 → ¬ dealV v o s sl c = t := by
  intro c a b e
  rcases hd.1.1.1 c a b with z | z
  · have := h.2.1; omega
  · have h3 := z.2.2.2.2.2
    rw [e] at h3
    have := h.2.2.2.2.2.2.2 c a b
    unfold fitV at h3
    rw [fit_small this.1] at h3
    exact h3 rfl
theorem Sz.yr {v u : VT} {o t s q sl W : Int} (h : Sz v u o t) (hd : IsDeal (v o 4) (mayA v o s sl) W (dealV v o s sl)) : Sz (yrV v o s q sl) (yrV u o s q sl) o t := by
  unfold yrV
  have h1 := (h.drv (h.nd hd)).win
  rw [drsV_45, drsV_45] at h1
  exact h1.spr
