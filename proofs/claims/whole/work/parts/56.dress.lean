-- a deal put on; a year; years ahead
def drsN (v : VT) (o sl : Int) (g : Int → Int) : Nat → VT
  | 0 => v
  | k + 1 => if 0 ≤ g (k : Int) ∧ g (k : Int) < v o 5 then putF (drsN v o sl g k) (o + 13 + g (k : Int)) (k : Int) (v (o + 5 + (k : Int)) 0) sl else drsN v o sl g k
theorem drs_step {v : VT} {o sl c : Int} {g : Int → Int} (h : 0 ≤ c) : drsN v o sl g (c + 1).toNat = if 0 ≤ g c ∧ g c < v o 5 then putF (drsN v o sl g c.toNat) (o + 13 + g c) c (v (o + 5 + c) 0) sl else drsN v o sl g c.toNat := by
  have e : (c + 1).toNat = c.toNat + 1 := by omega
  rw [e, drsN, Int.toNat_of_nonneg h]
theorem drs_out {v : VT} {o sl a j : Int} {g : Int → Int} (h : a < o + 13 ∨ o + 13 + v o 5 ≤ a) : ∀ k : Nat, drsN v o sl g k a j = v a j
  | 0 => rfl
  | k + 1 => by
    rw [drsN]
    split
    · rw [putF_ne (by omega), drs_out h k]
    · exact drs_out h k
noncomputable def drsV (v : VT) (o s sl : Int) : VT := drsN (undF v o s (v o 5)) o sl (dealV v o s sl) (v o 4).toNat
theorem putF_congr {v u : VT} {r p c b sl : Int} (h : ∀ j, 0 ≤ j → j < 8 → v r j = u p j) : ∀ j, 0 ≤ j → j < 8 → putF v r c b sl r j = putF u p c b sl p j := by
  intro j h0 h8
  rw [putF_at, putF_at, h 1 (by omega) (by omega), h 2 (by omega) (by omega), h 3 (by omega) (by omega), h 4 (by omega) (by omega), h 5 (by omega) (by omega), h 6 (by omega) (by omega), h j h0 h8]
theorem Sm.put {v u : VT} {o p c t b sl : Int} (h : Sm v o u p) (ht : 0 ≤ t ∧ t < u p 5) (h8 : u p 4 ≤ 8) : Sm (putF v (o + 13 + t) c b sl) o (putF u (p + 13 + t) c b sl) p := by
  have e4 : putF u (p + 13 + t) c b sl p 4 = u p 4 := putF_ne (by omega)
  have e5 : putF u (p + 13 + t) c b sl p 5 = u p 5 := putF_ne (by omega)
  refine ⟨by rw [e4, putF_ne (by omega)]; exact h.1, by rw [e5, putF_ne (by omega)]; exact h.2.1, fun d k a1 a2 a3 a4 => ?_, fun x k a1 a2 a3 a4 => ?_⟩
  · rw [e4] at a2
    rw [putF_ne (by omega), putF_ne (by omega)]
    exact h.2.2.1 d k a1 a2 a3 a4
  · rw [e5] at a2
    by_cases hx : x = t
    · subst hx
      exact putF_congr (fun j b1 b2 => h.2.2.2 x j a1 a2 b1 b2) k a3 a4
    · rw [putF_ne (by omega), putF_ne (by omega)]
      exact h.2.2.2 x k a1 a2 a3 a4
theorem Sm.drs {v u : VT} {o p sl : Int} {g : Int → Int} (h : Sm v o u p) (h8 : u p 4 ≤ 8) : ∀ k : Nat, (k : Int) ≤ u p 4 → Sm (drsN v o sl g k) o (drsN u p sl g k) p
  | 0, _ => h
  | k + 1, hk => by
    rw [drsN, drsN]
    have e := h.drs (sl := sl) (g := g) h8 k (by omega)
    have e5 : drsN u p sl g k p 5 = u p 5 := drs_out (by omega) k
    have e4 : drsN u p sl g k p 4 = u p 4 := drs_out (by omega) k
    by_cases hc : 0 ≤ g (k : Int) ∧ g (k : Int) < u p 5
    · rw [if_pos (by rw [h.2.1]; exact hc), if_pos hc, h.2.2.1 (k : Int) 0 (by omega) (by omega) (by omega) (by omega)]
      exact e.put (by rw [e5]; exact hc) (by rw [e4]; exact h8)
    · rw [if_neg (by rw [h.2.1]; exact hc), if_neg hc]
      exact e
theorem Sm.und {v u : VT} {o p s : Int} (h : Sm v o u p) (h8 : u p 4 ≤ 8) : Sm (undF v o s (v o 5)) o (undF u p s (u p 5)) p := by
  have e4 : undF u p s (u p 5) p 4 = u p 4 := undF_out (by omega)
  have e5 : undF u p s (u p 5) p 5 = u p 5 := undF_out (by omega)
  refine ⟨by rw [e4, undF_out (by omega)]; exact h.1, by rw [e5, undF_out (by omega)]; exact h.2.1, fun d k a1 a2 a3 a4 => ?_, fun x k a1 a2 a3 a4 => ?_⟩
  · rw [e4] at a2
    rw [undF_out (by omega), undF_out (by omega)]
    exact h.2.2.1 d k a1 a2 a3 a4
  · rw [e5] at a2
    unfold undF
    have q0 := h.2.2.2 x 0 a1 a2 (by omega) (by omega)
    have q := h.2.2.2 x k a1 a2 a3 a4
    have e := h.2.1
    by_cases hz : k = 7 ∧ u (p + 13 + x) 0 = s
    · rw [if_pos ⟨by omega, by omega, hz.1, by rw [q0]; exact hz.2⟩, if_pos ⟨by omega, by omega, hz⟩]
    · rw [if_neg (fun z => hz ⟨z.2.2.1, by rw [← q0]; exact z.2.2.2⟩), if_neg (fun z => hz z.2.2)]
      exact q
theorem Sm.drv {v u : VT} {o p s sl : Int} (h : Sm v o u p) (h8 : 0 ≤ u p 4 ∧ u p 4 ≤ 8) : Sm (drsV v o s sl) o (drsV u p s sl) p := by
  unfold drsV
  rw [h.deal, h.1]
  have e4 : undF u p s (u p 5) p 4 = u p 4 := undF_out (by omega)
  exact (h.und h8.2).drs (by rw [e4]; exact h8.2) _ (by rw [e4]; omega)
theorem winF_in {v : VT} {o t j : Int} (ht : 0 ≤ t ∧ t < v o 5) : winF v o (v o 5) (o + 13 + t) j = if ¬ v (o + 13 + t) 7 = -4 then (if j = 4 then v (o + 13 + t) 4 + 1 else if j = 7 ∧ outI (v (o + 13 + t) 1) (v (o + 13 + t) 3) (v (o + 13 + t) 4 + 1) = 1 then -4 else v (o + 13 + t) j) else v (o + 13 + t) j := by
  unfold winF
  by_cases h : v (o + 13 + t) 7 = -4
  · rw [if_neg (by omega), if_neg (by omega)]
  · rw [if_pos ⟨by omega, by omega, h⟩, if_pos h]
theorem Sm.win {v u : VT} {o p : Int} (h : Sm v o u p) (h8 : u p 4 ≤ 8) : Sm (winF v o (v o 5)) o (winF u p (u p 5)) p := by
  have e4 : winF u p (u p 5) p 4 = u p 4 := winF_out (by omega)
  have e5 : winF u p (u p 5) p 5 = u p 5 := winF_out (by omega)
  refine ⟨by rw [e4, winF_out (by omega)]; exact h.1, by rw [e5, winF_out (by omega)]; exact h.2.1, fun d k a1 a2 a3 a4 => ?_, fun x k a1 a2 a3 a4 => ?_⟩
  · rw [e4] at a2
    rw [winF_out (by omega), winF_out (by omega)]
    exact h.2.2.1 d k a1 a2 a3 a4
  · rw [e5] at a2
    have q := fun k (z : 0 ≤ k) (z2 : k < 8) => h.2.2.2 x k a1 a2 z z2
    rw [winF_in ⟨a1, by rw [h.2.1]; exact a2⟩, winF_in ⟨a1, a2⟩, q 1 (by omega) (by omega), q 3 (by omega) (by omega), q 4 (by omega) (by omega), q 7 (by omega) (by omega), q k a3 a4]
theorem Sm.winN {v u : VT} {o p : Int} (h : Sm v o u p) (hb : 0 ≤ u p 5) : cntN (winP v o) (v o 5).toNat = cntN (winP u p) (u p 5).toNat := by
  rw [h.2.1]
  refine cnt_congr _ (fun y a b => ?_)
  have b2 : y < u p 5 := by omega
  have q := fun k (z : 0 ≤ k) (z2 : k < 8) => h.2.2.2 y k a b2 z z2
  unfold winP
  rw [q 1 (by omega) (by omega), q 3 (by omega) (by omega), q 4 (by omega) (by omega), q 7 (by omega) (by omega)]
theorem Sm.grw {v u : VT} {o p q : Int} (h : Sm v o u p) (h8 : u p 4 ≤ 8) : Sm (grwF v o q (v o 4)) o (grwF u p q (u p 4)) p := by
  have e4 : grwF u p q (u p 4) p 4 = u p 4 := grwF_out (by omega)
  have e5 : grwF u p q (u p 4) p 5 = u p 5 := grwF_out (by omega)
  have e := h.1
  refine ⟨by rw [e4, grwF_out (by omega)]; exact h.1, by rw [e5, grwF_out (by omega)]; exact h.2.1, fun d k a1 a2 a3 a4 => ?_, fun x k a1 a2 a3 a4 => ?_⟩
  · rw [e4] at a2
    have q := fun k (z : 0 ≤ k) (z2 : k < 3) => h.2.2.1 d k a1 a2 z z2
    unfold grwF
    by_cases hk : k = 0
    · rw [if_pos ⟨by omega, by omega, hk⟩, if_pos ⟨by omega, by omega, hk⟩]
      unfold grwV
      rw [q 0 (by omega) (by omega), q 1 (by omega) (by omega), q 2 (by omega) (by omega)]
    · rw [if_neg (fun z => hk z.2.2), if_neg (fun z => hk z.2.2)]
      exact q k a3 a4
  · rw [e5] at a2
    rw [grwF_out (by omega), grwF_out (by omega)]
    exact h.2.2.2 x k a1 a2 a3 a4
theorem Sm.offb {v u : VT} {o p sl x : Int} (h : Sm v o u p) (hx : 0 ≤ x ∧ x < u p 5) : offB v o (v o 4) sl x = offB u p (u p 4) sl x := by
  have q := fun k (z : 0 ≤ k) (z2 : k < 8) => h.2.2.2 x k hx.1 hx.2 z z2
  apply Bool.eq_iff_iff.mpr
  rw [offB_iff, offB_iff]
  unfold offP
  rw [h.1, q 1 (by omega) (by omega), q 2 (by omega) (by omega), q 3 (by omega) (by omega), q 4 (by omega) (by omega), q 5 (by omega) (by omega), q 6 (by omega) (by omega), q 7 (by omega) (by omega)]
  constructor
  · rintro ⟨b1, b2, b3⟩
    rw [h.2.2.1 _ 0 b1 b2 (by omega) (by omega)] at b3
    exact ⟨b1, b2, b3⟩
  · rintro ⟨b1, b2, b3⟩
    rw [← h.2.2.1 _ 0 b1 b2 (by omega) (by omega)] at b3
    exact ⟨b1, b2, b3⟩
theorem Sm.spr0 {v u : VT} {o p sl : Int} (h : Sm v o u p) (h8 : u p 4 ≤ 8) : Sm (sprF v o (v o 4) sl (v o 5)) o (sprF u p (u p 4) sl (u p 5)) p := by
  have e4 : sprF u p (u p 4) sl (u p 5) p 4 = u p 4 := sprF_out (by omega)
  have e5 : sprF u p (u p 4) sl (u p 5) p 5 = u p 5 := sprF_out (by omega)
  have e := h.2.1
  refine ⟨by rw [e4, sprF_out (by omega)]; exact h.1, by rw [e5, sprF_out (by omega)]; exact h.2.1, fun d k a1 a2 a3 a4 => ?_, fun x k a1 a2 a3 a4 => ?_⟩
  · rw [e4] at a2
    rw [sprF_out (by omega), sprF_out (by omega)]
    exact h.2.2.1 d k a1 a2 a3 a4
  · rw [e5] at a2
    have q := h.2.2.2 x k a1 a2 a3 a4
    have ho := h.offb (sl := sl) ⟨a1, a2⟩
    unfold sprF
    rw [show o + 13 + x - o - 13 = x by omega, show p + 13 + x - p - 13 = x by omega, ho]
    by_cases hz : k = 7 ∧ offB u p (u p 4) sl x = true
    · rw [if_pos ⟨by omega, by omega, hz⟩, if_pos ⟨by omega, by omega, hz⟩]
    · rw [if_neg (fun z => hz z.2.2), if_neg (fun z => hz z.2.2)]
      exact q
noncomputable def sprV (v : VT) (o q sl : Int) : VT := sprF (grwF v o q (v o 4)) o (v o 4) sl (v o 5)
theorem sprV_eq {v : VT} {o q sl : Int} : sprV v o q sl = sprF (grwF v o q (v o 4)) o (grwF v o q (v o 4) o 4) sl (grwF v o q (v o 4) o 5) := by
  rw [grwF_out (by omega), grwF_out (by omega)]
  rfl
theorem Sm.spr {v u : VT} {o p q sl : Int} (h : Sm v o u p) (h8 : u p 4 ≤ 8) : Sm (sprV v o q sl) o (sprV u p q sl) p := by
  rw [sprV_eq, sprV_eq]
  exact (h.grw h8).spr0 (by rw [grwF_out (by omega)]; exact h8)
theorem Sm.str {v u : VT} {o p s l : Int} (h : Sm v o u p) (h8 : u p 4 ≤ 8) : Sm (strF v o s l (v o 5)) o (strF u p s l (u p 5)) p := by
  have e4 : strF u p s l (u p 5) p 4 = u p 4 := strF_out (by omega)
  have e5 : strF u p s l (u p 5) p 5 = u p 5 := strF_out (by omega)
  have e := h.2.1
  refine ⟨by rw [e4, strF_out (by omega)]; exact h.1, by rw [e5, strF_out (by omega)]; exact h.2.1, fun d k a1 a2 a3 a4 => ?_, fun x k a1 a2 a3 a4 => ?_⟩
  · rw [e4] at a2
    rw [strF_out (by omega), strF_out (by omega)]
    exact h.2.2.1 d k a1 a2 a3 a4
  · rw [e5] at a2
    have q := fun k (z : 0 ≤ k) (z2 : k < 8) => h.2.2.2 x k a1 a2 z z2
    unfold strF
    by_cases hz : k = 3 ∧ u (p + 13 + x) 0 = s
    · rw [if_pos ⟨by omega, by omega, hz.1, by rw [q 0 (by omega) (by omega)]; exact hz.2⟩, if_pos ⟨by omega, by omega, hz⟩]
      unfold lasV
      rw [q 3 (by omega) (by omega)]
    · rw [if_neg (fun z => hz ⟨z.2.2.1, by rw [← q 0 (by omega) (by omega)]; exact z.2.2.2⟩), if_neg (fun z => hz z.2.2)]
      exact q k a3 a4
theorem WFV.sprv {v : VT} {o sl q : Int} (hw : WFV v o) : WFV (sprV v o q sl) o := hw.spr
/-- what dressing does, step by step -/
def DrsI (v : VT) (o s sl : Int) (g : Int → Int) (k : Int) (u : VT) : Prop :=
  WFV u o ∧ (∀ a j, (a < o + 13 ∨ o + 13 + v o 5 ≤ a) → u a j = v a j) ∧ (∀ t j, 0 ≤ t → t < v o 5 → (∀ c, 0 ≤ c → c < k → ¬ g c = t) → u (o + 13 + t) j = undF v o s (v o 5) (o + 13 + t) j) ∧ (∀ c, 0 ≤ c → c < k → ¬ g c = -4 → u (o + 13 + g c) 7 = c) ∧ (∀ t, 0 ≤ t → t < v o 5 → u (o + 13 + t) 0 = v (o + 13 + t) 0)
theorem und_ne7 {v : VT} {o s n t j : Int} (h : ¬ j = 7) : undF v o s n (o + 13 + t) j = v (o + 13 + t) j := undF_out (by omega)
theorem und_7 {v : VT} {o s t : Int} (ht : 0 ≤ t ∧ t < v o 5) : undF v o s (v o 5) (o + 13 + t) 7 = if v (o + 13 + t) 0 = s then -4 else v (o + 13 + t) 7 := by
  unfold undF
  by_cases h : v (o + 13 + t) 0 = s
  · rw [if_pos ⟨by omega, by omega, rfl, h⟩, if_pos h]
  · rw [if_neg (fun z => h z.2.2.2), if_neg h]
theorem fitV_of {v u : VT} {o p c t sl : Int} (hc : v (o + 5 + c) 0 = u (p + 5 + c) 0) (ht : ∀ j, 0 < j → j < 7 → v (o + 13 + t) j = u (p + 13 + t) j) : fitV v o c t sl = fitV u p c t sl := by
  unfold fitV
  rw [hc, ht 1 (by omega) (by omega), ht 2 (by omega) (by omega), ht 3 (by omega) (by omega), ht 4 (by omega) (by omega), ht 5 (by omega) (by omega), ht 6 (by omega) (by omega)]
theorem drs_inv {v : VT} {o s sl : Int} {g : Int → Int} (hw : WFV v o) (hm : Mtc (v o 4) (mayA v o s sl) g) : ∀ k : Nat, (k : Int) ≤ v o 4 → DrsI v o s sl g k (drsN (undF v o s (v o 5)) o sl g k)
  | 0, _ => ⟨hw.und, fun a j h => undF_out (by omega), fun _ _ _ _ _ => rfl, fun c h1 h2 => by omega, fun t _ _ => und_ne7 (by omega)⟩
  | k + 1, hk => by
    have ih := drs_inv hw hm k (by omega)
    obtain ⟨i1, i2, i3, i4, i5⟩ := ih
    have h8 := hw.1
    have e5 : undF v o s (v o 5) o 5 = v o 5 := undF_out (by omega)
    have ec : undF v o s (v o 5) (o + 5 + (k : Int)) 0 = v (o + 5 + (k : Int)) 0 := undF_out (by omega)
    rw [drsN, e5, ec]
    rcases hm.1 (k : Int) (by omega) (by omega) with hz | hz
    · rw [if_neg (by omega)]
      refine ⟨i1, i2, fun t j h1 h2 h3 => i3 t j h1 h2 (fun c a b => h3 c a (by omega)), fun c h1 h2 h3 => ?_, i5⟩
      by_cases hc : c = k
      · rw [hc] at h3; exact absurd hz h3
      · exact i4 c h1 (by omega) h3
    · obtain ⟨m1, m2, m3, m4, m5, m6⟩ := hz
      have hin : ∀ c, 0 ≤ c → c < v o 4 → ¬ c = k → ¬ g c = g (k : Int) := fun c a b d e => d (hm.2 c k a b m1 m2 (by omega) e)
      rw [if_pos ⟨m3, m4⟩]
      generalize hu : drsN (undF v o s (v o 5)) o sl g k = u at *
      have u5 : u o 5 = v o 5 := i2 o 5 (by omega)
      have u4 : u o 4 = v o 4 := i2 o 4 (by omega)
      have uc : u (o + 5 + (k : Int)) 0 = v (o + 5 + (k : Int)) 0 := i2 _ _ (by omega)
      have hfit : fitV u o k (g k) sl = fitV v o k (g k) sl := fitV_of uc (fun j a b => (i3 _ j m3 m4 (fun c a b => hin c a (by omega) (by omega))).trans (und_ne7 (by omega)))
      rw [← uc]
      refine ⟨i1.put ⟨m1, by rw [u4]; exact m2⟩ ⟨m3, by rw [u5]; exact m4⟩ (by rw [hfit]; exact m6) (fun x a b d e f => ?_), fun a j h => ?_, fun t j h1 h2 h3 => ?_, fun c h1 h2 h3 => ?_, fun t h1 h2 => ?_⟩
      · rw [u5] at b
        rw [i5 x a b, i5 _ m3 m4, m5] at e
        by_cases hx : ∃ c, 0 ≤ c ∧ c < (k : Int) ∧ g c = x
        · obtain ⟨c, c1, c2, c3⟩ := hx
          have := i4 c c1 c2 (by omega)
          rw [c3, f] at this
          omega
        · have := i3 x 7 a b (fun c c1 c2 c3 => hx ⟨c, c1, c2, c3⟩)
          rw [f, und_7 ⟨a, b⟩, if_pos e] at this
          omega
      · rw [putF_ne (by omega)]
        exact i2 a j h
      · rw [putF_ne (by have := h3 k m1 (by omega); omega)]
        exact i3 t j h1 h2 (fun c a b => h3 c a (by omega))
      · by_cases hc : c = k
        · rw [hc, putF_at, if_pos rfl]
        · rw [putF_ne (by have := hin c h1 (by omega) hc; omega)]
          exact i4 c h1 (by omega) h3
      · by_cases ht : t = g k
        · rw [ht, putF_at, if_neg (by omega), if_neg (by omega), if_neg (by omega), ← ht]
          exact i5 t h1 h2
        · rw [putF_ne (by omega)]
          exact i5 t h1 h2
theorem mayA_mtc {v : VT} {o s sl W : Int} {g : Int → Int} (h : IsDeal (v o 4) (mayA v o s sl) W g) : Mtc (v o 4) (mayA v o s sl) g := h.1.1
theorem WFV.drv {v : VT} {o s sl W : Int} (hw : WFV v o) (hd : IsDeal (v o 4) (mayA v o s sl) W (dealV v o s sl)) : WFV (drsV v o s sl) o :=
  (drs_inv hw hd.1.1 (v o 4).toNat (by have := hw.1; omega)).1
theorem drsV_out {v : VT} {o s sl a j : Int} (h : a < o + 13 ∨ o + 13 + v o 5 ≤ a) : drsV v o s sl a j = v a j := by
  unfold drsV
  rw [drs_out (by rw [undF_out (by omega)]; exact h), undF_out (by omega)]
noncomputable def newV (v : VT) (o s sl : Int) : Int := v o 4 - warmV v o s sl
theorem Sm.new {v u : VT} {o p s sl : Int} (h : Sm v o u p) : newV v o s sl = newV u p s sl := by
  unfold newV
  rw [h.warm, h.1]
noncomputable def yrV (v : VT) (o s q sl : Int) : VT := sprV (winF (drsV v o s sl) o (v o 5)) o q sl
theorem drsV_45 {v : VT} {o s sl j : Int} : drsV v o s sl o j = v o j := drsV_out (by omega)
theorem Sm.yr {v u : VT} {o p s q sl : Int} (h : Sm v o u p) (h8 : 0 ≤ u p 4 ∧ u p 4 ≤ 8) : Sm (yrV v o s q sl) o (yrV u p s q sl) p := by
  unfold yrV
  have h1 := h.drv (s := s) (sl := sl) h8
  have h2 := h1.win (by rw [drsV_45]; exact h8.2)
  rw [drsV_45, drsV_45] at h2
  exact h2.spr (by rw [winF_out (by omega), drsV_45]; exact h8.2)
noncomputable def yrsN (v : VT) (o s q sl : Int) : Nat → VT
  | 0 => v
  | k + 1 => yrV (yrsN v o s q sl k) o s q sl
theorem Sm.yrs {v u : VT} {o p s q sl : Int} (h : Sm v o u p) (h8 : 0 ≤ u p 4 ∧ u p 4 ≤ 8) : ∀ k : Nat, Sm (yrsN v o s q sl k) o (yrsN u p s q sl k) p ∧ yrsN u p s q sl k p 4 = u p 4
  | 0 => ⟨h, rfl⟩
  | k + 1 => by
    have ih := h.yrs (s := s) (q := q) (sl := sl) h8 k
    refine ⟨ih.1.yr (by rw [ih.2]; exact h8), ?_⟩
    rw [yrsN]
    unfold yrV
    unfold sprV
    rw [sprF_out (by omega), grwF_out (by omega), winF_out (by omega), drsV_45]
    exact ih.2
/-- NEW in year k; and of the first y years -/
noncomputable def ahdN (v : VT) (o s q sl : Int) (k : Nat) : Int := newV (yrsN v o s q sl k) o s sl
noncomputable def ahdS (v : VT) (o s q sl : Int) : Nat → Int
  | 0 => 0
  | k + 1 => ahdS v o s q sl k + ahdN v o s q sl k
theorem Sm.ahn {v u : VT} {o p s q sl : Int} (h : Sm v o u p) (h8 : 0 ≤ u p 4 ∧ u p 4 ≤ 8) (k : Nat) : ahdN v o s q sl k = ahdN u p s q sl k := by
  unfold ahdN
  exact (h.yrs h8 k).1.new
theorem Sm.ahs {v u : VT} {o p s q sl : Int} (h : Sm v o u p) (h8 : 0 ≤ u p 4 ∧ u p 4 ≤ 8) : ∀ k : Nat, ahdS v o s q sl k = ahdS u p s q sl k
  | 0 => rfl
  | k + 1 => by
    unfold ahdS
    rw [h.ahs h8 k, h.ahn h8 k]
