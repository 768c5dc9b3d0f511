-- the text, as the class reads it: what a heap tells
theorem ux_ne {B : VT} {r i x a j : Int} (h : a ≠ r ∨ j ≠ i) : upd2 B r i x a j = B a j := upd2_ne _ _ _ _ _ _ h
theorem ux_at {v : VT} {r i j x : Int} (h : j = i) : upd2 v r i x r j = x := by
  rw [h]
  exact upd2_same _ _ _ _
def TapC (f : Int → Int) (L : Int) (v : VT) : Prop := v 2 1 = L ∧ (0 ≤ L ∧ L ≤ 400) ∧ (∀ p, 0 ≤ p → p < L → 0 ≤ f p ∧ f p ≤ 255) ∧ ∀ p, 0 ≤ p → p < L → v 3 p = if f p < 128 then f p else f p - 256
section TAP
variable {f : Int → Int} {L r i x p lo hi : Int} {v w u : VT}
theorem TapC.of (h : TapC f L v) (h2 : ∀ j, w 2 j = v 2 j) (h3 : ∀ j, w 3 j = v 3 j) : TapC f L w :=
  ⟨(h2 1).trans h.1, h.2.1, h.2.2.1, fun p a b => (h3 p).trans (h.2.2.2 p a b)⟩
theorem TapC.up (hr : ¬ r = 2 ∧ ¬ r = 3) (h : TapC f L v) : TapC f L (upd2 v r i x) :=
  h.of (fun j => ux_ne (Or.inl (fun e => hr.1 e.symm))) (fun j => ux_ne (Or.inl (fun e => hr.2 e.symm)))
theorem TapC.by (h : TapC f L v) (hp : 0 ≤ p) : p < L → 0 ≤ f p ∧ f p ≤ 255 := fun g => h.2.2.1 p hp g
theorem ok_byt (G : GT) (p : Int) (v : VT) (hT : TapC f L v) (hp : 0 ≤ p) : MP G yX5_byteAt cX5_byteAt 2 (some .int) 0 0 [vr 2, vi p] v (cby f L p) := by
  have h := ok_X5_byteAt G p v (by rw [hT.1]; exact hT.2.1)
  have e : (if 0 ≤ p ∧ p < v 2 1 then v 3 p else -1) = cby f L p := by
    rw [hT.1]
    unfold cby
    by_cases g : p < L
    · rw [if_pos ⟨hp, g⟩, if_pos g, hT.2.2.2 p hp g]
    · rw [if_neg (by omega), if_neg g]
  rw [e] at h
  exact h
/-- what the reading of a token, of a number, of a line leaves as it was -/
def FrN (v w : VT) : Prop := ∀ a j, (¬ a = 50 ∨ j < 2 ∨ 5 < j) → w a j = v a j
def FrR (v w : VT) : Prop := ∀ a j, (¬ a = 50 ∨ j < 2 ∨ (5 < j ∧ ¬ j = 10 ∧ ¬ j = 11)) → w a j = v a j
def FrV (v w : VT) : Prop := ∀ a j, (a < 27 ∨ 50 < a) → w a j = v a j
theorem FrN.rf : FrN v v := fun _ _ _ => rfl
theorem FrN.up (h : FrN v w) (hi : 2 ≤ i ∧ i ≤ 5) : FrN v (upd2 w 50 i x) := fun a j g => by
  rw [ux_ne (by omega)]
  exact h a j g
theorem FrN.toR (h : FrN v w) : FrR v w := fun a j g => h a j (by omega)
theorem FrR.rf : FrR v v := fun _ _ _ => rfl
theorem FrR.tr (h : FrR v w) (h2 : FrR w u) : FrR v u := fun a j g => (h2 a j g).trans (h a j g)
theorem FrR.up (h : FrR v w) (hi : (2 ≤ i ∧ i ≤ 5) ∨ i = 10 ∨ i = 11) : FrR v (upd2 w 50 i x) := fun a j g => by
  rw [ux_ne (by omega)]
  exact h a j g
theorem FrR.toV (h : FrR v w) : FrV v w := fun a j g => h a j (by omega)
theorem FrV.rf : FrV v v := fun _ _ _ => rfl
theorem FrV.tr (h : FrV v w) (h2 : FrV w u) : FrV v u := fun a j g => (h2 a j g).trans (h a j g)
theorem FrV.up (hr : 27 ≤ r ∧ r ≤ 50) (h : FrV v w) : FrV v (upd2 w r i x) := fun a j g => by
  rw [ux_ne (by omega)]
  exact h a j g
theorem TapC.fn (h : TapC f L v) (hF : FrN v w) : TapC f L w := h.of (fun j => hF 2 j (Or.inl (by decide))) (fun j => hF 3 j (Or.inl (by decide)))
theorem TapC.fr (h : TapC f L v) (hF : FrR v w) : TapC f L w := h.of (fun j => hF 2 j (Or.inl (by decide))) (fun j => hF 3 j (Or.inl (by decide)))
theorem TapC.fv (h : TapC f L v) (hF : FrV v w) : TapC f L w := h.of (fun j => hF 2 j (Or.inl (by decide))) (fun j => hF 3 j (Or.inl (by decide)))
/-- the token behind v 50 2 was read -/
def NxtQ (f : Int → Int) (L : Int) (v w : VT) : Prop := FrN v w ∧ w 50 3 = tK f L (v 50 2) ∧ w 50 4 = tS f L (v 50 2) ∧ (¬ tK f L (v 50 2) = 4 → w 50 2 = tE f L (v 50 2)) ∧ (tK f L (v 50 2) = 2 → w 50 5 = tV f L (v 50 2))
theorem Nxt_end (hF : FrN v w) (hs : w 50 2 = tS f L (v 50 2)) (h : L ≤ tS f L (v 50 2)) : NxtQ f L v (upd2 (upd2 w 50 4 (w 50 2)) 50 3 0) := by
  obtain ⟨k1, k2⟩ := tK_0 h
  refine ⟨(hF.up (by decide)).up (by decide), ?_, ?_, fun _ => ?_, fun h2 => by omega⟩
  · rw [ux_at rfl, k1]
  · rw [ux_ne (by decide), ux_at rfl, hs]
  · rw [ux_ne (by decide), ux_ne (by decide), hs, k2]
theorem Nxt_stop (hF : FrN v w) (hs : w 50 2 = tS f L (v 50 2)) (h : tS f L (v 50 2) < L) (h2 : f (tS f L (v 50 2)) = 59) : NxtQ f L v (upd2 (upd2 (upd2 w 50 4 (w 50 2)) 50 3 3) 50 2 (w 50 2 + 1)) := by
  obtain ⟨k1, k2⟩ := tK_3 h h2
  refine ⟨((hF.up (by decide)).up (by decide)).up (by decide), ?_, ?_, fun _ => ?_, fun h2 => by omega⟩
  · rw [ux_ne (by decide), ux_at rfl, k1]
  · rw [ux_ne (by decide), ux_ne (by decide), ux_at rfl, hs]
  · rw [ux_at rfl, hs, k2]
theorem Nxt_name (hF : FrN v u) (h3 : u 50 3 = 1) (h4 : u 50 4 = tS f L (v 50 2)) (hs : u 50 2 = scn 97 122 f L (tS f L (v 50 2))) (h : tS f L (v 50 2) < L) (h2 : 97 ≤ f (tS f L (v 50 2)) ∧ f (tS f L (v 50 2)) ≤ 122) : NxtQ f L v u := by
  obtain ⟨k1, k2⟩ := tK_1 h h2
  exact ⟨hF, by omega, h4, fun _ => by omega, fun h2 => by omega⟩
def valI (f : Int → Int) (s i x : Int) : Prop := (0 ≤ x ∧ x ≤ 999) ∧ (i = s → x = 0) ∧ (i = s + 1 → x = f s - 48) ∧ (i = s + 2 → x = 10 * (f s - 48) + f (s + 1) - 48) ∧ (s < i → 48 ≤ f s ∧ f s ≤ 57)
theorem valI.next {s i x y : Int} (h : valI f s i x) (hsi : s ≤ i) (hd : 48 ≤ f i ∧ f i ≤ 57) (hy : y = x % 100 * 10 + f i - 48) : valI f s (i + 1) y := by
  obtain ⟨h1, h2, h3, h4, h5⟩ := h
  have e0 : i = s → f i = f s := fun h => by rw [h]
  have e1 : i = s + 1 → f i = f (s + 1) := fun h => by rw [h]
  exact ⟨by omega, fun g => by omega, fun g => by have := h2 (by omega); have := e0 (by omega); omega, fun g => by have := h3 (by omega); have := h5 (by omega); have := e1 (by omega); omega, fun _ => by
    by_cases g : i = s
    · have := e0 g
      omega
    · exact h5 (by omega)⟩
theorem Nxt_num (hF : FrN v u) (h4 : u 50 4 = tS f L (v 50 2)) (hs : u 50 2 = scn 48 57 f L (tS f L (v 50 2))) (hv : valI f (tS f L (v 50 2)) (u 50 2) (u 50 5)) (h : tS f L (v 50 2) < L) (h1 : ¬ f (tS f L (v 50 2)) = 59) (h2 : ¬ (97 ≤ f (tS f L (v 50 2)) ∧ f (tS f L (v 50 2)) ≤ 122))
    (hx : (x = 2 ∧ (u 50 2 - u 50 4 = 1 ∨ u 50 2 - u 50 4 = 2)) ∨ (x = 4 ∧ ¬ u 50 2 - u 50 4 = 1 ∧ ¬ u 50 2 - u 50 4 = 2)) : NxtQ f L v (upd2 u 50 3 x) := by
  obtain ⟨k1, k2⟩ := tK_n h h1 h2
  have hx2 : x = tK f L (v 50 2) := by
    rw [k1]
    by_cases g : 48 ≤ f (tS f L (v 50 2)) ∧ f (tS f L (v 50 2)) ≤ 57
    · have := scn_pos h g
      split <;> omega
    · have := scn_no (L := L) (f := f) (p := tS f L (v 50 2)) (fun q => g q.2)
      split <;> omega
  refine ⟨hF.up (by decide), ?_, ?_, fun _ => ?_, fun h2 => ?_⟩
  · rw [ux_at rfl, hx2]
  · rw [ux_ne (by decide), h4]
  · rw [ux_ne (by decide), hs, k2]
  · obtain ⟨-, n2, n3, n4, n5⟩ := tok_num h2
    rw [ux_ne (by decide)]
    obtain ⟨-, -, v3, v4, -⟩ := hv
    unfold tV numF
    rw [n3, ← hs]
    rw [n3, ← hs] at n4 n5
    split
    · exact v3 (by omega)
    · exact v4 (by omega)
/-- a step's outcome: F says what is wrong, and where -/
def Out (F : Int × Int) (v w : VT) (x : Int) (ok : Prop) : Prop := (F.1 = 0 ∧ x = 1 ∧ w 50 10 = v 50 10 ∧ w 50 11 = v 50 11 ∧ ok) ∨ (¬ F.1 = 0 ∧ x = 0 ∧ w 50 10 = F.1 ∧ w 50 11 = F.2)
theorem Out.bd {F : Int × Int} {ok : Prop} (h : Out F v w x ok) : x = 0 ∨ x = 1 := by
  rcases h with h | h
  · exact Or.inr h.2.1
  · exact Or.inl h.2.1
theorem Out.bad {F : Int × Int} {ok : Prop} (h : Out F v w x ok) (hx : x = 0) : ¬ F.1 = 0 ∧ w 50 10 = F.1 ∧ w 50 11 = F.2 := by
  rcases h with h | h
  · omega
  · exact ⟨h.1, h.2.2⟩
theorem Out.good {F : Int × Int} {ok : Prop} (h : Out F v w x ok) (hx : ¬ x = 0) : F.1 = 0 ∧ w 50 10 = v 50 10 ∧ w 50 11 = v 50 11 ∧ ok := by
  rcases h with h | h
  · exact ⟨h.1, h.2.2⟩
  · omega
/-- the first step failed: so did both -/
theorem Out.no {F H : Int × Int} {ok : Prop} (h1 : ¬ F.1 = 0) (h2 : w 50 10 = F.1) (h3 : w 50 11 = F.2) : Out (orF F H) v w 0 ok := by
  unfold orF
  rw [if_neg h1]
  exact Or.inr ⟨h1, rfl, h2, h3⟩
theorem orF_0 {F H : Int × Int} (h : F.1 = 0) : orF F H = H := if_pos h
theorem orF_n {F H : Int × Int} (h : ¬ F.1 = 0) : orF F H = F := if_neg h
theorem Out.mono {F : Int × Int} {ok ok2 : Prop} (h : Out F u w x ok) (h1 : u 50 10 = v 50 10) (h2 : u 50 11 = v 50 11) (h3 : F.1 = 0 → ok → ok2) : Out F v w x ok2 := by
  rcases h with ⟨a, b, c, d, e⟩ | h
  · exact Or.inl ⟨a, b, c.trans h1, d.trans h2, h3 a e⟩
  · exact Or.inr h
/-- the village told, and what is said beside -/
def shV (v : VT) : VT := fun r j => if (0 ≤ r ∧ r ≤ 22) ∨ (r = 23 ∧ 6 ≤ j ∧ j ≤ 9) then v (27 + r) j else 0
theorem shV_at {r j : Int} (h : 0 ≤ r ∧ r ≤ 22) : shV v r j = v (27 + r) j := if_pos (Or.inl h)
theorem shV_23 {j : Int} (h : 6 ≤ j ∧ j ≤ 9) : shV v 23 j = v 50 j := if_pos (Or.inr ⟨rfl, h⟩)
theorem sh_fr (h : FrR v w) : shV w = shV v := by
  funext r j
  unfold shV
  split
  · exact h _ _ (by omega)
  · rfl
theorem sh_up {R : Int} (hR : R = 27 + r) (h : 0 ≤ r ∧ r ≤ 22) : shV (upd2 v R i x) = upd2 (shV v) r i x := by
  subst hR
  funext a j
  by_cases e : a = r ∧ j = i
  · rw [e.1, e.2, ux_at rfl, shV_at h, ux_at rfl]
  · rw [ux_ne (by omega)]
    unfold shV
    split
    · exact ux_ne (by omega)
    · rfl
theorem sh_u50 (h : 6 ≤ i ∧ i ≤ 9) : shV (upd2 v 50 i x) = upd2 (shV v) 23 i x := by
  funext a j
  by_cases e : a = 23 ∧ j = i
  · rw [e.1, e.2, ux_at rfl, shV_23 h, ux_at rfl]
  · rw [ux_ne (by omega)]
    unfold shV
    split
    · exact ux_ne (by omega)
    · rfl
theorem sh_o50 (h : i < 6 ∨ 9 < i) : shV (upd2 v 50 i x) = shV v := by
  funext a j
  unfold shV
  split
  · exact ux_ne (by omega)
  · rfl
theorem sh_plain {R s z l : Int} (hR : R = 27 + r) (h : 0 ≤ r ∧ r ≤ 22) : shV (plainF v R s z l) = plainF (shV v) r s z l := by
  unfold plainF
  rw [sh_up hR h, sh_up hR h, sh_up hR h, sh_up hR h, sh_up hR h, sh_up hR h, sh_up hR h, sh_up hR h]
end TAP
theorem strL_wB {k : Nat} (hk : k < 11) : strL.getD k 0 = (wB k).length ∧ (wB k).length ≤ 6 := (by decide : ∀ k : Nat, k < 11 → strL.getD k 0 = (wB k).length ∧ (wB k).length ≤ 6) k hk
theorem str_wB {k j : Nat} (hk : k < 11) (hj : j < (wB k).length) : strS k (j : Int) = (wB k).getD j 0 := by
  have key : ∀ k : Fin 11, ∀ j : Fin 6, j.val < (wB k.val).length → strS k.val (j.val : Int) = (wB k.val).getD j.val 0 := by decide +kernel
  have h6 := (strL_wB hk).2
  exact key ⟨k, hk⟩ ⟨j, by omega⟩ hj
section TAP2
variable {f : Int → Int} {L r i x p lo hi c : Int} {v w u : VT}
def NumQ (f : Int → Int) (L : Int) (v : VT) (lo hi x : Int) (w : VT) : Prop := FrR v w ∧ Out (nP f L (v 50 2) lo hi) v w x (w 50 2 = tE f L (v 50 2) ∧ w 50 5 = tV f L (v 50 2) ∧ tK f L (v 50 2) = 2 ∧ lo ≤ tV f L (v 50 2) ∧ tV f L (v 50 2) ≤ hi)
def EndQ (f : Int → Int) (L : Int) (v : VT) (x : Int) (w : VT) : Prop := FrR v w ∧ Out (sP f L (v 50 2)) v w x (w 50 2 = tE f L (v 50 2))
theorem num_bad (h : NxtQ f L v w) (hc : (c = 1 ∧ w 50 3 = 4) ∨ (c = 2 ∧ ¬ w 50 3 = 2 ∧ ¬ w 50 3 = 4) ∨ (c = 3 ∧ w 50 3 = 2 ∧ ¬ (lo ≤ w 50 5 ∧ w 50 5 ≤ hi))) : NumQ f L v lo hi 0 (upd2 (upd2 w 50 10 c) 50 11 (w 50 4)) := by
  obtain ⟨h1, h2, h3, h4, h5⟩ := h
  have e : (nP f L (v 50 2) lo hi).1 = c := by
    show (if tK f L (v 50 2) = 2 then (if lo ≤ tV f L (v 50 2) ∧ tV f L (v 50 2) ≤ hi then (0 : Int) else 3) else if tK f L (v 50 2) = 4 then 1 else 2) = c
    by_cases g : tK f L (v 50 2) = 2
    · have := h5 g
      rw [if_pos g, if_neg (by omega)]
      omega
    · rw [if_neg g]
      split <;> omega
  exact ⟨(h1.toR.up (by decide)).up (by decide), Or.inr ⟨by omega, rfl, by rw [ux_ne (by decide), ux_at rfl, e], by rw [ux_at rfl, h3]; rfl⟩⟩
theorem num_ok (h : NxtQ f L v w) (h3 : w 50 3 = 2) (hb : lo ≤ w 50 5 ∧ w 50 5 ≤ hi) : NumQ f L v lo hi 1 w := by
  obtain ⟨h1, h2, -, h4, h5⟩ := h
  have g : tK f L (v 50 2) = 2 := by omega
  have h6 := h5 g
  refine ⟨h1.toR, Or.inl ⟨?_, rfl, h1 50 10 (by decide), h1 50 11 (by decide), h4 (by omega), h6, g, by omega, by omega⟩⟩
  show (if tK f L (v 50 2) = 2 then (if lo ≤ tV f L (v 50 2) ∧ tV f L (v 50 2) ≤ hi then (0 : Int) else 3) else if tK f L (v 50 2) = 4 then 1 else 2) = 0
  rw [if_pos g, if_pos (by omega)]
theorem stp_bad (h : NxtQ f L v w) (hc : (c = 1 ∧ w 50 3 = 4) ∨ (c = 2 ∧ ¬ w 50 3 = 3 ∧ ¬ w 50 3 = 4)) : EndQ f L v 0 (upd2 (upd2 w 50 10 c) 50 11 (w 50 4)) := by
  obtain ⟨h1, h2, h3, h4, h5⟩ := h
  have e : (sP f L (v 50 2)).1 = c := by
    show (if tK f L (v 50 2) = 3 then (0 : Int) else if tK f L (v 50 2) = 4 then 1 else 2) = c
    rw [if_neg (by omega)]
    split <;> omega
  exact ⟨(h1.toR.up (by decide)).up (by decide), Or.inr ⟨by omega, rfl, by rw [ux_ne (by decide), ux_at rfl, e], by rw [ux_at rfl, h3]; rfl⟩⟩
theorem stp_ok (h : NxtQ f L v w) (h3 : w 50 3 = 3) : EndQ f L v 1 w := by
  obtain ⟨h1, h2, -, h4, h5⟩ := h
  have g : tK f L (v 50 2) = 3 := by omega
  refine ⟨h1.toR, Or.inl ⟨?_, rfl, h1 50 10 (by decide), h1 50 11 (by decide), h4 (by omega)⟩⟩
  show (if tK f L (v 50 2) = 3 then (0 : Int) else if tK f L (v 50 2) = 4 then 1 else 2) = 0
  rw [if_pos g]
end TAP2
