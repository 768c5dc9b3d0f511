-- swaps until there is none
theorem swapQ_one {P : Int → Int → Int → Prop} {nC x y : Int} (hn : nC ≤ 10) (h : swapQ P nC x) (h2 : swapQ P nC y) : x = y := by
  rcases h with ⟨a1, a2⟩ | ⟨s, a, b, a1, a2, a3, a4, a5, a6, a7, a8⟩ <;> rcases h2 with ⟨c1, c2⟩ | ⟨s2, a', b', c1, c2, c3, c4, c5, c6, c7, c8⟩
  · omega
  · exact absurd c7 (a2 s2 a' b' c2 c3 c4 c5 c6)
  · exact absurd a7 (c2 s a b a2 a3 a4 a5 a6)
  · have e1 : ¬ (s2 < s ∨ (s2 = s ∧ (a' < a ∨ (a' = a ∧ b' < b)))) := fun z => a8 s2 a' b' c2 c4 c5 c6 z c7
    have e2 : ¬ (s < s2 ∨ (s = s2 ∧ (a < a' ∨ (a = a' ∧ b < b')))) := fun z => c8 s a b a2 a4 a5 a6 z a7
    omega
noncomputable def fstS (v : VT) (o sl : Int) : Int := Classical.epsilon (fun x => swapQ (swp v o sl) (v o 4) x)
theorem fst_is {v : VT} {o sl x : Int} (hn : v o 4 ≤ 10) (h : swapQ (swp v o sl) (v o 4) x) : x = fstS v o sl ∧ swapQ (swp v o sl) (v o 4) (fstS v o sl) := by
  have h2 : swapQ (swp v o sl) (v o 4) (fstS v o sl) := Classical.epsilon_spec (p := fun x => swapQ (swp v o sl) (v o 4) x) ⟨x, h⟩
  exact ⟨swapQ_one hn h h2, h2⟩
noncomputable def swpV (v : VT) (o sl : Int) : VT := swF v o (fstS v o sl / 100) (fstS v o sl / 10 % 10) (fstS v o sl % 10)
noncomputable def stlN (v : VT) (o sl : Int) : Nat → VT
  | 0 => v
  | k + 1 => swpV (stlN v o sl k) o sl
theorem stl_step {v : VT} {o sl k : Int} (h : 0 ≤ k) : stlN v o sl (k + 1).toNat = swpV (stlN v o sl k.toNat) o sl := by
  have e : (k + 1).toNat = k.toNat + 1 := by omega
  rw [e, stlN]
def sumN (f : Int → Int) : Nat → Int
  | 0 => 0
  | k + 1 => sumN f k + f (k : Int)
theorem sum_same {f g : Int → Int} : ∀ n : Nat, (∀ y : Int, 0 ≤ y → y < n → g y = f y) → sumN g n = sumN f n
  | 0, _ => rfl
  | n + 1, h => by
    rw [sumN, sumN, h (n : Int) (by omega) (by omega), sum_same n (fun y a b => h y a (by omega))]
theorem sum_at {f g : Int → Int} {x : Int} : ∀ n : Nat, 0 ≤ x → x < n → (∀ y : Int, 0 ≤ y → y < n → ¬ y = x → g y = f y) → sumN g n = sumN f n + (g x - f x)
  | 0, h1, h2, _ => by omega
  | n + 1, h1, h2, h => by
    rw [sumN, sumN]
    by_cases e : x = (n : Int)
    · rw [sum_same n (fun y a b => h y a (by omega) (by omega)), e]
      omega
    · rw [sum_at n h1 (by omega) (fun y a b => h y a (by omega)), h (n : Int) (by omega) (by omega) (fun z => e z.symm)]
      omega
theorem sum_bd {f : Int → Int} {m : Int} : ∀ n : Nat, (∀ y : Int, 0 ≤ y → y < n → 0 ≤ f y ∧ f y ≤ m) → 0 ≤ sumN f n ∧ sumN f n ≤ m * n
  | 0, _ => by simp [sumN]
  | n + 1, h => by
    have h1 := sum_bd (f := f) (m := m) n (fun y a b => h y a (by omega))
    have h2 := h (n : Int) (by omega) (by omega)
    rw [sumN]
    have e : m * ((n + 1 : Nat) : Int) = m * (n : Int) + m := by
      rw [Int.natCast_add, Int.mul_add]
      simp
    omega
/-- what is liked of what is worn -/
def potF (v : VT) (o : Int) : Int → Int := fun t => if 0 ≤ v (o + 13 + t) 7 then v (o + 3) (v (o + 13 + t) 7 * 10 + t) else 0
def LikOK (v : VT) (o : Int) : Prop := ∀ i, 0 ≤ i → i < 80 → 0 ≤ v (o + 3) i ∧ v (o + 3) i ≤ 9
theorem pot_bd {v : VT} {o : Int} (hw : WFV v o) (hl : LikOK v o) : 0 ≤ sumN (potF v o) (v o 5).toNat ∧ sumN (potF v o) (v o 5).toNat ≤ 90 := by
  have h1 := hw.1
  have h2 := hw.2.1
  have := sum_bd (f := potF v o) (m := 9) (v o 5).toNat (fun y a b => by
    have h9 := (hw.2.2.2.1 y a (by omega)).2.2.2.2.2.2.2.2.1
    unfold potF
    split
    · exact hl _ (by omega) (by omega)
    · omega)
  omega
theorem swp_facts {v : VT} {o sl s a b : Int} (hw : WFV v o) (ha : 0 ≤ a ∧ a < b ∧ b < v o 4) (h : swp v o sl s a b) : ∃ x y, wornI v o a s = x ∧ wornI v o b s = y ∧ (0 ≤ x ∧ x < v o 5) ∧ (0 ≤ y ∧ y < v o 5) ∧ ¬ x = y ∧ v (o + 13 + x) 7 = a ∧ v (o + 13 + y) 7 = b ∧ v (o + 13 + x) 0 = s ∧ v (o + 13 + y) 0 = s ∧
    fitV v o a y sl = 1 ∧ fitV v o b x sl = 1 ∧ v (o + 3) (a * 10 + x) < v (o + 3) (a * 10 + y) ∧ v (o + 3) (b * 10 + y) < v (o + 3) (b * 10 + x) ∧ swF v o s a b = upd2 (upd2 v (o + 13 + x) 7 b) (o + 13 + y) 7 a := by
  obtain ⟨h1, h2, h3⟩ := h
  obtain ⟨x1, x2, x3, x4⟩ := wornI_rng hw.2.1.1 h1
  obtain ⟨y1, y2, y3, y4⟩ := wornI_rng hw.2.1.1 h2
  refine ⟨wornI v o a s, wornI v o b s, rfl, rfl, ⟨x1, x2⟩, ⟨y1, y2⟩, fun e => by rw [e] at x4; omega, x4, y4, x3, y3, ?_⟩
  have hs : swF v o s a b = upd2 (upd2 v (o + 13 + wornI v o a s) 7 b) (o + 13 + wornI v o b s) 7 a := by
    unfold swF
    rw [if_pos ⟨⟨x1, x2⟩, ⟨y1, y2⟩⟩]
  unfold wantI at h3
  by_cases hz : fitV v o a (wornI v o b s) sl = 1 ∧ fitV v o b (wornI v o a s) sl = 1 ∧ v (o + 3) (a * 10 + wornI v o a s) < v (o + 3) (a * 10 + wornI v o b s) ∧ v (o + 3) (b * 10 + wornI v o b s) < v (o + 3) (b * 10 + wornI v o a s)
  · exact ⟨hz.1, hz.2.1, hz.2.2.1, hz.2.2.2, hs⟩
  · rw [if_neg hz] at h3
    omega
theorem WFV.swp {v : VT} {o a b x y : Int} (hw : WFV v o) (ha : 0 ≤ a ∧ a < b ∧ b < v o 4) (hx : 0 ≤ x ∧ x < v o 5) (hy : 0 ≤ y ∧ y < v o 5) (hxy : ¬ x = y) (h7x : v (o + 13 + x) 7 = a) (h7y : v (o + 13 + y) 7 = b) (h0 : v (o + 13 + x) 0 = v (o + 13 + y) 0) : WFV (upd2 (upd2 v (o + 13 + x) 7 b) (o + 13 + y) 7 a) o := by
  have e4 : upd2 (upd2 v (o + 13 + x) 7 b) (o + 13 + y) 7 a o 4 = v o 4 := by rw [u_ne (by omega), u_ne (by omega)]
  have e5 : upd2 (upd2 v (o + 13 + x) 7 b) (o + 13 + y) 7 a o 5 = v o 5 := by rw [u_ne (by omega), u_ne (by omega)]
  have ek : ∀ t k, ¬ k = 7 → upd2 (upd2 v (o + 13 + x) 7 b) (o + 13 + y) 7 a (o + 13 + t) k = v (o + 13 + t) k := fun t k hk => by rw [u_ne (by omega), u_ne (by omega)]
  have ex : upd2 (upd2 v (o + 13 + x) 7 b) (o + 13 + y) 7 a (o + 13 + x) 7 = b := by rw [u_ne (by omega), upd2_same]
  have ey : upd2 (upd2 v (o + 13 + x) 7 b) (o + 13 + y) 7 a (o + 13 + y) 7 = a := upd2_same _ _ _ _
  have eo : ∀ t, ¬ t = x → ¬ t = y → upd2 (upd2 v (o + 13 + x) 7 b) (o + 13 + y) 7 a (o + 13 + t) 7 = v (o + 13 + t) 7 := fun t h1 h2 => by rw [u_ne (by omega), u_ne (by omega)]
  obtain ⟨w1, w2, w3, w4, w5⟩ := hw
  refine ⟨by rw [e4]; exact w1, by rw [e5]; exact w2, fun c c1 c2 => ?_, fun t t1 t2 => ?_, fun t u c1 c2 d e f g k => ?_⟩
  · rw [e4] at c2
    have := w3 c c1 c2
    have q : ∀ j, upd2 (upd2 v (o + 13 + x) 7 b) (o + 13 + y) 7 a (o + 5 + c) j = v (o + 5 + c) j := fun j => by rw [u_ne (by omega), u_ne (by omega)]
    unfold chOK at *
    rw [q, q, q]
    exact this
  · rw [e5] at t2
    have := w4 t t1 t2
    unfold tgOK at *
    rw [e4, ek t 0 (by omega), ek t 1 (by omega), ek t 2 (by omega), ek t 3 (by omega), ek t 4 (by omega), ek t 5 (by omega), ek t 6 (by omega)]
    obtain ⟨t1, t2, t3, t4, t5, t6, t7, t8, t9, t10⟩ := this
    refine ⟨t1, t2, t3, t4, t5, t6, t7, t8, ?_, fun hz => ?_⟩
    · by_cases h1 : t = x
      · rw [h1, ex]; omega
      · by_cases h2 : t = y
        · rw [h2, ey]; omega
        · rw [eo t h1 h2]; exact t9
    · by_cases h1 : t = x
      · rw [h1] at t10 ⊢
        exact t10 (by omega)
      · by_cases h2 : t = y
        · rw [h2] at t10 ⊢
          exact t10 (by omega)
        · rw [eo t h1 h2] at hz
          exact t10 hz
  · rw [e5] at c2 e
    rw [ek t 0 (by omega), ek u 0 (by omega)] at k
    have nx : ∀ t, 0 ≤ t → t < v o 5 → v (o + 13 + t) 7 = a → v (o + 13 + t) 0 = v (o + 13 + x) 0 → t = x := fun t p1 p2 p3 p4 => w5 t x p1 p2 hx.1 hx.2 (by omega) (by omega) p4
    have ny : ∀ t, 0 ≤ t → t < v o 5 → v (o + 13 + t) 7 = b → v (o + 13 + t) 0 = v (o + 13 + y) 0 → t = y := fun t p1 p2 p3 p4 => w5 t y p1 p2 hy.1 hy.2 (by omega) (by omega) p4
    by_cases h1 : t = x
    · rw [h1, ex] at g
      by_cases g1 : u = x
      · omega
      · by_cases g2 : u = y
        · rw [g2, ey] at g; omega
        · rw [eo u g1 g2] at g
          have := ny u d e g.symm (by rw [← k, h1, h0])
          omega
    · by_cases h2 : t = y
      · rw [h2, ey] at g
        by_cases g1 : u = x
        · rw [g1, ex] at g; omega
        · by_cases g2 : u = y
          · omega
          · rw [eo u g1 g2] at g
            have := nx u d e g.symm (by rw [← k, h2, h0])
            omega
      · rw [eo t h1 h2] at f g
        by_cases g1 : u = x
        · rw [g1, ex] at g
          have := ny t c1 c2 g (by rw [k, g1, h0])
          omega
        · by_cases g2 : u = y
          · rw [g2, ey] at g
            have := nx t c1 c2 g (by rw [k, g2, h0])
            omega
          · rw [eo u g1 g2] at g
            exact w5 t u c1 c2 d e f g k
theorem pot_up {v : VT} {o a b x y : Int} (ha : 0 ≤ a ∧ a < b) (hb : 0 ≤ v o 5) (hx : 0 ≤ x ∧ x < v o 5) (hy : 0 ≤ y ∧ y < v o 5) (hxy : ¬ x = y) (h7x : v (o + 13 + x) 7 = a) (h7y : v (o + 13 + y) 7 = b) (l1 : v (o + 3) (a * 10 + x) < v (o + 3) (a * 10 + y)) (l2 : v (o + 3) (b * 10 + y) < v (o + 3) (b * 10 + x)) :
    sumN (potF v o) (v o 5).toNat + 2 ≤ sumN (potF (upd2 (upd2 v (o + 13 + x) 7 b) (o + 13 + y) 7 a) o) (v o 5).toNat := by
  have p3 : ∀ i, upd2 (upd2 v (o + 13 + x) 7 b) (o + 13 + y) 7 a (o + 3) i = v (o + 3) i := fun i => by rw [u_ne (by omega), u_ne (by omega)]
  have q3 : ∀ i, upd2 v (o + 13 + x) 7 b (o + 3) i = v (o + 3) i := fun i => by rw [u_ne (by omega)]
  have s1 := sum_at (f := potF v o) (g := potF (upd2 v (o + 13 + x) 7 b) o) (x := x) (v o 5).toNat hx.1 (by omega) (fun t t1 t2 t3 => by
    unfold potF
    rw [u_ne (by omega)]
    simp only [q3])
  have s2 := sum_at (f := potF (upd2 v (o + 13 + x) 7 b) o) (g := potF (upd2 (upd2 v (o + 13 + x) 7 b) (o + 13 + y) 7 a) o) (x := y) (v o 5).toNat hy.1 (by omega) (fun t t1 t2 t3 => by
    unfold potF
    rw [u_ne (by omega)]
    simp only [p3, q3])
  have v1 : potF v o x = v (o + 3) (a * 10 + x) := by unfold potF; rw [h7x, if_pos ha.1]
  have v2 : potF (upd2 v (o + 13 + x) 7 b) o x = v (o + 3) (b * 10 + x) := by unfold potF; rw [upd2_same, if_pos (by omega), q3]
  have v3 : potF (upd2 v (o + 13 + x) 7 b) o y = v (o + 3) (b * 10 + y) := by unfold potF; rw [u_ne (by omega), h7y, if_pos (by omega), q3]
  have v4 : potF (upd2 (upd2 v (o + 13 + x) 7 b) (o + 13 + y) 7 a) o y = v (o + 3) (a * 10 + y) := by unfold potF; rw [upd2_same, if_pos ha.1, p3]
  omega
/-- one swap more -/
theorem swp_next {v : VT} {o sl x : Int} (hw : WFV v o) (hl : LikOK v o) (hq : swapQ (swp v o sl) (v o 4) x) (hx : ¬ x = -4) : WFV (swpV v o sl) o ∧ LikOK (swpV v o sl) o ∧ sumN (potF v o) (v o 5).toNat + 2 ≤ sumN (potF (swpV v o sl) o) (swpV v o sl o 5).toNat ∧ (∀ r j, (r < o + 13 ∨ o + 13 + v o 5 ≤ r ∨ ¬ j = 7) → swpV v o sl r j = v r j) ∧ swpV v o sl = swF v o (x / 100) (x / 10 % 10) (x % 10) := by
  have h1 := hw.1
  obtain ⟨e, -⟩ := fst_is (by omega) hq
  have es : swpV v o sl = swF v o (x / 100) (x / 10 % 10) (x % 10) := by unfold swpV; rw [← e]
  rcases hq with ⟨q, -⟩ | ⟨s, a, b, q1, q2, q3, q4, q5, q6, q7, -⟩
  · exact absurd q hx
  · have e1 : x / 100 = s := by omega
    have e2 : x / 10 % 10 = a := by omega
    have e3 : x % 10 = b := by omega
    obtain ⟨p, r, k1, k2, k3, k4, k5, k6, k7, k8, k9, k10, k11, k12, k13, k14⟩ := swp_facts hw ⟨q4, q5, q6⟩ q7
    rw [e1, e2, e3, k14] at es
    have hf : ∀ r' j, (r' < o + 13 ∨ o + 13 + v o 5 ≤ r' ∨ ¬ j = 7) → swpV v o sl r' j = v r' j := fun r' j z => by rw [es, u_ne (by omega), u_ne (by omega)]
    refine ⟨by rw [es]; exact hw.swp ⟨q4, q5, q6⟩ k3 k4 k5 k6 k7 (by omega), fun i i1 i2 => by rw [hf _ _ (by omega)]; exact hl i i1 i2, ?_, hf, by rw [e1, e2, e3, k14, es]⟩
    rw [hf o 5 (by omega), es]
    exact pot_up ⟨q4, q5⟩ hw.2.1.1 k3 k4 k5 k6 k7 k12 k13
