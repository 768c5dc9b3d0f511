-- the Model's search, from one child
def oneP (g : Int → Int) (who : Int) : Int → Int := fun c => if c = who then -4 else if g c = -4 then -5 else g c
theorem one_who {g : Int → Int} {who : Int} : oneP g who who = -4 := by unfold oneP; rw [if_pos rfl]
theorem one_ne {g : Int → Int} {who c : Int} (h : ¬ c = who) (h2 : ¬ g c = -4) : oneP g who c = g c := by unfold oneP; rw [if_neg h, if_neg h2]
theorem one_cold {g : Int → Int} {who c : Int} (h : oneP g who c = -4) : c = who := by
  by_cases hc : c = who
  · exact hc
  · unfold oneP at h
    rw [if_neg hc] at h
    by_cases h2 : g c = -4
    · rw [if_pos h2] at h; omega
    · rw [if_neg h2] at h; exact absurd h h2
theorem one_get {g : Int → Int} {who c : Int} (h : 0 ≤ oneP g who c) : ¬ c = who ∧ oneP g who c = g c := by
  by_cases hc : c = who
  · rw [hc, one_who] at h; omega
  · by_cases h2 : g c = -4
    · unfold oneP at h
      rw [if_neg hc, if_pos h2] at h
      omega
    · exact ⟨hc, one_ne hc h2⟩
theorem one_own {g ow : Int → Int} {nC nT who x : Int} (hC : Con g ow nC nT) (hw : g who = -4) (hx : 0 ≤ x ∧ x < nT) (ho : ¬ ow x = -4) : 0 ≤ ow x ∧ ow x < nC ∧ oneP g who (ow x) = x := by
  obtain ⟨a, b, c⟩ := (hC.2 x hx.1 hx.2).resolve_left ho
  refine ⟨a, b, ?_⟩
  rw [one_ne (fun e => by rw [e, hw] at c; omega) (by omega)]
  exact c
theorem SI1_0 {g q ow m sk : Int → Int} {nC nT who bar : Int} (hw : 0 ≤ who ∧ who < nC) (hq : q 0 = who) : SI (oneP g who) ow m sk q nC nT 0 bar bar 0 0 1 0 := by
  refine ⟨fun i h1 h2 => ?_, fun i j h1 h2 h3 h4 _ => by omega, fun c h1 h2 h3 => ⟨0, by omega, by omega, ?_⟩, fun i h1 h2 => ?_, fun x hx => ?_, fun x hx => hx⟩
  · rw [show i = 0 by omega, hq]; exact hw
  · rw [hq]; exact (one_cold h3).symm
  · rw [show i = 0 by omega, hq]; exact Or.inl ⟨one_who, hw.1⟩
  · exfalso
    obtain ⟨hx0, h | h, h2⟩ := hx
    · rw [h2] at h; cases h
    · omega
theorem bt_1t {t x : Int} (ht : 0 ≤ t ∧ t < 32) (h : bt (jshl 1 t) x = true) : x ≤ t := by
  by_cases h1 : x < 0
  · omega
  · by_cases h2 : x < 32
    · rw [bt_shl ht ⟨by omega, h2⟩] at h
      have := of_decide_eq_true h
      omega
    · rw [bt_big (by omega)] at h
      cases h
theorem bt_ge0 {t x : Int} (ht : 0 ≤ t ∧ t < 32) (h0 : 0 ≤ x) (h : bt (jshl 1 t) x = true) : x = t := by
  by_cases h2 : x < 32
  · rw [bt_shl ht ⟨by omega, h2⟩] at h
    have := of_decide_eq_true h
    omega
  · rw [bt_big (by omega)] at h
    cases h
theorem SI1_pre {g ow m sk q : Int → Int} {nC nT bar s0 t wt nx : Int} (h : SI g ow m sk q nC nT 0 bar s0 0 0 wt nx) (ht : 0 ≤ t ∧ t < 32) : SI g ow m sk q nC nT 0 bar s0 (jshl 1 t) t wt nx := by
  refine SI_mono h (fun x => ?_) (fun x hx => hx) (Int.le_refl _)
  unfold Dp
  rw [bt_0]
  constructor
  · rintro ⟨a, b | b, c⟩
    · exact ⟨a, Or.inl b, c⟩
    · exact absurd b.1 (by decide)
  · rintro ⟨a, b | b, c⟩
    · exact ⟨a, Or.inl b, c⟩
    · have := bt_ge0 ht a b.1
      omega
theorem SI1_push {g ow m sk q sk1 q1 : Int → Int} {nC nT bar s0 t wt n0 : Int} (h : SI g ow m sk q nC nT 0 bar s0 0 0 wt (n0 + 1)) (hn : 0 ≤ n0 ∧ n0 < wt) (ht : 0 ≤ t ∧ t < nT) (hT : nT ≤ 32) (hs : bt s0 t = false) (hm : bt (m (q n0)) t = true)
    (ho : ¬ ow t = -4) (hd : 0 ≤ ow t ∧ ow t < nC ∧ g (ow t) = t) (hsk : sk1 = fun j => if j = t then q n0 else sk j) (hq : q1 = fun j => if j = wt then ow t else q j) : SI g ow m sk1 q1 nC nT 0 bar (jor s0 (jshl 1 t)) 0 0 (wt + 1) (n0 + 1) := by
  have h1 := SI_push (SI1_pre h (t := t) ⟨ht.1, by omega⟩) hn ht hs (by rw [bt_shl ⟨ht.1, by omega⟩ ⟨ht.1, by omega⟩]; simp) hm ho hd hsk hq
  refine SI_mono h1 (fun x => Dp_end (fun y hy => ?_)) (fun x hx => by rw [bt_or, hx]; rfl) (Int.le_refl _)
  have := bt_1t ⟨ht.1, by omega⟩ hy
  omega
/-- the search's answer -/
def Fail1 (g ow m : Int → Int) (nC nT who bar : Int) : Prop :=
  ∃ R : Int → Prop, R who ∧ (∀ c, R c → 0 ≤ c ∧ c < nC ∧ (c = who ∨ (0 ≤ g c ∧ bt bar (g c) = false))) ∧ (∀ c x, R c → 0 ≤ x → x < nT → bt (m c) x = true → bt bar x = false → ¬ ow x = -4 ∧ R (ow x))
theorem fail1 {g ow m sk : Int → Int} {nC nT who bar : Int} (hw : 0 ≤ who ∧ who < nC) (h : SeekQ (oneP g who) ow m sk nC nT 0 bar (-4)) : Fail1 g ow m nC nT who bar := by
  rcases h with ⟨-, R, r1, r2, r3⟩ | h
  · refine ⟨R, r1 who hw.1 hw.2 one_who, fun c hc => ?_, r3⟩
    obtain ⟨a, b, d⟩ := r2 c hc
    refine ⟨a, b, ?_⟩
    rcases d with d | d
    · exact Or.inl (one_cold d.1)
    · have := one_get d.1
      rw [this.2] at d
      exact Or.inr d
  · omega
/-- a closed set that the way leaves alone -/
def ClosedR (ow m : Int → Int) (nT bar : Int) (R : Int → Prop) : Prop := ∀ d x, R d → 0 ≤ x → x < nT → bt (m d) x = true → bt bar x = false → ¬ ow x = -4 ∧ R (ow x)
theorem found1 {g ow m sk : Int → Int} {nC nT who bar r : Int} {R0 : Int → Prop} (hT : nT ≤ 31) (hC : Con g ow nC nT) (hw : 0 ≤ who ∧ who < nC) (hwc : g who = -4) (hr : 0 ≤ r) (h : SeekQ (oneP g who) ow m sk nC nT 0 bar r) (hR : ClosedR ow m nT bar R0) :
    r < nT ∧ ow r = -4 ∧ ∃ (bar2 : Int) (D : Int → Prop) (rk : Int → Int), D r ∧ Way g m sk nC nT who bar2 D rk ∧ (∀ x, D x → g (sk x) = -4 → sk x = who) ∧ (∀ x, 0 ≤ x → x < 32 → bt bar2 x = false → bt bar x = false) ∧ (∀ x, 0 ≤ x → x < nT → bt bar2 x = false → ¬ (¬ ow x = -4 ∧ R0 (ow x))) := by
  rcases h with ⟨h, -⟩ | ⟨-, h1, h2, D, rk, hD, hx⟩
  · omega
  · refine ⟨h1, h2, orN (fun x => bt bar x || @decide (x < nT ∧ ¬ ow x = -4 ∧ R0 (ow x)) (Classical.propDecidable _)) 32, fun x => D x ∧ ¬ (¬ ow x = -4 ∧ R0 (ow x)), rk, ⟨hD, fun z => z.1 h2⟩, ?_, ?_, ?_, ?_⟩
    · intro x hxx
      obtain ⟨k1, k2, k3, k4, k5, k6, k7, k8, k9⟩ := hx x hxx.1
      have hb : ∀ y, 0 ≤ y → y < 31 → bt (orN (fun x => bt bar x || @decide (x < nT ∧ ¬ ow x = -4 ∧ R0 (ow x)) (Classical.propDecidable _)) 32) y = (bt bar y || @decide (y < nT ∧ ¬ ow y = -4 ∧ R0 (ow y)) (Classical.propDecidable _)) := fun y h0 h3 => by
        rw [show (32 : Nat) = 31 + 1 by rfl, orN]
        split
        · rw [bt_or, bt_shl (by omega) ⟨h0, by omega⟩, show (31 : Nat) = (31 : Int).toNat by rfl, bt_orN (by omega) ⟨h0, by omega⟩]
          have e1 : decide (((31 : Int).toNat : Int) = y) = false := by simp; omega
          have e2 : decide (y < 31) = true := by simp; omega
          rw [e1, e2]
          simp
        · rw [show (31 : Nat) = (31 : Int).toNat by rfl, bt_orN (by omega) ⟨h0, by omega⟩]
          have e2 : decide (y < 31) = true := by simp; omega
          rw [e2]
          simp
      refine ⟨k1, k2, ?_, k4, k5, k6, k7, k8, ?_⟩
      · rw [hb x k1 (by omega), k3]
        simp only [Bool.false_or]
        exact @decide_eq_false _ (Classical.propDecidable _) (fun z => hxx.2 z.2)
      · rcases k9 with k9 | k9
        · have e := one_cold k9.1
          left
          rw [e]
          exact ⟨hwc, by omega⟩
        · have hz := hx _ k9.1
          have e := one_get hz.1
          rw [e.2] at k9
          refine Or.inr ⟨⟨k9.1, fun z => ?_⟩, k9.2⟩
          have hg := (hC.1 (sk x) k4 k5).resolve_left (by have := hz.1; rw [e.2] at this; omega)
          rw [hg.2.2] at z
          exact hxx.2 (hR (sk x) x z.2 k1 k2 k6 k3)
    · intro x hxx hg
      obtain ⟨k1, k2, k3, k4, k5, k6, k7, k8, k9⟩ := hx x hxx.1
      rcases k9 with k9 | k9
      · exact one_cold k9.1
      · have hz := hx _ k9.1
        have e := one_get hz.1
        have := hz.1
        rw [e.2, hg] at this
        omega
    · intro x h0 h3 hb
      by_cases h31 : x < 31
      · rw [show (32 : Nat) = 31 + 1 by rfl, orN] at hb
        split at hb
        · rw [bt_or, show (31 : Nat) = (31 : Int).toNat by rfl, bt_orN (by omega) ⟨h0, by omega⟩] at hb
          have e2 : decide (x < 31) = true := by simp; omega
          rw [e2] at hb
          cases e : bt bar x with
          | false => rfl
          | true => rw [e] at hb; simp at hb
        · rw [show (31 : Nat) = (31 : Int).toNat by rfl, bt_orN (by omega) ⟨h0, by omega⟩] at hb
          have e2 : decide (x < 31) = true := by simp; omega
          rw [e2] at hb
          cases e : bt bar x with
          | false => rfl
          | true => rw [e] at hb; simp at hb
      · have h31 : x = 31 := by omega
        subst h31
        cases e : bt bar 31 with
        | false => rfl
        | true =>
          rw [show (32 : Nat) = 31 + 1 by rfl, orN, if_pos (by show (bt bar ((31 : Nat) : Int) || _) = true; rw [show ((31 : Nat) : Int) = 31 by rfl, e]; rfl), bt_or, bt_shl (by omega) (by omega)] at hb
          simp at hb
    · intro x h0 h3 hb z
      rw [show (32 : Nat) = 31 + 1 by rfl, orN] at hb
      have e2 : decide (x < 31) = true := by simp; omega
      have e3 : @decide (x < nT ∧ ¬ ow x = -4 ∧ R0 (ow x)) (Classical.propDecidable _) = true := @decide_eq_true _ (Classical.propDecidable _) ⟨h3, z⟩
      split at hb
      · rw [bt_or, show (31 : Nat) = (31 : Int).toNat by rfl, bt_orN (by omega) ⟨h0, by omega⟩, e2, e3] at hb
        simp at hb
      · rw [show (31 : Nat) = (31 : Int).toNat by rfl, bt_orN (by omega) ⟨h0, by omega⟩, e2, e3] at hb
        simp at hb
theorem flip_mono {g ow m p q : Int → Int} {nC nT fm fm2 bar bar2 : Int} (hT : nT ≤ 32) (hC : Con g ow nC nT) (hf : fm2 ≤ fm) (hb : ∀ x, 0 ≤ x → x < 32 → bt bar x = false → bt bar2 x = false) (h : Flip g ow m nC nT fm bar p q) : Flip g ow m nC nT fm2 bar2 p q := by
  obtain ⟨h1, ⟨root, r1, r2, r3, r4⟩, h3, h4⟩ := h
  have hp : ∀ c, ¬ p c = -4 → 0 ≤ c → c < nC → p c < 32 := fun c hc a b => by
    have := (h1.1 c a b).resolve_left hc
    omega
  refine ⟨h1, ⟨root, r1, r2, by omega, r4⟩, fun c hc => ?_, fun x hx => ?_⟩
  · obtain ⟨a1, a2, a3, a4, a5, a6⟩ := h3 c hc
    refine ⟨a1, a2, a3, hb _ a5 (hp c (by omega) a1 a2) a4, a5, ?_⟩
    rcases a6 with a6 | a6
    · exact Or.inl ⟨a6.1, by omega⟩
    · have := (hC.1 c a1 a2).resolve_left a6.1
      exact Or.inr ⟨a6.1, hb _ this.1 (by omega) a6.2⟩
  · obtain ⟨a1, a2, a3⟩ := h4 x hx
    exact ⟨a1, a2, hb _ a1 (by omega) a3⟩
/-- who is closed in keeps what he has -/
theorem flip_keep {g ow m p q : Int → Int} {nC nT who bar2 : Int} {R0 : Int → Prop} (hC : Con g ow nC nT) (hR : ∀ d, R0 d → ¬ d = who) (hwho : ¬ p who = -4) (hwc : g who = -4) (hb : ∀ x, 0 ≤ x → x < nT → bt bar2 x = false → ¬ (¬ ow x = -4 ∧ R0 (ow x))) (h : Flip g ow m nC nT who bar2 p q) : ∀ d, R0 d → p d = g d := by
  intro d hd
  by_cases e : p d = g d
  · exact e
  · exfalso
    obtain ⟨a1, a2, a3, a4, a5, a6⟩ := h.2.2.1 d e
    obtain ⟨root, r1, r2, r3, r4, r5, r6⟩ := h.2.1
    have hroot : root = who := by
      by_cases e2 : who = root
      · exact e2.symm
      · exact absurd ((r6 who e2).mpr hwc) hwho
    rcases a6 with a6 | a6
    · have h2 : ¬ d = root := fun z => hR d hd (z.trans hroot)
      have := (r6 d h2).mpr a6.1
      omega
    · have := (hC.1 d a1 a2).resolve_left a6.1
      refine hb _ this.1 this.2.1 a6.2 ⟨by omega, ?_⟩
      rw [this.2.2]
      exact hd
theorem flip_cold {g ow m p q : Int → Int} {nC nT who bar2 : Int} (hwho : ¬ p who = -4) (hwc : g who = -4) (h : Flip g ow m nC nT who bar2 p q) : ∀ d, ¬ d = who → (p d = -4 ↔ g d = -4) := by
  obtain ⟨root, r1, r2, r3, r4, r5, r6⟩ := h.2.1
  have hroot : root = who := by
    by_cases e2 : who = root
    · exact e2.symm
    · exact absurd ((r6 who e2).mpr hwc) hwho
  rw [← hroot]
  exact r6
