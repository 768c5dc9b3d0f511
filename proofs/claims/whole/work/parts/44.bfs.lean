-- the search for a free thing: what its queue and its seekers are
theorem upd2_rowne {v : VT} {r i x a : Int} (h : ¬ a = r) : upd2 v r i x a = v a := by
  funext j
  exact upd2_ne _ _ _ _ _ _ (Or.inl h)
theorem bt_big {y x : Int} (h : 32 ≤ x) : bt y x = false := by
  unfold bt
  exact BitVec.getLsbD_of_ge _ _ (by omega)
def Dp (bar s0 op t x : Int) : Prop := 0 ≤ x ∧ (bt s0 x = true ∨ (bt op x = true ∧ x < t)) ∧ bt bar x = false
def SI (g ow m sk q : Int → Int) (nC nT fm bar s0 op t wt nx : Int) : Prop :=
  (∀ i, 0 ≤ i → i < wt → 0 ≤ q i ∧ q i < nC) ∧
  (∀ i j, 0 ≤ i → i < wt → 0 ≤ j → j < wt → q i = q j → i = j) ∧
  (∀ c, fm ≤ c → c < nC → g c = -4 → ∃ i, 0 ≤ i ∧ i < wt ∧ q i = c) ∧
  (∀ i, 0 ≤ i → i < wt → (g (q i) = -4 ∧ fm ≤ q i) ∨ (Dp bar s0 op t (g (q i)) ∧ ∃ j, 0 ≤ j ∧ j < i ∧ sk (g (q i)) = q j)) ∧
  (∀ x, Dp bar s0 op t x → x < nT ∧ ¬ ow x = -4 ∧ (∃ i, 0 ≤ i ∧ i < wt ∧ q i = ow x) ∧ ∃ j, 0 ≤ j ∧ j < nx ∧ j < wt ∧ sk x = q j ∧ bt (m (q j)) x = true) ∧
  (∀ x, bt bar x = true → bt s0 x = true)
theorem SI_mono {g ow m sk q : Int → Int} {nC nT fm bar s0 op t wt nx s1 op1 t1 nx1 : Int} (h : SI g ow m sk q nC nT fm bar s0 op t wt nx) (hD : ∀ x, Dp bar s0 op t x ↔ Dp bar s1 op1 t1 x) (hb : ∀ x, bt s0 x = true → bt s1 x = true) (hn : nx ≤ nx1) : SI g ow m sk q nC nT fm bar s1 op1 t1 wt nx1 := by
  obtain ⟨h1, h2, h3, h4, h5, h6⟩ := h
  refine ⟨h1, h2, h3, fun i k1 k2 => ?_, fun x hx => ?_, fun x hx => hb x (h6 x hx)⟩
  · rcases h4 i k1 k2 with q1 | ⟨q1, q2⟩
    · exact Or.inl q1
    · exact Or.inr ⟨(hD _).mp q1, q2⟩
  · obtain ⟨a1, a2, a3, j, b1, b2, b3⟩ := h5 x ((hD x).mpr hx)
    exact ⟨a1, a2, a3, j, b1, by omega, b3⟩
theorem SI_le {g ow m sk q : Int → Int} {nC nT fm bar s0 op t wt nx : Int} (h : SI g ow m sk q nC nT fm bar s0 op t wt nx) (h0 : 0 ≤ wt) (hn : 0 ≤ nC) : wt ≤ nC := php h0 hn h.1 h.2.1
theorem SI_out {g ow m sk q : Int → Int} {nC nT fm bar s0 op t wt nx d : Int} (h : SI g ow m sk q nC nT fm bar s0 op t wt nx) (ht : 0 ≤ t) (hs : bt s0 t = false) (hg : g d = t) : ∀ i, 0 ≤ i → i < wt → ¬ q i = d := by
  intro i h1 h2 e
  rcases h.2.2.2.1 i h1 h2 with ⟨k1, -⟩ | ⟨k1, -⟩
  · rw [e, hg] at k1
    omega
  · rw [e, hg] at k1
    rcases k1.2.1 with k2 | k2
    · rw [hs] at k2; cases k2
    · omega
theorem SI_push {g ow m sk q sk1 q1 : Int → Int} {nC nT fm bar s0 op t wt n0 : Int} (h : SI g ow m sk q nC nT fm bar s0 op t wt (n0 + 1)) (hn : 0 ≤ n0 ∧ n0 < wt) (ht : 0 ≤ t ∧ t < nT) (hs : bt s0 t = false) (hop : bt op t = true) (hm : bt (m (q n0)) t = true)
    (ho : ¬ ow t = -4) (hd : 0 ≤ ow t ∧ ow t < nC ∧ g (ow t) = t) (hsk : sk1 = fun j => if j = t then q n0 else sk j) (hq : q1 = fun j => if j = wt then ow t else q j) : SI g ow m sk1 q1 nC nT fm bar s0 op (t + 1) (wt + 1) (n0 + 1) := by
  have hout := SI_out h ht.1 hs hd.2.2
  obtain ⟨h1, h2, h3, h4, h5, h6⟩ := h
  have hbar : bt bar t = false := by
    cases e : bt bar t with
    | false => rfl
    | true => rw [h6 t e] at hs; cases hs
  have qo : ∀ i, i < wt → q1 i = q i := fun i hi => by rw [hq]; show (if i = wt then _ else _) = _; rw [if_neg (by omega)]
  have qn : q1 wt = ow t := by rw [hq]; show (if wt = wt then _ else _) = _; rw [if_pos rfl]
  have so : ∀ x, ¬ x = t → sk1 x = sk x := fun x hx => by rw [hsk]; show (if x = t then _ else _) = _; rw [if_neg hx]
  have sn : sk1 t = q n0 := by rw [hsk]; show (if t = t then _ else _) = _; rw [if_pos rfl]
  have dt : ¬ Dp bar s0 op t t := by
    rintro ⟨-, k | k, -⟩
    · rw [hs] at k; cases k
    · omega
  have dm : ∀ x, Dp bar s0 op t x → Dp bar s0 op (t + 1) x := by
    rintro x ⟨a, b | b, c⟩
    · exact ⟨a, Or.inl b, c⟩
    · exact ⟨a, Or.inr ⟨b.1, by omega⟩, c⟩
  refine ⟨fun i k1 k2 => ?_, fun i j k1 k2 k3 k4 e => ?_, fun c k1 k2 k3 => ?_, fun i k1 k2 => ?_, fun x hx => ?_, h6⟩
  · by_cases hi : i = wt
    · rw [hi, qn]; exact ⟨hd.1, hd.2.1⟩
    · rw [qo i (by omega)]; exact h1 i k1 (by omega)
  · by_cases hi : i = wt
    · by_cases hj : j = wt
      · omega
      · rw [hi, qn, qo j (by omega)] at e
        exact absurd e.symm (hout j k3 (by omega))
    · by_cases hj : j = wt
      · rw [hj, qn, qo i (by omega)] at e
        exact absurd e (hout i k1 (by omega))
      · rw [qo i (by omega), qo j (by omega)] at e
        exact h2 i j k1 (by omega) k3 (by omega) e
  · obtain ⟨i, a, b, e⟩ := h3 c k1 k2 k3
    exact ⟨i, a, by omega, by rw [qo i b]; exact e⟩
  · by_cases hi : i = wt
    · rw [hi, qn, hd.2.2]
      exact Or.inr ⟨⟨ht.1, Or.inr ⟨hop, by omega⟩, hbar⟩, n0, hn.1, hn.2, by rw [sn, qo n0 hn.2]⟩
    · rw [qo i (by omega)]
      rcases h4 i k1 (by omega) with a | ⟨a, j, b1, b2, b3⟩
      · exact Or.inl a
      · refine Or.inr ⟨dm _ a, j, b1, b2, ?_⟩
        rw [so _ (fun e => dt (by rw [← e]; rw [e] at a ⊢; exact a)), qo j (by omega)]
        exact b3
  · by_cases hxt : x = t
    · rw [hxt]
      exact ⟨ht.2, ho, ⟨wt, by omega, by omega, qn⟩, n0, hn.1, by omega, by omega, by rw [sn, qo n0 hn.2], by rw [qo n0 hn.2]; exact hm⟩
    · have hx2 : Dp bar s0 op t x := by
        obtain ⟨a, b | b, c⟩ := hx
        · exact ⟨a, Or.inl b, c⟩
        · exact ⟨a, Or.inr ⟨b.1, by omega⟩, c⟩
      obtain ⟨a1, a2, ⟨i, b1, b2, b3⟩, j, c1, c2, c3, c4, c5⟩ := h5 x hx2
      exact ⟨a1, a2, ⟨i, b1, by omega, by rw [qo i b2]; exact b3⟩, j, c1, c2, by omega, by rw [so x hxt, qo j c3]; exact c4, by rw [qo j c3]; exact c5⟩
def rkQ (q : Int → Int) (c : Int) : Int := firstT (fun i => decide (q i = c)) 8 0
theorem rkQ_at {q : Int → Int} {wt i : Int} (hw : wt ≤ 8) (hi : 0 ≤ i ∧ i < wt) (h2 : ∀ i j, 0 ≤ i → i < wt → 0 ≤ j → j < wt → q i = q j → i = j) : rkQ q (q i) = i := by
  unfold rkQ
  rcases firstT_spec (fun j => decide (q j = q i)) 8 0 with ⟨-, k⟩ | ⟨k1, k2, k3, k4⟩
  · have := k i hi.1 (by omega)
    simp at this
  · generalize firstT (fun j => decide (q j = q i)) 8 0 = z at k1 k2 k3 k4 ⊢
    have e := of_decide_eq_true k3
    by_cases hz : z < wt
    · exact h2 z i k1 hz hi.1 hi.2 e
    · have := k4 i hi.1 (by omega)
      simp at this
/-- the search's answer: no free thing and why not; or one, and the way back from it -/
def SeekQ (g ow m sk : Int → Int) (nC nT fm bar r : Int) : Prop :=
  (r = -4 ∧ ∃ R : Int → Prop, (∀ c, fm ≤ c → c < nC → g c = -4 → R c) ∧ (∀ c, R c → 0 ≤ c ∧ c < nC ∧ ((g c = -4 ∧ fm ≤ c) ∨ (0 ≤ g c ∧ bt bar (g c) = false))) ∧
    (∀ c x, R c → 0 ≤ x → x < nT → bt (m c) x = true → bt bar x = false → ¬ ow x = -4 ∧ R (ow x))) ∨
  (0 ≤ r ∧ r < nT ∧ ow r = -4 ∧ ∃ (D : Int → Prop) (rk : Int → Int), D r ∧ ∀ x, D x → 0 ≤ x ∧ x < nT ∧ bt bar x = false ∧ 0 ≤ sk x ∧ sk x < nC ∧ bt (m (sk x)) x = true ∧ 0 ≤ rk (sk x) ∧ rk (sk x) < 8 ∧
    ((g (sk x) = -4 ∧ fm ≤ sk x) ∨ (D (g (sk x)) ∧ rk (sk (g (sk x))) < rk (sk x))))
theorem SI_fail {g ow m sk q : Int → Int} {nC nT fm bar s0 wt nx : Int} (h : SI g ow m sk q nC nT fm bar s0 0 0 wt nx) (hJ : ∀ i, 0 ≤ i → i < wt → ∀ x, 0 ≤ x → x < nT → bt (m (q i)) x = true → bt bar x = false → bt s0 x = true) : SeekQ g ow m sk nC nT fm bar (-4) := by
  obtain ⟨h1, h2, h3, h4, h5, h6⟩ := h
  refine Or.inl ⟨rfl, fun c => ∃ i, 0 ≤ i ∧ i < wt ∧ q i = c, h3, ?_, ?_⟩
  · rintro c ⟨i, k1, k2, rfl⟩
    refine ⟨(h1 i k1 k2).1, (h1 i k1 k2).2, ?_⟩
    rcases h4 i k1 k2 with a | ⟨a, -⟩
    · exact Or.inl a
    · exact Or.inr ⟨a.1, a.2.2⟩
  · rintro c x ⟨i, k1, k2, rfl⟩ k3 k4 k5 k6
    obtain ⟨-, a2, a3, -⟩ := h5 x ⟨k3, Or.inl (hJ i k1 k2 x k3 k4 k5 k6), k6⟩
    exact ⟨a2, a3⟩
theorem SI_found {g ow m sk q sk1 : Int → Int} {nC nT fm bar s0 op t wt n0 : Int} (h : SI g ow m sk q nC nT fm bar s0 op t wt (n0 + 1)) (hw : wt ≤ 8) (hn : 0 ≤ n0 ∧ n0 < wt) (ht : 0 ≤ t ∧ t < nT) (hs : bt s0 t = false) (hm : bt (m (q n0)) t = true)
    (ho : ow t = -4) (hsk : sk1 = fun j => if j = t then q n0 else sk j) : SeekQ g ow m sk1 nC nT fm bar t := by
  obtain ⟨h1, h2, h3, h4, h5, h6⟩ := h
  have hbar : bt bar t = false := by
    cases e : bt bar t with
    | false => rfl
    | true => rw [h6 t e] at hs; cases hs
  have so : ∀ x, ¬ x = t → sk1 x = sk x := fun x hx => by rw [hsk]; show (if x = t then _ else _) = _; rw [if_neg hx]
  have sn : sk1 t = q n0 := by rw [hsk]; show (if t = t then _ else _) = _; rw [if_pos rfl]
  have dt : ¬ Dp bar s0 op t t := by
    rintro ⟨-, k | k, -⟩
    · rw [hs] at k; cases k
    · omega
  have way : ∀ i, 0 ≤ i → i < wt → (g (q i) = -4 ∧ fm ≤ q i) ∨ ((Dp bar s0 op t (g (q i)) ∨ g (q i) = t) ∧ rkQ q (sk1 (g (q i))) < rkQ q (q i)) := by
    intro i k1 k2
    rcases h4 i k1 k2 with a | ⟨a, j, b1, b2, b3⟩
    · exact Or.inl a
    · refine Or.inr ⟨Or.inl a, ?_⟩
      rw [so _ (fun e => dt (by rw [e] at a; exact a)), b3, rkQ_at hw ⟨b1, by omega⟩ h2, rkQ_at hw ⟨k1, k2⟩ h2]
      exact b2
  refine Or.inr ⟨ht.1, ht.2, ho, fun x => Dp bar s0 op t x ∨ x = t, rkQ q, Or.inr rfl, ?_⟩
  rintro x (hx | hx)
  · obtain ⟨a1, a2, -, j, c1, c2, c3, c4, c5⟩ := h5 x hx
    have e : sk1 x = q j := by rw [so x (fun e => dt (by rw [e] at hx; exact hx)), c4]
    rw [e]
    have hr := rkQ_at hw ⟨c1, c3⟩ h2
    exact ⟨hx.1, a1, hx.2.2, (h1 j c1 c3).1, (h1 j c1 c3).2, c5, by omega, by omega, way j c1 c3⟩
  · subst hx
    rw [sn]
    have hr := rkQ_at hw hn h2
    exact ⟨ht.1, ht.2, hbar, (h1 n0 hn.1 hn.2).1, (h1 n0 hn.1 hn.2).2, hm, by omega, by omega, way n0 hn.1 hn.2⟩
/-- the queue as it begins: the cold ones from fm on -/
def Q1 (g q : Int → Int) (fm c wt : Int) : Prop := 0 ≤ wt ∧ wt ≤ c - fm ∧ (∀ i, 0 ≤ i → i < wt → fm ≤ q i ∧ q i < c ∧ g (q i) = -4) ∧ (∀ i j, 0 ≤ i → i < j → j < wt → q i < q j) ∧ (∀ d, fm ≤ d → d < c → g d = -4 → ∃ i, 0 ≤ i ∧ i < wt ∧ q i = d)
theorem Q1_0 {g q : Int → Int} {fm : Int} : Q1 g q fm fm 0 := ⟨by omega, by omega, fun i h1 h2 => by omega, fun i j h1 h2 h3 => by omega, fun d h1 h2 => by omega⟩
theorem Q1_n {g q : Int → Int} {fm c wt : Int} (h : Q1 g q fm c wt) (hg : ¬ g c = -4) : Q1 g q fm (c + 1) wt := by
  obtain ⟨h1, h2, h3, h4, h5⟩ := h
  refine ⟨h1, by omega, fun i k1 k2 => ?_, h4, fun d k1 k2 k3 => ?_⟩
  · have := h3 i k1 k2
    omega
  · by_cases hd : d = c
    · rw [hd] at k3; exact absurd k3 hg
    · exact h5 d k1 (by omega) k3
theorem Q1_s {g q q1 : Int → Int} {fm c wt : Int} (h : Q1 g q fm c wt) (hf : fm ≤ c) (hg : g c = -4) (hq : q1 = fun j => if j = wt then c else q j) : Q1 g q1 fm (c + 1) (wt + 1) := by
  obtain ⟨h1, h2, h3, h4, h5⟩ := h
  have qo : ∀ i, i < wt → q1 i = q i := fun i hi => by rw [hq]; show (if i = wt then _ else _) = _; rw [if_neg (by omega)]
  have qn : q1 wt = c := by rw [hq]; show (if wt = wt then _ else _) = _; rw [if_pos rfl]
  refine ⟨by omega, by omega, fun i k1 k2 => ?_, fun i j k1 k2 k3 => ?_, fun d k1 k2 k3 => ?_⟩
  · by_cases hi : i = wt
    · rw [hi, qn]; exact ⟨hf, by omega, hg⟩
    · rw [qo i (by omega)]
      have := h3 i k1 (by omega)
      exact ⟨this.1, by omega, this.2.2⟩
  · by_cases hj : j = wt
    · rw [hj, qn, qo i (by omega)]
      exact (h3 i k1 (by omega)).2.1
    · rw [qo i (by omega), qo j (by omega)]
      exact h4 i j k1 k2 (by omega)
  · by_cases hd : d = c
    · exact ⟨wt, by omega, by omega, by rw [qn, hd]⟩
    · obtain ⟨i, a, b, e⟩ := h5 d k1 (by omega) k3
      exact ⟨i, a, by omega, by rw [qo i b]; exact e⟩
theorem Q1_SI {g q : Int → Int} {ow m sk : Int → Int} {nC nT fm bar wt : Int} (hf : 0 ≤ fm) (h : Q1 g q fm nC wt) : SI g ow m sk q nC nT fm bar bar 0 0 wt 0 := by
  obtain ⟨h1, h2, h3, h4, h5⟩ := h
  refine ⟨fun i k1 k2 => ?_, fun i j k1 k2 k3 k4 e => ?_, h5, fun i k1 k2 => ?_, fun x hx => ?_, fun x hx => hx⟩
  · have := h3 i k1 k2
    omega
  · by_cases hij : i < j
    · have := h4 i j k1 hij k4
      omega
    · by_cases hji : j < i
      · have := h4 j i k3 hji k2
        omega
      · omega
  · have := h3 i k1 k2
    exact Or.inl ⟨this.2.2, this.1⟩
  · obtain ⟨a, b | b, c⟩ := hx
    · rw [b] at c; cases c
    · omega
theorem Dp_00 {bar s0 op op1 x : Int} : Dp bar s0 op 0 x ↔ Dp bar s0 op1 0 x := by
  unfold Dp
  constructor
  · rintro ⟨a, b | b, c⟩
    · exact ⟨a, Or.inl b, c⟩
    · omega
  · rintro ⟨a, b | b, c⟩
    · exact ⟨a, Or.inl b, c⟩
    · omega
theorem Dp_skip {bar s0 op t x : Int} (h : bt op t = false) : Dp bar s0 op t x ↔ Dp bar s0 op (t + 1) x := by
  unfold Dp
  constructor
  · rintro ⟨a, b | b, c⟩
    · exact ⟨a, Or.inl b, c⟩
    · exact ⟨a, Or.inr ⟨b.1, by omega⟩, c⟩
  · rintro ⟨a, b | b, c⟩
    · exact ⟨a, Or.inl b, c⟩
    · refine ⟨a, Or.inr ⟨b.1, ?_⟩, c⟩
      have : ¬ x = t := fun e => by rw [e, h] at b; exact absurd b.1 (by decide)
      omega
theorem Dp_end {bar s0 op t x : Int} (h : ∀ x, bt op x = true → x < t) : Dp bar s0 op t x ↔ Dp bar (jor s0 op) 0 0 x := by
  unfold Dp
  rw [bt_or, bt_0]
  constructor
  · rintro ⟨a, b | b, c⟩
    · exact ⟨a, Or.inl (by rw [b]; rfl), c⟩
    · exact ⟨a, Or.inl (by rw [b.1]; simp), c⟩
  · rintro ⟨a, b | b, c⟩
    · rcases Bool.or_eq_true_iff.mp b with b | b
      · exact ⟨a, Or.inl b, c⟩
      · exact ⟨a, Or.inr ⟨b, h x b⟩, c⟩
    · exact absurd b.1 (by decide)
theorem bt_open {m s0 x : Int} (hx : x < 32) (h0 : 0 ≤ x) : bt (jand m (jxor s0 (-1))) x = true ↔ bt m x = true ∧ bt s0 x = false := by
  rw [bt_and, bt_not ⟨h0, hx⟩]
  cases bt m x <;> cases bt s0 x <;> simp
