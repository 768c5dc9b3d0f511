-- in order: what is had, what is refused, what is settled
theorem con_congr {g ow p q : Int → Int} {nC nT : Int} (h : Con g ow nC nT) (hp : ∀ c, 0 ≤ c → c < nC → p c = g c) (hq : ∀ x, 0 ≤ x → x < nT → q x = ow x) : Con p q nC nT := by
  refine ⟨fun c k1 k2 => ?_, fun x k1 k2 => ?_⟩
  · rw [hp c k1 k2]
    rcases h.1 c k1 k2 with a | ⟨a1, a2, a3⟩
    · exact Or.inl a
    · exact Or.inr ⟨a1, a2, by rw [hq _ a1 a2]; exact a3⟩
  · rw [hq x k1 k2]
    rcases h.2 x k1 k2 with a | ⟨a1, a2, a3⟩
    · exact Or.inl a
    · exact Or.inr ⟨a1, a2, by rw [hp _ a1 a2]; exact a3⟩
theorem leg_congr {g p m : Int → Int} {nC : Int} (h : Leg g m nC) (hp : ∀ c, 0 ≤ c → c < nC → p c = g c) : Leg p m nC := by
  intro c k1 k2 k3
  rw [hp c k1 k2] at k3 ⊢
  exact h c k1 k2 k3
theorem wrm_congr {g p : Int → Int} {nC k : Int} (hp : ∀ c, 0 ≤ c → c < nC → p c = g c) : wrmN nC k p = wrmN nC k g := by
  unfold wrmN
  refine cnt_congr _ (fun y k1 k2 => ?_)
  unfold wrmB
  rw [hp y k1 (by omega)]
theorem mtc_congr {g p : Int → Int} {nC : Int} {may : Int → Int → Prop} (h : Mtc nC may g) (hp : ∀ c, 0 ≤ c → c < nC → p c = g c) : Mtc nC may p := by
  refine ⟨fun c k1 k2 => ?_, fun c d k1 k2 k3 k4 => ?_⟩
  · rw [hp c k1 k2]; exact h.1 c k1 k2
  · rw [hp c k1 k2, hp d k3 k4]; exact h.2 c d k1 k2 k3 k4
theorem leg_of {nC nT : Int} {m g : Int → Int} (h : Mtc nC (mayT m nT) g) : Leg g m nC := fun c k1 k2 k3 => ((h.1 c k1 k2).resolve_left k3).2.2
def HaveQ (nC nT W : Int) (m g : Int → Int) (c t : Int) (p q : Int → Int) : Prop := Con p q nC nT ∧ Leg p m nC ∧ wrmN nC 0 p = W ∧ p c = t ∧ ∀ i, 0 ≤ i → i < c → p i = g i
theorem tk_oc {g ow : Int → Int} {nC nT c t sd : Int} (hC : Con g ow nC nT) (ht : 0 ≤ t ∧ t < nT) (hT : nT ≤ 20) (hne : ¬ g c = t) (hsd : Sd g sd c) (hst : bt sd t = false) : ∀ i, 0 ≤ i → i ≤ c → ¬ ow t = i := by
  intro i k1 k2 e
  have hot := (hC.2 t ht.1 ht.2).resolve_left (by omega)
  by_cases e2 : i = c
  · rw [e, e2] at hot; exact hne hot.2.2
  · have := (hsd t ht.1 (by omega)).mpr ⟨i, k1, by omega, by rw [← e]; exact hot.2.2⟩
    rw [hst] at this; cases this
theorem tk_at {g : Int → Int} {c t o : Int} (h : ¬ o = c) : tkP g c t o c = t := by
  unfold tkP
  rw [if_neg (fun z => h z.symm), if_pos rfl]
theorem tk_pre {g : Int → Int} {c t o i : Int} (h : ¬ o = i) (hi : ¬ i = c) : tkP g c t o i = g i := by
  unfold tkP
  rw [if_neg (fun z => h z.symm), if_neg hi]
theorem have_1 {g ow m p q : Int → Int} {nC nT c t sd W : Int} (hC : Con g ow nC nT) (hM : MaxM nC (mayT m nT) W g) (hc : 0 ≤ c ∧ c < nC) (ht : 0 ≤ t ∧ t < nT) (hT : nT ≤ 20) (hne : ¬ g c = t) (hsd : Sd g sd c) (hst : bt sd t = false) (hm : bt (m c) t = true) (hz : g c = -4 ∨ ow t = -4)
    (hp : ∀ j, 0 ≤ j → j < nC → p j = tkP g c t (ow t) j) (hq : ∀ x, 0 ≤ x → x < nT → q x = tkQ ow c t (g c) x) : HaveQ nC nT W m g c t p q := by
  have hoc := tk_oc hC ht hT hne hsd hst
  have hco := con_congr (tk_con hC hc ht hne) hp hq
  have hl := leg_congr (tk_leg (ow := ow) (leg_of hM.1) hm) hp
  have hn : wrmN nC 0 p = _ := (wrm_congr hp).trans (tk_cnt hC hc ht hne)
  have hle := hM.2.2 p (con_mtc hco hl)
  have hW := hM.2.1
  refine ⟨hco, hl, ?_, ?_, fun i k1 k2 => ?_⟩
  · split at hn <;> split at hn <;> omega
  · rw [hp c hc.1 hc.2, tk_at (hoc c hc.1 (Int.le_refl _))]
  · rw [hp i k1 (by omega), tk_pre (hoc i k1 (by omega)) (by omega)]
theorem have_2 {g ow m p q : Int → Int} {nC nT c t sd W : Int} (hC : Con g ow nC nT) (hM : MaxM nC (mayT m nT) W g) (hc : 0 ≤ c ∧ c < nC) (ht : 0 ≤ t ∧ t < nT) (hT : nT ≤ 20) (hne : ¬ g c = t) (hsd : Sd g sd c) (hst : bt sd t = false) (hm : bt (m c) t = true) (hl : ¬ g c = -4) (ho : ¬ ow t = -4)
    (hF : Flip (tkP g c t (ow t)) (tkQ ow c t (g c)) m nC nT (c + 1) (jor sd (jshl 1 t)) p q) : HaveQ nC nT W m g c t p q := by
  have hoc := tk_oc hC ht hT hne hsd hst
  have hcnt := flip_cnt hF (c0 := 0) (by omega)
  have hn := tk_cnt hC hc ht hne
  rw [if_neg hl, if_neg ho] at hn
  have hW := hM.2.1
  have hbar : ∀ x, 0 ≤ x → x < 32 → bt (jor sd (jshl 1 t)) x = (bt sd x || decide (t = x)) := fun x k1 k2 => by rw [bt_or, bt_shl ⟨ht.1, by omega⟩ ⟨k1, k2⟩]
  have ec := tk_at (g := g) (t := t) (hoc c hc.1 (Int.le_refl _))
  refine ⟨hF.1, flip_leg hF (tk_leg (leg_of hM.1) hm), by omega, ?_, fun i k1 k2 => ?_⟩
  · by_cases e : p c = tkP g c t (ow t) c
    · rw [e, ec]
    · rcases (hF.2.2.1 c e).2.2.2.2.2 with a | a
      · omega
      · rw [ec, hbar t ht.1 (by omega)] at a
        simp at a
  · have ei := tk_pre (g := g) (c := c) (t := t) (hoc i k1 (by omega)) (by omega)
    by_cases e : p i = tkP g c t (ow t) i
    · rw [e, ei]
    · rcases (hF.2.2.1 i e).2.2.2.2.2 with a | a
      · omega
      · rw [ei] at a
        rcases hC.1 i k1 (by omega) with b | b
        · exact absurd b a.1
        · rw [hbar _ b.1 (by omega), (hsd _ b.1 (by omega)).mpr ⟨i, k1, k2, rfl⟩] at a
          simp at a
theorem tk_backP {g ow : Int → Int} {nC nT c t : Int} (hC : Con g ow nC nT) (ht : 0 ≤ t ∧ t < nT) (ho : ¬ ow t = -4) : (fun j => if j = c then g c else if j = ow t then t else tkP g c t (ow t) j) = g := by
  have hot := (hC.2 t ht.1 ht.2).resolve_left ho
  funext j
  by_cases h1 : j = c
  · simp only [h1, if_true]
  · by_cases h2 : j = ow t
    · simp only [h2, if_true]
      split
      · rename_i h3; rw [h3]
      · exact hot.2.2.symm
    · simp only [tkP, h1, h2, if_false]
theorem tk_backQ {g ow : Int → Int} {nC nT c t : Int} (hC : Con g ow nC nT) (hc : 0 ≤ c ∧ c < nC) (hl : ¬ g c = -4) : (fun x => if x = g c then c else if x = t then ow t else tkQ ow c t (g c) x) = ow := by
  have hgc := (hC.1 c hc.1 hc.2).resolve_left hl
  funext x
  by_cases h1 : x = g c
  · simp only [h1, if_true]; exact hgc.2.2.symm
  · by_cases h2 : x = t
    · simp only [h2, if_true]
      split
      · rename_i h3; rw [h2] at h1; exact absurd h3 h1
      · rfl
    · simp only [tkQ, h1, h2, if_false]
/-- ahead of c all is in order, and settled -/
def OrdI (nC nT W : Int) (m g ow : Int → Int) (sd c : Int) : Prop := Con g ow nC nT ∧ MaxM nC (mayT m nT) W g ∧ LexTo nC (mayT m nT) W g c ∧ Sd g sd c
/-- nothing below t can go to c -/
def Rej (nC nT W : Int) (m g : Int → Int) (c t : Int) : Prop := ∀ x, 0 ≤ x → x < t → ∀ g', Mtc nC (mayT m nT) g' → wrmN nC 0 g' = W → (∀ i, 0 ≤ i → i < c → g' i = g i) → ¬ g' c = x
theorem rej_step {nC nT W c t : Int} {m g : Int → Int} (h : Rej nC nT W m g c t) (hn : ∀ g', Mtc nC (mayT m nT) g' → wrmN nC 0 g' = W → (∀ i, 0 ≤ i → i < c → g' i = g i) → ¬ g' c = t) : Rej nC nT W m g c (t + 1) := by
  intro x k1 k2
  by_cases e : x = t
  · rw [e]; exact hn
  · exact h x k1 (by omega)
theorem rej_shut {nC nT W c t sd : Int} {m g ow : Int → Int} (ho : OrdI nC nT W m g ow sd c) (hc : 0 ≤ c ∧ c < nC) (ht : 0 ≤ t ∧ t < nT) (hT : nT ≤ 20) (hb : ¬ (bt (m c) t = true ∧ bt sd t = false)) : ∀ g', Mtc nC (mayT m nT) g' → wrmN nC 0 g' = W → (∀ i, 0 ≤ i → i < c → g' i = g i) → ¬ g' c = t := by
  intro g' hg _ hp e
  have hm := (hg.1 c hc.1 hc.2).resolve_left (by omega)
  rw [e] at hm
  cases hs : bt sd t with
  | false => exact hb ⟨hm.2.2, hs⟩
  | true =>
    obtain ⟨i, a1, a2, a3⟩ := (ho.2.2.2 t ht.1 (by omega)).mp hs
    have := hg.2 i c a1 (by omega) hc.1 hc.2 (by rw [hp i a1 a2]; omega) (by rw [hp i a1 a2, a3, e])
    omega
theorem have_0 {nC nT W c t sd : Int} {m g ow : Int → Int} (ho : OrdI nC nT W m g ow sd c) (e : g c = t) : HaveQ nC nT W m g c t g ow := ⟨ho.1, leg_of ho.2.1.1, ho.2.1.2.1, e, fun _ _ _ => rfl⟩
theorem lex_next {nC W c : Int} {may : Int → Int → Prop} {g p : Int → Int} (hl : LexTo nC may W g c) (hp : ∀ i, 0 ≤ i → i < c → p i = g i) (hn : ∀ g', Mtc nC may g' → wrmN nC 0 g' = W → (∀ i, 0 ≤ i → i < c → g' i = g i) → lexle (p c) (g' c)) : LexTo nC may W p (c + 1) := by
  intro d k1 k2 g' h1 h2 h3
  by_cases e : d = c
  · subst e
    exact hn g' h1 h2 (fun i a b => (h3 i a b).trans (hp i a b))
  · rw [hp d k1 (by omega)]
    exact hl d k1 (by omega) g' h1 h2 (fun i a b => (h3 i a b).trans (hp i a (by omega)))
theorem ord_take {nC nT W c t sd : Int} {m g ow p q : Int → Int} (ho : OrdI nC nT W m g ow sd c) (hc : 0 ≤ c ∧ c < nC) (ht : 0 ≤ t ∧ t < nT) (hT : nT ≤ 20) (hr : Rej nC nT W m g c t) (hH : HaveQ nC nT W m g c t p q) : OrdI nC nT W m p q (jor sd (jshl 1 t)) (c + 1) := by
  obtain ⟨h1, h2, h3, h4, h5⟩ := hH
  refine ⟨h1, ⟨con_mtc h1 h2, h3, ho.2.1.2.2⟩, lex_next ho.2.2.1 h5 (fun g' a b e => ?_), fun x k1 k2 => ?_⟩
  · rw [h4]
    by_cases hz : g' c = -4
    · exact Or.inl hz
    · have hm := ((a.1 c hc.1 hc.2).resolve_left hz).1
      refine Or.inr ⟨by omega, ?_⟩
      by_cases hlt : g' c < t
      · exact absurd rfl (hr _ hm hlt g' a b e)
      · omega
  · rw [bt_or, bt_shl ⟨ht.1, by omega⟩ ⟨k1, k2⟩]
    constructor
    · intro h
      rcases Bool.or_eq_true_iff.mp h with h | h
      · obtain ⟨i, a1, a2, a3⟩ := (ho.2.2.2 x k1 k2).mp h
        exact ⟨i, a1, by omega, (h5 i a1 a2).trans a3⟩
      · exact ⟨c, hc.1, by omega, h4.trans (of_decide_eq_true h)⟩
    · rintro ⟨i, a1, a2, a3⟩
      apply Bool.or_eq_true_iff.mpr
      by_cases e : i = c
      · right
        rw [e, h4] at a3
        exact decide_eq_true a3
      · left
        exact (ho.2.2.2 x k1 k2).mpr ⟨i, a1, by omega, by rw [← h5 i a1 (by omega)]; exact a3⟩
theorem ord_none {nC nT W c sd : Int} {m g ow : Int → Int} (ho : OrdI nC nT W m g ow sd c) (hc : 0 ≤ c ∧ c < nC) (hr : Rej nC nT W m g c nT) : OrdI nC nT W m g ow sd (c + 1) := by
  have key : ∀ g', Mtc nC (mayT m nT) g' → wrmN nC 0 g' = W → (∀ i, 0 ≤ i → i < c → g' i = g i) → g' c = -4 := by
    intro g' a b e
    rcases a.1 c hc.1 hc.2 with h | h
    · exact h
    · exact absurd rfl (hr _ h.1 h.2.1 g' a b e)
  have hg := key g ho.2.1.1 ho.2.1.2.1 (fun _ _ _ => rfl)
  refine ⟨ho.1, ho.2.1, lex_next ho.2.2.1 (fun _ _ _ => rfl) (fun g' a b e => Or.inl (key g' a b e)), fun x k1 k2 => ?_⟩
  rw [ho.2.2.2 x k1 k2]
  constructor
  · rintro ⟨i, a1, a2, a3⟩
    exact ⟨i, a1, by omega, a3⟩
  · rintro ⟨i, a1, a2, a3⟩
    by_cases e : i = c
    · rw [e, hg] at a3; omega
    · exact ⟨i, a1, by omega, a3⟩
theorem ord_0 {nC nT W : Int} {m g ow : Int → Int} (hC : Con g ow nC nT) (hM : MaxM nC (mayT m nT) W g) : OrdI nC nT W m g ow 0 0 :=
  ⟨hC, hM, fun c k1 k2 => by omega, fun x k1 k2 => by rw [bt_0]; constructor; (intro h; cases h); (rintro ⟨i, a1, a2, -⟩; omega)⟩
