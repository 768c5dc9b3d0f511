-- the Model's most that are warm; why no more
def CertI (g ow m : Int → Int) (nC nT c : Int) (R : Int → Prop) : Prop := (∀ d, 0 ≤ d → d < c → g d = -4 → R d) ∧ (∀ d, R d → 0 ≤ d ∧ d < nC ∧ (0 ≤ g d ∨ d < c)) ∧ ClosedR ow m nT 0 R
theorem cert_0 {g ow m : Int → Int} {nC nT : Int} : CertI g ow m nC nT 0 (fun _ => False) := ⟨fun d h1 h2 => by omega, fun d h => h.elim, fun d x h => h.elim⟩
theorem cert_fail {g ow m : Int → Int} {nC nT c : Int} {R : Int → Prop} (h : CertI g ow m nC nT c R) (hf : Fail1 g ow m nC nT c 0) : ∃ R2, CertI g ow m nC nT (c + 1) R2 := by
  obtain ⟨Rf, f1, f2, f3⟩ := hf
  refine ⟨fun d => R d ∨ Rf d, fun d h1 h2 h3 => ?_, fun d hd => ?_, fun d x hd h0 h1 h2 h3 => ?_⟩
  · by_cases e : d = c
    · rw [e]; exact Or.inr f1
    · exact Or.inl (h.1 d h1 (by omega) h3)
  · rcases hd with hd | hd
    · have := h.2.1 d hd
      omega
    · obtain ⟨a, b, k⟩ := f2 d hd
      refine ⟨a, b, ?_⟩
      rcases k with k | k
      · right; omega
      · exact Or.inl k.1
  · rcases hd with hd | hd
    · have := h.2.2 d x hd h0 h1 h2 h3
      exact ⟨this.1, Or.inl this.2⟩
    · have := f3 d x hd h0 h1 h2 h3
      exact ⟨this.1, Or.inr this.2⟩
theorem cert_flip {g ow m p q : Int → Int} {nC nT c : Int} {R : Int → Prop} (h : CertI g ow m nC nT c R) (hC : Con g ow nC nT) (hc2 : Con p q nC nT) (hk : ∀ d, R d → p d = g d) (hw : ¬ p c = -4) (hcd : ∀ d, ¬ d = c → (p d = -4 ↔ g d = -4)) : CertI p q m nC nT (c + 1) R := by
  refine ⟨fun d h1 h2 h3 => ?_, fun d hd => ?_, fun d x hd h0 h1 h2 h3 => ?_⟩
  · have e : ¬ d = c := fun z => hw (by rw [← z]; exact h3)
    exact h.1 d h1 (by omega) ((hcd d e).mp h3)
  · have := h.2.1 d hd
    rw [hk d hd]
    omega
  · obtain ⟨a, b⟩ := h.2.2 d x hd h0 h1 h2 h3
    obtain ⟨e1, e2, e3⟩ := (hC.2 x h0 h1).resolve_left a
    have e4 := hk _ b
    rw [e3] at e4
    have e5 := (hc2.1 _ e1 e2).resolve_left (by omega)
    rw [e4] at e5
    rw [e5.2.2]
    exact ⟨by omega, b⟩
theorem cert_end {g ow m : Int → Int} {nC nT : Int} {R : Int → Prop} (hC : Con g ow nC nT) (hl : Leg g m nC) (h : CertI g ow m nC nT nC R) : MaxM nC (mayT m nT) (wrmN nC 0 g) g := by
  refine max_0 (sk := fun x => x) hC hl (Or.inl ⟨rfl, R, fun c h1 h2 h3 => h.1 c h1 h2 h3, fun d hd => ?_, h.2.2⟩)
  obtain ⟨a, b, k⟩ := h.2.1 d hd
  refine ⟨a, b, ?_⟩
  rcases hC.1 d a b with z | z
  · exact Or.inl ⟨z, a⟩
  · exact Or.inr ⟨z.1, bt_0 _⟩
theorem fill2 {v : VT} : (∀ c, 0 ≤ c → c < 8 → fillF (fillF v 125 (-4) 8) 126 (-4) 20 125 c = -4) ∧ (∀ x, 0 ≤ x → x < 20 → fillF (fillF v 125 (-4) 8) 126 (-4) 20 126 x = -4) ∧ ∀ a j, ¬ a = 125 → ¬ a = 126 → fillF (fillF v 125 (-4) 8) 126 (-4) 20 a j = v a j := by
  refine ⟨fun c h1 h2 => ?_, fun x h1 h2 => ?_, fun a j h1 h2 => ?_⟩
  · rw [fillF_row (by decide)]
    unfold fillF
    rw [if_pos ⟨rfl, h1, h2⟩]
  · unfold fillF
    rw [if_pos ⟨rfl, h1, h2⟩]
  · rw [fillF_row h2, fillF_row h1]
theorem wrm_0 {nC : Int} {g : Int → Int} (h : ∀ c, 0 ≤ c → c < nC → g c = -4) : wrmN nC 0 g = 0 := by
  unfold wrmN
  refine cnt_none _ (fun y h1 h2 => ?_)
  unfold wrmB
  rw [h y h1 (by omega)]
  simp
/-- the certificate of those behind c that were tried -/
def CertT (g ow m : Int → Int) (nC nT c1 bar x : Int) (R : Int → Prop) : Prop := (∀ d, c1 ≤ d → d < x → g d = -4 → R d) ∧ (∀ d, R d → 0 ≤ d ∧ d < nC ∧ ((g d = -4 ∧ c1 ≤ d) ∨ (0 ≤ g d ∧ bt bar (g d) = false))) ∧ ClosedR ow m nT bar R
theorem certT_0 {g ow m : Int → Int} {nC nT c1 bar : Int} : CertT g ow m nC nT c1 bar c1 (fun _ => False) := ⟨fun d h1 h2 => by omega, fun d h => h.elim, fun d x h => h.elim⟩
theorem certT_warm {g ow m : Int → Int} {nC nT c1 bar x : Int} {R : Int → Prop} (h : CertT g ow m nC nT c1 bar x R) (hw : ¬ g x = -4) : CertT g ow m nC nT c1 bar (x + 1) R :=
  ⟨fun d h1 h2 h3 => h.1 d h1 (by have : ¬ d = x := fun e => hw (by rw [← e]; exact h3)
                                  omega) h3, h.2⟩
theorem certT_fail {g ow m : Int → Int} {nC nT c1 bar x : Int} {R : Int → Prop} (h : CertT g ow m nC nT c1 bar x R) (hx : c1 ≤ x) (hg : g x = -4) (hf : Fail1 g ow m nC nT x bar) : ∃ R2, CertT g ow m nC nT c1 bar (x + 1) R2 := by
  obtain ⟨Rf, f1, f2, f3⟩ := hf
  refine ⟨fun d => R d ∨ Rf d, fun d h1 h2 h3 => ?_, fun d hd => ?_, fun d y hd h0 h1 h2 h3 => ?_⟩
  · by_cases e : d = x
    · rw [e]; exact Or.inr f1
    · exact Or.inl (h.1 d h1 (by omega) h3)
  · rcases hd with hd | hd
    · exact h.2.1 d hd
    · obtain ⟨a, b, k⟩ := f2 d hd
      refine ⟨a, b, ?_⟩
      rcases k with k | k
      · left; rw [k]; exact ⟨hg, hx⟩
      · exact Or.inr k
  · rcases hd with hd | hd
    · have := h.2.2 d y hd h0 h1 h2 h3
      exact ⟨this.1, Or.inl this.2⟩
    · have := f3 d y hd h0 h1 h2 h3
      exact ⟨this.1, Or.inr this.2⟩
theorem certT_seek {g ow m : Int → Int} {nC nT c1 bar : Int} {R : Int → Prop} (h : CertT g ow m nC nT c1 bar nC R) : SeekQ g ow m (fun x => x) nC nT c1 bar (-4) := Or.inl ⟨rfl, R, h.1, h.2.1, h.2.2⟩
theorem have_same {g ow m : Int → Int} {nC nT c t W : Int} (hC : Con g ow nC nT) (hM : MaxM nC (mayT m nT) W g) (e : g c = t) : HaveQ nC nT W m g c t g ow := ⟨hC, leg_of hM.1, hM.2.1, e, fun _ _ _ => rfl⟩
theorem keptP {w v : VT} {c t o : Int} (hs : ∀ j, 0 ≤ j → j < 8 → w 129 j = v 125 j) (hp : w 125 = tkP (v 125) c t o) (hc : 0 ≤ c ∧ c < 8) (ho : 0 ≤ o ∧ o < 8) : cpyF (cpyF w 125 129 8) 126 130 20 125 = v 125 := by
  rw [cpyF_row (by decide)]
  funext j
  unfold cpyF
  by_cases h : 0 ≤ j ∧ j < 8
  · rw [if_pos ⟨rfl, h⟩]
    exact hs j h.1 h.2
  · rw [if_neg (fun z => h z.2), hp]
    unfold tkP
    rw [if_neg (by omega), if_neg (by omega)]
theorem keptQ {w v : VT} {c t l : Int} (hs : ∀ j, 0 ≤ j → j < 20 → w 130 j = v 126 j) (hp : w 126 = tkQ (v 126) c t l) (ht : 0 ≤ t ∧ t < 20) (hl : 0 ≤ l ∧ l < 20) : cpyF (cpyF w 125 129 8) 126 130 20 126 = v 126 := by
  funext j
  have e1 : ∀ i, cpyF w 125 129 8 130 i = w 130 i := fun i => congrFun (cpyF_row (by decide)) i
  have e2 : ∀ i, cpyF w 125 129 8 126 i = w 126 i := fun i => congrFun (cpyF_row (by decide)) i
  unfold cpyF at e1 e2 ⊢
  by_cases h : 0 ≤ j ∧ j < 20
  · rw [if_pos ⟨rfl, h⟩, e1]
    exact hs j h.1 h.2
  · rw [if_neg (fun z => h z.2), e2, hp]
    unfold tkQ
    rw [if_neg (by omega), if_neg (by omega)]
theorem kept16 {v : VT} : (∀ a j, (a < 129 ∨ 130 < a) → cpyF (cpyF v 129 125 8) 130 126 20 a j = v a j) ∧ (∀ j, 0 ≤ j → j < 8 → cpyF (cpyF v 129 125 8) 130 126 20 129 j = v 125 j) ∧ (∀ j, 0 ≤ j → j < 20 → cpyF (cpyF v 129 125 8) 130 126 20 130 j = v 126 j) := by
  refine ⟨fun a j h => ?_, fun j h1 h2 => ?_, fun j h1 h2 => ?_⟩
  · rw [cpyF_row (by omega), cpyF_row (by omega)]
  · rw [cpyF_row (by decide)]
    unfold cpyF
    rw [if_pos ⟨rfl, h1, h2⟩]
  · have e1 : ∀ i, cpyF v 129 125 8 126 i = v 126 i := fun i => congrFun (cpyF_row (by decide)) i
    unfold cpyF at e1 ⊢
    rw [if_pos ⟨rfl, h1, h2⟩]
    exact e1 j
theorem tkP_row {w : VT} {c t o l : Int} : (upd2 (upd2 (upd2 (upd2 w 126 l (-4)) 125 c t) 126 t c) 125 o (-4)) 125 = tkP (w 125) c t o := by
  rw [upd2_row, upd2_rowne (by decide), upd2_row, upd2_rowne (by decide)]
  rfl
theorem tkQ_row {w : VT} {c t o l : Int} (h : ¬ l = t) : (upd2 (upd2 (upd2 (upd2 w 126 l (-4)) 125 c t) 126 t c) 125 o (-4)) 126 = tkQ (w 126) c t l := by
  rw [upd2_rowne (by decide), upd2_row, upd2_rowne (by decide), upd2_row]
  funext j
  unfold tkQ
  by_cases h1 : j = t
  · rw [if_pos h1, if_neg (by omega), if_pos h1]
  · rw [if_neg h1]
    by_cases h2 : j = l
    · show (if j = l then (-4 : Int) else _) = _
      rw [if_pos h2, if_pos h2]
    · show (if j = l then (-4 : Int) else _) = _
      rw [if_neg h2, if_neg h2, if_neg h1]
