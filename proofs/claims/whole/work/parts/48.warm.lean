-- the most that are warm
def mayT (m : Int → Int) (nT : Int) : Int → Int → Prop := fun c t => 0 ≤ t ∧ t < nT ∧ bt (m c) t = true
def Leg (g m : Int → Int) (nC : Int) : Prop := ∀ c, 0 ≤ c → c < nC → ¬ g c = -4 → bt (m c) (g c) = true
theorem con_mtc {g ow m : Int → Int} {nC nT : Int} (h : Con g ow nC nT) (hl : Leg g m nC) : Mtc nC (mayT m nT) g := by
  refine ⟨fun c h1 h2 => ?_, fun c d h1 h2 h3 h4 h5 e => ?_⟩
  · rcases h.1 c h1 h2 with a | ⟨a1, a2, a3⟩
    · exact Or.inl a
    · exact Or.inr ⟨a1, a2, hl c h1 h2 (by omega)⟩
  · rcases h.1 c h1 h2 with a | ⟨a1, a2, a3⟩
    · exact absurd a h5
    · rcases h.1 d h3 h4 with b | ⟨b1, b2, b3⟩
      · omega
      · rw [← a3, e, b3]
theorem flip_cnt {g ow m p q : Int → Int} {nC nT fm bar : Int} (h : Flip g ow m nC nT fm bar p q) {c0 : Int} (hc : c0 ≤ fm) : wrmN nC c0 p = wrmN nC c0 g + 1 := by
  obtain ⟨-, ⟨root, r1, r2, r3, r4, r5, r6⟩, -, -⟩ := h
  unfold wrmN
  refine cnt_one nC.toNat (x := root) ⟨r1, by omega⟩ ?_ ?_ (fun y h1 h2 hne => ?_)
  · unfold wrmB
    rw [r4]
    simp
  · unfold wrmB
    exact decide_eq_true ⟨by omega, r5⟩
  · unfold wrmB
    have := r6 y hne
    by_cases hz : g y = -4
    · rw [hz, this.mpr hz]
    · have h2 : ¬ p y = -4 := fun z => hz (this.mp z)
      simp [hz, h2]
theorem flip_leg {g ow m p q : Int → Int} {nC nT fm bar : Int} (h : Flip g ow m nC nT fm bar p q) (hl : Leg g m nC) : Leg p m nC := by
  intro c h1 h2 h3
  by_cases e : p c = g c
  · rw [e] at h3 ⊢
    exact hl c h1 h2 h3
  · exact (h.2.2.1 c e).2.2.1
theorem wrm_le (nC c0 : Int) (g : Int → Int) (h : 0 ≤ nC) : 0 ≤ wrmN nC c0 g ∧ wrmN nC c0 g ≤ nC := by
  have := cnt_bd (wrmB c0 g) nC.toNat
  unfold wrmN
  omega
theorem seek_max {g ow m sk : Int → Int} {nC nT fm bar : Int} (h0 : 0 ≤ fm) (hC : Con g ow nC nT) (hb : ∀ i, 0 ≤ i → i < fm → g i = -4 ∨ bt bar (g i) = true) (h : SeekQ g ow m sk nC nT fm bar (-4)) {g' : Int → Int}
    (hm : ∀ c, fm ≤ c → c < nC → ¬ g' c = -4 → mayT m nT c (g' c) ∧ bt bar (g' c) = false) (hinj : ∀ c d, fm ≤ c → c < nC → fm ≤ d → d < nC → ¬ g' c = -4 → g' c = g' d → c = d) : wrmN nC fm g' ≤ wrmN nC fm g := by
  rcases h with ⟨-, R, r1, r2, r3⟩ | h
  · refine cert_max (may := mayT m nT) (Z := fun t => bt bar t = true) (ow := ow) (R := fun c => @decide (R c) (Classical.propDecidable _)) h0 (fun c k1 k2 k3 => ?_) (fun c k => ?_) (fun c t k1 k2 k3 => ?_) (fun c k1 k2 k3 => ?_) hinj
    · exact (@decide_eq_true_iff _ (Classical.propDecidable _)).mpr (r1 c k1 k2 k3)
    · have k := (@decide_eq_true_iff _ (Classical.propDecidable _)).mp k
      obtain ⟨a1, a2, a3⟩ := r2 c k
      refine ⟨?_, a2⟩
      by_cases hlt : c < fm
      · rcases a3 with a3 | a3
        · exact a3.2
        · rcases hb c a1 hlt with b | b
          · omega
          · rw [b] at a3; exact absurd a3.2 (by decide)
      · omega
    · have k1 := (@decide_eq_true_iff _ (Classical.propDecidable _)).mp k1
      have k3 : bt bar t = false := by simpa using k3
      obtain ⟨b1, b2⟩ := r3 c t k1 k2.1 k2.2.1 k2.2.2 k3
      refine ⟨(@decide_eq_true_iff _ (Classical.propDecidable _)).mpr b2, ?_⟩
      rcases hC.2 t k2.1 k2.2.1 with d | d
      · exact absurd d b1
      · exact d.2.2
    · obtain ⟨a, b⟩ := hm c k1 k2 k3
      exact ⟨a, by rw [b]; decide⟩
  · omega
theorem max_0 {g ow m sk : Int → Int} {nC nT : Int} (hC : Con g ow nC nT) (hl : Leg g m nC) (h : SeekQ g ow m sk nC nT 0 0 (-4)) : MaxM nC (mayT m nT) (wrmN nC 0 g) g := by
  refine ⟨con_mtc hC hl, rfl, fun g' hg => ?_⟩
  refine seek_max (Int.le_refl _) hC (fun i h1 h2 => by omega) h (fun c k1 k2 k3 => ⟨?_, bt_0 _⟩) (fun c d k1 k2 k3 k4 => hg.2 c d k1 k2 k3 k4)
  rcases hg.1 c k1 k2 with a | a
  · exact absurd a k3
  · exact a
theorem max_all {g ow m : Int → Int} {nC nT : Int} (hn : 0 ≤ nC) (hC : Con g ow nC nT) (hl : Leg g m nC) (h : nC ≤ wrmN nC 0 g) : MaxM nC (mayT m nT) (wrmN nC 0 g) g :=
  ⟨con_mtc hC hl, rfl, fun g' _ => Int.le_trans (wrm_le nC 0 g' hn).2 h⟩
