-- rows of marks: the last ones
def RchC (f : Int → Int → Bool) (n K : Int) (P : Int → Prop) : Prop := P 0 ∧ ∀ u c, P u → popI u < K → (0 ≤ c ∧ c < n) → okR f (popI u) c u = true → P (jor u (jshl 1 c))
def Rch (f : Int → Int → Bool) (n K u : Int) : Prop := ∀ P : Int → Prop, RchC f n K P → P u
theorem Rch.zero {f : Int → Int → Bool} {n K : Int} : Rch f n K 0 := fun _ h => h.1
theorem Rch.step {f : Int → Int → Bool} {n K u c : Int} (h : Rch f n K u) (hk : popI u < K) (hc : 0 ≤ c ∧ c < n) (ho : okR f (popI u) c u = true) : Rch f n K (jor u (jshl 1 c)) := fun P hP => hP.2 u c (h P hP) hk hc ho
theorem Rch.rng {f : Int → Int → Bool} {n K u : Int} (hn : 0 ≤ n ∧ n ≤ 8) (h : Rch f n K u) : 0 ≤ u ∧ u < pwI n.toNat :=
  h (fun u => 0 ≤ u ∧ u < pwI n.toNat) ⟨⟨by omega, by have := pw_pos n.toNat; omega⟩, fun u c ih _ hc _ => or_up hn ih hc⟩
def StpQ (f : Int → Int → Bool) (n K i j c : Int) : Prop := Rch f n K j ∧ popI j < K ∧ (0 ≤ c ∧ c < n) ∧ okR f (popI j) c j = true ∧ i = jor j (jshl 1 c)
theorem Rch.from {f : Int → Int → Bool} {n K i : Int} (h : Rch f n K i) : i = 0 ∨ ∃ j c, StpQ f n K i j c :=
  (h (fun i => Rch f n K i ∧ (i = 0 ∨ ∃ j c, StpQ f n K i j c)) ⟨⟨Rch.zero, Or.inl rfl⟩, fun u c ih hk hc ho => ⟨ih.1.step hk hc ho, Or.inr ⟨u, c, ih.1, hk, hc, ho, rfl⟩⟩⟩).2
theorem StpQ.up {f : Int → Int → Bool} {n K i j c : Int} (hn : 0 ≤ n ∧ n ≤ 8) (h : StpQ f n K i j c) : j < i := by
  have h8 := pw_8 hn
  have hr := h.1.rng hn
  rw [h.2.2.2.2]
  exact (pop_add ⟨hr.1, by omega⟩ ⟨h.2.2.1.1, by have := h.2.2.1.2; omega⟩ (okR_iff.mp h.2.2.2.1).2).2
/-- reached from those below U, and from U by the children below C -/
def RchB (f : Int → Int → Bool) (n K U C i : Int) : Prop := i = 0 ∨ (∃ j c, j < U ∧ StpQ f n K i j c) ∨ (∃ c, c < C ∧ StpQ f n K i U c)
theorem rchB_at {f : Int → Int → Bool} {n K U C i : Int} (hn : 0 ≤ n ∧ n ≤ 8) (hi : i ≤ U) : RchB f n K U C i ↔ Rch f n K i := by
  constructor
  · rintro (z | ⟨j, c, z1, z2⟩ | ⟨c, z1, z2⟩)
    · rw [z]; exact Rch.zero
    · rw [z2.2.2.2.2]; exact Rch.step z2.1 z2.2.1 z2.2.2.1 z2.2.2.2.1
    · rw [z2.2.2.2.2]; exact Rch.step z2.1 z2.2.1 z2.2.2.1 z2.2.2.2.1
  · intro h
    rcases h.from with e | ⟨j, c, q⟩
    · exact Or.inl e
    · exact Or.inr (Or.inl ⟨j, c, by have := q.up hn; omega, q⟩)
theorem rchB_no {f : Int → Int → Bool} {n K U C i : Int} (h : ¬ (Rch f n K U ∧ popI U < K ∧ (0 ≤ C ∧ C < n) ∧ okR f (popI U) C U = true)) : RchB f n K U C i ↔ RchB f n K U (C + 1) i := by
  constructor
  · rintro (z | z | ⟨c, z1, z2⟩)
    · exact Or.inl z
    · exact Or.inr (Or.inl z)
    · exact Or.inr (Or.inr ⟨c, by omega, z2⟩)
  · rintro (z | z | ⟨c, z1, z2⟩)
    · exact Or.inl z
    · exact Or.inr (Or.inl z)
    · by_cases e : c = C
      · rw [e] at z2
        exact absurd ⟨z2.1, z2.2.1, z2.2.2.1, z2.2.2.2.1⟩ h
      · exact Or.inr (Or.inr ⟨c, by omega, z2⟩)
theorem rchB_yes {f : Int → Int → Bool} {n K U C i : Int} (h : Rch f n K U ∧ popI U < K ∧ (0 ≤ C ∧ C < n) ∧ okR f (popI U) C U = true) : RchB f n K U (C + 1) i ↔ RchB f n K U C i ∨ i = jor U (jshl 1 C) := by
  constructor
  · rintro (z | z | ⟨c, z1, z2⟩)
    · exact Or.inl (Or.inl z)
    · exact Or.inl (Or.inr (Or.inl z))
    · by_cases e : c = C
      · rw [e] at z2
        exact Or.inr z2.2.2.2.2
      · exact Or.inl (Or.inr (Or.inr ⟨c, by omega, z2⟩))
  · rintro ((z | z | ⟨c, z1, z2⟩) | z)
    · exact Or.inl z
    · exact Or.inr (Or.inl z)
    · exact Or.inr (Or.inr ⟨c, by omega, z2⟩)
    · exact Or.inr (Or.inr ⟨C, by omega, h.1, h.2.1, h.2.2.1, h.2.2.2, z⟩)
theorem rchB_next {f : Int → Int → Bool} {n K U C i : Int} (h : n ≤ C ∨ ¬ (Rch f n K U ∧ popI U < K)) : RchB f n K U C i ↔ RchB f n K (U + 1) 0 i := by
  constructor
  · rintro (z | ⟨j, c, z1, z2⟩ | ⟨c, z1, z2⟩)
    · exact Or.inl z
    · exact Or.inr (Or.inl ⟨j, c, by omega, z2⟩)
    · exact Or.inr (Or.inl ⟨U, c, by omega, z2⟩)
  · rintro (z | ⟨j, c, z1, z2⟩ | ⟨c, z1, z2⟩)
    · exact Or.inl z
    · by_cases e : j = U
      · rw [e] at z2
        rcases h with h | h
        · exact Or.inr (Or.inr ⟨c, by have := z2.2.2.1.2; omega, z2⟩)
        · exact absurd ⟨z2.1, z2.2.1⟩ h
      · exact Or.inr (Or.inl ⟨j, c, by omega, z2⟩)
    · have := z2.2.2.1.1
      omega
/-- the last ones, of those below U, and of U the children below C -/
def LasB (f : Int → Int → Bool) (n K U C c : Int) : Prop := (0 ≤ c ∧ c < n) ∧ ∃ j, (j < U ∨ (j = U ∧ c < C)) ∧ Rch f n K j ∧ popI j = K - 1 ∧ okR f (K - 1) c j = true
theorem lasB_no {f : Int → Int → Bool} {n K U C c : Int} (h : ¬ (Rch f n K U ∧ popI U = K - 1 ∧ (0 ≤ C ∧ C < n) ∧ okR f (K - 1) C U = true)) : LasB f n K U C c ↔ LasB f n K U (C + 1) c := by
  constructor
  · rintro ⟨z, j, z1, z2⟩
    exact ⟨z, j, by omega, z2⟩
  · rintro ⟨z, j, z1, z2⟩
    refine ⟨z, j, ?_, z2⟩
    by_cases e : j = U ∧ c = C
    · rw [e.1, e.2] at z2
      rw [e.2] at z
      exact absurd ⟨z2.1, z2.2.1, z, z2.2.2⟩ h
    · omega
theorem lasB_yes {f : Int → Int → Bool} {n K U C c : Int} (h : Rch f n K U ∧ popI U = K - 1 ∧ (0 ≤ C ∧ C < n) ∧ okR f (K - 1) C U = true) : LasB f n K U (C + 1) c ↔ LasB f n K U C c ∨ C = c := by
  constructor
  · rintro ⟨z, j, z1, z2⟩
    by_cases e : C = c
    · exact Or.inr e
    · exact Or.inl ⟨z, j, by omega, z2⟩
  · rintro (⟨z, j, z1, z2⟩ | e)
    · exact ⟨z, j, by omega, z2⟩
    · rw [← e]
      exact ⟨h.2.2.1, U, Or.inr ⟨rfl, by omega⟩, h.1, h.2.1, h.2.2.2⟩
theorem lasB_next {f : Int → Int → Bool} {n K U C c : Int} (h : n ≤ C ∨ ¬ (Rch f n K U ∧ popI U < K)) : LasB f n K U C c ↔ LasB f n K (U + 1) 0 c := by
  constructor
  · rintro ⟨z, j, z1, z2⟩
    exact ⟨z, j, by omega, z2⟩
  · rintro ⟨z, j, z1, z2⟩
    refine ⟨z, j, ?_, z2⟩
    rcases h with h | h
    · omega
    · by_cases e : j = U
      · rw [e] at z2
        exact absurd ⟨z2.1, by omega⟩ h
      · omega
