-- rows, listed one by one and counted by sets
theorem enu_congr {f g : Int → Int → Bool} {n : Int} : ∀ (m : Nat) (k u : Int), (∀ i c, k ≤ i → i < k + m → 0 ≤ c → c < n → f i c = g i c) → enuM f n m k u = enuM g n m k u
  | 0, _, _, _ => rfl
  | m + 1, k, u, h => by
    rw [enuM, enuM]
    refine catF_congr _ _ (fun d h1 h2 => ?_)
    have e : okR f k d u = okR g k d u := by
      unfold okR
      rw [h k d (by omega) (by omega) h1 (by omega)]
    rw [e, enu_congr m (k + 1) (jor u (jshl 1 d)) (fun i c a1 a2 a3 a4 => h i c (by omega) (by omega) a3 a4)]
theorem end_enu {f : Int → Int → Bool} {n K u : Int} (hu : popI u ≤ K) : endR f n.toNat K u = ((enuM f n (K - popI u).toNat (popI u) u).length : Int) := by
  unfold endR
  rw [if_pos hu, enu_len]
theorem end_enu0 {f : Int → Int → Bool} {n K : Int} (hK : 0 ≤ K) : endR f n.toNat K 0 = ((enuM f n K.toNat 0 0).length : Int) := by
  have := end_enu (f := f) (n := n) (K := K) (u := 0) (by rw [pop_0]; exact hK)
  rw [pop_0] at this
  rw [this, show (K - 0).toNat = K.toNat by omega]
theorem catF_head {α : Type} {p : Int → List α} {g : Int → Bool} {x : α} (hg : ∀ d, g d = true ↔ 0 < (p d).length) : ∀ (m : Nat) (c : Int), (catF p m c).head? = some x → (p (firstT g m c)).head? = some x ∧ g (firstT g m c) = true
  | 0, c, h => by
    rw [catF] at h
    exact absurd h (by simp)
  | m + 1, c, h => by
    rw [catF] at h
    unfold firstT
    by_cases e : g c = true
    · rw [if_pos e]
      refine ⟨?_, e⟩
      have := (hg c).mp e
      cases q : p c with
      | nil => rw [q] at this; exact absurd this (Nat.lt_irrefl 0)
      | cons y l => rw [q] at h; exact h
    · rw [if_neg e]
      cases q : p c with
      | nil => rw [q, List.nil_append] at h; exact catF_head hg m (c + 1) h
      | cons y l => exact absurd ((hg c).mpr (by rw [q]; exact Nat.succ_pos _)) e
theorem go_enu {f : Int → Int → Bool} {n K u c : Int} (hn : 0 ≤ n ∧ n ≤ 8) (hu : 0 ≤ u ∧ u < pwI n.toNat) (hk : popI u < K) (hc : 0 ≤ c ∧ c < 8) : goB f n K (popI u) u c = true ↔ 0 < (if okR f (popI u) c u then (enuM f n (K - popI u - 1).toNat (popI u + 1) (jor u (jshl 1 c))).map (fun t => c :: t) else []).length := by
  have h8 := pw_8 hn
  unfold goB
  rw [Bool.and_eq_true, decide_eq_true_iff]
  by_cases ho : okR f (popI u) c u = true
  · have hp := (pop_add ⟨hu.1, by omega⟩ hc (okR_iff.mp ho).2).1
    rw [if_pos ho, List.length_map, end_enu (by omega), hp, show K - (popI u + 1) = K - popI u - 1 by omega]
    exact ⟨fun z => by have := z.2; omega, fun z => ⟨ho, by omega⟩⟩
  · rw [if_neg ho]
    exact ⟨fun z => absurd z.1 ho, fun z => absurd z (by decide)⟩
theorem head_fst {f : Int → Int → Bool} {n K u : Int} {t : List Int} (hn : 0 ≤ n ∧ n ≤ 8) (hu : 0 ≤ u ∧ u < pwI n.toNat) (hk : popI u < K) (h0 : 0 ≤ popI u) (ht : (enuM f n (K - popI u).toNat (popI u) u).head? = some t) :
    ∃ s, t = fstB f n K (popI u) u :: s ∧ (0 ≤ fstB f n K (popI u) u ∧ fstB f n K (popI u) u < n) ∧ okR f (popI u) (fstB f n K (popI u) u) u = true ∧ (enuM f n (K - popI u - 1).toNat (popI u + 1) (jor u (jshl 1 (fstB f n K (popI u) u)))).head? = some s := by
  rw [show (K - popI u).toNat = (K - popI u - 1).toNat + 1 by omega, enuM, show (n - 0).toNat = n.toNat by omega] at ht
  have q := catF_head (g := fun d => decide (0 < (if okR f (popI u) d u then (enuM f n (K - popI u - 1).toNat (popI u + 1) (jor u (jshl 1 d))).map (fun t => d :: t) else []).length)) (fun d => decide_eq_true_iff) n.toNat 0 ht
  rw [firstT_congr (q := goB f n K (popI u) u) n.toNat 0 (fun d a b => by
    have e := go_enu (f := f) (K := K) hn hu hk (c := d) ⟨a, by omega⟩
    cases g : goB f n K (popI u) u d with
    | true => exact decide_eq_true (e.mp g)
    | false => exact decide_eq_false (fun z => by rw [e.mpr z] at g; exact absurd g (by decide)))] at q
  have q1 : ((if okR f (popI u) (fstB f n K (popI u) u) u then (enuM f n (K - popI u - 1).toNat (popI u + 1) (jor u (jshl 1 (fstB f n K (popI u) u)))).map (fun t => fstB f n K (popI u) u :: t) else []) : List (List Int)).head? = some t := q.1
  have hr : 0 ≤ fstB f n K (popI u) u ∧ fstB f n K (popI u) u < n := by
    rcases fst_go (f := f) (K := K) (k := popI u) (u := u) hn.1 with z | z
    · exfalso
      rw [z.1] at q1
      have q2 : decide (0 < ((if okR f (popI u) (fstB f n K (popI u) u) u then (enuM f n (K - popI u - 1).toNat (popI u + 1) (jor u (jshl 1 (fstB f n K (popI u) u)))).map (fun t => fstB f n K (popI u) u :: t) else []) : List (List Int)).length) = true := q.2
      rcases firstT_spec (fun d => decide (0 < (if okR f (popI u) d u then (enuM f n (K - popI u - 1).toNat (popI u + 1) (jor u (jshl 1 d))).map (fun t => d :: t) else []).length)) n.toNat 0 with y | y
      · have hl : (catF (fun c => if okR f (popI u) c u then (enuM f n (K - popI u - 1).toNat (popI u + 1) (jor u (jshl 1 c))).map (fun t => c :: t) else []) n.toNat 0) = [] := by
          rw [catF_congr (q := fun _ => []) n.toNat 0 (fun d a b => List.length_eq_zero_iff.mp (by have := of_decide_eq_false (y.2 d a b); omega))]
          have : ∀ (m : Nat) (c : Int), catF (fun _ => ([] : List (List Int))) m c = [] := fun m => by
            induction m with
            | zero => exact fun _ => rfl
            | succ m ih => exact fun c => by rw [catF, ih]; rfl
          exact this _ _
        rw [hl] at ht
        exact absurd ht (by simp)
      · have e := (go_enu (f := f) (K := K) hn hu hk (c := firstT (fun d => decide (0 < (if okR f (popI u) d u then (enuM f n (K - popI u - 1).toNat (popI u + 1) (jor u (jshl 1 d))).map (fun t => d :: t) else []).length)) n.toNat 0) ⟨y.1, by omega⟩).mpr (of_decide_eq_true y.2.2.1)
        rw [z.2 _ y.1 (by omega)] at e
        exact absurd e (by decide)
    · exact ⟨z.1, z.2.1⟩
  by_cases ho : okR f (popI u) (fstB f n K (popI u) u) u = true
  · rw [if_pos ho, List.head?_map] at q1
    obtain ⟨s, s1, s2⟩ := Option.map_eq_some_iff.mp q1
    exact ⟨s, s2.symm, hr, ho, s1⟩
  · rw [if_neg ho] at q1
    exact absurd q1 (by simp)
theorem head_use {f : Int → Int → Bool} {n K : Int} (hn : 0 ≤ n ∧ n ≤ 8) : ∀ (m : Nat) (k : Int) (t : List Int), 0 ≤ k → k + m = K → popI (useN f n K k.toNat) = k → (0 ≤ useN f n K k.toNat ∧ useN f n K k.toNat < pwI n.toNat) → (enuM f n m k (useN f n K k.toNat)).head? = some t →
    ∀ i, k ≤ i → i < K → t.getD (i - k).toNat (-4) = fstB f n K i (useN f n K i.toNat)
  | 0, k, t, _, _, _, _, _ => fun i h1 h2 => by omega
  | m + 1, k, t, hk, hm, hp, hr, ht => fun i h1 h2 => by
    have h8 := pw_8 hn
    obtain ⟨s, s1, s2, s3, s4⟩ := head_fst (f := f) (K := K) hn hr (by omega) (by omega) (by rw [hp, show (K - k).toNat = m + 1 by omega]; exact ht)
    rw [hp] at s1 s2 s3 s4
    rw [show (K - k - 1).toNat = m by omega, ← use_step hk] at s4
    by_cases e : i = k
    · rw [s1, e, Int.sub_self]
      rfl
    · have hpa := (pop_add (c := fstB f n K k (useN f n K k.toNat)) ⟨hr.1, by omega⟩ ⟨s2.1, by omega⟩ (okR_iff.mp s3).2).1
      have hup := or_up hn hr s2
      rw [← use_step hk] at hpa hup
      have := head_use hn m (k + 1) s (by omega) (by omega) (by rw [hpa, hp]) hup s4 i (by omega) h2
      rw [s1, ← this, show (i - k).toNat = (i - (k + 1)).toNat + 1 by omega]
      rfl
theorem head_all {f : Int → Int → Bool} {n K i : Int} {t : List Int} (hn : 0 ≤ n ∧ n ≤ 8) (hi : 0 ≤ i ∧ i < K) (ht : (enuM f n K.toNat 0 0).head? = some t) : t.getD i.toNat (-4) = fstB f n K i (useN f n K i.toNat) := by
  have h8 := pw_8 hn
  have := head_use (f := f) (K := K) hn K.toNat 0 t (by omega) (by omega) pop_0 (by show (0 : Int) ≤ 0 ∧ (0 : Int) < _; omega) ht i hi.1 hi.2
  rwa [Int.sub_zero] at this
theorem first_all {f : Int → Int → Bool} {n K d : Int} (hn : 0 ≤ n ∧ n ≤ 8) (hK : 0 < K) (hd : 0 ≤ d ∧ d < 32) : bt (orN (goB f n K 0 0) n.toNat) d = true ↔ ∃ t, t ∈ enuM f n K.toNat 0 0 ∧ t.getD 0 (-4) = d := by
  have h8 := pw_8 hn
  rw [bt_orN ⟨hn.1, by omega⟩ hd, Bool.and_eq_true, decide_eq_true_iff, show K.toNat = (K - 1).toNat + 1 by omega]
  have g : ∀ c, 0 ≤ c → c < n → (goB f n K 0 0 c = true ↔ 0 < (if okR f 0 c 0 then (enuM f n (K - 1).toNat (0 + 1) (jor 0 (jshl 1 c))).map (fun t => c :: t) else []).length) := fun c h1 h2 => by
    have := go_enu (f := f) (K := K) (u := 0) (c := c) hn ⟨by omega, by omega⟩ (by rw [pop_0]; exact hK) ⟨h1, by omega⟩
    rw [pop_0, Int.sub_zero] at this
    exact this
  constructor
  · rintro ⟨h1, h2⟩
    have q := (g d hd.1 h1).mp h2
    by_cases ho : okR f 0 d 0 = true
    · rw [if_pos ho, List.length_map] at q
      cases e : enuM f n (K - 1).toNat (0 + 1) (jor 0 (jshl 1 d)) with
      | nil => rw [e] at q; exact absurd q (by decide)
      | cons s l => exact ⟨d :: s, mem_enu.mpr ⟨d, s, ⟨hd.1, h1⟩, ho, by rw [e]; exact List.mem_cons_self, rfl⟩, rfl⟩
    · rw [if_neg ho] at q
      exact absurd q (by decide)
  · rintro ⟨t, h1, h2⟩
    obtain ⟨c, s, c1, c2, c3, c4⟩ := mem_enu.mp h1
    rw [c4] at h2
    have e : c = d := h2
    rw [← e]
    refine ⟨c1.2, (g c c1.1 c1.2).mpr ?_⟩
    rw [if_pos c2, List.length_map]
    exact List.length_pos_of_mem c3
theorem last_to {f : Int → Int → Bool} {n K d : Int} (hn : 0 ≤ n ∧ n ≤ 8) : ∀ (m : Nat) (u : Int) (t : List Int), Rch f n K u → popI u + ((m + 1 : Nat) : Int) = K → t ∈ enuM f n (m + 1) (popI u) u → t.getD m (-4) = d → LasB f n K (pwI n.toNat) 0 d
  | 0, u, t, hu, hm, ht, hd => by
    obtain ⟨c, s, c1, c2, c3, c4⟩ := mem_enu.mp ht
    rw [c4] at hd
    have e : c = d := hd
    rw [← e]
    have hr := hu.rng hn
    exact ⟨c1, u, Or.inl hr.2, hu, by omega, by rw [show K - 1 = popI u by omega]; exact c2⟩
  | m + 1, u, t, hu, hm, ht, hd => by
    obtain ⟨c, s, c1, c2, c3, c4⟩ := mem_enu.mp ht
    rw [c4] at hd
    have h8 := pw_8 hn
    have hr := hu.rng hn
    have hpa := (pop_add (c := c) ⟨hr.1, by omega⟩ ⟨c1.1, by omega⟩ (okR_iff.mp c2).2).1
    exact last_to hn m (jor u (jshl 1 c)) s (hu.step (by omega) c1 c2) (by omega) (by rw [hpa]; exact c3) hd
theorem last_of {f : Int → Int → Bool} {n K j : Int} (hn : 0 ≤ n ∧ n ≤ 8) (hj : Rch f n K j) : (0 ≤ j ∧ j < pwI n.toNat) ∧ (popI j < K → ∀ s, s ∈ enuM f n (K - popI j).toNat (popI j) j → ∃ t, t ∈ enuM f n K.toNat 0 0 ∧ t.getD (K - 1).toNat (-4) = s.getD (K - popI j - 1).toNat (-4)) := by
  have h8 := pw_8 hn
  refine hj (fun j => (0 ≤ j ∧ j < pwI n.toNat) ∧ (popI j < K → ∀ s, s ∈ enuM f n (K - popI j).toNat (popI j) j → ∃ t, t ∈ enuM f n K.toNat 0 0 ∧ t.getD (K - 1).toNat (-4) = s.getD (K - popI j - 1).toNat (-4))) ⟨⟨by omega, fun _ s hs => ?_⟩, fun u c ih hk hc ho => ⟨or_up hn ih.1 hc, fun hk2 s hs => ?_⟩⟩
  · rw [pop_0, Int.sub_zero] at hs
    exact ⟨s, hs, by rw [pop_0, Int.sub_zero]⟩
  · have hpa := (pop_add (c := c) ⟨ih.1.1, by omega⟩ ⟨hc.1, by omega⟩ (okR_iff.mp ho).2).1
    rw [hpa] at hs hk2 ⊢
    obtain ⟨t, t1, t2⟩ := ih.2 hk (c :: s) (by
      rw [show (K - popI u).toNat = (K - (popI u + 1)).toNat + 1 by omega]
      exact mem_enu.mpr ⟨c, s, hc, ho, hs, rfl⟩)
    refine ⟨t, t1, t2.trans ?_⟩
    rw [show (K - popI u - 1).toNat = (K - (popI u + 1) - 1).toNat + 1 by omega]
    rfl
theorem last_all {f : Int → Int → Bool} {n K d : Int} (hn : 0 ≤ n ∧ n ≤ 8) (hK : 0 < K) : LasB f n K (pwI n.toNat) 0 d ↔ ∃ t, t ∈ enuM f n K.toNat 0 0 ∧ t.getD (K - 1).toNat (-4) = d := by
  constructor
  · rintro ⟨h1, j, -, h3, h4, h5⟩
    obtain ⟨t, t1, t2⟩ := (last_of hn h3).2 (by omega) [d] (by
      rw [h4, show (K - (K - 1)).toNat = 0 + 1 by omega]
      exact mem_enu.mpr ⟨d, [], h1, h5, List.mem_cons_self, rfl⟩)
    refine ⟨t, t1, t2.trans ?_⟩
    rw [h4, show (K - (K - 1) - 1).toNat = 0 by omega]
    rfl
  · rintro ⟨t, t1, t2⟩
    refine last_to hn (K - 1).toNat 0 t Rch.zero (by rw [pop_0]; omega) ?_ t2
    rw [pop_0, show (K - 1).toNat + 1 = K.toNat by omega]
    exact t1
