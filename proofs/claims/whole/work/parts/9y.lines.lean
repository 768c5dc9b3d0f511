-- the text's lines
section LIN
variable {f : Int → Int} {L r i x p lo hi c t q : Int} {v w u : VT} {B : VT} {F : Int × Int} {ok : Prop}
theorem hd_pl : (hdP f L B q x).2 = tS f L q := rfl
theorem lin_sl (h : wdT f L q = 2) : linF f L B q = (if B 23 7 = 0 then slF f L (tE f L q) else (4, tS f L q)) ∧ linB f L B q = slB f L B (tE f L q) ∧ linE f L q = tE f L (tE f L (tE f L q)) := by
  unfold linF linB linE hdP
  rw [h]
  by_cases g : B 23 7 = 0
  · simp [orF, g]
  · simp [orF, g]
theorem lin_ch (h : wdT f L q = 3) : linF f L B q = (if 8 ≤ B 0 4 then (5, tS f L q) else chF f L (tE f L q)) ∧ linB f L B q = chB f L B (tE f L q) ∧ linE f L q = tE f L (tE f L (tE f L (tE f L (tE f L q)))) := by
  unfold linF linB linE hdP
  rw [h]
  by_cases g : 8 ≤ B 0 4
  · simp [orF, g]
  · simp [orF, g]
theorem lin_li (h : wdT f L q = 4) : linF f L B q = liF f L (tE f L q) ∧ linB f L B q = liB f L B (tE f L q) ∧ linE f L q = tE f L (tE f L (tE f L (tE f L (tE f L q)))) := by
  unfold linF linB linE hdP
  rw [h]
  simp [orF]
theorem lin_ma (h : wdT f L q = 5) : linF f L B q = (if 6 ≤ B 0 6 then (5, tS f L q) else maF f L (tE f L q)) ∧ linB f L B q = maB f L B (tE f L q) ∧ linE f L q = tE f L (tE f L (tE f L q)) := by
  unfold linF linB linE hdP
  rw [h]
  by_cases g : 6 ≤ B 0 6
  · simp [orF, g]
  · simp [orF, g]
theorem lin_tg (h : wdT f L q = 0 ∨ wdT f L q = 1) : linF f L B q = (if 10 ≤ B 0 5 then (5, tS f L q) else tgF f L (tE f L q)) ∧ linB f L B q = tgB f L B (wdT f L q) (tE f L q) ∧ linE f L q = tE f L (tE f L (tE f L (thS f L (tE f L q)))) := by
  unfold linF linB linE hdP
  rcases h with h | h
  · rw [h]
    by_cases g : 10 ≤ B 0 5
    · simp [orF, g]
    · simp [orF, g]
  · rw [h]
    by_cases g : 10 ≤ B 0 5
    · simp [orF, g]
    · simp [orF, g]
theorem lin_no (h : wdT f L q = -4) : linF f L B q = (if tK f L q = 4 then 1 else 2, tS f L q) := by
  unfold linF hdP
  rw [h]
  by_cases g : tK f L q = 4
  · simp [orF, g]
  · simp [orF, g]
theorem Out.refuse (hc : ¬ c = 0) (hF : F = (c, v 50 4)) : FrV v (upd2 (upd2 v 50 10 c) 50 11 (v 50 4)) ∧ Out F v (upd2 (upd2 v 50 10 c) 50 11 (v 50 4)) 0 ok := by
  subst hF
  exact ⟨FrV.up (by decide) (FrV.up (by decide) FrV.rf), Or.inr ⟨hc, rfl, by rw [ux_ne (by decide), ux_at rfl], by rw [ux_at rfl]⟩⟩
/-- a number was asked for: what holds now -/
theorem NumQ.at_ (h : NumQ f L u lo hi t w) (e : u 50 2 = q) : FrR u w ∧ Out (nP f L q lo hi) u w t (w 50 2 = tE f L q ∧ w 50 5 = tV f L q ∧ tK f L q = 2 ∧ lo ≤ tV f L q ∧ tV f L q ≤ hi) := by
  subst e
  exact h
theorem EndQ.at_ (h : EndQ f L u t w) (e : u 50 2 = q) : FrR u w ∧ Out (sP f L q) u w t (w 50 2 = tE f L q) := by
  subst e
  exact h
theorem Out.fin (h : ¬ F.1 = 0 ∧ w 50 10 = F.1 ∧ w 50 11 = F.2) : Out F v w 0 ok := Or.inr ⟨h.1, rfl, h.2⟩
theorem ok_X7_addChildT (G : GT) (o a b c : Int) (v : VT) (ho : isV o) (hc : 0 ≤ v o 4 ∧ v o 4 < 8) : MVe G yX7_addChild cX7_addChild 4 none 0 0 [vr o, vi a, vi b, vi c] v (upd2 (upd2 (upd2 (upd2 v (o + 5 + v o 4) 0 a) (o + 5 + v o 4) 1 b) (o + 5 + v o 4) 2 c) o 4 (v o 4 + 1)) := by
  have h := ok_X7_addChild G o a b c v ho (by omega)
  rw [if_pos hc.2] at h
  exact h
theorem ok_X7_addPlainT (G : GT) (o s z l : Int) (v : VT) (ho : isV o) (hb : 0 ≤ v o 5 ∧ v o 5 < 10) : MIe G yX7_addPlain cX7_addPlain 4 (some .int) 1 23 [vr o, vi s, vi z, vi l] v (v o 5) (upd2 (plainF v (o + 13 + v o 5) s z l) o 5 (v o 5 + 1)) := by
  have h := ok_X7_addPlain G o s z l v ho (by omega)
  rw [if_neg (by omega), if_neg (by omega)] at h
  exact h
theorem ok_X7_addMarkT (G : GT) (o x : Int) (v : VT) (ho : isV o) (hm : 0 ≤ v o 6 ∧ v o 6 < 6) : MVe G yX7_addMark cX7_addMark 2 none 0 0 [vr o, vi x] v (upd2 (upd2 v (o + 4) (v o 6) x) o 6 (v o 6 + 1)) := by
  have h := ok_X7_addMark G o x v ho (by omega)
  rw [if_pos hm.2] at h
  exact h
theorem FrV.plain {s z l : Int} (hr : 27 ≤ r ∧ r ≤ 50) (h : FrV v w) : FrV v (plainF w r s z l) := by
  unfold plainF
  exact FrV.up hr (FrV.up hr (FrV.up hr (FrV.up hr (FrV.up hr (FrV.up hr (FrV.up hr (FrV.up hr h)))))))
theorem plain_ne {s z l a j : Int} (h : ¬ a = r) : plainF v r s z l a j = v a j := by
  unfold plainF
  rw [ux_ne (Or.inl h), ux_ne (Or.inl h), ux_ne (Or.inl h), ux_ne (Or.inl h), ux_ne (Or.inl h), ux_ne (Or.inl h), ux_ne (Or.inl h), ux_ne (Or.inl h)]
end LIN
