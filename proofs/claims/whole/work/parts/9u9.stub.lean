-- for a while only: what later parts prove
theorem ok_X5_byteAt (G : GT) (p : Int) (v : VT) (hl : 0 ≤ v 2 1 ∧ v 2 1 ≤ 400) : MP G yX5_byteAt cX5_byteAt 2 (some .int) 0 0 [vr 2, vi p] v (if 0 ≤ p ∧ p < v 2 1 then v 3 p else -1) := by
  sorry
theorem ok_X9_look (G : GT) (p : Int) (v : VT) (hl : 0 ≤ v 119 9 ∧ v 119 9 ≤ 400) (hp : 0 ≤ p) : MP G yX9_look cX9_look 2 (some .int) 0 0 [vr 119, vi p] v (if p < v 119 9 then v 123 p else -1) := by
  sorry
theorem ok_X9_firstDraft (G : GT) (v : VT) : MVe G yX9_firstDraft cX9_firstDraft 2 none 0 0 [vr 119] v (upd2 (upd2 (upd2 (upd2 (fillF v 122 0 199) 119 4 2) 119 5 0) 119 6 (-4)) 119 7 (-4)) := by
  sorry
theorem ok_X9_keepDraft (G : GT) (v : VT) : MVe G yX9_keepDraft cX9_keepDraft 2 none 0 0 [vr 119] v (upd2 (upd2 (upd2 (cpyF v 120 122 199) 119 2 (v 119 4)) 121 0 0) 121 1 0) := by
  sorry
