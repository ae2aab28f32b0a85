/-! set keeps the bounds -/
theorem sW_put {r : sR} {cnt u o v : Nat} (h : sW r cnt) (hu : u ≤ 7) (h1v : u = 1 → 1 ≤ v) (hv : v ≤ sMost u) : sW (sLay r u o v) cnt := by
  obtain ⟨hb, h0, h1, h1', h2, h3, h74, h5⟩ := h
  have hc : u = 0 ∨ u = 1 ∨ u = 2 ∨ u = 3 ∨ u = 4 ∨ u = 5 ∨ u = 6 ∨ u = 7 := by omega
  have hM : v ≤ (if u < 2 ∨ u = 5 then 9 else if u = 2 then 999 else if u = 3 then 255 else 99) := hv
  have hr : ∀ j, sLay r u o v 0 j ≤ 9 ∧ sLay r u o v 1 j < 256 ∧ sLay r u o v 2 j ≤ 99 ∧ sLay r u o v 3 j ≤ 5 ∧ sLay r u o v 4 j ≤ 9 ∧ sLay r u o v 5 j ≤ 99 ∧ sLay r u o v 6 j ≤ 99 := by
    intro j
    obtain ⟨b0, b1, b2, b3, b4, b5, b6⟩ := hb j
    rcases hc with rfl | rfl | rfl | rfl | rfl | rfl | rfl | rfl <;> by_cases e : j = o <;> simp [sLay, e] at hM ⊢ <;> (try subst e) <;> omega
  have h8 : r 7 0 &&& sAl (fun i => if i = o then v else r 0 i) 8 < 256 := Nat.lt_of_le_of_lt Nat.and_le_left h0
  refine ⟨hr, ?_, ?_, ?_, ?_, ?_, ?_, ?_⟩
  all_goals rcases hc with rfl | rfl | rfl | rfl | rfl | rfl | rfl | rfl
  all_goals simp [sLay] at hM h8 ⊢
  all_goals omega
theorem sW_set {tc : Nat → sTc} {r : sR} {cnt : Nat} {w x y : Int32} (h : sW r cnt) : sW (sSet tc r w x y).2 cnt := by
  unfold sSet
  split
  · rename_i q
    obtain ⟨q1, q2, q3, q4, q5⟩ := q
    refine sW_put h (by omega) (fun e => ?_) ?_
    · rw [if_pos e] at q4; omega
    · have : 0 ≤ y.toInt := by split at q4 <;> omega
      omega
  · exact h
