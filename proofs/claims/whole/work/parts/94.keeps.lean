/-! what the calls keep of a republic -/
theorem sSub_lay {r : sR} (h : sSub r) (u o v : Nat) : sSub (sLay r u o v) := by
  intro i hi
  by_cases hu : u = 0
  · subst hu
    have e1 : sLay r 0 o v 7 0 = r 7 0 &&& sAl (fun i => if i = o then v else r 0 i) 8 := by simp [sLay]
    have e2 : sLay r 0 o v 0 i = if i = o then v else r 0 i := by simp [sLay]
    rw [e1, Nat.testBit_and, sAl_tb] at hi
    rw [e2]
    simp only [Bool.and_eq_true, decide_eq_true_eq] at hi
    exact hi.2
  · have e1 : sLay r u o v 7 0 = r 7 0 := by simp [sLay, hu]
    have e2 : sLay r u o v 0 i = r 0 i := by simp [sLay, hu]
    rw [e1] at hi
    rw [e2]
    exact h i hi
theorem sSub_set {tc : Nat → sTc} {r : sR} {w x y : Int32} (h : sSub r) : sSub (sSet tc r w x y).2 := by
  unfold sSet
  split
  · exact sSub_lay h _ _ _
  · exact h
theorem sSub_per {r : sR} {p k n : Nat} (h : sSub r) : sSub (sPer r p k n) := by
  intro i hi
  rw [show sPer r p k n 7 0 = r 7 0 by simp [sPer]] at hi
  rw [show sPer r p k n 0 i = r 0 i by simp [sPer]]
  exact h i hi
theorem sZ_per {r : sR} {p k n : Nat} (h : sZ r) (hp : p < 4) : sZ (sPer r p k n) := by
  intro j
  obtain ⟨h1, h2, h3⟩ := h j
  refine ⟨fun q => ?_, fun q => ?_, fun q => ?_⟩
  · simpa [sPer] using h1 q
  · simpa [sPer] using h2 q
  · have e : ¬ j = p := by omega
    simpa [sPer, e] using h3 q
theorem sPerson_keep {r : sR} {x y : Int32} (h : sSub r) (hz : sZ r) (h74 : r 7 4 ≤ 4) : sSub (sPerson r x y).2 ∧ sZ (sPerson r x y).2 := by
  unfold sPerson
  split
  · split
    · exact ⟨h, hz⟩
    · exact ⟨sSub_per h, sZ_per hz (by omega)⟩
  · exact ⟨h, hz⟩
theorem sRq_keep {it : Nat → Int32} {n a : Nat} : ∀ m k r c, sSub r → sZ r → r 7 4 ≤ 4 → sSub (sRq it n a m k r c).2 ∧ sZ (sRq it n a m k r c).2 ∧ (sRq it n a m k r c).2 7 4 ≤ 4
  | 0, k, r, c, h1, h2, h3 => ⟨h1, h2, h3⟩
  | m + 1, k, r, c, h1, h2, h3 => by
    rw [sRq]
    split
    · have e := sPerson_keep (x := it (a + 2 * k)) (y := it (a + 2 * k + 1)) h1 h2 h3
      exact sRq_keep m _ _ _ e.1 e.2 (sPerson_4 h3)
    · exact ⟨h1, h2, h3⟩
theorem sSub_force {r : sR} {t : Nat} (h : sSub r) : sSub (sForce r t) := by
  intro i hi
  rw [show sForce r t 7 0 = r 7 0 by simp [sForce]] at hi
  rw [show sForce r t 0 i = r 0 i by simp [sForce]]
  exact h i hi
theorem sZ_force {r : sR} {t : Nat} (h : sZ r) : sZ (sForce r t) := by
  intro j
  have := h j
  simpa [sForce] using this
theorem sSub_bk {r rk : sR} (h : sSub rk) : sSub (sBk r rk) := by
  intro i hi
  rw [show sBk r rk 7 0 = rk 7 0 by simp [sBk]] at hi
  have e := h i hi
  rw [show sBk r rk 0 i = rk 0 i by simp [sBk, e.1]]
  exact e
theorem sZ_bk {r rk : sR} (h : sZ r) (hk : sZ rk) : sZ (sBk r rk) := by
  intro j
  refine ⟨fun q => ?_, fun q => ?_, fun q => ?_⟩
  · have e : ¬ j < 8 := by omega
    simpa [sBk, e] using (h j).1 q
  · have e : ¬ j < 10 := by omega
    simpa [sBk, e] using (h j).2.1 q
  · have e : ¬ j < 4 := by omega
    simpa [sBk, e] using (h j).2.2 q
theorem sZ_put {r : sR} {u o v : Nat} (h : sZ r) (hu : u ≤ 7) (ho : (u = 0 → o < 8) ∧ (u = 3 ∨ u = 4 → o < 10) ∧ (5 ≤ u → o < 4)) : sZ (sLay r u o v) := by
  intro j
  obtain ⟨h1, h2, h3⟩ := h j
  have hc : u = 0 ∨ u = 1 ∨ u = 2 ∨ u = 3 ∨ u = 4 ∨ u = 5 ∨ u = 6 ∨ u = 7 := by omega
  refine ⟨fun q => ?_, fun q => ?_, fun q => ?_⟩
  · rcases hc with rfl | rfl | rfl | rfl | rfl | rfl | rfl | rfl
    · have e : ¬ j = o := by have := ho.1 rfl; omega
      simpa [sLay, e] using h1 q
    all_goals simpa [sLay] using h1 q
  · rcases hc with rfl | rfl | rfl | rfl | rfl | rfl | rfl | rfl
    · simpa [sLay] using h2 q
    · simpa [sLay] using h2 q
    · simpa [sLay] using h2 q
    · have e : ¬ j = o := by have := ho.2.1 (Or.inl rfl); omega
      simpa [sLay, e] using h2 q
    · have e : ¬ j = o := by have := ho.2.1 (Or.inr rfl); omega
      simpa [sLay, e] using h2 q
    all_goals simpa [sLay] using h2 q
  · rcases hc with rfl | rfl | rfl | rfl | rfl | rfl | rfl | rfl
    · simpa [sLay] using h3 q
    · simpa [sLay] using h3 q
    · simpa [sLay] using h3 q
    · simpa [sLay] using h3 q
    · simpa [sLay] using h3 q
    all_goals
      have e : ¬ j = o := by have := ho.2.2 (by omega); omega
      simpa [sLay, e] using h3 q
theorem sZ_set {tc : Nat → sTc} {r : sR} {w x y : Int32} (h : sZ r) (h74 : r 7 4 ≤ 4) : sZ (sSet tc r w x y).2 := by
  unfold sSet
  split
  · rename_i q
    obtain ⟨q1, q2, q3, -⟩ := q
    refine sZ_put h (by omega) ⟨fun e => ?_, fun e => ?_, fun e => ?_⟩
    all_goals (unfold sIs at q3; omega)
  · exact h
