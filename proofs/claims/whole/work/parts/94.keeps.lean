/-! what the calls keep of a republic -/
theorem sSub_lay {r : sR} (h : sSub r) (u o v : Nat) : sSub (sLay r u o v) := by
  intro i hi
  by_cases hu : u = 0
  · subst hu
    have e1 : sLay r 0 o v 7 0 = r 7 0 &&& sAl (fun i => if i = o then v else r 0 i) 8 := by simp [sLay]
    have e2 : sLay r 0 o v 0 i = if i = o then v else r 0 i := by simp [sLay]
    rw [e1, Nat.testBit_and, sAl_tb] at hi
    rw [e2]
    simp only [Bool.and_eq_true, decide_eq_true_eq] at hi
    exact hi.2
  · have e1 : sLay r u o v 7 0 = r 7 0 := by simp [sLay, hu]
    have e2 : sLay r u o v 0 i = r 0 i := by simp [sLay, hu]
    rw [e1] at hi
    rw [e2]
    exact h i hi
theorem sSub_set {tc : Nat → sTc} {r : sR} {w x y : Int32} (h : sSub r) : sSub (sSet tc r w x y).2 := by
  unfold sSet
  split
  · exact sSub_lay h _ _ _
  · exact h
theorem sSub_per {r : sR} {p k n : Nat} (h : sSub r) : sSub (sPer r p k n) := by
  intro i hi
  rw [show sPer r p k n 7 0 = r 7 0 by simp [sPer]] at hi
  rw [show sPer r p k n 0 i = r 0 i by simp [sPer]]
  exact h i hi
theorem sZ_per {r : sR} {p k n : Nat} (h : sZ r) (hp : p < 4) : sZ (sPer r p k n) := by
  intro j
  obtain ⟨h1, h2, h3⟩ := h j
  refine ⟨fun q => ?_, fun q => ?_, fun q => ?_⟩
  · simpa [sPer] using h1 q
  · simpa [sPer] using h2 q
  · have e : ¬ j = p := by omega
    simpa [sPer, e] using h3 q
theorem sPerson_keep {r : sR} {x y : Int32} (h : sSub r) (hz : sZ r) (h74 : r 7 4 ≤ 4) : sSub (sPerson r x y).2 ∧ sZ (sPerson r x y).2 := by
  unfold sPerson
  split
  · split
    · exact ⟨h, hz⟩
    · exact ⟨sSub_per h, sZ_per hz (by omega)⟩
  · exact ⟨h, hz⟩
theorem sRq_keep {it : Nat → Int32} {n a : Nat} : ∀ m k r c, sSub r → sZ r → r 7 4 ≤ 4 → sSub (sRq it n a m k r c).2 ∧ sZ (sRq it n a m k r c).2 ∧ (sRq it n a m k r c).2 7 4 ≤ 4
  | 0, k, r, c, h1, h2, h3 => ⟨h1, h2, h3⟩
  | m + 1, k, r, c, h1, h2, h3 => by
    rw [sRq]
    split
    · have e := sPerson_keep (x := it (a + 2 * k)) (y := it (a + 2 * k + 1)) h1 h2 h3
      exact sRq_keep m _ _ _ e.1 e.2 (sPerson_4 h3)
    · exact ⟨h1, h2, h3⟩
theorem sSub_force {r : sR} {t : Nat} (h : sSub r) : sSub (sForce r t) := by
  intro i hi
  rw [show sForce r t 7 0 = r 7 0 by simp [sForce]] at hi
  rw [show sForce r t 0 i = r 0 i by simp [sForce]]
  exact h i hi
theorem sZ_force {r : sR} {t : Nat} (h : sZ r) : sZ (sForce r t) := by
  intro j
  have := h j
  simpa [sForce] using this
