/-! the model's isOf, mostOf, lays, told, set, person .. -/
abbrev sIs (k : Nat) (x : Int32) (u : Nat) : Prop := u = 1 ∨ u = 2 ∨ 9 < u ∨ (u = 0 ∧ 0 ≤ x.toInt ∧ x.toInt ≤ 7) ∨ ((u = 3 ∨ u = 4) ∧ 0 ≤ x.toInt ∧ x.toInt ≤ 9) ∨ (5 ≤ u ∧ u ≤ 9 ∧ 0 ≤ x.toInt ∧ x.toInt < k)
theorem sIs_4 {k u : Nat} {x : Int32} (hk : k ≤ 4) (h : sIs k x u) : sIs 4 x u := by unfold sIs at *; omega
def sMost (u : Nat) : Nat := if u < 2 ∨ u = 5 then 9 else if u = 2 then 999 else if u = 3 then 255 else 99
theorem sMost_le (u : Nat) : sMost u ≤ 999 := by
  unfold sMost
  repeat' split
  all_goals omega
theorem sTN {k : Nat} (h : k < 2 ^ 31) : (nI k).toInt.toNat = k := by rw [sTI h]; rfl
theorem sIx5 (o : Nat) : nI (4 * o) + nI 5 - 5 = nI (4 * o) := by rw [nI_add, show (5 : Int32) = nI 5 from rfl, pk_sub (by omega)]; rfl
theorem sIx6 (o : Nat) : nI (4 * o) + nI 6 - 5 = nI (4 * o + 1) := by rw [nI_add, show (5 : Int32) = nI 5 from rfl, pk_sub (by omega)]; rfl
theorem sIx7 (o : Nat) : nI (4 * o) + nI 7 - 5 = nI (4 * o + 2) := by rw [nI_add, show (5 : Int32) = nI 5 from rfl, pk_sub (by omega)]; rfl
theorem sIx8 (o : Nat) : nI (4 * o) + nI 8 - 5 = nI (4 * o + 3) := by rw [nI_add, show (5 : Int32) = nI 5 from rfl, pk_sub (by omega)]; rfl
theorem vp_4o5 {o : Nat} (h : o < 4) : vp_in (4 * nI o + nI 5 - 5) 16 := by
  rw [show (4 : Int32) * nI o = nI (4 * o) from pk_mul 4 o, sIx5]
  exact vp_in_nI (by omega) (by decide)
theorem vp_4o6 {o : Nat} (h : o < 4) : vp_in (4 * nI o + nI 6 - 5) 16 := by
  rw [show (4 : Int32) * nI o = nI (4 * o) from pk_mul 4 o, sIx6]
  exact vp_in_nI (by omega) (by decide)
theorem vp_4o7 {o : Nat} (h : o < 4) : vp_in (4 * nI o + nI 7 - 5) 16 := by
  rw [show (4 : Int32) * nI o = nI (4 * o) from pk_mul 4 o, sIx7]
  exact vp_in_nI (by omega) (by decide)
theorem vp_4o8 {o : Nat} (h : o < 4) : vp_in (4 * nI o + nI 8 - 5) 16 := by
  rw [show (4 : Int32) * nI o = nI (4 * o) from pk_mul 4 o, sIx8]
  exact vp_in_nI (by omega) (by decide)
/-- the republic with a value laid -/
def sLay (r : sR) (u o v : Nat) : sR := fun q j =>
  if u = 0 then (if q = 0 ∧ j = o then v else if q = 7 ∧ j = 0 then r 7 0 &&& sAl (fun i => if i = o then v else r 0 i) 8 else r q j)
  else if u = 1 then (if q = 7 ∧ j = 1 then v else r q j)
  else if u = 2 then (if q = 7 ∧ j = 2 then v else r q j)
  else if u = 3 then (if q = 1 ∧ j = o then v else r q j)
  else if u = 4 then (if q = 2 ∧ j = o then v else r q j)
  else if u = 5 then (if q = 4 ∧ j = o then v else r q j)
  else if u = 6 then (if q = 5 ∧ j = o then v else r q j)
  else if u = 7 then (if q = 6 ∧ j = o then v else r q j)
  else if u = 8 then (if q = 3 ∧ j = o then v else r q j)
  else (if q = 7 ∧ j = 5 then v else r q j)
theorem RM_l0 {z : xMem} {r : sR} {o v : Nat} (h : RM z r) : RM (mPut (mPut z 4 o (nI v)) 0 9 (nI (r 7 0 &&& sAl (fun i => if i = o then v else r 0 i) 8))) (sLay r 0 o v) := by
  obtain ⟨a1, a2, a3, a4, a5, a6, a7, b1, b2, b3, b4, b5, b6⟩ := h
  refine ⟨fun j => ?_, fun j => ?_, fun j => ?_, fun j => ?_, fun j => ?_, fun j => ?_, fun j => ?_, ?_, ?_, ?_, ?_, ?_, ?_⟩
  · by_cases q : j = o
    · subst q; simp [mPut_rd, sLay, a1]
    · simp [mPut_rd, sLay, a1, q]
  · by_cases q : j = o
    · subst q; simp [mPut_rd, sLay, a2]
    · simp [mPut_rd, sLay, a2, q]
  · by_cases q : j = o
    · subst q; simp [mPut_rd, sLay, a3]
    · simp [mPut_rd, sLay, a3, q]
  · by_cases q : j = o
    · subst q; simp [mPut_rd, sLay, a4] <;> omega
    · have n0 : ¬ 4 * j + 0 = 4 * o := by omega
      have n1 : ¬ 4 * j + 0 = 4 * o + 1 := by omega
      have n2 : ¬ 4 * j + 0 = 4 * o + 2 := by omega
      have n3 : ¬ 4 * j + 0 = 4 * o + 3 := by omega
      simp [mPut_rd, sLay, a4, q] <;> omega
  · by_cases q : j = o
    · subst q; simp [mPut_rd, sLay, a5] <;> omega
    · have n0 : ¬ 4 * j + 1 = 4 * o := by omega
      have n1 : ¬ 4 * j + 1 = 4 * o + 1 := by omega
      have n2 : ¬ 4 * j + 1 = 4 * o + 2 := by omega
      have n3 : ¬ 4 * j + 1 = 4 * o + 3 := by omega
      simp [mPut_rd, sLay, a5, q] <;> omega
  · by_cases q : j = o
    · subst q; simp [mPut_rd, sLay, a6] <;> omega
    · have n0 : ¬ 4 * j + 2 = 4 * o := by omega
      have n1 : ¬ 4 * j + 2 = 4 * o + 1 := by omega
      have n2 : ¬ 4 * j + 2 = 4 * o + 2 := by omega
      have n3 : ¬ 4 * j + 2 = 4 * o + 3 := by omega
      simp [mPut_rd, sLay, a6, q] <;> omega
  · by_cases q : j = o
    · subst q; simp [mPut_rd, sLay, a7] <;> omega
    · have n0 : ¬ 4 * j + 3 = 4 * o := by omega
      have n1 : ¬ 4 * j + 3 = 4 * o + 1 := by omega
      have n2 : ¬ 4 * j + 3 = 4 * o + 2 := by omega
      have n3 : ¬ 4 * j + 3 = 4 * o + 3 := by omega
      simp [mPut_rd, sLay, a7, q] <;> omega
  · simp [mPut_rd, sLay, b1]
  · simp [mPut_rd, sLay, b2]
  · simp [mPut_rd, sLay, b3]
  · simp [mPut_rd, sLay, b4]
  · simp [mPut_rd, sLay, b5]
  · simp [mPut_rd, sLay, b6]
theorem RM_l1 {z : xMem} {r : sR} {o v : Nat} (h : RM z r) : RM (mPut (mPut z 0 7 (nI v)) 0 8 (nI (r 7 2))) (sLay r 1 o v) := by
  obtain ⟨a1, a2, a3, a4, a5, a6, a7, b1, b2, b3, b4, b5, b6⟩ := h
  refine ⟨fun j => ?_, fun j => ?_, fun j => ?_, fun j => ?_, fun j => ?_, fun j => ?_, fun j => ?_, ?_, ?_, ?_, ?_, ?_, ?_⟩
  · by_cases q : j = o
    · subst q; simp [mPut_rd, sLay, a1]
    · simp [mPut_rd, sLay, a1, q]
  · by_cases q : j = o
    · subst q; simp [mPut_rd, sLay, a2]
    · simp [mPut_rd, sLay, a2, q]
  · by_cases q : j = o
    · subst q; simp [mPut_rd, sLay, a3]
    · simp [mPut_rd, sLay, a3, q]
  · by_cases q : j = o
    · subst q; simp [mPut_rd, sLay, a4] <;> omega
    · have n0 : ¬ 4 * j + 0 = 4 * o := by omega
      have n1 : ¬ 4 * j + 0 = 4 * o + 1 := by omega
      have n2 : ¬ 4 * j + 0 = 4 * o + 2 := by omega
      have n3 : ¬ 4 * j + 0 = 4 * o + 3 := by omega
      simp [mPut_rd, sLay, a4, q] <;> omega
  · by_cases q : j = o
    · subst q; simp [mPut_rd, sLay, a5] <;> omega
    · have n0 : ¬ 4 * j + 1 = 4 * o := by omega
      have n1 : ¬ 4 * j + 1 = 4 * o + 1 := by omega
      have n2 : ¬ 4 * j + 1 = 4 * o + 2 := by omega
      have n3 : ¬ 4 * j + 1 = 4 * o + 3 := by omega
      simp [mPut_rd, sLay, a5, q] <;> omega
  · by_cases q : j = o
    · subst q; simp [mPut_rd, sLay, a6] <;> omega
    · have n0 : ¬ 4 * j + 2 = 4 * o := by omega
      have n1 : ¬ 4 * j + 2 = 4 * o + 1 := by omega
      have n2 : ¬ 4 * j + 2 = 4 * o + 2 := by omega
      have n3 : ¬ 4 * j + 2 = 4 * o + 3 := by omega
      simp [mPut_rd, sLay, a6, q] <;> omega
  · by_cases q : j = o
    · subst q; simp [mPut_rd, sLay, a7] <;> omega
    · have n0 : ¬ 4 * j + 3 = 4 * o := by omega
      have n1 : ¬ 4 * j + 3 = 4 * o + 1 := by omega
      have n2 : ¬ 4 * j + 3 = 4 * o + 2 := by omega
      have n3 : ¬ 4 * j + 3 = 4 * o + 3 := by omega
      simp [mPut_rd, sLay, a7, q] <;> omega
  · simp [mPut_rd, sLay, b1]
  · simp [mPut_rd, sLay, b2]
  · simp [mPut_rd, sLay, b3]
  · simp [mPut_rd, sLay, b4]
  · simp [mPut_rd, sLay, b5]
  · simp [mPut_rd, sLay, b6]
theorem RM_l2 {z : xMem} {r : sR} {o v : Nat} (h : RM z r) : RM (mPut (mPut z 0 7 (nI (r 7 1))) 0 8 (nI v)) (sLay r 2 o v) := by
  obtain ⟨a1, a2, a3, a4, a5, a6, a7, b1, b2, b3, b4, b5, b6⟩ := h
  refine ⟨fun j => ?_, fun j => ?_, fun j => ?_, fun j => ?_, fun j => ?_, fun j => ?_, fun j => ?_, ?_, ?_, ?_, ?_, ?_, ?_⟩
  · by_cases q : j = o
    · subst q; simp [mPut_rd, sLay, a1]
    · simp [mPut_rd, sLay, a1, q]
  · by_cases q : j = o
    · subst q; simp [mPut_rd, sLay, a2]
    · simp [mPut_rd, sLay, a2, q]
  · by_cases q : j = o
    · subst q; simp [mPut_rd, sLay, a3]
    · simp [mPut_rd, sLay, a3, q]
  · by_cases q : j = o
    · subst q; simp [mPut_rd, sLay, a4] <;> omega
    · have n0 : ¬ 4 * j + 0 = 4 * o := by omega
      have n1 : ¬ 4 * j + 0 = 4 * o + 1 := by omega
      have n2 : ¬ 4 * j + 0 = 4 * o + 2 := by omega
      have n3 : ¬ 4 * j + 0 = 4 * o + 3 := by omega
      simp [mPut_rd, sLay, a4, q] <;> omega
  · by_cases q : j = o
    · subst q; simp [mPut_rd, sLay, a5] <;> omega
    · have n0 : ¬ 4 * j + 1 = 4 * o := by omega
      have n1 : ¬ 4 * j + 1 = 4 * o + 1 := by omega
      have n2 : ¬ 4 * j + 1 = 4 * o + 2 := by omega
      have n3 : ¬ 4 * j + 1 = 4 * o + 3 := by omega
      simp [mPut_rd, sLay, a5, q] <;> omega
  · by_cases q : j = o
    · subst q; simp [mPut_rd, sLay, a6] <;> omega
    · have n0 : ¬ 4 * j + 2 = 4 * o := by omega
      have n1 : ¬ 4 * j + 2 = 4 * o + 1 := by omega
      have n2 : ¬ 4 * j + 2 = 4 * o + 2 := by omega
      have n3 : ¬ 4 * j + 2 = 4 * o + 3 := by omega
      simp [mPut_rd, sLay, a6, q] <;> omega
  · by_cases q : j = o
    · subst q; simp [mPut_rd, sLay, a7] <;> omega
    · have n0 : ¬ 4 * j + 3 = 4 * o := by omega
      have n1 : ¬ 4 * j + 3 = 4 * o + 1 := by omega
      have n2 : ¬ 4 * j + 3 = 4 * o + 2 := by omega
      have n3 : ¬ 4 * j + 3 = 4 * o + 3 := by omega
      simp [mPut_rd, sLay, a7, q] <;> omega
  · simp [mPut_rd, sLay, b1]
  · simp [mPut_rd, sLay, b2]
  · simp [mPut_rd, sLay, b3]
  · simp [mPut_rd, sLay, b4]
  · simp [mPut_rd, sLay, b5]
  · simp [mPut_rd, sLay, b6]
theorem RM_l3 {z : xMem} {r : sR} {o v : Nat} (h : RM z r) : RM (mPut z 5 o (nI v)) (sLay r 3 o v) := by
  obtain ⟨a1, a2, a3, a4, a5, a6, a7, b1, b2, b3, b4, b5, b6⟩ := h
  refine ⟨fun j => ?_, fun j => ?_, fun j => ?_, fun j => ?_, fun j => ?_, fun j => ?_, fun j => ?_, ?_, ?_, ?_, ?_, ?_, ?_⟩
  · by_cases q : j = o
    · subst q; simp [mPut_rd, sLay, a1]
    · simp [mPut_rd, sLay, a1, q]
  · by_cases q : j = o
    · subst q; simp [mPut_rd, sLay, a2]
    · simp [mPut_rd, sLay, a2, q]
  · by_cases q : j = o
    · subst q; simp [mPut_rd, sLay, a3]
    · simp [mPut_rd, sLay, a3, q]
  · by_cases q : j = o
    · subst q; simp [mPut_rd, sLay, a4] <;> omega
    · have n0 : ¬ 4 * j + 0 = 4 * o := by omega
      have n1 : ¬ 4 * j + 0 = 4 * o + 1 := by omega
      have n2 : ¬ 4 * j + 0 = 4 * o + 2 := by omega
      have n3 : ¬ 4 * j + 0 = 4 * o + 3 := by omega
      simp [mPut_rd, sLay, a4, q] <;> omega
  · by_cases q : j = o
    · subst q; simp [mPut_rd, sLay, a5] <;> omega
    · have n0 : ¬ 4 * j + 1 = 4 * o := by omega
      have n1 : ¬ 4 * j + 1 = 4 * o + 1 := by omega
      have n2 : ¬ 4 * j + 1 = 4 * o + 2 := by omega
      have n3 : ¬ 4 * j + 1 = 4 * o + 3 := by omega
      simp [mPut_rd, sLay, a5, q] <;> omega
  · by_cases q : j = o
    · subst q; simp [mPut_rd, sLay, a6] <;> omega
    · have n0 : ¬ 4 * j + 2 = 4 * o := by omega
      have n1 : ¬ 4 * j + 2 = 4 * o + 1 := by omega
      have n2 : ¬ 4 * j + 2 = 4 * o + 2 := by omega
      have n3 : ¬ 4 * j + 2 = 4 * o + 3 := by omega
      simp [mPut_rd, sLay, a6, q] <;> omega
  · by_cases q : j = o
    · subst q; simp [mPut_rd, sLay, a7] <;> omega
    · have n0 : ¬ 4 * j + 3 = 4 * o := by omega
      have n1 : ¬ 4 * j + 3 = 4 * o + 1 := by omega
      have n2 : ¬ 4 * j + 3 = 4 * o + 2 := by omega
      have n3 : ¬ 4 * j + 3 = 4 * o + 3 := by omega
      simp [mPut_rd, sLay, a7, q] <;> omega
  · simp [mPut_rd, sLay, b1]
  · simp [mPut_rd, sLay, b2]
  · simp [mPut_rd, sLay, b3]
  · simp [mPut_rd, sLay, b4]
  · simp [mPut_rd, sLay, b5]
  · simp [mPut_rd, sLay, b6]
theorem RM_l4 {z : xMem} {r : sR} {o v : Nat} (h : RM z r) : RM (mPut z 6 o (nI v)) (sLay r 4 o v) := by
  obtain ⟨a1, a2, a3, a4, a5, a6, a7, b1, b2, b3, b4, b5, b6⟩ := h
  refine ⟨fun j => ?_, fun j => ?_, fun j => ?_, fun j => ?_, fun j => ?_, fun j => ?_, fun j => ?_, ?_, ?_, ?_, ?_, ?_, ?_⟩
  · by_cases q : j = o
    · subst q; simp [mPut_rd, sLay, a1]
    · simp [mPut_rd, sLay, a1, q]
  · by_cases q : j = o
    · subst q; simp [mPut_rd, sLay, a2]
    · simp [mPut_rd, sLay, a2, q]
  · by_cases q : j = o
    · subst q; simp [mPut_rd, sLay, a3]
    · simp [mPut_rd, sLay, a3, q]
  · by_cases q : j = o
    · subst q; simp [mPut_rd, sLay, a4] <;> omega
    · have n0 : ¬ 4 * j + 0 = 4 * o := by omega
      have n1 : ¬ 4 * j + 0 = 4 * o + 1 := by omega
      have n2 : ¬ 4 * j + 0 = 4 * o + 2 := by omega
      have n3 : ¬ 4 * j + 0 = 4 * o + 3 := by omega
      simp [mPut_rd, sLay, a4, q] <;> omega
  · by_cases q : j = o
    · subst q; simp [mPut_rd, sLay, a5] <;> omega
    · have n0 : ¬ 4 * j + 1 = 4 * o := by omega
      have n1 : ¬ 4 * j + 1 = 4 * o + 1 := by omega
      have n2 : ¬ 4 * j + 1 = 4 * o + 2 := by omega
      have n3 : ¬ 4 * j + 1 = 4 * o + 3 := by omega
      simp [mPut_rd, sLay, a5, q] <;> omega
  · by_cases q : j = o
    · subst q; simp [mPut_rd, sLay, a6] <;> omega
    · have n0 : ¬ 4 * j + 2 = 4 * o := by omega
      have n1 : ¬ 4 * j + 2 = 4 * o + 1 := by omega
      have n2 : ¬ 4 * j + 2 = 4 * o + 2 := by omega
      have n3 : ¬ 4 * j + 2 = 4 * o + 3 := by omega
      simp [mPut_rd, sLay, a6, q] <;> omega
  · by_cases q : j = o
    · subst q; simp [mPut_rd, sLay, a7] <;> omega
    · have n0 : ¬ 4 * j + 3 = 4 * o := by omega
      have n1 : ¬ 4 * j + 3 = 4 * o + 1 := by omega
      have n2 : ¬ 4 * j + 3 = 4 * o + 2 := by omega
      have n3 : ¬ 4 * j + 3 = 4 * o + 3 := by omega
      simp [mPut_rd, sLay, a7, q] <;> omega
  · simp [mPut_rd, sLay, b1]
  · simp [mPut_rd, sLay, b2]
  · simp [mPut_rd, sLay, b3]
  · simp [mPut_rd, sLay, b4]
  · simp [mPut_rd, sLay, b5]
  · simp [mPut_rd, sLay, b6]
theorem RM_l5 {z : xMem} {r : sR} {o v : Nat} (h : RM z r) : RM (mPut z 7 (4 * o) (nI v)) (sLay r 5 o v) := by
  obtain ⟨a1, a2, a3, a4, a5, a6, a7, b1, b2, b3, b4, b5, b6⟩ := h
  refine ⟨fun j => ?_, fun j => ?_, fun j => ?_, fun j => ?_, fun j => ?_, fun j => ?_, fun j => ?_, ?_, ?_, ?_, ?_, ?_, ?_⟩
  · by_cases q : j = o
    · subst q; simp [mPut_rd, sLay, a1]
    · simp [mPut_rd, sLay, a1, q]
  · by_cases q : j = o
    · subst q; simp [mPut_rd, sLay, a2]
    · simp [mPut_rd, sLay, a2, q]
  · by_cases q : j = o
    · subst q; simp [mPut_rd, sLay, a3]
    · simp [mPut_rd, sLay, a3, q]
  · by_cases q : j = o
    · subst q; simp [mPut_rd, sLay, a4] <;> omega
    · have n0 : ¬ 4 * j + 0 = 4 * o := by omega
      have n1 : ¬ 4 * j + 0 = 4 * o + 1 := by omega
      have n2 : ¬ 4 * j + 0 = 4 * o + 2 := by omega
      have n3 : ¬ 4 * j + 0 = 4 * o + 3 := by omega
      simp [mPut_rd, sLay, a4, q] <;> omega
  · by_cases q : j = o
    · subst q; simp [mPut_rd, sLay, a5] <;> omega
    · have n0 : ¬ 4 * j + 1 = 4 * o := by omega
      have n1 : ¬ 4 * j + 1 = 4 * o + 1 := by omega
      have n2 : ¬ 4 * j + 1 = 4 * o + 2 := by omega
      have n3 : ¬ 4 * j + 1 = 4 * o + 3 := by omega
      simp [mPut_rd, sLay, a5, q] <;> omega
  · by_cases q : j = o
    · subst q; simp [mPut_rd, sLay, a6] <;> omega
    · have n0 : ¬ 4 * j + 2 = 4 * o := by omega
      have n1 : ¬ 4 * j + 2 = 4 * o + 1 := by omega
      have n2 : ¬ 4 * j + 2 = 4 * o + 2 := by omega
      have n3 : ¬ 4 * j + 2 = 4 * o + 3 := by omega
      simp [mPut_rd, sLay, a6, q] <;> omega
  · by_cases q : j = o
    · subst q; simp [mPut_rd, sLay, a7] <;> omega
    · have n0 : ¬ 4 * j + 3 = 4 * o := by omega
      have n1 : ¬ 4 * j + 3 = 4 * o + 1 := by omega
      have n2 : ¬ 4 * j + 3 = 4 * o + 2 := by omega
      have n3 : ¬ 4 * j + 3 = 4 * o + 3 := by omega
      simp [mPut_rd, sLay, a7, q] <;> omega
  · simp [mPut_rd, sLay, b1]
  · simp [mPut_rd, sLay, b2]
  · simp [mPut_rd, sLay, b3]
  · simp [mPut_rd, sLay, b4]
  · simp [mPut_rd, sLay, b5]
  · simp [mPut_rd, sLay, b6]
theorem RM_l6 {z : xMem} {r : sR} {o v : Nat} (h : RM z r) : RM (mPut z 7 (4 * o + 1) (nI v)) (sLay r 6 o v) := by
  obtain ⟨a1, a2, a3, a4, a5, a6, a7, b1, b2, b3, b4, b5, b6⟩ := h
  refine ⟨fun j => ?_, fun j => ?_, fun j => ?_, fun j => ?_, fun j => ?_, fun j => ?_, fun j => ?_, ?_, ?_, ?_, ?_, ?_, ?_⟩
  · by_cases q : j = o
    · subst q; simp [mPut_rd, sLay, a1]
    · simp [mPut_rd, sLay, a1, q]
  · by_cases q : j = o
    · subst q; simp [mPut_rd, sLay, a2]
    · simp [mPut_rd, sLay, a2, q]
  · by_cases q : j = o
    · subst q; simp [mPut_rd, sLay, a3]
    · simp [mPut_rd, sLay, a3, q]
  · by_cases q : j = o
    · subst q; simp [mPut_rd, sLay, a4] <;> omega
    · have n0 : ¬ 4 * j + 0 = 4 * o := by omega
      have n1 : ¬ 4 * j + 0 = 4 * o + 1 := by omega
      have n2 : ¬ 4 * j + 0 = 4 * o + 2 := by omega
      have n3 : ¬ 4 * j + 0 = 4 * o + 3 := by omega
      simp [mPut_rd, sLay, a4, q] <;> omega
  · by_cases q : j = o
    · subst q; simp [mPut_rd, sLay, a5] <;> omega
    · have n0 : ¬ 4 * j + 1 = 4 * o := by omega
      have n1 : ¬ 4 * j + 1 = 4 * o + 1 := by omega
      have n2 : ¬ 4 * j + 1 = 4 * o + 2 := by omega
      have n3 : ¬ 4 * j + 1 = 4 * o + 3 := by omega
      simp [mPut_rd, sLay, a5, q] <;> omega
  · by_cases q : j = o
    · subst q; simp [mPut_rd, sLay, a6] <;> omega
    · have n0 : ¬ 4 * j + 2 = 4 * o := by omega
      have n1 : ¬ 4 * j + 2 = 4 * o + 1 := by omega
      have n2 : ¬ 4 * j + 2 = 4 * o + 2 := by omega
      have n3 : ¬ 4 * j + 2 = 4 * o + 3 := by omega
      simp [mPut_rd, sLay, a6, q] <;> omega
  · by_cases q : j = o
    · subst q; simp [mPut_rd, sLay, a7] <;> omega
    · have n0 : ¬ 4 * j + 3 = 4 * o := by omega
      have n1 : ¬ 4 * j + 3 = 4 * o + 1 := by omega
      have n2 : ¬ 4 * j + 3 = 4 * o + 2 := by omega
      have n3 : ¬ 4 * j + 3 = 4 * o + 3 := by omega
      simp [mPut_rd, sLay, a7, q] <;> omega
  · simp [mPut_rd, sLay, b1]
  · simp [mPut_rd, sLay, b2]
  · simp [mPut_rd, sLay, b3]
  · simp [mPut_rd, sLay, b4]
  · simp [mPut_rd, sLay, b5]
  · simp [mPut_rd, sLay, b6]
theorem RM_l7 {z : xMem} {r : sR} {o v : Nat} (h : RM z r) : RM (mPut z 7 (4 * o + 2) (nI v)) (sLay r 7 o v) := by
  obtain ⟨a1, a2, a3, a4, a5, a6, a7, b1, b2, b3, b4, b5, b6⟩ := h
  refine ⟨fun j => ?_, fun j => ?_, fun j => ?_, fun j => ?_, fun j => ?_, fun j => ?_, fun j => ?_, ?_, ?_, ?_, ?_, ?_, ?_⟩
  · by_cases q : j = o
    · subst q; simp [mPut_rd, sLay, a1]
    · simp [mPut_rd, sLay, a1, q]
  · by_cases q : j = o
    · subst q; simp [mPut_rd, sLay, a2]
    · simp [mPut_rd, sLay, a2, q]
  · by_cases q : j = o
    · subst q; simp [mPut_rd, sLay, a3]
    · simp [mPut_rd, sLay, a3, q]
  · by_cases q : j = o
    · subst q; simp [mPut_rd, sLay, a4] <;> omega
    · have n0 : ¬ 4 * j + 0 = 4 * o := by omega
      have n1 : ¬ 4 * j + 0 = 4 * o + 1 := by omega
      have n2 : ¬ 4 * j + 0 = 4 * o + 2 := by omega
      have n3 : ¬ 4 * j + 0 = 4 * o + 3 := by omega
      simp [mPut_rd, sLay, a4, q] <;> omega
  · by_cases q : j = o
    · subst q; simp [mPut_rd, sLay, a5] <;> omega
    · have n0 : ¬ 4 * j + 1 = 4 * o := by omega
      have n1 : ¬ 4 * j + 1 = 4 * o + 1 := by omega
      have n2 : ¬ 4 * j + 1 = 4 * o + 2 := by omega
      have n3 : ¬ 4 * j + 1 = 4 * o + 3 := by omega
      simp [mPut_rd, sLay, a5, q] <;> omega
  · by_cases q : j = o
    · subst q; simp [mPut_rd, sLay, a6] <;> omega
    · have n0 : ¬ 4 * j + 2 = 4 * o := by omega
      have n1 : ¬ 4 * j + 2 = 4 * o + 1 := by omega
      have n2 : ¬ 4 * j + 2 = 4 * o + 2 := by omega
      have n3 : ¬ 4 * j + 2 = 4 * o + 3 := by omega
      simp [mPut_rd, sLay, a6, q] <;> omega
  · by_cases q : j = o
    · subst q; simp [mPut_rd, sLay, a7] <;> omega
    · have n0 : ¬ 4 * j + 3 = 4 * o := by omega
      have n1 : ¬ 4 * j + 3 = 4 * o + 1 := by omega
      have n2 : ¬ 4 * j + 3 = 4 * o + 2 := by omega
      have n3 : ¬ 4 * j + 3 = 4 * o + 3 := by omega
      simp [mPut_rd, sLay, a7, q] <;> omega
  · simp [mPut_rd, sLay, b1]
  · simp [mPut_rd, sLay, b2]
  · simp [mPut_rd, sLay, b3]
  · simp [mPut_rd, sLay, b4]
  · simp [mPut_rd, sLay, b5]
  · simp [mPut_rd, sLay, b6]
theorem RM_l8 {z : xMem} {r : sR} {o v : Nat} (h : RM z r) : RM (mPut z 7 (4 * o + 3) (nI v)) (sLay r 8 o v) := by
  obtain ⟨a1, a2, a3, a4, a5, a6, a7, b1, b2, b3, b4, b5, b6⟩ := h
  refine ⟨fun j => ?_, fun j => ?_, fun j => ?_, fun j => ?_, fun j => ?_, fun j => ?_, fun j => ?_, ?_, ?_, ?_, ?_, ?_, ?_⟩
  · by_cases q : j = o
    · subst q; simp [mPut_rd, sLay, a1]
    · simp [mPut_rd, sLay, a1, q]
  · by_cases q : j = o
    · subst q; simp [mPut_rd, sLay, a2]
    · simp [mPut_rd, sLay, a2, q]
  · by_cases q : j = o
    · subst q; simp [mPut_rd, sLay, a3]
    · simp [mPut_rd, sLay, a3, q]
  · by_cases q : j = o
    · subst q; simp [mPut_rd, sLay, a4] <;> omega
    · have n0 : ¬ 4 * j + 0 = 4 * o := by omega
      have n1 : ¬ 4 * j + 0 = 4 * o + 1 := by omega
      have n2 : ¬ 4 * j + 0 = 4 * o + 2 := by omega
      have n3 : ¬ 4 * j + 0 = 4 * o + 3 := by omega
      simp [mPut_rd, sLay, a4, q] <;> omega
  · by_cases q : j = o
    · subst q; simp [mPut_rd, sLay, a5] <;> omega
    · have n0 : ¬ 4 * j + 1 = 4 * o := by omega
      have n1 : ¬ 4 * j + 1 = 4 * o + 1 := by omega
      have n2 : ¬ 4 * j + 1 = 4 * o + 2 := by omega
      have n3 : ¬ 4 * j + 1 = 4 * o + 3 := by omega
      simp [mPut_rd, sLay, a5, q] <;> omega
  · by_cases q : j = o
    · subst q; simp [mPut_rd, sLay, a6] <;> omega
    · have n0 : ¬ 4 * j + 2 = 4 * o := by omega
      have n1 : ¬ 4 * j + 2 = 4 * o + 1 := by omega
      have n2 : ¬ 4 * j + 2 = 4 * o + 2 := by omega
      have n3 : ¬ 4 * j + 2 = 4 * o + 3 := by omega
      simp [mPut_rd, sLay, a6, q] <;> omega
  · by_cases q : j = o
    · subst q; simp [mPut_rd, sLay, a7] <;> omega
    · have n0 : ¬ 4 * j + 3 = 4 * o := by omega
      have n1 : ¬ 4 * j + 3 = 4 * o + 1 := by omega
      have n2 : ¬ 4 * j + 3 = 4 * o + 2 := by omega
      have n3 : ¬ 4 * j + 3 = 4 * o + 3 := by omega
      simp [mPut_rd, sLay, a7, q] <;> omega
  · simp [mPut_rd, sLay, b1]
  · simp [mPut_rd, sLay, b2]
  · simp [mPut_rd, sLay, b3]
  · simp [mPut_rd, sLay, b4]
  · simp [mPut_rd, sLay, b5]
  · simp [mPut_rd, sLay, b6]
theorem RM_l9 {z : xMem} {r : sR} {o v : Nat} (h : RM z r) : RM (mPut z 0 4 (nI v)) (sLay r 9 o v) := by
  obtain ⟨a1, a2, a3, a4, a5, a6, a7, b1, b2, b3, b4, b5, b6⟩ := h
  refine ⟨fun j => ?_, fun j => ?_, fun j => ?_, fun j => ?_, fun j => ?_, fun j => ?_, fun j => ?_, ?_, ?_, ?_, ?_, ?_, ?_⟩
  · by_cases q : j = o
    · subst q; simp [mPut_rd, sLay, a1]
    · simp [mPut_rd, sLay, a1, q]
  · by_cases q : j = o
    · subst q; simp [mPut_rd, sLay, a2]
    · simp [mPut_rd, sLay, a2, q]
  · by_cases q : j = o
    · subst q; simp [mPut_rd, sLay, a3]
    · simp [mPut_rd, sLay, a3, q]
  · by_cases q : j = o
    · subst q; simp [mPut_rd, sLay, a4] <;> omega
    · have n0 : ¬ 4 * j + 0 = 4 * o := by omega
      have n1 : ¬ 4 * j + 0 = 4 * o + 1 := by omega
      have n2 : ¬ 4 * j + 0 = 4 * o + 2 := by omega
      have n3 : ¬ 4 * j + 0 = 4 * o + 3 := by omega
      simp [mPut_rd, sLay, a4, q] <;> omega
  · by_cases q : j = o
    · subst q; simp [mPut_rd, sLay, a5] <;> omega
    · have n0 : ¬ 4 * j + 1 = 4 * o := by omega
      have n1 : ¬ 4 * j + 1 = 4 * o + 1 := by omega
      have n2 : ¬ 4 * j + 1 = 4 * o + 2 := by omega
      have n3 : ¬ 4 * j + 1 = 4 * o + 3 := by omega
      simp [mPut_rd, sLay, a5, q] <;> omega
  · by_cases q : j = o
    · subst q; simp [mPut_rd, sLay, a6] <;> omega
    · have n0 : ¬ 4 * j + 2 = 4 * o := by omega
      have n1 : ¬ 4 * j + 2 = 4 * o + 1 := by omega
      have n2 : ¬ 4 * j + 2 = 4 * o + 2 := by omega
      have n3 : ¬ 4 * j + 2 = 4 * o + 3 := by omega
      simp [mPut_rd, sLay, a6, q] <;> omega
  · by_cases q : j = o
    · subst q; simp [mPut_rd, sLay, a7] <;> omega
    · have n0 : ¬ 4 * j + 3 = 4 * o := by omega
      have n1 : ¬ 4 * j + 3 = 4 * o + 1 := by omega
      have n2 : ¬ 4 * j + 3 = 4 * o + 2 := by omega
      have n3 : ¬ 4 * j + 3 = 4 * o + 3 := by omega
      simp [mPut_rd, sLay, a7, q] <;> omega
  · simp [mPut_rd, sLay, b1]
  · simp [mPut_rd, sLay, b2]
  · simp [mPut_rd, sLay, b3]
  · simp [mPut_rd, sLay, b4]
  · simp [mPut_rd, sLay, b5]
  · simp [mPut_rd, sLay, b6]
theorem RM_0j {z : xMem} {r : sR} {o v : Nat} (h : RM z r) (j : Nat) : (mPut z 4 o (nI v)).1 4 j = nI (if j = o then v else r 0 j) := by
  rw [mPut_rd, if_pos rfl]
  split
  · rfl
  · exact h.1 j
/-- nothing changed but what can be laid -/
def KL (z z' : xMem) : Prop := (∀ q, q ≠ 0 → ¬ (4 ≤ q ∧ q ≤ 7) → z'.1 q = z.1 q) ∧ ∀ j, (j ≠ 4 ∧ ¬ (7 ≤ j ∧ j ≤ 9)) → z'.1 0 j = z.1 0 j
theorem KL_j {z : xMem} {j : Nat} {x : Int32} (h : j = 4 ∨ (7 ≤ j ∧ j ≤ 9)) : KL z (mPut z 0 j x) := ⟨fun q h0 _ => mPut_nq h0, fun i hi => mPut_nj (by omega)⟩
theorem KL_q {z : xMem} {q j : Nat} {x : Int32} (h : 4 ≤ q ∧ q ≤ 7) : KL z (mPut z q j x) := ⟨fun q' h0 h1 => mPut_nq (fun e => h1 (by omega)), fun i hi => congrFun (mPut_nq (by omega)) i⟩
theorem KL_tr {a b c : xMem} (h1 : KL a b) (h2 : KL b c) : KL a c := ⟨fun q h h' => (h2.1 q h h').trans (h1.1 q h h'), fun j h => (h2.2 j h).trans (h1.2 j h)⟩
theorem KL_0 {z : xMem} {o : Nat} {x y : Int32} : KL z (mPut (mPut z 4 o x) 0 9 y) := KL_tr (KL_q (by omega)) (KL_j (by omega))
theorem KL_12 {z : xMem} {x y : Int32} : KL z (mPut (mPut z 0 7 x) 0 8 y) := KL_tr (KL_j (by omega)) (KL_j (by omega))
/-- nothing changed but the running republic, and scratch -/
def KW (z z' : xMem) : Prop := (∀ q, (1 ≤ q ∧ q ≤ 3) ∨ 10 ≤ q → z'.1 q = z.1 q) ∧ ∀ j, (j = 3 ∨ j = 6 ∨ 34 < j) → z'.1 0 j = z.1 0 j
theorem KW_rf (z : xMem) : KW z z := ⟨fun _ _ => rfl, fun _ _ => rfl⟩
theorem KW_tr {a b c : xMem} (h1 : KW a b) (h2 : KW b c) : KW a c := ⟨fun q h => (h2.1 q h).trans (h1.1 q h), fun j h => (h2.2 j h).trans (h1.2 j h)⟩
theorem KW_K {a b : xMem} (h : KM a b) : KW a b := ⟨fun q hq => h.1 q (by omega), fun j hj => h.2 j (by omega)⟩
theorem KW_S {a b : xMem} (h : KS a b) : KW a b := ⟨fun q hq => h.1 q (by omega) (by omega), fun j hj => h.2 j (by omega)⟩
theorem KW_R {a b : xMem} (h : KR a b) : KW a b := ⟨fun q hq => h.1 q (by omega) (by omega), fun j hj => h.2 j (by omega)⟩
theorem KW_L {a b : xMem} (h : KL a b) : KW a b := ⟨fun q hq => h.1 q (by omega) (by omega), fun j hj => h.2 j (by omega)⟩
theorem KW_O {a b : xMem} (h : KO a b) : KW a b := ⟨fun q hq => h.1 q (by omega) (by omega) (by omega), fun j hj => h.2 j (by omega)⟩
theorem TM_KW {z z' : xMem} {cnt : Nat} {tc : Nat → sTc} (h : KW z z') (ht : TM z cnt tc) : TM z' cnt tc := by
  obtain ⟨h1, h2, h3, h4⟩ := ht
  refine ⟨(h.2 3 (by omega)).trans h1, h2, h3, fun t hl => ?_⟩
  obtain ⟨bt, n, p, a1, a2, a3, a4, a5⟩ := h4 t hl
  exact ⟨bt, n, p, by rw [h.1 2 (by decide)]; exact a1, a2, fun i hi => by rw [h.1 1 (by decide)]; exact a3 i hi, a4, a5⟩
/-- what is told -/
def sTld (tc : Nat → sTc) (r : sR) (x : Int32) (u : Nat) : Int32 :=
  if u = 0 then nI (r 0 x.toInt.toNat) else if u = 1 then nI (r 7 1) else if u = 2 then nI (r 7 2) else if u = 3 then nI (r 1 x.toInt.toNat) else if u = 4 then nI (r 2 x.toInt.toNat)
  else if u = 5 then nI (r 4 x.toInt.toNat) else if u = 6 then nI (r 5 x.toInt.toNat) else if u = 7 then nI (r 6 x.toInt.toNat) else if u = 8 then nI (r 3 x.toInt.toNat)
  else if u = 9 then nI (sAl (sCf tc r x.toInt.toNat) 10) else if u = 10 then nI (sAl (r 0) 8) else if u = 11 then nI (r 7 0) else nI (r 7 3)
def sTold (tc : Nat → sTc) (r : sR) (x w : Int32) : Int32 := if 0 ≤ w.toInt ∧ w.toInt ≤ 12 ∧ sIs (r 7 4) x w.toInt.toNat then sTld tc r x w.toInt.toNat else -1000
theorem sTold_y {tc : Nat → sTc} {r : sR} {x : Int32} {u : Nat} (hu : u ≤ 12) (h : sIs (r 7 4) x u) : sTold tc r x (nI u) = sTld tc r x u := by
  unfold sTold
  rw [sTI (k := u) (by omega), show ((u : Nat) : Int).toNat = u from rfl, if_pos ⟨by omega, by omega, h⟩]
abbrev sSok (r : sR) (w x y : Int32) : Prop := 0 ≤ w.toInt ∧ w.toInt ≤ 7 ∧ sIs (r 7 4) x w.toInt.toNat ∧ (if w.toInt.toNat = 1 then 1 else 0) ≤ y.toInt ∧ y.toInt ≤ sMost w.toInt.toNat
def sSet (tc : Nat → sTc) (r : sR) (w x y : Int32) : Int32 × sR := if sSok r w x y then (sTld tc r x w.toInt.toNat, sLay r w.toInt.toNat x.toInt.toNat y.toInt.toNat) else (-2, r)
theorem sSet_n {tc : Nat → sTc} {r : sR} {w x y : Int32} (h : ¬ sSok r w x y) : sSet tc r w x y = (-2, r) := by rw [sSet, if_neg h]
theorem sSet_y {tc : Nat → sTc} {r : sR} {u v : Nat} {x : Int32} (hu : u ≤ 7) (hv : v < 1000) (hI : sIs (r 7 4) x u) (h1 : (if u = 1 then 1 else 0) ≤ (v : Int)) (h2 : (v : Int) ≤ sMost u) : sSet tc r (nI u) x (nI v) = (sTld tc r x u, sLay r u x.toInt.toNat v) := by
  have e1 : (nI u).toInt.toNat = u := sTN (by omega)
  have e2 : (nI v).toInt.toNat = v := sTN (by omega)
  rw [sSet, if_pos (by unfold sSok; rw [e1, sTI (k := u) (by omega), sTI (k := v) (by omega)]; exact ⟨by omega, by omega, hI, h1, h2⟩), e1, e2]
set_option maxHeartbeats 4000000 in
set_option maxRecDepth 20000 in
theorem t_X6_isOf (l : Launch) (d : Nat) (u : Nat) (x : Int32) (z : xMem) (k : Nat) (hk : z.1 0 15 = nI k) (hk4 : k ≤ 4) (hu : u ≤ 12) : XMz l (d + 2) yX6_isOf cX6_isOf 3 (some .boolean) shM [.ref 0, .int (nI u), .int x] z (fun z' => sIs k x u ∧ z' = z) (fun z' => ¬ sIs k x u ∧ z' = z) := by
  refine XM.of (by decide) (Nat.le_of_ble_eq_true rfl) (fun xp xe xs xm xar xbl xme xc xD xcs xad xAA xCC xhr => ?_)
  generalize xhQ : MQ xbl _ xar xs 0 0 xAA = xQ
  show ww xp l xe (xRm (d + 2)) xs xm xar xbl xme xc 3 xD xcs xad shM xAA xQ 0 [(0, .ref 0), (1, .int (nI u)), (2, .int x)] [] z
  refine ww_blk xCC okX6_isOf 0 2 (ps := []) (pc' := 2) (lv' := [(0, .ref 0), (1, .int (nI u)), (2, .int x)]) (st' := [.int 1, .int (nI u)]) (z' := z) rfl trivial ?_
  refine ww_br xCC okX6_isOf 2 (P := (nI u) = 1) (t1 := 16) (t2 := 5) (r := []) rfl (fun c1 => ?_) (fun c1 => ?_)
  · skip
    replace c1 : u = 1 := (sEQ (a := u) (b := 1) (by omega) (by omega)).mp c1
    refine ww_blk xCC okX6_isOf 9 1 (ps := []) (pc' := 17) (lv' := [(0, .ref 0), (1, .int (nI u)), (2, .int x)]) (st' := [.int 1]) (z' := z) rfl trivial ?_
    subst xhQ
    exact ww_iret xCC okX6_isOf 10 xhr rfl (by decide) (Or.inl ⟨rfl, ⟨(by unfold sIs; omega), rfl⟩⟩)
  · skip
    replace c1 : ¬ u = 1 := fun q => c1 ((sEQ (a := u) (b := 1) (by omega) (by omega)).mpr q)
    refine ww_blk xCC okX6_isOf 3 2 (ps := []) (pc' := 7) (lv' := [(0, .ref 0), (1, .int (nI u)), (2, .int x)]) (st' := [.int 2, .int (nI u)]) (z' := z) rfl trivial ?_
    refine ww_br xCC okX6_isOf 5 (P := (nI u) = 2) (t1 := 16) (t2 := 10) (r := []) rfl (fun c2 => ?_) (fun c2 => ?_)
    · skip
      replace c2 : u = 2 := (sEQ (a := u) (b := 2) (by omega) (by omega)).mp c2
      refine ww_blk xCC okX6_isOf 9 1 (ps := []) (pc' := 17) (lv' := [(0, .ref 0), (1, .int (nI u)), (2, .int x)]) (st' := [.int 1]) (z' := z) rfl trivial ?_
      subst xhQ
      exact ww_iret xCC okX6_isOf 10 xhr rfl (by decide) (Or.inl ⟨rfl, ⟨(by unfold sIs; omega), rfl⟩⟩)
    · skip
      replace c2 : ¬ u = 2 := fun q => c2 ((sEQ (a := u) (b := 2) (by omega) (by omega)).mpr q)
      refine ww_blk xCC okX6_isOf 6 2 (ps := []) (pc' := 13) (lv' := [(0, .ref 0), (1, .int (nI u)), (2, .int x)]) (st' := [.int 9, .int (nI u)]) (z' := z) rfl trivial ?_
      refine ww_br xCC okX6_isOf 8 (P := (nI u) ≤ 9) (t1 := 18) (t2 := 16) (r := []) rfl (fun c3 => ?_) (fun c3 => ?_)
      · skip
        replace c3 : u ≤ 9 := (sLE (a := u) (b := 9) (by omega) (by omega)).mp c3
        refine ww_blk xCC okX6_isOf 11 1 (ps := []) (pc' := 19) (lv' := [(0, .ref 0), (1, .int (nI u)), (2, .int x)]) (st' := [.int (nI u)]) (z' := z) rfl trivial ?_
        refine ww_br xCC okX6_isOf 12 (P := (nI u) = 0) (t1 := 22) (t2 := 29) (r := []) rfl (fun c4 => ?_) (fun c4 => ?_)
        · skip
          replace c4 : u = 0 := (sEQ (a := u) (b := 0) (by omega) (by omega)).mp c4
          refine ww_blk xCC okX6_isOf 13 1 (ps := []) (pc' := 23) (lv' := [(0, .ref 0), (1, .int (nI u)), (2, .int x)]) (st' := [.int x]) (z' := z) rfl trivial ?_
          refine ww_callSNz xCC okX6_isOf 14 (ix := 90) (t_X6_isLaw l d x _) (by omega) (by decide) xyX6_isLaw xiX6_isLaw (Or.inl (lw_gt_of (List.mem_of_getElem? (i := 969) (by decide +kernel)) rfl)) rfl (rest := []) rfl (Nat.le_of_ble_eq_true rfl) rfl (fun z5 h6 => ?_) (fun z5 h6 => ?_)
          · skip
            have h6 : 0 ≤ x.toInt ∧ x.toInt ≤ 7 := h6
            refine ww_blk xCC okX6_isOf 15 1 (ps := []) (pc' := 46) (lv' := [(0, .ref 0), (1, .int (nI u)), (2, .int x)]) (st' := [.int 1]) (z' := z) rfl trivial ?_
            subst xhQ
            exact ww_iret xCC okX6_isOf 25 xhr rfl (by decide) (Or.inl ⟨rfl, ⟨(by unfold sIs; omega), rfl⟩⟩)
          · skip
            have h6 : ¬ (0 ≤ x.toInt ∧ x.toInt ≤ 7) := h6
            refine ww_blk xCC okX6_isOf 15 1 (ps := []) (pc' := 46) (lv' := [(0, .ref 0), (1, .int (nI u)), (2, .int x)]) (st' := [.int 0]) (z' := z) rfl trivial ?_
            subst xhQ
            exact ww_iret xCC okX6_isOf 25 xhr rfl (by decide) (Or.inr ⟨rfl, ⟨(by unfold sIs; omega), rfl⟩⟩)
        · skip
          replace c4 : ¬ u = 0 := fun q => c4 ((sEQ (a := u) (b := 0) (by omega) (by omega)).mpr q)
          refine ww_blk xCC okX6_isOf 16 2 (ps := []) (pc' := 31) (lv' := [(0, .ref 0), (1, .int (nI u)), (2, .int x)]) (st' := [.int 5, .int (nI u)]) (z' := z) rfl trivial ?_
          refine ww_br xCC okX6_isOf 18 (P := 5 ≤ (nI u)) (t1 := 41) (t2 := 34) (r := []) rfl (fun c7 => ?_) (fun c7 => ?_)
          · skip
            replace c7 : 5 ≤ u := (sLE (a := 5) (b := u) (by omega) (by omega)).mp c7
            refine ww_blk xCC okX6_isOf 22 2 (ps := []) (pc' := 43) (lv' := [(0, .ref 0), (1, .int (nI u)), (2, .int x)]) (st' := [.int x, .ref 0]) (z' := z) rfl trivial ?_
            refine ww_callVIz xCC okX6_isOf 24 (ix := 97) (t_X6_isOne l d x z k hk hk4) (by omega) (by decide) xyX6_isOne xiX6_isOne (Or.inl (lw_gt_of (List.mem_of_getElem? (i := 976) (by decide +kernel)) rfl)) rfl rfl rfl (rest := []) rfl (Nat.le_of_ble_eq_true rfl) rfl (fun z8 h9 => ?_) (fun z8 h9 => ?_)
            · skip
              rw [h9.2]
              replace h9 := h9.1
              subst xhQ
              exact ww_iret xCC okX6_isOf 25 xhr rfl (by decide) (Or.inl ⟨rfl, ⟨(by unfold sIs; omega), rfl⟩⟩)
            · skip
              rw [h9.2]
              replace h9 := h9.1
              subst xhQ
              exact ww_iret xCC okX6_isOf 25 xhr rfl (by decide) (Or.inr ⟨rfl, ⟨(by unfold sIs; omega), rfl⟩⟩)
          · skip
            replace c7 : ¬ 5 ≤ u := fun q => c7 ((sLE (a := 5) (b := u) (by omega) (by omega)).mpr q)
            refine ww_blk xCC okX6_isOf 19 1 (ps := []) (pc' := 35) (lv' := [(0, .ref 0), (1, .int (nI u)), (2, .int x)]) (st' := [.int x]) (z' := z) rfl trivial ?_
            refine ww_callSNz xCC okX6_isOf 20 (ix := 94) (t_X6_isDeed l d x _) (by omega) (by decide) xyX6_isDeed xiX6_isDeed (Or.inl (lw_gt_of (List.mem_of_getElem? (i := 972) (by decide +kernel)) rfl)) rfl (rest := []) rfl (Nat.le_of_ble_eq_true rfl) rfl (fun z10 h11 => ?_) (fun z10 h11 => ?_)
            · skip
              have h11 : 0 ≤ x.toInt ∧ x.toInt ≤ 9 := h11
              refine ww_blk xCC okX6_isOf 21 1 (ps := []) (pc' := 46) (lv' := [(0, .ref 0), (1, .int (nI u)), (2, .int x)]) (st' := [.int 1]) (z' := z) rfl trivial ?_
              subst xhQ
              exact ww_iret xCC okX6_isOf 25 xhr rfl (by decide) (Or.inl ⟨rfl, ⟨(by unfold sIs; omega), rfl⟩⟩)
            · skip
              have h11 : ¬ (0 ≤ x.toInt ∧ x.toInt ≤ 9) := h11
              refine ww_blk xCC okX6_isOf 21 1 (ps := []) (pc' := 46) (lv' := [(0, .ref 0), (1, .int (nI u)), (2, .int x)]) (st' := [.int 0]) (z' := z) rfl trivial ?_
              subst xhQ
              exact ww_iret xCC okX6_isOf 25 xhr rfl (by decide) (Or.inr ⟨rfl, ⟨(by unfold sIs; omega), rfl⟩⟩)
      · skip
        replace c3 : ¬ u ≤ 9 := fun q => c3 ((sLE (a := u) (b := 9) (by omega) (by omega)).mpr q)
        refine ww_blk xCC okX6_isOf 9 1 (ps := []) (pc' := 17) (lv' := [(0, .ref 0), (1, .int (nI u)), (2, .int x)]) (st' := [.int 1]) (z' := z) rfl trivial ?_
        subst xhQ
        exact ww_iret xCC okX6_isOf 10 xhr rfl (by decide) (Or.inl ⟨rfl, ⟨(by unfold sIs; omega), rfl⟩⟩)

set_option maxHeartbeats 4000000 in
set_option maxRecDepth 20000 in
theorem t_X6_mostOf (l : Launch) (d : Nat) (u : Nat) (hu : u ≤ 12) (z : xMem) : XMi l d yX6_mostOf cX6_mostOf 1 (some .int) [] [.int (nI u)] z (fun v _ => v = nI (sMost u)) := by
  refine XM.of (by decide) (Nat.le_of_ble_eq_true rfl) (fun xp xe xs xm xar xbl xme xc xD xcs xad xAA xCC xhr => ?_)
  generalize xhQ : MQ xbl _ xar xs 0 0 xAA = xQ
  show ww xp l xe (xRm d) xs xm xar xbl xme xc 1 xD xcs xad [] xAA xQ 0 [(0, .int (nI u))] [] z
  refine ww_blk xCC okX6_mostOf 0 2 (ps := []) (pc' := 2) (lv' := [(0, .int (nI u))]) (st' := [.int 2, .int (nI u)]) (z' := z) rfl trivial ?_
  refine ww_br xCC okX6_mostOf 2 (P := (nI u) < 2) (t1 := 10) (t2 := 5) (r := []) rfl (fun c1 => ?_) (fun c1 => ?_)
  · skip
    replace c1 : u < 2 := (sLT (a := u) (b := 2) (by omega) (by omega)).mp c1
    refine ww_blk xCC okX6_mostOf 6 2 (ps := []) (pc' := 39) (lv' := [(0, .int (nI u))]) (st' := [.int 9]) (z' := z) rfl trivial ?_
    subst xhQ
    exact ww_iret xCC okX6_mostOf 19 xhr rfl rfl ⟨_, rfl, (by unfold sMost; first | (rw [if_pos (by omega)]; rfl) | (rw [if_neg (by omega), if_pos (by omega)]; rfl) | (rw [if_neg (by omega), if_neg (by omega), if_pos (by omega)]; rfl) | (rw [if_neg (by omega), if_neg (by omega), if_neg (by omega)]; rfl))⟩
  · skip
    replace c1 : ¬ u < 2 := fun q => c1 ((sLT (a := u) (b := 2) (by omega) (by omega)).mpr q)
    refine ww_blk xCC okX6_mostOf 3 2 (ps := []) (pc' := 7) (lv' := [(0, .int (nI u))]) (st' := [.int 5, .int (nI u)]) (z' := z) rfl trivial ?_
    refine ww_br xCC okX6_mostOf 5 (P := (nI u) = 5) (t1 := 10) (t2 := 15) (r := []) rfl (fun c2 => ?_) (fun c2 => ?_)
    · skip
      replace c2 : u = 5 := (sEQ (a := u) (b := 5) (by omega) (by omega)).mp c2
      refine ww_blk xCC okX6_mostOf 6 2 (ps := []) (pc' := 39) (lv' := [(0, .int (nI u))]) (st' := [.int 9]) (z' := z) rfl trivial ?_
      subst xhQ
      exact ww_iret xCC okX6_mostOf 19 xhr rfl rfl ⟨_, rfl, (by unfold sMost; first | (rw [if_pos (by omega)]; rfl) | (rw [if_neg (by omega), if_pos (by omega)]; rfl) | (rw [if_neg (by omega), if_neg (by omega), if_pos (by omega)]; rfl) | (rw [if_neg (by omega), if_neg (by omega), if_neg (by omega)]; rfl))⟩
    · skip
      replace c2 : ¬ u = 5 := fun q => c2 ((sEQ (a := u) (b := 5) (by omega) (by omega)).mpr q)
      refine ww_blk xCC okX6_mostOf 8 2 (ps := []) (pc' := 17) (lv' := [(0, .int (nI u))]) (st' := [.int 2, .int (nI u)]) (z' := z) rfl trivial ?_
      refine ww_br xCC okX6_mostOf 10 (P := (nI u) = 2) (t1 := 20) (t2 := 26) (r := []) rfl (fun c3 => ?_) (fun c3 => ?_)
      · skip
        replace c3 : u = 2 := (sEQ (a := u) (b := 2) (by omega) (by omega)).mp c3
        refine ww_blk xCC okX6_mostOf 11 2 (ps := []) (pc' := 39) (lv' := [(0, .int (nI u))]) (st' := [.int 999]) (z' := z) rfl trivial ?_
        subst xhQ
        exact ww_iret xCC okX6_mostOf 19 xhr rfl rfl ⟨_, rfl, (by unfold sMost; first | (rw [if_pos (by omega)]; rfl) | (rw [if_neg (by omega), if_pos (by omega)]; rfl) | (rw [if_neg (by omega), if_neg (by omega), if_pos (by omega)]; rfl) | (rw [if_neg (by omega), if_neg (by omega), if_neg (by omega)]; rfl))⟩
      · skip
        replace c3 : ¬ u = 2 := fun q => c3 ((sEQ (a := u) (b := 2) (by omega) (by omega)).mpr q)
        refine ww_blk xCC okX6_mostOf 13 2 (ps := []) (pc' := 28) (lv' := [(0, .int (nI u))]) (st' := [.int 3, .int (nI u)]) (z' := z) rfl trivial ?_
        refine ww_br xCC okX6_mostOf 15 (P := (nI u) = 3) (t1 := 31) (t2 := 37) (r := []) rfl (fun c4 => ?_) (fun c4 => ?_)
        · skip
          replace c4 : u = 3 := (sEQ (a := u) (b := 3) (by omega) (by omega)).mp c4
          refine ww_blk xCC okX6_mostOf 16 2 (ps := []) (pc' := 39) (lv' := [(0, .int (nI u))]) (st' := [.int 255]) (z' := z) rfl trivial ?_
          subst xhQ
          exact ww_iret xCC okX6_mostOf 19 xhr rfl rfl ⟨_, rfl, (by unfold sMost; first | (rw [if_pos (by omega)]; rfl) | (rw [if_neg (by omega), if_pos (by omega)]; rfl) | (rw [if_neg (by omega), if_neg (by omega), if_pos (by omega)]; rfl) | (rw [if_neg (by omega), if_neg (by omega), if_neg (by omega)]; rfl))⟩
        · skip
          replace c4 : ¬ u = 3 := fun q => c4 ((sEQ (a := u) (b := 3) (by omega) (by omega)).mpr q)
          refine ww_blk xCC okX6_mostOf 18 1 (ps := []) (pc' := 39) (lv' := [(0, .int (nI u))]) (st' := [.int 99]) (z' := z) rfl trivial ?_
          subst xhQ
          exact ww_iret xCC okX6_mostOf 19 xhr rfl rfl ⟨_, rfl, (by unfold sMost; first | (rw [if_pos (by omega)]; rfl) | (rw [if_neg (by omega), if_pos (by omega)]; rfl) | (rw [if_neg (by omega), if_neg (by omega), if_pos (by omega)]; rfl) | (rw [if_neg (by omega), if_neg (by omega), if_neg (by omega)]; rfl))⟩

set_option maxHeartbeats 4000000 in
set_option maxRecDepth 20000 in
theorem t_X6_lays (l : Launch) (d : Nat) (u v : Nat) (x : Int32) (z : xMem) (r : sR) (hr : RM z r) (hb : ∀ j, r 0 j ≤ 9) (hv : v < 2 ^ 30) (hu : u ≤ 9) (hI : u = 9 ∨ sIs 4 x u) : XMv l (d + 1) yX6_lays cX6_lays 4 none shM [.ref 0, .int (nI u), .int x, .int (nI v)] z (fun z' => RM z' (sLay r u x.toInt.toNat v) ∧ KL z z') := by
  refine XM.of (by decide) (Nat.le_of_ble_eq_true rfl) (fun xp xe xs xm xar xbl xme xc xD xcs xad xAA xCC xhr => ?_)
  generalize xhQ : MQ xbl _ xar xs 0 0 xAA = xQ
  show ww xp l xe (xRm (d + 1)) xs xm xar xbl xme xc 4 xD xcs xad shM xAA xQ 0 [(0, .ref 0), (1, .int (nI u)), (2, .int x), (3, .int (nI v))] [] z
  refine ww_blk xCC okX6_lays 0 1 (ps := []) (pc' := 1) (lv' := [(0, .ref 0), (1, .int (nI u)), (2, .int x), (3, .int (nI v))]) (st' := [.int (nI u)]) (z' := z) rfl trivial ?_
  refine ww_br xCC okX6_lays 1 (P := (nI u) = 0) (t1 := 4) (t2 := 27) (r := []) rfl (fun c1 => ?_) (fun c1 => ?_)
  · skip
    replace c1 : u = 0 := (sEQ (a := u) (b := 0) (by omega) (by omega)).mp c1
    obtain ⟨o, ho, rfl⟩ := sNN (x := x) (n := 8) (by unfold sIs at hI; omega) (by unfold sIs at hI; omega)
    refine ww_blk xCC okX6_lays 2 9 (ps := [vp_in (nI o) 8]) (pc' := 17) (lv' := [(0, .ref 0), (1, .int (nI u)), (2, .int (nI o)), (3, .int (nI v))]) (st' := [.ref 0, .int (z.1 0 9), .ref 0]) (z' := (mPut z 4 (nI o).toNatClampNeg (nI v))) rfl (vp_in_nI (by omega) (by decide)) ?_
    rw [hr.2.2.2.2.2.2.2.1]
    rw [sCL (n := o) (by omega)]
    refine ww_callVIi xCC okX6_lays 11 (ix := 119) (t_X6_alive l d (mPut z 4 o (nI v)) (fun j => if j = o then v else r 0 j) (fun j => RM_0j hr j) (fun j => by have := hb j; show (if j = o then v else r 0 j) < 2 ^ 31; split <;> omega)) (by omega) (by decide) xyX6_alive xiX6_alive (Or.inl (lw_gt_of (List.mem_of_getElem? (i := 1007) (by decide +kernel)) rfl)) rfl rfl rfl (rest := [.int (nI (r 7 0)), .ref 0]) rfl (Nat.le_of_ble_eq_true rfl) rfl (fun v4 z2 h3 => ?_)
    rw [h3.1, h3.2]
    refine ww_blk xCC okX6_lays 12 3 (ps := []) (pc' := 126) (lv' := [(0, .ref 0), (1, .int (nI u)), (2, .int (nI o)), (3, .int (nI v))]) (st' := []) (z' := (mPut (mPut z 4 o (nI v)) 0 9 ((nI (r 7 0)) &&& (nI (sAl (fun j => if j = o then v else r 0 j) 8))))) rfl trivial ?_
    rw [fa_and (r 7 0) (sAl (fun j => if j = o then v else r 0 j) 8)]
    subst xhQ
    exact ww_vret xCC okX6_lays 73 xhr rfl ⟨rfl, (by rw [sTN (by omega)]; rw [show u = 0 by omega]; exact ⟨RM_l0 hr, KL_0⟩)⟩
  · skip
    replace c1 : ¬ u = 0 := fun q => c1 ((sEQ (a := u) (b := 0) (by omega) (by omega)).mpr q)
    refine ww_blk xCC okX6_lays 15 2 (ps := []) (pc' := 29) (lv' := [(0, .ref 0), (1, .int (nI u)), (2, .int x), (3, .int (nI v))]) (st' := [.int 3, .int (nI u)]) (z' := z) rfl trivial ?_
    refine ww_br xCC okX6_lays 17 (P := 3 ≤ (nI u)) (t1 := 69) (t2 := 32) (r := []) rfl (fun c5 => ?_) (fun c5 => ?_)
    · skip
      replace c5 : 3 ≤ u := (sLE (a := 3) (b := u) (by omega) (by omega)).mp c5
      refine ww_blk xCC okX6_lays 37 2 (ps := []) (pc' := 71) (lv' := [(0, .ref 0), (1, .int (nI u)), (2, .int x), (3, .int (nI v))]) (st' := [.int 3, .int (nI u)]) (z' := z) rfl trivial ?_
      refine ww_br xCC okX6_lays 39 (P := (nI u) = 3) (t1 := 74) (t2 := 84) (r := []) rfl (fun c6 => ?_) (fun c6 => ?_)
      · skip
        replace c6 : u = 3 := (sEQ (a := u) (b := 3) (by omega) (by omega)).mp c6
        obtain ⟨o, ho, rfl⟩ := sNN (x := x) (n := 10) (by unfold sIs at hI; omega) (by unfold sIs at hI; omega)
        refine ww_blk xCC okX6_lays 40 6 (ps := [vp_in (nI o) 10]) (pc' := 126) (lv' := [(0, .ref 0), (1, .int (nI u)), (2, .int (nI o)), (3, .int (nI v))]) (st' := []) (z' := (mPut z 5 (nI o).toNatClampNeg (nI v))) rfl (vp_in_nI (by omega) (by decide)) ?_
        rw [sCL (n := o) (by omega)]
        subst xhQ
        exact ww_vret xCC okX6_lays 73 xhr rfl ⟨rfl, (by rw [sTN (by omega)]; rw [show u = 3 by omega]; exact ⟨RM_l3 hr, KL_q (by omega)⟩)⟩
      · skip
        replace c6 : ¬ u = 3 := fun q => c6 ((sEQ (a := u) (b := 3) (by omega) (by omega)).mpr q)
        refine ww_blk xCC okX6_lays 46 2 (ps := []) (pc' := 86) (lv' := [(0, .ref 0), (1, .int (nI u)), (2, .int x), (3, .int (nI v))]) (st' := [.int 4, .int (nI u)]) (z' := z) rfl trivial ?_
        refine ww_br xCC okX6_lays 48 (P := (nI u) = 4) (t1 := 89) (t2 := 99) (r := []) rfl (fun c7 => ?_) (fun c7 => ?_)
        · skip
          replace c7 : u = 4 := (sEQ (a := u) (b := 4) (by omega) (by omega)).mp c7
          obtain ⟨o, ho, rfl⟩ := sNN (x := x) (n := 10) (by unfold sIs at hI; omega) (by unfold sIs at hI; omega)
          refine ww_blk xCC okX6_lays 49 6 (ps := [vp_in (nI o) 10]) (pc' := 126) (lv' := [(0, .ref 0), (1, .int (nI u)), (2, .int (nI o)), (3, .int (nI v))]) (st' := []) (z' := (mPut z 6 (nI o).toNatClampNeg (nI v))) rfl (vp_in_nI (by omega) (by decide)) ?_
          rw [sCL (n := o) (by omega)]
          subst xhQ
          exact ww_vret xCC okX6_lays 73 xhr rfl ⟨rfl, (by rw [sTN (by omega)]; rw [show u = 4 by omega]; exact ⟨RM_l4 hr, KL_q (by omega)⟩)⟩
        · skip
          replace c7 : ¬ u = 4 := fun q => c7 ((sEQ (a := u) (b := 4) (by omega) (by omega)).mpr q)
          refine ww_blk xCC okX6_lays 55 2 (ps := []) (pc' := 102) (lv' := [(0, .ref 0), (1, .int (nI u)), (2, .int x), (3, .int (nI v))]) (st' := [.int 9, .int (nI u)]) (z' := z) rfl trivial ?_
          refine ww_br xCC okX6_lays 57 (P := 9 ≤ (nI u)) (t1 := 121) (t2 := 105) (r := []) rfl (fun c8 => ?_) (fun c8 => ?_)
          · skip
            replace c8 : 9 ≤ u := (sLE (a := 9) (b := u) (by omega) (by omega)).mp c8
            refine ww_blk xCC okX6_lays 70 3 (ps := []) (pc' := 126) (lv' := [(0, .ref 0), (1, .int (nI u)), (2, .int x), (3, .int (nI v))]) (st' := []) (z' := (mPut z 0 4 (nI v))) rfl trivial ?_
            subst xhQ
            exact ww_vret xCC okX6_lays 73 xhr rfl ⟨rfl, (by rw [show u = 9 by omega]; exact ⟨RM_l9 hr, KL_j (by omega)⟩)⟩
          · skip
            replace c8 : ¬ 9 ≤ u := fun q => c8 ((sLE (a := 9) (b := u) (by omega) (by omega)).mpr q)
            obtain ⟨o, ho, rfl⟩ := sNN (x := x) (n := 4) (by unfold sIs at hI; omega) (by unfold sIs at hI; omega)
            rcases (show u = 5 ∨ u = 6 ∨ u = 7 ∨ u = 8 by omega) with rfl | rfl | rfl | rfl
            · skip
              refine ww_blk xCC okX6_lays 58 12 (ps := [vp_in (((4 * (nI o)) + (nI 5)) - 5) 16]) (pc' := 126) (lv' := [(0, .ref 0), (1, .int (nI 5)), (2, .int (nI o)), (3, .int (nI v))]) (st' := []) (z' := (mPut z 7 (((4 * (nI o)) + (nI 5)) - 5).toNatClampNeg (nI v))) rfl (vp_4o5 (by omega)) ?_
              rw [show (4 : Int32) * nI o = nI (4 * o) from pk_mul 4 o]
              rw [sIx5 o]
              rw [sCL (n := (4 * o)) (by omega)]
              subst xhQ
              exact ww_vret xCC okX6_lays 73 xhr rfl ⟨rfl, (by rw [sTN (by omega)]; exact ⟨RM_l5 hr, KL_q (by omega)⟩)⟩
            · skip
              refine ww_blk xCC okX6_lays 58 12 (ps := [vp_in (((4 * (nI o)) + (nI 6)) - 5) 16]) (pc' := 126) (lv' := [(0, .ref 0), (1, .int (nI 6)), (2, .int (nI o)), (3, .int (nI v))]) (st' := []) (z' := (mPut z 7 (((4 * (nI o)) + (nI 6)) - 5).toNatClampNeg (nI v))) rfl (vp_4o6 (by omega)) ?_
              rw [show (4 : Int32) * nI o = nI (4 * o) from pk_mul 4 o]
              rw [sIx6 o]
              rw [sCL (n := (4 * o + 1)) (by omega)]
              subst xhQ
              exact ww_vret xCC okX6_lays 73 xhr rfl ⟨rfl, (by rw [sTN (by omega)]; exact ⟨RM_l6 hr, KL_q (by omega)⟩)⟩
            · skip
              refine ww_blk xCC okX6_lays 58 12 (ps := [vp_in (((4 * (nI o)) + (nI 7)) - 5) 16]) (pc' := 126) (lv' := [(0, .ref 0), (1, .int (nI 7)), (2, .int (nI o)), (3, .int (nI v))]) (st' := []) (z' := (mPut z 7 (((4 * (nI o)) + (nI 7)) - 5).toNatClampNeg (nI v))) rfl (vp_4o7 (by omega)) ?_
              rw [show (4 : Int32) * nI o = nI (4 * o) from pk_mul 4 o]
              rw [sIx7 o]
              rw [sCL (n := (4 * o + 2)) (by omega)]
              subst xhQ
              exact ww_vret xCC okX6_lays 73 xhr rfl ⟨rfl, (by rw [sTN (by omega)]; exact ⟨RM_l7 hr, KL_q (by omega)⟩)⟩
            · skip
              refine ww_blk xCC okX6_lays 58 12 (ps := [vp_in (((4 * (nI o)) + (nI 8)) - 5) 16]) (pc' := 126) (lv' := [(0, .ref 0), (1, .int (nI 8)), (2, .int (nI o)), (3, .int (nI v))]) (st' := []) (z' := (mPut z 7 (((4 * (nI o)) + (nI 8)) - 5).toNatClampNeg (nI v))) rfl (vp_4o8 (by omega)) ?_
              rw [show (4 : Int32) * nI o = nI (4 * o) from pk_mul 4 o]
              rw [sIx8 o]
              rw [sCL (n := (4 * o + 3)) (by omega)]
              subst xhQ
              exact ww_vret xCC okX6_lays 73 xhr rfl ⟨rfl, (by rw [sTN (by omega)]; exact ⟨RM_l8 hr, KL_q (by omega)⟩)⟩
    · skip
      replace c5 : ¬ 3 ≤ u := fun q => c5 ((sLE (a := 3) (b := u) (by omega) (by omega)).mpr q)
      refine ww_blk xCC okX6_lays 18 3 (ps := []) (pc' := 35) (lv' := [(0, .ref 0), (1, .int (nI u)), (2, .int x), (3, .int (nI v))]) (st' := [.int 1, .int (nI u), .ref 0]) (z' := z) rfl trivial ?_
      refine ww_br xCC okX6_lays 21 (P := (nI u) = 1) (t1 := 38) (t2 := 42) (r := [.ref 0]) rfl (fun c9 => ?_) (fun c9 => ?_)
      · skip
        replace c9 : u = 1 := (sEQ (a := u) (b := 1) (by omega) (by omega)).mp c9
        refine ww_blk xCC okX6_lays 22 2 (ps := []) (pc' := 46) (lv' := [(0, .ref 0), (1, .int (nI u)), (2, .int x), (3, .int (nI v))]) (st' := [.int (nI v), .ref 0]) (z' := z) rfl trivial ?_
        refine ww_blk xCC okX6_lays 26 4 (ps := []) (pc' := 52) (lv' := [(0, .ref 0), (1, .int (nI u)), (2, .int x), (3, .int (nI v))]) (st' := [.int 2, .int (nI u), .ref 0]) (z' := (mPut z 0 7 (nI v))) rfl trivial ?_
        refine ww_br xCC okX6_lays 30 (P := (nI u) = 2) (t1 := 55) (t2 := 59) (r := [.ref 0]) rfl (fun c10 => absurd c10 (fun q => by have := (sEQ (a := u) (b := 2) (by omega) (by omega)).mp q; omega)) (fun c10 => ?_)
        refine ww_blk xCC okX6_lays 33 4 (ps := []) (pc' := 126) (lv' := [(0, .ref 0), (1, .int (nI u)), (2, .int x), (3, .int (nI v))]) (st' := []) (z' := (mPut (mPut z 0 7 (nI v)) 0 8 (z.1 0 8))) rfl trivial ?_
        rw [hr.2.2.2.2.2.2.2.2.2.1]
        subst xhQ
        exact ww_vret xCC okX6_lays 73 xhr rfl ⟨rfl, (by rw [show u = 1 by omega]; exact ⟨RM_l1 hr, KL_12⟩)⟩
      · skip
        replace c9 : ¬ u = 1 := fun q => c9 ((sEQ (a := u) (b := 1) (by omega) (by omega)).mpr q)
        refine ww_blk xCC okX6_lays 24 6 (ps := []) (pc' := 52) (lv' := [(0, .ref 0), (1, .int (nI u)), (2, .int x), (3, .int (nI v))]) (st' := [.int 2, .int (nI u), .ref 0]) (z' := (mPut z 0 7 (z.1 0 7))) rfl trivial ?_
        rw [hr.2.2.2.2.2.2.2.2.1]
        refine ww_br xCC okX6_lays 30 (P := (nI u) = 2) (t1 := 55) (t2 := 59) (r := [.ref 0]) rfl (fun c11 => ?_) (fun c11 => absurd ((sEQ (a := u) (b := 2) (by omega) (by omega)).mpr (by omega)) c11)
        refine ww_blk xCC okX6_lays 31 2 (ps := []) (pc' := 63) (lv' := [(0, .ref 0), (1, .int (nI u)), (2, .int x), (3, .int (nI v))]) (st' := [.int (nI v), .ref 0]) (z' := (mPut z 0 7 (nI (r 7 1)))) rfl trivial ?_
        refine ww_blk xCC okX6_lays 35 2 (ps := []) (pc' := 126) (lv' := [(0, .ref 0), (1, .int (nI u)), (2, .int x), (3, .int (nI v))]) (st' := []) (z' := (mPut (mPut z 0 7 (nI (r 7 1))) 0 8 (nI v))) rfl trivial ?_
        subst xhQ
        exact ww_vret xCC okX6_lays 73 xhr rfl ⟨rfl, (by rw [show u = 2 by omega]; exact ⟨RM_l2 hr, KL_12⟩)⟩

set_option maxHeartbeats 4000000 in
set_option maxRecDepth 20000 in
theorem t_X6_told (l : Launch) (d : Nat) (x w : Int32) (z : xMem) (r : sR) (cnt : Nat) (tc : Nat → sTc) (hr : RM z r) (hw : sW r cnt) (ht : TM z cnt tc) : XMi l (d + 312) yX6_told cX6_told 3 (some .int) shM [.ref 0, .int x, .int w] z (fun v z' => v = sTold tc r x w ∧ KM z z') := by
  refine XM.of (by decide) (Nat.le_of_ble_eq_true rfl) (fun xp xe xs xm xar xbl xme xc xD xcs xad xAA xCC xhr => ?_)
  generalize xhQ : MQ xbl _ xar xs 0 0 xAA = xQ
  show ww xp l xe (xRm (d + 312)) xs xm xar xbl xme xc 3 xD xcs xad shM xAA xQ 0 [(0, .ref 0), (1, .int x), (2, .int w)] [] z
  have hb := hw.1
  have h74 : r 7 4 ≤ 4 := hw.2.2.2.2.2.2.1
  refine ww_blk xCC okX6_told 0 4 (ps := []) (pc' := 6) (lv' := [(0, .ref 0), (1, .int x), (2, .int w)]) (st' := [.long 12, .long 0, .long w.toInt64]) (z' := z) rfl trivial ?_
  refine ww_callSNz xCC okX6_told 4 (ix := 82) (t_X6_in l d w.toInt64 0 12 w.toInt 0 12 (Int32.toInt_toInt64 _) rfl rfl  _) (by omega) (by decide) xyX6_in xiX6_in (Or.inl (lw_gt_of (List.mem_of_getElem? (i := 962) (by decide +kernel)) rfl)) rfl (rest := []) rfl (Nat.le_of_ble_eq_true rfl) rfl (fun z1 h2 => ?_) (fun z1 h2 => ?_)
  · skip
    have h2 : 0 ≤ w.toInt ∧ w.toInt ≤ 12 := h2
    obtain ⟨u, hu, rfl⟩ := sNN (x := w) (n := 13) (by omega) (by omega)
    refine ww_br xCC okX6_told 5 (P := 1 = 0) (t1 := 21) (t2 := 12) (r := []) rfl (fun q => absurd q (by decide)) (fun _ => ?_)
    refine ww_blk xCC okX6_told 6 3 (ps := []) (pc' := 15) (lv' := [(0, .ref 0), (1, .int x), (2, .int (nI u))]) (st' := [.int x, .int (nI u), .ref 0]) (z' := z) rfl trivial ?_
    refine ww_callVIz xCC okX6_told 9 (ix := 100) (t_X6_isOf l d u x z (r 7 4) hr.2.2.2.2.2.2.2.2.2.2.2.1 h74 (by omega)) (by omega) (by decide) xyX6_isOf xiX6_isOf (Or.inl (lw_gt_of (List.mem_of_getElem? (i := 965) (by decide +kernel)) rfl)) rfl rfl rfl (rest := []) rfl (Nat.le_of_ble_eq_true rfl) rfl (fun zI hI => ?_) (fun zI hI => ?_)
    · skip
      rw [hI.2]
      replace hI := hI.1
      refine ww_br xCC okX6_told 10 (P := 1 = 0) (t1 := 21) (t2 := 25) (r := []) rfl (fun q => absurd q (by decide)) (fun _ => ?_)
      refine ww_blk xCC okX6_told 13 2 (ps := []) (pc' := 27) (lv' := [(0, .ref 0), (1, .int x), (2, .int (nI u))]) (st' := [.int 3, .int (nI u)]) (z' := z) rfl trivial ?_
      refine ww_br xCC okX6_told 15 (P := 3 ≤ (nI u)) (t1 := 60) (t2 := 30) (r := []) rfl (fun c5 => ?_) (fun c5 => ?_)
      · skip
        replace c5 : 3 ≤ u := (sLE (a := 3) (b := u) (by omega) (by omega)).mp c5
        refine ww_blk xCC okX6_told 32 2 (ps := []) (pc' := 63) (lv' := [(0, .ref 0), (1, .int x), (2, .int (nI u))]) (st' := [.int 9, .int (nI u)]) (z' := z) rfl trivial ?_
        refine ww_br xCC okX6_told 34 (P := 9 ≤ (nI u)) (t1 := 107) (t2 := 66) (r := []) rfl (fun c6 => ?_) (fun c6 => ?_)
        · skip
          replace c6 : 9 ≤ u := (sLE (a := 9) (b := u) (by omega) (by omega)).mp c6
          refine ww_blk xCC okX6_told 62 2 (ps := []) (pc' := 110) (lv' := [(0, .ref 0), (1, .int x), (2, .int (nI u))]) (st' := [.int 9, .int (nI u)]) (z' := z) rfl trivial ?_
          refine ww_br xCC okX6_told 64 (P := (nI u) = 9) (t1 := 113) (t2 := 121) (r := []) rfl (fun c7 => ?_) (fun c7 => ?_)
          · skip
            replace c7 : u = 9 := (sEQ (a := u) (b := 9) (by omega) (by omega)).mp c7
            obtain ⟨o, ho, rfl⟩ := sNN (x := x) (n := r 7 4) (by unfold sIs at hI; omega) (by unfold sIs at hI; omega)
            refine ww_blk xCC okX6_told 65 2 (ps := []) (pc' := 115) (lv' := [(0, .ref 0), (1, .int (nI o)), (2, .int (nI u))]) (st' := [.int (nI o), .ref 0]) (z' := z) rfl trivial ?_
            refine ww_callVIi xCC okX6_told 67 (ix := 133) (t_X6_canSet l d o z r cnt tc hr hw ht (by omega)) (by omega) (by decide) xyX6_canSet xiX6_canSet (Or.inl (lw_gt_of (List.mem_of_getElem? (i := 988) (by decide +kernel)) rfl)) rfl rfl rfl (rest := []) rfl (Nat.le_of_ble_eq_true rfl) rfl (fun v9 zS8 hS8 => ?_)
            have hrS8 := RM_K hS8.2 hr
            have htS8 := TM_K hS8.2 ht
            have hKS8 := KM_tr (KM_rf z) hS8.2
            rw [hS8.1]
            refine ww_blk xCC okX6_told 68 1 (ps := []) (pc' := 151) (lv' := [(0, .ref 0), (1, .int (nI o)), (2, .int (nI u))]) (st' := [.int (nI (sAl (sCf tc r o) 10))]) (z' := zS8) rfl trivial ?_
            subst xhQ
            exact ww_iret xCC okX6_told 83 xhr rfl rfl ⟨_, rfl, ⟨(by rw [sTold_y (by omega) hI]; unfold sTld; rw [sTN (by omega)]; grind), hKS8⟩⟩
          · skip
            replace c7 : ¬ u = 9 := fun q => c7 ((sEQ (a := u) (b := 9) (by omega) (by omega)).mpr q)
            refine ww_blk xCC okX6_told 69 2 (ps := []) (pc' := 124) (lv' := [(0, .ref 0), (1, .int x), (2, .int (nI u))]) (st' := [.int 10, .int (nI u)]) (z' := z) rfl trivial ?_
            refine ww_br xCC okX6_told 71 (P := (nI u) = 10) (t1 := 127) (t2 := 134) (r := []) rfl (fun c10 => ?_) (fun c10 => ?_)
            · skip
              replace c10 : u = 10 := (sEQ (a := u) (b := 10) (by omega) (by omega)).mp c10
              refine ww_blk xCC okX6_told 72 1 (ps := []) (pc' := 128) (lv' := [(0, .ref 0), (1, .int x), (2, .int (nI u))]) (st' := [.ref 0]) (z' := z) rfl trivial ?_
              refine ww_callVIi xCC okX6_told 73 (ix := 119) (t_X6_alive l d z (r 0) hr.1 (fun j => Nat.lt_of_le_of_lt (hb j).1 (by decide))) (by omega) (by decide) xyX6_alive xiX6_alive (Or.inl (lw_gt_of (List.mem_of_getElem? (i := 1007) (by decide +kernel)) rfl)) rfl rfl rfl (rest := []) rfl (Nat.le_of_ble_eq_true rfl) rfl (fun v13 z11 h12 => ?_)
              rw [h12.1, h12.2]
              refine ww_blk xCC okX6_told 74 1 (ps := []) (pc' := 151) (lv' := [(0, .ref 0), (1, .int x), (2, .int (nI u))]) (st' := [.int (nI (sAl (r 0) 8))]) (z' := z) rfl trivial ?_
              subst xhQ
              exact ww_iret xCC okX6_told 83 xhr rfl rfl ⟨_, rfl, ⟨(by rw [sTold_y (by omega) hI]; unfold sTld; grind), (KM_rf z)⟩⟩
            · skip
              replace c10 : ¬ u = 10 := fun q => c10 ((sEQ (a := u) (b := 10) (by omega) (by omega)).mpr q)
              refine ww_blk xCC okX6_told 75 2 (ps := []) (pc' := 137) (lv' := [(0, .ref 0), (1, .int x), (2, .int (nI u))]) (st' := [.int 11, .int (nI u)]) (z' := z) rfl trivial ?_
              refine ww_br xCC okX6_told 77 (P := (nI u) = 11) (t1 := 140) (t2 := 147) (r := []) rfl (fun c14 => ?_) (fun c14 => ?_)
              · skip
                replace c14 : u = 11 := (sEQ (a := u) (b := 11) (by omega) (by omega)).mp c14
                refine ww_blk xCC okX6_told 78 3 (ps := []) (pc' := 151) (lv' := [(0, .ref 0), (1, .int x), (2, .int (nI u))]) (st' := [.int (z.1 0 9)]) (z' := z) rfl trivial ?_
                rw [hr.2.2.2.2.2.2.2.1]
                subst xhQ
                exact ww_iret xCC okX6_told 83 xhr rfl rfl ⟨_, rfl, ⟨(by rw [sTold_y (by omega) hI]; unfold sTld; grind), (KM_rf z)⟩⟩
              · skip
                replace c14 : ¬ u = 11 := fun q => c14 ((sEQ (a := u) (b := 11) (by omega) (by omega)).mpr q)
                refine ww_blk xCC okX6_told 81 2 (ps := []) (pc' := 151) (lv' := [(0, .ref 0), (1, .int x), (2, .int (nI u))]) (st' := [.int (z.1 0 10)]) (z' := z) rfl trivial ?_
                rw [hr.2.2.2.2.2.2.2.2.2.2.1]
                subst xhQ
                exact ww_iret xCC okX6_told 83 xhr rfl rfl ⟨_, rfl, ⟨(by rw [sTold_y (by omega) hI]; unfold sTld; grind), (KM_rf z)⟩⟩
        · skip
          replace c6 : ¬ 9 ≤ u := fun q => c6 ((sLE (a := 9) (b := u) (by omega) (by omega)).mpr q)
          refine ww_blk xCC okX6_told 35 2 (ps := []) (pc' := 68) (lv' := [(0, .ref 0), (1, .int x), (2, .int (nI u))]) (st' := [.int 3, .int (nI u)]) (z' := z) rfl trivial ?_
          refine ww_br xCC okX6_told 37 (P := (nI u) = 3) (t1 := 71) (t2 := 80) (r := []) rfl (fun c15 => ?_) (fun c15 => ?_)
          · skip
            replace c15 : u = 3 := (sEQ (a := u) (b := 3) (by omega) (by omega)).mp c15
            obtain ⟨o, ho, rfl⟩ := sNN (x := x) (n := 10) (by unfold sIs at hI; omega) (by unfold sIs at hI; omega)
            refine ww_blk xCC okX6_told 38 5 (ps := [vp_in (nI o) 10]) (pc' := 106) (lv' := [(0, .ref 0), (1, .int (nI o)), (2, .int (nI u))]) (st' := [.int (z.1 5 (nI o).toNatClampNeg)]) (z' := z) rfl (vp_in_nI (by omega) (by decide)) ?_
            rw [sCL (n := o) (by omega)]
            rw [hr.2.1 o]
            subst xhQ
            exact ww_iret xCC okX6_told 61 xhr rfl rfl ⟨_, rfl, ⟨(by rw [sTold_y (by omega) hI]; unfold sTld; rw [sTN (by omega)]; grind), (KM_rf z)⟩⟩
          · skip
            replace c15 : ¬ u = 3 := fun q => c15 ((sEQ (a := u) (b := 3) (by omega) (by omega)).mpr q)
            refine ww_blk xCC okX6_told 43 2 (ps := []) (pc' := 82) (lv' := [(0, .ref 0), (1, .int x), (2, .int (nI u))]) (st' := [.int 4, .int (nI u)]) (z' := z) rfl trivial ?_
            refine ww_br xCC okX6_told 45 (P := (nI u) = 4) (t1 := 85) (t2 := 94) (r := []) rfl (fun c16 => ?_) (fun c16 => ?_)
            · skip
              replace c16 : u = 4 := (sEQ (a := u) (b := 4) (by omega) (by omega)).mp c16
              obtain ⟨o, ho, rfl⟩ := sNN (x := x) (n := 10) (by unfold sIs at hI; omega) (by unfold sIs at hI; omega)
              refine ww_blk xCC okX6_told 46 5 (ps := [vp_in (nI o) 10]) (pc' := 106) (lv' := [(0, .ref 0), (1, .int (nI o)), (2, .int (nI u))]) (st' := [.int (z.1 6 (nI o).toNatClampNeg)]) (z' := z) rfl (vp_in_nI (by omega) (by decide)) ?_
              rw [sCL (n := o) (by omega)]
              rw [hr.2.2.1 o]
              subst xhQ
              exact ww_iret xCC okX6_told 61 xhr rfl rfl ⟨_, rfl, ⟨(by rw [sTold_y (by omega) hI]; unfold sTld; rw [sTN (by omega)]; grind), (KM_rf z)⟩⟩
            · skip
              replace c16 : ¬ u = 4 := fun q => c16 ((sEQ (a := u) (b := 4) (by omega) (by omega)).mpr q)
              obtain ⟨o, ho, rfl⟩ := sNN (x := x) (n := 4) (by unfold sIs at hI; omega) (by unfold sIs at hI; omega)
              rcases (show u = 5 ∨ u = 6 ∨ u = 7 ∨ u = 8 by omega) with rfl | rfl | rfl | rfl
              · skip
                refine ww_blk xCC okX6_told 51 10 (ps := [vp_in (((4 * (nI o)) + (nI 5)) - 5) 16]) (pc' := 106) (lv' := [(0, .ref 0), (1, .int (nI o)), (2, .int (nI 5))]) (st' := [.int (z.1 7 (((4 * (nI o)) + (nI 5)) - 5).toNatClampNeg)]) (z' := z) rfl (vp_4o5 (by omega)) ?_
                rw [show (4 : Int32) * nI o = nI (4 * o) from pk_mul 4 o]
                rw [sIx5 o]
                rw [sCL (n := (4 * o)) (by omega)]
                rw [hr.2.2.2.1 o]
                subst xhQ
                exact ww_iret xCC okX6_told 61 xhr rfl rfl ⟨_, rfl, ⟨(by rw [sTold_y (by omega) hI]; unfold sTld; rw [sTN (by omega)]; grind), (KM_rf z)⟩⟩
              · skip
                refine ww_blk xCC okX6_told 51 10 (ps := [vp_in (((4 * (nI o)) + (nI 6)) - 5) 16]) (pc' := 106) (lv' := [(0, .ref 0), (1, .int (nI o)), (2, .int (nI 6))]) (st' := [.int (z.1 7 (((4 * (nI o)) + (nI 6)) - 5).toNatClampNeg)]) (z' := z) rfl (vp_4o6 (by omega)) ?_
                rw [show (4 : Int32) * nI o = nI (4 * o) from pk_mul 4 o]
                rw [sIx6 o]
                rw [sCL (n := (4 * o + 1)) (by omega)]
                rw [hr.2.2.2.2.1 o]
                subst xhQ
                exact ww_iret xCC okX6_told 61 xhr rfl rfl ⟨_, rfl, ⟨(by rw [sTold_y (by omega) hI]; unfold sTld; rw [sTN (by omega)]; grind), (KM_rf z)⟩⟩
              · skip
                refine ww_blk xCC okX6_told 51 10 (ps := [vp_in (((4 * (nI o)) + (nI 7)) - 5) 16]) (pc' := 106) (lv' := [(0, .ref 0), (1, .int (nI o)), (2, .int (nI 7))]) (st' := [.int (z.1 7 (((4 * (nI o)) + (nI 7)) - 5).toNatClampNeg)]) (z' := z) rfl (vp_4o7 (by omega)) ?_
                rw [show (4 : Int32) * nI o = nI (4 * o) from pk_mul 4 o]
                rw [sIx7 o]
                rw [sCL (n := (4 * o + 2)) (by omega)]
                rw [hr.2.2.2.2.2.1 o]
                subst xhQ
                exact ww_iret xCC okX6_told 61 xhr rfl rfl ⟨_, rfl, ⟨(by rw [sTold_y (by omega) hI]; unfold sTld; rw [sTN (by omega)]; grind), (KM_rf z)⟩⟩
              · skip
                refine ww_blk xCC okX6_told 51 10 (ps := [vp_in (((4 * (nI o)) + (nI 8)) - 5) 16]) (pc' := 106) (lv' := [(0, .ref 0), (1, .int (nI o)), (2, .int (nI 8))]) (st' := [.int (z.1 7 (((4 * (nI o)) + (nI 8)) - 5).toNatClampNeg)]) (z' := z) rfl (vp_4o8 (by omega)) ?_
                rw [show (4 : Int32) * nI o = nI (4 * o) from pk_mul 4 o]
                rw [sIx8 o]
                rw [sCL (n := (4 * o + 3)) (by omega)]
                rw [hr.2.2.2.2.2.2.1 o]
                subst xhQ
                exact ww_iret xCC okX6_told 61 xhr rfl rfl ⟨_, rfl, ⟨(by rw [sTold_y (by omega) hI]; unfold sTld; rw [sTN (by omega)]; grind), (KM_rf z)⟩⟩
      · skip
        replace c5 : ¬ 3 ≤ u := fun q => c5 ((sLE (a := 3) (b := u) (by omega) (by omega)).mpr q)
        refine ww_blk xCC okX6_told 16 1 (ps := []) (pc' := 31) (lv' := [(0, .ref 0), (1, .int x), (2, .int (nI u))]) (st' := [.int (nI u)]) (z' := z) rfl trivial ?_
        refine ww_br xCC okX6_told 17 (P := (nI u) = 0) (t1 := 34) (t2 := 43) (r := []) rfl (fun c17 => ?_) (fun c17 => ?_)
        · skip
          replace c17 : u = 0 := (sEQ (a := u) (b := 0) (by omega) (by omega)).mp c17
          obtain ⟨o, ho, rfl⟩ := sNN (x := x) (n := 8) (by unfold sIs at hI; omega) (by unfold sIs at hI; omega)
          refine ww_blk xCC okX6_told 18 5 (ps := [vp_in (nI o) 8]) (pc' := 59) (lv' := [(0, .ref 0), (1, .int (nI o)), (2, .int (nI u))]) (st' := [.int (z.1 4 (nI o).toNatClampNeg)]) (z' := z) rfl (vp_in_nI (by omega) (by decide)) ?_
          rw [sCL (n := o) (by omega)]
          rw [hr.1 o]
          subst xhQ
          exact ww_iret xCC okX6_told 31 xhr rfl rfl ⟨_, rfl, ⟨(by rw [sTold_y (by omega) hI]; unfold sTld; rw [sTN (by omega)]; grind), (KM_rf z)⟩⟩
        · skip
          replace c17 : ¬ u = 0 := fun q => c17 ((sEQ (a := u) (b := 0) (by omega) (by omega)).mpr q)
          refine ww_blk xCC okX6_told 23 2 (ps := []) (pc' := 45) (lv' := [(0, .ref 0), (1, .int x), (2, .int (nI u))]) (st' := [.int 1, .int (nI u)]) (z' := z) rfl trivial ?_
          refine ww_br xCC okX6_told 25 (P := (nI u) = 1) (t1 := 48) (t2 := 55) (r := []) rfl (fun c18 => ?_) (fun c18 => ?_)
          · skip
            replace c18 : u = 1 := (sEQ (a := u) (b := 1) (by omega) (by omega)).mp c18
            refine ww_blk xCC okX6_told 26 3 (ps := []) (pc' := 59) (lv' := [(0, .ref 0), (1, .int x), (2, .int (nI u))]) (st' := [.int (z.1 0 7)]) (z' := z) rfl trivial ?_
            rw [hr.2.2.2.2.2.2.2.2.1]
            subst xhQ
            exact ww_iret xCC okX6_told 31 xhr rfl rfl ⟨_, rfl, ⟨(by rw [sTold_y (by omega) hI]; unfold sTld; grind), (KM_rf z)⟩⟩
          · skip
            replace c18 : ¬ u = 1 := fun q => c18 ((sEQ (a := u) (b := 1) (by omega) (by omega)).mpr q)
            refine ww_blk xCC okX6_told 29 2 (ps := []) (pc' := 59) (lv' := [(0, .ref 0), (1, .int x), (2, .int (nI u))]) (st' := [.int (z.1 0 8)]) (z' := z) rfl trivial ?_
            rw [hr.2.2.2.2.2.2.2.2.2.1]
            subst xhQ
            exact ww_iret xCC okX6_told 31 xhr rfl rfl ⟨_, rfl, ⟨(by rw [sTold_y (by omega) hI]; unfold sTld; grind), (KM_rf z)⟩⟩
    · skip
      rw [hI.2]
      replace hI := hI.1
      refine ww_br xCC okX6_told 10 (P := 0 = 0) (t1 := 21) (t2 := 25) (r := []) rfl (fun _ => ?_) (fun q => absurd (by decide) q)
      refine ww_blk xCC okX6_told 11 1 (ps := []) (pc' := 24) (lv' := [(0, .ref 0), (1, .int x), (2, .int (nI u))]) (st' := [.int (-1000)]) (z' := z) rfl trivial ?_
      subst xhQ
      exact ww_iret xCC okX6_told 12 xhr rfl rfl ⟨_, rfl, ⟨(by unfold sTold; rw [if_neg (by first | (rw [sTI (k := u) (by omega)]; exact fun q => hI q.2.2) | omega)]), (KM_rf z)⟩⟩
  · skip
    have h2 : ¬ (0 ≤ w.toInt ∧ w.toInt ≤ 12) := h2
    refine ww_br xCC okX6_told 5 (P := 0 = 0) (t1 := 21) (t2 := 12) (r := []) rfl (fun _ => ?_) (fun q => absurd (by decide) q)
    refine ww_blk xCC okX6_told 11 1 (ps := []) (pc' := 24) (lv' := [(0, .ref 0), (1, .int x), (2, .int w)]) (st' := [.int (-1000)]) (z' := z) rfl trivial ?_
    subst xhQ
    exact ww_iret xCC okX6_told 12 xhr rfl rfl ⟨_, rfl, ⟨(by unfold sTold; rw [if_neg (by first | (rw [sTI (k := u) (by omega)]; exact fun q => hI q.2.2) | omega)]), (KM_rf z)⟩⟩

set_option maxHeartbeats 4000000 in
set_option maxRecDepth 20000 in
theorem t_X6_set (l : Launch) (d : Nat) (w x y : Int32) (z : xMem) (r : sR) (cnt : Nat) (tc : Nat → sTc) (hr : RM z r) (hw : sW r cnt) (ht : TM z cnt tc) : XMi l (d + 313) yX6_set cX6_set 5 (some .int) shM [.ref 0, .int w, .int x, .int y] z (fun v z' => v = (sSet tc r w x y).1 ∧ RM z' (sSet tc r w x y).2 ∧ KW z z') := by
  refine XM.of (by decide) (Nat.le_of_ble_eq_true rfl) (fun xp xe xs xm xar xbl xme xc xD xcs xad xAA xCC xhr => ?_)
  generalize xhQ : MQ xbl _ xar xs 0 0 xAA = xQ
  show ww xp l xe (xRm (d + 313)) xs xm xar xbl xme xc 5 xD xcs xad shM xAA xQ 0 [(0, .ref 0), (1, .int w), (2, .int x), (3, .int y)] [] z
  have hb := hw.1
  have h74 : r 7 4 ≤ 4 := hw.2.2.2.2.2.2.1
  refine ww_blk xCC okX6_set 0 4 (ps := []) (pc' := 6) (lv' := [(0, .ref 0), (1, .int w), (2, .int x), (3, .int y)]) (st' := [.long 7, .long 0, .long w.toInt64]) (z' := z) rfl trivial ?_
  refine ww_callSNz xCC okX6_set 4 (ix := 82) (t_X6_in l d w.toInt64 0 7 w.toInt 0 7 (Int32.toInt_toInt64 _) rfl rfl  _) (by omega) (by decide) xyX6_in xiX6_in (Or.inl (lw_gt_of (List.mem_of_getElem? (i := 962) (by decide +kernel)) rfl)) rfl (rest := []) rfl (Nat.le_of_ble_eq_true rfl) rfl (fun z1 h2 => ?_) (fun z1 h2 => ?_)
  · skip
    have h2 : 0 ≤ w.toInt ∧ w.toInt ≤ 7 := h2
    obtain ⟨u, hu, rfl⟩ := sNN (x := w) (n := 8) (by omega) (by omega)
    refine ww_br xCC okX6_set 5 (P := 1 = 0) (t1 := 44) (t2 := 12) (r := []) rfl (fun q => absurd q (by decide)) (fun _ => ?_)
    refine ww_blk xCC okX6_set 6 3 (ps := []) (pc' := 15) (lv' := [(0, .ref 0), (1, .int (nI u)), (2, .int x), (3, .int y)]) (st' := [.int x, .int (nI u), .ref 0]) (z' := z) rfl trivial ?_
    refine ww_callVIz xCC okX6_set 9 (ix := 100) (t_X6_isOf l d u x z (r 7 4) hr.2.2.2.2.2.2.2.2.2.2.2.1 h74 (by omega)) (by omega) (by decide) xyX6_isOf xiX6_isOf (Or.inl (lw_gt_of (List.mem_of_getElem? (i := 965) (by decide +kernel)) rfl)) rfl rfl rfl (rest := []) rfl (Nat.le_of_ble_eq_true rfl) rfl (fun zI hI => ?_) (fun zI hI => ?_)
    · skip
      rw [hI.2]
      replace hI := hI.1
      refine ww_br xCC okX6_set 10 (P := 1 = 0) (t1 := 44) (t2 := 21) (r := []) rfl (fun q => absurd q (by decide)) (fun _ => ?_)
      refine ww_blk xCC okX6_set 11 4 (ps := []) (pc' := 25) (lv' := [(0, .ref 0), (1, .int (nI u)), (2, .int x), (3, .int y)]) (st' := [.int 1, .int (nI u), .long y.toInt64]) (z' := z) rfl trivial ?_
      refine ww_br xCC okX6_set 15 (P := (nI u) = 1) (t1 := 28) (t2 := 32) (r := [.long y.toInt64]) rfl (fun c5 => ?_) (fun c5 => ?_)
      · skip
        replace c5 : u = 1 := (sEQ (a := u) (b := 1) (by omega) (by omega)).mp c5
        refine ww_blk xCC okX6_set 16 2 (ps := []) (pc' := 33) (lv' := [(0, .ref 0), (1, .int (nI u)), (2, .int x), (3, .int y)]) (st' := [.long 1, .long y.toInt64]) (z' := z) rfl trivial ?_
        refine ww_blk xCC okX6_set 19 1 (ps := []) (pc' := 34) (lv' := [(0, .ref 0), (1, .int (nI u)), (2, .int x), (3, .int y)]) (st' := [.int (nI u), .long 1, .long y.toInt64]) (z' := z) rfl trivial ?_
        refine ww_callSNi xCC okX6_set 20 (ix := 104) (t_X6_mostOf l d u (by omega) _) (by omega) (by decide) xyX6_mostOf xiX6_mostOf (Or.inl (lw_gt_of (List.mem_of_getElem? (i := 980) (by decide +kernel)) rfl)) rfl (rest := [.long 1, .long y.toInt64]) rfl (Nat.le_of_ble_eq_true rfl) rfl (fun v8 z6 h7 => ?_)
        subst h7
        refine ww_blk xCC okX6_set 21 1 (ps := []) (pc' := 38) (lv' := [(0, .ref 0), (1, .int (nI u)), (2, .int x), (3, .int y)]) (st' := [.long ((nI (sMost u)).toInt64), .long 1, .long y.toInt64]) (z' := z) rfl trivial ?_
        refine ww_callSNz xCC okX6_set 22 (ix := 82) (t_X6_in l d y.toInt64 1 ((nI (sMost u)).toInt64) y.toInt 1 ((nI (sMost u)).toInt) (Int32.toInt_toInt64 _) rfl (Int32.toInt_toInt64 _)  _) (by omega) (by decide) xyX6_in xiX6_in (Or.inl (lw_gt_of (List.mem_of_getElem? (i := 962) (by decide +kernel)) rfl)) rfl (rest := []) rfl (Nat.le_of_ble_eq_true rfl) rfl (fun z9 h10 => ?_) (fun z9 h10 => ?_)
        · skip
          have h10 : 1 ≤ y.toInt ∧ y.toInt ≤ (nI (sMost u)).toInt := h10
          have hI9 := sMost_le u
          rw [sTI (k := sMost u) (by omega)] at h10
          have hy9 := h10
          obtain ⟨v, hv, rfl⟩ := sNN (x := y) (n := 1000) (by omega) (by omega)
          refine ww_br xCC okX6_set 23 (P := 1 = 0) (t1 := 44) (t2 := 47) (r := []) rfl (fun q => absurd q (by decide)) (fun _ => ?_)
          refine ww_blk xCC okX6_set 26 3 (ps := []) (pc' := 50) (lv' := [(0, .ref 0), (1, .int (nI u)), (2, .int x), (3, .int (nI v))]) (st' := [.int (nI u), .int x, .ref 0]) (z' := z) rfl trivial ?_
          refine ww_callVIi xCC okX6_set 29 (ix := 108) (t_X6_told l d x (nI u) z r cnt tc hr hw ht) (by omega) (by decide) xyX6_told xiX6_told (Or.inl (lw_gt_of (List.mem_of_getElem? (i := 983) (by decide +kernel)) rfl)) rfl rfl rfl (rest := []) rfl (Nat.le_of_ble_eq_true rfl) rfl (fun vT zT hT => ?_)
          refine ww_blk xCC okX6_set 30 5 (ps := []) (pc' := 59) (lv' := [(4, .int vT), (0, .ref 0), (1, .int (nI u)), (2, .int x), (3, .int (nI v))]) (st' := [.int (nI v), .int x, .int (nI u), .ref 0]) (z' := zT) rfl trivial ?_
          refine ww_callVIv xCC okX6_set 35 (ix := 112) (t_X6_lays l d u v x zT r (RM_K hT.2 hr) (fun j => (hb j).1) (by omega) (by omega) (Or.inr (sIs_4 h74 hI))) (by omega) (by decide) xyX6_lays xiX6_lays (Or.inl (lw_gt_of (List.mem_of_getElem? (i := 1089) (by decide +kernel)) rfl)) rfl rfl rfl (rest := []) rfl (Nat.le_of_ble_eq_true rfl) rfl (fun zL hL => ?_)
          refine ww_blk xCC okX6_set 36 1 (ps := []) (pc' := 64) (lv' := [(4, .int vT), (0, .ref 0), (1, .int (nI u)), (2, .int x), (3, .int (nI v))]) (st' := [.int vT]) (z' := zL) rfl trivial ?_
          subst xhQ
          exact ww_iret xCC okX6_set 37 xhr rfl rfl ⟨_, rfl, (by rw [sSet_y (u := u) (v := v) (by omega) (by omega) hI (by split <;> (rw [sTI (by omega)] at hy9; omega)) (by rw [sTI (k := v) (by omega)] at hy9; omega)]; exact ⟨by rw [hT.1, sTold_y (by omega) hI], hL.1, KW_tr (KW_K hT.2) (KW_L hL.2)⟩)⟩
        · skip
          have h10 : ¬ (1 ≤ y.toInt ∧ y.toInt ≤ (nI (sMost u)).toInt) := h10
          have hI9 := sMost_le u
          rw [sTI (k := sMost u) (by omega)] at h10
          refine ww_br xCC okX6_set 23 (P := 0 = 0) (t1 := 44) (t2 := 47) (r := []) rfl (fun _ => ?_) (fun q => absurd (by decide) q)
          refine ww_blk xCC okX6_set 24 1 (ps := []) (pc' := 46) (lv' := [(0, .ref 0), (1, .int (nI u)), (2, .int x), (3, .int y)]) (st' := [.int (-2)]) (z' := z) rfl trivial ?_
          subst xhQ
          exact ww_iret xCC okX6_set 25 xhr rfl rfl ⟨_, rfl, (by rw [sSet_n (by unfold sSok; rw [sTI (k := u) (by omega)]; rintro ⟨q1, q2, q3, q4, q5⟩; rw [show ((u : Nat) : Int).toNat = u from rfl] at q3 q4 q5; first | exact hI q3 | (split at q4 <;> omega))]; exact ⟨rfl, hr, KW_rf z⟩)⟩
      · skip
        replace c5 : ¬ u = 1 := fun q => c5 ((sEQ (a := u) (b := 1) (by omega) (by omega)).mpr q)
        refine ww_blk xCC okX6_set 18 2 (ps := []) (pc' := 34) (lv' := [(0, .ref 0), (1, .int (nI u)), (2, .int x), (3, .int y)]) (st' := [.int (nI u), .long 0, .long y.toInt64]) (z' := z) rfl trivial ?_
        refine ww_callSNi xCC okX6_set 20 (ix := 104) (t_X6_mostOf l d u (by omega) _) (by omega) (by decide) xyX6_mostOf xiX6_mostOf (Or.inl (lw_gt_of (List.mem_of_getElem? (i := 980) (by decide +kernel)) rfl)) rfl (rest := [.long 0, .long y.toInt64]) rfl (Nat.le_of_ble_eq_true rfl) rfl (fun v16 z14 h15 => ?_)
        subst h15
        refine ww_blk xCC okX6_set 21 1 (ps := []) (pc' := 38) (lv' := [(0, .ref 0), (1, .int (nI u)), (2, .int x), (3, .int y)]) (st' := [.long ((nI (sMost u)).toInt64), .long 0, .long y.toInt64]) (z' := z) rfl trivial ?_
        refine ww_callSNz xCC okX6_set 22 (ix := 82) (t_X6_in l d y.toInt64 0 ((nI (sMost u)).toInt64) y.toInt 0 ((nI (sMost u)).toInt) (Int32.toInt_toInt64 _) rfl (Int32.toInt_toInt64 _)  _) (by omega) (by decide) xyX6_in xiX6_in (Or.inl (lw_gt_of (List.mem_of_getElem? (i := 962) (by decide +kernel)) rfl)) rfl (rest := []) rfl (Nat.le_of_ble_eq_true rfl) rfl (fun z17 h18 => ?_) (fun z17 h18 => ?_)
        · skip
          have h18 : 0 ≤ y.toInt ∧ y.toInt ≤ (nI (sMost u)).toInt := h18
          have hI9 := sMost_le u
          rw [sTI (k := sMost u) (by omega)] at h18
          have hy9 := h18
          obtain ⟨v, hv, rfl⟩ := sNN (x := y) (n := 1000) (by omega) (by omega)
          refine ww_br xCC okX6_set 23 (P := 1 = 0) (t1 := 44) (t2 := 47) (r := []) rfl (fun q => absurd q (by decide)) (fun _ => ?_)
          refine ww_blk xCC okX6_set 26 3 (ps := []) (pc' := 50) (lv' := [(0, .ref 0), (1, .int (nI u)), (2, .int x), (3, .int (nI v))]) (st' := [.int (nI u), .int x, .ref 0]) (z' := z) rfl trivial ?_
          refine ww_callVIi xCC okX6_set 29 (ix := 108) (t_X6_told l d x (nI u) z r cnt tc hr hw ht) (by omega) (by decide) xyX6_told xiX6_told (Or.inl (lw_gt_of (List.mem_of_getElem? (i := 983) (by decide +kernel)) rfl)) rfl rfl rfl (rest := []) rfl (Nat.le_of_ble_eq_true rfl) rfl (fun vT zT hT => ?_)
          refine ww_blk xCC okX6_set 30 5 (ps := []) (pc' := 59) (lv' := [(4, .int vT), (0, .ref 0), (1, .int (nI u)), (2, .int x), (3, .int (nI v))]) (st' := [.int (nI v), .int x, .int (nI u), .ref 0]) (z' := zT) rfl trivial ?_
          refine ww_callVIv xCC okX6_set 35 (ix := 112) (t_X6_lays l d u v x zT r (RM_K hT.2 hr) (fun j => (hb j).1) (by omega) (by omega) (Or.inr (sIs_4 h74 hI))) (by omega) (by decide) xyX6_lays xiX6_lays (Or.inl (lw_gt_of (List.mem_of_getElem? (i := 1089) (by decide +kernel)) rfl)) rfl rfl rfl (rest := []) rfl (Nat.le_of_ble_eq_true rfl) rfl (fun zL hL => ?_)
          refine ww_blk xCC okX6_set 36 1 (ps := []) (pc' := 64) (lv' := [(4, .int vT), (0, .ref 0), (1, .int (nI u)), (2, .int x), (3, .int (nI v))]) (st' := [.int vT]) (z' := zL) rfl trivial ?_
          subst xhQ
          exact ww_iret xCC okX6_set 37 xhr rfl rfl ⟨_, rfl, (by rw [sSet_y (u := u) (v := v) (by omega) (by omega) hI (by split <;> (rw [sTI (by omega)] at hy9; omega)) (by rw [sTI (k := v) (by omega)] at hy9; omega)]; exact ⟨by rw [hT.1, sTold_y (by omega) hI], hL.1, KW_tr (KW_K hT.2) (KW_L hL.2)⟩)⟩
        · skip
          have h18 : ¬ (0 ≤ y.toInt ∧ y.toInt ≤ (nI (sMost u)).toInt) := h18
          have hI9 := sMost_le u
          rw [sTI (k := sMost u) (by omega)] at h18
          refine ww_br xCC okX6_set 23 (P := 0 = 0) (t1 := 44) (t2 := 47) (r := []) rfl (fun _ => ?_) (fun q => absurd (by decide) q)
          refine ww_blk xCC okX6_set 24 1 (ps := []) (pc' := 46) (lv' := [(0, .ref 0), (1, .int (nI u)), (2, .int x), (3, .int y)]) (st' := [.int (-2)]) (z' := z) rfl trivial ?_
          subst xhQ
          exact ww_iret xCC okX6_set 25 xhr rfl rfl ⟨_, rfl, (by rw [sSet_n (by unfold sSok; rw [sTI (k := u) (by omega)]; rintro ⟨q1, q2, q3, q4, q5⟩; rw [show ((u : Nat) : Int).toNat = u from rfl] at q3 q4 q5; first | exact hI q3 | (split at q4 <;> omega))]; exact ⟨rfl, hr, KW_rf z⟩)⟩
    · skip
      rw [hI.2]
      replace hI := hI.1
      refine ww_br xCC okX6_set 10 (P := 0 = 0) (t1 := 44) (t2 := 21) (r := []) rfl (fun _ => ?_) (fun q => absurd (by decide) q)
      refine ww_blk xCC okX6_set 24 1 (ps := []) (pc' := 46) (lv' := [(0, .ref 0), (1, .int (nI u)), (2, .int x), (3, .int y)]) (st' := [.int (-2)]) (z' := z) rfl trivial ?_
      subst xhQ
      exact ww_iret xCC okX6_set 25 xhr rfl rfl ⟨_, rfl, (by rw [sSet_n (by unfold sSok; rw [sTI (k := u) (by omega)]; rintro ⟨q1, q2, q3, q4, q5⟩; rw [show ((u : Nat) : Int).toNat = u from rfl] at q3 q4 q5; first | exact hI q3 | (split at q4 <;> omega))]; exact ⟨rfl, hr, KW_rf z⟩)⟩
  · skip
    have h2 : ¬ (0 ≤ w.toInt ∧ w.toInt ≤ 7) := h2
    refine ww_br xCC okX6_set 5 (P := 0 = 0) (t1 := 44) (t2 := 12) (r := []) rfl (fun _ => ?_) (fun q => absurd (by decide) q)
    refine ww_blk xCC okX6_set 24 1 (ps := []) (pc' := 46) (lv' := [(0, .ref 0), (1, .int w), (2, .int x), (3, .int y)]) (st' := [.int (-2)]) (z' := z) rfl trivial ?_
    subst xhQ
    exact ww_iret xCC okX6_set 25 xhr rfl rfl ⟨_, rfl, (by rw [sSet_n (by unfold sSok; rintro ⟨q1, q2, q3, q4, q5⟩; omega)]; exact ⟨rfl, hr, KW_rf z⟩)⟩
