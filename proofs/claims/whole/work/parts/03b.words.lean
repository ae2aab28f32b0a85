/-- the tables' words that hold in every state that a call can come to -/
def lw_gt : List Cond := lw_tbl.filter goodWord
theorem lw_gt_of {w : Cond} (h : w ∈ lw_tbl) (hg : goodWord w = true) : w ∈ lw_gt := List.mem_filter.mpr ⟨h, hg⟩
theorem lw_mem {i : Nat} {w : Cond} (h : lw_tbl[i]? = some w) (hg : goodWord w = true) : w ∈ lw_gt := lw_gt_of (List.mem_of_getElem? h) hg
theorem lw_u0 : ∀ w ∈ u_ws RX0 TX0 15, w ∈ lw_gt := fun w h => lw_gt_of ((by decide +kernel : ∀ w ∈ u_ws RX0 TX0 15, w ∈ lw_tbl) w h) (List.all_eq_true.mp (by decide +kernel : (u_ws RX0 TX0 15).all goodWord = true) w h)
theorem lw_u1 : ∀ w ∈ u_ws RX1 TX1 7, w ∈ lw_gt := fun w h => lw_gt_of ((by decide +kernel : ∀ w ∈ u_ws RX1 TX1 7, w ∈ lw_tbl) w h) (List.all_eq_true.mp (by decide +kernel : (u_ws RX1 TX1 7).all goodWord = true) w h)
theorem lw_u2 : ∀ w ∈ u_ws RX2 TX2 3, w ∈ lw_gt := fun w h => lw_gt_of ((by decide +kernel : ∀ w ∈ u_ws RX2 TX2 3, w ∈ lw_tbl) w h) (List.all_eq_true.mp (by decide +kernel : (u_ws RX2 TX2 3).all goodWord = true) w h)
theorem lw_u3 : ∀ w ∈ u_ws RX3 TX3 7, w ∈ lw_gt := fun w h => lw_gt_of ((by decide +kernel : ∀ w ∈ u_ws RX3 TX3 7, w ∈ lw_tbl) w h) (List.all_eq_true.mp (by decide +kernel : (u_ws RX3 TX3 7).all goodWord = true) w h)
theorem lw_u4 : ∀ w ∈ u_ws RX4 TX4 4, w ∈ lw_gt := fun w h => lw_gt_of ((by decide +kernel : ∀ w ∈ u_ws RX4 TX4 4, w ∈ lw_tbl) w h) (List.all_eq_true.mp (by decide +kernel : (u_ws RX4 TX4 4).all goodWord = true) w h)
theorem lw_u5 : ∀ w ∈ u_ws RX5 TX5 8, w ∈ lw_gt := fun w h => lw_gt_of ((by decide +kernel : ∀ w ∈ u_ws RX5 TX5 8, w ∈ lw_tbl) w h) (List.all_eq_true.mp (by decide +kernel : (u_ws RX5 TX5 8).all goodWord = true) w h)
theorem lw_u6 : ∀ w ∈ u_ws RX6 TX6 50, w ∈ lw_gt := fun w h => lw_gt_of ((by decide +kernel : ∀ w ∈ u_ws RX6 TX6 50, w ∈ lw_tbl) w h) (List.all_eq_true.mp (by decide +kernel : (u_ws RX6 TX6 50).all goodWord = true) w h)
/-- a class of the worlds: its words, its fields' types and names -/
theorem lw_cls {a : Nat} {C : String} {T : u_T} {N : Nat} (h : classes[a]? = some (C, T, N)) : (∀ w ∈ u_ws C T N, w ∈ lw_gt) ∧ (∃ ty : Nat → FieldType, ∀ k, k < N → parseFieldDescriptor (T k).2.2.1 = some (ty k)) ∧ (∀ i, i < N → ∀ j, j < N → i ≠ j → (T i).2.1 ≠ (T j).2.1) := by
  match a, h with
  | 0, h => cases h; exact ⟨lw_u0, ⟨tyX0, tyX0_ok⟩, nmX0⟩
  | 1, h => cases h; exact ⟨lw_u1, ⟨tyX1, tyX1_ok⟩, nmX1⟩
  | 2, h => cases h; exact ⟨lw_u2, ⟨tyX2, tyX2_ok⟩, nmX2⟩
  | 3, h => cases h; exact ⟨lw_u3, ⟨tyX3, tyX3_ok⟩, nmX3⟩
  | 4, h => cases h; exact ⟨lw_u4, ⟨tyX4, tyX4_ok⟩, nmX4⟩
  | 5, h => cases h; exact ⟨lw_u5, ⟨tyX5, tyX5_ok⟩, nmX5⟩
  | 6, h => cases h; exact ⟨lw_u6, ⟨tyX6, tyX6_ok⟩, nmX6⟩
  | a + 7, h => simp [classes] at h
