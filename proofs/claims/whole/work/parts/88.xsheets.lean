/-! LawsLapse's sheets -/
def UA : List Nat := [48, 49, 50, 51, 52, 53, 54, 55]
def esS (s : Nat) : List Nat := [48 + 2 * s, 49 + 2 * s]
theorem sX4 {x : Int32} (h : 0 ≤ x.toInt ∧ x.toInt ≤ 3) : x = 0 ∨ x = 1 ∨ x = 2 ∨ x = 3 := by
  have e : x.toInt = 0 ∨ x.toInt = 1 ∨ x.toInt = 2 ∨ x.toInt = 3 := by omega
  rcases e with e | e | e | e
  · exact Or.inl (Int32.toInt_inj.mp e)
  · exact Or.inr (Or.inl (Int32.toInt_inj.mp e))
  · exact Or.inr (Or.inr (Or.inl (Int32.toInt_inj.mp e)))
  · exact Or.inr (Or.inr (Or.inr (Int32.toInt_inj.mp e)))
/-- a sheet at a place -/
def SY (z : xMem) (a : Nat) (t : sSh) : Prop := t.1 ≤ 3 ∧ z.1 a 0 = cI t.1 ∧ (t.1 = 0 ∨ (t.2.1 ≤ 40 ∧ z.1 a 1 = nI t.2.1 ∧ ∀ i, i < t.2.1 → z.1 (a + 1) i = t.2.2 i))
def SX (z : xMem) (T : Nat → sSh) : Prop := ∀ s, s < 4 → SY z (48 + 2 * s) (T s)
theorem SY_of {z z' : xMem} {a b : Nat} {t : sSh} (h0 : z'.1 b = z.1 a) (h1 : z'.1 (b + 1) = z.1 (a + 1)) (h : SY z a t) : SY z' b t := by
  unfold SY at h ⊢
  rw [h0, h1]
  exact h
theorem SX_new {z zB zE : xMem} {T : Nat → sSh} {s : Nat} {t : sSh} {rw : Bool} (hs : s < 4) (hT : SX z T) (hz : zE = xBack (esS s) rw z zB) (h : SY zB 0 t) : SX zE (sShU T s t) ∧ KU UA z zE := by
  subst hz
  have h1 : ∀ q, q ≠ 48 + 2 * s → q ≠ 49 + 2 * s → (xBack (esS s) rw z zB).1 q = z.1 q := fun q h1 h2 => xBack_no (xIx_no (by simp only [esS, List.mem_cons, List.not_mem_nil, or_false, not_or]; exact ⟨h1, h2⟩) 0)
  refine ⟨fun u hu => ?_, fun q hq => ?_⟩
  · by_cases e : u = s
    · subst e
      rw [show sShU T u t u = t by simp [sShU]]
      refine SY_of (a := 0) ?_ ?_ h
      · exact xBack_at (by simp [esS, xIx])
      · exact xBack_at (by simp only [esS, xIx]; rw [if_neg (by omega), if_pos (by omega)])
    · rw [show sShU T s t u = T u by simp [sShU, e]]
      refine SY_of ?_ ?_ (hT u hu)
      · exact h1 _ (by omega) (by omega)
      · exact h1 _ (by omega) (by omega)
  · simp only [UA, List.mem_cons, List.not_mem_nil, or_false, not_or] at hq
    exact h1 q (by omega) (by omega)
theorem sx_m {zB : xMem} {n : Nat} (h : zB.1 0 0 = (-1 : Int32) ∧ zB.1 0 1 = nI n ∧ ∀ j, j < 40 → zB.1 1 j = 0) : SY zB 0 (0, 0, fun _ => 0) := ⟨by decide, h.1, Or.inl rfl⟩
theorem sx_y {zB : xMem} {g n : Nat} (hg : g < 3) (hn : n ≤ 40) (h : zB.1 0 0 = nI g ∧ zB.1 0 1 = nI n ∧ ∀ j, j < 40 → zB.1 1 j = 0) : SY zB 0 (g + 1, n, fun _ => 0) := ⟨by show g + 1 ≤ 3; omega, h.1, Or.inr ⟨hn, h.2.1, fun i hi => h.2.2 i (Nat.lt_of_lt_of_le hi hn)⟩⟩
set_option maxHeartbeats 4000000 in
set_option maxRecDepth 20000 in
theorem t_X5_sheetAt (l : Launch) (d : Nat) (x : Int32) (z : xMem) : XM l (d + 1) yX5_sheetAt cX5_sheetAt 2 (some (.object "LawsLapse$Sheet")) shX [.ref 0, .int x] z (fun r z' => z' = z ∧ ((¬ (0 ≤ x.toInt ∧ x.toInt ≤ 3) ∧ r = some .null) ∨ (x = nI 0 ∧ r = some (.ref 48)) ∨ (x = nI 1 ∧ r = some (.ref 50)) ∨ (x = nI 2 ∧ r = some (.ref 52)) ∨ (x = nI 3 ∧ r = some (.ref 54)))) := by
  refine XM.of (by decide) (Nat.le_of_ble_eq_true rfl) (fun xp xe xs xm xar xbl xme xc xD xcs xad xAA xCC xhr => ?_)
  generalize xhQ : MQ xbl _ xar xs 0 0 xAA = xQ
  show ww xp l xe (xRm (d + 1)) xs xm xar xbl xme xc 2 xD xcs xad shX xAA xQ 0 [(0, .ref 0), (1, .int x)] [] z
  refine ww_blk xCC okX5_sheetAt 0 3 (ps := []) (pc' := 3) (lv' := [(0, .ref 0), (1, .int x)]) (st' := [.int 3, .int 0, .int x]) (z' := z) rfl trivial ?_
  refine ww_callSNz xCC okX5_sheetAt 3 (ix := 52) (t_X5_within l d x 0 3 _) (by omega) (by decide) xyX5_within xiX5_within (Or.inl (lw_gt_of (List.mem_of_getElem? (i := 327) (by decide +kernel)) rfl)) rfl (rest := []) rfl (Nat.le_of_ble_eq_true rfl) rfl (fun z1 hW => ?_) (fun z1 hW => ?_)
  · skip
    have hW : 0 ≤ x.toInt ∧ x.toInt ≤ 3 := hW
    refine ww_br xCC okX5_sheetAt 4 (P := 1 = 0) (t1 := 18) (t2 := 9) (r := []) rfl (fun q => absurd q (by decide)) (fun _ => ?_)
    rcases sX4 hW with rfl | rfl | rfl | rfl
    · skip
      refine ww_blk xCC okX5_sheetAt 5 5 (ps := [vp_in 0 4]) (pc' := 19) (lv' := [(0, .ref 0), (1, .int 0)]) (st' := [.ref 48]) (z' := z) rfl (show vp_in 0 4 from (by unfold vp_in; decide)) ?_
      subst xhQ
      exact ww_aret xCC okX5_sheetAt 11 xhr (Or.inl ⟨_, rfl⟩) (Or.inr ⟨_, rfl⟩) rfl ⟨rfl, Or.inr (Or.inl ⟨rfl, rfl⟩)⟩
    · skip
      refine ww_blk xCC okX5_sheetAt 5 5 (ps := [vp_in 1 4]) (pc' := 19) (lv' := [(0, .ref 0), (1, .int 1)]) (st' := [.ref 50]) (z' := z) rfl (show vp_in 1 4 from (by unfold vp_in; decide)) ?_
      subst xhQ
      exact ww_aret xCC okX5_sheetAt 11 xhr (Or.inl ⟨_, rfl⟩) (Or.inr ⟨_, rfl⟩) rfl ⟨rfl, Or.inr (Or.inr (Or.inl ⟨rfl, rfl⟩))⟩
    · skip
      refine ww_blk xCC okX5_sheetAt 5 5 (ps := [vp_in 2 4]) (pc' := 19) (lv' := [(0, .ref 0), (1, .int 2)]) (st' := [.ref 52]) (z' := z) rfl (show vp_in 2 4 from (by unfold vp_in; decide)) ?_
      subst xhQ
      exact ww_aret xCC okX5_sheetAt 11 xhr (Or.inl ⟨_, rfl⟩) (Or.inr ⟨_, rfl⟩) rfl ⟨rfl, Or.inr (Or.inr (Or.inr (Or.inl ⟨rfl, rfl⟩)))⟩
    · skip
      refine ww_blk xCC okX5_sheetAt 5 5 (ps := [vp_in 3 4]) (pc' := 19) (lv' := [(0, .ref 0), (1, .int 3)]) (st' := [.ref 54]) (z' := z) rfl (show vp_in 3 4 from (by unfold vp_in; decide)) ?_
      subst xhQ
      exact ww_aret xCC okX5_sheetAt 11 xhr (Or.inl ⟨_, rfl⟩) (Or.inr ⟨_, rfl⟩) rfl ⟨rfl, Or.inr (Or.inr (Or.inr (Or.inr ⟨rfl, rfl⟩)))⟩
  · skip
    have hW : ¬ (0 ≤ x.toInt ∧ x.toInt ≤ 3) := hW
    refine ww_br xCC okX5_sheetAt 4 (P := 0 = 0) (t1 := 18) (t2 := 9) (r := []) rfl (fun _ => ?_) (fun q => absurd (by decide) q)
    refine ww_blk xCC okX5_sheetAt 10 1 (ps := []) (pc' := 19) (lv' := [(0, .ref 0), (1, .int x)]) (st' := [.null]) (z' := z) rfl trivial ?_
    subst xhQ
    exact ww_aret xCC okX5_sheetAt 11 xhr (Or.inl ⟨_, rfl⟩) (Or.inl rfl) rfl ⟨rfl, Or.inl ⟨(by omega), rfl⟩⟩

set_option maxHeartbeats 4000000 in
set_option maxRecDepth 20000 in
theorem t_X5_sheet (l : Launch) (d : Nat) (x y v : Int32) (z : xMem) (T : Nat → sSh) (hT : SX z T) : XMi l (d + 2) yX5_sheet cX5_sheet 5 (some .int) shX [.ref 0, .int x, .int y, .int v] z (fun v9 z' => v9 = (sSheet T x y v).1 ∧ SX z' (sSheet T x y v).2 ∧ KU UA z z') := by
  refine XM.of (by decide) (Nat.le_of_ble_eq_true rfl) (fun xp xe xs xm xar xbl xme xc xD xcs xad xAA xCC xhr => ?_)
  generalize xhQ : MQ xbl _ xar xs 0 0 xAA = xQ
  show ww xp l xe (xRm (d + 2)) xs xm xar xbl xme xc 5 xD xcs xad shX xAA xQ 0 [(0, .ref 0), (1, .int x), (2, .int y), (3, .int v)] [] z
  refine ww_blk xCC okX5_sheet 0 2 (ps := []) (pc' := 2) (lv' := [(0, .ref 0), (1, .int x), (2, .int y), (3, .int v)]) (st' := [.int x, .ref 0]) (z' := z) rfl trivial ?_
  refine ww_callVI xCC okX5_sheet 2 (ix := 192) (t_X5_sheetAt l d x z) (by omega) (by decide) xyX5_sheetAt xiX5_sheetAt (Or.inl (lw_gt_of (List.mem_of_getElem? (i := 692) (by decide +kernel)) rfl)) rfl rfl rfl (rest := []) rfl (Nat.le_of_ble_eq_true rfl) rfl (fun r9 z9 h9 => ?_)
  obtain ⟨hz9, hr9⟩ := h9
  rw [hz9]
  rcases hr9 with ⟨hx, hr9⟩ | ⟨hx, hr9⟩ | ⟨hx, hr9⟩ | ⟨hx, hr9⟩ | ⟨hx, hr9⟩
  · skip
    rw [hr9]
    show ww xp l xe (xRm (d + 2)) xs xm xar xbl xme xc 5 xD xcs xad shX xAA xQ 5 [(0, .ref 0), (1, .int x), (2, .int y), (3, .int v)] [.null] z
    refine ww_blk xCC okX5_sheet 3 3 (ps := []) (pc' := 21) (lv' := [(4, .null), (0, .ref 0), (1, .int x), (2, .int y), (3, .int v)]) (st' := []) (z' := z) rfl trivial ?_
    refine ww_blk xCC okX5_sheet 11 1 (ps := []) (pc' := 23) (lv' := [(4, .null), (0, .ref 0), (1, .int x), (2, .int y), (3, .int v)]) (st' := [.int (-2)]) (z' := z) rfl trivial ?_
    subst xhQ
    exact ww_iret xCC okX5_sheet 12 xhr rfl rfl ⟨_, rfl, (by rw [sSheet_b (by omega)]; exact ⟨rfl, hT, KU_rf z⟩)⟩
  · skip
    rw [hr9]
    subst hx
    show ww xp l xe (xRm (d + 2)) xs xm xar xbl xme xc 5 xD xcs xad shX xAA xQ 5 [(0, .ref 0), (1, .int (nI 0)), (2, .int y), (3, .int v)] [.ref 48] z
    refine ww_blk xCC okX5_sheet 3 3 (ps := []) (pc' := 12) (lv' := [(4, .ref 48), (0, .ref 0), (1, .int (nI 0)), (2, .int y), (3, .int v)]) (st' := []) (z' := z) rfl trivial ?_
    refine ww_blk xCC okX5_sheet 6 3 (ps := []) (pc' := 15) (lv' := [(4, .ref 48), (0, .ref 0), (1, .int (nI 0)), (2, .int y), (3, .int v)]) (st' := [.int 2, .int (-1), .int y]) (z' := z) rfl trivial ?_
    refine ww_callSNz xCC okX5_sheet 9 (ix := 52) (t_X5_within l d y (-1) 2 _) (by omega) (by decide) xyX5_within xiX5_within (Or.inl (lw_gt_of (List.mem_of_getElem? (i := 327) (by decide +kernel)) rfl)) rfl (rest := []) rfl (Nat.le_of_ble_eq_true rfl) rfl (fun z3 hW => ?_) (fun z3 hW => ?_)
    · skip
      have hW : (-1) ≤ y.toInt ∧ y.toInt ≤ 2 := hW
      refine ww_br xCC okX5_sheet 10 (P := 1 = 0) (t1 := 21) (t2 := 24) (r := []) rfl (fun q => absurd q (by decide)) (fun _ => ?_)
      refine ww_blk xCC okX5_sheet 13 2 (ps := []) (pc' := 26) (lv' := [(4, .ref 48), (0, .ref 0), (1, .int (nI 0)), (2, .int y), (3, .int v)]) (st' := [.int (-1), .int y]) (z' := z) rfl trivial ?_
      refine ww_br xCC okX5_sheet 15 (P := y = (-1)) (t1 := 29) (t2 := 38) (r := []) rfl (fun c5 => ?_) (fun c5 => ?_)
      · skip
        have hy : y = -1 := c5
        subst hy
        refine ww_blk xCC okX5_sheet 16 3 (ps := []) (pc' := 33) (lv' := [(4, .ref 48), (0, .ref 0), (1, .int (nI 0)), (2, .int (-1)), (3, .int v)]) (st' := [.int 0, .int (-1), .ref 48]) (z' := z) rfl trivial ?_
        refine ww_callVEv xCC okX5_sheet 19 (ix := 219) (t_X2_become l d (-1) 0 (by decide) (xPull (esS 0) z)) (by omega) (by decide) xyX2_become xiX2_become (Or.inr (List.mem_of_getElem? (i := 724) (by decide +kernel))) (by decide +kernel) (by decide) (fun q => by cases q) (q0 := 48) rfl rfl rfl rfl (rest := []) rfl (Nat.le_of_ble_eq_true rfl) rfl (fun zB hB => ?_)
        obtain ⟨zE, hz⟩ : ∃ y, y = xBack (esS 0) (xHasRaw shS) z zB := ⟨_, rfl⟩
        rw [← hz]
        have hS := SX_new (s := 0) (by decide) hT hz (sx_m hB)
        refine ww_blk xCC okX5_sheet 20 1 (ps := []) (pc' := 37) (lv' := [(4, .ref 48), (0, .ref 0), (1, .int (nI 0)), (2, .int (-1)), (3, .int v)]) (st' := [.int 1]) (z' := zE) rfl trivial ?_
        subst xhQ
        exact ww_iret xCC okX5_sheet 21 xhr rfl rfl ⟨_, rfl, (by rw [sSheet_m (by decide) (by decide)]; exact ⟨rfl, hS.1, hS.2⟩)⟩
      · skip
        have hy0 : 0 ≤ y.toInt := by have : ¬ y.toInt = -1 := fun q => c5 (Int32.toInt_inj.mp q); omega
        obtain ⟨g, hg, rfl⟩ := sNN (x := y) (n := 3) hy0 (by omega)
        refine ww_blk xCC okX5_sheet 22 2 (ps := []) (pc' := 41) (lv' := [(4, .ref 48), (0, .ref 0), (1, .int (nI 0)), (2, .int (nI g)), (3, .int v)]) (st' := [.int 40, .int v]) (z' := z) rfl trivial ?_
        refine ww_br xCC okX5_sheet 24 (P := v ≤ 40) (t1 := 47) (t2 := 44) (r := []) rfl (fun c7 => ?_) (fun c7 => ?_)
        · skip
          have h41 : v.toInt ≤ 40 := Int32.le_iff_toInt_le.mp c7
          refine ww_blk xCC okX5_sheet 27 1 (ps := []) (pc' := 48) (lv' := [(4, .ref 48), (0, .ref 0), (1, .int (nI 0)), (2, .int (nI g)), (3, .int v)]) (st' := [.int v]) (z' := z) rfl trivial ?_
          refine ww_br xCC okX5_sheet 28 (P := 0 ≤ v) (t1 := 54) (t2 := 51) (r := []) rfl (fun c8 => ?_) (fun c8 => ?_)
          · skip
            have h48 : 0 ≤ v.toInt := Int32.le_iff_toInt_le.mp c8
            obtain ⟨n, hn, rfl⟩ := sNN (x := v) (n := 41) h48 (by omega)
            refine ww_blk xCC okX5_sheet 31 3 (ps := []) (pc' := 58) (lv' := [(4, .ref 48), (0, .ref 0), (1, .int (nI 0)), (2, .int (nI g)), (3, .int (nI n))]) (st' := [.int (nI n), .int (nI g), .ref 48]) (z' := z) rfl trivial ?_
            refine ww_callVEv xCC okX5_sheet 34 (ix := 219) (t_X2_become l d (nI g) n (by omega) (xPull (esS 0) z)) (by omega) (by decide) xyX2_become xiX2_become (Or.inr (List.mem_of_getElem? (i := 724) (by decide +kernel))) (by decide +kernel) (by decide) (fun q => by cases q) (q0 := 48) rfl rfl rfl rfl (rest := []) rfl (Nat.le_of_ble_eq_true rfl) rfl (fun zB hB => ?_)
            obtain ⟨zE, hz⟩ : ∃ y, y = xBack (esS 0) (xHasRaw shS) z zB := ⟨_, rfl⟩
            rw [← hz]
            have hS := SX_new (s := 0) (by decide) hT hz (sx_y (by omega) (by omega) hB)
            refine ww_blk xCC okX5_sheet 35 1 (ps := []) (pc' := 62) (lv' := [(4, .ref 48), (0, .ref 0), (1, .int (nI 0)), (2, .int (nI g)), (3, .int (nI n))]) (st' := [.int 1]) (z' := zE) rfl trivial ?_
            subst xhQ
            exact ww_iret xCC okX5_sheet 36 xhr rfl rfl ⟨_, rfl, (by rw [sSheet_y (by decide) (by omega) (by omega)]; exact ⟨rfl, hS.1, hS.2⟩)⟩
          · skip
            have h48 : ¬ 0 ≤ v.toInt := fun q => c8 (Int32.le_iff_toInt_le.mpr q)
            refine ww_blk xCC okX5_sheet 29 1 (ps := []) (pc' := 53) (lv' := [(4, .ref 48), (0, .ref 0), (1, .int (nI 0)), (2, .int (nI g)), (3, .int v)]) (st' := [.int (-14)]) (z' := z) rfl trivial ?_
            subst xhQ
            exact ww_iret xCC okX5_sheet 30 xhr rfl rfl ⟨_, rfl, (by rw [sSheet_14 (by decide) (by omega) (by omega)]; exact ⟨rfl, hT, KU_rf z⟩)⟩
        · skip
          have h41 : ¬ v.toInt ≤ 40 := fun q => c7 (Int32.le_iff_toInt_le.mpr q)
          refine ww_blk xCC okX5_sheet 25 1 (ps := []) (pc' := 46) (lv' := [(4, .ref 48), (0, .ref 0), (1, .int (nI 0)), (2, .int (nI g)), (3, .int v)]) (st' := [.int (-2)]) (z' := z) rfl trivial ?_
          subst xhQ
          exact ww_iret xCC okX5_sheet 26 xhr rfl rfl ⟨_, rfl, (by rw [sSheet_b (by have q9 := sTI (k := 0) (by decide); omega)]; exact ⟨rfl, hT, KU_rf z⟩)⟩
    · skip
      have hW : ¬ ((-1) ≤ y.toInt ∧ y.toInt ≤ 2) := hW
      refine ww_br xCC okX5_sheet 10 (P := 0 = 0) (t1 := 21) (t2 := 24) (r := []) rfl (fun _ => ?_) (fun q => absurd (by decide) q)
      refine ww_blk xCC okX5_sheet 11 1 (ps := []) (pc' := 23) (lv' := [(4, .ref 48), (0, .ref 0), (1, .int (nI 0)), (2, .int y), (3, .int v)]) (st' := [.int (-2)]) (z' := z) rfl trivial ?_
      subst xhQ
      exact ww_iret xCC okX5_sheet 12 xhr rfl rfl ⟨_, rfl, (by rw [sSheet_b (by have q9 := sTI (k := 0) (by decide); omega)]; exact ⟨rfl, hT, KU_rf z⟩)⟩
  · skip
    rw [hr9]
    subst hx
    show ww xp l xe (xRm (d + 2)) xs xm xar xbl xme xc 5 xD xcs xad shX xAA xQ 5 [(0, .ref 0), (1, .int (nI 1)), (2, .int y), (3, .int v)] [.ref 50] z
    refine ww_blk xCC okX5_sheet 3 3 (ps := []) (pc' := 12) (lv' := [(4, .ref 50), (0, .ref 0), (1, .int (nI 1)), (2, .int y), (3, .int v)]) (st' := []) (z' := z) rfl trivial ?_
    refine ww_blk xCC okX5_sheet 6 3 (ps := []) (pc' := 15) (lv' := [(4, .ref 50), (0, .ref 0), (1, .int (nI 1)), (2, .int y), (3, .int v)]) (st' := [.int 2, .int (-1), .int y]) (z' := z) rfl trivial ?_
    refine ww_callSNz xCC okX5_sheet 9 (ix := 52) (t_X5_within l d y (-1) 2 _) (by omega) (by decide) xyX5_within xiX5_within (Or.inl (lw_gt_of (List.mem_of_getElem? (i := 327) (by decide +kernel)) rfl)) rfl (rest := []) rfl (Nat.le_of_ble_eq_true rfl) rfl (fun z11 hW => ?_) (fun z11 hW => ?_)
    · skip
      have hW : (-1) ≤ y.toInt ∧ y.toInt ≤ 2 := hW
      refine ww_br xCC okX5_sheet 10 (P := 1 = 0) (t1 := 21) (t2 := 24) (r := []) rfl (fun q => absurd q (by decide)) (fun _ => ?_)
      refine ww_blk xCC okX5_sheet 13 2 (ps := []) (pc' := 26) (lv' := [(4, .ref 50), (0, .ref 0), (1, .int (nI 1)), (2, .int y), (3, .int v)]) (st' := [.int (-1), .int y]) (z' := z) rfl trivial ?_
      refine ww_br xCC okX5_sheet 15 (P := y = (-1)) (t1 := 29) (t2 := 38) (r := []) rfl (fun c13 => ?_) (fun c13 => ?_)
      · skip
        have hy : y = -1 := c13
        subst hy
        refine ww_blk xCC okX5_sheet 16 3 (ps := []) (pc' := 33) (lv' := [(4, .ref 50), (0, .ref 0), (1, .int (nI 1)), (2, .int (-1)), (3, .int v)]) (st' := [.int 0, .int (-1), .ref 50]) (z' := z) rfl trivial ?_
        refine ww_callVEv xCC okX5_sheet 19 (ix := 219) (t_X2_become l d (-1) 0 (by decide) (xPull (esS 1) z)) (by omega) (by decide) xyX2_become xiX2_become (Or.inr (List.mem_of_getElem? (i := 724) (by decide +kernel))) (by decide +kernel) (by decide) (fun q => by cases q) (q0 := 50) rfl rfl rfl rfl (rest := []) rfl (Nat.le_of_ble_eq_true rfl) rfl (fun zB hB => ?_)
        obtain ⟨zE, hz⟩ : ∃ y, y = xBack (esS 1) (xHasRaw shS) z zB := ⟨_, rfl⟩
        rw [← hz]
        have hS := SX_new (s := 1) (by decide) hT hz (sx_m hB)
        refine ww_blk xCC okX5_sheet 20 1 (ps := []) (pc' := 37) (lv' := [(4, .ref 50), (0, .ref 0), (1, .int (nI 1)), (2, .int (-1)), (3, .int v)]) (st' := [.int 1]) (z' := zE) rfl trivial ?_
        subst xhQ
        exact ww_iret xCC okX5_sheet 21 xhr rfl rfl ⟨_, rfl, (by rw [sSheet_m (by decide) (by decide)]; exact ⟨rfl, hS.1, hS.2⟩)⟩
      · skip
        have hy0 : 0 ≤ y.toInt := by have : ¬ y.toInt = -1 := fun q => c13 (Int32.toInt_inj.mp q); omega
        obtain ⟨g, hg, rfl⟩ := sNN (x := y) (n := 3) hy0 (by omega)
        refine ww_blk xCC okX5_sheet 22 2 (ps := []) (pc' := 41) (lv' := [(4, .ref 50), (0, .ref 0), (1, .int (nI 1)), (2, .int (nI g)), (3, .int v)]) (st' := [.int 40, .int v]) (z' := z) rfl trivial ?_
        refine ww_br xCC okX5_sheet 24 (P := v ≤ 40) (t1 := 47) (t2 := 44) (r := []) rfl (fun c15 => ?_) (fun c15 => ?_)
        · skip
          have h41 : v.toInt ≤ 40 := Int32.le_iff_toInt_le.mp c15
          refine ww_blk xCC okX5_sheet 27 1 (ps := []) (pc' := 48) (lv' := [(4, .ref 50), (0, .ref 0), (1, .int (nI 1)), (2, .int (nI g)), (3, .int v)]) (st' := [.int v]) (z' := z) rfl trivial ?_
          refine ww_br xCC okX5_sheet 28 (P := 0 ≤ v) (t1 := 54) (t2 := 51) (r := []) rfl (fun c16 => ?_) (fun c16 => ?_)
          · skip
            have h48 : 0 ≤ v.toInt := Int32.le_iff_toInt_le.mp c16
            obtain ⟨n, hn, rfl⟩ := sNN (x := v) (n := 41) h48 (by omega)
            refine ww_blk xCC okX5_sheet 31 3 (ps := []) (pc' := 58) (lv' := [(4, .ref 50), (0, .ref 0), (1, .int (nI 1)), (2, .int (nI g)), (3, .int (nI n))]) (st' := [.int (nI n), .int (nI g), .ref 50]) (z' := z) rfl trivial ?_
            refine ww_callVEv xCC okX5_sheet 34 (ix := 219) (t_X2_become l d (nI g) n (by omega) (xPull (esS 1) z)) (by omega) (by decide) xyX2_become xiX2_become (Or.inr (List.mem_of_getElem? (i := 724) (by decide +kernel))) (by decide +kernel) (by decide) (fun q => by cases q) (q0 := 50) rfl rfl rfl rfl (rest := []) rfl (Nat.le_of_ble_eq_true rfl) rfl (fun zB hB => ?_)
            obtain ⟨zE, hz⟩ : ∃ y, y = xBack (esS 1) (xHasRaw shS) z zB := ⟨_, rfl⟩
            rw [← hz]
            have hS := SX_new (s := 1) (by decide) hT hz (sx_y (by omega) (by omega) hB)
            refine ww_blk xCC okX5_sheet 35 1 (ps := []) (pc' := 62) (lv' := [(4, .ref 50), (0, .ref 0), (1, .int (nI 1)), (2, .int (nI g)), (3, .int (nI n))]) (st' := [.int 1]) (z' := zE) rfl trivial ?_
            subst xhQ
            exact ww_iret xCC okX5_sheet 36 xhr rfl rfl ⟨_, rfl, (by rw [sSheet_y (by decide) (by omega) (by omega)]; exact ⟨rfl, hS.1, hS.2⟩)⟩
          · skip
            have h48 : ¬ 0 ≤ v.toInt := fun q => c16 (Int32.le_iff_toInt_le.mpr q)
            refine ww_blk xCC okX5_sheet 29 1 (ps := []) (pc' := 53) (lv' := [(4, .ref 50), (0, .ref 0), (1, .int (nI 1)), (2, .int (nI g)), (3, .int v)]) (st' := [.int (-14)]) (z' := z) rfl trivial ?_
            subst xhQ
            exact ww_iret xCC okX5_sheet 30 xhr rfl rfl ⟨_, rfl, (by rw [sSheet_14 (by decide) (by omega) (by omega)]; exact ⟨rfl, hT, KU_rf z⟩)⟩
        · skip
          have h41 : ¬ v.toInt ≤ 40 := fun q => c15 (Int32.le_iff_toInt_le.mpr q)
          refine ww_blk xCC okX5_sheet 25 1 (ps := []) (pc' := 46) (lv' := [(4, .ref 50), (0, .ref 0), (1, .int (nI 1)), (2, .int (nI g)), (3, .int v)]) (st' := [.int (-2)]) (z' := z) rfl trivial ?_
          subst xhQ
          exact ww_iret xCC okX5_sheet 26 xhr rfl rfl ⟨_, rfl, (by rw [sSheet_b (by have q9 := sTI (k := 1) (by decide); omega)]; exact ⟨rfl, hT, KU_rf z⟩)⟩
    · skip
      have hW : ¬ ((-1) ≤ y.toInt ∧ y.toInt ≤ 2) := hW
      refine ww_br xCC okX5_sheet 10 (P := 0 = 0) (t1 := 21) (t2 := 24) (r := []) rfl (fun _ => ?_) (fun q => absurd (by decide) q)
      refine ww_blk xCC okX5_sheet 11 1 (ps := []) (pc' := 23) (lv' := [(4, .ref 50), (0, .ref 0), (1, .int (nI 1)), (2, .int y), (3, .int v)]) (st' := [.int (-2)]) (z' := z) rfl trivial ?_
      subst xhQ
      exact ww_iret xCC okX5_sheet 12 xhr rfl rfl ⟨_, rfl, (by rw [sSheet_b (by have q9 := sTI (k := 1) (by decide); omega)]; exact ⟨rfl, hT, KU_rf z⟩)⟩
  · skip
    rw [hr9]
    subst hx
    show ww xp l xe (xRm (d + 2)) xs xm xar xbl xme xc 5 xD xcs xad shX xAA xQ 5 [(0, .ref 0), (1, .int (nI 2)), (2, .int y), (3, .int v)] [.ref 52] z
    refine ww_blk xCC okX5_sheet 3 3 (ps := []) (pc' := 12) (lv' := [(4, .ref 52), (0, .ref 0), (1, .int (nI 2)), (2, .int y), (3, .int v)]) (st' := []) (z' := z) rfl trivial ?_
    refine ww_blk xCC okX5_sheet 6 3 (ps := []) (pc' := 15) (lv' := [(4, .ref 52), (0, .ref 0), (1, .int (nI 2)), (2, .int y), (3, .int v)]) (st' := [.int 2, .int (-1), .int y]) (z' := z) rfl trivial ?_
    refine ww_callSNz xCC okX5_sheet 9 (ix := 52) (t_X5_within l d y (-1) 2 _) (by omega) (by decide) xyX5_within xiX5_within (Or.inl (lw_gt_of (List.mem_of_getElem? (i := 327) (by decide +kernel)) rfl)) rfl (rest := []) rfl (Nat.le_of_ble_eq_true rfl) rfl (fun z19 hW => ?_) (fun z19 hW => ?_)
    · skip
      have hW : (-1) ≤ y.toInt ∧ y.toInt ≤ 2 := hW
      refine ww_br xCC okX5_sheet 10 (P := 1 = 0) (t1 := 21) (t2 := 24) (r := []) rfl (fun q => absurd q (by decide)) (fun _ => ?_)
      refine ww_blk xCC okX5_sheet 13 2 (ps := []) (pc' := 26) (lv' := [(4, .ref 52), (0, .ref 0), (1, .int (nI 2)), (2, .int y), (3, .int v)]) (st' := [.int (-1), .int y]) (z' := z) rfl trivial ?_
      refine ww_br xCC okX5_sheet 15 (P := y = (-1)) (t1 := 29) (t2 := 38) (r := []) rfl (fun c21 => ?_) (fun c21 => ?_)
      · skip
        have hy : y = -1 := c21
        subst hy
        refine ww_blk xCC okX5_sheet 16 3 (ps := []) (pc' := 33) (lv' := [(4, .ref 52), (0, .ref 0), (1, .int (nI 2)), (2, .int (-1)), (3, .int v)]) (st' := [.int 0, .int (-1), .ref 52]) (z' := z) rfl trivial ?_
        refine ww_callVEv xCC okX5_sheet 19 (ix := 219) (t_X2_become l d (-1) 0 (by decide) (xPull (esS 2) z)) (by omega) (by decide) xyX2_become xiX2_become (Or.inr (List.mem_of_getElem? (i := 724) (by decide +kernel))) (by decide +kernel) (by decide) (fun q => by cases q) (q0 := 52) rfl rfl rfl rfl (rest := []) rfl (Nat.le_of_ble_eq_true rfl) rfl (fun zB hB => ?_)
        obtain ⟨zE, hz⟩ : ∃ y, y = xBack (esS 2) (xHasRaw shS) z zB := ⟨_, rfl⟩
        rw [← hz]
        have hS := SX_new (s := 2) (by decide) hT hz (sx_m hB)
        refine ww_blk xCC okX5_sheet 20 1 (ps := []) (pc' := 37) (lv' := [(4, .ref 52), (0, .ref 0), (1, .int (nI 2)), (2, .int (-1)), (3, .int v)]) (st' := [.int 1]) (z' := zE) rfl trivial ?_
        subst xhQ
        exact ww_iret xCC okX5_sheet 21 xhr rfl rfl ⟨_, rfl, (by rw [sSheet_m (by decide) (by decide)]; exact ⟨rfl, hS.1, hS.2⟩)⟩
      · skip
        have hy0 : 0 ≤ y.toInt := by have : ¬ y.toInt = -1 := fun q => c21 (Int32.toInt_inj.mp q); omega
        obtain ⟨g, hg, rfl⟩ := sNN (x := y) (n := 3) hy0 (by omega)
        refine ww_blk xCC okX5_sheet 22 2 (ps := []) (pc' := 41) (lv' := [(4, .ref 52), (0, .ref 0), (1, .int (nI 2)), (2, .int (nI g)), (3, .int v)]) (st' := [.int 40, .int v]) (z' := z) rfl trivial ?_
        refine ww_br xCC okX5_sheet 24 (P := v ≤ 40) (t1 := 47) (t2 := 44) (r := []) rfl (fun c23 => ?_) (fun c23 => ?_)
        · skip
          have h41 : v.toInt ≤ 40 := Int32.le_iff_toInt_le.mp c23
          refine ww_blk xCC okX5_sheet 27 1 (ps := []) (pc' := 48) (lv' := [(4, .ref 52), (0, .ref 0), (1, .int (nI 2)), (2, .int (nI g)), (3, .int v)]) (st' := [.int v]) (z' := z) rfl trivial ?_
          refine ww_br xCC okX5_sheet 28 (P := 0 ≤ v) (t1 := 54) (t2 := 51) (r := []) rfl (fun c24 => ?_) (fun c24 => ?_)
          · skip
            have h48 : 0 ≤ v.toInt := Int32.le_iff_toInt_le.mp c24
            obtain ⟨n, hn, rfl⟩ := sNN (x := v) (n := 41) h48 (by omega)
            refine ww_blk xCC okX5_sheet 31 3 (ps := []) (pc' := 58) (lv' := [(4, .ref 52), (0, .ref 0), (1, .int (nI 2)), (2, .int (nI g)), (3, .int (nI n))]) (st' := [.int (nI n), .int (nI g), .ref 52]) (z' := z) rfl trivial ?_
            refine ww_callVEv xCC okX5_sheet 34 (ix := 219) (t_X2_become l d (nI g) n (by omega) (xPull (esS 2) z)) (by omega) (by decide) xyX2_become xiX2_become (Or.inr (List.mem_of_getElem? (i := 724) (by decide +kernel))) (by decide +kernel) (by decide) (fun q => by cases q) (q0 := 52) rfl rfl rfl rfl (rest := []) rfl (Nat.le_of_ble_eq_true rfl) rfl (fun zB hB => ?_)
            obtain ⟨zE, hz⟩ : ∃ y, y = xBack (esS 2) (xHasRaw shS) z zB := ⟨_, rfl⟩
            rw [← hz]
            have hS := SX_new (s := 2) (by decide) hT hz (sx_y (by omega) (by omega) hB)
            refine ww_blk xCC okX5_sheet 35 1 (ps := []) (pc' := 62) (lv' := [(4, .ref 52), (0, .ref 0), (1, .int (nI 2)), (2, .int (nI g)), (3, .int (nI n))]) (st' := [.int 1]) (z' := zE) rfl trivial ?_
            subst xhQ
            exact ww_iret xCC okX5_sheet 36 xhr rfl rfl ⟨_, rfl, (by rw [sSheet_y (by decide) (by omega) (by omega)]; exact ⟨rfl, hS.1, hS.2⟩)⟩
          · skip
            have h48 : ¬ 0 ≤ v.toInt := fun q => c24 (Int32.le_iff_toInt_le.mpr q)
            refine ww_blk xCC okX5_sheet 29 1 (ps := []) (pc' := 53) (lv' := [(4, .ref 52), (0, .ref 0), (1, .int (nI 2)), (2, .int (nI g)), (3, .int v)]) (st' := [.int (-14)]) (z' := z) rfl trivial ?_
            subst xhQ
            exact ww_iret xCC okX5_sheet 30 xhr rfl rfl ⟨_, rfl, (by rw [sSheet_14 (by decide) (by omega) (by omega)]; exact ⟨rfl, hT, KU_rf z⟩)⟩
        · skip
          have h41 : ¬ v.toInt ≤ 40 := fun q => c23 (Int32.le_iff_toInt_le.mpr q)
          refine ww_blk xCC okX5_sheet 25 1 (ps := []) (pc' := 46) (lv' := [(4, .ref 52), (0, .ref 0), (1, .int (nI 2)), (2, .int (nI g)), (3, .int v)]) (st' := [.int (-2)]) (z' := z) rfl trivial ?_
          subst xhQ
          exact ww_iret xCC okX5_sheet 26 xhr rfl rfl ⟨_, rfl, (by rw [sSheet_b (by have q9 := sTI (k := 2) (by decide); omega)]; exact ⟨rfl, hT, KU_rf z⟩)⟩
    · skip
      have hW : ¬ ((-1) ≤ y.toInt ∧ y.toInt ≤ 2) := hW
      refine ww_br xCC okX5_sheet 10 (P := 0 = 0) (t1 := 21) (t2 := 24) (r := []) rfl (fun _ => ?_) (fun q => absurd (by decide) q)
      refine ww_blk xCC okX5_sheet 11 1 (ps := []) (pc' := 23) (lv' := [(4, .ref 52), (0, .ref 0), (1, .int (nI 2)), (2, .int y), (3, .int v)]) (st' := [.int (-2)]) (z' := z) rfl trivial ?_
      subst xhQ
      exact ww_iret xCC okX5_sheet 12 xhr rfl rfl ⟨_, rfl, (by rw [sSheet_b (by have q9 := sTI (k := 2) (by decide); omega)]; exact ⟨rfl, hT, KU_rf z⟩)⟩
  · skip
    rw [hr9]
    subst hx
    show ww xp l xe (xRm (d + 2)) xs xm xar xbl xme xc 5 xD xcs xad shX xAA xQ 5 [(0, .ref 0), (1, .int (nI 3)), (2, .int y), (3, .int v)] [.ref 54] z
    refine ww_blk xCC okX5_sheet 3 3 (ps := []) (pc' := 12) (lv' := [(4, .ref 54), (0, .ref 0), (1, .int (nI 3)), (2, .int y), (3, .int v)]) (st' := []) (z' := z) rfl trivial ?_
    refine ww_blk xCC okX5_sheet 6 3 (ps := []) (pc' := 15) (lv' := [(4, .ref 54), (0, .ref 0), (1, .int (nI 3)), (2, .int y), (3, .int v)]) (st' := [.int 2, .int (-1), .int y]) (z' := z) rfl trivial ?_
    refine ww_callSNz xCC okX5_sheet 9 (ix := 52) (t_X5_within l d y (-1) 2 _) (by omega) (by decide) xyX5_within xiX5_within (Or.inl (lw_gt_of (List.mem_of_getElem? (i := 327) (by decide +kernel)) rfl)) rfl (rest := []) rfl (Nat.le_of_ble_eq_true rfl) rfl (fun z27 hW => ?_) (fun z27 hW => ?_)
    · skip
      have hW : (-1) ≤ y.toInt ∧ y.toInt ≤ 2 := hW
      refine ww_br xCC okX5_sheet 10 (P := 1 = 0) (t1 := 21) (t2 := 24) (r := []) rfl (fun q => absurd q (by decide)) (fun _ => ?_)
      refine ww_blk xCC okX5_sheet 13 2 (ps := []) (pc' := 26) (lv' := [(4, .ref 54), (0, .ref 0), (1, .int (nI 3)), (2, .int y), (3, .int v)]) (st' := [.int (-1), .int y]) (z' := z) rfl trivial ?_
      refine ww_br xCC okX5_sheet 15 (P := y = (-1)) (t1 := 29) (t2 := 38) (r := []) rfl (fun c29 => ?_) (fun c29 => ?_)
      · skip
        have hy : y = -1 := c29
        subst hy
        refine ww_blk xCC okX5_sheet 16 3 (ps := []) (pc' := 33) (lv' := [(4, .ref 54), (0, .ref 0), (1, .int (nI 3)), (2, .int (-1)), (3, .int v)]) (st' := [.int 0, .int (-1), .ref 54]) (z' := z) rfl trivial ?_
        refine ww_callVEv xCC okX5_sheet 19 (ix := 219) (t_X2_become l d (-1) 0 (by decide) (xPull (esS 3) z)) (by omega) (by decide) xyX2_become xiX2_become (Or.inr (List.mem_of_getElem? (i := 724) (by decide +kernel))) (by decide +kernel) (by decide) (fun q => by cases q) (q0 := 54) rfl rfl rfl rfl (rest := []) rfl (Nat.le_of_ble_eq_true rfl) rfl (fun zB hB => ?_)
        obtain ⟨zE, hz⟩ : ∃ y, y = xBack (esS 3) (xHasRaw shS) z zB := ⟨_, rfl⟩
        rw [← hz]
        have hS := SX_new (s := 3) (by decide) hT hz (sx_m hB)
        refine ww_blk xCC okX5_sheet 20 1 (ps := []) (pc' := 37) (lv' := [(4, .ref 54), (0, .ref 0), (1, .int (nI 3)), (2, .int (-1)), (3, .int v)]) (st' := [.int 1]) (z' := zE) rfl trivial ?_
        subst xhQ
        exact ww_iret xCC okX5_sheet 21 xhr rfl rfl ⟨_, rfl, (by rw [sSheet_m (by decide) (by decide)]; exact ⟨rfl, hS.1, hS.2⟩)⟩
      · skip
        have hy0 : 0 ≤ y.toInt := by have : ¬ y.toInt = -1 := fun q => c29 (Int32.toInt_inj.mp q); omega
        obtain ⟨g, hg, rfl⟩ := sNN (x := y) (n := 3) hy0 (by omega)
        refine ww_blk xCC okX5_sheet 22 2 (ps := []) (pc' := 41) (lv' := [(4, .ref 54), (0, .ref 0), (1, .int (nI 3)), (2, .int (nI g)), (3, .int v)]) (st' := [.int 40, .int v]) (z' := z) rfl trivial ?_
        refine ww_br xCC okX5_sheet 24 (P := v ≤ 40) (t1 := 47) (t2 := 44) (r := []) rfl (fun c31 => ?_) (fun c31 => ?_)
        · skip
          have h41 : v.toInt ≤ 40 := Int32.le_iff_toInt_le.mp c31
          refine ww_blk xCC okX5_sheet 27 1 (ps := []) (pc' := 48) (lv' := [(4, .ref 54), (0, .ref 0), (1, .int (nI 3)), (2, .int (nI g)), (3, .int v)]) (st' := [.int v]) (z' := z) rfl trivial ?_
          refine ww_br xCC okX5_sheet 28 (P := 0 ≤ v) (t1 := 54) (t2 := 51) (r := []) rfl (fun c32 => ?_) (fun c32 => ?_)
          · skip
            have h48 : 0 ≤ v.toInt := Int32.le_iff_toInt_le.mp c32
            obtain ⟨n, hn, rfl⟩ := sNN (x := v) (n := 41) h48 (by omega)
            refine ww_blk xCC okX5_sheet 31 3 (ps := []) (pc' := 58) (lv' := [(4, .ref 54), (0, .ref 0), (1, .int (nI 3)), (2, .int (nI g)), (3, .int (nI n))]) (st' := [.int (nI n), .int (nI g), .ref 54]) (z' := z) rfl trivial ?_
            refine ww_callVEv xCC okX5_sheet 34 (ix := 219) (t_X2_become l d (nI g) n (by omega) (xPull (esS 3) z)) (by omega) (by decide) xyX2_become xiX2_become (Or.inr (List.mem_of_getElem? (i := 724) (by decide +kernel))) (by decide +kernel) (by decide) (fun q => by cases q) (q0 := 54) rfl rfl rfl rfl (rest := []) rfl (Nat.le_of_ble_eq_true rfl) rfl (fun zB hB => ?_)
            obtain ⟨zE, hz⟩ : ∃ y, y = xBack (esS 3) (xHasRaw shS) z zB := ⟨_, rfl⟩
            rw [← hz]
            have hS := SX_new (s := 3) (by decide) hT hz (sx_y (by omega) (by omega) hB)
            refine ww_blk xCC okX5_sheet 35 1 (ps := []) (pc' := 62) (lv' := [(4, .ref 54), (0, .ref 0), (1, .int (nI 3)), (2, .int (nI g)), (3, .int (nI n))]) (st' := [.int 1]) (z' := zE) rfl trivial ?_
            subst xhQ
            exact ww_iret xCC okX5_sheet 36 xhr rfl rfl ⟨_, rfl, (by rw [sSheet_y (by decide) (by omega) (by omega)]; exact ⟨rfl, hS.1, hS.2⟩)⟩
          · skip
            have h48 : ¬ 0 ≤ v.toInt := fun q => c32 (Int32.le_iff_toInt_le.mpr q)
            refine ww_blk xCC okX5_sheet 29 1 (ps := []) (pc' := 53) (lv' := [(4, .ref 54), (0, .ref 0), (1, .int (nI 3)), (2, .int (nI g)), (3, .int v)]) (st' := [.int (-14)]) (z' := z) rfl trivial ?_
            subst xhQ
            exact ww_iret xCC okX5_sheet 30 xhr rfl rfl ⟨_, rfl, (by rw [sSheet_14 (by decide) (by omega) (by omega)]; exact ⟨rfl, hT, KU_rf z⟩)⟩
        · skip
          have h41 : ¬ v.toInt ≤ 40 := fun q => c31 (Int32.le_iff_toInt_le.mpr q)
          refine ww_blk xCC okX5_sheet 25 1 (ps := []) (pc' := 46) (lv' := [(4, .ref 54), (0, .ref 0), (1, .int (nI 3)), (2, .int (nI g)), (3, .int v)]) (st' := [.int (-2)]) (z' := z) rfl trivial ?_
          subst xhQ
          exact ww_iret xCC okX5_sheet 26 xhr rfl rfl ⟨_, rfl, (by rw [sSheet_b (by have q9 := sTI (k := 3) (by decide); omega)]; exact ⟨rfl, hT, KU_rf z⟩)⟩
    · skip
      have hW : ¬ ((-1) ≤ y.toInt ∧ y.toInt ≤ 2) := hW
      refine ww_br xCC okX5_sheet 10 (P := 0 = 0) (t1 := 21) (t2 := 24) (r := []) rfl (fun _ => ?_) (fun q => absurd (by decide) q)
      refine ww_blk xCC okX5_sheet 11 1 (ps := []) (pc' := 23) (lv' := [(4, .ref 54), (0, .ref 0), (1, .int (nI 3)), (2, .int y), (3, .int v)]) (st' := [.int (-2)]) (z' := z) rfl trivial ?_
      subst xhQ
      exact ww_iret xCC okX5_sheet 12 xhr rfl rfl ⟨_, rfl, (by rw [sSheet_b (by have q9 := sTI (k := 3) (by decide); omega)]; exact ⟨rfl, hT, KU_rf z⟩)⟩
