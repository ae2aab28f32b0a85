/-! a year's end: the model -/
theorem sSubN {a : Nat} (h : ¬ a = 0) : nI a - 1 = nI (a - 1) := by
  obtain ⟨k, rfl⟩ : ∃ k, a = k + 1 := ⟨a - 1, by omega⟩
  rw [← nI_1 k, Nat.add_sub_cancel]
  exact Int32.add_sub_cancel _ _
theorem sW99 : ∀ n, n < 100 → sWi (nI n - 1) 0 99 = nI (n - 1) := by decide +kernel
def sEl (r : sR) (j : Nat) : Nat := if r 0 j = 0 then 0 else if (r 7 0).testBit j = true then r 7 1 else r 0 j - 1
def sE1 (r : sR) (k : Nat) : sR := fun q j => if q = 0 ∧ j < k then sEl r j else r q j
def sE2 (r : sR) (k : Nat) : sR := fun q j => if q = 5 ∧ j < k then r 5 j - 1 else sE1 r 8 q j
def sEnd (r : sR) : sR := fun q j => if q = 7 ∧ j = 0 then 0 else if q = 7 ∧ j = 2 then r 7 2 + 1 else sE2 r (r 7 4) q j
def sEv (r : sR) : Int32 := nI (sAl (r 0) 8) &&& (nI (sAl (sEnd r 0) 8) ^^^ (-1))
theorem sE1_0 (r : sR) : sE1 r 0 = r := by funext q j; simp [sE1]
theorem sE2_0 (r : sR) : sE2 r 0 = sE1 r 8 := by funext q j; simp [sE2]
theorem RM_0 {z : xMem} {r s : sR} {i : Nat} {x : Int32} (h : RM z r) (hs : ∀ q j, s q j = if q = 0 ∧ j = i then s 0 i else r q j) (hx : x = nI (s 0 i)) : RM (mPut z 4 i x) s := by
  obtain ⟨a1, a2, a3, a4, a5, a6, a7, b1, b2, b3, b4, b5, b6⟩ := h
  refine ⟨fun j => ?_, fun j => ?_, fun j => ?_, fun j => ?_, fun j => ?_, fun j => ?_, fun j => ?_, ?_, ?_, ?_, ?_, ?_, ?_⟩
  · rw [mPut_rd, if_pos rfl]
    by_cases q : j = i
    · subst q; rw [if_pos rfl, hx]
    · rw [if_neg q, hs 0 j, if_neg (by omega)]; exact a1 j
  all_goals (rw [mPut_rd, if_neg (by decide), hs, if_neg (by omega)]; first | exact a2 j | exact a3 j | exact a4 j | exact a5 j | exact a6 j | exact a7 j | exact b1 | exact b2 | exact b3 | exact b4 | exact b5 | exact b6)
theorem RM_5 {z : xMem} {r s : sR} {i : Nat} {x : Int32} (h : RM z r) (hs : ∀ q j, s q j = if q = 5 ∧ j = i then s 5 i else r q j) (hx : x = nI (s 5 i)) : RM (mPut z 7 (4 * i + 1) x) s := by
  obtain ⟨a1, a2, a3, a4, a5, a6, a7, b1, b2, b3, b4, b5, b6⟩ := h
  refine ⟨fun j => ?_, fun j => ?_, fun j => ?_, fun j => ?_, fun j => ?_, fun j => ?_, fun j => ?_, ?_, ?_, ?_, ?_, ?_, ?_⟩
  · rw [mPut_rd, if_neg (by decide), hs, if_neg (by omega)]; exact a1 j
  · rw [mPut_rd, if_neg (by decide), hs, if_neg (by omega)]; exact a2 j
  · rw [mPut_rd, if_neg (by decide), hs, if_neg (by omega)]; exact a3 j
  · rw [mPut_rd, if_pos rfl, if_neg (by omega), hs, if_neg (by omega)]; exact a4 j
  · rw [mPut_rd, if_pos rfl]
    by_cases q : j = i
    · subst q; rw [if_pos rfl, hx]
    · rw [if_neg (by omega), hs 5 j, if_neg (by omega)]; exact a5 j
  · rw [mPut_rd, if_pos rfl, if_neg (by omega), hs, if_neg (by omega)]; exact a6 j
  · rw [mPut_rd, if_pos rfl, if_neg (by omega), hs, if_neg (by omega)]; exact a7 j
  all_goals (rw [mPut_rd, if_neg (by decide), hs, if_neg (by omega)]; assumption)
theorem RM_e1 {z : xMem} {r : sR} {i : Nat} {x : Int32} (h : RM z (sE1 r i)) (hx : x = nI (sEl r i)) : RM (mPut z 4 i x) (sE1 r (i + 1)) :=
  RM_0 h (fun q j => by unfold sE1; grind) (by rw [hx]; simp [sE1])
theorem RM_e2 {z : xMem} {r : sR} {i : Nat} {x : Int32} (h : RM z (sE2 r i)) (hx : x = nI (r 5 i - 1)) : RM (mPut z 7 (4 * i + 1) x) (sE2 r (i + 1)) :=
  RM_5 h (fun q j => by unfold sE2; grind) (by rw [hx]; simp [sE2])
theorem RM_end {z : xMem} {r : sR} (h : RM z (sE2 r (r 7 4))) : RM (mPut (mPut z 0 9 0) 0 8 (nI (r 7 2 + 1))) (sEnd r) := by
  obtain ⟨a1, a2, a3, a4, a5, a6, a7, b1, b2, b3, b4, b5, b6⟩ := h
  refine ⟨fun j => ?_, fun j => ?_, fun j => ?_, fun j => ?_, fun j => ?_, fun j => ?_, fun j => ?_, ?_, ?_, ?_, ?_, ?_, ?_⟩
  · simp [mPut_rd, sEnd, a1]
  · simp [mPut_rd, sEnd, a2]
  · simp [mPut_rd, sEnd, a3]
  · simp [mPut_rd, sEnd, a4]
  · simp [mPut_rd, sEnd, a5]
  · simp [mPut_rd, sEnd, a6]
  · simp [mPut_rd, sEnd, a7]
  · simp [mPut_rd, sEnd]; rfl
  · simp [mPut_rd, sEnd, b2]
  · simp [mPut_rd, sEnd]
  · simp [mPut_rd, sEnd, b4]
  · simp [mPut_rd, sEnd, b5]
  · simp [mPut_rd, sEnd, b6]
theorem sEl_bd {r : sR} {cnt : Nat} (h : sW r cnt) (j : Nat) : sEl r j ≤ 9 := by
  have h1 := (h.1 j).1
  have h2 := h.2.2.2.1
  unfold sEl
  split
  · omega
  · split <;> omega
theorem sEnd_bd {r : sR} {cnt : Nat} (h : sW r cnt) (j : Nat) : sEnd r 0 j ≤ 9 := by
  have h1 := (h.1 j).1
  have h2 := sEl_bd h j
  simp only [sEnd, sE2, sE1]
  grind
theorem sW_end {r : sR} {cnt : Nat} (h : sW r cnt) (hy : r 7 2 < 100000) : sW (sEnd r) cnt := by
  refine ⟨fun j => ⟨sEnd_bd h j, ?_⟩, ?_⟩
  · have h1 := h.1 j
    simp only [sEnd, sE2, sE1]
    grind
  · have h1 := h.2
    simp only [sEnd, sE2, sE1]
    grind
theorem sW_done {tc : Nat → sTc} {r : sR} {cnt : Nat} (h : sW r cnt) (p e : Nat) : sW (sDone tc r p e) cnt := by
  have o1 : sTn (sWi (nI (r 7 3) + sCosts tc r p e) 0 99999) ≤ 99999 := by
    have := sWi_bd (nI (r 7 3) + sCosts tc r p e) (b := 99999) (by decide)
    have e9 : (99999 : Int32).toInt = 99999 := rfl
    unfold sTn; omega
  have o2 : sTn (sSits tc r p e) ≤ 99 := by
    have := sSits_bd tc r p e
    unfold sTn; omega
  have o3 : sTn (sWi (nI (r 6 p) + 1) 0 99) ≤ 99 := by
    have := sWi_bd (nI (r 6 p) + 1) (b := 99) (by decide)
    have e9 : (99 : Int32).toInt = 99 := rfl
    unfold sTn; omega
  have o4 : (r 7 0 ||| (r 1 e &&& sAl (r 0) 8)) < 256 := by
    have h1 := (h.1 e).2.1
    have h2 := h.2.1
    exact Nat.or_lt_two_pow (n := 8) h2 (Nat.lt_of_le_of_lt Nat.and_le_left h1)
  refine ⟨fun j => ?_, ?_⟩
  · have h1 := h.1 j
    simp only [sDone]
    grind
  · have h1 := h.2
    simp only [sDone]
    grind
set_option maxHeartbeats 4000000 in
set_option maxRecDepth 20000 in
theorem t_X6_ends (l : Launch) (d : Nat) (z : xMem) (r : sR) (cnt : Nat) (hr : RM z r) (hw : sW r cnt) : XMi l (d + 1) yX6_ends cX6_ends 3 (some .int) shM [.ref 0] z (fun v z' => v = sEv r ∧ RM z' (sEnd r) ∧ KO z z') := by
  refine XM.of (by decide) (Nat.le_of_ble_eq_true rfl) (fun xp xe xs xm xar xbl xme xc xD xcs xad xAA xCC xhr => ?_)
  generalize xhQ : MQ xbl _ xar xs 0 0 xAA = xQ
  show ww xp l xe (xRm (d + 1)) xs xm xar xbl xme xc 3 xD xcs xad shM xAA xQ 0 [(0, .ref 0)] [] z
  have hb := hw.1
  have h70 := hw.2.1
  have h74 := hw.2.2.2.2.2.2.1
  refine ww_blk xCC okX6_ends 0 1 (ps := []) (pc' := 1) (lv' := [(0, .ref 0)]) (st' := [.ref 0]) (z' := z) rfl trivial ?_
  refine ww_callVIi xCC okX6_ends 1 (ix := 119) (t_X6_alive l d z (r 0) hr.1 (fun j => Nat.lt_of_le_of_lt (hb j).1 (by decide))) (by omega) (by decide) xyX6_alive xiX6_alive (Or.inl (lw_gt_of (List.mem_of_getElem? (i := 1007) (by decide +kernel)) rfl)) rfl rfl rfl (rest := []) rfl (Nat.le_of_ble_eq_true rfl) rfl (fun v3 z1 h2 => ?_)
  rw [h2.1, h2.2]
  refine ww_blk xCC okX6_ends 2 3 (ps := []) (pc' := 7) (lv' := [(2, .int 0), (1, .int (nI (sAl (r 0) 8))), (0, .ref 0)]) (st' := []) (z' := z) rfl trivial ?_
  have L7 : ∀ (n7 : Nat) (i : Nat) (zL : xMem), 8 - i < n7 → (i ≤ 8) → (RM zL (sE1 r i)) → (KO z zL) → ww xp l xe (xRm (d + 1)) xs xm xar xbl xme xc 3 xD xcs xad shM xAA xQ 7 [(2, .int (nI i)), (1, .int (nI (sAl (r 0) 8))), (0, .ref 0)] [] zL := by
    intro n7
    induction n7 with
    | zero =>
      intro i zL hmu7
      exact absurd hmu7 (Nat.not_lt_zero _)
    | succ n7 ih7 =>
      intro i zL hmu7 e7_0 e7_1 e7_2
      have hbi := hb i
      have hLi : zL.1 4 i = nI (r 0 i) := by rw [e7_1.1 i]; simp [sE1]
      have hL9 : zL.1 0 9 = nI (r 7 0) := by rw [e7_1.2.2.2.2.2.2.2.1]; simp [sE1]
      have hL7 : zL.1 0 7 = nI (r 7 1) := by rw [e7_1.2.2.2.2.2.2.2.2.1]; simp [sE1]
      refine ww_blk xCC okX6_ends 5 2 (ps := []) (pc' := 10) (lv' := [(2, .int (nI i)), (1, .int (nI (sAl (r 0) 8))), (0, .ref 0)]) (st' := [.int 8, .int (nI i)]) (z' := zL) rfl trivial ?_
      refine ww_br xCC okX6_ends 7 (P := 8 ≤ (nI i)) (t1 := 65) (t2 := 13) (r := []) rfl (fun c4 => ?_) (fun c4 => ?_)
      · skip
        replace c4 : 8 ≤ i := (sLE (a := 8) (b := i) (by omega) (by omega)).mp c4
        refine ww_blk xCC okX6_ends 38 2 (ps := []) (pc' := 67) (lv' := [(2, .int 0), (1, .int (nI (sAl (r 0) 8))), (0, .ref 0)]) (st' := []) (z' := zL) rfl trivial ?_
        have L67 : ∀ (n67 : Nat) (i : Nat) (zK : xMem), r 7 4 - i < n67 → (i ≤ r 7 4) → (RM zK (sE2 r i)) → (KO z zK) → ww xp l xe (xRm (d + 1)) xs xm xar xbl xme xc 3 xD xcs xad shM xAA xQ 67 [(2, .int (nI i)), (1, .int (nI (sAl (r 0) 8))), (0, .ref 0)] [] zK := by
          intro n67
          induction n67 with
          | zero =>
            intro i zK hmu67
            exact absurd hmu67 (Nat.not_lt_zero _)
          | succ n67 ih67 =>
            intro i zK hmu67 e67_0 e67_1 e67_2
            have hbi := hb i
            have hK5 : zK.1 7 (4 * i + 1) = nI (r 5 i) := by rw [e67_1.2.2.2.2.1 i]; simp [sE2, sE1]
            have hK15 : zK.1 0 15 = nI (r 7 4) := by rw [e67_1.2.2.2.2.2.2.2.2.2.2.2.1]; simp [sE2, sE1]
            have hK8 : zK.1 0 8 = nI (r 7 2) := by rw [e67_1.2.2.2.2.2.2.2.2.2.1]; simp [sE2, sE1]
            refine ww_blk xCC okX6_ends 40 3 (ps := []) (pc' := 72) (lv' := [(2, .int (nI i)), (1, .int (nI (sAl (r 0) 8))), (0, .ref 0)]) (st' := [.int (zK.1 0 15), .int (nI i)]) (z' := zK) rfl trivial ?_
            rw [hK15]
            refine ww_br xCC okX6_ends 43 (P := (nI (r 7 4)) ≤ (nI i)) (t1 := 109) (t2 := 75) (r := []) rfl (fun c5 => ?_) (fun c5 => ?_)
            · skip
              replace c5 : (r 7 4) ≤ i := (sLE (a := (r 7 4)) (b := i) (by omega) (by omega)).mp c5
              have hEnd := RM_end (show RM zK (sE2 r (r 7 4)) by rw [show r 7 4 = i by omega]; exact e67_1)
              refine ww_blk xCC okX6_ends 67 11 (ps := []) (pc' := 126) (lv' := [(2, .int (nI i)), (1, .int (nI (sAl (r 0) 8))), (0, .ref 0)]) (st' := [.ref 0, .int (nI (sAl (r 0) 8))]) (z' := (mPut (mPut zK 0 9 0) 0 8 ((zK.1 0 8) + 1))) rfl trivial ?_
              rw [hK8]
              rw [nI_1 (r 7 2)]
              refine ww_callVIi xCC okX6_ends 78 (ix := 119) (t_X6_alive l d (mPut (mPut zK 0 9 0) 0 8 (nI (r 7 2 + 1))) (sEnd r 0) hEnd.1 (fun j => Nat.lt_of_le_of_lt (sEnd_bd hw j) (by decide))) (by omega) (by decide) xyX6_alive xiX6_alive (Or.inl (lw_gt_of (List.mem_of_getElem? (i := 1007) (by decide +kernel)) rfl)) rfl rfl rfl (rest := [.int (nI (sAl (r 0) 8))]) rfl (Nat.le_of_ble_eq_true rfl) rfl (fun v8 z6 h7 => ?_)
              rw [h7.1, h7.2]
              refine ww_blk xCC okX6_ends 79 3 (ps := []) (pc' := 132) (lv' := [(2, .int (nI i)), (1, .int (nI (sAl (r 0) 8))), (0, .ref 0)]) (st' := [.int ((nI (sAl (r 0) 8)) &&& ((nI (sAl (sEnd r 0) 8)) ^^^ (-1)))]) (z' := (mPut (mPut zK 0 9 0) 0 8 (nI (r 7 2 + 1)))) rfl trivial ?_
              subst xhQ
              exact ww_iret xCC okX6_ends 82 xhr rfl rfl ⟨_, rfl, ⟨rfl, hEnd, KO_p0 (KO_p0 e67_2 9 _ (by omega)) 8 _ (by omega)⟩⟩
            · skip
              replace c5 : ¬ (r 7 4) ≤ i := fun q => c5 ((sLE (a := (r 7 4)) (b := i) (by omega) (by omega)).mpr q)
              refine ww_blk xCC okX6_ends 44 19 (ps := [vp_in ((4 * (nI i)) + 1) 16]) (pc' := 99) (lv' := [(2, .int (nI i)), (1, .int (nI (sAl (r 0) 8))), (0, .ref 0)]) (st' := [.int 99, .int 0, .int ((zK.1 7 ((4 * (nI i)) + 1).toNatClampNeg) - 1), .int ((4 * (nI i)) + 1), .ref 7]) (z' := zK) rfl (vp_41 (by omega)) ?_
              rw [show (4 : Int32) * nI i = nI (4 * i) from pk_mul 4 i]
              rw [show nI (4 * i) + 1 = nI (4 * i + 1) from nI_add (4 * i) 1]
              rw [sCL (n := (4 * i + 1)) (by omega)]
              rw [hK5]
              refine ww_callSNi xCC okX6_ends 63 (ix := 258) (t_X6_within l d ((nI (r 5 i)) - 1) 0 99 _) (by omega) (by decide) xyX6_within xiX6_within (Or.inl (lw_gt_of (List.mem_of_getElem? (i := 1082) (by decide +kernel)) rfl)) rfl (rest := [.int (nI (4 * i + 1)), .ref 7]) rfl (Nat.le_of_ble_eq_true rfl) rfl (fun v11 z9 h10 => ?_)
              subst h10
              refine ww_blk xCC okX6_ends 64 3 (ps := [vp_in (nI (4 * i + 1)) 16]) (pc' := 67) (lv' := [(2, .int ((nI i) + 1)), (1, .int (nI (sAl (r 0) 8))), (0, .ref 0)]) (st' := []) (z' := (mPut zK 7 (nI (4 * i + 1)).toNatClampNeg (sWi ((nI (r 5 i)) - 1) 0 99))) rfl (vp_in_nI (by omega) (by decide)) ?_
              rw [sCL (n := (4 * i + 1)) (by omega)]
              rw [sW99 (r 5 i) (by omega)]
              exact ww_cut [0, 1, 2] (xlc (congrArg Value.int (show ((nI i) + 1 : Int32) = nI (i + 1) from nI_1 i)) (xlc rfl (xlc rfl rfl))) rfl rfl (ih67 (i + 1) (mPut zK 7 (4 * i + 1) (nI (r 5 i - 1))) (by omega) (by omega) (RM_e2 e67_1 rfl) (KO_pq e67_2 7 _ _ (by omega)))
        exact ww_cut [0, 1, 2] (xlc (congrArg Value.int (show (0 : Int32) = nI 0 from rfl)) (xlc rfl (xlc rfl rfl))) rfl rfl (L67 (r 7 4 - 0 + 1) 0 zL (Nat.lt_succ_self _) (by omega) (by rw [sE2_0, show 8 = i by omega]; exact e7_1) e7_2)
      · skip
        replace c4 : ¬ 8 ≤ i := fun q => c4 ((sLE (a := 8) (b := i) (by omega) (by omega)).mpr q)
        refine ww_blk xCC okX6_ends 8 7 (ps := [vp_in (nI i) 8]) (pc' := 24) (lv' := [(2, .int (nI i)), (1, .int (nI (sAl (r 0) 8))), (0, .ref 0)]) (st' := [.int (zL.1 4 (nI i).toNatClampNeg), .int (nI i), .ref 4]) (z' := zL) rfl (vp_in_nI (by omega) (by decide)) ?_
        rw [sCL (n := i) (by omega)]
        rw [hLi]
        refine ww_br xCC okX6_ends 15 (P := (nI (r 0 i)) = 0) (t1 := 27) (t2 := 31) (r := [.int (nI i), .ref 4]) rfl (fun c12 => ?_) (fun c12 => ?_)
        · skip
          replace c12 : (r 0 i) = 0 := (sEQ (a := (r 0 i)) (b := 0) (by omega) (by omega)).mp c12
          refine ww_blk xCC okX6_ends 16 2 (ps := []) (pc' := 58) (lv' := [(2, .int (nI i)), (1, .int (nI (sAl (r 0) 8))), (0, .ref 0)]) (st' := [.int 0, .int (nI i), .ref 4]) (z' := zL) rfl trivial ?_
          refine ww_blk xCC okX6_ends 35 3 (ps := [vp_in (nI i) 8]) (pc' := 7) (lv' := [(2, .int ((nI i) + 1)), (1, .int (nI (sAl (r 0) 8))), (0, .ref 0)]) (st' := []) (z' := (mPut zL 4 (nI i).toNatClampNeg 0)) rfl (vp_in_nI (by omega) (by decide)) ?_
          rw [sCL (n := i) (by omega)]
          exact ww_cut [0, 1, 2] (xlc (congrArg Value.int (show ((nI i) + 1 : Int32) = nI (i + 1) from nI_1 i)) (xlc rfl (xlc rfl rfl))) rfl rfl (ih7 (i + 1) (mPut zL 4 i 0) (by omega) (by omega) (RM_e1 e7_1 (by unfold sEl; first | (rw [if_pos (by assumption)]; rfl) | grind)) (KO_pq e7_2 4 _ _ (by omega)))
        · skip
          replace c12 : ¬ (r 0 i) = 0 := fun q => c12 ((sEQ (a := (r 0 i)) (b := 0) (by omega) (by omega)).mpr q)
          refine ww_blk xCC okX6_ends 18 7 (ps := []) (pc' := 40) (lv' := [(2, .int (nI i)), (1, .int (nI (sAl (r 0) 8))), (0, .ref 0)]) (st' := [.int 1, .int (((zL.1 0 9) >>> ((nI i) &&& 31)) &&& 1), .int (nI i), .ref 4]) (z' := zL) rfl trivial ?_
          rw [hL9]
          refine ww_br xCC okX6_ends 25 (P := (((nI (r 7 0)) >>> ((nI i) &&& 31)) &&& 1) = 1) (t1 := 43) (t2 := 50) (r := [.int (nI i), .ref 4]) rfl (fun c13 => ?_) (fun c13 => ?_)
          · skip
            replace c13 := (sBit1 i (by omega) (r 7 0) (by omega)).mp c13
            refine ww_blk xCC okX6_ends 26 3 (ps := []) (pc' := 58) (lv' := [(2, .int (nI i)), (1, .int (nI (sAl (r 0) 8))), (0, .ref 0)]) (st' := [.int (zL.1 0 7), .int (nI i), .ref 4]) (z' := zL) rfl trivial ?_
            rw [hL7]
            refine ww_blk xCC okX6_ends 35 3 (ps := [vp_in (nI i) 8]) (pc' := 7) (lv' := [(2, .int ((nI i) + 1)), (1, .int (nI (sAl (r 0) 8))), (0, .ref 0)]) (st' := []) (z' := (mPut zL 4 (nI i).toNatClampNeg (nI (r 7 1)))) rfl (vp_in_nI (by omega) (by decide)) ?_
            rw [sCL (n := i) (by omega)]
            exact ww_cut [0, 1, 2] (xlc (congrArg Value.int (show ((nI i) + 1 : Int32) = nI (i + 1) from nI_1 i)) (xlc rfl (xlc rfl rfl))) rfl rfl (ih7 (i + 1) (mPut zL 4 i (nI (r 7 1))) (by omega) (by omega) (RM_e1 e7_1 (by unfold sEl; first | (rw [if_pos (by assumption)]; rfl) | grind)) (KO_pq e7_2 4 _ _ (by omega)))
          · skip
            replace c13 := (Bool.eq_false_or_eq_true _).resolve_left (fun q => c13 ((sBit1 i (by omega) (r 7 0) (by omega)).mpr q))
            refine ww_blk xCC okX6_ends 29 9 (ps := [vp_in (nI i) 8, vp_in (nI i) 8]) (pc' := 7) (lv' := [(2, .int ((nI i) + 1)), (1, .int (nI (sAl (r 0) 8))), (0, .ref 0)]) (st' := []) (z' := (mPut zL 4 (nI i).toNatClampNeg ((zL.1 4 (nI i).toNatClampNeg) - 1))) rfl ⟨(vp_in_nI (by omega) (by decide)), (vp_in_nI (by omega) (by decide))⟩ ?_
            rw [sCL (n := i) (by omega)]
            rw [hLi]
            rw [sSubN (a := r 0 i) (by omega)]
            exact ww_cut [0, 1, 2] (xlc (congrArg Value.int (show ((nI i) + 1 : Int32) = nI (i + 1) from nI_1 i)) (xlc rfl (xlc rfl rfl))) rfl rfl (ih7 (i + 1) (mPut zL 4 i (nI (r 0 i - 1))) (by omega) (by omega) (RM_e1 e7_1 (by unfold sEl; first | (rw [if_pos (by assumption)]; rfl) | grind)) (KO_pq e7_2 4 _ _ (by omega)))
  exact ww_cut [0, 1, 2] (xlc (congrArg Value.int (show (0 : Int32) = nI 0 from rfl)) (xlc rfl (xlc rfl rfl))) rfl rfl (L7 (8 - 0 + 1) 0 z (Nat.lt_succ_self _) (by omega) (by rw [sE1_0]; exact hr) (KO_rf z))
