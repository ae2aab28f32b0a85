/-! says of the model -/
set_option maxHeartbeats 4000000 in
set_option maxRecDepth 20000 in
theorem t_X6_says (l : Launch) (d : Nat) (w p e : Nat) (z : xMem) (r : sR) (cnt : Nat) (tc : Nat → sTc) (hr : RM z r) (hw : sW r cnt) (ht : TM z cnt tc) (hw3 : w < 3) (hp : p < 4) (he : e < 10) : XMi l (d + 308) yX6_says cX6_says 4 (some .int) shM [.ref 0, .int (nI w), .int (nI p), .int (nI e)] z (fun v z' => v = sSays tc r w p e ∧ KM z z') := by
  refine XM.of (by decide) (Nat.le_of_ble_eq_true rfl) (fun xp xe xs xm xar xbl xme xc xD xcs xad xAA xCC xhr => ?_)
  generalize xhQ : MQ xbl _ xar xs 0 0 xAA = xQ
  show ww xp l xe (xRm (d + 308)) xs xm xar xbl xme xc 4 xD xcs xad shM xAA xQ 0 [(0, .ref 0), (1, .int (nI w)), (2, .int (nI p)), (3, .int (nI e))] [] z
  obtain ⟨bt, n, pp, hq1, hq2, hq3, hq4, hq5⟩ := ht.2.2.2 (r 7 5) hw.2.2.2.2.2.2.2
  have hb := hw.1
  have hcn := hw.2.2.2.2.2.2.2
  have hc6 := ht.2.2.1
  refine ww_blk xCC okX6_says 0 11 (ps := [vp_in (nI e) 10, vp_in (nI e) 10]) (pc' := 17) (lv' := [(0, .ref 0), (1, .int (nI w)), (2, .int (nI p)), (3, .int (nI e))]) (st' := [.int (z.1 5 (nI e).toNatClampNeg), .ref 0]) (z' := (mPut z 0 16 (z.1 6 (nI e).toNatClampNeg))) rfl ⟨(vp_in_nI (by omega) (by decide)), (vp_in_nI (by omega) (by decide))⟩ ?_
  rw [sCL (n := e) (by omega)]
  rw [hr.2.1 e]
  rw [hr.2.2.1 e]
  refine ww_callSNi xCC okX6_says 11 (ix := 255) (t_X6_bitsOf l d (r 1 e) (Nat.lt_trans (hb e).2.1 (by decide)) _) (by omega) (by decide) xyX6_bitsOf xiX6_bitsOf (Or.inl (lw_gt_of (List.mem_of_getElem? (i := 1004) (by decide +kernel)) rfl)) rfl (rest := [.ref 0]) rfl (Nat.le_of_ble_eq_true rfl) rfl (fun v3 z1 h2 => ?_)
  rw [h2]
  refine ww_blk xCC okX6_says 12 25 (ps := [vp_in (4 * (nI p)) 16, vp_in ((4 * (nI p)) + 2) 16]) (pc' := 59) (lv' := [(0, .ref 0), (1, .int (nI w)), (2, .int (nI p)), (3, .int (nI e))]) (st' := [.ref 0, .ref 0]) (z' := (mPut (mPut (mPut (mPut (mPut z 0 16 (nI (r 2 e))) 0 17 (nI (sPop (r 1 e)))) 0 18 (z.1 7 (4 * (nI p)).toNatClampNeg)) 0 19 (z.1 0 8)) 0 20 (z.1 7 ((4 * (nI p)) + 2).toNatClampNeg))) rfl ⟨(vp_4 (by omega)), (vp_42 (by omega))⟩ ?_
  rw [show (4 : Int32) * nI p = nI (4 * p) from pk_mul 4 p]
  rw [sCL (n := (4 * p)) (by omega)]
  rw [show nI (4 * p) + 2 = nI (4 * p + 2) from nI_add (4 * p) 2]
  rw [sCL (n := (4 * p + 2)) (by omega)]
  rw [hr.2.2.2.1 p]
  rw [hr.2.2.2.2.2.1 p]
  rw [hr.2.2.2.2.2.2.2.2.2.1]
  refine ww_callVIi xCC okX6_says 37 (ix := 119) (t_X6_alive l d (mPut (mPut (mPut (mPut (mPut z 0 16 (nI (r 2 e))) 0 17 (nI (sPop (r 1 e)))) 0 18 (nI (r 4 p))) 0 19 (nI (r 7 2))) 0 20 (nI (r 6 p))) (r 0) hr.1 (fun j => Nat.lt_of_le_of_lt (hb j).1 (by decide))) (by omega) (by decide) xyX6_alive xiX6_alive (Or.inl (lw_gt_of (List.mem_of_getElem? (i := 1007) (by decide +kernel)) rfl)) rfl rfl rfl (rest := [.ref 0]) rfl (Nat.le_of_ble_eq_true rfl) rfl (fun v6 z4 h5 => ?_)
  rw [h5.1, h5.2]
  refine ww_callSNi xCC okX6_says 38 (ix := 255) (t_X6_bitsOf l d (sAl (r 0) 8) (Nat.lt_of_lt_of_le (sAl_lt (r 0) 8) (by decide)) _) (by omega) (by decide) xyX6_bitsOf xiX6_bitsOf (Or.inl (lw_gt_of (List.mem_of_getElem? (i := 1004) (by decide +kernel)) rfl)) rfl (rest := [.ref 0]) rfl (Nat.le_of_ble_eq_true rfl) rfl (fun v9 z7 h8 => ?_)
  rw [h8]
  refine ww_blk xCC okX6_says 39 5 (ps := []) (pc' := 74) (lv' := [(0, .ref 0), (1, .int (nI w)), (2, .int (nI p)), (3, .int (nI e))]) (st' := [.int (nI w), .int (z.1 0 4), .ref 0]) (z' := (mPut (mPut (mPut (mPut (mPut (mPut z 0 16 (nI (r 2 e))) 0 17 (nI (sPop (r 1 e)))) 0 18 (nI (r 4 p))) 0 19 (nI (r 7 2))) 0 20 (nI (r 6 p))) 0 21 (nI (sPop (sAl (r 0) 8))))) rfl trivial ?_
  rw [hr.2.2.2.2.2.2.2.2.2.2.2.2]
  refine ww_callVIi xCC okX6_says 44 (ix := 252) (t_X6_read l d bt n (r 7 5) w 300 (mPut (mPut (mPut (mPut (mPut (mPut z 0 16 (nI (r 2 e))) 0 17 (nI (sPop (r 1 e)))) 0 18 (nI (r 4 p))) 0 19 (nI (r 7 2))) 0 20 (nI (r 6 p))) 0 21 (nI (sPop (sAl (r 0) 8)))) 1 (tc (r 7 5)).1 (tc (r 7 5)).2.1 (tc (r 7 5)).2.2 pp (by omega) hw3 hq1 hq2 hq3 hq4 hq5 (by decide)) (by omega) (by decide) xyX6_read xiX6_read (Or.inl (lw_gt_of (List.mem_of_getElem? (i := 1011) (by decide +kernel)) rfl)) rfl rfl rfl (rest := []) rfl (Nat.le_of_ble_eq_true rfl) rfl (fun vA zA hA => ?_)
  obtain ⟨hKA, hA1⟩ := hA
  obtain ⟨-, hA2, hA3⟩ := hA1.resolve_right (fun q => absurd q.1 (by decide))
  refine ww_blk xCC okX6_says 45 3 (ps := []) (pc' := 80) (lv' := [(0, .ref 0), (1, .int (nI w)), (2, .int (nI p)), (3, .int (nI e))]) (st' := [.int 2, .int (nI w), .int 0, .int vA]) (z' := zA) rfl trivial ?_
  refine ww_br xCC okX6_says 48 (P := (nI w) = 2) (t1 := 83) (t2 := 88) (r := [.int 0, .int vA]) rfl (fun c10 => ?_) (fun c10 => ?_)
  · skip
    replace c10 : w = 2 := (sEQ (a := w) (b := 2) (by omega) (by omega)).mp c10
    have hw2 : (if w = 2 then (99 : Int32) else 999) = 99 := by rw [if_pos c10]
    refine ww_blk xCC okX6_says 49 2 (ps := []) (pc' := 91) (lv' := [(0, .ref 0), (1, .int (nI w)), (2, .int (nI p)), (3, .int (nI e))]) (st' := [.int 99, .int 0, .int vA]) (z' := zA) rfl trivial ?_
    refine ww_callSNi xCC okX6_says 52 (ix := 258) (t_X6_within l d vA 0 99 _) (by omega) (by decide) xyX6_within xiX6_within (Or.inl (lw_gt_of (List.mem_of_getElem? (i := 1082) (by decide +kernel)) rfl)) rfl (rest := []) rfl (Nat.le_of_ble_eq_true rfl) rfl (fun v13 z11 h12 => ?_)
    subst h12
    subst xhQ
    exact ww_iret xCC okX6_says 53 xhr rfl rfl ⟨_, rfl, ⟨(says_v hA3 hw2 (fun c q1 q2 => by rcases (show c = 10000 ∨ c = 10001 ∨ c = 10002 ∨ c = 10003 ∨ c = 10004 ∨ c = 10005 by omega) with rfl | rfl | rfl | rfl | rfl | rfl <;> rfl)), KM_2 (KM_put (KM_put (KM_put (KM_put (KM_put (KM_put (KM_rf z) _ (by omega)) _ (by omega)) _ (by omega)) _ (by omega)) _ (by omega)) _ (by omega)) hKA⟩⟩
  · skip
    replace c10 : ¬ w = 2 := fun q => c10 ((sEQ (a := w) (b := 2) (by omega) (by omega)).mpr q)
    have hw2 : (if w = 2 then (99 : Int32) else 999) = 999 := by rw [if_neg c10]
    refine ww_blk xCC okX6_says 51 1 (ps := []) (pc' := 91) (lv' := [(0, .ref 0), (1, .int (nI w)), (2, .int (nI p)), (3, .int (nI e))]) (st' := [.int 999, .int 0, .int vA]) (z' := zA) rfl trivial ?_
    refine ww_callSNi xCC okX6_says 52 (ix := 258) (t_X6_within l d vA 0 999 _) (by omega) (by decide) xyX6_within xiX6_within (Or.inl (lw_gt_of (List.mem_of_getElem? (i := 1082) (by decide +kernel)) rfl)) rfl (rest := []) rfl (Nat.le_of_ble_eq_true rfl) rfl (fun v16 z14 h15 => ?_)
    subst h15
    subst xhQ
    exact ww_iret xCC okX6_says 53 xhr rfl rfl ⟨_, rfl, ⟨(says_v hA3 hw2 (fun c q1 q2 => by rcases (show c = 10000 ∨ c = 10001 ∨ c = 10002 ∨ c = 10003 ∨ c = 10004 ∨ c = 10005 by omega) with rfl | rfl | rfl | rfl | rfl | rfl <;> rfl)), KM_2 (KM_put (KM_put (KM_put (KM_put (KM_put (KM_put (KM_rf z) _ (by omega)) _ (by omega)) _ (by omega)) _ (by omega)) _ (by omega)) _ (by omega)) hKA⟩⟩
