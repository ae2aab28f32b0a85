/-! LawsLapse's fittingPeople, tells -/
theorem lf_1 {tc : Nat → sTc} {r : sR} {it : Nat → Int32} {n v : Nat} (hv : v < 10) (hf : sF1 (sOt tc r v it) n = 0) : nI (sAl (sLf tc r it n) v) ||| ((1 : Int32) <<< (nI v &&& 31)) = nI (sAl (sLf tc r it n) (v + 1)) := by
  rw [sOr_bit v hv _ (sAl_lt _ v), sAl, if_pos (by unfold sLf; rw [if_pos hf]; decide)]
theorem lf_0 {tc : Nat → sTc} {r : sR} {it : Nat → Int32} {n v : Nat} (hf : ¬ sF1 (sOt tc r v it) n = 0) : nI (sAl (sLf tc r it n) v) = nI (sAl (sLf tc r it n) (v + 1)) := by
  rw [sAl, if_neg (by unfold sLf; rw [if_neg hf]; decide)]
set_option maxHeartbeats 4000000 in
set_option maxRecDepth 20000 in
theorem t_X5_fittingPeople_0 (l : Launch) (d : Nat) (z : xMem) (r : sR) (cnt : Nat) (tc : Nat → sTc) (hr : RX z 19 r) (hw : sW r cnt) (ht : TX z 1 cnt tc) (n : Nat) (it : Nat → Int32) (hn : n ≤ 10) (h48 : z.1 48 1 = nI n) (hit : ∀ i, i < n → z.1 49 i = it i) : XMi l (d + 6) yX5_fittingPeople cX5_fittingPeople 4 (some .int) shX [.ref 0, .ref 48] z (fun v9 z' => v9 = nI (sAl (sLf tc r it n) (r 7 4)) ∧ KU U0 z z') := by
  refine XM.of (by decide) (Nat.le_of_ble_eq_true rfl) (fun xp xe xs xm xar xbl xme xc xD xcs xad xAA xCC xhr => ?_)
  generalize xhQ : MQ xbl _ xar xs 0 0 xAA = xQ
  show ww xp l xe (xRm (d + 6)) xs xm xar xbl xme xc 4 xD xcs xad shX xAA xQ 0 [(0, .ref 0), (1, .ref 48)] [] z
  have hb := hw.1
  have h74 : r 7 4 ≤ 4 := hw.2.2.2.2.2.2.1
  refine ww_blk xCC okX5_fittingPeople 0 4 (ps := []) (pc' := 4) (lv' := [(3, .int 0), (2, .int 0), (0, .ref 0), (1, .ref 48)]) (st' := []) (z' := z) rfl trivial ?_
  have L4 : ∀ (n4 : Nat) (v : Nat) (zL : xMem), r 7 4 - v < n4 → (KU U0 z zL) → (v ≤ r 7 4) → ww xp l xe (xRm (d + 6)) xs xm xar xbl xme xc 4 xD xcs xad shX xAA xQ 4 [(3, .int (nI v)), (2, .int (nI (sAl (sLf tc r it n) v))), (0, .ref 0), (1, .ref 48)] [] zL := by
    intro n4
    induction n4 with
    | zero =>
      intro v zL hmu4
      exact absurd hmu4 (Nat.not_lt_zero _)
    | succ n4 ih4 =>
      intro v zL hmu4 e4_0 e4_1
      have hrL := RX_U e4_0 (by decide) hr
      have htL := TX_U e4_0 (by decide) ht
      refine ww_blk xCC okX5_fittingPeople 4 4 (ps := []) (pc' := 12) (lv' := [(3, .int (nI v)), (2, .int (nI (sAl (sLf tc r it n) v))), (0, .ref 0), (1, .ref 48)]) (st' := [.int (zL.1 19 9), .int (nI v)]) (z' := zL) rfl trivial ?_
      rw [show zL.1 19 9 = nI (r 7 4) from hrL.2.2.2.2.2.2.2.2.2.2.2.2.1]
      refine ww_br xCC okX5_fittingPeople 8 (P := (nI (r 7 4)) ≤ (nI v)) (t1 := 40) (t2 := 15) (r := []) rfl (fun c1 => ?_) (fun c1 => ?_)
      · skip
        replace c1 : (r 7 4) ≤ v := (sLE (a := (r 7 4)) (b := v) (by omega) (by omega)).mp c1
        refine ww_blk xCC okX5_fittingPeople 24 1 (ps := []) (pc' := 41) (lv' := [(3, .int (nI v)), (2, .int (nI (sAl (sLf tc r it n) v))), (0, .ref 0), (1, .ref 48)]) (st' := [.int (nI (sAl (sLf tc r it n) v))]) (z' := zL) rfl trivial ?_
        subst xhQ
        exact ww_iret xCC okX5_fittingPeople 25 xhr rfl rfl ⟨_, rfl, ⟨(by rw [show v = r 7 4 by omega]), e4_0⟩⟩
      · skip
        replace c1 : ¬ (r 7 4) ≤ v := fun q => c1 ((sLE (a := (r 7 4)) (b := v) (by omega) (by omega)).mpr q)
        refine ww_blk xCC okX5_fittingPeople 9 4 (ps := []) (pc' := 21) (lv' := [(3, .int (nI v)), (2, .int (nI (sAl (sLf tc r it n) v))), (0, .ref 0), (1, .ref 48)]) (st' := [.int (nI v), .ref 48, .ref 19]) (z' := zL) rfl trivial ?_
        refine ww_callVEi xCC okX5_fittingPeople 13 (ix := 200) (t_X0_firstOtherwise l d v (xPull esNS0 zL) r cnt tc (RX_pull (by decide) hrL) hw (TX_pull (by decide) htL) n it hn ((congrFun (e4_0 48 (by decide)) 1).trans h48) (fun i hi => (congrFun (e4_0 49 (by decide)) i).trans (hit i hi)) (by omega)) (by omega) (by decide) xyX0_firstOtherwise xiX0_firstOtherwise (Or.inr (List.mem_of_getElem? (i := 696) (by decide +kernel))) (by decide +kernel) (by decide) (fun q => by cases q) (q0 := 19) rfl rfl rfl rfl (rest := []) rfl (Nat.le_of_ble_eq_true rfl) rfl (fun vcO zcO hcO => ?_)
        have hkO := KU_esNS0_KN (rw := xHasRaw shRS) hcO.2
        obtain ⟨zO, hzO⟩ : ∃ y, y = xBack esNS0 (xHasRaw shRS) zL zcO := ⟨_, rfl⟩
        rw [← hzO] at hkO ⊢
        rw [hcO.1]
        have hkk := KU_tr e4_0 hkO
        refine ww_blk xCC okX5_fittingPeople 14 1 (ps := []) (pc' := 25) (lv' := [(3, .int (nI v)), (2, .int (nI (sAl (sLf tc r it n) v))), (0, .ref 0), (1, .ref 48)]) (st' := [.int (-1), .int (cI (sF1 (sOt tc r v it) n))]) (z' := zO) rfl trivial ?_
        refine ww_br xCC okX5_fittingPeople 15 (P := (cI (sF1 (sOt tc r v it) n)) = (-1)) (t1 := 28) (t2 := 34) (r := []) rfl (fun c3 => ?_) (fun c3 => ?_)
        · skip
          have hf : sF1 (sOt tc r v it) n = 0 := cI_m (by have := sF1_k (sOt tc r v it) n; omega) c3
          refine ww_blk xCC okX5_fittingPeople 16 8 (ps := []) (pc' := 4) (lv' := [(3, .int ((nI v) + 1)), (2, .int ((nI (sAl (sLf tc r it n) v)) ||| (1 <<< ((nI v) &&& 31)))), (0, .ref 0), (1, .ref 48)]) (st' := []) (z' := zO) rfl trivial ?_
          rw [show nI v + (1 : Int32) = nI (v + 1) from nI_add v 1]
          exact ww_cut [0, 1, 2, 3] (xlc rfl (xlc (congrArg Value.int (show ((nI (sAl (sLf tc r it n) v)) ||| (1 <<< ((nI v) &&& 31)) : Int32) = nI (sAl (sLf tc r it n) (v + 1)) from (lf_1 (by omega) hf))) (xlc rfl (xlc rfl rfl)))) rfl rfl (ih4 (v + 1) zO (by omega) hkk (by omega))
        · skip
          have hf : ¬ sF1 (sOt tc r v it) n = 0 := cI_nm c3
          refine ww_blk xCC okX5_fittingPeople 22 2 (ps := []) (pc' := 4) (lv' := [(3, .int ((nI v) + 1)), (2, .int (nI (sAl (sLf tc r it n) v))), (0, .ref 0), (1, .ref 48)]) (st' := []) (z' := zO) rfl trivial ?_
          rw [show nI v + (1 : Int32) = nI (v + 1) from nI_add v 1]
          exact ww_cut [0, 1, 2, 3] (xlc rfl (xlc (congrArg Value.int (show (nI (sAl (sLf tc r it n) v) : Int32) = nI (sAl (sLf tc r it n) (v + 1)) from (lf_0 hf))) (xlc rfl (xlc rfl rfl)))) rfl rfl (ih4 (v + 1) zO (by omega) hkk (by omega))
  exact ww_cut [0, 1, 2, 3] (xlc (congrArg Value.int (show (0 : Int32) = nI 0 from rfl)) (xlc (congrArg Value.int (show (0 : Int32) = nI (sAl (sLf tc r it n) 0) from rfl)) (xlc rfl (xlc rfl rfl)))) rfl rfl (L4 (r 7 4 - 0 + 1) 0 z (Nat.lt_succ_self _) (KU_rf z) (by omega))

set_option maxHeartbeats 4000000 in
set_option maxRecDepth 20000 in
theorem t_X5_fittingPeople_1 (l : Launch) (d : Nat) (z : xMem) (r : sR) (cnt : Nat) (tc : Nat → sTc) (hr : RX z 19 r) (hw : sW r cnt) (ht : TX z 1 cnt tc) (n : Nat) (it : Nat → Int32) (hn : n ≤ 10) (h48 : z.1 50 1 = nI n) (hit : ∀ i, i < n → z.1 51 i = it i) : XMi l (d + 6) yX5_fittingPeople cX5_fittingPeople 4 (some .int) shX [.ref 0, .ref 50] z (fun v9 z' => v9 = nI (sAl (sLf tc r it n) (r 7 4)) ∧ KU U0 z z') := by
  refine XM.of (by decide) (Nat.le_of_ble_eq_true rfl) (fun xp xe xs xm xar xbl xme xc xD xcs xad xAA xCC xhr => ?_)
  generalize xhQ : MQ xbl _ xar xs 0 0 xAA = xQ
  show ww xp l xe (xRm (d + 6)) xs xm xar xbl xme xc 4 xD xcs xad shX xAA xQ 0 [(0, .ref 0), (1, .ref 50)] [] z
  have hb := hw.1
  have h74 : r 7 4 ≤ 4 := hw.2.2.2.2.2.2.1
  refine ww_blk xCC okX5_fittingPeople 0 4 (ps := []) (pc' := 4) (lv' := [(3, .int 0), (2, .int 0), (0, .ref 0), (1, .ref 50)]) (st' := []) (z' := z) rfl trivial ?_
  have L4 : ∀ (n4 : Nat) (v : Nat) (zL : xMem), r 7 4 - v < n4 → (KU U0 z zL) → (v ≤ r 7 4) → ww xp l xe (xRm (d + 6)) xs xm xar xbl xme xc 4 xD xcs xad shX xAA xQ 4 [(3, .int (nI v)), (2, .int (nI (sAl (sLf tc r it n) v))), (0, .ref 0), (1, .ref 50)] [] zL := by
    intro n4
    induction n4 with
    | zero =>
      intro v zL hmu4
      exact absurd hmu4 (Nat.not_lt_zero _)
    | succ n4 ih4 =>
      intro v zL hmu4 e4_0 e4_1
      have hrL := RX_U e4_0 (by decide) hr
      have htL := TX_U e4_0 (by decide) ht
      refine ww_blk xCC okX5_fittingPeople 4 4 (ps := []) (pc' := 12) (lv' := [(3, .int (nI v)), (2, .int (nI (sAl (sLf tc r it n) v))), (0, .ref 0), (1, .ref 50)]) (st' := [.int (zL.1 19 9), .int (nI v)]) (z' := zL) rfl trivial ?_
      rw [show zL.1 19 9 = nI (r 7 4) from hrL.2.2.2.2.2.2.2.2.2.2.2.2.1]
      refine ww_br xCC okX5_fittingPeople 8 (P := (nI (r 7 4)) ≤ (nI v)) (t1 := 40) (t2 := 15) (r := []) rfl (fun c1 => ?_) (fun c1 => ?_)
      · skip
        replace c1 : (r 7 4) ≤ v := (sLE (a := (r 7 4)) (b := v) (by omega) (by omega)).mp c1
        refine ww_blk xCC okX5_fittingPeople 24 1 (ps := []) (pc' := 41) (lv' := [(3, .int (nI v)), (2, .int (nI (sAl (sLf tc r it n) v))), (0, .ref 0), (1, .ref 50)]) (st' := [.int (nI (sAl (sLf tc r it n) v))]) (z' := zL) rfl trivial ?_
        subst xhQ
        exact ww_iret xCC okX5_fittingPeople 25 xhr rfl rfl ⟨_, rfl, ⟨(by rw [show v = r 7 4 by omega]), e4_0⟩⟩
      · skip
        replace c1 : ¬ (r 7 4) ≤ v := fun q => c1 ((sLE (a := (r 7 4)) (b := v) (by omega) (by omega)).mpr q)
        refine ww_blk xCC okX5_fittingPeople 9 4 (ps := []) (pc' := 21) (lv' := [(3, .int (nI v)), (2, .int (nI (sAl (sLf tc r it n) v))), (0, .ref 0), (1, .ref 50)]) (st' := [.int (nI v), .ref 50, .ref 19]) (z' := zL) rfl trivial ?_
        refine ww_callVEi xCC okX5_fittingPeople 13 (ix := 200) (t_X0_firstOtherwise l d v (xPull esNS1 zL) r cnt tc (RX_pull (by decide) hrL) hw (TX_pull (by decide) htL) n it hn ((congrFun (e4_0 50 (by decide)) 1).trans h48) (fun i hi => (congrFun (e4_0 51 (by decide)) i).trans (hit i hi)) (by omega)) (by omega) (by decide) xyX0_firstOtherwise xiX0_firstOtherwise (Or.inr (List.mem_of_getElem? (i := 696) (by decide +kernel))) (by decide +kernel) (by decide) (fun q => by cases q) (q0 := 19) rfl rfl rfl rfl (rest := []) rfl (Nat.le_of_ble_eq_true rfl) rfl (fun vcO zcO hcO => ?_)
        have hkO := KU_esNS1_KN (rw := xHasRaw shRS) hcO.2
        obtain ⟨zO, hzO⟩ : ∃ y, y = xBack esNS1 (xHasRaw shRS) zL zcO := ⟨_, rfl⟩
        rw [← hzO] at hkO ⊢
        rw [hcO.1]
        have hkk := KU_tr e4_0 hkO
        refine ww_blk xCC okX5_fittingPeople 14 1 (ps := []) (pc' := 25) (lv' := [(3, .int (nI v)), (2, .int (nI (sAl (sLf tc r it n) v))), (0, .ref 0), (1, .ref 50)]) (st' := [.int (-1), .int (cI (sF1 (sOt tc r v it) n))]) (z' := zO) rfl trivial ?_
        refine ww_br xCC okX5_fittingPeople 15 (P := (cI (sF1 (sOt tc r v it) n)) = (-1)) (t1 := 28) (t2 := 34) (r := []) rfl (fun c3 => ?_) (fun c3 => ?_)
        · skip
          have hf : sF1 (sOt tc r v it) n = 0 := cI_m (by have := sF1_k (sOt tc r v it) n; omega) c3
          refine ww_blk xCC okX5_fittingPeople 16 8 (ps := []) (pc' := 4) (lv' := [(3, .int ((nI v) + 1)), (2, .int ((nI (sAl (sLf tc r it n) v)) ||| (1 <<< ((nI v) &&& 31)))), (0, .ref 0), (1, .ref 50)]) (st' := []) (z' := zO) rfl trivial ?_
          rw [show nI v + (1 : Int32) = nI (v + 1) from nI_add v 1]
          exact ww_cut [0, 1, 2, 3] (xlc rfl (xlc (congrArg Value.int (show ((nI (sAl (sLf tc r it n) v)) ||| (1 <<< ((nI v) &&& 31)) : Int32) = nI (sAl (sLf tc r it n) (v + 1)) from (lf_1 (by omega) hf))) (xlc rfl (xlc rfl rfl)))) rfl rfl (ih4 (v + 1) zO (by omega) hkk (by omega))
        · skip
          have hf : ¬ sF1 (sOt tc r v it) n = 0 := cI_nm c3
          refine ww_blk xCC okX5_fittingPeople 22 2 (ps := []) (pc' := 4) (lv' := [(3, .int ((nI v) + 1)), (2, .int (nI (sAl (sLf tc r it n) v))), (0, .ref 0), (1, .ref 50)]) (st' := []) (z' := zO) rfl trivial ?_
          rw [show nI v + (1 : Int32) = nI (v + 1) from nI_add v 1]
          exact ww_cut [0, 1, 2, 3] (xlc rfl (xlc (congrArg Value.int (show (nI (sAl (sLf tc r it n) v) : Int32) = nI (sAl (sLf tc r it n) (v + 1)) from (lf_0 hf))) (xlc rfl (xlc rfl rfl)))) rfl rfl (ih4 (v + 1) zO (by omega) hkk (by omega))
  exact ww_cut [0, 1, 2, 3] (xlc (congrArg Value.int (show (0 : Int32) = nI 0 from rfl)) (xlc (congrArg Value.int (show (0 : Int32) = nI (sAl (sLf tc r it n) 0) from rfl)) (xlc rfl (xlc rfl rfl)))) rfl rfl (L4 (r 7 4 - 0 + 1) 0 z (Nat.lt_succ_self _) (KU_rf z) (by omega))

set_option maxHeartbeats 4000000 in
set_option maxRecDepth 20000 in
theorem t_X5_fittingPeople_2 (l : Launch) (d : Nat) (z : xMem) (r : sR) (cnt : Nat) (tc : Nat → sTc) (hr : RX z 19 r) (hw : sW r cnt) (ht : TX z 1 cnt tc) (n : Nat) (it : Nat → Int32) (hn : n ≤ 10) (h48 : z.1 52 1 = nI n) (hit : ∀ i, i < n → z.1 53 i = it i) : XMi l (d + 6) yX5_fittingPeople cX5_fittingPeople 4 (some .int) shX [.ref 0, .ref 52] z (fun v9 z' => v9 = nI (sAl (sLf tc r it n) (r 7 4)) ∧ KU U0 z z') := by
  refine XM.of (by decide) (Nat.le_of_ble_eq_true rfl) (fun xp xe xs xm xar xbl xme xc xD xcs xad xAA xCC xhr => ?_)
  generalize xhQ : MQ xbl _ xar xs 0 0 xAA = xQ
  show ww xp l xe (xRm (d + 6)) xs xm xar xbl xme xc 4 xD xcs xad shX xAA xQ 0 [(0, .ref 0), (1, .ref 52)] [] z
  have hb := hw.1
  have h74 : r 7 4 ≤ 4 := hw.2.2.2.2.2.2.1
  refine ww_blk xCC okX5_fittingPeople 0 4 (ps := []) (pc' := 4) (lv' := [(3, .int 0), (2, .int 0), (0, .ref 0), (1, .ref 52)]) (st' := []) (z' := z) rfl trivial ?_
  have L4 : ∀ (n4 : Nat) (v : Nat) (zL : xMem), r 7 4 - v < n4 → (KU U0 z zL) → (v ≤ r 7 4) → ww xp l xe (xRm (d + 6)) xs xm xar xbl xme xc 4 xD xcs xad shX xAA xQ 4 [(3, .int (nI v)), (2, .int (nI (sAl (sLf tc r it n) v))), (0, .ref 0), (1, .ref 52)] [] zL := by
    intro n4
    induction n4 with
    | zero =>
      intro v zL hmu4
      exact absurd hmu4 (Nat.not_lt_zero _)
    | succ n4 ih4 =>
      intro v zL hmu4 e4_0 e4_1
      have hrL := RX_U e4_0 (by decide) hr
      have htL := TX_U e4_0 (by decide) ht
      refine ww_blk xCC okX5_fittingPeople 4 4 (ps := []) (pc' := 12) (lv' := [(3, .int (nI v)), (2, .int (nI (sAl (sLf tc r it n) v))), (0, .ref 0), (1, .ref 52)]) (st' := [.int (zL.1 19 9), .int (nI v)]) (z' := zL) rfl trivial ?_
      rw [show zL.1 19 9 = nI (r 7 4) from hrL.2.2.2.2.2.2.2.2.2.2.2.2.1]
      refine ww_br xCC okX5_fittingPeople 8 (P := (nI (r 7 4)) ≤ (nI v)) (t1 := 40) (t2 := 15) (r := []) rfl (fun c1 => ?_) (fun c1 => ?_)
      · skip
        replace c1 : (r 7 4) ≤ v := (sLE (a := (r 7 4)) (b := v) (by omega) (by omega)).mp c1
        refine ww_blk xCC okX5_fittingPeople 24 1 (ps := []) (pc' := 41) (lv' := [(3, .int (nI v)), (2, .int (nI (sAl (sLf tc r it n) v))), (0, .ref 0), (1, .ref 52)]) (st' := [.int (nI (sAl (sLf tc r it n) v))]) (z' := zL) rfl trivial ?_
        subst xhQ
        exact ww_iret xCC okX5_fittingPeople 25 xhr rfl rfl ⟨_, rfl, ⟨(by rw [show v = r 7 4 by omega]), e4_0⟩⟩
      · skip
        replace c1 : ¬ (r 7 4) ≤ v := fun q => c1 ((sLE (a := (r 7 4)) (b := v) (by omega) (by omega)).mpr q)
        refine ww_blk xCC okX5_fittingPeople 9 4 (ps := []) (pc' := 21) (lv' := [(3, .int (nI v)), (2, .int (nI (sAl (sLf tc r it n) v))), (0, .ref 0), (1, .ref 52)]) (st' := [.int (nI v), .ref 52, .ref 19]) (z' := zL) rfl trivial ?_
        refine ww_callVEi xCC okX5_fittingPeople 13 (ix := 200) (t_X0_firstOtherwise l d v (xPull esNS2 zL) r cnt tc (RX_pull (by decide) hrL) hw (TX_pull (by decide) htL) n it hn ((congrFun (e4_0 52 (by decide)) 1).trans h48) (fun i hi => (congrFun (e4_0 53 (by decide)) i).trans (hit i hi)) (by omega)) (by omega) (by decide) xyX0_firstOtherwise xiX0_firstOtherwise (Or.inr (List.mem_of_getElem? (i := 696) (by decide +kernel))) (by decide +kernel) (by decide) (fun q => by cases q) (q0 := 19) rfl rfl rfl rfl (rest := []) rfl (Nat.le_of_ble_eq_true rfl) rfl (fun vcO zcO hcO => ?_)
        have hkO := KU_esNS2_KN (rw := xHasRaw shRS) hcO.2
        obtain ⟨zO, hzO⟩ : ∃ y, y = xBack esNS2 (xHasRaw shRS) zL zcO := ⟨_, rfl⟩
        rw [← hzO] at hkO ⊢
        rw [hcO.1]
        have hkk := KU_tr e4_0 hkO
        refine ww_blk xCC okX5_fittingPeople 14 1 (ps := []) (pc' := 25) (lv' := [(3, .int (nI v)), (2, .int (nI (sAl (sLf tc r it n) v))), (0, .ref 0), (1, .ref 52)]) (st' := [.int (-1), .int (cI (sF1 (sOt tc r v it) n))]) (z' := zO) rfl trivial ?_
        refine ww_br xCC okX5_fittingPeople 15 (P := (cI (sF1 (sOt tc r v it) n)) = (-1)) (t1 := 28) (t2 := 34) (r := []) rfl (fun c3 => ?_) (fun c3 => ?_)
        · skip
          have hf : sF1 (sOt tc r v it) n = 0 := cI_m (by have := sF1_k (sOt tc r v it) n; omega) c3
          refine ww_blk xCC okX5_fittingPeople 16 8 (ps := []) (pc' := 4) (lv' := [(3, .int ((nI v) + 1)), (2, .int ((nI (sAl (sLf tc r it n) v)) ||| (1 <<< ((nI v) &&& 31)))), (0, .ref 0), (1, .ref 52)]) (st' := []) (z' := zO) rfl trivial ?_
          rw [show nI v + (1 : Int32) = nI (v + 1) from nI_add v 1]
          exact ww_cut [0, 1, 2, 3] (xlc rfl (xlc (congrArg Value.int (show ((nI (sAl (sLf tc r it n) v)) ||| (1 <<< ((nI v) &&& 31)) : Int32) = nI (sAl (sLf tc r it n) (v + 1)) from (lf_1 (by omega) hf))) (xlc rfl (xlc rfl rfl)))) rfl rfl (ih4 (v + 1) zO (by omega) hkk (by omega))
        · skip
          have hf : ¬ sF1 (sOt tc r v it) n = 0 := cI_nm c3
          refine ww_blk xCC okX5_fittingPeople 22 2 (ps := []) (pc' := 4) (lv' := [(3, .int ((nI v) + 1)), (2, .int (nI (sAl (sLf tc r it n) v))), (0, .ref 0), (1, .ref 52)]) (st' := []) (z' := zO) rfl trivial ?_
          rw [show nI v + (1 : Int32) = nI (v + 1) from nI_add v 1]
          exact ww_cut [0, 1, 2, 3] (xlc rfl (xlc (congrArg Value.int (show (nI (sAl (sLf tc r it n) v) : Int32) = nI (sAl (sLf tc r it n) (v + 1)) from (lf_0 hf))) (xlc rfl (xlc rfl rfl)))) rfl rfl (ih4 (v + 1) zO (by omega) hkk (by omega))
  exact ww_cut [0, 1, 2, 3] (xlc (congrArg Value.int (show (0 : Int32) = nI 0 from rfl)) (xlc (congrArg Value.int (show (0 : Int32) = nI (sAl (sLf tc r it n) 0) from rfl)) (xlc rfl (xlc rfl rfl)))) rfl rfl (L4 (r 7 4 - 0 + 1) 0 z (Nat.lt_succ_self _) (KU_rf z) (by omega))

set_option maxHeartbeats 4000000 in
set_option maxRecDepth 20000 in
theorem t_X5_fittingPeople_3 (l : Launch) (d : Nat) (z : xMem) (r : sR) (cnt : Nat) (tc : Nat → sTc) (hr : RX z 19 r) (hw : sW r cnt) (ht : TX z 1 cnt tc) (n : Nat) (it : Nat → Int32) (hn : n ≤ 10) (h48 : z.1 54 1 = nI n) (hit : ∀ i, i < n → z.1 55 i = it i) : XMi l (d + 6) yX5_fittingPeople cX5_fittingPeople 4 (some .int) shX [.ref 0, .ref 54] z (fun v9 z' => v9 = nI (sAl (sLf tc r it n) (r 7 4)) ∧ KU U0 z z') := by
  refine XM.of (by decide) (Nat.le_of_ble_eq_true rfl) (fun xp xe xs xm xar xbl xme xc xD xcs xad xAA xCC xhr => ?_)
  generalize xhQ : MQ xbl _ xar xs 0 0 xAA = xQ
  show ww xp l xe (xRm (d + 6)) xs xm xar xbl xme xc 4 xD xcs xad shX xAA xQ 0 [(0, .ref 0), (1, .ref 54)] [] z
  have hb := hw.1
  have h74 : r 7 4 ≤ 4 := hw.2.2.2.2.2.2.1
  refine ww_blk xCC okX5_fittingPeople 0 4 (ps := []) (pc' := 4) (lv' := [(3, .int 0), (2, .int 0), (0, .ref 0), (1, .ref 54)]) (st' := []) (z' := z) rfl trivial ?_
  have L4 : ∀ (n4 : Nat) (v : Nat) (zL : xMem), r 7 4 - v < n4 → (KU U0 z zL) → (v ≤ r 7 4) → ww xp l xe (xRm (d + 6)) xs xm xar xbl xme xc 4 xD xcs xad shX xAA xQ 4 [(3, .int (nI v)), (2, .int (nI (sAl (sLf tc r it n) v))), (0, .ref 0), (1, .ref 54)] [] zL := by
    intro n4
    induction n4 with
    | zero =>
      intro v zL hmu4
      exact absurd hmu4 (Nat.not_lt_zero _)
    | succ n4 ih4 =>
      intro v zL hmu4 e4_0 e4_1
      have hrL := RX_U e4_0 (by decide) hr
      have htL := TX_U e4_0 (by decide) ht
      refine ww_blk xCC okX5_fittingPeople 4 4 (ps := []) (pc' := 12) (lv' := [(3, .int (nI v)), (2, .int (nI (sAl (sLf tc r it n) v))), (0, .ref 0), (1, .ref 54)]) (st' := [.int (zL.1 19 9), .int (nI v)]) (z' := zL) rfl trivial ?_
      rw [show zL.1 19 9 = nI (r 7 4) from hrL.2.2.2.2.2.2.2.2.2.2.2.2.1]
      refine ww_br xCC okX5_fittingPeople 8 (P := (nI (r 7 4)) ≤ (nI v)) (t1 := 40) (t2 := 15) (r := []) rfl (fun c1 => ?_) (fun c1 => ?_)
      · skip
        replace c1 : (r 7 4) ≤ v := (sLE (a := (r 7 4)) (b := v) (by omega) (by omega)).mp c1
        refine ww_blk xCC okX5_fittingPeople 24 1 (ps := []) (pc' := 41) (lv' := [(3, .int (nI v)), (2, .int (nI (sAl (sLf tc r it n) v))), (0, .ref 0), (1, .ref 54)]) (st' := [.int (nI (sAl (sLf tc r it n) v))]) (z' := zL) rfl trivial ?_
        subst xhQ
        exact ww_iret xCC okX5_fittingPeople 25 xhr rfl rfl ⟨_, rfl, ⟨(by rw [show v = r 7 4 by omega]), e4_0⟩⟩
      · skip
        replace c1 : ¬ (r 7 4) ≤ v := fun q => c1 ((sLE (a := (r 7 4)) (b := v) (by omega) (by omega)).mpr q)
        refine ww_blk xCC okX5_fittingPeople 9 4 (ps := []) (pc' := 21) (lv' := [(3, .int (nI v)), (2, .int (nI (sAl (sLf tc r it n) v))), (0, .ref 0), (1, .ref 54)]) (st' := [.int (nI v), .ref 54, .ref 19]) (z' := zL) rfl trivial ?_
        refine ww_callVEi xCC okX5_fittingPeople 13 (ix := 200) (t_X0_firstOtherwise l d v (xPull esNS3 zL) r cnt tc (RX_pull (by decide) hrL) hw (TX_pull (by decide) htL) n it hn ((congrFun (e4_0 54 (by decide)) 1).trans h48) (fun i hi => (congrFun (e4_0 55 (by decide)) i).trans (hit i hi)) (by omega)) (by omega) (by decide) xyX0_firstOtherwise xiX0_firstOtherwise (Or.inr (List.mem_of_getElem? (i := 696) (by decide +kernel))) (by decide +kernel) (by decide) (fun q => by cases q) (q0 := 19) rfl rfl rfl rfl (rest := []) rfl (Nat.le_of_ble_eq_true rfl) rfl (fun vcO zcO hcO => ?_)
        have hkO := KU_esNS3_KN (rw := xHasRaw shRS) hcO.2
        obtain ⟨zO, hzO⟩ : ∃ y, y = xBack esNS3 (xHasRaw shRS) zL zcO := ⟨_, rfl⟩
        rw [← hzO] at hkO ⊢
        rw [hcO.1]
        have hkk := KU_tr e4_0 hkO
        refine ww_blk xCC okX5_fittingPeople 14 1 (ps := []) (pc' := 25) (lv' := [(3, .int (nI v)), (2, .int (nI (sAl (sLf tc r it n) v))), (0, .ref 0), (1, .ref 54)]) (st' := [.int (-1), .int (cI (sF1 (sOt tc r v it) n))]) (z' := zO) rfl trivial ?_
        refine ww_br xCC okX5_fittingPeople 15 (P := (cI (sF1 (sOt tc r v it) n)) = (-1)) (t1 := 28) (t2 := 34) (r := []) rfl (fun c3 => ?_) (fun c3 => ?_)
        · skip
          have hf : sF1 (sOt tc r v it) n = 0 := cI_m (by have := sF1_k (sOt tc r v it) n; omega) c3
          refine ww_blk xCC okX5_fittingPeople 16 8 (ps := []) (pc' := 4) (lv' := [(3, .int ((nI v) + 1)), (2, .int ((nI (sAl (sLf tc r it n) v)) ||| (1 <<< ((nI v) &&& 31)))), (0, .ref 0), (1, .ref 54)]) (st' := []) (z' := zO) rfl trivial ?_
          rw [show nI v + (1 : Int32) = nI (v + 1) from nI_add v 1]
          exact ww_cut [0, 1, 2, 3] (xlc rfl (xlc (congrArg Value.int (show ((nI (sAl (sLf tc r it n) v)) ||| (1 <<< ((nI v) &&& 31)) : Int32) = nI (sAl (sLf tc r it n) (v + 1)) from (lf_1 (by omega) hf))) (xlc rfl (xlc rfl rfl)))) rfl rfl (ih4 (v + 1) zO (by omega) hkk (by omega))
        · skip
          have hf : ¬ sF1 (sOt tc r v it) n = 0 := cI_nm c3
          refine ww_blk xCC okX5_fittingPeople 22 2 (ps := []) (pc' := 4) (lv' := [(3, .int ((nI v) + 1)), (2, .int (nI (sAl (sLf tc r it n) v))), (0, .ref 0), (1, .ref 54)]) (st' := []) (z' := zO) rfl trivial ?_
          rw [show nI v + (1 : Int32) = nI (v + 1) from nI_add v 1]
          exact ww_cut [0, 1, 2, 3] (xlc rfl (xlc (congrArg Value.int (show (nI (sAl (sLf tc r it n) v) : Int32) = nI (sAl (sLf tc r it n) (v + 1)) from (lf_0 hf))) (xlc rfl (xlc rfl rfl)))) rfl rfl (ih4 (v + 1) zO (by omega) hkk (by omega))
  exact ww_cut [0, 1, 2, 3] (xlc (congrArg Value.int (show (0 : Int32) = nI 0 from rfl)) (xlc (congrArg Value.int (show (0 : Int32) = nI (sAl (sLf tc r it n) 0) from rfl)) (xlc rfl (xlc rfl rfl)))) rfl rfl (L4 (r 7 4 - 0 + 1) 0 z (Nat.lt_succ_self _) (KU_rf z) (by omega))

set_option maxHeartbeats 4000000 in
set_option maxRecDepth 20000 in
theorem t_X5_tells (l : Launch) (d : Nat) (x y w : Int32) (z : xMem) (r : sR) (cnt : Nat) (tc : Nat → sTc) (hr : RX z 19 r) (hw : sW r cnt) (ht : TX z 1 cnt tc) (hS : sSub r) (hZ : sZ r) (hTH : TH z) (T : Nat → sSh) (hT : SX z T) : XMi l (d + 7) yX5_tells cX5_tells 5 (some .int) shX [.ref 0, .int x, .int y, .int w] z (fun v9 z' => v9 = sTells tc cnt r T x y w ∧ TH z' ∧ KU UH z z') := by
  refine XM.of (by decide) (Nat.le_of_ble_eq_true rfl) (fun xp xe xs xm xar xbl xme xc xD xcs xad xAA xCC xhr => ?_)
  generalize xhQ : MQ xbl _ xar xs 0 0 xAA = xQ
  show ww xp l xe (xRm (d + 7)) xs xm xar xbl xme xc 5 xD xcs xad shX xAA xQ 0 [(0, .ref 0), (1, .int x), (2, .int y), (3, .int w)] [] z
  have hb := hw.1
  have h74 : r 7 4 ≤ 4 := hw.2.2.2.2.2.2.1
  have hc1 := ht.2.1
  have hc6 := ht.2.2.1
  refine ww_blk xCC okX5_tells 0 2 (ps := []) (pc' := 2) (lv' := [(0, .ref 0), (1, .int x), (2, .int y), (3, .int w)]) (st' := [.int x, .ref 0]) (z' := z) rfl trivial ?_
  refine ww_callVI xCC okX5_tells 2 (ix := 192) (t_X5_sheetAt l d x z) (by omega) (by decide) xyX5_sheetAt xiX5_sheetAt (Or.inl (lw_gt_of (List.mem_of_getElem? (i := 692) (by decide +kernel)) rfl)) rfl rfl rfl (rest := []) rfl (Nat.le_of_ble_eq_true rfl) rfl (fun r9 z9 h9 => ?_)
  obtain ⟨hz9, hr9⟩ := h9
  rw [hz9]
  rcases hr9 with ⟨hx, hr9⟩ | ⟨hx, hr9⟩ | ⟨hx, hr9⟩ | ⟨hx, hr9⟩ | ⟨hx, hr9⟩
  · skip
    rw [hr9]
    show ww xp l xe (xRm (d + 7)) xs xm xar xbl xme xc 5 xD xcs xad shX xAA xQ 5 [(0, .ref 0), (1, .int x), (2, .int y), (3, .int w)] [.null] z
    refine ww_blk xCC okX5_tells 3 3 (ps := []) (pc' := 30) (lv' := [(4, .null), (0, .ref 0), (1, .int x), (2, .int y), (3, .int w)]) (st' := []) (z' := z) rfl trivial ?_
    refine ww_blk xCC okX5_tells 15 1 (ps := []) (pc' := 32) (lv' := [(4, .null), (0, .ref 0), (1, .int x), (2, .int y), (3, .int w)]) (st' := [.int (-2)]) (z' := z) rfl trivial ?_
    subst xhQ
    exact ww_iret xCC okX5_tells 16 xhr rfl rfl ⟨_, rfl, ⟨(by unfold sTells; rw [if_neg (by omega)]), hTH, KU_rf z⟩⟩
  · skip
    rw [hr9]
    subst hx
    show ww xp l xe (xRm (d + 7)) xs xm xar xbl xme xc 5 xD xcs xad shX xAA xQ 5 [(0, .ref 0), (1, .int (nI 0)), (2, .int y), (3, .int w)] [.ref 48] z
    refine ww_blk xCC okX5_tells 3 3 (ps := []) (pc' := 12) (lv' := [(4, .ref 48), (0, .ref 0), (1, .int (nI 0)), (2, .int y), (3, .int w)]) (st' := []) (z' := z) rfl trivial ?_
    refine ww_blk xCC okX5_tells 6 2 (ps := []) (pc' := 14) (lv' := [(4, .ref 48), (0, .ref 0), (1, .int (nI 0)), (2, .int y), (3, .int w)]) (st' := [.int y, .ref 0]) (z' := z) rfl trivial ?_
    refine ww_callVIz xCC okX5_tells 8 (ix := 82) (t_X5_isOne l d y z (r 7 4) hr.2.2.2.2.2.2.2.2.2.2.2.2.1 h74) (by omega) (by decide) xyX5_isOne xiX5_isOne (Or.inl (lw_gt_of (List.mem_of_getElem? (i := 340) (by decide +kernel)) rfl)) rfl rfl rfl (rest := []) rfl (Nat.le_of_ble_eq_true rfl) rfl (fun zO hO => ?_) (fun zO hO => ?_)
    · skip
      rw [hO.2]
      obtain ⟨⟨hOa, hOb⟩, -⟩ := hO
      obtain ⟨p, hp, rfl⟩ := sNN (x := y) (n := r 7 4) hOa (by omega)
      refine ww_br xCC okX5_tells 9 (P := 1 = 0) (t1 := 30) (t2 := 20) (r := []) rfl (fun q => absurd q (by decide)) (fun _ => ?_)
      refine ww_blk xCC okX5_tells 10 3 (ps := []) (pc' := 24) (lv' := [(4, .ref 48), (0, .ref 0), (1, .int (nI 0)), (2, .int (nI p)), (3, .int w)]) (st' := [.int 8, .int 0, .int w]) (z' := z) rfl trivial ?_
      refine ww_callSNz xCC okX5_tells 13 (ix := 52) (t_X5_within l d w 0 8 _) (by omega) (by decide) xyX5_within xiX5_within (Or.inl (lw_gt_of (List.mem_of_getElem? (i := 327) (by decide +kernel)) rfl)) rfl (rest := []) rfl (Nat.le_of_ble_eq_true rfl) rfl (fun z4 h5 => ?_) (fun z4 h5 => ?_)
      · skip
        have h5 : 0 ≤ w.toInt ∧ w.toInt ≤ 8 := h5
        obtain ⟨u, hu, rfl⟩ := sNN (x := w) (n := 9) (by omega) (by omega)
        refine ww_br xCC okX5_tells 14 (P := 1 = 0) (t1 := 30) (t2 := 33) (r := []) rfl (fun q => absurd q (by decide)) (fun _ => ?_)
        refine ww_blk xCC okX5_tells 17 3 (ps := []) (pc' := 39) (lv' := [(4, .ref 48), (0, .ref 0), (1, .int (nI 0)), (2, .int (nI p)), (3, .int (nI u))]) (st' := [.int (-1), .int (z.1 48 0)]) (z' := z) rfl trivial ?_
        rw [show z.1 48 0 = cI (T 0).1 from (hT 0 (by decide)).2.1]
        refine ww_br xCC okX5_tells 20 (P := (cI (T 0).1) = (-1)) (t1 := 42) (t2 := 45) (r := []) rfl (fun c7 => ?_) (fun c7 => ?_)
        · skip
          have h0 := cI_m (by have q0 := (hT 0 (by decide)).1; have q1 := (hT 1 (by decide)).1; have q2 := (hT 2 (by decide)).1; have q3 := (hT 3 (by decide)).1; omega) c7
          refine ww_blk xCC okX5_tells 21 1 (ps := []) (pc' := 44) (lv' := [(4, .ref 48), (0, .ref 0), (1, .int (nI 0)), (2, .int (nI p)), (3, .int (nI u))]) (st' := [.int (-11)]) (z' := z) rfl trivial ?_
          subst xhQ
          exact ww_iret xCC okX5_tells 22 xhr rfl rfl ⟨_, rfl, ⟨(by rw [sTells_m (by decide) hp h74 (by omega) h0]), hTH, KU_rf z⟩⟩
        · skip
          have h0 := cI_nm c7
          obtain ⟨n, k, it, hTs, hk2, hn40, hc0, hc1, hcI⟩ := SY_1 (hT 0 (by decide)) h0
          refine ww_blk xCC okX5_tells 23 3 (ps := []) (pc' := 52) (lv' := [(4, .ref 48), (0, .ref 0), (1, .int (nI 0)), (2, .int (nI p)), (3, .int (nI u))]) (st' := [.int 10, .int (z.1 48 1)]) (z' := z) rfl trivial ?_
          rw [show z.1 48 1 = nI n from hc1]
          refine ww_br xCC okX5_tells 26 (P := (nI n) ≤ 10) (t1 := 58) (t2 := 55) (r := []) rfl (fun c8 => ?_) (fun c8 => ?_)
          · skip
            replace c8 : n ≤ 10 := (sLE (a := n) (b := 10) (by omega) (by omega)).mp c8
            refine ww_blk xCC okX5_tells 29 4 (ps := []) (pc' := 66) (lv' := [(4, .ref 48), (0, .ref 0), (1, .int (nI 0)), (2, .int (nI p)), (3, .int (nI u))]) (st' := [.ref 19, .ref 27]) (z' := z) rfl trivial ?_
            obtain ⟨rt0, hrt0, hzt0⟩ := hTH
            refine ww_callVEv xCC okX5_tells 33 (ix := 139) (t_X0_takeFrom l d (xPull esHN z) rt0 r (RX_pull (by decide) hrt0) (RX_pull8 (by decide) hr) hzt0 hZ) (by omega) (by decide) xyX0_takeFrom xiX0_takeFrom (Or.inr (List.mem_of_getElem? (i := 603) (by decide +kernel))) (by decide +kernel) (by decide) (fun q => by cases q) (q0 := 27) rfl rfl rfl rfl (rest := []) rfl (Nat.le_of_ble_eq_true rfl) rfl (fun zcA hcA => ?_)
            have hkA := KU_esHN_TF (rw := xHasRaw shRR) hcA.2
            obtain ⟨zA, hzA⟩ : ∃ y, y = xBack esHN (xHasRaw shRR) z zcA := ⟨_, rfl⟩
            rw [← hzA] at hkA ⊢
            have hrA := RX_back (es := esHN) (rw := xHasRaw shRR) (z := z) (b := 27) (by decide) hcA.1
            rw [← hzA] at hrA
            have htA := TX_U hkA (by decide) ht
            have hrN := RX_U hkA (by decide) hr
            have h48A : zA.1 48 1 = nI n := (congrFun (hkA 48 (by decide)) 1).trans hc1
            have hitA : ∀ i, i < n → zA.1 49 i = it i := fun i hi => (congrFun (hkA 49 (by decide)) i).trans (hcI i hi)
            have hn10 : n ≤ 10 := by omega
            refine ww_blk xCC okX5_tells 34 1 (ps := []) (pc' := 70) (lv' := [(4, .ref 48), (0, .ref 0), (1, .int (nI 0)), (2, .int (nI p)), (3, .int (nI u))]) (st' := [.int (nI u)]) (z' := zA) rfl trivial ?_
            refine ww_sw xCC okX5_tells 35 (x := (nI u)) (L := [(0, 116), (1, 127), (2, 139), (3, 150), (4, 159), (5, 168), (6, 178), (7, 188)]) (P := (nI u).toInt < 0 ∨ 7 < (nI u).toInt) (t0 := 205) (r := []) rfl (fun c11 => ?_) (And.intro (fun c11 => ?_) (And.intro (fun c11 => ?_) (And.intro (fun c11 => ?_) (And.intro (fun c11 => ?_) (And.intro (fun c11 => ?_) (And.intro (fun c11 => ?_) (And.intro (fun c11 => ?_) ((fun c11 => ?_)))))))))
            · skip
              rw [sTI (k := u) (by omega)] at c11
              refine ww_blk xCC okX5_tells 89 2 (ps := []) (pc' := 208) (lv' := [(4, .ref 48), (0, .ref 0), (1, .int (nI 0)), (2, .int (nI p)), (3, .int (nI u))]) (st' := [.ref 48, .ref 0]) (z' := zA) rfl trivial ?_
              refine ww_callVIi xCC okX5_tells 91 (ix := 215) (t_X5_fittingPeople_0 l d zA r cnt tc hrN hw htA n it hn10 h48A hitA) (by omega) (by decide) xyX5_fittingPeople xiX5_fittingPeople (Or.inl (lw_gt_of (List.mem_of_getElem? (i := 716) (by decide +kernel)) rfl)) rfl rfl rfl (rest := []) rfl (Nat.le_of_ble_eq_true rfl) rfl (fun vX zX hX => ?_)
              rw [hX.1]
              subst xhQ
              exact ww_iret xCC okX5_tells 92 xhr rfl rfl ⟨_, rfl, ⟨(by rw [sTells_y (by decide) hp h74 (by omega) hTs, if_neg (by omega), show u = 8 by omega, if_neg (by decide), if_pos rfl]), TH_U hX.2 (by decide) ⟨r, hrA, hZ⟩, KU_tr hkA (KU_mo hX.2 (by decide))⟩⟩
            · have c11 : (nI u) = 0 := c11
              replace c11 : u = 0 := (sEQ (a := u) (b := 0) (by omega) (by omega)).mp c11
              show ww xp l xe (xRm (d + 7)) xs xm xar xbl xme xc 5 xD xcs xad shX xAA xQ 116 [(4, .ref 48), (0, .ref 0), (1, .int (nI 0)), (2, .int (nI p)), (3, .int (nI u))] [] zA
              refine ww_blk xCC okX5_tells 36 4 (ps := []) (pc' := 123) (lv' := [(4, .ref 48), (0, .ref 0), (1, .int (nI 0)), (2, .int (nI p)), (3, .int (nI u))]) (st' := [.int (nI p), .ref 48, .ref 19]) (z' := zA) rfl trivial ?_
              refine ww_callVEi xCC okX5_tells 40 (ix := 200) (t_X0_firstOtherwise l (d + 1) p (xPull esNS0 zA) r cnt tc (RX_pull (by decide) hrN) hw (TX_pull (by decide) htA) n it hn10 h48A hitA (by omega)) (by omega) (by decide) xyX0_firstOtherwise xiX0_firstOtherwise (Or.inr (List.mem_of_getElem? (i := 696) (by decide +kernel))) (by decide +kernel) (by decide) (fun q => by cases q) (q0 := 19) rfl rfl rfl rfl (rest := []) rfl (Nat.le_of_ble_eq_true rfl) rfl (fun vcO zcO hcO => ?_)
              have hkO := KU_esNS0_KN (rw := xHasRaw shRS) hcO.2
              obtain ⟨zO, hzO⟩ : ∃ y, y = xBack esNS0 (xHasRaw shRS) zA zcO := ⟨_, rfl⟩
              rw [← hzO] at hkO ⊢
              rw [hcO.1]
              subst xhQ
              exact ww_iret xCC okX5_tells 41 xhr rfl rfl ⟨_, rfl, ⟨(by rw [sTells_y (by decide) hp h74 (by omega) hTs, if_neg (by omega), show u = 0 by omega, if_pos rfl]), TH_U hkO (by decide) ⟨r, hrA, hZ⟩, KU_tr hkA (KU_mo hkO (by decide))⟩⟩
            · have c11 : (nI u) = 1 := c11
              replace c11 : u = 1 := (sEQ (a := u) (b := 1) (by omega) (by omega)).mp c11
              show ww xp l xe (xRm (d + 7)) xs xm xar xbl xme xc 5 xD xcs xad shX xAA xQ 127 [(4, .ref 48), (0, .ref 0), (1, .int (nI 0)), (2, .int (nI p)), (3, .int (nI u))] [] zA
              refine ww_blk xCC okX5_tells 42 5 (ps := []) (pc' := 135) (lv' := [(4, .ref 48), (0, .ref 0), (1, .int (nI 0)), (2, .int (nI p)), (3, .int (nI u))]) (st' := [.int 6, .int 8, .int (nI p), .ref 48, .ref 0]) (z' := zA) rfl trivial ?_
              refine ww_callVIi xCC okX5_tells 47 (ix := 204) (t_X5_fittingBits_0 l d zA r cnt tc hrA hw htA hS hZ n it hn10 h48A hitA 8 8 p 6 (by decide) rfl (by omega) (by decide) (by unfold sIs; rw [sTI (k := p) (by omega)]; omega) hp (fun v hv => by show v ≤ 5; omega)) (by omega) (by decide) xyX5_fittingBits xiX5_fittingBits (Or.inl (lw_gt_of (List.mem_of_getElem? (i := 704) (by decide +kernel)) rfl)) rfl rfl rfl (rest := []) rfl (Nat.le_of_ble_eq_true rfl) rfl (fun vX zX hX => ?_)
              rw [hX.1]
              subst xhQ
              exact ww_iret xCC okX5_tells 48 xhr rfl rfl ⟨_, rfl, ⟨(by rw [sTells_y (by decide) hp h74 (by omega) hTs, if_neg (by omega), show u = 1 by omega, if_neg (by decide), if_neg (by decide), show sVr 1 = 8 from rfl, sTl, if_neg (by decide), if_neg (by decide), show sLst 8 cnt + 1 = 6 from rfl]), hX.2.1, KU_tr hkA hX.2.2⟩⟩
            · have c11 : (nI u) = 2 := c11
              replace c11 : u = 2 := (sEQ (a := u) (b := 2) (by omega) (by omega)).mp c11
              show ww xp l xe (xRm (d + 7)) xs xm xar xbl xme xc 5 xD xcs xad shX xAA xQ 139 [(4, .ref 48), (0, .ref 0), (1, .int (nI 0)), (2, .int (nI p)), (3, .int (nI u))] [] zA
              refine ww_blk xCC okX5_tells 49 5 (ps := []) (pc' := 146) (lv' := [(4, .ref 48), (0, .ref 0), (1, .int (nI 0)), (2, .int (nI p)), (3, .int (nI u))]) (st' := [.int 10, .int 5, .int (nI p), .ref 48, .ref 0]) (z' := zA) rfl trivial ?_
              refine ww_callVIi xCC okX5_tells 54 (ix := 204) (t_X5_fittingBits_0 l d zA r cnt tc hrA hw htA hS hZ n it hn10 h48A hitA 5 5 p 10 (by decide) rfl (by omega) (by decide) (by unfold sIs; rw [sTI (k := p) (by omega)]; omega) hp (fun v hv => by show v ≤ 9; omega)) (by omega) (by decide) xyX5_fittingBits xiX5_fittingBits (Or.inl (lw_gt_of (List.mem_of_getElem? (i := 704) (by decide +kernel)) rfl)) rfl rfl rfl (rest := []) rfl (Nat.le_of_ble_eq_true rfl) rfl (fun vX zX hX => ?_)
              rw [hX.1]
              subst xhQ
              exact ww_iret xCC okX5_tells 55 xhr rfl rfl ⟨_, rfl, ⟨(by rw [sTells_y (by decide) hp h74 (by omega) hTs, if_neg (by omega), show u = 2 by omega, if_neg (by decide), if_neg (by decide), show sVr 2 = 5 from rfl, sTl, if_neg (by decide), if_neg (by decide), show sLst 5 cnt + 1 = 10 from rfl]), hX.2.1, KU_tr hkA hX.2.2⟩⟩
            · have c11 : (nI u) = 3 := c11
              replace c11 : u = 3 := (sEQ (a := u) (b := 3) (by omega) (by omega)).mp c11
              show ww xp l xe (xRm (d + 7)) xs xm xar xbl xme xc 5 xD xcs xad shX xAA xQ 150 [(4, .ref 48), (0, .ref 0), (1, .int (nI 0)), (2, .int (nI p)), (3, .int (nI u))] [] zA
              refine ww_blk xCC okX5_tells 56 4 (ps := []) (pc' := 155) (lv' := [(4, .ref 48), (0, .ref 0), (1, .int (nI 0)), (2, .int (nI p)), (3, .int (nI u))]) (st' := [.int 2, .int (nI p), .ref 48, .ref 0]) (z' := zA) rfl trivial ?_
              refine ww_callVIi xCC okX5_tells 60 (ix := 208) (t_X5_howManyFit_0 l d zA r cnt tc hrA hw htA hS hZ n it hn10 h48A hitA 2 2 p  rfl (by omega) (by decide) (by unfold sIs; rw [sTI (k := p) (by omega)]; omega) hp (fun v hv => by show v ≤ 99; omega)) (by omega) (by decide) xyX5_howManyFit xiX5_howManyFit (Or.inl (lw_gt_of (List.mem_of_getElem? (i := 708) (by decide +kernel)) rfl)) rfl rfl rfl (rest := []) rfl (Nat.le_of_ble_eq_true rfl) rfl (fun vX zX hX => ?_)
              rw [hX.1]
              subst xhQ
              exact ww_iret xCC okX5_tells 61 xhr rfl rfl ⟨_, rfl, ⟨(by rw [sTells_y (by decide) hp h74 (by omega) hTs, if_neg (by omega), show u = 3 by omega, if_neg (by decide), if_neg (by decide), show sVr 3 = 2 from rfl, sTl, if_pos (by decide), show sLst 2 cnt + 1 = 100 from rfl]), hX.2.1, KU_tr hkA hX.2.2⟩⟩
            · have c11 : (nI u) = 4 := c11
              replace c11 : u = 4 := (sEQ (a := u) (b := 4) (by omega) (by omega)).mp c11
              show ww xp l xe (xRm (d + 7)) xs xm xar xbl xme xc 5 xD xcs xad shX xAA xQ 159 [(4, .ref 48), (0, .ref 0), (1, .int (nI 0)), (2, .int (nI p)), (3, .int (nI u))] [] zA
              refine ww_blk xCC okX5_tells 62 4 (ps := []) (pc' := 164) (lv' := [(4, .ref 48), (0, .ref 0), (1, .int (nI 0)), (2, .int (nI p)), (3, .int (nI u))]) (st' := [.int 2, .int (nI p), .ref 48, .ref 0]) (z' := zA) rfl trivial ?_
              refine ww_callVIi xCC okX5_tells 66 (ix := 212) (t_X5_leastFitting_0 l d zA r cnt tc hrA hw htA hS hZ n it hn10 h48A hitA 2 2 p  rfl (by omega) (by decide) (by unfold sIs; rw [sTI (k := p) (by omega)]; omega) hp (fun v hv => by show v ≤ 99; omega)) (by omega) (by decide) xyX5_leastFitting xiX5_leastFitting (Or.inl (lw_gt_of (List.mem_of_getElem? (i := 712) (by decide +kernel)) rfl)) rfl rfl rfl (rest := []) rfl (Nat.le_of_ble_eq_true rfl) rfl (fun vX zX hX => ?_)
              rw [hX.1]
              subst xhQ
              exact ww_iret xCC okX5_tells 67 xhr rfl rfl ⟨_, rfl, ⟨(by rw [sTells_y (by decide) hp h74 (by omega) hTs, if_neg (by omega), show u = 4 by omega, if_neg (by decide), if_neg (by decide), show sVr 4 = 2 from rfl, sTl, if_neg (by decide), if_pos (by decide), show sLst 2 cnt + 1 = 100 from rfl]), hX.2.1, KU_tr hkA hX.2.2⟩⟩
            · have c11 : (nI u) = 5 := c11
              replace c11 : u = 5 := (sEQ (a := u) (b := 5) (by omega) (by omega)).mp c11
              show ww xp l xe (xRm (d + 7)) xs xm xar xbl xme xc 5 xD xcs xad shX xAA xQ 168 [(4, .ref 48), (0, .ref 0), (1, .int (nI 0)), (2, .int (nI p)), (3, .int (nI u))] [] zA
              refine ww_blk xCC okX5_tells 68 4 (ps := []) (pc' := 174) (lv' := [(4, .ref 48), (0, .ref 0), (1, .int (nI 0)), (2, .int (nI p)), (3, .int (nI u))]) (st' := [.int 7, .int (nI p), .ref 48, .ref 0]) (z' := zA) rfl trivial ?_
              refine ww_callVIi xCC okX5_tells 72 (ix := 208) (t_X5_howManyFit_0 l d zA r cnt tc hrA hw htA hS hZ n it hn10 h48A hitA 7 7 p  rfl (by omega) (by decide) (by unfold sIs; rw [sTI (k := p) (by omega)]; omega) hp (fun v hv => by show v ≤ 99; omega)) (by omega) (by decide) xyX5_howManyFit xiX5_howManyFit (Or.inl (lw_gt_of (List.mem_of_getElem? (i := 708) (by decide +kernel)) rfl)) rfl rfl rfl (rest := []) rfl (Nat.le_of_ble_eq_true rfl) rfl (fun vX zX hX => ?_)
              rw [hX.1]
              subst xhQ
              exact ww_iret xCC okX5_tells 73 xhr rfl rfl ⟨_, rfl, ⟨(by rw [sTells_y (by decide) hp h74 (by omega) hTs, if_neg (by omega), show u = 5 by omega, if_neg (by decide), if_neg (by decide), show sVr 5 = 7 from rfl, sTl, if_pos (by decide), show sLst 7 cnt + 1 = 100 from rfl]), hX.2.1, KU_tr hkA hX.2.2⟩⟩
            · have c11 : (nI u) = 6 := c11
              replace c11 : u = 6 := (sEQ (a := u) (b := 6) (by omega) (by omega)).mp c11
              show ww xp l xe (xRm (d + 7)) xs xm xar xbl xme xc 5 xD xcs xad shX xAA xQ 178 [(4, .ref 48), (0, .ref 0), (1, .int (nI 0)), (2, .int (nI p)), (3, .int (nI u))] [] zA
              refine ww_blk xCC okX5_tells 74 4 (ps := []) (pc' := 184) (lv' := [(4, .ref 48), (0, .ref 0), (1, .int (nI 0)), (2, .int (nI p)), (3, .int (nI u))]) (st' := [.int 7, .int (nI p), .ref 48, .ref 0]) (z' := zA) rfl trivial ?_
              refine ww_callVIi xCC okX5_tells 78 (ix := 212) (t_X5_leastFitting_0 l d zA r cnt tc hrA hw htA hS hZ n it hn10 h48A hitA 7 7 p  rfl (by omega) (by decide) (by unfold sIs; rw [sTI (k := p) (by omega)]; omega) hp (fun v hv => by show v ≤ 99; omega)) (by omega) (by decide) xyX5_leastFitting xiX5_leastFitting (Or.inl (lw_gt_of (List.mem_of_getElem? (i := 712) (by decide +kernel)) rfl)) rfl rfl rfl (rest := []) rfl (Nat.le_of_ble_eq_true rfl) rfl (fun vX zX hX => ?_)
              rw [hX.1]
              subst xhQ
              exact ww_iret xCC okX5_tells 79 xhr rfl rfl ⟨_, rfl, ⟨(by rw [sTells_y (by decide) hp h74 (by omega) hTs, if_neg (by omega), show u = 6 by omega, if_neg (by decide), if_neg (by decide), show sVr 6 = 7 from rfl, sTl, if_neg (by decide), if_pos (by decide), show sLst 7 cnt + 1 = 100 from rfl]), hX.2.1, KU_tr hkA hX.2.2⟩⟩
            · have c11 : (nI u) = 7 := c11
              replace c11 : u = 7 := (sEQ (a := u) (b := 7) (by omega) (by omega)).mp c11
              show ww xp l xe (xRm (d + 7)) xs xm xar xbl xme xc 5 xD xcs xad shX xAA xQ 188 [(4, .ref 48), (0, .ref 0), (1, .int (nI 0)), (2, .int (nI p)), (3, .int (nI u))] [] zA
              refine ww_blk xCC okX5_tells 80 7 (ps := []) (pc' := 201) (lv' := [(4, .ref 48), (0, .ref 0), (1, .int (nI 0)), (2, .int (nI p)), (3, .int (nI u))]) (st' := [.int (zA.1 1 2), .int 13, .int (nI p), .ref 48, .ref 0]) (z' := zA) rfl trivial ?_
              rw [show zA.1 1 2 = nI cnt from htA.1]
              refine ww_callVIi xCC okX5_tells 87 (ix := 204) (t_X5_fittingBits_0 l d zA r cnt tc hrA hw htA hS hZ n it hn10 h48A hitA 13 9 p cnt (by omega) rfl (by omega) (by decide) (by unfold sIs; rw [sTI (k := p) (by omega)]; omega) hp (fun v hv => by show v ≤ cnt - 1; omega)) (by omega) (by decide) xyX5_fittingBits xiX5_fittingBits (Or.inl (lw_gt_of (List.mem_of_getElem? (i := 704) (by decide +kernel)) rfl)) rfl rfl rfl (rest := []) rfl (Nat.le_of_ble_eq_true rfl) rfl (fun vX zX hX => ?_)
              rw [hX.1]
              subst xhQ
              exact ww_iret xCC okX5_tells 88 xhr rfl rfl ⟨_, rfl, ⟨(by rw [sTells_y (by decide) hp h74 (by omega) hTs, if_neg (by omega), show u = 7 by omega, if_neg (by decide), if_neg (by decide), show sVr 7 = 9 from rfl, sTl, if_neg (by decide), if_neg (by decide), show sLst 9 cnt + 1 = cnt from Nat.sub_add_cancel ht.2.1]), hX.2.1, KU_tr hkA hX.2.2⟩⟩
          · skip
            replace c8 : ¬ n ≤ 10 := fun q => c8 ((sLE (a := n) (b := 10) (by omega) (by omega)).mpr q)
            refine ww_blk xCC okX5_tells 27 1 (ps := []) (pc' := 57) (lv' := [(4, .ref 48), (0, .ref 0), (1, .int (nI 0)), (2, .int (nI p)), (3, .int (nI u))]) (st' := [.int (-2)]) (z' := z) rfl trivial ?_
            subst xhQ
            exact ww_iret xCC okX5_tells 28 xhr rfl rfl ⟨_, rfl, ⟨(by rw [sTells_y (by decide) hp h74 (by omega) hTs, if_pos (by omega)]), hTH, KU_rf z⟩⟩
      · skip
        have h5 : ¬ (0 ≤ w.toInt ∧ w.toInt ≤ 8) := h5
        refine ww_br xCC okX5_tells 14 (P := 0 = 0) (t1 := 30) (t2 := 33) (r := []) rfl (fun _ => ?_) (fun q => absurd (by decide) q)
        refine ww_blk xCC okX5_tells 15 1 (ps := []) (pc' := 32) (lv' := [(4, .ref 48), (0, .ref 0), (1, .int (nI 0)), (2, .int (nI p)), (3, .int w)]) (st' := [.int (-2)]) (z' := z) rfl trivial ?_
        subst xhQ
        exact ww_iret xCC okX5_tells 16 xhr rfl rfl ⟨_, rfl, ⟨(by unfold sTells; rw [if_neg (by have q9 := sTI (k := 0) (by decide); omega)]), hTH, KU_rf z⟩⟩
    · skip
      rw [hO.2]
      replace hO := hO.1
      refine ww_br xCC okX5_tells 9 (P := 0 = 0) (t1 := 30) (t2 := 20) (r := []) rfl (fun _ => ?_) (fun q => absurd (by decide) q)
      refine ww_blk xCC okX5_tells 15 1 (ps := []) (pc' := 32) (lv' := [(4, .ref 48), (0, .ref 0), (1, .int (nI 0)), (2, .int y), (3, .int w)]) (st' := [.int (-2)]) (z' := z) rfl trivial ?_
      subst xhQ
      exact ww_iret xCC okX5_tells 16 xhr rfl rfl ⟨_, rfl, ⟨(by unfold sTells; rw [if_neg (by have q9 := sTI (k := 0) (by decide); omega)]), hTH, KU_rf z⟩⟩
  · skip
    rw [hr9]
    subst hx
    show ww xp l xe (xRm (d + 7)) xs xm xar xbl xme xc 5 xD xcs xad shX xAA xQ 5 [(0, .ref 0), (1, .int (nI 1)), (2, .int y), (3, .int w)] [.ref 50] z
    refine ww_blk xCC okX5_tells 3 3 (ps := []) (pc' := 12) (lv' := [(4, .ref 50), (0, .ref 0), (1, .int (nI 1)), (2, .int y), (3, .int w)]) (st' := []) (z' := z) rfl trivial ?_
    refine ww_blk xCC okX5_tells 6 2 (ps := []) (pc' := 14) (lv' := [(4, .ref 50), (0, .ref 0), (1, .int (nI 1)), (2, .int y), (3, .int w)]) (st' := [.int y, .ref 0]) (z' := z) rfl trivial ?_
    refine ww_callVIz xCC okX5_tells 8 (ix := 82) (t_X5_isOne l d y z (r 7 4) hr.2.2.2.2.2.2.2.2.2.2.2.2.1 h74) (by omega) (by decide) xyX5_isOne xiX5_isOne (Or.inl (lw_gt_of (List.mem_of_getElem? (i := 340) (by decide +kernel)) rfl)) rfl rfl rfl (rest := []) rfl (Nat.le_of_ble_eq_true rfl) rfl (fun zO hO => ?_) (fun zO hO => ?_)
    · skip
      rw [hO.2]
      obtain ⟨⟨hOa, hOb⟩, -⟩ := hO
      obtain ⟨p, hp, rfl⟩ := sNN (x := y) (n := r 7 4) hOa (by omega)
      refine ww_br xCC okX5_tells 9 (P := 1 = 0) (t1 := 30) (t2 := 20) (r := []) rfl (fun q => absurd q (by decide)) (fun _ => ?_)
      refine ww_blk xCC okX5_tells 10 3 (ps := []) (pc' := 24) (lv' := [(4, .ref 50), (0, .ref 0), (1, .int (nI 1)), (2, .int (nI p)), (3, .int w)]) (st' := [.int 8, .int 0, .int w]) (z' := z) rfl trivial ?_
      refine ww_callSNz xCC okX5_tells 13 (ix := 52) (t_X5_within l d w 0 8 _) (by omega) (by decide) xyX5_within xiX5_within (Or.inl (lw_gt_of (List.mem_of_getElem? (i := 327) (by decide +kernel)) rfl)) rfl (rest := []) rfl (Nat.le_of_ble_eq_true rfl) rfl (fun z16 h17 => ?_) (fun z16 h17 => ?_)
      · skip
        have h17 : 0 ≤ w.toInt ∧ w.toInt ≤ 8 := h17
        obtain ⟨u, hu, rfl⟩ := sNN (x := w) (n := 9) (by omega) (by omega)
        refine ww_br xCC okX5_tells 14 (P := 1 = 0) (t1 := 30) (t2 := 33) (r := []) rfl (fun q => absurd q (by decide)) (fun _ => ?_)
        refine ww_blk xCC okX5_tells 17 3 (ps := []) (pc' := 39) (lv' := [(4, .ref 50), (0, .ref 0), (1, .int (nI 1)), (2, .int (nI p)), (3, .int (nI u))]) (st' := [.int (-1), .int (z.1 50 0)]) (z' := z) rfl trivial ?_
        rw [show z.1 50 0 = cI (T 1).1 from (hT 1 (by decide)).2.1]
        refine ww_br xCC okX5_tells 20 (P := (cI (T 1).1) = (-1)) (t1 := 42) (t2 := 45) (r := []) rfl (fun c19 => ?_) (fun c19 => ?_)
        · skip
          have h0 := cI_m (by have q0 := (hT 0 (by decide)).1; have q1 := (hT 1 (by decide)).1; have q2 := (hT 2 (by decide)).1; have q3 := (hT 3 (by decide)).1; omega) c19
          refine ww_blk xCC okX5_tells 21 1 (ps := []) (pc' := 44) (lv' := [(4, .ref 50), (0, .ref 0), (1, .int (nI 1)), (2, .int (nI p)), (3, .int (nI u))]) (st' := [.int (-11)]) (z' := z) rfl trivial ?_
          subst xhQ
          exact ww_iret xCC okX5_tells 22 xhr rfl rfl ⟨_, rfl, ⟨(by rw [sTells_m (by decide) hp h74 (by omega) h0]), hTH, KU_rf z⟩⟩
        · skip
          have h0 := cI_nm c19
          obtain ⟨n, k, it, hTs, hk2, hn40, hc0, hc1, hcI⟩ := SY_1 (hT 1 (by decide)) h0
          refine ww_blk xCC okX5_tells 23 3 (ps := []) (pc' := 52) (lv' := [(4, .ref 50), (0, .ref 0), (1, .int (nI 1)), (2, .int (nI p)), (3, .int (nI u))]) (st' := [.int 10, .int (z.1 50 1)]) (z' := z) rfl trivial ?_
          rw [show z.1 50 1 = nI n from hc1]
          refine ww_br xCC okX5_tells 26 (P := (nI n) ≤ 10) (t1 := 58) (t2 := 55) (r := []) rfl (fun c20 => ?_) (fun c20 => ?_)
          · skip
            replace c20 : n ≤ 10 := (sLE (a := n) (b := 10) (by omega) (by omega)).mp c20
            refine ww_blk xCC okX5_tells 29 4 (ps := []) (pc' := 66) (lv' := [(4, .ref 50), (0, .ref 0), (1, .int (nI 1)), (2, .int (nI p)), (3, .int (nI u))]) (st' := [.ref 19, .ref 27]) (z' := z) rfl trivial ?_
            obtain ⟨rt0, hrt0, hzt0⟩ := hTH
            refine ww_callVEv xCC okX5_tells 33 (ix := 139) (t_X0_takeFrom l d (xPull esHN z) rt0 r (RX_pull (by decide) hrt0) (RX_pull8 (by decide) hr) hzt0 hZ) (by omega) (by decide) xyX0_takeFrom xiX0_takeFrom (Or.inr (List.mem_of_getElem? (i := 603) (by decide +kernel))) (by decide +kernel) (by decide) (fun q => by cases q) (q0 := 27) rfl rfl rfl rfl (rest := []) rfl (Nat.le_of_ble_eq_true rfl) rfl (fun zcA hcA => ?_)
            have hkA := KU_esHN_TF (rw := xHasRaw shRR) hcA.2
            obtain ⟨zA, hzA⟩ : ∃ y, y = xBack esHN (xHasRaw shRR) z zcA := ⟨_, rfl⟩
            rw [← hzA] at hkA ⊢
            have hrA := RX_back (es := esHN) (rw := xHasRaw shRR) (z := z) (b := 27) (by decide) hcA.1
            rw [← hzA] at hrA
            have htA := TX_U hkA (by decide) ht
            have hrN := RX_U hkA (by decide) hr
            have h48A : zA.1 50 1 = nI n := (congrFun (hkA 50 (by decide)) 1).trans hc1
            have hitA : ∀ i, i < n → zA.1 51 i = it i := fun i hi => (congrFun (hkA 51 (by decide)) i).trans (hcI i hi)
            have hn10 : n ≤ 10 := by omega
            refine ww_blk xCC okX5_tells 34 1 (ps := []) (pc' := 70) (lv' := [(4, .ref 50), (0, .ref 0), (1, .int (nI 1)), (2, .int (nI p)), (3, .int (nI u))]) (st' := [.int (nI u)]) (z' := zA) rfl trivial ?_
            refine ww_sw xCC okX5_tells 35 (x := (nI u)) (L := [(0, 116), (1, 127), (2, 139), (3, 150), (4, 159), (5, 168), (6, 178), (7, 188)]) (P := (nI u).toInt < 0 ∨ 7 < (nI u).toInt) (t0 := 205) (r := []) rfl (fun c23 => ?_) (And.intro (fun c23 => ?_) (And.intro (fun c23 => ?_) (And.intro (fun c23 => ?_) (And.intro (fun c23 => ?_) (And.intro (fun c23 => ?_) (And.intro (fun c23 => ?_) (And.intro (fun c23 => ?_) ((fun c23 => ?_)))))))))
            · skip
              rw [sTI (k := u) (by omega)] at c23
              refine ww_blk xCC okX5_tells 89 2 (ps := []) (pc' := 208) (lv' := [(4, .ref 50), (0, .ref 0), (1, .int (nI 1)), (2, .int (nI p)), (3, .int (nI u))]) (st' := [.ref 50, .ref 0]) (z' := zA) rfl trivial ?_
              refine ww_callVIi xCC okX5_tells 91 (ix := 215) (t_X5_fittingPeople_1 l d zA r cnt tc hrN hw htA n it hn10 h48A hitA) (by omega) (by decide) xyX5_fittingPeople xiX5_fittingPeople (Or.inl (lw_gt_of (List.mem_of_getElem? (i := 716) (by decide +kernel)) rfl)) rfl rfl rfl (rest := []) rfl (Nat.le_of_ble_eq_true rfl) rfl (fun vX zX hX => ?_)
              rw [hX.1]
              subst xhQ
              exact ww_iret xCC okX5_tells 92 xhr rfl rfl ⟨_, rfl, ⟨(by rw [sTells_y (by decide) hp h74 (by omega) hTs, if_neg (by omega), show u = 8 by omega, if_neg (by decide), if_pos rfl]), TH_U hX.2 (by decide) ⟨r, hrA, hZ⟩, KU_tr hkA (KU_mo hX.2 (by decide))⟩⟩
            · have c23 : (nI u) = 0 := c23
              replace c23 : u = 0 := (sEQ (a := u) (b := 0) (by omega) (by omega)).mp c23
              show ww xp l xe (xRm (d + 7)) xs xm xar xbl xme xc 5 xD xcs xad shX xAA xQ 116 [(4, .ref 50), (0, .ref 0), (1, .int (nI 1)), (2, .int (nI p)), (3, .int (nI u))] [] zA
              refine ww_blk xCC okX5_tells 36 4 (ps := []) (pc' := 123) (lv' := [(4, .ref 50), (0, .ref 0), (1, .int (nI 1)), (2, .int (nI p)), (3, .int (nI u))]) (st' := [.int (nI p), .ref 50, .ref 19]) (z' := zA) rfl trivial ?_
              refine ww_callVEi xCC okX5_tells 40 (ix := 200) (t_X0_firstOtherwise l (d + 1) p (xPull esNS1 zA) r cnt tc (RX_pull (by decide) hrN) hw (TX_pull (by decide) htA) n it hn10 h48A hitA (by omega)) (by omega) (by decide) xyX0_firstOtherwise xiX0_firstOtherwise (Or.inr (List.mem_of_getElem? (i := 696) (by decide +kernel))) (by decide +kernel) (by decide) (fun q => by cases q) (q0 := 19) rfl rfl rfl rfl (rest := []) rfl (Nat.le_of_ble_eq_true rfl) rfl (fun vcO zcO hcO => ?_)
              have hkO := KU_esNS1_KN (rw := xHasRaw shRS) hcO.2
              obtain ⟨zO, hzO⟩ : ∃ y, y = xBack esNS1 (xHasRaw shRS) zA zcO := ⟨_, rfl⟩
              rw [← hzO] at hkO ⊢
              rw [hcO.1]
              subst xhQ
              exact ww_iret xCC okX5_tells 41 xhr rfl rfl ⟨_, rfl, ⟨(by rw [sTells_y (by decide) hp h74 (by omega) hTs, if_neg (by omega), show u = 0 by omega, if_pos rfl]), TH_U hkO (by decide) ⟨r, hrA, hZ⟩, KU_tr hkA (KU_mo hkO (by decide))⟩⟩
            · have c23 : (nI u) = 1 := c23
              replace c23 : u = 1 := (sEQ (a := u) (b := 1) (by omega) (by omega)).mp c23
              show ww xp l xe (xRm (d + 7)) xs xm xar xbl xme xc 5 xD xcs xad shX xAA xQ 127 [(4, .ref 50), (0, .ref 0), (1, .int (nI 1)), (2, .int (nI p)), (3, .int (nI u))] [] zA
              refine ww_blk xCC okX5_tells 42 5 (ps := []) (pc' := 135) (lv' := [(4, .ref 50), (0, .ref 0), (1, .int (nI 1)), (2, .int (nI p)), (3, .int (nI u))]) (st' := [.int 6, .int 8, .int (nI p), .ref 50, .ref 0]) (z' := zA) rfl trivial ?_
              refine ww_callVIi xCC okX5_tells 47 (ix := 204) (t_X5_fittingBits_1 l d zA r cnt tc hrA hw htA hS hZ n it hn10 h48A hitA 8 8 p 6 (by decide) rfl (by omega) (by decide) (by unfold sIs; rw [sTI (k := p) (by omega)]; omega) hp (fun v hv => by show v ≤ 5; omega)) (by omega) (by decide) xyX5_fittingBits xiX5_fittingBits (Or.inl (lw_gt_of (List.mem_of_getElem? (i := 704) (by decide +kernel)) rfl)) rfl rfl rfl (rest := []) rfl (Nat.le_of_ble_eq_true rfl) rfl (fun vX zX hX => ?_)
              rw [hX.1]
              subst xhQ
              exact ww_iret xCC okX5_tells 48 xhr rfl rfl ⟨_, rfl, ⟨(by rw [sTells_y (by decide) hp h74 (by omega) hTs, if_neg (by omega), show u = 1 by omega, if_neg (by decide), if_neg (by decide), show sVr 1 = 8 from rfl, sTl, if_neg (by decide), if_neg (by decide), show sLst 8 cnt + 1 = 6 from rfl]), hX.2.1, KU_tr hkA hX.2.2⟩⟩
            · have c23 : (nI u) = 2 := c23
              replace c23 : u = 2 := (sEQ (a := u) (b := 2) (by omega) (by omega)).mp c23
              show ww xp l xe (xRm (d + 7)) xs xm xar xbl xme xc 5 xD xcs xad shX xAA xQ 139 [(4, .ref 50), (0, .ref 0), (1, .int (nI 1)), (2, .int (nI p)), (3, .int (nI u))] [] zA
              refine ww_blk xCC okX5_tells 49 5 (ps := []) (pc' := 146) (lv' := [(4, .ref 50), (0, .ref 0), (1, .int (nI 1)), (2, .int (nI p)), (3, .int (nI u))]) (st' := [.int 10, .int 5, .int (nI p), .ref 50, .ref 0]) (z' := zA) rfl trivial ?_
              refine ww_callVIi xCC okX5_tells 54 (ix := 204) (t_X5_fittingBits_1 l d zA r cnt tc hrA hw htA hS hZ n it hn10 h48A hitA 5 5 p 10 (by decide) rfl (by omega) (by decide) (by unfold sIs; rw [sTI (k := p) (by omega)]; omega) hp (fun v hv => by show v ≤ 9; omega)) (by omega) (by decide) xyX5_fittingBits xiX5_fittingBits (Or.inl (lw_gt_of (List.mem_of_getElem? (i := 704) (by decide +kernel)) rfl)) rfl rfl rfl (rest := []) rfl (Nat.le_of_ble_eq_true rfl) rfl (fun vX zX hX => ?_)
              rw [hX.1]
              subst xhQ
              exact ww_iret xCC okX5_tells 55 xhr rfl rfl ⟨_, rfl, ⟨(by rw [sTells_y (by decide) hp h74 (by omega) hTs, if_neg (by omega), show u = 2 by omega, if_neg (by decide), if_neg (by decide), show sVr 2 = 5 from rfl, sTl, if_neg (by decide), if_neg (by decide), show sLst 5 cnt + 1 = 10 from rfl]), hX.2.1, KU_tr hkA hX.2.2⟩⟩
            · have c23 : (nI u) = 3 := c23
              replace c23 : u = 3 := (sEQ (a := u) (b := 3) (by omega) (by omega)).mp c23
              show ww xp l xe (xRm (d + 7)) xs xm xar xbl xme xc 5 xD xcs xad shX xAA xQ 150 [(4, .ref 50), (0, .ref 0), (1, .int (nI 1)), (2, .int (nI p)), (3, .int (nI u))] [] zA
              refine ww_blk xCC okX5_tells 56 4 (ps := []) (pc' := 155) (lv' := [(4, .ref 50), (0, .ref 0), (1, .int (nI 1)), (2, .int (nI p)), (3, .int (nI u))]) (st' := [.int 2, .int (nI p), .ref 50, .ref 0]) (z' := zA) rfl trivial ?_
              refine ww_callVIi xCC okX5_tells 60 (ix := 208) (t_X5_howManyFit_1 l d zA r cnt tc hrA hw htA hS hZ n it hn10 h48A hitA 2 2 p  rfl (by omega) (by decide) (by unfold sIs; rw [sTI (k := p) (by omega)]; omega) hp (fun v hv => by show v ≤ 99; omega)) (by omega) (by decide) xyX5_howManyFit xiX5_howManyFit (Or.inl (lw_gt_of (List.mem_of_getElem? (i := 708) (by decide +kernel)) rfl)) rfl rfl rfl (rest := []) rfl (Nat.le_of_ble_eq_true rfl) rfl (fun vX zX hX => ?_)
              rw [hX.1]
              subst xhQ
              exact ww_iret xCC okX5_tells 61 xhr rfl rfl ⟨_, rfl, ⟨(by rw [sTells_y (by decide) hp h74 (by omega) hTs, if_neg (by omega), show u = 3 by omega, if_neg (by decide), if_neg (by decide), show sVr 3 = 2 from rfl, sTl, if_pos (by decide), show sLst 2 cnt + 1 = 100 from rfl]), hX.2.1, KU_tr hkA hX.2.2⟩⟩
            · have c23 : (nI u) = 4 := c23
              replace c23 : u = 4 := (sEQ (a := u) (b := 4) (by omega) (by omega)).mp c23
              show ww xp l xe (xRm (d + 7)) xs xm xar xbl xme xc 5 xD xcs xad shX xAA xQ 159 [(4, .ref 50), (0, .ref 0), (1, .int (nI 1)), (2, .int (nI p)), (3, .int (nI u))] [] zA
              refine ww_blk xCC okX5_tells 62 4 (ps := []) (pc' := 164) (lv' := [(4, .ref 50), (0, .ref 0), (1, .int (nI 1)), (2, .int (nI p)), (3, .int (nI u))]) (st' := [.int 2, .int (nI p), .ref 50, .ref 0]) (z' := zA) rfl trivial ?_
              refine ww_callVIi xCC okX5_tells 66 (ix := 212) (t_X5_leastFitting_1 l d zA r cnt tc hrA hw htA hS hZ n it hn10 h48A hitA 2 2 p  rfl (by omega) (by decide) (by unfold sIs; rw [sTI (k := p) (by omega)]; omega) hp (fun v hv => by show v ≤ 99; omega)) (by omega) (by decide) xyX5_leastFitting xiX5_leastFitting (Or.inl (lw_gt_of (List.mem_of_getElem? (i := 712) (by decide +kernel)) rfl)) rfl rfl rfl (rest := []) rfl (Nat.le_of_ble_eq_true rfl) rfl (fun vX zX hX => ?_)
              rw [hX.1]
              subst xhQ
              exact ww_iret xCC okX5_tells 67 xhr rfl rfl ⟨_, rfl, ⟨(by rw [sTells_y (by decide) hp h74 (by omega) hTs, if_neg (by omega), show u = 4 by omega, if_neg (by decide), if_neg (by decide), show sVr 4 = 2 from rfl, sTl, if_neg (by decide), if_pos (by decide), show sLst 2 cnt + 1 = 100 from rfl]), hX.2.1, KU_tr hkA hX.2.2⟩⟩
            · have c23 : (nI u) = 5 := c23
              replace c23 : u = 5 := (sEQ (a := u) (b := 5) (by omega) (by omega)).mp c23
              show ww xp l xe (xRm (d + 7)) xs xm xar xbl xme xc 5 xD xcs xad shX xAA xQ 168 [(4, .ref 50), (0, .ref 0), (1, .int (nI 1)), (2, .int (nI p)), (3, .int (nI u))] [] zA
              refine ww_blk xCC okX5_tells 68 4 (ps := []) (pc' := 174) (lv' := [(4, .ref 50), (0, .ref 0), (1, .int (nI 1)), (2, .int (nI p)), (3, .int (nI u))]) (st' := [.int 7, .int (nI p), .ref 50, .ref 0]) (z' := zA) rfl trivial ?_
              refine ww_callVIi xCC okX5_tells 72 (ix := 208) (t_X5_howManyFit_1 l d zA r cnt tc hrA hw htA hS hZ n it hn10 h48A hitA 7 7 p  rfl (by omega) (by decide) (by unfold sIs; rw [sTI (k := p) (by omega)]; omega) hp (fun v hv => by show v ≤ 99; omega)) (by omega) (by decide) xyX5_howManyFit xiX5_howManyFit (Or.inl (lw_gt_of (List.mem_of_getElem? (i := 708) (by decide +kernel)) rfl)) rfl rfl rfl (rest := []) rfl (Nat.le_of_ble_eq_true rfl) rfl (fun vX zX hX => ?_)
              rw [hX.1]
              subst xhQ
              exact ww_iret xCC okX5_tells 73 xhr rfl rfl ⟨_, rfl, ⟨(by rw [sTells_y (by decide) hp h74 (by omega) hTs, if_neg (by omega), show u = 5 by omega, if_neg (by decide), if_neg (by decide), show sVr 5 = 7 from rfl, sTl, if_pos (by decide), show sLst 7 cnt + 1 = 100 from rfl]), hX.2.1, KU_tr hkA hX.2.2⟩⟩
            · have c23 : (nI u) = 6 := c23
              replace c23 : u = 6 := (sEQ (a := u) (b := 6) (by omega) (by omega)).mp c23
              show ww xp l xe (xRm (d + 7)) xs xm xar xbl xme xc 5 xD xcs xad shX xAA xQ 178 [(4, .ref 50), (0, .ref 0), (1, .int (nI 1)), (2, .int (nI p)), (3, .int (nI u))] [] zA
              refine ww_blk xCC okX5_tells 74 4 (ps := []) (pc' := 184) (lv' := [(4, .ref 50), (0, .ref 0), (1, .int (nI 1)), (2, .int (nI p)), (3, .int (nI u))]) (st' := [.int 7, .int (nI p), .ref 50, .ref 0]) (z' := zA) rfl trivial ?_
              refine ww_callVIi xCC okX5_tells 78 (ix := 212) (t_X5_leastFitting_1 l d zA r cnt tc hrA hw htA hS hZ n it hn10 h48A hitA 7 7 p  rfl (by omega) (by decide) (by unfold sIs; rw [sTI (k := p) (by omega)]; omega) hp (fun v hv => by show v ≤ 99; omega)) (by omega) (by decide) xyX5_leastFitting xiX5_leastFitting (Or.inl (lw_gt_of (List.mem_of_getElem? (i := 712) (by decide +kernel)) rfl)) rfl rfl rfl (rest := []) rfl (Nat.le_of_ble_eq_true rfl) rfl (fun vX zX hX => ?_)
              rw [hX.1]
              subst xhQ
              exact ww_iret xCC okX5_tells 79 xhr rfl rfl ⟨_, rfl, ⟨(by rw [sTells_y (by decide) hp h74 (by omega) hTs, if_neg (by omega), show u = 6 by omega, if_neg (by decide), if_neg (by decide), show sVr 6 = 7 from rfl, sTl, if_neg (by decide), if_pos (by decide), show sLst 7 cnt + 1 = 100 from rfl]), hX.2.1, KU_tr hkA hX.2.2⟩⟩
            · have c23 : (nI u) = 7 := c23
              replace c23 : u = 7 := (sEQ (a := u) (b := 7) (by omega) (by omega)).mp c23
              show ww xp l xe (xRm (d + 7)) xs xm xar xbl xme xc 5 xD xcs xad shX xAA xQ 188 [(4, .ref 50), (0, .ref 0), (1, .int (nI 1)), (2, .int (nI p)), (3, .int (nI u))] [] zA
              refine ww_blk xCC okX5_tells 80 7 (ps := []) (pc' := 201) (lv' := [(4, .ref 50), (0, .ref 0), (1, .int (nI 1)), (2, .int (nI p)), (3, .int (nI u))]) (st' := [.int (zA.1 1 2), .int 13, .int (nI p), .ref 50, .ref 0]) (z' := zA) rfl trivial ?_
              rw [show zA.1 1 2 = nI cnt from htA.1]
              refine ww_callVIi xCC okX5_tells 87 (ix := 204) (t_X5_fittingBits_1 l d zA r cnt tc hrA hw htA hS hZ n it hn10 h48A hitA 13 9 p cnt (by omega) rfl (by omega) (by decide) (by unfold sIs; rw [sTI (k := p) (by omega)]; omega) hp (fun v hv => by show v ≤ cnt - 1; omega)) (by omega) (by decide) xyX5_fittingBits xiX5_fittingBits (Or.inl (lw_gt_of (List.mem_of_getElem? (i := 704) (by decide +kernel)) rfl)) rfl rfl rfl (rest := []) rfl (Nat.le_of_ble_eq_true rfl) rfl (fun vX zX hX => ?_)
              rw [hX.1]
              subst xhQ
              exact ww_iret xCC okX5_tells 88 xhr rfl rfl ⟨_, rfl, ⟨(by rw [sTells_y (by decide) hp h74 (by omega) hTs, if_neg (by omega), show u = 7 by omega, if_neg (by decide), if_neg (by decide), show sVr 7 = 9 from rfl, sTl, if_neg (by decide), if_neg (by decide), show sLst 9 cnt + 1 = cnt from Nat.sub_add_cancel ht.2.1]), hX.2.1, KU_tr hkA hX.2.2⟩⟩
          · skip
            replace c20 : ¬ n ≤ 10 := fun q => c20 ((sLE (a := n) (b := 10) (by omega) (by omega)).mpr q)
            refine ww_blk xCC okX5_tells 27 1 (ps := []) (pc' := 57) (lv' := [(4, .ref 50), (0, .ref 0), (1, .int (nI 1)), (2, .int (nI p)), (3, .int (nI u))]) (st' := [.int (-2)]) (z' := z) rfl trivial ?_
            subst xhQ
            exact ww_iret xCC okX5_tells 28 xhr rfl rfl ⟨_, rfl, ⟨(by rw [sTells_y (by decide) hp h74 (by omega) hTs, if_pos (by omega)]), hTH, KU_rf z⟩⟩
      · skip
        have h17 : ¬ (0 ≤ w.toInt ∧ w.toInt ≤ 8) := h17
        refine ww_br xCC okX5_tells 14 (P := 0 = 0) (t1 := 30) (t2 := 33) (r := []) rfl (fun _ => ?_) (fun q => absurd (by decide) q)
        refine ww_blk xCC okX5_tells 15 1 (ps := []) (pc' := 32) (lv' := [(4, .ref 50), (0, .ref 0), (1, .int (nI 1)), (2, .int (nI p)), (3, .int w)]) (st' := [.int (-2)]) (z' := z) rfl trivial ?_
        subst xhQ
        exact ww_iret xCC okX5_tells 16 xhr rfl rfl ⟨_, rfl, ⟨(by unfold sTells; rw [if_neg (by have q9 := sTI (k := 1) (by decide); omega)]), hTH, KU_rf z⟩⟩
    · skip
      rw [hO.2]
      replace hO := hO.1
      refine ww_br xCC okX5_tells 9 (P := 0 = 0) (t1 := 30) (t2 := 20) (r := []) rfl (fun _ => ?_) (fun q => absurd (by decide) q)
      refine ww_blk xCC okX5_tells 15 1 (ps := []) (pc' := 32) (lv' := [(4, .ref 50), (0, .ref 0), (1, .int (nI 1)), (2, .int y), (3, .int w)]) (st' := [.int (-2)]) (z' := z) rfl trivial ?_
      subst xhQ
      exact ww_iret xCC okX5_tells 16 xhr rfl rfl ⟨_, rfl, ⟨(by unfold sTells; rw [if_neg (by have q9 := sTI (k := 1) (by decide); omega)]), hTH, KU_rf z⟩⟩
  · skip
    rw [hr9]
    subst hx
    show ww xp l xe (xRm (d + 7)) xs xm xar xbl xme xc 5 xD xcs xad shX xAA xQ 5 [(0, .ref 0), (1, .int (nI 2)), (2, .int y), (3, .int w)] [.ref 52] z
    refine ww_blk xCC okX5_tells 3 3 (ps := []) (pc' := 12) (lv' := [(4, .ref 52), (0, .ref 0), (1, .int (nI 2)), (2, .int y), (3, .int w)]) (st' := []) (z' := z) rfl trivial ?_
    refine ww_blk xCC okX5_tells 6 2 (ps := []) (pc' := 14) (lv' := [(4, .ref 52), (0, .ref 0), (1, .int (nI 2)), (2, .int y), (3, .int w)]) (st' := [.int y, .ref 0]) (z' := z) rfl trivial ?_
    refine ww_callVIz xCC okX5_tells 8 (ix := 82) (t_X5_isOne l d y z (r 7 4) hr.2.2.2.2.2.2.2.2.2.2.2.2.1 h74) (by omega) (by decide) xyX5_isOne xiX5_isOne (Or.inl (lw_gt_of (List.mem_of_getElem? (i := 340) (by decide +kernel)) rfl)) rfl rfl rfl (rest := []) rfl (Nat.le_of_ble_eq_true rfl) rfl (fun zO hO => ?_) (fun zO hO => ?_)
    · skip
      rw [hO.2]
      obtain ⟨⟨hOa, hOb⟩, -⟩ := hO
      obtain ⟨p, hp, rfl⟩ := sNN (x := y) (n := r 7 4) hOa (by omega)
      refine ww_br xCC okX5_tells 9 (P := 1 = 0) (t1 := 30) (t2 := 20) (r := []) rfl (fun q => absurd q (by decide)) (fun _ => ?_)
      refine ww_blk xCC okX5_tells 10 3 (ps := []) (pc' := 24) (lv' := [(4, .ref 52), (0, .ref 0), (1, .int (nI 2)), (2, .int (nI p)), (3, .int w)]) (st' := [.int 8, .int 0, .int w]) (z' := z) rfl trivial ?_
      refine ww_callSNz xCC okX5_tells 13 (ix := 52) (t_X5_within l d w 0 8 _) (by omega) (by decide) xyX5_within xiX5_within (Or.inl (lw_gt_of (List.mem_of_getElem? (i := 327) (by decide +kernel)) rfl)) rfl (rest := []) rfl (Nat.le_of_ble_eq_true rfl) rfl (fun z28 h29 => ?_) (fun z28 h29 => ?_)
      · skip
        have h29 : 0 ≤ w.toInt ∧ w.toInt ≤ 8 := h29
        obtain ⟨u, hu, rfl⟩ := sNN (x := w) (n := 9) (by omega) (by omega)
        refine ww_br xCC okX5_tells 14 (P := 1 = 0) (t1 := 30) (t2 := 33) (r := []) rfl (fun q => absurd q (by decide)) (fun _ => ?_)
        refine ww_blk xCC okX5_tells 17 3 (ps := []) (pc' := 39) (lv' := [(4, .ref 52), (0, .ref 0), (1, .int (nI 2)), (2, .int (nI p)), (3, .int (nI u))]) (st' := [.int (-1), .int (z.1 52 0)]) (z' := z) rfl trivial ?_
        rw [show z.1 52 0 = cI (T 2).1 from (hT 2 (by decide)).2.1]
        refine ww_br xCC okX5_tells 20 (P := (cI (T 2).1) = (-1)) (t1 := 42) (t2 := 45) (r := []) rfl (fun c31 => ?_) (fun c31 => ?_)
        · skip
          have h0 := cI_m (by have q0 := (hT 0 (by decide)).1; have q1 := (hT 1 (by decide)).1; have q2 := (hT 2 (by decide)).1; have q3 := (hT 3 (by decide)).1; omega) c31
          refine ww_blk xCC okX5_tells 21 1 (ps := []) (pc' := 44) (lv' := [(4, .ref 52), (0, .ref 0), (1, .int (nI 2)), (2, .int (nI p)), (3, .int (nI u))]) (st' := [.int (-11)]) (z' := z) rfl trivial ?_
          subst xhQ
          exact ww_iret xCC okX5_tells 22 xhr rfl rfl ⟨_, rfl, ⟨(by rw [sTells_m (by decide) hp h74 (by omega) h0]), hTH, KU_rf z⟩⟩
        · skip
          have h0 := cI_nm c31
          obtain ⟨n, k, it, hTs, hk2, hn40, hc0, hc1, hcI⟩ := SY_1 (hT 2 (by decide)) h0
          refine ww_blk xCC okX5_tells 23 3 (ps := []) (pc' := 52) (lv' := [(4, .ref 52), (0, .ref 0), (1, .int (nI 2)), (2, .int (nI p)), (3, .int (nI u))]) (st' := [.int 10, .int (z.1 52 1)]) (z' := z) rfl trivial ?_
          rw [show z.1 52 1 = nI n from hc1]
          refine ww_br xCC okX5_tells 26 (P := (nI n) ≤ 10) (t1 := 58) (t2 := 55) (r := []) rfl (fun c32 => ?_) (fun c32 => ?_)
          · skip
            replace c32 : n ≤ 10 := (sLE (a := n) (b := 10) (by omega) (by omega)).mp c32
            refine ww_blk xCC okX5_tells 29 4 (ps := []) (pc' := 66) (lv' := [(4, .ref 52), (0, .ref 0), (1, .int (nI 2)), (2, .int (nI p)), (3, .int (nI u))]) (st' := [.ref 19, .ref 27]) (z' := z) rfl trivial ?_
            obtain ⟨rt0, hrt0, hzt0⟩ := hTH
            refine ww_callVEv xCC okX5_tells 33 (ix := 139) (t_X0_takeFrom l d (xPull esHN z) rt0 r (RX_pull (by decide) hrt0) (RX_pull8 (by decide) hr) hzt0 hZ) (by omega) (by decide) xyX0_takeFrom xiX0_takeFrom (Or.inr (List.mem_of_getElem? (i := 603) (by decide +kernel))) (by decide +kernel) (by decide) (fun q => by cases q) (q0 := 27) rfl rfl rfl rfl (rest := []) rfl (Nat.le_of_ble_eq_true rfl) rfl (fun zcA hcA => ?_)
            have hkA := KU_esHN_TF (rw := xHasRaw shRR) hcA.2
            obtain ⟨zA, hzA⟩ : ∃ y, y = xBack esHN (xHasRaw shRR) z zcA := ⟨_, rfl⟩
            rw [← hzA] at hkA ⊢
            have hrA := RX_back (es := esHN) (rw := xHasRaw shRR) (z := z) (b := 27) (by decide) hcA.1
            rw [← hzA] at hrA
            have htA := TX_U hkA (by decide) ht
            have hrN := RX_U hkA (by decide) hr
            have h48A : zA.1 52 1 = nI n := (congrFun (hkA 52 (by decide)) 1).trans hc1
            have hitA : ∀ i, i < n → zA.1 53 i = it i := fun i hi => (congrFun (hkA 53 (by decide)) i).trans (hcI i hi)
            have hn10 : n ≤ 10 := by omega
            refine ww_blk xCC okX5_tells 34 1 (ps := []) (pc' := 70) (lv' := [(4, .ref 52), (0, .ref 0), (1, .int (nI 2)), (2, .int (nI p)), (3, .int (nI u))]) (st' := [.int (nI u)]) (z' := zA) rfl trivial ?_
            refine ww_sw xCC okX5_tells 35 (x := (nI u)) (L := [(0, 116), (1, 127), (2, 139), (3, 150), (4, 159), (5, 168), (6, 178), (7, 188)]) (P := (nI u).toInt < 0 ∨ 7 < (nI u).toInt) (t0 := 205) (r := []) rfl (fun c35 => ?_) (And.intro (fun c35 => ?_) (And.intro (fun c35 => ?_) (And.intro (fun c35 => ?_) (And.intro (fun c35 => ?_) (And.intro (fun c35 => ?_) (And.intro (fun c35 => ?_) (And.intro (fun c35 => ?_) ((fun c35 => ?_)))))))))
            · skip
              rw [sTI (k := u) (by omega)] at c35
              refine ww_blk xCC okX5_tells 89 2 (ps := []) (pc' := 208) (lv' := [(4, .ref 52), (0, .ref 0), (1, .int (nI 2)), (2, .int (nI p)), (3, .int (nI u))]) (st' := [.ref 52, .ref 0]) (z' := zA) rfl trivial ?_
              refine ww_callVIi xCC okX5_tells 91 (ix := 215) (t_X5_fittingPeople_2 l d zA r cnt tc hrN hw htA n it hn10 h48A hitA) (by omega) (by decide) xyX5_fittingPeople xiX5_fittingPeople (Or.inl (lw_gt_of (List.mem_of_getElem? (i := 716) (by decide +kernel)) rfl)) rfl rfl rfl (rest := []) rfl (Nat.le_of_ble_eq_true rfl) rfl (fun vX zX hX => ?_)
              rw [hX.1]
              subst xhQ
              exact ww_iret xCC okX5_tells 92 xhr rfl rfl ⟨_, rfl, ⟨(by rw [sTells_y (by decide) hp h74 (by omega) hTs, if_neg (by omega), show u = 8 by omega, if_neg (by decide), if_pos rfl]), TH_U hX.2 (by decide) ⟨r, hrA, hZ⟩, KU_tr hkA (KU_mo hX.2 (by decide))⟩⟩
            · have c35 : (nI u) = 0 := c35
              replace c35 : u = 0 := (sEQ (a := u) (b := 0) (by omega) (by omega)).mp c35
              show ww xp l xe (xRm (d + 7)) xs xm xar xbl xme xc 5 xD xcs xad shX xAA xQ 116 [(4, .ref 52), (0, .ref 0), (1, .int (nI 2)), (2, .int (nI p)), (3, .int (nI u))] [] zA
              refine ww_blk xCC okX5_tells 36 4 (ps := []) (pc' := 123) (lv' := [(4, .ref 52), (0, .ref 0), (1, .int (nI 2)), (2, .int (nI p)), (3, .int (nI u))]) (st' := [.int (nI p), .ref 52, .ref 19]) (z' := zA) rfl trivial ?_
              refine ww_callVEi xCC okX5_tells 40 (ix := 200) (t_X0_firstOtherwise l (d + 1) p (xPull esNS2 zA) r cnt tc (RX_pull (by decide) hrN) hw (TX_pull (by decide) htA) n it hn10 h48A hitA (by omega)) (by omega) (by decide) xyX0_firstOtherwise xiX0_firstOtherwise (Or.inr (List.mem_of_getElem? (i := 696) (by decide +kernel))) (by decide +kernel) (by decide) (fun q => by cases q) (q0 := 19) rfl rfl rfl rfl (rest := []) rfl (Nat.le_of_ble_eq_true rfl) rfl (fun vcO zcO hcO => ?_)
              have hkO := KU_esNS2_KN (rw := xHasRaw shRS) hcO.2
              obtain ⟨zO, hzO⟩ : ∃ y, y = xBack esNS2 (xHasRaw shRS) zA zcO := ⟨_, rfl⟩
              rw [← hzO] at hkO ⊢
              rw [hcO.1]
              subst xhQ
              exact ww_iret xCC okX5_tells 41 xhr rfl rfl ⟨_, rfl, ⟨(by rw [sTells_y (by decide) hp h74 (by omega) hTs, if_neg (by omega), show u = 0 by omega, if_pos rfl]), TH_U hkO (by decide) ⟨r, hrA, hZ⟩, KU_tr hkA (KU_mo hkO (by decide))⟩⟩
            · have c35 : (nI u) = 1 := c35
              replace c35 : u = 1 := (sEQ (a := u) (b := 1) (by omega) (by omega)).mp c35
              show ww xp l xe (xRm (d + 7)) xs xm xar xbl xme xc 5 xD xcs xad shX xAA xQ 127 [(4, .ref 52), (0, .ref 0), (1, .int (nI 2)), (2, .int (nI p)), (3, .int (nI u))] [] zA
              refine ww_blk xCC okX5_tells 42 5 (ps := []) (pc' := 135) (lv' := [(4, .ref 52), (0, .ref 0), (1, .int (nI 2)), (2, .int (nI p)), (3, .int (nI u))]) (st' := [.int 6, .int 8, .int (nI p), .ref 52, .ref 0]) (z' := zA) rfl trivial ?_
              refine ww_callVIi xCC okX5_tells 47 (ix := 204) (t_X5_fittingBits_2 l d zA r cnt tc hrA hw htA hS hZ n it hn10 h48A hitA 8 8 p 6 (by decide) rfl (by omega) (by decide) (by unfold sIs; rw [sTI (k := p) (by omega)]; omega) hp (fun v hv => by show v ≤ 5; omega)) (by omega) (by decide) xyX5_fittingBits xiX5_fittingBits (Or.inl (lw_gt_of (List.mem_of_getElem? (i := 704) (by decide +kernel)) rfl)) rfl rfl rfl (rest := []) rfl (Nat.le_of_ble_eq_true rfl) rfl (fun vX zX hX => ?_)
              rw [hX.1]
              subst xhQ
              exact ww_iret xCC okX5_tells 48 xhr rfl rfl ⟨_, rfl, ⟨(by rw [sTells_y (by decide) hp h74 (by omega) hTs, if_neg (by omega), show u = 1 by omega, if_neg (by decide), if_neg (by decide), show sVr 1 = 8 from rfl, sTl, if_neg (by decide), if_neg (by decide), show sLst 8 cnt + 1 = 6 from rfl]), hX.2.1, KU_tr hkA hX.2.2⟩⟩
            · have c35 : (nI u) = 2 := c35
              replace c35 : u = 2 := (sEQ (a := u) (b := 2) (by omega) (by omega)).mp c35
              show ww xp l xe (xRm (d + 7)) xs xm xar xbl xme xc 5 xD xcs xad shX xAA xQ 139 [(4, .ref 52), (0, .ref 0), (1, .int (nI 2)), (2, .int (nI p)), (3, .int (nI u))] [] zA
              refine ww_blk xCC okX5_tells 49 5 (ps := []) (pc' := 146) (lv' := [(4, .ref 52), (0, .ref 0), (1, .int (nI 2)), (2, .int (nI p)), (3, .int (nI u))]) (st' := [.int 10, .int 5, .int (nI p), .ref 52, .ref 0]) (z' := zA) rfl trivial ?_
              refine ww_callVIi xCC okX5_tells 54 (ix := 204) (t_X5_fittingBits_2 l d zA r cnt tc hrA hw htA hS hZ n it hn10 h48A hitA 5 5 p 10 (by decide) rfl (by omega) (by decide) (by unfold sIs; rw [sTI (k := p) (by omega)]; omega) hp (fun v hv => by show v ≤ 9; omega)) (by omega) (by decide) xyX5_fittingBits xiX5_fittingBits (Or.inl (lw_gt_of (List.mem_of_getElem? (i := 704) (by decide +kernel)) rfl)) rfl rfl rfl (rest := []) rfl (Nat.le_of_ble_eq_true rfl) rfl (fun vX zX hX => ?_)
              rw [hX.1]
              subst xhQ
              exact ww_iret xCC okX5_tells 55 xhr rfl rfl ⟨_, rfl, ⟨(by rw [sTells_y (by decide) hp h74 (by omega) hTs, if_neg (by omega), show u = 2 by omega, if_neg (by decide), if_neg (by decide), show sVr 2 = 5 from rfl, sTl, if_neg (by decide), if_neg (by decide), show sLst 5 cnt + 1 = 10 from rfl]), hX.2.1, KU_tr hkA hX.2.2⟩⟩
            · have c35 : (nI u) = 3 := c35
              replace c35 : u = 3 := (sEQ (a := u) (b := 3) (by omega) (by omega)).mp c35
              show ww xp l xe (xRm (d + 7)) xs xm xar xbl xme xc 5 xD xcs xad shX xAA xQ 150 [(4, .ref 52), (0, .ref 0), (1, .int (nI 2)), (2, .int (nI p)), (3, .int (nI u))] [] zA
              refine ww_blk xCC okX5_tells 56 4 (ps := []) (pc' := 155) (lv' := [(4, .ref 52), (0, .ref 0), (1, .int (nI 2)), (2, .int (nI p)), (3, .int (nI u))]) (st' := [.int 2, .int (nI p), .ref 52, .ref 0]) (z' := zA) rfl trivial ?_
              refine ww_callVIi xCC okX5_tells 60 (ix := 208) (t_X5_howManyFit_2 l d zA r cnt tc hrA hw htA hS hZ n it hn10 h48A hitA 2 2 p  rfl (by omega) (by decide) (by unfold sIs; rw [sTI (k := p) (by omega)]; omega) hp (fun v hv => by show v ≤ 99; omega)) (by omega) (by decide) xyX5_howManyFit xiX5_howManyFit (Or.inl (lw_gt_of (List.mem_of_getElem? (i := 708) (by decide +kernel)) rfl)) rfl rfl rfl (rest := []) rfl (Nat.le_of_ble_eq_true rfl) rfl (fun vX zX hX => ?_)
              rw [hX.1]
              subst xhQ
              exact ww_iret xCC okX5_tells 61 xhr rfl rfl ⟨_, rfl, ⟨(by rw [sTells_y (by decide) hp h74 (by omega) hTs, if_neg (by omega), show u = 3 by omega, if_neg (by decide), if_neg (by decide), show sVr 3 = 2 from rfl, sTl, if_pos (by decide), show sLst 2 cnt + 1 = 100 from rfl]), hX.2.1, KU_tr hkA hX.2.2⟩⟩
            · have c35 : (nI u) = 4 := c35
              replace c35 : u = 4 := (sEQ (a := u) (b := 4) (by omega) (by omega)).mp c35
              show ww xp l xe (xRm (d + 7)) xs xm xar xbl xme xc 5 xD xcs xad shX xAA xQ 159 [(4, .ref 52), (0, .ref 0), (1, .int (nI 2)), (2, .int (nI p)), (3, .int (nI u))] [] zA
              refine ww_blk xCC okX5_tells 62 4 (ps := []) (pc' := 164) (lv' := [(4, .ref 52), (0, .ref 0), (1, .int (nI 2)), (2, .int (nI p)), (3, .int (nI u))]) (st' := [.int 2, .int (nI p), .ref 52, .ref 0]) (z' := zA) rfl trivial ?_
              refine ww_callVIi xCC okX5_tells 66 (ix := 212) (t_X5_leastFitting_2 l d zA r cnt tc hrA hw htA hS hZ n it hn10 h48A hitA 2 2 p  rfl (by omega) (by decide) (by unfold sIs; rw [sTI (k := p) (by omega)]; omega) hp (fun v hv => by show v ≤ 99; omega)) (by omega) (by decide) xyX5_leastFitting xiX5_leastFitting (Or.inl (lw_gt_of (List.mem_of_getElem? (i := 712) (by decide +kernel)) rfl)) rfl rfl rfl (rest := []) rfl (Nat.le_of_ble_eq_true rfl) rfl (fun vX zX hX => ?_)
              rw [hX.1]
              subst xhQ
              exact ww_iret xCC okX5_tells 67 xhr rfl rfl ⟨_, rfl, ⟨(by rw [sTells_y (by decide) hp h74 (by omega) hTs, if_neg (by omega), show u = 4 by omega, if_neg (by decide), if_neg (by decide), show sVr 4 = 2 from rfl, sTl, if_neg (by decide), if_pos (by decide), show sLst 2 cnt + 1 = 100 from rfl]), hX.2.1, KU_tr hkA hX.2.2⟩⟩
            · have c35 : (nI u) = 5 := c35
              replace c35 : u = 5 := (sEQ (a := u) (b := 5) (by omega) (by omega)).mp c35
              show ww xp l xe (xRm (d + 7)) xs xm xar xbl xme xc 5 xD xcs xad shX xAA xQ 168 [(4, .ref 52), (0, .ref 0), (1, .int (nI 2)), (2, .int (nI p)), (3, .int (nI u))] [] zA
              refine ww_blk xCC okX5_tells 68 4 (ps := []) (pc' := 174) (lv' := [(4, .ref 52), (0, .ref 0), (1, .int (nI 2)), (2, .int (nI p)), (3, .int (nI u))]) (st' := [.int 7, .int (nI p), .ref 52, .ref 0]) (z' := zA) rfl trivial ?_
              refine ww_callVIi xCC okX5_tells 72 (ix := 208) (t_X5_howManyFit_2 l d zA r cnt tc hrA hw htA hS hZ n it hn10 h48A hitA 7 7 p  rfl (by omega) (by decide) (by unfold sIs; rw [sTI (k := p) (by omega)]; omega) hp (fun v hv => by show v ≤ 99; omega)) (by omega) (by decide) xyX5_howManyFit xiX5_howManyFit (Or.inl (lw_gt_of (List.mem_of_getElem? (i := 708) (by decide +kernel)) rfl)) rfl rfl rfl (rest := []) rfl (Nat.le_of_ble_eq_true rfl) rfl (fun vX zX hX => ?_)
              rw [hX.1]
              subst xhQ
              exact ww_iret xCC okX5_tells 73 xhr rfl rfl ⟨_, rfl, ⟨(by rw [sTells_y (by decide) hp h74 (by omega) hTs, if_neg (by omega), show u = 5 by omega, if_neg (by decide), if_neg (by decide), show sVr 5 = 7 from rfl, sTl, if_pos (by decide), show sLst 7 cnt + 1 = 100 from rfl]), hX.2.1, KU_tr hkA hX.2.2⟩⟩
            · have c35 : (nI u) = 6 := c35
              replace c35 : u = 6 := (sEQ (a := u) (b := 6) (by omega) (by omega)).mp c35
              show ww xp l xe (xRm (d + 7)) xs xm xar xbl xme xc 5 xD xcs xad shX xAA xQ 178 [(4, .ref 52), (0, .ref 0), (1, .int (nI 2)), (2, .int (nI p)), (3, .int (nI u))] [] zA
              refine ww_blk xCC okX5_tells 74 4 (ps := []) (pc' := 184) (lv' := [(4, .ref 52), (0, .ref 0), (1, .int (nI 2)), (2, .int (nI p)), (3, .int (nI u))]) (st' := [.int 7, .int (nI p), .ref 52, .ref 0]) (z' := zA) rfl trivial ?_
              refine ww_callVIi xCC okX5_tells 78 (ix := 212) (t_X5_leastFitting_2 l d zA r cnt tc hrA hw htA hS hZ n it hn10 h48A hitA 7 7 p  rfl (by omega) (by decide) (by unfold sIs; rw [sTI (k := p) (by omega)]; omega) hp (fun v hv => by show v ≤ 99; omega)) (by omega) (by decide) xyX5_leastFitting xiX5_leastFitting (Or.inl (lw_gt_of (List.mem_of_getElem? (i := 712) (by decide +kernel)) rfl)) rfl rfl rfl (rest := []) rfl (Nat.le_of_ble_eq_true rfl) rfl (fun vX zX hX => ?_)
              rw [hX.1]
              subst xhQ
              exact ww_iret xCC okX5_tells 79 xhr rfl rfl ⟨_, rfl, ⟨(by rw [sTells_y (by decide) hp h74 (by omega) hTs, if_neg (by omega), show u = 6 by omega, if_neg (by decide), if_neg (by decide), show sVr 6 = 7 from rfl, sTl, if_neg (by decide), if_pos (by decide), show sLst 7 cnt + 1 = 100 from rfl]), hX.2.1, KU_tr hkA hX.2.2⟩⟩
            · have c35 : (nI u) = 7 := c35
              replace c35 : u = 7 := (sEQ (a := u) (b := 7) (by omega) (by omega)).mp c35
              show ww xp l xe (xRm (d + 7)) xs xm xar xbl xme xc 5 xD xcs xad shX xAA xQ 188 [(4, .ref 52), (0, .ref 0), (1, .int (nI 2)), (2, .int (nI p)), (3, .int (nI u))] [] zA
              refine ww_blk xCC okX5_tells 80 7 (ps := []) (pc' := 201) (lv' := [(4, .ref 52), (0, .ref 0), (1, .int (nI 2)), (2, .int (nI p)), (3, .int (nI u))]) (st' := [.int (zA.1 1 2), .int 13, .int (nI p), .ref 52, .ref 0]) (z' := zA) rfl trivial ?_
              rw [show zA.1 1 2 = nI cnt from htA.1]
              refine ww_callVIi xCC okX5_tells 87 (ix := 204) (t_X5_fittingBits_2 l d zA r cnt tc hrA hw htA hS hZ n it hn10 h48A hitA 13 9 p cnt (by omega) rfl (by omega) (by decide) (by unfold sIs; rw [sTI (k := p) (by omega)]; omega) hp (fun v hv => by show v ≤ cnt - 1; omega)) (by omega) (by decide) xyX5_fittingBits xiX5_fittingBits (Or.inl (lw_gt_of (List.mem_of_getElem? (i := 704) (by decide +kernel)) rfl)) rfl rfl rfl (rest := []) rfl (Nat.le_of_ble_eq_true rfl) rfl (fun vX zX hX => ?_)
              rw [hX.1]
              subst xhQ
              exact ww_iret xCC okX5_tells 88 xhr rfl rfl ⟨_, rfl, ⟨(by rw [sTells_y (by decide) hp h74 (by omega) hTs, if_neg (by omega), show u = 7 by omega, if_neg (by decide), if_neg (by decide), show sVr 7 = 9 from rfl, sTl, if_neg (by decide), if_neg (by decide), show sLst 9 cnt + 1 = cnt from Nat.sub_add_cancel ht.2.1]), hX.2.1, KU_tr hkA hX.2.2⟩⟩
          · skip
            replace c32 : ¬ n ≤ 10 := fun q => c32 ((sLE (a := n) (b := 10) (by omega) (by omega)).mpr q)
            refine ww_blk xCC okX5_tells 27 1 (ps := []) (pc' := 57) (lv' := [(4, .ref 52), (0, .ref 0), (1, .int (nI 2)), (2, .int (nI p)), (3, .int (nI u))]) (st' := [.int (-2)]) (z' := z) rfl trivial ?_
            subst xhQ
            exact ww_iret xCC okX5_tells 28 xhr rfl rfl ⟨_, rfl, ⟨(by rw [sTells_y (by decide) hp h74 (by omega) hTs, if_pos (by omega)]), hTH, KU_rf z⟩⟩
      · skip
        have h29 : ¬ (0 ≤ w.toInt ∧ w.toInt ≤ 8) := h29
        refine ww_br xCC okX5_tells 14 (P := 0 = 0) (t1 := 30) (t2 := 33) (r := []) rfl (fun _ => ?_) (fun q => absurd (by decide) q)
        refine ww_blk xCC okX5_tells 15 1 (ps := []) (pc' := 32) (lv' := [(4, .ref 52), (0, .ref 0), (1, .int (nI 2)), (2, .int (nI p)), (3, .int w)]) (st' := [.int (-2)]) (z' := z) rfl trivial ?_
        subst xhQ
        exact ww_iret xCC okX5_tells 16 xhr rfl rfl ⟨_, rfl, ⟨(by unfold sTells; rw [if_neg (by have q9 := sTI (k := 2) (by decide); omega)]), hTH, KU_rf z⟩⟩
    · skip
      rw [hO.2]
      replace hO := hO.1
      refine ww_br xCC okX5_tells 9 (P := 0 = 0) (t1 := 30) (t2 := 20) (r := []) rfl (fun _ => ?_) (fun q => absurd (by decide) q)
      refine ww_blk xCC okX5_tells 15 1 (ps := []) (pc' := 32) (lv' := [(4, .ref 52), (0, .ref 0), (1, .int (nI 2)), (2, .int y), (3, .int w)]) (st' := [.int (-2)]) (z' := z) rfl trivial ?_
      subst xhQ
      exact ww_iret xCC okX5_tells 16 xhr rfl rfl ⟨_, rfl, ⟨(by unfold sTells; rw [if_neg (by have q9 := sTI (k := 2) (by decide); omega)]), hTH, KU_rf z⟩⟩
  · skip
    rw [hr9]
    subst hx
    show ww xp l xe (xRm (d + 7)) xs xm xar xbl xme xc 5 xD xcs xad shX xAA xQ 5 [(0, .ref 0), (1, .int (nI 3)), (2, .int y), (3, .int w)] [.ref 54] z
    refine ww_blk xCC okX5_tells 3 3 (ps := []) (pc' := 12) (lv' := [(4, .ref 54), (0, .ref 0), (1, .int (nI 3)), (2, .int y), (3, .int w)]) (st' := []) (z' := z) rfl trivial ?_
    refine ww_blk xCC okX5_tells 6 2 (ps := []) (pc' := 14) (lv' := [(4, .ref 54), (0, .ref 0), (1, .int (nI 3)), (2, .int y), (3, .int w)]) (st' := [.int y, .ref 0]) (z' := z) rfl trivial ?_
    refine ww_callVIz xCC okX5_tells 8 (ix := 82) (t_X5_isOne l d y z (r 7 4) hr.2.2.2.2.2.2.2.2.2.2.2.2.1 h74) (by omega) (by decide) xyX5_isOne xiX5_isOne (Or.inl (lw_gt_of (List.mem_of_getElem? (i := 340) (by decide +kernel)) rfl)) rfl rfl rfl (rest := []) rfl (Nat.le_of_ble_eq_true rfl) rfl (fun zO hO => ?_) (fun zO hO => ?_)
    · skip
      rw [hO.2]
      obtain ⟨⟨hOa, hOb⟩, -⟩ := hO
      obtain ⟨p, hp, rfl⟩ := sNN (x := y) (n := r 7 4) hOa (by omega)
      refine ww_br xCC okX5_tells 9 (P := 1 = 0) (t1 := 30) (t2 := 20) (r := []) rfl (fun q => absurd q (by decide)) (fun _ => ?_)
      refine ww_blk xCC okX5_tells 10 3 (ps := []) (pc' := 24) (lv' := [(4, .ref 54), (0, .ref 0), (1, .int (nI 3)), (2, .int (nI p)), (3, .int w)]) (st' := [.int 8, .int 0, .int w]) (z' := z) rfl trivial ?_
      refine ww_callSNz xCC okX5_tells 13 (ix := 52) (t_X5_within l d w 0 8 _) (by omega) (by decide) xyX5_within xiX5_within (Or.inl (lw_gt_of (List.mem_of_getElem? (i := 327) (by decide +kernel)) rfl)) rfl (rest := []) rfl (Nat.le_of_ble_eq_true rfl) rfl (fun z40 h41 => ?_) (fun z40 h41 => ?_)
      · skip
        have h41 : 0 ≤ w.toInt ∧ w.toInt ≤ 8 := h41
        obtain ⟨u, hu, rfl⟩ := sNN (x := w) (n := 9) (by omega) (by omega)
        refine ww_br xCC okX5_tells 14 (P := 1 = 0) (t1 := 30) (t2 := 33) (r := []) rfl (fun q => absurd q (by decide)) (fun _ => ?_)
        refine ww_blk xCC okX5_tells 17 3 (ps := []) (pc' := 39) (lv' := [(4, .ref 54), (0, .ref 0), (1, .int (nI 3)), (2, .int (nI p)), (3, .int (nI u))]) (st' := [.int (-1), .int (z.1 54 0)]) (z' := z) rfl trivial ?_
        rw [show z.1 54 0 = cI (T 3).1 from (hT 3 (by decide)).2.1]
        refine ww_br xCC okX5_tells 20 (P := (cI (T 3).1) = (-1)) (t1 := 42) (t2 := 45) (r := []) rfl (fun c43 => ?_) (fun c43 => ?_)
        · skip
          have h0 := cI_m (by have q0 := (hT 0 (by decide)).1; have q1 := (hT 1 (by decide)).1; have q2 := (hT 2 (by decide)).1; have q3 := (hT 3 (by decide)).1; omega) c43
          refine ww_blk xCC okX5_tells 21 1 (ps := []) (pc' := 44) (lv' := [(4, .ref 54), (0, .ref 0), (1, .int (nI 3)), (2, .int (nI p)), (3, .int (nI u))]) (st' := [.int (-11)]) (z' := z) rfl trivial ?_
          subst xhQ
          exact ww_iret xCC okX5_tells 22 xhr rfl rfl ⟨_, rfl, ⟨(by rw [sTells_m (by decide) hp h74 (by omega) h0]), hTH, KU_rf z⟩⟩
        · skip
          have h0 := cI_nm c43
          obtain ⟨n, k, it, hTs, hk2, hn40, hc0, hc1, hcI⟩ := SY_1 (hT 3 (by decide)) h0
          refine ww_blk xCC okX5_tells 23 3 (ps := []) (pc' := 52) (lv' := [(4, .ref 54), (0, .ref 0), (1, .int (nI 3)), (2, .int (nI p)), (3, .int (nI u))]) (st' := [.int 10, .int (z.1 54 1)]) (z' := z) rfl trivial ?_
          rw [show z.1 54 1 = nI n from hc1]
          refine ww_br xCC okX5_tells 26 (P := (nI n) ≤ 10) (t1 := 58) (t2 := 55) (r := []) rfl (fun c44 => ?_) (fun c44 => ?_)
          · skip
            replace c44 : n ≤ 10 := (sLE (a := n) (b := 10) (by omega) (by omega)).mp c44
            refine ww_blk xCC okX5_tells 29 4 (ps := []) (pc' := 66) (lv' := [(4, .ref 54), (0, .ref 0), (1, .int (nI 3)), (2, .int (nI p)), (3, .int (nI u))]) (st' := [.ref 19, .ref 27]) (z' := z) rfl trivial ?_
            obtain ⟨rt0, hrt0, hzt0⟩ := hTH
            refine ww_callVEv xCC okX5_tells 33 (ix := 139) (t_X0_takeFrom l d (xPull esHN z) rt0 r (RX_pull (by decide) hrt0) (RX_pull8 (by decide) hr) hzt0 hZ) (by omega) (by decide) xyX0_takeFrom xiX0_takeFrom (Or.inr (List.mem_of_getElem? (i := 603) (by decide +kernel))) (by decide +kernel) (by decide) (fun q => by cases q) (q0 := 27) rfl rfl rfl rfl (rest := []) rfl (Nat.le_of_ble_eq_true rfl) rfl (fun zcA hcA => ?_)
            have hkA := KU_esHN_TF (rw := xHasRaw shRR) hcA.2
            obtain ⟨zA, hzA⟩ : ∃ y, y = xBack esHN (xHasRaw shRR) z zcA := ⟨_, rfl⟩
            rw [← hzA] at hkA ⊢
            have hrA := RX_back (es := esHN) (rw := xHasRaw shRR) (z := z) (b := 27) (by decide) hcA.1
            rw [← hzA] at hrA
            have htA := TX_U hkA (by decide) ht
            have hrN := RX_U hkA (by decide) hr
            have h48A : zA.1 54 1 = nI n := (congrFun (hkA 54 (by decide)) 1).trans hc1
            have hitA : ∀ i, i < n → zA.1 55 i = it i := fun i hi => (congrFun (hkA 55 (by decide)) i).trans (hcI i hi)
            have hn10 : n ≤ 10 := by omega
            refine ww_blk xCC okX5_tells 34 1 (ps := []) (pc' := 70) (lv' := [(4, .ref 54), (0, .ref 0), (1, .int (nI 3)), (2, .int (nI p)), (3, .int (nI u))]) (st' := [.int (nI u)]) (z' := zA) rfl trivial ?_
            refine ww_sw xCC okX5_tells 35 (x := (nI u)) (L := [(0, 116), (1, 127), (2, 139), (3, 150), (4, 159), (5, 168), (6, 178), (7, 188)]) (P := (nI u).toInt < 0 ∨ 7 < (nI u).toInt) (t0 := 205) (r := []) rfl (fun c47 => ?_) (And.intro (fun c47 => ?_) (And.intro (fun c47 => ?_) (And.intro (fun c47 => ?_) (And.intro (fun c47 => ?_) (And.intro (fun c47 => ?_) (And.intro (fun c47 => ?_) (And.intro (fun c47 => ?_) ((fun c47 => ?_)))))))))
            · skip
              rw [sTI (k := u) (by omega)] at c47
              refine ww_blk xCC okX5_tells 89 2 (ps := []) (pc' := 208) (lv' := [(4, .ref 54), (0, .ref 0), (1, .int (nI 3)), (2, .int (nI p)), (3, .int (nI u))]) (st' := [.ref 54, .ref 0]) (z' := zA) rfl trivial ?_
              refine ww_callVIi xCC okX5_tells 91 (ix := 215) (t_X5_fittingPeople_3 l d zA r cnt tc hrN hw htA n it hn10 h48A hitA) (by omega) (by decide) xyX5_fittingPeople xiX5_fittingPeople (Or.inl (lw_gt_of (List.mem_of_getElem? (i := 716) (by decide +kernel)) rfl)) rfl rfl rfl (rest := []) rfl (Nat.le_of_ble_eq_true rfl) rfl (fun vX zX hX => ?_)
              rw [hX.1]
              subst xhQ
              exact ww_iret xCC okX5_tells 92 xhr rfl rfl ⟨_, rfl, ⟨(by rw [sTells_y (by decide) hp h74 (by omega) hTs, if_neg (by omega), show u = 8 by omega, if_neg (by decide), if_pos rfl]), TH_U hX.2 (by decide) ⟨r, hrA, hZ⟩, KU_tr hkA (KU_mo hX.2 (by decide))⟩⟩
            · have c47 : (nI u) = 0 := c47
              replace c47 : u = 0 := (sEQ (a := u) (b := 0) (by omega) (by omega)).mp c47
              show ww xp l xe (xRm (d + 7)) xs xm xar xbl xme xc 5 xD xcs xad shX xAA xQ 116 [(4, .ref 54), (0, .ref 0), (1, .int (nI 3)), (2, .int (nI p)), (3, .int (nI u))] [] zA
              refine ww_blk xCC okX5_tells 36 4 (ps := []) (pc' := 123) (lv' := [(4, .ref 54), (0, .ref 0), (1, .int (nI 3)), (2, .int (nI p)), (3, .int (nI u))]) (st' := [.int (nI p), .ref 54, .ref 19]) (z' := zA) rfl trivial ?_
              refine ww_callVEi xCC okX5_tells 40 (ix := 200) (t_X0_firstOtherwise l (d + 1) p (xPull esNS3 zA) r cnt tc (RX_pull (by decide) hrN) hw (TX_pull (by decide) htA) n it hn10 h48A hitA (by omega)) (by omega) (by decide) xyX0_firstOtherwise xiX0_firstOtherwise (Or.inr (List.mem_of_getElem? (i := 696) (by decide +kernel))) (by decide +kernel) (by decide) (fun q => by cases q) (q0 := 19) rfl rfl rfl rfl (rest := []) rfl (Nat.le_of_ble_eq_true rfl) rfl (fun vcO zcO hcO => ?_)
              have hkO := KU_esNS3_KN (rw := xHasRaw shRS) hcO.2
              obtain ⟨zO, hzO⟩ : ∃ y, y = xBack esNS3 (xHasRaw shRS) zA zcO := ⟨_, rfl⟩
              rw [← hzO] at hkO ⊢
              rw [hcO.1]
              subst xhQ
              exact ww_iret xCC okX5_tells 41 xhr rfl rfl ⟨_, rfl, ⟨(by rw [sTells_y (by decide) hp h74 (by omega) hTs, if_neg (by omega), show u = 0 by omega, if_pos rfl]), TH_U hkO (by decide) ⟨r, hrA, hZ⟩, KU_tr hkA (KU_mo hkO (by decide))⟩⟩
            · have c47 : (nI u) = 1 := c47
              replace c47 : u = 1 := (sEQ (a := u) (b := 1) (by omega) (by omega)).mp c47
              show ww xp l xe (xRm (d + 7)) xs xm xar xbl xme xc 5 xD xcs xad shX xAA xQ 127 [(4, .ref 54), (0, .ref 0), (1, .int (nI 3)), (2, .int (nI p)), (3, .int (nI u))] [] zA
              refine ww_blk xCC okX5_tells 42 5 (ps := []) (pc' := 135) (lv' := [(4, .ref 54), (0, .ref 0), (1, .int (nI 3)), (2, .int (nI p)), (3, .int (nI u))]) (st' := [.int 6, .int 8, .int (nI p), .ref 54, .ref 0]) (z' := zA) rfl trivial ?_
              refine ww_callVIi xCC okX5_tells 47 (ix := 204) (t_X5_fittingBits_3 l d zA r cnt tc hrA hw htA hS hZ n it hn10 h48A hitA 8 8 p 6 (by decide) rfl (by omega) (by decide) (by unfold sIs; rw [sTI (k := p) (by omega)]; omega) hp (fun v hv => by show v ≤ 5; omega)) (by omega) (by decide) xyX5_fittingBits xiX5_fittingBits (Or.inl (lw_gt_of (List.mem_of_getElem? (i := 704) (by decide +kernel)) rfl)) rfl rfl rfl (rest := []) rfl (Nat.le_of_ble_eq_true rfl) rfl (fun vX zX hX => ?_)
              rw [hX.1]
              subst xhQ
              exact ww_iret xCC okX5_tells 48 xhr rfl rfl ⟨_, rfl, ⟨(by rw [sTells_y (by decide) hp h74 (by omega) hTs, if_neg (by omega), show u = 1 by omega, if_neg (by decide), if_neg (by decide), show sVr 1 = 8 from rfl, sTl, if_neg (by decide), if_neg (by decide), show sLst 8 cnt + 1 = 6 from rfl]), hX.2.1, KU_tr hkA hX.2.2⟩⟩
            · have c47 : (nI u) = 2 := c47
              replace c47 : u = 2 := (sEQ (a := u) (b := 2) (by omega) (by omega)).mp c47
              show ww xp l xe (xRm (d + 7)) xs xm xar xbl xme xc 5 xD xcs xad shX xAA xQ 139 [(4, .ref 54), (0, .ref 0), (1, .int (nI 3)), (2, .int (nI p)), (3, .int (nI u))] [] zA
              refine ww_blk xCC okX5_tells 49 5 (ps := []) (pc' := 146) (lv' := [(4, .ref 54), (0, .ref 0), (1, .int (nI 3)), (2, .int (nI p)), (3, .int (nI u))]) (st' := [.int 10, .int 5, .int (nI p), .ref 54, .ref 0]) (z' := zA) rfl trivial ?_
              refine ww_callVIi xCC okX5_tells 54 (ix := 204) (t_X5_fittingBits_3 l d zA r cnt tc hrA hw htA hS hZ n it hn10 h48A hitA 5 5 p 10 (by decide) rfl (by omega) (by decide) (by unfold sIs; rw [sTI (k := p) (by omega)]; omega) hp (fun v hv => by show v ≤ 9; omega)) (by omega) (by decide) xyX5_fittingBits xiX5_fittingBits (Or.inl (lw_gt_of (List.mem_of_getElem? (i := 704) (by decide +kernel)) rfl)) rfl rfl rfl (rest := []) rfl (Nat.le_of_ble_eq_true rfl) rfl (fun vX zX hX => ?_)
              rw [hX.1]
              subst xhQ
              exact ww_iret xCC okX5_tells 55 xhr rfl rfl ⟨_, rfl, ⟨(by rw [sTells_y (by decide) hp h74 (by omega) hTs, if_neg (by omega), show u = 2 by omega, if_neg (by decide), if_neg (by decide), show sVr 2 = 5 from rfl, sTl, if_neg (by decide), if_neg (by decide), show sLst 5 cnt + 1 = 10 from rfl]), hX.2.1, KU_tr hkA hX.2.2⟩⟩
            · have c47 : (nI u) = 3 := c47
              replace c47 : u = 3 := (sEQ (a := u) (b := 3) (by omega) (by omega)).mp c47
              show ww xp l xe (xRm (d + 7)) xs xm xar xbl xme xc 5 xD xcs xad shX xAA xQ 150 [(4, .ref 54), (0, .ref 0), (1, .int (nI 3)), (2, .int (nI p)), (3, .int (nI u))] [] zA
              refine ww_blk xCC okX5_tells 56 4 (ps := []) (pc' := 155) (lv' := [(4, .ref 54), (0, .ref 0), (1, .int (nI 3)), (2, .int (nI p)), (3, .int (nI u))]) (st' := [.int 2, .int (nI p), .ref 54, .ref 0]) (z' := zA) rfl trivial ?_
              refine ww_callVIi xCC okX5_tells 60 (ix := 208) (t_X5_howManyFit_3 l d zA r cnt tc hrA hw htA hS hZ n it hn10 h48A hitA 2 2 p  rfl (by omega) (by decide) (by unfold sIs; rw [sTI (k := p) (by omega)]; omega) hp (fun v hv => by show v ≤ 99; omega)) (by omega) (by decide) xyX5_howManyFit xiX5_howManyFit (Or.inl (lw_gt_of (List.mem_of_getElem? (i := 708) (by decide +kernel)) rfl)) rfl rfl rfl (rest := []) rfl (Nat.le_of_ble_eq_true rfl) rfl (fun vX zX hX => ?_)
              rw [hX.1]
              subst xhQ
              exact ww_iret xCC okX5_tells 61 xhr rfl rfl ⟨_, rfl, ⟨(by rw [sTells_y (by decide) hp h74 (by omega) hTs, if_neg (by omega), show u = 3 by omega, if_neg (by decide), if_neg (by decide), show sVr 3 = 2 from rfl, sTl, if_pos (by decide), show sLst 2 cnt + 1 = 100 from rfl]), hX.2.1, KU_tr hkA hX.2.2⟩⟩
            · have c47 : (nI u) = 4 := c47
              replace c47 : u = 4 := (sEQ (a := u) (b := 4) (by omega) (by omega)).mp c47
              show ww xp l xe (xRm (d + 7)) xs xm xar xbl xme xc 5 xD xcs xad shX xAA xQ 159 [(4, .ref 54), (0, .ref 0), (1, .int (nI 3)), (2, .int (nI p)), (3, .int (nI u))] [] zA
              refine ww_blk xCC okX5_tells 62 4 (ps := []) (pc' := 164) (lv' := [(4, .ref 54), (0, .ref 0), (1, .int (nI 3)), (2, .int (nI p)), (3, .int (nI u))]) (st' := [.int 2, .int (nI p), .ref 54, .ref 0]) (z' := zA) rfl trivial ?_
              refine ww_callVIi xCC okX5_tells 66 (ix := 212) (t_X5_leastFitting_3 l d zA r cnt tc hrA hw htA hS hZ n it hn10 h48A hitA 2 2 p  rfl (by omega) (by decide) (by unfold sIs; rw [sTI (k := p) (by omega)]; omega) hp (fun v hv => by show v ≤ 99; omega)) (by omega) (by decide) xyX5_leastFitting xiX5_leastFitting (Or.inl (lw_gt_of (List.mem_of_getElem? (i := 712) (by decide +kernel)) rfl)) rfl rfl rfl (rest := []) rfl (Nat.le_of_ble_eq_true rfl) rfl (fun vX zX hX => ?_)
              rw [hX.1]
              subst xhQ
              exact ww_iret xCC okX5_tells 67 xhr rfl rfl ⟨_, rfl, ⟨(by rw [sTells_y (by decide) hp h74 (by omega) hTs, if_neg (by omega), show u = 4 by omega, if_neg (by decide), if_neg (by decide), show sVr 4 = 2 from rfl, sTl, if_neg (by decide), if_pos (by decide), show sLst 2 cnt + 1 = 100 from rfl]), hX.2.1, KU_tr hkA hX.2.2⟩⟩
            · have c47 : (nI u) = 5 := c47
              replace c47 : u = 5 := (sEQ (a := u) (b := 5) (by omega) (by omega)).mp c47
              show ww xp l xe (xRm (d + 7)) xs xm xar xbl xme xc 5 xD xcs xad shX xAA xQ 168 [(4, .ref 54), (0, .ref 0), (1, .int (nI 3)), (2, .int (nI p)), (3, .int (nI u))] [] zA
              refine ww_blk xCC okX5_tells 68 4 (ps := []) (pc' := 174) (lv' := [(4, .ref 54), (0, .ref 0), (1, .int (nI 3)), (2, .int (nI p)), (3, .int (nI u))]) (st' := [.int 7, .int (nI p), .ref 54, .ref 0]) (z' := zA) rfl trivial ?_
              refine ww_callVIi xCC okX5_tells 72 (ix := 208) (t_X5_howManyFit_3 l d zA r cnt tc hrA hw htA hS hZ n it hn10 h48A hitA 7 7 p  rfl (by omega) (by decide) (by unfold sIs; rw [sTI (k := p) (by omega)]; omega) hp (fun v hv => by show v ≤ 99; omega)) (by omega) (by decide) xyX5_howManyFit xiX5_howManyFit (Or.inl (lw_gt_of (List.mem_of_getElem? (i := 708) (by decide +kernel)) rfl)) rfl rfl rfl (rest := []) rfl (Nat.le_of_ble_eq_true rfl) rfl (fun vX zX hX => ?_)
              rw [hX.1]
              subst xhQ
              exact ww_iret xCC okX5_tells 73 xhr rfl rfl ⟨_, rfl, ⟨(by rw [sTells_y (by decide) hp h74 (by omega) hTs, if_neg (by omega), show u = 5 by omega, if_neg (by decide), if_neg (by decide), show sVr 5 = 7 from rfl, sTl, if_pos (by decide), show sLst 7 cnt + 1 = 100 from rfl]), hX.2.1, KU_tr hkA hX.2.2⟩⟩
            · have c47 : (nI u) = 6 := c47
              replace c47 : u = 6 := (sEQ (a := u) (b := 6) (by omega) (by omega)).mp c47
              show ww xp l xe (xRm (d + 7)) xs xm xar xbl xme xc 5 xD xcs xad shX xAA xQ 178 [(4, .ref 54), (0, .ref 0), (1, .int (nI 3)), (2, .int (nI p)), (3, .int (nI u))] [] zA
              refine ww_blk xCC okX5_tells 74 4 (ps := []) (pc' := 184) (lv' := [(4, .ref 54), (0, .ref 0), (1, .int (nI 3)), (2, .int (nI p)), (3, .int (nI u))]) (st' := [.int 7, .int (nI p), .ref 54, .ref 0]) (z' := zA) rfl trivial ?_
              refine ww_callVIi xCC okX5_tells 78 (ix := 212) (t_X5_leastFitting_3 l d zA r cnt tc hrA hw htA hS hZ n it hn10 h48A hitA 7 7 p  rfl (by omega) (by decide) (by unfold sIs; rw [sTI (k := p) (by omega)]; omega) hp (fun v hv => by show v ≤ 99; omega)) (by omega) (by decide) xyX5_leastFitting xiX5_leastFitting (Or.inl (lw_gt_of (List.mem_of_getElem? (i := 712) (by decide +kernel)) rfl)) rfl rfl rfl (rest := []) rfl (Nat.le_of_ble_eq_true rfl) rfl (fun vX zX hX => ?_)
              rw [hX.1]
              subst xhQ
              exact ww_iret xCC okX5_tells 79 xhr rfl rfl ⟨_, rfl, ⟨(by rw [sTells_y (by decide) hp h74 (by omega) hTs, if_neg (by omega), show u = 6 by omega, if_neg (by decide), if_neg (by decide), show sVr 6 = 7 from rfl, sTl, if_neg (by decide), if_pos (by decide), show sLst 7 cnt + 1 = 100 from rfl]), hX.2.1, KU_tr hkA hX.2.2⟩⟩
            · have c47 : (nI u) = 7 := c47
              replace c47 : u = 7 := (sEQ (a := u) (b := 7) (by omega) (by omega)).mp c47
              show ww xp l xe (xRm (d + 7)) xs xm xar xbl xme xc 5 xD xcs xad shX xAA xQ 188 [(4, .ref 54), (0, .ref 0), (1, .int (nI 3)), (2, .int (nI p)), (3, .int (nI u))] [] zA
              refine ww_blk xCC okX5_tells 80 7 (ps := []) (pc' := 201) (lv' := [(4, .ref 54), (0, .ref 0), (1, .int (nI 3)), (2, .int (nI p)), (3, .int (nI u))]) (st' := [.int (zA.1 1 2), .int 13, .int (nI p), .ref 54, .ref 0]) (z' := zA) rfl trivial ?_
              rw [show zA.1 1 2 = nI cnt from htA.1]
              refine ww_callVIi xCC okX5_tells 87 (ix := 204) (t_X5_fittingBits_3 l d zA r cnt tc hrA hw htA hS hZ n it hn10 h48A hitA 13 9 p cnt (by omega) rfl (by omega) (by decide) (by unfold sIs; rw [sTI (k := p) (by omega)]; omega) hp (fun v hv => by show v ≤ cnt - 1; omega)) (by omega) (by decide) xyX5_fittingBits xiX5_fittingBits (Or.inl (lw_gt_of (List.mem_of_getElem? (i := 704) (by decide +kernel)) rfl)) rfl rfl rfl (rest := []) rfl (Nat.le_of_ble_eq_true rfl) rfl (fun vX zX hX => ?_)
              rw [hX.1]
              subst xhQ
              exact ww_iret xCC okX5_tells 88 xhr rfl rfl ⟨_, rfl, ⟨(by rw [sTells_y (by decide) hp h74 (by omega) hTs, if_neg (by omega), show u = 7 by omega, if_neg (by decide), if_neg (by decide), show sVr 7 = 9 from rfl, sTl, if_neg (by decide), if_neg (by decide), show sLst 9 cnt + 1 = cnt from Nat.sub_add_cancel ht.2.1]), hX.2.1, KU_tr hkA hX.2.2⟩⟩
          · skip
            replace c44 : ¬ n ≤ 10 := fun q => c44 ((sLE (a := n) (b := 10) (by omega) (by omega)).mpr q)
            refine ww_blk xCC okX5_tells 27 1 (ps := []) (pc' := 57) (lv' := [(4, .ref 54), (0, .ref 0), (1, .int (nI 3)), (2, .int (nI p)), (3, .int (nI u))]) (st' := [.int (-2)]) (z' := z) rfl trivial ?_
            subst xhQ
            exact ww_iret xCC okX5_tells 28 xhr rfl rfl ⟨_, rfl, ⟨(by rw [sTells_y (by decide) hp h74 (by omega) hTs, if_pos (by omega)]), hTH, KU_rf z⟩⟩
      · skip
        have h41 : ¬ (0 ≤ w.toInt ∧ w.toInt ≤ 8) := h41
        refine ww_br xCC okX5_tells 14 (P := 0 = 0) (t1 := 30) (t2 := 33) (r := []) rfl (fun _ => ?_) (fun q => absurd (by decide) q)
        refine ww_blk xCC okX5_tells 15 1 (ps := []) (pc' := 32) (lv' := [(4, .ref 54), (0, .ref 0), (1, .int (nI 3)), (2, .int (nI p)), (3, .int w)]) (st' := [.int (-2)]) (z' := z) rfl trivial ?_
        subst xhQ
        exact ww_iret xCC okX5_tells 16 xhr rfl rfl ⟨_, rfl, ⟨(by unfold sTells; rw [if_neg (by have q9 := sTI (k := 3) (by decide); omega)]), hTH, KU_rf z⟩⟩
    · skip
      rw [hO.2]
      replace hO := hO.1
      refine ww_br xCC okX5_tells 9 (P := 0 = 0) (t1 := 30) (t2 := 20) (r := []) rfl (fun _ => ?_) (fun q => absurd (by decide) q)
      refine ww_blk xCC okX5_tells 15 1 (ps := []) (pc' := 32) (lv' := [(4, .ref 54), (0, .ref 0), (1, .int (nI 3)), (2, .int y), (3, .int w)]) (st' := [.int (-2)]) (z' := z) rfl trivial ?_
      subst xhQ
      exact ww_iret xCC okX5_tells 16 xhr rfl rfl ⟨_, rfl, ⟨(by unfold sTells; rw [if_neg (by have q9 := sTI (k := 3) (by decide); omega)]), hTH, KU_rf z⟩⟩
