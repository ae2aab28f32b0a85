/-! fail and opens of the model -/
set_option maxHeartbeats 4000000 in
set_option maxRecDepth 20000 in
theorem t_X6_fail_g (l : Launch) (d : Nat) (z : xMem) (hbad : z.1 0 29 = 0) : XMv l d yX6_fail cX6_fail 1 none shM [.ref 0] z (fun z' => z' = mPut (mPut z 0 29 1) 0 30 (z.1 0 26)) := by
  refine XM.of (by decide) (Nat.le_of_ble_eq_true rfl) (fun xp xe xs xm xar xbl xme xc xD xcs xad xAA xCC xhr => ?_)
  generalize xhQ : MQ xbl _ xar xs 0 0 xAA = xQ
  show ww xp l xe (xRm d) xs xm xar xbl xme xc 1 xD xcs xad shM xAA xQ 0 [(0, .ref 0)] [] z
  refine ww_blk xCC okX6_fail 0 2 (ps := []) (pc' := 4) (lv' := [(0, .ref 0)]) (st' := [.int (z.1 0 29)]) (z' := z) rfl trivial ?_
  refine ww_br xCC okX6_fail 2 (P := (z.1 0 29) = 0) (t1 := 7) (t2 := 20) (r := []) rfl (fun c1 => ?_) (fun c1 => absurd (hbad) c1)
  refine ww_blk xCC okX6_fail 3 7 (ps := [1 = 0 ∨ 1 = 1]) (pc' := 20) (lv' := [(0, .ref 0)]) (st' := []) (z' := (mPut (mPut z 0 29 1) 0 30 (z.1 0 26))) rfl (Or.inr rfl) ?_
  subst xhQ
  exact ww_vret xCC okX6_fail 10 xhr rfl ⟨rfl, rfl⟩

set_option maxHeartbeats 4000000 in
set_option maxRecDepth 20000 in
theorem t_X6_fail_b (l : Launch) (d : Nat) (z : xMem) (hbad : z.1 0 29 = 1) : XMv l d yX6_fail cX6_fail 1 none shM [.ref 0] z (fun z' => z' = z) := by
  refine XM.of (by decide) (Nat.le_of_ble_eq_true rfl) (fun xp xe xs xm xar xbl xme xc xD xcs xad xAA xCC xhr => ?_)
  generalize xhQ : MQ xbl _ xar xs 0 0 xAA = xQ
  show ww xp l xe (xRm d) xs xm xar xbl xme xc 1 xD xcs xad shM xAA xQ 0 [(0, .ref 0)] [] z
  refine ww_blk xCC okX6_fail 0 2 (ps := []) (pc' := 4) (lv' := [(0, .ref 0)]) (st' := [.int (z.1 0 29)]) (z' := z) rfl trivial ?_
  refine ww_br xCC okX6_fail 2 (P := (z.1 0 29) = 0) (t1 := 7) (t2 := 20) (r := []) rfl (fun c1 => absurd c1 (by rw [hbad]; decide)) (fun c1 => ?_)
  subst xhQ
  exact ww_vret xCC okX6_fail 10 xhr rfl ⟨rfl, rfl⟩

set_option maxHeartbeats 4000000 in
set_option maxRecDepth 20000 in
theorem t_X6_opens (l : Launch) (d : Nat) (z : xMem) (bt : Nat → Nat) (n fr : Nat) (pos o : Nat) (hgs : gS z bt n fr pos o) (hne : (pTok bt n pos).1 ≠ 10022) : XMz l (d + 2) yX6_opens cX6_opens 1 (some .boolean) shM [.ref 0] z (fun z' => o < 5 ∧ gS z' bt n fr (pTok bt n pos).2.2 (o + 1) ∧ pK z z') (fun z' => 5 ≤ o ∧ bS z' (pTok bt n pos).2.1 ∧ pK z z') := by
  refine XM.of (by decide) (Nat.le_of_ble_eq_true rfl) (fun xp xe xs xm xar xbl xme xc xD xcs xad xAA xCC xhr => ?_)
  generalize xhQ : MQ xbl _ xar xs 0 0 xAA = xQ
  show ww xp l xe (xRm (d + 2)) xs xm xar xbl xme xc 1 xD xcs xad shM xAA xQ 0 [(0, .ref 0)] [] z
  refine ww_blk xCC okX6_opens 0 3 (ps := []) (pc' := 5) (lv' := [(0, .ref 0)]) (st' := [.int 5, .int (z.1 0 28)]) (z' := z) rfl trivial ?_
  rw [hgs.2.2.1]
  refine ww_br xCC okX6_opens 3 (P := (nI o) = 5) (t1 := 8) (t2 := 14) (r := []) rfl (fun c1 => ?_) (fun c1 => ?_)
  · skip
    replace c1 : o = 5 := (sEQ (a := o) (b := 5) (by have := hgs.2.2.2.2.2; omega) (by have := hgs.2.2.2.2.2; omega)).mp c1
    refine ww_blk xCC okX6_opens 4 1 (ps := []) (pc' := 9) (lv' := [(0, .ref 0)]) (st' := [.ref 0]) (z' := z) rfl trivial ?_
    refine ww_callVIv xCC okX6_opens 5 (ix := 189) (t_X6_fail_g l d z hgs.2.1) (by omega) (by decide) xyX6_fail xiX6_fail (Or.inl (lw_gt_of (List.mem_of_getElem? (i := 1040) (by decide +kernel)) rfl)) rfl rfl rfl (rest := []) rfl (Nat.le_of_ble_eq_true rfl) rfl (fun z2 h3 => ?_)
    rw [h3]
    have hBf : bS (mPut (mPut z 0 29 1) 0 30 (z.1 0 26)) (pTok bt n pos).2.1 := ⟨rfl, hgs.2.2.2.1.1⟩
    refine ww_blk xCC okX6_opens 6 1 (ps := []) (pc' := 13) (lv' := [(0, .ref 0)]) (st' := [.int 0]) (z' := (mPut (mPut z 0 29 1) 0 30 (z.1 0 26))) rfl trivial ?_
    subst xhQ
    exact ww_iret xCC okX6_opens 7 xhr rfl (by decide) (Or.inr ⟨rfl, ⟨(by omega), hBf, (pK_put (pK_put (pK_rf z) _ (by omega)) _ (by omega))⟩⟩)
  · skip
    replace c1 : ¬ o = 5 := fun q => c1 ((sEQ (a := o) (b := 5) (by have := hgs.2.2.2.2.2; omega) (by have := hgs.2.2.2.2.2; omega)).mpr q)
    refine ww_blk xCC okX6_opens 8 7 (ps := []) (pc' := 25) (lv' := [(0, .ref 0)]) (st' := [.ref 0]) (z' := (mPut z 0 28 ((z.1 0 28) + 1))) rfl trivial ?_
    rw [hgs.2.2.1]
    rw [nI_1 o]
    have hg1 : gS (mPut z 0 28 (nI (o + 1))) bt n fr pos (o + 1) := ⟨pM_K (pK_put (pK_rf z) _ (by omega)) hgs.1, hgs.2.1, rfl, tkM_K hgs.2.2.2.1 rfl rfl rfl rfl, hgs.2.2.2.2.1, (by have := hgs.2.2.2.2.2; omega)⟩
    refine ww_callVIv xCC okX6_opens 15 (ix := 192) (t_X6_next l d (mPut z 0 28 (nI (o + 1))) bt n fr hg1.1 (pTok bt n pos).2.2 (pTok_le hg1.2.2.2.2.1).1 (tkM_here hg1.2.2.2.1 hne)) (by omega) (by decide) xyX6_next xiX6_next (Or.inl (lw_gt_of (List.mem_of_getElem? (i := 1015) (by decide +kernel)) rfl)) rfl rfl rfl (rest := []) rfl (Nat.le_of_ble_eq_true rfl) rfl (fun z5 h6 => ?_)
    have hgN25 := gS_nx hg1.1 hg1.2.1 hg1.2.2.1 h6.1 h6.2 (pTok_le hg1.2.2.2.2.1).1 hg1.2.2.2.2.2
    have hKN25 := pK_tr (pK_put (pK_rf z) _ (by omega)) (pK4_K h6.1)
    refine ww_blk xCC okX6_opens 16 1 (ps := []) (pc' := 29) (lv' := [(0, .ref 0)]) (st' := [.int 1]) (z' := z5) rfl trivial ?_
    subst xhQ
    exact ww_iret xCC okX6_opens 17 xhr rfl (by decide) (Or.inl ⟨rfl, ⟨(by have := hgs.2.2.2.2.2; omega), hgN25, hKN25⟩⟩)
