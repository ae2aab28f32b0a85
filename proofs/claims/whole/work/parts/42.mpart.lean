/-! part and read of the model -/
set_option maxHeartbeats 4000000 in
set_option maxRecDepth 20000 in
theorem t_X6_part1 (l : Launch) (d : Nat) (bt : Nat → Nat) (n fr : Nat) (F : Nat) (z : xMem) (pos tag key : Nat) (cs : List Nat) (p : Nat) (hgs : gS z bt n fr pos 0) (hP : pPt bt n F key pos = (tag, cs, p)) (ht : tag ≠ 0) (hk : (pTok bt n pos).1 = key) (hkn : key ≠ 10022) : XMi l (d + F + 6) yX6_part cX6_part 3 (some .int) shM [.ref 0, .int 1] z (fun v z' => mR z z' bt n fr 0 tag cs p v) := by
  refine XM.of (by decide) (Nat.le_of_ble_eq_true rfl) (fun xp xe xs xm xar xbl xme xc xD xcs xad xAA xCC xhr => ?_)
  generalize xhQ : MQ xbl _ xar xs 0 0 xAA = xQ
  show ww xp l xe (xRm (d + F + 6)) xs xm xar xbl xme xc 3 xD xcs xad shM xAA xQ 0 [(0, .ref 0), (1, .int 1)] [] z
  obtain ⟨t1, x1, p1, h1, ht1, hc1⟩ := pPt_key hP ht hk
  refine ww_blk xCC okX6_part 0 1 (ps := []) (pc' := 1) (lv' := [(0, .ref 0), (1, .int 1)]) (st' := [.int 1]) (z' := z) rfl trivial ?_
  refine ww_br xCC okX6_part 1 (P := 1 = 0) (t1 := 4) (t2 := 8) (r := []) rfl (fun q => absurd q (by decide)) (fun _ => ?_)
  refine ww_blk xCC okX6_part 4 2 (ps := []) (pc' := 12) (lv' := [(0, .ref 0), (1, .int 1)]) (st' := [.int (z.1 0 29)]) (z' := z) rfl trivial ?_
  refine ww_br xCC okX6_part 6 (P := (z.1 0 29) = 0) (t1 := 15) (t2 := 19) (r := []) rfl (fun c2 => ?_) (fun c2 => absurd (hgs.2.1) c2)
  refine ww_blk xCC okX6_part 7 1 (ps := []) (pc' := 16) (lv' := [(0, .ref 0), (1, .int 1)]) (st' := [.ref 0]) (z' := z) rfl trivial ?_
  refine ww_callVIv xCC okX6_part 8 (ix := 192) (t_X6_next l d z bt n fr hgs.1 (pTok bt n pos).2.2 (pTok_le hgs.2.2.2.2.1).1 (tkM_here hgs.2.2.2.1 (by rw [hk]; exact hkn))) (by omega) (by decide) xyX6_next xiX6_next (Or.inl (lw_gt_of (List.mem_of_getElem? (i := 1011) (by decide +kernel)) rfl)) rfl rfl rfl (rest := []) rfl (Nat.le_of_ble_eq_true rfl) rfl (fun z3 h4 => ?_)
  have hgN16 := gS_nx hgs.1 hgs.2.1 hgs.2.2.1 h4.1 h4.2 (pTok_le hgs.2.2.2.2.1).1 hgs.2.2.2.2.2
  have hKN16 := pK_tr (pK_rf z) (pK4_K h4.1)
  refine ww_blk xCC okX6_part 9 2 (ps := []) (pc' := 23) (lv' := [(0, .ref 0), (1, .int 1)]) (st' := [.int (z3.1 0 29)]) (z' := z3) rfl trivial ?_
  refine ww_br xCC okX6_part 11 (P := (z3.1 0 29) = 0) (t1 := 30) (t2 := 26) (r := []) rfl (fun c6 => ?_) (fun c6 => absurd (hgN16.2.1) c6)
  refine ww_blk xCC okX6_part 14 1 (ps := []) (pc' := 31) (lv' := [(0, .ref 0), (1, .int 1)]) (st' := [.ref 0]) (z' := z3) rfl trivial ?_
  refine ww_callVIi xCC okX6_part 15 (ix := 227) ((m_all l bt n fr F).1 d z3 0 ((pTok bt n pos).2.2) t1 x1 p1 hgN16 h1 ht1) (by omega) (by decide) xyX6_either xiX6_either (Or.inl (lw_gt_of (List.mem_of_getElem? (i := 1040) (by decide +kernel)) rfl)) rfl rfl rfl (rest := []) rfl (Nat.le_of_ble_eq_true rfl) rfl (fun vA zA hA => ?_)
  obtain ⟨hK1, hA1⟩ := hA
  have hv5 : t1 = 1 → ∀ st, pEv (pF z) x1 st = vA :: st := fun w st => by
    rcases hA1 with ⟨-, -, q⟩ | ⟨q, -⟩
    · rw [← pEv_K hKN16]; exact q st
    · omega
  replace hK1 := pK_tr hKN16 hK1
  rcases hA1 with ⟨e1, hS1, -⟩ | ⟨e1, hB1⟩
  · skip
    replace hv5 := hv5 e1
    have hc2 := (hc1.resolve_left (fun w => absurd w.1 (by omega))).2
    refine ww_blk xCC okX6_part 16 3 (ps := []) (pc' := 38) (lv' := [(2, .int vA), (0, .ref 0), (1, .int 1)]) (st' := [.int 59, .ref 0]) (z' := zA) rfl trivial ?_
    refine ww_callVIz xCC okX6_part 19 (ix := 217) (t_X6_isSign l d zA bt n p1 hS1.1.2.2.2.1 hS1.2.1 hS1.2.2.2.1 59 (by decide)) (by omega) (by decide) xyX6_isSign xiX6_isSign (Or.inl (lw_gt_of (List.mem_of_getElem? (i := 1068) (by decide +kernel)) rfl)) rfl rfl rfl (rest := []) rfl (Nat.le_of_ble_eq_true rfl) rfl (fun z7 h8 => ?_) (fun z7 h8 => ?_)
    · skip
      rw [h8.2]
      have hs38 := h8.1
      refine ww_br xCC okX6_part 20 (P := 1 = 0) (t1 := 44) (t2 := 48) (r := []) rfl (fun q => absurd q (by decide)) (fun _ => ?_)
      refine ww_blk xCC okX6_part 23 2 (ps := []) (pc' := 52) (lv' := [(2, .int vA), (0, .ref 0), (1, .int 1)]) (st' := [.int (zA.1 0 29)]) (z' := zA) rfl trivial ?_
      refine ww_br xCC okX6_part 25 (P := (zA.1 0 29) = 0) (t1 := 55) (t2 := 59) (r := []) rfl (fun c10 => ?_) (fun c10 => absurd (hS1.2.1) c10)
      obtain ⟨-, k1, k2, k3⟩ := hc2.resolve_right (fun w => w.1 (hs38.trans (by decide)))
      refine ww_blk xCC okX6_part 26 1 (ps := []) (pc' := 56) (lv' := [(2, .int vA), (0, .ref 0), (1, .int 1)]) (st' := [.ref 0]) (z' := zA) rfl trivial ?_
      refine ww_callVIv xCC okX6_part 27 (ix := 192) (t_X6_next l d zA bt n fr hS1.1 (pTok bt n p1).2.2 (pTok_le hS1.2.2.2.2.1).1 (tkM_here hS1.2.2.2.1 (by rw [hs38]; decide))) (by omega) (by decide) xyX6_next xiX6_next (Or.inl (lw_gt_of (List.mem_of_getElem? (i := 1011) (by decide +kernel)) rfl)) rfl rfl rfl (rest := []) rfl (Nat.le_of_ble_eq_true rfl) rfl (fun z11 h12 => ?_)
      have hgN56 := gS_nx hS1.1 hS1.2.1 hS1.2.2.1 h12.1 h12.2 (pTok_le hS1.2.2.2.2.1).1 hS1.2.2.2.2.2
      have hKN56 := pK_tr hK1 (pK4_K h12.1)
      refine ww_blk xCC okX6_part 28 1 (ps := []) (pc' := 60) (lv' := [(2, .int vA), (0, .ref 0), (1, .int 1)]) (st' := [.int vA]) (z' := z11) rfl trivial ?_
      subst xhQ
      exact ww_iret xCC okX6_part 29 xhr rfl rfl ⟨_, rfl, ⟨hKN56, Or.inl ⟨k1, (by rw [k3]; exact hgN56), fun st => (by rw [k2]; exact hv5 st)⟩⟩⟩
    · skip
      rw [h8.2]
      have hs38 := h8.1
      refine ww_br xCC okX6_part 20 (P := 0 = 0) (t1 := 44) (t2 := 48) (r := []) rfl (fun _ => ?_) (fun q => absurd (by decide) q)
      refine ww_blk xCC okX6_part 21 1 (ps := []) (pc' := 45) (lv' := [(2, .int vA), (0, .ref 0), (1, .int 1)]) (st' := [.ref 0]) (z' := zA) rfl trivial ?_
      refine ww_callVIv xCC okX6_part 22 (ix := 189) (t_X6_fail_g l d zA hS1.2.1) (by omega) (by decide) xyX6_fail xiX6_fail (Or.inl (lw_gt_of (List.mem_of_getElem? (i := 1036) (by decide +kernel)) rfl)) rfl rfl rfl (rest := []) rfl (Nat.le_of_ble_eq_true rfl) rfl (fun z15 h16 => ?_)
      rw [h16]
      have hBf : bS (mPut (mPut zA 0 29 1) 0 30 (zA.1 0 26)) (pTok bt n p1).2.1 := ⟨rfl, hS1.2.2.2.1.1⟩
      obtain ⟨-, htag, hp⟩ := hc2.resolve_left (fun w => hs38 (w.1.trans (by decide)))
      refine ww_blk xCC okX6_part 23 2 (ps := []) (pc' := 52) (lv' := [(2, .int vA), (0, .ref 0), (1, .int 1)]) (st' := [.int 1]) (z' := (mPut (mPut zA 0 29 1) 0 30 (zA.1 0 26))) rfl trivial ?_
      refine ww_br xCC okX6_part 25 (P := 1 = 0) (t1 := 55) (t2 := 59) (r := []) rfl (fun q => absurd q (by decide)) (fun _ => ?_)
      refine ww_blk xCC okX6_part 28 1 (ps := []) (pc' := 60) (lv' := [(2, .int vA), (0, .ref 0), (1, .int 1)]) (st' := [.int vA]) (z' := (mPut (mPut zA 0 29 1) 0 30 (zA.1 0 26))) rfl trivial ?_
      subst xhQ
      exact ww_iret xCC okX6_part 29 xhr rfl rfl ⟨_, rfl, ⟨(pK_put (pK_put hK1 _ (by omega)) _ (by omega)), Or.inr ⟨htag, (by rw [hp]; exact hBf)⟩⟩⟩
  · skip
    obtain ⟨htag, hp⟩ : tag = 2 ∧ p = p1 := by
      rcases hc1 with w | w
      · exact w.2
      · omega
    refine ww_blk xCC okX6_part 16 3 (ps := []) (pc' := 38) (lv' := [(2, .int vA), (0, .ref 0), (1, .int 1)]) (st' := [.int 59, .ref 0]) (z' := zA) rfl trivial ?_
    refine ww_callVIi xCC okX6_part 19 (ix := 217) (t_X6_isSign_b l d zA hB1.1 59) (by omega) (by decide) xyX6_isSign xiX6_isSign (Or.inl (lw_gt_of (List.mem_of_getElem? (i := 1068) (by decide +kernel)) rfl)) rfl rfl rfl (rest := []) rfl (Nat.le_of_ble_eq_true rfl) rfl (fun v21 z19 h20 => ?_)
    rw [h20.1, h20.2]
    refine ww_br xCC okX6_part 20 (P := 0 = 0) (t1 := 44) (t2 := 48) (r := []) rfl (fun _ => ?_) (fun q => absurd (by decide) q)
    refine ww_blk xCC okX6_part 21 1 (ps := []) (pc' := 45) (lv' := [(2, .int vA), (0, .ref 0), (1, .int 1)]) (st' := [.ref 0]) (z' := zA) rfl trivial ?_
    refine ww_callVIv xCC okX6_part 22 (ix := 189) (t_X6_fail_b l d zA hB1.1) (by omega) (by decide) xyX6_fail xiX6_fail (Or.inl (lw_gt_of (List.mem_of_getElem? (i := 1036) (by decide +kernel)) rfl)) rfl rfl rfl (rest := []) rfl (Nat.le_of_ble_eq_true rfl) rfl (fun z23 h24 => ?_)
    rw [h24]
    refine ww_blk xCC okX6_part 23 2 (ps := []) (pc' := 52) (lv' := [(2, .int vA), (0, .ref 0), (1, .int 1)]) (st' := [.int (zA.1 0 29)]) (z' := zA) rfl trivial ?_
    refine ww_br xCC okX6_part 25 (P := (zA.1 0 29) = 0) (t1 := 55) (t2 := 59) (r := []) rfl (fun c26 => absurd c26 (by rw [hB1.1]; decide)) (fun c26 => ?_)
    refine ww_blk xCC okX6_part 28 1 (ps := []) (pc' := 60) (lv' := [(2, .int vA), (0, .ref 0), (1, .int 1)]) (st' := [.int vA]) (z' := zA) rfl trivial ?_
    subst xhQ
    exact ww_iret xCC okX6_part 29 xhr rfl rfl ⟨_, rfl, ⟨hK1, Or.inr ⟨htag, (by rw [hp]; exact hB1)⟩⟩⟩

set_option maxHeartbeats 4000000 in
set_option maxRecDepth 20000 in
theorem t_X6_part0 (l : Launch) (d : Nat) (bt : Nat → Nat) (n fr : Nat) (z : xMem) (pos : Nat) (hgs : gS z bt n fr pos 0) : XMi l (d + 1) yX6_part cX6_part 3 (some .int) shM [.ref 0, .int 0] z (fun _ z' => bS z' (pTok bt n pos).2.1 ∧ pK z z') := by
  refine XM.of (by decide) (Nat.le_of_ble_eq_true rfl) (fun xp xe xs xm xar xbl xme xc xD xcs xad xAA xCC xhr => ?_)
  generalize xhQ : MQ xbl _ xar xs 0 0 xAA = xQ
  show ww xp l xe (xRm (d + 1)) xs xm xar xbl xme xc 3 xD xcs xad shM xAA xQ 0 [(0, .ref 0), (1, .int 0)] [] z
  refine ww_blk xCC okX6_part 0 1 (ps := []) (pc' := 1) (lv' := [(0, .ref 0), (1, .int 0)]) (st' := [.int 0]) (z' := z) rfl trivial ?_
  refine ww_br xCC okX6_part 1 (P := 0 = 0) (t1 := 4) (t2 := 8) (r := []) rfl (fun _ => ?_) (fun q => absurd (by decide) q)
  refine ww_blk xCC okX6_part 2 1 (ps := []) (pc' := 5) (lv' := [(0, .ref 0), (1, .int 0)]) (st' := [.ref 0]) (z' := z) rfl trivial ?_
  refine ww_callVIv xCC okX6_part 3 (ix := 189) (t_X6_fail_g l d z hgs.2.1) (by omega) (by decide) xyX6_fail xiX6_fail (Or.inl (lw_gt_of (List.mem_of_getElem? (i := 1036) (by decide +kernel)) rfl)) rfl rfl rfl (rest := []) rfl (Nat.le_of_ble_eq_true rfl) rfl (fun z2 h3 => ?_)
  rw [h3]
  have hBf : bS (mPut (mPut z 0 29 1) 0 30 (z.1 0 26)) (pTok bt n pos).2.1 := ⟨rfl, hgs.2.2.2.1.1⟩
  refine ww_blk xCC okX6_part 4 2 (ps := []) (pc' := 12) (lv' := [(0, .ref 0), (1, .int 0)]) (st' := [.int 1]) (z' := (mPut (mPut z 0 29 1) 0 30 (z.1 0 26))) rfl trivial ?_
  refine ww_br xCC okX6_part 6 (P := 1 = 0) (t1 := 15) (t2 := 19) (r := []) rfl (fun q => absurd q (by decide)) (fun _ => ?_)
  refine ww_blk xCC okX6_part 9 2 (ps := []) (pc' := 23) (lv' := [(0, .ref 0), (1, .int 0)]) (st' := [.int 1]) (z' := (mPut (mPut z 0 29 1) 0 30 (z.1 0 26))) rfl trivial ?_
  refine ww_br xCC okX6_part 11 (P := 1 = 0) (t1 := 30) (t2 := 26) (r := []) rfl (fun q => absurd q (by decide)) (fun _ => ?_)
  refine ww_blk xCC okX6_part 12 2 (ps := []) (pc' := 34) (lv' := [(0, .ref 0), (1, .int 0)]) (st' := [.int 0]) (z' := (mPut (mPut z 0 29 1) 0 30 (z.1 0 26))) rfl trivial ?_
  refine ww_blk xCC okX6_part 16 3 (ps := []) (pc' := 38) (lv' := [(2, .int 0), (0, .ref 0), (1, .int 0)]) (st' := [.int 59, .ref 0]) (z' := (mPut (mPut z 0 29 1) 0 30 (z.1 0 26))) rfl trivial ?_
  refine ww_callVIi xCC okX6_part 19 (ix := 217) (t_X6_isSign_b l d (mPut (mPut z 0 29 1) 0 30 (z.1 0 26)) hBf.1 59) (by omega) (by decide) xyX6_isSign xiX6_isSign (Or.inl (lw_gt_of (List.mem_of_getElem? (i := 1068) (by decide +kernel)) rfl)) rfl rfl rfl (rest := []) rfl (Nat.le_of_ble_eq_true rfl) rfl (fun v9 z7 h8 => ?_)
  rw [h8.1, h8.2]
  refine ww_br xCC okX6_part 20 (P := 0 = 0) (t1 := 44) (t2 := 48) (r := []) rfl (fun _ => ?_) (fun q => absurd (by decide) q)
  refine ww_blk xCC okX6_part 21 1 (ps := []) (pc' := 45) (lv' := [(2, .int 0), (0, .ref 0), (1, .int 0)]) (st' := [.ref 0]) (z' := (mPut (mPut z 0 29 1) 0 30 (z.1 0 26))) rfl trivial ?_
  refine ww_callVIv xCC okX6_part 22 (ix := 189) (t_X6_fail_b l d (mPut (mPut z 0 29 1) 0 30 (z.1 0 26)) hBf.1) (by omega) (by decide) xyX6_fail xiX6_fail (Or.inl (lw_gt_of (List.mem_of_getElem? (i := 1036) (by decide +kernel)) rfl)) rfl rfl rfl (rest := []) rfl (Nat.le_of_ble_eq_true rfl) rfl (fun z11 h12 => ?_)
  rw [h12]
  refine ww_blk xCC okX6_part 23 2 (ps := []) (pc' := 52) (lv' := [(2, .int 0), (0, .ref 0), (1, .int 0)]) (st' := [.int 1]) (z' := (mPut (mPut z 0 29 1) 0 30 (z.1 0 26))) rfl trivial ?_
  refine ww_br xCC okX6_part 25 (P := 1 = 0) (t1 := 55) (t2 := 59) (r := []) rfl (fun q => absurd q (by decide)) (fun _ => ?_)
  refine ww_blk xCC okX6_part 28 1 (ps := []) (pc' := 60) (lv' := [(2, .int 0), (0, .ref 0), (1, .int 0)]) (st' := [.int 0]) (z' := (mPut (mPut z 0 29 1) 0 30 (z.1 0 26))) rfl trivial ?_
  subst xhQ
  exact ww_iret xCC okX6_part 29 xhr rfl rfl ⟨_, rfl, ⟨hBf, (pK_put (pK_put (pK_rf z) _ (by omega)) _ (by omega))⟩⟩
