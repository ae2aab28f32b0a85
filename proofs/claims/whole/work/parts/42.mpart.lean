/-! part and read of the model -/
set_option maxHeartbeats 4000000 in
set_option maxRecDepth 20000 in
theorem t_X6_part1 (l : Launch) (d : Nat) (bt : Nat → Nat) (n fr : Nat) (F : Nat) (z : xMem) (pos tag key : Nat) (cs : List Nat) (p : Nat) (hgs : gS z bt n fr pos 0) (hP : pPt bt n F key pos = (tag, cs, p)) (ht : tag ≠ 0) (hk : (pTok bt n pos).1 = key) (hkn : key ≠ 10022) : XMi l (d + F + 6) yX6_part cX6_part 3 (some .int) shM [.ref 0, .int 1] z (fun v z' => mR z z' bt n fr 0 tag cs p v) := by
  refine XM.of (by decide) (Nat.le_of_ble_eq_true rfl) (fun xp xe xs xm xar xbl xme xc xD xcs xad xAA xCC xhr => ?_)
  generalize xhQ : MQ xbl _ xar xs 0 0 xAA = xQ
  show ww xp l xe (xRm (d + F + 6)) xs xm xar xbl xme xc 3 xD xcs xad shM xAA xQ 0 [(0, .ref 0), (1, .int 1)] [] z
  obtain ⟨t1, x1, p1, h1, ht1, hc1⟩ := pPt_key hP ht hk
  refine ww_blk xCC okX6_part 0 1 (ps := []) (pc' := 1) (lv' := [(0, .ref 0), (1, .int 1)]) (st' := [.int 1]) (z' := z) rfl trivial ?_
  refine ww_br xCC okX6_part 1 (P := 1 = 0) (t1 := 4) (t2 := 8) (r := []) rfl (fun q => absurd q (by decide)) (fun _ => ?_)
  refine ww_blk xCC okX6_part 4 2 (ps := []) (pc' := 12) (lv' := [(0, .ref 0), (1, .int 1)]) (st' := [.int (z.1 0 29)]) (z' := z) rfl trivial ?_
  refine ww_br xCC okX6_part 6 (P := (z.1 0 29) = 0) (t1 := 15) (t2 := 19) (r := []) rfl (fun c2 => ?_) (fun c2 => absurd (hgs.2.1) c2)
  refine ww_blk xCC okX6_part 7 1 (ps := []) (pc' := 16) (lv' := [(0, .ref 0), (1, .int 1)]) (st' := [.ref 0]) (z' := z) rfl trivial ?_
  refine ww_callVIv xCC okX6_part 8 (ix := 192) (t_X6_next l d z bt n fr hgs.1 (pTok bt n pos).2.2 (pTok_le hgs.2.2.2.2.1).1 (tkM_here hgs.2.2.2.1 (by rw [hk]; exact hkn))) (by omega) (by decide) xyX6_next xiX6_next (Or.inl (lw_gt_of (List.mem_of_getElem? (i := 1015) (by decide +kernel)) rfl)) rfl rfl rfl (rest := []) rfl (Nat.le_of_ble_eq_true rfl) rfl (fun z3 h4 => ?_)
  have hgN16 := gS_nx hgs.1 hgs.2.1 hgs.2.2.1 h4.1 h4.2 (pTok_le hgs.2.2.2.2.1).1 hgs.2.2.2.2.2
  have hKN16 := pK_tr (pK_rf z) (pK4_K h4.1)
  refine ww_blk xCC okX6_part 9 2 (ps := []) (pc' := 23) (lv' := [(0, .ref 0), (1, .int 1)]) (st' := [.int (z3.1 0 29)]) (z' := z3) rfl trivial ?_
  refine ww_br xCC okX6_part 11 (P := (z3.1 0 29) = 0) (t1 := 30) (t2 := 26) (r := []) rfl (fun c6 => ?_) (fun c6 => absurd (hgN16.2.1) c6)
  refine ww_blk xCC okX6_part 14 1 (ps := []) (pc' := 31) (lv' := [(0, .ref 0), (1, .int 1)]) (st' := [.ref 0]) (z' := z3) rfl trivial ?_
  refine ww_callVIi xCC okX6_part 15 (ix := 227) ((m_all l bt n fr F).1 d z3 0 ((pTok bt n pos).2.2) t1 x1 p1 hgN16 h1 ht1) (by omega) (by decide) xyX6_either xiX6_either (Or.inl (lw_gt_of (List.mem_of_getElem? (i := 1044) (by decide +kernel)) rfl)) rfl rfl rfl (rest := []) rfl (Nat.le_of_ble_eq_true rfl) rfl (fun vA zA hA => ?_)
  obtain ⟨hK1, hA1⟩ := hA
  have hv5 : t1 = 1 → ∀ st, pEv (pF z) x1 st = vA :: st := fun w st => by
    rcases hA1 with ⟨-, -, q⟩ | ⟨q, -⟩
    · rw [← pEv_K hKN16]; exact q st
    · omega
  replace hK1 := pK_tr hKN16 hK1
  rcases hA1 with ⟨e1, hS1, -⟩ | ⟨e1, hB1⟩
  · skip
    replace hv5 := hv5 e1
    have hc2 := (hc1.resolve_left (fun w => absurd w.1 (by omega))).2
    refine ww_blk xCC okX6_part 16 3 (ps := []) (pc' := 38) (lv' := [(2, .int vA), (0, .ref 0), (1, .int 1)]) (st' := [.int 59, .ref 0]) (z' := zA) rfl trivial ?_
    refine ww_callVIz xCC okX6_part 19 (ix := 217) (t_X6_isSign l d zA bt n p1 hS1.1.2.2.2.1 hS1.2.1 hS1.2.2.2.1 59 (by decide)) (by omega) (by decide) xyX6_isSign xiX6_isSign (Or.inl (lw_gt_of (List.mem_of_getElem? (i := 1072) (by decide +kernel)) rfl)) rfl rfl rfl (rest := []) rfl (Nat.le_of_ble_eq_true rfl) rfl (fun z7 h8 => ?_) (fun z7 h8 => ?_)
    · skip
      rw [h8.2]
      have hs38 := h8.1
      refine ww_br xCC okX6_part 20 (P := 1 = 0) (t1 := 44) (t2 := 48) (r := []) rfl (fun q => absurd q (by decide)) (fun _ => ?_)
      refine ww_blk xCC okX6_part 23 2 (ps := []) (pc' := 52) (lv' := [(2, .int vA), (0, .ref 0), (1, .int 1)]) (st' := [.int (zA.1 0 29)]) (z' := zA) rfl trivial ?_
      refine ww_br xCC okX6_part 25 (P := (zA.1 0 29) = 0) (t1 := 55) (t2 := 59) (r := []) rfl (fun c10 => ?_) (fun c10 => absurd (hS1.2.1) c10)
      obtain ⟨-, k1, k2, k3⟩ := hc2.resolve_right (fun w => w.1 (hs38.trans (by decide)))
      refine ww_blk xCC okX6_part 26 1 (ps := []) (pc' := 56) (lv' := [(2, .int vA), (0, .ref 0), (1, .int 1)]) (st' := [.ref 0]) (z' := zA) rfl trivial ?_
      refine ww_callVIv xCC okX6_part 27 (ix := 192) (t_X6_next l d zA bt n fr hS1.1 (pTok bt n p1).2.2 (pTok_le hS1.2.2.2.2.1).1 (tkM_here hS1.2.2.2.1 (by rw [hs38]; decide))) (by omega) (by decide) xyX6_next xiX6_next (Or.inl (lw_gt_of (List.mem_of_getElem? (i := 1015) (by decide +kernel)) rfl)) rfl rfl rfl (rest := []) rfl (Nat.le_of_ble_eq_true rfl) rfl (fun z11 h12 => ?_)
      have hgN56 := gS_nx hS1.1 hS1.2.1 hS1.2.2.1 h12.1 h12.2 (pTok_le hS1.2.2.2.2.1).1 hS1.2.2.2.2.2
      have hKN56 := pK_tr hK1 (pK4_K h12.1)
      refine ww_blk xCC okX6_part 28 1 (ps := []) (pc' := 60) (lv' := [(2, .int vA), (0, .ref 0), (1, .int 1)]) (st' := [.int vA]) (z' := z11) rfl trivial ?_
      subst xhQ
      exact ww_iret xCC okX6_part 29 xhr rfl rfl ⟨_, rfl, ⟨hKN56, Or.inl ⟨k1, (by rw [k3]; exact hgN56), fun st => (by rw [k2]; exact hv5 st)⟩⟩⟩
    · skip
      rw [h8.2]
      have hs38 := h8.1
      refine ww_br xCC okX6_part 20 (P := 0 = 0) (t1 := 44) (t2 := 48) (r := []) rfl (fun _ => ?_) (fun q => absurd (by decide) q)
      refine ww_blk xCC okX6_part 21 1 (ps := []) (pc' := 45) (lv' := [(2, .int vA), (0, .ref 0), (1, .int 1)]) (st' := [.ref 0]) (z' := zA) rfl trivial ?_
      refine ww_callVIv xCC okX6_part 22 (ix := 189) (t_X6_fail_g l d zA hS1.2.1) (by omega) (by decide) xyX6_fail xiX6_fail (Or.inl (lw_gt_of (List.mem_of_getElem? (i := 1040) (by decide +kernel)) rfl)) rfl rfl rfl (rest := []) rfl (Nat.le_of_ble_eq_true rfl) rfl (fun z15 h16 => ?_)
      rw [h16]
      have hBf : bS (mPut (mPut zA 0 29 1) 0 30 (zA.1 0 26)) (pTok bt n p1).2.1 := ⟨rfl, hS1.2.2.2.1.1⟩
      obtain ⟨-, htag, hp⟩ := hc2.resolve_left (fun w => hs38 (w.1.trans (by decide)))
      refine ww_blk xCC okX6_part 23 2 (ps := []) (pc' := 52) (lv' := [(2, .int vA), (0, .ref 0), (1, .int 1)]) (st' := [.int 1]) (z' := (mPut (mPut zA 0 29 1) 0 30 (zA.1 0 26))) rfl trivial ?_
      refine ww_br xCC okX6_part 25 (P := 1 = 0) (t1 := 55) (t2 := 59) (r := []) rfl (fun q => absurd q (by decide)) (fun _ => ?_)
      refine ww_blk xCC okX6_part 28 1 (ps := []) (pc' := 60) (lv' := [(2, .int vA), (0, .ref 0), (1, .int 1)]) (st' := [.int vA]) (z' := (mPut (mPut zA 0 29 1) 0 30 (zA.1 0 26))) rfl trivial ?_
      subst xhQ
      exact ww_iret xCC okX6_part 29 xhr rfl rfl ⟨_, rfl, ⟨(pK_put (pK_put hK1 _ (by omega)) _ (by omega)), Or.inr ⟨htag, (by rw [hp]; exact hBf)⟩⟩⟩
  · skip
    obtain ⟨htag, hp⟩ : tag = 2 ∧ p = p1 := by
      rcases hc1 with w | w
      · exact w.2
      · omega
    refine ww_blk xCC okX6_part 16 3 (ps := []) (pc' := 38) (lv' := [(2, .int vA), (0, .ref 0), (1, .int 1)]) (st' := [.int 59, .ref 0]) (z' := zA) rfl trivial ?_
    refine ww_callVIi xCC okX6_part 19 (ix := 217) (t_X6_isSign_b l d zA hB1.1 59) (by omega) (by decide) xyX6_isSign xiX6_isSign (Or.inl (lw_gt_of (List.mem_of_getElem? (i := 1072) (by decide +kernel)) rfl)) rfl rfl rfl (rest := []) rfl (Nat.le_of_ble_eq_true rfl) rfl (fun v21 z19 h20 => ?_)
    rw [h20.1, h20.2]
    refine ww_br xCC okX6_part 20 (P := 0 = 0) (t1 := 44) (t2 := 48) (r := []) rfl (fun _ => ?_) (fun q => absurd (by decide) q)
    refine ww_blk xCC okX6_part 21 1 (ps := []) (pc' := 45) (lv' := [(2, .int vA), (0, .ref 0), (1, .int 1)]) (st' := [.ref 0]) (z' := zA) rfl trivial ?_
    refine ww_callVIv xCC okX6_part 22 (ix := 189) (t_X6_fail_b l d zA hB1.1) (by omega) (by decide) xyX6_fail xiX6_fail (Or.inl (lw_gt_of (List.mem_of_getElem? (i := 1040) (by decide +kernel)) rfl)) rfl rfl rfl (rest := []) rfl (Nat.le_of_ble_eq_true rfl) rfl (fun z23 h24 => ?_)
    rw [h24]
    refine ww_blk xCC okX6_part 23 2 (ps := []) (pc' := 52) (lv' := [(2, .int vA), (0, .ref 0), (1, .int 1)]) (st' := [.int (zA.1 0 29)]) (z' := zA) rfl trivial ?_
    refine ww_br xCC okX6_part 25 (P := (zA.1 0 29) = 0) (t1 := 55) (t2 := 59) (r := []) rfl (fun c26 => absurd c26 (by rw [hB1.1]; decide)) (fun c26 => ?_)
    refine ww_blk xCC okX6_part 28 1 (ps := []) (pc' := 60) (lv' := [(2, .int vA), (0, .ref 0), (1, .int 1)]) (st' := [.int vA]) (z' := zA) rfl trivial ?_
    subst xhQ
    exact ww_iret xCC okX6_part 29 xhr rfl rfl ⟨_, rfl, ⟨hK1, Or.inr ⟨htag, (by rw [hp]; exact hB1)⟩⟩⟩

set_option maxHeartbeats 4000000 in
set_option maxRecDepth 20000 in
theorem t_X6_part0 (l : Launch) (d : Nat) (bt : Nat → Nat) (n fr : Nat) (z : xMem) (pos : Nat) (hgs : gS z bt n fr pos 0) : XMi l (d + 1) yX6_part cX6_part 3 (some .int) shM [.ref 0, .int 0] z (fun _ z' => bS z' (pTok bt n pos).2.1 ∧ pK z z') := by
  refine XM.of (by decide) (Nat.le_of_ble_eq_true rfl) (fun xp xe xs xm xar xbl xme xc xD xcs xad xAA xCC xhr => ?_)
  generalize xhQ : MQ xbl _ xar xs 0 0 xAA = xQ
  show ww xp l xe (xRm (d + 1)) xs xm xar xbl xme xc 3 xD xcs xad shM xAA xQ 0 [(0, .ref 0), (1, .int 0)] [] z
  refine ww_blk xCC okX6_part 0 1 (ps := []) (pc' := 1) (lv' := [(0, .ref 0), (1, .int 0)]) (st' := [.int 0]) (z' := z) rfl trivial ?_
  refine ww_br xCC okX6_part 1 (P := 0 = 0) (t1 := 4) (t2 := 8) (r := []) rfl (fun _ => ?_) (fun q => absurd (by decide) q)
  refine ww_blk xCC okX6_part 2 1 (ps := []) (pc' := 5) (lv' := [(0, .ref 0), (1, .int 0)]) (st' := [.ref 0]) (z' := z) rfl trivial ?_
  refine ww_callVIv xCC okX6_part 3 (ix := 189) (t_X6_fail_g l d z hgs.2.1) (by omega) (by decide) xyX6_fail xiX6_fail (Or.inl (lw_gt_of (List.mem_of_getElem? (i := 1040) (by decide +kernel)) rfl)) rfl rfl rfl (rest := []) rfl (Nat.le_of_ble_eq_true rfl) rfl (fun z2 h3 => ?_)
  rw [h3]
  have hBf : bS (mPut (mPut z 0 29 1) 0 30 (z.1 0 26)) (pTok bt n pos).2.1 := ⟨rfl, hgs.2.2.2.1.1⟩
  refine ww_blk xCC okX6_part 4 2 (ps := []) (pc' := 12) (lv' := [(0, .ref 0), (1, .int 0)]) (st' := [.int 1]) (z' := (mPut (mPut z 0 29 1) 0 30 (z.1 0 26))) rfl trivial ?_
  refine ww_br xCC okX6_part 6 (P := 1 = 0) (t1 := 15) (t2 := 19) (r := []) rfl (fun q => absurd q (by decide)) (fun _ => ?_)
  refine ww_blk xCC okX6_part 9 2 (ps := []) (pc' := 23) (lv' := [(0, .ref 0), (1, .int 0)]) (st' := [.int 1]) (z' := (mPut (mPut z 0 29 1) 0 30 (z.1 0 26))) rfl trivial ?_
  refine ww_br xCC okX6_part 11 (P := 1 = 0) (t1 := 30) (t2 := 26) (r := []) rfl (fun q => absurd q (by decide)) (fun _ => ?_)
  refine ww_blk xCC okX6_part 12 2 (ps := []) (pc' := 34) (lv' := [(0, .ref 0), (1, .int 0)]) (st' := [.int 0]) (z' := (mPut (mPut z 0 29 1) 0 30 (z.1 0 26))) rfl trivial ?_
  refine ww_blk xCC okX6_part 16 3 (ps := []) (pc' := 38) (lv' := [(2, .int 0), (0, .ref 0), (1, .int 0)]) (st' := [.int 59, .ref 0]) (z' := (mPut (mPut z 0 29 1) 0 30 (z.1 0 26))) rfl trivial ?_
  refine ww_callVIi xCC okX6_part 19 (ix := 217) (t_X6_isSign_b l d (mPut (mPut z 0 29 1) 0 30 (z.1 0 26)) hBf.1 59) (by omega) (by decide) xyX6_isSign xiX6_isSign (Or.inl (lw_gt_of (List.mem_of_getElem? (i := 1072) (by decide +kernel)) rfl)) rfl rfl rfl (rest := []) rfl (Nat.le_of_ble_eq_true rfl) rfl (fun v9 z7 h8 => ?_)
  rw [h8.1, h8.2]
  refine ww_br xCC okX6_part 20 (P := 0 = 0) (t1 := 44) (t2 := 48) (r := []) rfl (fun _ => ?_) (fun q => absurd (by decide) q)
  refine ww_blk xCC okX6_part 21 1 (ps := []) (pc' := 45) (lv' := [(2, .int 0), (0, .ref 0), (1, .int 0)]) (st' := [.ref 0]) (z' := (mPut (mPut z 0 29 1) 0 30 (z.1 0 26))) rfl trivial ?_
  refine ww_callVIv xCC okX6_part 22 (ix := 189) (t_X6_fail_b l d (mPut (mPut z 0 29 1) 0 30 (z.1 0 26)) hBf.1) (by omega) (by decide) xyX6_fail xiX6_fail (Or.inl (lw_gt_of (List.mem_of_getElem? (i := 1040) (by decide +kernel)) rfl)) rfl rfl rfl (rest := []) rfl (Nat.le_of_ble_eq_true rfl) rfl (fun z11 h12 => ?_)
  rw [h12]
  refine ww_blk xCC okX6_part 23 2 (ps := []) (pc' := 52) (lv' := [(2, .int 0), (0, .ref 0), (1, .int 0)]) (st' := [.int 1]) (z' := (mPut (mPut z 0 29 1) 0 30 (z.1 0 26))) rfl trivial ?_
  refine ww_br xCC okX6_part 25 (P := 1 = 0) (t1 := 55) (t2 := 59) (r := []) rfl (fun q => absurd q (by decide)) (fun _ => ?_)
  refine ww_blk xCC okX6_part 28 1 (ps := []) (pc' := 60) (lv' := [(2, .int 0), (0, .ref 0), (1, .int 0)]) (st' := [.int 0]) (z' := (mPut (mPut z 0 29 1) 0 30 (z.1 0 26))) rfl trivial ?_
  subst xhQ
  exact ww_iret xCC okX6_part 29 xhr rfl rfl ⟨_, rfl, ⟨hBf, (pK_put (pK_put (pK_rf z) _ (by omega)) _ (by omega))⟩⟩

set_option maxHeartbeats 4000000 in
set_option maxRecDepth 20000 in
theorem t_X6_read (l : Launch) (d : Nat) (bt : Nat → Nat) (n tt w F : Nat) (z : xMem) (tag : Nat) (y1 y2 y3 : List Nat) (p : Nat) (htt : tt < 6) (hw : w < 3) (hsz : z.1 2 tt = nI n) (hn : n ≤ 160) (hby : ∀ i, i < n → z.1 1 (160 * tt + i) = nI (bt i)) (hbt : ∀ i, bt i < 256) (hT : pTx bt n F = (tag, (y1, y2, y3), p)) (ht : tag ≠ 0) : XMi l (d + F + 7) yX6_read cX6_read 6 (some .int) shM [.ref 0, .int (nI tt), .int (nI w)] z (fun v z' => pK2 z z' ∧ ((tag = 1 ∧ z'.1 0 29 = 0 ∧ pEv (pF z) (if w = 0 then y1 else if w = 1 then y2 else y3) [] = [v]) ∨ (tag = 2 ∧ bS z' p))) := by
  refine XM.of (by decide) (Nat.le_of_ble_eq_true rfl) (fun xp xe xs xm xar xbl xme xc xD xcs xad xAA xCC xhr => ?_)
  generalize xhQ : MQ xbl _ xar xs 0 0 xAA = xQ
  show ww xp l xe (xRm (d + F + 7)) xs xm xar xbl xme xc 6 xD xcs xad shM xAA xQ 0 [(0, .ref 0), (1, .int (nI tt)), (2, .int (nI w))] [] z
  obtain ⟨t1, x1, p1, h1, ht1, hc1⟩ := pTx_of hT ht
  refine ww_blk xCC okX6_read 0 21 (ps := [vp_in (nI tt) 6, 0 = 0 ∨ 0 = 1]) (pc' := 35) (lv' := [(0, .ref 0), (1, .int (nI tt)), (2, .int (nI w))]) (st' := [.ref 0]) (z' := (mPut (mPut (mPut (mPut (mPut z 0 22 (160 * (nI tt))) 0 23 (z.1 2 (nI tt).toNatClampNeg)) 0 24 0) 0 28 0) 0 29 0)) rfl ⟨(vp_in_nI (by omega) (by decide)), (Or.inl rfl)⟩ ?_
  rw [sCL (n := tt) (by omega)]
  rw [show (160 : Int32) * nI tt = nI (160 * tt) from pk_mul 160 tt]
  rw [hsz]
  have hpm : pM (mPut (mPut (mPut (mPut (mPut z 0 22 (nI (160 * tt))) 0 23 (nI n)) 0 24 0) 0 28 0) 0 29 0) bt n (160 * tt) := ⟨rfl, rfl, hby, hbt, by omega, hn⟩
  have hKa : pK2 z (mPut (mPut (mPut (mPut (mPut z 0 22 (nI (160 * tt))) 0 23 (nI n)) 0 24 0) 0 28 0) 0 29 0) := (pK2_put (pK2_put (pK2_put (pK2_put (pK2_put (pK2_rf z) _ (by omega)) _ (by omega)) _ (by omega)) _ (by omega)) _ (by omega))
  refine ww_callVIv xCC okX6_read 21 (ix := 192) (t_X6_next l d (mPut (mPut (mPut (mPut (mPut z 0 22 (nI (160 * tt))) 0 23 (nI n)) 0 24 0) 0 28 0) 0 29 0) bt n (160 * tt) hpm 0 (Nat.zero_le _) rfl) (by omega) (by decide) xyX6_next xiX6_next (Or.inl (lw_gt_of (List.mem_of_getElem? (i := 1015) (by decide +kernel)) rfl)) rfl rfl rfl (rest := []) rfl (Nat.le_of_ble_eq_true rfl) rfl (fun z0 hN0 => ?_)
  have hg0 : gS z0 bt n (160 * tt) 0 0 := gS_nx hpm rfl rfl hN0.1 hN0.2 (Nat.zero_le _) (by decide)
  have hK0 : pK2 z z0 := pK2_K hKa (pK4_K hN0.1)
  have hKx : pK z0 z0 := pK_rf z0
  refine ww_blk xCC okX6_read 22 10 (ps := []) (pc' := 53) (lv' := [(0, .ref 0), (1, .int (nI tt)), (2, .int (nI w))]) (st' := [.int 0, .int 0, .int 0, .int 115, .int 101, .int 114, .int 97, .int 100, .ref 0, .ref 0]) (z' := z0) rfl trivial ?_
  refine ww_callVIz xCC okX6_read 32 (ix := 195) (t_X6_isWord l d z0 bt n (160 * tt) hg0.1 0 hg0.2.2.2.2.1 hg0.2.1 hg0.2.2.2.1 [100, 97, 114, 101, 115] 10015 (by decide)) (by omega) (by decide) xyX6_isWord xiX6_isWord (Or.inl (lw_gt_of (List.mem_of_getElem? (i := 1028) (by decide +kernel)) rfl)) rfl rfl rfl (rest := [.ref 0]) rfl (Nat.le_of_ble_eq_true rfl) rfl (fun z2 h3 => ?_) (fun z2 h3 => ?_)
  · skip
    rw [h3.2]
    have hs53 := h3.1
    refine ww_callVIi xCC okX6_read 33 (ix := 248) (t_X6_part1 l d bt n (160 * tt) F z0 0 t1 10015 x1 p1 hg0 h1 ht1 hs53 (by decide)) (by omega) (by decide) xyX6_part xiX6_part (Or.inl (lw_gt_of (List.mem_of_getElem? (i := 1036) (by decide +kernel)) rfl)) rfl rfl rfl (rest := []) rfl (Nat.le_of_ble_eq_true rfl) rfl (fun vA1 zA1 hA1 => ?_)
    obtain ⟨hK1, hR1⟩ := hA1
    have hv1 : t1 = 1 → ∀ st, pEv (pF z0) x1 st = vA1 :: st := fun w9 st => by
      rcases hR1 with ⟨-, -, q⟩ | ⟨q, -⟩
      · rw [← pEv_K hKx]; exact q st
      · omega
    replace hK1 := pK_tr hKx hK1
    rcases hR1 with ⟨e1, hS1, -⟩ | ⟨e1, hB1⟩
    · skip
      replace hv1 := hv1 e1
      obtain ⟨t2, x2, p2, h2, ht2, hc2⟩ := (hc1.resolve_left (fun w9 => absurd w9.1 (by omega))).2
      refine ww_blk xCC okX6_read 34 3 (ps := []) (pc' := 64) (lv' := [(3, .int vA1), (0, .ref 0), (1, .int (nI tt)), (2, .int (nI w))]) (st' := [.int (zA1.1 0 29)]) (z' := zA1) rfl trivial ?_
      refine ww_br xCC okX6_read 37 (P := (zA1.1 0 29) = 0) (t1 := 71) (t2 := 67) (r := []) rfl (fun c4 => ?_) (fun c4 => absurd (hS1.2.1) c4)
      refine ww_blk xCC okX6_read 40 10 (ps := []) (pc' := 86) (lv' := [(3, .int vA1), (0, .ref 0), (1, .int (nI tt)), (2, .int (nI w))]) (st' := [.int 0, .int 0, .int 0, .int 115, .int 109, .int 114, .int 97, .int 104, .ref 0, .ref 0]) (z' := zA1) rfl trivial ?_
      refine ww_callVIz xCC okX6_read 50 (ix := 195) (t_X6_isWord l d zA1 bt n (160 * tt) hS1.1 p1 hS1.2.2.2.2.1 hS1.2.1 hS1.2.2.2.1 [104, 97, 114, 109, 115] 10016 (by decide)) (by omega) (by decide) xyX6_isWord xiX6_isWord (Or.inl (lw_gt_of (List.mem_of_getElem? (i := 1028) (by decide +kernel)) rfl)) rfl rfl rfl (rest := [.ref 0]) rfl (Nat.le_of_ble_eq_true rfl) rfl (fun z5 h6 => ?_) (fun z5 h6 => ?_)
      · skip
        rw [h6.2]
        have hs86 := h6.1
        refine ww_callVIi xCC okX6_read 51 (ix := 248) (t_X6_part1 l d bt n (160 * tt) F zA1 p1 t2 10016 x2 p2 hS1 h2 ht2 hs86 (by decide)) (by omega) (by decide) xyX6_part xiX6_part (Or.inl (lw_gt_of (List.mem_of_getElem? (i := 1036) (by decide +kernel)) rfl)) rfl rfl rfl (rest := []) rfl (Nat.le_of_ble_eq_true rfl) rfl (fun vA2 zA2 hA2 => ?_)
        obtain ⟨hK2, hR2⟩ := hA2
        have hv2 : t2 = 1 → ∀ st, pEv (pF z0) x2 st = vA2 :: st := fun w9 st => by
          rcases hR2 with ⟨-, -, q⟩ | ⟨q, -⟩
          · rw [← pEv_K hK1]; exact q st
          · omega
        replace hK2 := pK_tr hK1 hK2
        rcases hR2 with ⟨e2, hS2, -⟩ | ⟨e2, hB2⟩
        · skip
          replace hv2 := hv2 e2
          obtain ⟨t3, x3, p3, h3, ht3, hc3⟩ := (hc2.resolve_left (fun w9 => absurd w9.1 (by omega))).2
          refine ww_blk xCC okX6_read 52 3 (ps := []) (pc' := 98) (lv' := [(4, .int vA2), (3, .int vA1), (0, .ref 0), (1, .int (nI tt)), (2, .int (nI w))]) (st' := [.int (zA2.1 0 29)]) (z' := zA2) rfl trivial ?_
          refine ww_br xCC okX6_read 55 (P := (zA2.1 0 29) = 0) (t1 := 105) (t2 := 101) (r := []) rfl (fun c7 => ?_) (fun c7 => absurd (hS2.2.1) c7)
          refine ww_blk xCC okX6_read 58 10 (ps := []) (pc' := 119) (lv' := [(4, .int vA2), (3, .int vA1), (0, .ref 0), (1, .int (nI tt)), (2, .int (nI w))]) (st' := [.int 0, .int 0, .int 0, .int 0, .int 115, .int 116, .int 105, .int 115, .ref 0, .ref 0]) (z' := zA2) rfl trivial ?_
          refine ww_callVIz xCC okX6_read 68 (ix := 195) (t_X6_isWord l d zA2 bt n (160 * tt) hS2.1 p2 hS2.2.2.2.2.1 hS2.2.1 hS2.2.2.2.1 [115, 105, 116, 115] 10017 (by decide)) (by omega) (by decide) xyX6_isWord xiX6_isWord (Or.inl (lw_gt_of (List.mem_of_getElem? (i := 1028) (by decide +kernel)) rfl)) rfl rfl rfl (rest := [.ref 0]) rfl (Nat.le_of_ble_eq_true rfl) rfl (fun z8 h9 => ?_) (fun z8 h9 => ?_)
          · skip
            rw [h9.2]
            have hs119 := h9.1
            refine ww_callVIi xCC okX6_read 69 (ix := 248) (t_X6_part1 l d bt n (160 * tt) F zA2 p2 t3 10017 x3 p3 hS2 h3 ht3 hs119 (by decide)) (by omega) (by decide) xyX6_part xiX6_part (Or.inl (lw_gt_of (List.mem_of_getElem? (i := 1036) (by decide +kernel)) rfl)) rfl rfl rfl (rest := []) rfl (Nat.le_of_ble_eq_true rfl) rfl (fun vA3 zA3 hA3 => ?_)
            obtain ⟨hK3, hR3⟩ := hA3
            have hv3 : t3 = 1 → ∀ st, pEv (pF z0) x3 st = vA3 :: st := fun w9 st => by
              rcases hR3 with ⟨-, -, q⟩ | ⟨q, -⟩
              · rw [← pEv_K hK2]; exact q st
              · omega
            replace hK3 := pK_tr hK2 hK3
            rcases hR3 with ⟨e3, hS3, -⟩ | ⟨e3, hB3⟩
            · skip
              replace hv3 := hv3 e3
              have hc4 := (hc3.resolve_left (fun w9 => absurd w9.1 (by omega))).2
              refine ww_blk xCC okX6_read 70 3 (ps := []) (pc' := 131) (lv' := [(5, .int vA3), (4, .int vA2), (3, .int vA1), (0, .ref 0), (1, .int (nI tt)), (2, .int (nI w))]) (st' := [.int (zA3.1 0 29)]) (z' := zA3) rfl trivial ?_
              refine ww_br xCC okX6_read 73 (P := (zA3.1 0 29) = 0) (t1 := 134) (t2 := 145) (r := []) rfl (fun c10 => ?_) (fun c10 => absurd (hS3.2.1) c10)
              refine ww_blk xCC okX6_read 74 2 (ps := []) (pc' := 138) (lv' := [(5, .int vA3), (4, .int vA2), (3, .int vA1), (0, .ref 0), (1, .int (nI tt)), (2, .int (nI w))]) (st' := [.int (zA3.1 0 25)]) (z' := zA3) rfl trivial ?_
              refine ww_br xCC okX6_read 76 (P := (zA3.1 0 25) = 0) (t1 := 145) (t2 := 141) (r := []) rfl (fun c11 => ?_) (fun c11 => ?_)
              · skip
                have htk := (tkM_end hS3.2.2.2.1).mp c11
                obtain ⟨-, k1, k2, k3, k4⟩ := hc4.resolve_right (fun w9 => w9.1 htk)
                refine ww_blk xCC okX6_read 79 1 (ps := []) (pc' := 146) (lv' := [(5, .int vA3), (4, .int vA2), (3, .int vA1), (0, .ref 0), (1, .int (nI tt)), (2, .int (nI w))]) (st' := [.int (nI w)]) (z' := zA3) rfl trivial ?_
                refine ww_br xCC okX6_read 80 (P := (nI w) = 0) (t1 := 149) (t2 := 153) (r := []) rfl (fun c12 => ?_) (fun c12 => ?_)
                · skip
                  replace c12 : w = 0 := (sEQ (a := w) (b := 0) (by omega) (by omega)).mp c12
                  have hw0 := c12
                  refine ww_blk xCC okX6_read 81 2 (ps := []) (pc' := 165) (lv' := [(5, .int vA3), (4, .int vA2), (3, .int vA1), (0, .ref 0), (1, .int (nI tt)), (2, .int (nI w))]) (st' := [.int vA1]) (z' := zA3) rfl trivial ?_
                  subst xhQ
                  exact ww_iret xCC okX6_read 89 xhr rfl rfl ⟨_, rfl, ⟨pK2_K hK0 hK3, Or.inl ⟨k1, hS3.2.1, (by rw [if_pos hw0, ← pEv_K2 hK0, k2]; exact hv1 [])⟩⟩⟩
                · skip
                  replace c12 : ¬ w = 0 := fun q => c12 ((sEQ (a := w) (b := 0) (by omega) (by omega)).mpr q)
                  have hw0 := c12
                  refine ww_blk xCC okX6_read 83 2 (ps := []) (pc' := 155) (lv' := [(5, .int vA3), (4, .int vA2), (3, .int vA1), (0, .ref 0), (1, .int (nI tt)), (2, .int (nI w))]) (st' := [.int 1, .int (nI w)]) (z' := zA3) rfl trivial ?_
                  refine ww_br xCC okX6_read 85 (P := (nI w) = 1) (t1 := 158) (t2 := 163) (r := []) rfl (fun c13 => ?_) (fun c13 => ?_)
                  · skip
                    replace c13 : w = 1 := (sEQ (a := w) (b := 1) (by omega) (by omega)).mp c13
                    have hw1 := c13
                    refine ww_blk xCC okX6_read 86 2 (ps := []) (pc' := 165) (lv' := [(5, .int vA3), (4, .int vA2), (3, .int vA1), (0, .ref 0), (1, .int (nI tt)), (2, .int (nI w))]) (st' := [.int vA2]) (z' := zA3) rfl trivial ?_
                    subst xhQ
                    exact ww_iret xCC okX6_read 89 xhr rfl rfl ⟨_, rfl, ⟨pK2_K hK0 hK3, Or.inl ⟨k1, hS3.2.1, (by rw [if_neg hw0, if_pos hw1, ← pEv_K2 hK0, k3]; exact hv2 [])⟩⟩⟩
                  · skip
                    replace c13 : ¬ w = 1 := fun q => c13 ((sEQ (a := w) (b := 1) (by omega) (by omega)).mpr q)
                    have hw1 := c13
                    refine ww_blk xCC okX6_read 88 1 (ps := []) (pc' := 165) (lv' := [(5, .int vA3), (4, .int vA2), (3, .int vA1), (0, .ref 0), (1, .int (nI tt)), (2, .int (nI w))]) (st' := [.int vA3]) (z' := zA3) rfl trivial ?_
                    subst xhQ
                    exact ww_iret xCC okX6_read 89 xhr rfl rfl ⟨_, rfl, ⟨pK2_K hK0 hK3, Or.inl ⟨k1, hS3.2.1, (by rw [if_neg hw0, if_neg hw1, ← pEv_K2 hK0, k4]; exact hv3 [])⟩⟩⟩
              · skip
                have htk : (pTok bt n p3).1 ≠ 10021 := fun q9 => c11 ((tkM_end hS3.2.2.2.1).mpr q9)
                refine ww_blk xCC okX6_read 77 1 (ps := []) (pc' := 142) (lv' := [(5, .int vA3), (4, .int vA2), (3, .int vA1), (0, .ref 0), (1, .int (nI tt)), (2, .int (nI w))]) (st' := [.ref 0]) (z' := zA3) rfl trivial ?_
                refine ww_callVIv xCC okX6_read 78 (ix := 189) (t_X6_fail_g l d zA3 hS3.2.1) (by omega) (by decide) xyX6_fail xiX6_fail (Or.inl (lw_gt_of (List.mem_of_getElem? (i := 1040) (by decide +kernel)) rfl)) rfl rfl rfl (rest := []) rfl (Nat.le_of_ble_eq_true rfl) rfl (fun z14 h15 => ?_)
                rw [h15]
                have hBf : bS (mPut (mPut zA3 0 29 1) 0 30 (zA3.1 0 26)) (pTok bt n p3).2.1 := ⟨rfl, hS3.2.2.2.1.1⟩
                obtain ⟨-, htag, hp⟩ := hc4.resolve_left (fun w9 => htk (w9.1))
                refine ww_blk xCC okX6_read 79 1 (ps := []) (pc' := 146) (lv' := [(5, .int vA3), (4, .int vA2), (3, .int vA1), (0, .ref 0), (1, .int (nI tt)), (2, .int (nI w))]) (st' := [.int (nI w)]) (z' := (mPut (mPut zA3 0 29 1) 0 30 (zA3.1 0 26))) rfl trivial ?_
                refine ww_br xCC okX6_read 80 (P := (nI w) = 0) (t1 := 149) (t2 := 153) (r := []) rfl (fun c17 => ?_) (fun c17 => ?_)
                · skip
                  replace c17 : w = 0 := (sEQ (a := w) (b := 0) (by omega) (by omega)).mp c17
                  have hw0 := c17
                  refine ww_blk xCC okX6_read 81 2 (ps := []) (pc' := 165) (lv' := [(5, .int vA3), (4, .int vA2), (3, .int vA1), (0, .ref 0), (1, .int (nI tt)), (2, .int (nI w))]) (st' := [.int vA1]) (z' := (mPut (mPut zA3 0 29 1) 0 30 (zA3.1 0 26))) rfl trivial ?_
                  subst xhQ
                  exact ww_iret xCC okX6_read 89 xhr rfl rfl ⟨_, rfl, ⟨pK2_K hK0 (pK_put (pK_put hK3 _ (by omega)) _ (by omega)), Or.inr ⟨htag, (by rw [hp]; exact hBf)⟩⟩⟩
                · skip
                  replace c17 : ¬ w = 0 := fun q => c17 ((sEQ (a := w) (b := 0) (by omega) (by omega)).mpr q)
                  have hw0 := c17
                  refine ww_blk xCC okX6_read 83 2 (ps := []) (pc' := 155) (lv' := [(5, .int vA3), (4, .int vA2), (3, .int vA1), (0, .ref 0), (1, .int (nI tt)), (2, .int (nI w))]) (st' := [.int 1, .int (nI w)]) (z' := (mPut (mPut zA3 0 29 1) 0 30 (zA3.1 0 26))) rfl trivial ?_
                  refine ww_br xCC okX6_read 85 (P := (nI w) = 1) (t1 := 158) (t2 := 163) (r := []) rfl (fun c18 => ?_) (fun c18 => ?_)
                  · skip
                    replace c18 : w = 1 := (sEQ (a := w) (b := 1) (by omega) (by omega)).mp c18
                    have hw1 := c18
                    refine ww_blk xCC okX6_read 86 2 (ps := []) (pc' := 165) (lv' := [(5, .int vA3), (4, .int vA2), (3, .int vA1), (0, .ref 0), (1, .int (nI tt)), (2, .int (nI w))]) (st' := [.int vA2]) (z' := (mPut (mPut zA3 0 29 1) 0 30 (zA3.1 0 26))) rfl trivial ?_
                    subst xhQ
                    exact ww_iret xCC okX6_read 89 xhr rfl rfl ⟨_, rfl, ⟨pK2_K hK0 (pK_put (pK_put hK3 _ (by omega)) _ (by omega)), Or.inr ⟨htag, (by rw [hp]; exact hBf)⟩⟩⟩
                  · skip
                    replace c18 : ¬ w = 1 := fun q => c18 ((sEQ (a := w) (b := 1) (by omega) (by omega)).mpr q)
                    have hw1 := c18
                    refine ww_blk xCC okX6_read 88 1 (ps := []) (pc' := 165) (lv' := [(5, .int vA3), (4, .int vA2), (3, .int vA1), (0, .ref 0), (1, .int (nI tt)), (2, .int (nI w))]) (st' := [.int vA3]) (z' := (mPut (mPut zA3 0 29 1) 0 30 (zA3.1 0 26))) rfl trivial ?_
                    subst xhQ
                    exact ww_iret xCC okX6_read 89 xhr rfl rfl ⟨_, rfl, ⟨pK2_K hK0 (pK_put (pK_put hK3 _ (by omega)) _ (by omega)), Or.inr ⟨htag, (by rw [hp]; exact hBf)⟩⟩⟩
            · skip
              obtain ⟨htag, hp⟩ : tag = 2 ∧ p = p3 := by
                rcases hc3 with w9 | w9
                · exact w9.2
                · omega
              refine ww_blk xCC okX6_read 70 3 (ps := []) (pc' := 131) (lv' := [(5, .int vA3), (4, .int vA2), (3, .int vA1), (0, .ref 0), (1, .int (nI tt)), (2, .int (nI w))]) (st' := [.int (zA3.1 0 29)]) (z' := zA3) rfl trivial ?_
              refine ww_br xCC okX6_read 73 (P := (zA3.1 0 29) = 0) (t1 := 134) (t2 := 145) (r := []) rfl (fun c19 => absurd c19 (by rw [hB3.1]; decide)) (fun c19 => ?_)
              refine ww_blk xCC okX6_read 79 1 (ps := []) (pc' := 146) (lv' := [(5, .int vA3), (4, .int vA2), (3, .int vA1), (0, .ref 0), (1, .int (nI tt)), (2, .int (nI w))]) (st' := [.int (nI w)]) (z' := zA3) rfl trivial ?_
              refine ww_br xCC okX6_read 80 (P := (nI w) = 0) (t1 := 149) (t2 := 153) (r := []) rfl (fun c20 => ?_) (fun c20 => ?_)
              · skip
                replace c20 : w = 0 := (sEQ (a := w) (b := 0) (by omega) (by omega)).mp c20
                have hw0 := c20
                refine ww_blk xCC okX6_read 81 2 (ps := []) (pc' := 165) (lv' := [(5, .int vA3), (4, .int vA2), (3, .int vA1), (0, .ref 0), (1, .int (nI tt)), (2, .int (nI w))]) (st' := [.int vA1]) (z' := zA3) rfl trivial ?_
                subst xhQ
                exact ww_iret xCC okX6_read 89 xhr rfl rfl ⟨_, rfl, ⟨pK2_K hK0 hK3, Or.inr ⟨htag, (by rw [hp]; exact hB3)⟩⟩⟩
              · skip
                replace c20 : ¬ w = 0 := fun q => c20 ((sEQ (a := w) (b := 0) (by omega) (by omega)).mpr q)
                have hw0 := c20
                refine ww_blk xCC okX6_read 83 2 (ps := []) (pc' := 155) (lv' := [(5, .int vA3), (4, .int vA2), (3, .int vA1), (0, .ref 0), (1, .int (nI tt)), (2, .int (nI w))]) (st' := [.int 1, .int (nI w)]) (z' := zA3) rfl trivial ?_
                refine ww_br xCC okX6_read 85 (P := (nI w) = 1) (t1 := 158) (t2 := 163) (r := []) rfl (fun c21 => ?_) (fun c21 => ?_)
                · skip
                  replace c21 : w = 1 := (sEQ (a := w) (b := 1) (by omega) (by omega)).mp c21
                  have hw1 := c21
                  refine ww_blk xCC okX6_read 86 2 (ps := []) (pc' := 165) (lv' := [(5, .int vA3), (4, .int vA2), (3, .int vA1), (0, .ref 0), (1, .int (nI tt)), (2, .int (nI w))]) (st' := [.int vA2]) (z' := zA3) rfl trivial ?_
                  subst xhQ
                  exact ww_iret xCC okX6_read 89 xhr rfl rfl ⟨_, rfl, ⟨pK2_K hK0 hK3, Or.inr ⟨htag, (by rw [hp]; exact hB3)⟩⟩⟩
                · skip
                  replace c21 : ¬ w = 1 := fun q => c21 ((sEQ (a := w) (b := 1) (by omega) (by omega)).mpr q)
                  have hw1 := c21
                  refine ww_blk xCC okX6_read 88 1 (ps := []) (pc' := 165) (lv' := [(5, .int vA3), (4, .int vA2), (3, .int vA1), (0, .ref 0), (1, .int (nI tt)), (2, .int (nI w))]) (st' := [.int vA3]) (z' := zA3) rfl trivial ?_
                  subst xhQ
                  exact ww_iret xCC okX6_read 89 xhr rfl rfl ⟨_, rfl, ⟨pK2_K hK0 hK3, Or.inr ⟨htag, (by rw [hp]; exact hB3)⟩⟩⟩
          · skip
            rw [h9.2]
            have hs119 := h9.1
            refine ww_callVIi xCC okX6_read 69 (ix := 248) (t_X6_part0 l d bt n (160 * tt) zA2 p2 hS2) (by omega) (by decide) xyX6_part xiX6_part (Or.inl (lw_gt_of (List.mem_of_getElem? (i := 1036) (by decide +kernel)) rfl)) rfl rfl rfl (rest := []) rfl (Nat.le_of_ble_eq_true rfl) rfl (fun vA3 zA3 hA3 => ?_)
            obtain ⟨hB3, hK3⟩ := hA3
            replace hK3 := pK_tr hK2 hK3
            obtain ⟨w1, w2⟩ := pPt_no h3 hs119
            obtain ⟨htag, hp⟩ : tag = 2 ∧ p = (pTok bt n p2).2.1 := by
              rcases hc3 with w9 | w9
              · exact ⟨w9.2.1, by rw [w9.2.2, w2]⟩
              · omega
            refine ww_blk xCC okX6_read 70 3 (ps := []) (pc' := 131) (lv' := [(5, .int vA3), (4, .int vA2), (3, .int vA1), (0, .ref 0), (1, .int (nI tt)), (2, .int (nI w))]) (st' := [.int (zA3.1 0 29)]) (z' := zA3) rfl trivial ?_
            refine ww_br xCC okX6_read 73 (P := (zA3.1 0 29) = 0) (t1 := 134) (t2 := 145) (r := []) rfl (fun c22 => absurd c22 (by rw [hB3.1]; decide)) (fun c22 => ?_)
            refine ww_blk xCC okX6_read 79 1 (ps := []) (pc' := 146) (lv' := [(5, .int vA3), (4, .int vA2), (3, .int vA1), (0, .ref 0), (1, .int (nI tt)), (2, .int (nI w))]) (st' := [.int (nI w)]) (z' := zA3) rfl trivial ?_
            refine ww_br xCC okX6_read 80 (P := (nI w) = 0) (t1 := 149) (t2 := 153) (r := []) rfl (fun c23 => ?_) (fun c23 => ?_)
            · skip
              replace c23 : w = 0 := (sEQ (a := w) (b := 0) (by omega) (by omega)).mp c23
              have hw0 := c23
              refine ww_blk xCC okX6_read 81 2 (ps := []) (pc' := 165) (lv' := [(5, .int vA3), (4, .int vA2), (3, .int vA1), (0, .ref 0), (1, .int (nI tt)), (2, .int (nI w))]) (st' := [.int vA1]) (z' := zA3) rfl trivial ?_
              subst xhQ
              exact ww_iret xCC okX6_read 89 xhr rfl rfl ⟨_, rfl, ⟨pK2_K hK0 hK3, Or.inr ⟨htag, (by rw [hp]; exact hB3)⟩⟩⟩
            · skip
              replace c23 : ¬ w = 0 := fun q => c23 ((sEQ (a := w) (b := 0) (by omega) (by omega)).mpr q)
              have hw0 := c23
              refine ww_blk xCC okX6_read 83 2 (ps := []) (pc' := 155) (lv' := [(5, .int vA3), (4, .int vA2), (3, .int vA1), (0, .ref 0), (1, .int (nI tt)), (2, .int (nI w))]) (st' := [.int 1, .int (nI w)]) (z' := zA3) rfl trivial ?_
              refine ww_br xCC okX6_read 85 (P := (nI w) = 1) (t1 := 158) (t2 := 163) (r := []) rfl (fun c24 => ?_) (fun c24 => ?_)
              · skip
                replace c24 : w = 1 := (sEQ (a := w) (b := 1) (by omega) (by omega)).mp c24
                have hw1 := c24
                refine ww_blk xCC okX6_read 86 2 (ps := []) (pc' := 165) (lv' := [(5, .int vA3), (4, .int vA2), (3, .int vA1), (0, .ref 0), (1, .int (nI tt)), (2, .int (nI w))]) (st' := [.int vA2]) (z' := zA3) rfl trivial ?_
                subst xhQ
                exact ww_iret xCC okX6_read 89 xhr rfl rfl ⟨_, rfl, ⟨pK2_K hK0 hK3, Or.inr ⟨htag, (by rw [hp]; exact hB3)⟩⟩⟩
              · skip
                replace c24 : ¬ w = 1 := fun q => c24 ((sEQ (a := w) (b := 1) (by omega) (by omega)).mpr q)
                have hw1 := c24
                refine ww_blk xCC okX6_read 88 1 (ps := []) (pc' := 165) (lv' := [(5, .int vA3), (4, .int vA2), (3, .int vA1), (0, .ref 0), (1, .int (nI tt)), (2, .int (nI w))]) (st' := [.int vA3]) (z' := zA3) rfl trivial ?_
                subst xhQ
                exact ww_iret xCC okX6_read 89 xhr rfl rfl ⟨_, rfl, ⟨pK2_K hK0 hK3, Or.inr ⟨htag, (by rw [hp]; exact hB3)⟩⟩⟩
        · skip
          obtain ⟨htag, hp⟩ : tag = 2 ∧ p = p2 := by
            rcases hc2 with w9 | w9
            · exact w9.2
            · omega
          refine ww_blk xCC okX6_read 52 3 (ps := []) (pc' := 98) (lv' := [(4, .int vA2), (3, .int vA1), (0, .ref 0), (1, .int (nI tt)), (2, .int (nI w))]) (st' := [.int (zA2.1 0 29)]) (z' := zA2) rfl trivial ?_
          refine ww_br xCC okX6_read 55 (P := (zA2.1 0 29) = 0) (t1 := 105) (t2 := 101) (r := []) rfl (fun c25 => absurd c25 (by rw [hB2.1]; decide)) (fun c25 => ?_)
          refine ww_blk xCC okX6_read 56 2 (ps := []) (pc' := 125) (lv' := [(4, .int vA2), (3, .int vA1), (0, .ref 0), (1, .int (nI tt)), (2, .int (nI w))]) (st' := [.int 0]) (z' := zA2) rfl trivial ?_
          refine ww_blk xCC okX6_read 70 3 (ps := []) (pc' := 131) (lv' := [(5, .int 0), (4, .int vA2), (3, .int vA1), (0, .ref 0), (1, .int (nI tt)), (2, .int (nI w))]) (st' := [.int (zA2.1 0 29)]) (z' := zA2) rfl trivial ?_
          refine ww_br xCC okX6_read 73 (P := (zA2.1 0 29) = 0) (t1 := 134) (t2 := 145) (r := []) rfl (fun c26 => absurd c26 (by rw [hB2.1]; decide)) (fun c26 => ?_)
          refine ww_blk xCC okX6_read 79 1 (ps := []) (pc' := 146) (lv' := [(5, .int 0), (4, .int vA2), (3, .int vA1), (0, .ref 0), (1, .int (nI tt)), (2, .int (nI w))]) (st' := [.int (nI w)]) (z' := zA2) rfl trivial ?_
          refine ww_br xCC okX6_read 80 (P := (nI w) = 0) (t1 := 149) (t2 := 153) (r := []) rfl (fun c27 => ?_) (fun c27 => ?_)
          · skip
            replace c27 : w = 0 := (sEQ (a := w) (b := 0) (by omega) (by omega)).mp c27
            have hw0 := c27
            refine ww_blk xCC okX6_read 81 2 (ps := []) (pc' := 165) (lv' := [(5, .int 0), (4, .int vA2), (3, .int vA1), (0, .ref 0), (1, .int (nI tt)), (2, .int (nI w))]) (st' := [.int vA1]) (z' := zA2) rfl trivial ?_
            subst xhQ
            exact ww_iret xCC okX6_read 89 xhr rfl rfl ⟨_, rfl, ⟨pK2_K hK0 hK2, Or.inr ⟨htag, (by rw [hp]; exact hB2)⟩⟩⟩
          · skip
            replace c27 : ¬ w = 0 := fun q => c27 ((sEQ (a := w) (b := 0) (by omega) (by omega)).mpr q)
            have hw0 := c27
            refine ww_blk xCC okX6_read 83 2 (ps := []) (pc' := 155) (lv' := [(5, .int 0), (4, .int vA2), (3, .int vA1), (0, .ref 0), (1, .int (nI tt)), (2, .int (nI w))]) (st' := [.int 1, .int (nI w)]) (z' := zA2) rfl trivial ?_
            refine ww_br xCC okX6_read 85 (P := (nI w) = 1) (t1 := 158) (t2 := 163) (r := []) rfl (fun c28 => ?_) (fun c28 => ?_)
            · skip
              replace c28 : w = 1 := (sEQ (a := w) (b := 1) (by omega) (by omega)).mp c28
              have hw1 := c28
              refine ww_blk xCC okX6_read 86 2 (ps := []) (pc' := 165) (lv' := [(5, .int 0), (4, .int vA2), (3, .int vA1), (0, .ref 0), (1, .int (nI tt)), (2, .int (nI w))]) (st' := [.int vA2]) (z' := zA2) rfl trivial ?_
              subst xhQ
              exact ww_iret xCC okX6_read 89 xhr rfl rfl ⟨_, rfl, ⟨pK2_K hK0 hK2, Or.inr ⟨htag, (by rw [hp]; exact hB2)⟩⟩⟩
            · skip
              replace c28 : ¬ w = 1 := fun q => c28 ((sEQ (a := w) (b := 1) (by omega) (by omega)).mpr q)
              have hw1 := c28
              refine ww_blk xCC okX6_read 88 1 (ps := []) (pc' := 165) (lv' := [(5, .int 0), (4, .int vA2), (3, .int vA1), (0, .ref 0), (1, .int (nI tt)), (2, .int (nI w))]) (st' := [.int 0]) (z' := zA2) rfl trivial ?_
              subst xhQ
              exact ww_iret xCC okX6_read 89 xhr rfl rfl ⟨_, rfl, ⟨pK2_K hK0 hK2, Or.inr ⟨htag, (by rw [hp]; exact hB2)⟩⟩⟩
      · skip
        rw [h6.2]
        have hs86 := h6.1
        refine ww_callVIi xCC okX6_read 51 (ix := 248) (t_X6_part0 l d bt n (160 * tt) zA1 p1 hS1) (by omega) (by decide) xyX6_part xiX6_part (Or.inl (lw_gt_of (List.mem_of_getElem? (i := 1036) (by decide +kernel)) rfl)) rfl rfl rfl (rest := []) rfl (Nat.le_of_ble_eq_true rfl) rfl (fun vA2 zA2 hA2 => ?_)
        obtain ⟨hB2, hK2⟩ := hA2
        replace hK2 := pK_tr hK1 hK2
        obtain ⟨w1, w2⟩ := pPt_no h2 hs86
        obtain ⟨htag, hp⟩ : tag = 2 ∧ p = (pTok bt n p1).2.1 := by
          rcases hc2 with w9 | w9
          · exact ⟨w9.2.1, by rw [w9.2.2, w2]⟩
          · omega
        refine ww_blk xCC okX6_read 52 3 (ps := []) (pc' := 98) (lv' := [(4, .int vA2), (3, .int vA1), (0, .ref 0), (1, .int (nI tt)), (2, .int (nI w))]) (st' := [.int (zA2.1 0 29)]) (z' := zA2) rfl trivial ?_
        refine ww_br xCC okX6_read 55 (P := (zA2.1 0 29) = 0) (t1 := 105) (t2 := 101) (r := []) rfl (fun c29 => absurd c29 (by rw [hB2.1]; decide)) (fun c29 => ?_)
        refine ww_blk xCC okX6_read 56 2 (ps := []) (pc' := 125) (lv' := [(4, .int vA2), (3, .int vA1), (0, .ref 0), (1, .int (nI tt)), (2, .int (nI w))]) (st' := [.int 0]) (z' := zA2) rfl trivial ?_
        refine ww_blk xCC okX6_read 70 3 (ps := []) (pc' := 131) (lv' := [(5, .int 0), (4, .int vA2), (3, .int vA1), (0, .ref 0), (1, .int (nI tt)), (2, .int (nI w))]) (st' := [.int (zA2.1 0 29)]) (z' := zA2) rfl trivial ?_
        refine ww_br xCC okX6_read 73 (P := (zA2.1 0 29) = 0) (t1 := 134) (t2 := 145) (r := []) rfl (fun c30 => absurd c30 (by rw [hB2.1]; decide)) (fun c30 => ?_)
        refine ww_blk xCC okX6_read 79 1 (ps := []) (pc' := 146) (lv' := [(5, .int 0), (4, .int vA2), (3, .int vA1), (0, .ref 0), (1, .int (nI tt)), (2, .int (nI w))]) (st' := [.int (nI w)]) (z' := zA2) rfl trivial ?_
        refine ww_br xCC okX6_read 80 (P := (nI w) = 0) (t1 := 149) (t2 := 153) (r := []) rfl (fun c31 => ?_) (fun c31 => ?_)
        · skip
          replace c31 : w = 0 := (sEQ (a := w) (b := 0) (by omega) (by omega)).mp c31
          have hw0 := c31
          refine ww_blk xCC okX6_read 81 2 (ps := []) (pc' := 165) (lv' := [(5, .int 0), (4, .int vA2), (3, .int vA1), (0, .ref 0), (1, .int (nI tt)), (2, .int (nI w))]) (st' := [.int vA1]) (z' := zA2) rfl trivial ?_
          subst xhQ
          exact ww_iret xCC okX6_read 89 xhr rfl rfl ⟨_, rfl, ⟨pK2_K hK0 hK2, Or.inr ⟨htag, (by rw [hp]; exact hB2)⟩⟩⟩
        · skip
          replace c31 : ¬ w = 0 := fun q => c31 ((sEQ (a := w) (b := 0) (by omega) (by omega)).mpr q)
          have hw0 := c31
          refine ww_blk xCC okX6_read 83 2 (ps := []) (pc' := 155) (lv' := [(5, .int 0), (4, .int vA2), (3, .int vA1), (0, .ref 0), (1, .int (nI tt)), (2, .int (nI w))]) (st' := [.int 1, .int (nI w)]) (z' := zA2) rfl trivial ?_
          refine ww_br xCC okX6_read 85 (P := (nI w) = 1) (t1 := 158) (t2 := 163) (r := []) rfl (fun c32 => ?_) (fun c32 => ?_)
          · skip
            replace c32 : w = 1 := (sEQ (a := w) (b := 1) (by omega) (by omega)).mp c32
            have hw1 := c32
            refine ww_blk xCC okX6_read 86 2 (ps := []) (pc' := 165) (lv' := [(5, .int 0), (4, .int vA2), (3, .int vA1), (0, .ref 0), (1, .int (nI tt)), (2, .int (nI w))]) (st' := [.int vA2]) (z' := zA2) rfl trivial ?_
            subst xhQ
            exact ww_iret xCC okX6_read 89 xhr rfl rfl ⟨_, rfl, ⟨pK2_K hK0 hK2, Or.inr ⟨htag, (by rw [hp]; exact hB2)⟩⟩⟩
          · skip
            replace c32 : ¬ w = 1 := fun q => c32 ((sEQ (a := w) (b := 1) (by omega) (by omega)).mpr q)
            have hw1 := c32
            refine ww_blk xCC okX6_read 88 1 (ps := []) (pc' := 165) (lv' := [(5, .int 0), (4, .int vA2), (3, .int vA1), (0, .ref 0), (1, .int (nI tt)), (2, .int (nI w))]) (st' := [.int 0]) (z' := zA2) rfl trivial ?_
            subst xhQ
            exact ww_iret xCC okX6_read 89 xhr rfl rfl ⟨_, rfl, ⟨pK2_K hK0 hK2, Or.inr ⟨htag, (by rw [hp]; exact hB2)⟩⟩⟩
    · skip
      obtain ⟨htag, hp⟩ : tag = 2 ∧ p = p1 := by
        rcases hc1 with w9 | w9
        · exact w9.2
        · omega
      refine ww_blk xCC okX6_read 34 3 (ps := []) (pc' := 64) (lv' := [(3, .int vA1), (0, .ref 0), (1, .int (nI tt)), (2, .int (nI w))]) (st' := [.int (zA1.1 0 29)]) (z' := zA1) rfl trivial ?_
      refine ww_br xCC okX6_read 37 (P := (zA1.1 0 29) = 0) (t1 := 71) (t2 := 67) (r := []) rfl (fun c33 => absurd c33 (by rw [hB1.1]; decide)) (fun c33 => ?_)
      refine ww_blk xCC okX6_read 38 2 (ps := []) (pc' := 92) (lv' := [(3, .int vA1), (0, .ref 0), (1, .int (nI tt)), (2, .int (nI w))]) (st' := [.int 0]) (z' := zA1) rfl trivial ?_
      refine ww_blk xCC okX6_read 52 3 (ps := []) (pc' := 98) (lv' := [(4, .int 0), (3, .int vA1), (0, .ref 0), (1, .int (nI tt)), (2, .int (nI w))]) (st' := [.int (zA1.1 0 29)]) (z' := zA1) rfl trivial ?_
      refine ww_br xCC okX6_read 55 (P := (zA1.1 0 29) = 0) (t1 := 105) (t2 := 101) (r := []) rfl (fun c34 => absurd c34 (by rw [hB1.1]; decide)) (fun c34 => ?_)
      refine ww_blk xCC okX6_read 56 2 (ps := []) (pc' := 125) (lv' := [(4, .int 0), (3, .int vA1), (0, .ref 0), (1, .int (nI tt)), (2, .int (nI w))]) (st' := [.int 0]) (z' := zA1) rfl trivial ?_
      refine ww_blk xCC okX6_read 70 3 (ps := []) (pc' := 131) (lv' := [(5, .int 0), (4, .int 0), (3, .int vA1), (0, .ref 0), (1, .int (nI tt)), (2, .int (nI w))]) (st' := [.int (zA1.1 0 29)]) (z' := zA1) rfl trivial ?_
      refine ww_br xCC okX6_read 73 (P := (zA1.1 0 29) = 0) (t1 := 134) (t2 := 145) (r := []) rfl (fun c35 => absurd c35 (by rw [hB1.1]; decide)) (fun c35 => ?_)
      refine ww_blk xCC okX6_read 79 1 (ps := []) (pc' := 146) (lv' := [(5, .int 0), (4, .int 0), (3, .int vA1), (0, .ref 0), (1, .int (nI tt)), (2, .int (nI w))]) (st' := [.int (nI w)]) (z' := zA1) rfl trivial ?_
      refine ww_br xCC okX6_read 80 (P := (nI w) = 0) (t1 := 149) (t2 := 153) (r := []) rfl (fun c36 => ?_) (fun c36 => ?_)
      · skip
        replace c36 : w = 0 := (sEQ (a := w) (b := 0) (by omega) (by omega)).mp c36
        have hw0 := c36
        refine ww_blk xCC okX6_read 81 2 (ps := []) (pc' := 165) (lv' := [(5, .int 0), (4, .int 0), (3, .int vA1), (0, .ref 0), (1, .int (nI tt)), (2, .int (nI w))]) (st' := [.int vA1]) (z' := zA1) rfl trivial ?_
        subst xhQ
        exact ww_iret xCC okX6_read 89 xhr rfl rfl ⟨_, rfl, ⟨pK2_K hK0 hK1, Or.inr ⟨htag, (by rw [hp]; exact hB1)⟩⟩⟩
      · skip
        replace c36 : ¬ w = 0 := fun q => c36 ((sEQ (a := w) (b := 0) (by omega) (by omega)).mpr q)
        have hw0 := c36
        refine ww_blk xCC okX6_read 83 2 (ps := []) (pc' := 155) (lv' := [(5, .int 0), (4, .int 0), (3, .int vA1), (0, .ref 0), (1, .int (nI tt)), (2, .int (nI w))]) (st' := [.int 1, .int (nI w)]) (z' := zA1) rfl trivial ?_
        refine ww_br xCC okX6_read 85 (P := (nI w) = 1) (t1 := 158) (t2 := 163) (r := []) rfl (fun c37 => ?_) (fun c37 => ?_)
        · skip
          replace c37 : w = 1 := (sEQ (a := w) (b := 1) (by omega) (by omega)).mp c37
          have hw1 := c37
          refine ww_blk xCC okX6_read 86 2 (ps := []) (pc' := 165) (lv' := [(5, .int 0), (4, .int 0), (3, .int vA1), (0, .ref 0), (1, .int (nI tt)), (2, .int (nI w))]) (st' := [.int 0]) (z' := zA1) rfl trivial ?_
          subst xhQ
          exact ww_iret xCC okX6_read 89 xhr rfl rfl ⟨_, rfl, ⟨pK2_K hK0 hK1, Or.inr ⟨htag, (by rw [hp]; exact hB1)⟩⟩⟩
        · skip
          replace c37 : ¬ w = 1 := fun q => c37 ((sEQ (a := w) (b := 1) (by omega) (by omega)).mpr q)
          have hw1 := c37
          refine ww_blk xCC okX6_read 88 1 (ps := []) (pc' := 165) (lv' := [(5, .int 0), (4, .int 0), (3, .int vA1), (0, .ref 0), (1, .int (nI tt)), (2, .int (nI w))]) (st' := [.int 0]) (z' := zA1) rfl trivial ?_
          subst xhQ
          exact ww_iret xCC okX6_read 89 xhr rfl rfl ⟨_, rfl, ⟨pK2_K hK0 hK1, Or.inr ⟨htag, (by rw [hp]; exact hB1)⟩⟩⟩
  · skip
    rw [h3.2]
    have hs53 := h3.1
    refine ww_callVIi xCC okX6_read 33 (ix := 248) (t_X6_part0 l d bt n (160 * tt) z0 0 hg0) (by omega) (by decide) xyX6_part xiX6_part (Or.inl (lw_gt_of (List.mem_of_getElem? (i := 1036) (by decide +kernel)) rfl)) rfl rfl rfl (rest := []) rfl (Nat.le_of_ble_eq_true rfl) rfl (fun vA1 zA1 hA1 => ?_)
    obtain ⟨hB1, hK1⟩ := hA1
    replace hK1 := pK_tr hKx hK1
    obtain ⟨w1, w2⟩ := pPt_no h1 hs53
    obtain ⟨htag, hp⟩ : tag = 2 ∧ p = (pTok bt n 0).2.1 := by
      rcases hc1 with w9 | w9
      · exact ⟨w9.2.1, by rw [w9.2.2, w2]⟩
      · omega
    refine ww_blk xCC okX6_read 34 3 (ps := []) (pc' := 64) (lv' := [(3, .int vA1), (0, .ref 0), (1, .int (nI tt)), (2, .int (nI w))]) (st' := [.int (zA1.1 0 29)]) (z' := zA1) rfl trivial ?_
    refine ww_br xCC okX6_read 37 (P := (zA1.1 0 29) = 0) (t1 := 71) (t2 := 67) (r := []) rfl (fun c38 => absurd c38 (by rw [hB1.1]; decide)) (fun c38 => ?_)
    refine ww_blk xCC okX6_read 38 2 (ps := []) (pc' := 92) (lv' := [(3, .int vA1), (0, .ref 0), (1, .int (nI tt)), (2, .int (nI w))]) (st' := [.int 0]) (z' := zA1) rfl trivial ?_
    refine ww_blk xCC okX6_read 52 3 (ps := []) (pc' := 98) (lv' := [(4, .int 0), (3, .int vA1), (0, .ref 0), (1, .int (nI tt)), (2, .int (nI w))]) (st' := [.int (zA1.1 0 29)]) (z' := zA1) rfl trivial ?_
    refine ww_br xCC okX6_read 55 (P := (zA1.1 0 29) = 0) (t1 := 105) (t2 := 101) (r := []) rfl (fun c39 => absurd c39 (by rw [hB1.1]; decide)) (fun c39 => ?_)
    refine ww_blk xCC okX6_read 56 2 (ps := []) (pc' := 125) (lv' := [(4, .int 0), (3, .int vA1), (0, .ref 0), (1, .int (nI tt)), (2, .int (nI w))]) (st' := [.int 0]) (z' := zA1) rfl trivial ?_
    refine ww_blk xCC okX6_read 70 3 (ps := []) (pc' := 131) (lv' := [(5, .int 0), (4, .int 0), (3, .int vA1), (0, .ref 0), (1, .int (nI tt)), (2, .int (nI w))]) (st' := [.int (zA1.1 0 29)]) (z' := zA1) rfl trivial ?_
    refine ww_br xCC okX6_read 73 (P := (zA1.1 0 29) = 0) (t1 := 134) (t2 := 145) (r := []) rfl (fun c40 => absurd c40 (by rw [hB1.1]; decide)) (fun c40 => ?_)
    refine ww_blk xCC okX6_read 79 1 (ps := []) (pc' := 146) (lv' := [(5, .int 0), (4, .int 0), (3, .int vA1), (0, .ref 0), (1, .int (nI tt)), (2, .int (nI w))]) (st' := [.int (nI w)]) (z' := zA1) rfl trivial ?_
    refine ww_br xCC okX6_read 80 (P := (nI w) = 0) (t1 := 149) (t2 := 153) (r := []) rfl (fun c41 => ?_) (fun c41 => ?_)
    · skip
      replace c41 : w = 0 := (sEQ (a := w) (b := 0) (by omega) (by omega)).mp c41
      have hw0 := c41
      refine ww_blk xCC okX6_read 81 2 (ps := []) (pc' := 165) (lv' := [(5, .int 0), (4, .int 0), (3, .int vA1), (0, .ref 0), (1, .int (nI tt)), (2, .int (nI w))]) (st' := [.int vA1]) (z' := zA1) rfl trivial ?_
      subst xhQ
      exact ww_iret xCC okX6_read 89 xhr rfl rfl ⟨_, rfl, ⟨pK2_K hK0 hK1, Or.inr ⟨htag, (by rw [hp]; exact hB1)⟩⟩⟩
    · skip
      replace c41 : ¬ w = 0 := fun q => c41 ((sEQ (a := w) (b := 0) (by omega) (by omega)).mpr q)
      have hw0 := c41
      refine ww_blk xCC okX6_read 83 2 (ps := []) (pc' := 155) (lv' := [(5, .int 0), (4, .int 0), (3, .int vA1), (0, .ref 0), (1, .int (nI tt)), (2, .int (nI w))]) (st' := [.int 1, .int (nI w)]) (z' := zA1) rfl trivial ?_
      refine ww_br xCC okX6_read 85 (P := (nI w) = 1) (t1 := 158) (t2 := 163) (r := []) rfl (fun c42 => ?_) (fun c42 => ?_)
      · skip
        replace c42 : w = 1 := (sEQ (a := w) (b := 1) (by omega) (by omega)).mp c42
        have hw1 := c42
        refine ww_blk xCC okX6_read 86 2 (ps := []) (pc' := 165) (lv' := [(5, .int 0), (4, .int 0), (3, .int vA1), (0, .ref 0), (1, .int (nI tt)), (2, .int (nI w))]) (st' := [.int 0]) (z' := zA1) rfl trivial ?_
        subst xhQ
        exact ww_iret xCC okX6_read 89 xhr rfl rfl ⟨_, rfl, ⟨pK2_K hK0 hK1, Or.inr ⟨htag, (by rw [hp]; exact hB1)⟩⟩⟩
      · skip
        replace c42 : ¬ w = 1 := fun q => c42 ((sEQ (a := w) (b := 1) (by omega) (by omega)).mpr q)
        have hw1 := c42
        refine ww_blk xCC okX6_read 88 1 (ps := []) (pc' := 165) (lv' := [(5, .int 0), (4, .int 0), (3, .int vA1), (0, .ref 0), (1, .int (nI tt)), (2, .int (nI w))]) (st' := [.int 0]) (z' := zA1) rfl trivial ?_
        subst xhQ
        exact ww_iret xCC okX6_read 89 xhr rfl rfl ⟨_, rfl, ⟨pK2_K hK0 hK1, Or.inr ⟨htag, (by rw [hp]; exact hB1)⟩⟩⟩
