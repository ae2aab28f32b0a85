/-! not of the model -/
set_option maxHeartbeats 4000000 in
set_option maxRecDepth 20000 in
theorem t_X6_not (l : Launch) (d : Nat) (bt : Nat → Nat) (n fr : Nat) (f : Nat) (ihN : ∀ g, g < f → MC l bt n fr yX6_not cX6_not 4 2 g) (ihA : ∀ g, g < f → MC l bt n fr yX6_added cX6_added 4 4 g) (z : xMem) (o pos tag : Nat) (cs : List Nat) (p : Nat) (hgs : gS z bt n fr pos o) (hG : pG bt n f 2 o pos = (tag, cs, p)) (ht : tag ≠ 0) : XMi l (d + f + 5) yX6_not cX6_not 4 (some .int) shM [.ref 0] z (fun v z' => mR z z' bt n fr o tag cs p v) := by
  obtain ⟨g, rfl, hm⟩ := pG_not hG ht
  refine XM.of (by decide) (Nat.le_of_ble_eq_true rfl) (fun xp xe xs xm xar xbl xme xc xD xcs xad xAA xCC xhr => ?_)
  generalize xhQ : MQ xbl _ xar xs 0 0 xAA = xQ
  show ww xp l xe (xRm (d + (g + 1) + 5)) xs xm xar xbl xme xc 4 xD xcs xad shM xAA xQ 0 [(0, .ref 0)] [] z
  refine ww_blk xCC okX6_not 0 9 (ps := []) (pc' := 12) (lv' := [(0, .ref 0)]) (st' := [.int 0, .int 0, .int 0, .int 0, .int 0, .int 116, .int 111, .int 110, .ref 0]) (z' := z) rfl trivial ?_
  refine ww_callVIz xCC okX6_not 9 (ix := 195) (t_X6_isWord l d z bt n fr hgs.1 pos hgs.2.2.2.2.1 hgs.2.1 hgs.2.2.2.1 [110, 111, 116] 10013 (by decide)) (by omega) (by decide) xyX6_isWord xiX6_isWord (Or.inl (lw_gt_of (List.mem_of_getElem? (i := 1028) (by decide +kernel)) rfl)) rfl rfl rfl (rest := []) rfl (Nat.le_of_ble_eq_true rfl) rfl (fun z1 h2 => ?_) (fun z1 h2 => ?_)
  · skip
    rw [h2.2]
    have hs12 := h2.1
    refine ww_br xCC okX6_not 10 (P := 1 = 0) (t1 := 52) (t2 := 18) (r := []) rfl (fun q => absurd q (by decide)) (fun _ => ?_)
    have hm1 := (hm.resolve_right (fun w => w.1 hs12)).2
    refine ww_blk xCC okX6_not 11 1 (ps := []) (pc' := 19) (lv' := [(0, .ref 0)]) (st' := [.ref 0]) (z' := z) rfl trivial ?_
    refine ww_callVIz xCC okX6_not 12 (ix := 220) (t_X6_opens l d z bt n fr pos o hgs (by rw [hs12]; decide)) (by omega) (by decide) xyX6_opens xiX6_opens (Or.inl (lw_gt_of (List.mem_of_getElem? (i := 1056) (by decide +kernel)) rfl)) rfl rfl rfl (rest := []) rfl (Nat.le_of_ble_eq_true rfl) rfl (fun z4 h5 => ?_) (fun z4 h5 => ?_)
    · skip
      obtain ⟨ho19, hgo19, hK19⟩ := h5
      replace hK19 := pK_tr (pK_rf z) hK19
      refine ww_br xCC okX6_not 13 (P := 1 = 0) (t1 := 25) (t2 := 27) (r := []) rfl (fun q => absurd q (by decide)) (fun _ => ?_)
      obtain ⟨-, t1, x1, p1, h1, ht1, hc1⟩ := hm1.resolve_left (fun w => absurd w.1 (by omega))
      refine ww_blk xCC okX6_not 16 1 (ps := []) (pc' := 28) (lv' := [(0, .ref 0)]) (st' := [.ref 0]) (z' := z4) rfl trivial ?_
      refine ww_callVIi xCC okX6_not 17 (ix := 237) (ihN g (by omega) d z4 (o + 1) (pTok bt n pos).2.2 t1 x1 p1 hgo19 h1 ht1) (by omega) (by decide) xyX6_not xiX6_not (Or.inl (lw_gt_of (List.mem_of_getElem? (i := 1052) (by decide +kernel)) rfl)) rfl rfl rfl (rest := []) rfl (Nat.le_of_ble_eq_true rfl) rfl (fun vA zA hA => ?_)
      obtain ⟨hK1, hA1⟩ := hA
      have hv5 : t1 = 1 → ∀ st, pEv (pF z) x1 st = vA :: st := fun w st => by
        rcases hA1 with ⟨-, -, q⟩ | ⟨q, -⟩
        · rw [← pEv_K hK19]; exact q st
        · omega
      replace hK1 := pK_tr hK19 hK1
      rcases hA1 with ⟨e1, hS1, -⟩ | ⟨e1, hB1⟩
      · skip
        replace hv5 := hv5 e1
        obtain ⟨k1, k2, k3⟩ := (hc1.resolve_left (fun w => absurd w.1 (by omega))).2
        refine ww_blk xCC okX6_not 18 7 (ps := []) (pc' := 42) (lv' := [(1, .int vA), (0, .ref 0)]) (st' := []) (z' := (mPut zA 0 28 ((zA.1 0 28) - 1))) rfl trivial ?_
        rw [hS1.2.2.1]
        rw [nI_pred o]
        have hgd : gS (mPut zA 0 28 (nI o)) bt n fr p1 o := ⟨pM_K (pK_put (pK_rf zA) _ (by omega)) hS1.1, hS1.2.1, rfl, tkM_K hS1.2.2.2.1 rfl rfl rfl rfl, hS1.2.2.2.2.1, hgs.2.2.2.2.2⟩
        refine ww_blk xCC okX6_not 25 1 (ps := []) (pc' := 43) (lv' := [(1, .int vA), (0, .ref 0)]) (st' := [.int vA]) (z' := (mPut zA 0 28 (nI o))) rfl trivial ?_
        refine ww_br xCC okX6_not 26 (P := vA = 0) (t1 := 46) (t2 := 50) (r := []) rfl (fun c7 => ?_) (fun c7 => ?_)
        · skip
          have hv0 := c7
          refine ww_blk xCC okX6_not 27 2 (ps := []) (pc' := 51) (lv' := [(1, .int vA), (0, .ref 0)]) (st' := [.int 1]) (z' := (mPut zA 0 28 (nI o))) rfl trivial ?_
          subst xhQ
          exact ww_iret xCC okX6_not 30 xhr rfl rfl ⟨_, rfl, ⟨(pK_put hK1 _ (by omega)), Or.inl ⟨k1, (by rw [k3]; exact hgd), fun st => (by rw [k2, pEv_app, hv5]; show (if vA = 0 then (1 : Int32) else 0) :: st = _; first | rw [if_pos hv0] | rw [if_neg hv0])⟩⟩⟩
        · skip
          have hv0 := c7
          refine ww_blk xCC okX6_not 29 1 (ps := []) (pc' := 51) (lv' := [(1, .int vA), (0, .ref 0)]) (st' := [.int 0]) (z' := (mPut zA 0 28 (nI o))) rfl trivial ?_
          subst xhQ
          exact ww_iret xCC okX6_not 30 xhr rfl rfl ⟨_, rfl, ⟨(pK_put hK1 _ (by omega)), Or.inl ⟨k1, (by rw [k3]; exact hgd), fun st => (by rw [k2, pEv_app, hv5]; show (if vA = 0 then (1 : Int32) else 0) :: st = _; first | rw [if_pos hv0] | rw [if_neg hv0])⟩⟩⟩
      · skip
        obtain ⟨htag, hp⟩ : tag = 2 ∧ p = p1 := by
          rcases hc1 with w | w
          · exact w.2
          · omega
        refine ww_blk xCC okX6_not 18 7 (ps := []) (pc' := 42) (lv' := [(1, .int vA), (0, .ref 0)]) (st' := []) (z' := (mPut zA 0 28 ((zA.1 0 28) - 1))) rfl trivial ?_
        refine ww_blk xCC okX6_not 25 1 (ps := []) (pc' := 43) (lv' := [(1, .int vA), (0, .ref 0)]) (st' := [.int vA]) (z' := (mPut zA 0 28 ((zA.1 0 28) - 1))) rfl trivial ?_
        refine ww_br xCC okX6_not 26 (P := vA = 0) (t1 := 46) (t2 := 50) (r := []) rfl (fun c8 => ?_) (fun c8 => ?_)
        · skip
          have hv0 := c8
          refine ww_blk xCC okX6_not 27 2 (ps := []) (pc' := 51) (lv' := [(1, .int vA), (0, .ref 0)]) (st' := [.int 1]) (z' := (mPut zA 0 28 ((zA.1 0 28) - 1))) rfl trivial ?_
          subst xhQ
          exact ww_iret xCC okX6_not 30 xhr rfl rfl ⟨_, rfl, ⟨(pK_put hK1 _ (by omega)), Or.inr ⟨htag, (by rw [hp]; exact hB1)⟩⟩⟩
        · skip
          have hv0 := c8
          refine ww_blk xCC okX6_not 29 1 (ps := []) (pc' := 51) (lv' := [(1, .int vA), (0, .ref 0)]) (st' := [.int 0]) (z' := (mPut zA 0 28 ((zA.1 0 28) - 1))) rfl trivial ?_
          subst xhQ
          exact ww_iret xCC okX6_not 30 xhr rfl rfl ⟨_, rfl, ⟨(pK_put hK1 _ (by omega)), Or.inr ⟨htag, (by rw [hp]; exact hB1)⟩⟩⟩
    · skip
      obtain ⟨ho19, hBo19, hK19⟩ := h5
      replace hK19 := pK_tr (pK_rf z) hK19
      obtain ⟨-, htag, hp⟩ := hm1.resolve_right (fun w => absurd w.1 (by omega))
      refine ww_br xCC okX6_not 13 (P := 0 = 0) (t1 := 25) (t2 := 27) (r := []) rfl (fun _ => ?_) (fun q => absurd (by decide) q)
      refine ww_blk xCC okX6_not 14 1 (ps := []) (pc' := 26) (lv' := [(0, .ref 0)]) (st' := [.int 0]) (z' := z4) rfl trivial ?_
      subst xhQ
      exact ww_iret xCC okX6_not 15 xhr rfl rfl ⟨_, rfl, ⟨hK19, Or.inr ⟨htag, (by rw [hp]; exact hBo19)⟩⟩⟩
  · skip
    rw [h2.2]
    have hs12 := h2.1
    refine ww_br xCC okX6_not 10 (P := 0 = 0) (t1 := 52) (t2 := 18) (r := []) rfl (fun _ => ?_) (fun q => absurd (by decide) q)
    have hm7 := (hm.resolve_left (fun w => hs12 w.1)).2
    obtain ⟨g7, t1, x1, p1, rfl, h1, ht1, hc1⟩ := pG_cmp hm7 ht
    refine ww_blk xCC okX6_not 31 1 (ps := []) (pc' := 53) (lv' := [(0, .ref 0)]) (st' := [.ref 0]) (z' := z) rfl trivial ?_
    refine ww_callVIi xCC okX6_not 32 (ix := 240) (ihA g7 (by omega) d z o pos t1 x1 p1 hgs h1 ht1) (by omega) (by decide) xyX6_added xiX6_added (Or.inl (lw_gt_of (List.mem_of_getElem? (i := 1060) (by decide +kernel)) rfl)) rfl rfl rfl (rest := []) rfl (Nat.le_of_ble_eq_true rfl) rfl (fun vA zA hA => ?_)
    obtain ⟨hK1, hA1⟩ := hA
    rcases hA1 with ⟨e1, hS1, hv5⟩ | ⟨e1, hB1⟩
    · skip
      have hc2 := (hc1.resolve_left (fun w => absurd w.1 (by omega))).2
      refine ww_blk xCC okX6_not 33 3 (ps := []) (pc' := 60) (lv' := [(1, .int vA), (0, .ref 0)]) (st' := [.int 60, .ref 0]) (z' := zA) rfl trivial ?_
      refine ww_callVIz xCC okX6_not 36 (ix := 217) (t_X6_isSign l d zA bt n p1 hS1.1.2.2.2.1 hS1.2.1 hS1.2.2.2.1 60 (by decide)) (by omega) (by decide) xyX6_isSign xiX6_isSign (Or.inl (lw_gt_of (List.mem_of_getElem? (i := 1072) (by decide +kernel)) rfl)) rfl rfl rfl (rest := []) rfl (Nat.le_of_ble_eq_true rfl) rfl (fun z11 h12 => ?_) (fun z11 h12 => ?_)
      · skip
        rw [h12.2]
        have hs60 := h12.1
        refine ww_br xCC okX6_not 37 (P := 1 = 0) (t1 := 66) (t2 := 77) (r := []) rfl (fun q => absurd q (by decide)) (fun _ => ?_)
        refine ww_blk xCC okX6_not 44 4 (ps := []) (pc' := 85) (lv' := [(1, .int vA), (0, .ref 0)]) (st' := [.int (lg_cmp (zA.2.1 0 27) 60)]) (z' := zA) rfl trivial ?_
        refine ww_br xCC okX6_not 48 (P := (lg_cmp (zA.2.1 0 27) 60) = 0) (t1 := 88) (t2 := 92) (r := []) rfl (fun c14 => ?_) (fun c14 => absurd ((lg_cmp_eq _ _).mpr (tkM_worth hS1.2.2.2.1 hS1.1.2.2.2.1 (c := 60) (by decide) hs60)) c14)
        refine ww_blk xCC okX6_not 49 2 (ps := []) (pc' := 93) (lv' := [(1, .int vA), (0, .ref 0)]) (st' := [.int 1]) (z' := zA) rfl trivial ?_
        refine ww_blk xCC okX6_not 52 1 (ps := []) (pc' := 94) (lv' := [(2, .int 1), (1, .int vA), (0, .ref 0)]) (st' := []) (z' := zA) rfl trivial ?_
        obtain ⟨-, t2, x2, p2, h2, ht2, hc3⟩ := hc2.resolve_left (fun w => w.1 (hs60.trans (by decide)))
        refine ww_blk xCC okX6_not 53 1 (ps := []) (pc' := 95) (lv' := [(2, .int 1), (1, .int vA), (0, .ref 0)]) (st' := [.ref 0]) (z' := zA) rfl trivial ?_
        refine ww_callVIv xCC okX6_not 54 (ix := 192) (t_X6_next l d zA bt n fr hS1.1 (pTok bt n p1).2.2 (pTok_le hS1.2.2.2.2.1).1 (tkM_here hS1.2.2.2.1 (by rw [hs60]; decide))) (by omega) (by decide) xyX6_next xiX6_next (Or.inl (lw_gt_of (List.mem_of_getElem? (i := 1015) (by decide +kernel)) rfl)) rfl rfl rfl (rest := []) rfl (Nat.le_of_ble_eq_true rfl) rfl (fun z15 h16 => ?_)
        have hgN95 := gS_nx hS1.1 hS1.2.1 hS1.2.2.1 h16.1 h16.2 (pTok_le hS1.2.2.2.2.1).1 hS1.2.2.2.2.2
        have hKN95 := pK_tr hK1 (pK4_K h16.1)
        refine ww_blk xCC okX6_not 55 1 (ps := []) (pc' := 99) (lv' := [(2, .int 1), (1, .int vA), (0, .ref 0)]) (st' := [.ref 0]) (z' := z15) rfl trivial ?_
        refine ww_callVIi xCC okX6_not 56 (ix := 240) (ihA g7 (by omega) d z15 o (pTok bt n p1).2.2 t2 x2 p2 hgN95 h2 ht2) (by omega) (by decide) xyX6_added xiX6_added (Or.inl (lw_gt_of (List.mem_of_getElem? (i := 1060) (by decide +kernel)) rfl)) rfl rfl rfl (rest := []) rfl (Nat.le_of_ble_eq_true rfl) rfl (fun vB zB hB => ?_)
        obtain ⟨hK4, hB1⟩ := hB
        have hv6 : t2 = 1 → ∀ st, pEv (pF z) x2 st = vB :: st := fun w st => by
          rcases hB1 with ⟨-, -, q⟩ | ⟨q, -⟩
          · rw [← pEv_K hKN95]; exact q st
          · omega
        replace hK4 := pK_tr hKN95 hK4
        rcases hB1 with ⟨e4, hS4, -⟩ | ⟨e4, hB4⟩
        · skip
          replace hv6 := hv6 e4
          obtain ⟨k1, k2, k3⟩ := (hc3.resolve_left (fun w => absurd w.1 (by omega))).2
          refine ww_blk xCC okX6_not 57 2 (ps := []) (pc' := 104) (lv' := [(3, .int vB), (2, .int 1), (1, .int vA), (0, .ref 0)]) (st' := [.int 1]) (z' := zB) rfl trivial ?_
          refine ww_br xCC okX6_not 59 (P := 1 = 0) (t1 := 115) (t2 := 107) (r := []) rfl (fun q => absurd q (by decide)) (fun _ => ?_)
          refine ww_blk xCC okX6_not 60 2 (ps := []) (pc' := 109) (lv' := [(3, .int vB), (2, .int 1), (1, .int vA), (0, .ref 0)]) (st' := [.int vB, .int vA]) (z' := zB) rfl trivial ?_
          refine ww_br xCC okX6_not 62 (P := vB ≤ vA) (t1 := 124) (t2 := 112) (r := []) rfl (fun c19 => ?_) (fun c19 => ?_)
          · skip
            have hcmp := c19
            refine ww_blk xCC okX6_not 69 1 (ps := []) (pc' := 125) (lv' := [(3, .int vB), (2, .int 1), (1, .int vA), (0, .ref 0)]) (st' := [.int 0]) (z' := zB) rfl trivial ?_
            subst xhQ
            exact ww_iret xCC okX6_not 70 xhr rfl rfl ⟨_, rfl, ⟨hK4, Or.inl ⟨k1, (by rw [k3]; exact hS4), fun st => (by rw [k2, pEv_app, hv5, pEv_app, hv6, show (pTok bt n p1).1 = 10008 from hs60.trans (by decide)]; show (if vA < vB then (1 : Int32) else 0) :: st = _; first | rw [if_neg (Int32.not_lt.mpr hcmp)] | rw [if_pos (Int32.not_le.mp hcmp)])⟩⟩⟩
          · skip
            have hcmp := c19
            refine ww_blk xCC okX6_not 63 1 (ps := []) (pc' := 120) (lv' := [(3, .int vB), (2, .int 1), (1, .int vA), (0, .ref 0)]) (st' := []) (z' := zB) rfl trivial ?_
            refine ww_blk xCC okX6_not 67 2 (ps := []) (pc' := 125) (lv' := [(3, .int vB), (2, .int 1), (1, .int vA), (0, .ref 0)]) (st' := [.int 1]) (z' := zB) rfl trivial ?_
            subst xhQ
            exact ww_iret xCC okX6_not 70 xhr rfl rfl ⟨_, rfl, ⟨hK4, Or.inl ⟨k1, (by rw [k3]; exact hS4), fun st => (by rw [k2, pEv_app, hv5, pEv_app, hv6, show (pTok bt n p1).1 = 10008 from hs60.trans (by decide)]; show (if vA < vB then (1 : Int32) else 0) :: st = _; first | rw [if_neg (Int32.not_lt.mpr hcmp)] | rw [if_pos (Int32.not_le.mp hcmp)])⟩⟩⟩
        · skip
          obtain ⟨htag, hp⟩ : tag = 2 ∧ p = p2 := by
            rcases hc3 with w | w
            · exact w.2
            · omega
          refine ww_blk xCC okX6_not 57 2 (ps := []) (pc' := 104) (lv' := [(3, .int vB), (2, .int 1), (1, .int vA), (0, .ref 0)]) (st' := [.int 1]) (z' := zB) rfl trivial ?_
          refine ww_br xCC okX6_not 59 (P := 1 = 0) (t1 := 115) (t2 := 107) (r := []) rfl (fun q => absurd q (by decide)) (fun _ => ?_)
          refine ww_blk xCC okX6_not 60 2 (ps := []) (pc' := 109) (lv' := [(3, .int vB), (2, .int 1), (1, .int vA), (0, .ref 0)]) (st' := [.int vB, .int vA]) (z' := zB) rfl trivial ?_
          refine ww_br xCC okX6_not 62 (P := vB ≤ vA) (t1 := 124) (t2 := 112) (r := []) rfl (fun c21 => ?_) (fun c21 => ?_)
          · skip
            have hcmp := c21
            refine ww_blk xCC okX6_not 69 1 (ps := []) (pc' := 125) (lv' := [(3, .int vB), (2, .int 1), (1, .int vA), (0, .ref 0)]) (st' := [.int 0]) (z' := zB) rfl trivial ?_
            subst xhQ
            exact ww_iret xCC okX6_not 70 xhr rfl rfl ⟨_, rfl, ⟨hK4, Or.inr ⟨htag, (by rw [hp]; exact hB4)⟩⟩⟩
          · skip
            have hcmp := c21
            refine ww_blk xCC okX6_not 63 1 (ps := []) (pc' := 120) (lv' := [(3, .int vB), (2, .int 1), (1, .int vA), (0, .ref 0)]) (st' := []) (z' := zB) rfl trivial ?_
            refine ww_blk xCC okX6_not 67 2 (ps := []) (pc' := 125) (lv' := [(3, .int vB), (2, .int 1), (1, .int vA), (0, .ref 0)]) (st' := [.int 1]) (z' := zB) rfl trivial ?_
            subst xhQ
            exact ww_iret xCC okX6_not 70 xhr rfl rfl ⟨_, rfl, ⟨hK4, Or.inr ⟨htag, (by rw [hp]; exact hB4)⟩⟩⟩
      · skip
        rw [h12.2]
        have hs60 := h12.1
        refine ww_br xCC okX6_not 37 (P := 0 = 0) (t1 := 66) (t2 := 77) (r := []) rfl (fun _ => ?_) (fun q => absurd (by decide) q)
        refine ww_blk xCC okX6_not 38 2 (ps := []) (pc' := 69) (lv' := [(1, .int vA), (0, .ref 0)]) (st' := [.int 61, .ref 0]) (z' := zA) rfl trivial ?_
        refine ww_callVIz xCC okX6_not 40 (ix := 217) (t_X6_isSign l d zA bt n p1 hS1.1.2.2.2.1 hS1.2.1 hS1.2.2.2.1 61 (by decide)) (by omega) (by decide) xyX6_isSign xiX6_isSign (Or.inl (lw_gt_of (List.mem_of_getElem? (i := 1072) (by decide +kernel)) rfl)) rfl rfl rfl (rest := []) rfl (Nat.le_of_ble_eq_true rfl) rfl (fun z23 h24 => ?_) (fun z23 h24 => ?_)
        · skip
          rw [h24.2]
          have hs69 := h24.1
          refine ww_br xCC okX6_not 41 (P := 1 = 0) (t1 := 75) (t2 := 77) (r := []) rfl (fun q => absurd q (by decide)) (fun _ => ?_)
          refine ww_blk xCC okX6_not 44 4 (ps := []) (pc' := 85) (lv' := [(1, .int vA), (0, .ref 0)]) (st' := [.int (lg_cmp (zA.2.1 0 27) 60)]) (z' := zA) rfl trivial ?_
          refine ww_br xCC okX6_not 48 (P := (lg_cmp (zA.2.1 0 27) 60) = 0) (t1 := 88) (t2 := 92) (r := []) rfl (fun c26 => absurd c26 (fun q9 => absurd (tkM_worth hS1.2.2.2.1 hS1.1.2.2.2.1 (c := 61) (by decide) hs69) (by rw [(lg_cmp_eq _ _).mp q9]; decide))) (fun c26 => ?_)
          refine ww_blk xCC okX6_not 51 2 (ps := []) (pc' := 94) (lv' := [(2, .int 0), (1, .int vA), (0, .ref 0)]) (st' := []) (z' := zA) rfl trivial ?_
          obtain ⟨-, t2, x2, p2, h2, ht2, hc3⟩ := hc2.resolve_left (fun w => w.2.1 (hs69.trans (by decide)))
          refine ww_blk xCC okX6_not 53 1 (ps := []) (pc' := 95) (lv' := [(2, .int 0), (1, .int vA), (0, .ref 0)]) (st' := [.ref 0]) (z' := zA) rfl trivial ?_
          refine ww_callVIv xCC okX6_not 54 (ix := 192) (t_X6_next l d zA bt n fr hS1.1 (pTok bt n p1).2.2 (pTok_le hS1.2.2.2.2.1).1 (tkM_here hS1.2.2.2.1 (by rw [hs69]; decide))) (by omega) (by decide) xyX6_next xiX6_next (Or.inl (lw_gt_of (List.mem_of_getElem? (i := 1015) (by decide +kernel)) rfl)) rfl rfl rfl (rest := []) rfl (Nat.le_of_ble_eq_true rfl) rfl (fun z27 h28 => ?_)
          have hgN95 := gS_nx hS1.1 hS1.2.1 hS1.2.2.1 h28.1 h28.2 (pTok_le hS1.2.2.2.2.1).1 hS1.2.2.2.2.2
          have hKN95 := pK_tr hK1 (pK4_K h28.1)
          refine ww_blk xCC okX6_not 55 1 (ps := []) (pc' := 99) (lv' := [(2, .int 0), (1, .int vA), (0, .ref 0)]) (st' := [.ref 0]) (z' := z27) rfl trivial ?_
          refine ww_callVIi xCC okX6_not 56 (ix := 240) (ihA g7 (by omega) d z27 o (pTok bt n p1).2.2 t2 x2 p2 hgN95 h2 ht2) (by omega) (by decide) xyX6_added xiX6_added (Or.inl (lw_gt_of (List.mem_of_getElem? (i := 1060) (by decide +kernel)) rfl)) rfl rfl rfl (rest := []) rfl (Nat.le_of_ble_eq_true rfl) rfl (fun vB zB hB => ?_)
          obtain ⟨hK4, hB1⟩ := hB
          have hv6 : t2 = 1 → ∀ st, pEv (pF z) x2 st = vB :: st := fun w st => by
            rcases hB1 with ⟨-, -, q⟩ | ⟨q, -⟩
            · rw [← pEv_K hKN95]; exact q st
            · omega
          replace hK4 := pK_tr hKN95 hK4
          rcases hB1 with ⟨e4, hS4, -⟩ | ⟨e4, hB4⟩
          · skip
            replace hv6 := hv6 e4
            obtain ⟨k1, k2, k3⟩ := (hc3.resolve_left (fun w => absurd w.1 (by omega))).2
            refine ww_blk xCC okX6_not 57 2 (ps := []) (pc' := 104) (lv' := [(3, .int vB), (2, .int 0), (1, .int vA), (0, .ref 0)]) (st' := [.int 0]) (z' := zB) rfl trivial ?_
            refine ww_br xCC okX6_not 59 (P := 0 = 0) (t1 := 115) (t2 := 107) (r := []) rfl (fun _ => ?_) (fun q => absurd (by decide) q)
            refine ww_blk xCC okX6_not 64 2 (ps := []) (pc' := 117) (lv' := [(3, .int vB), (2, .int 0), (1, .int vA), (0, .ref 0)]) (st' := [.int vB, .int vA]) (z' := zB) rfl trivial ?_
            refine ww_br xCC okX6_not 66 (P := vA = vB) (t1 := 120) (t2 := 124) (r := []) rfl (fun c31 => ?_) (fun c31 => ?_)
            · skip
              have hcmp := c31
              refine ww_blk xCC okX6_not 67 2 (ps := []) (pc' := 125) (lv' := [(3, .int vB), (2, .int 0), (1, .int vA), (0, .ref 0)]) (st' := [.int 1]) (z' := zB) rfl trivial ?_
              subst xhQ
              exact ww_iret xCC okX6_not 70 xhr rfl rfl ⟨_, rfl, ⟨hK4, Or.inl ⟨k1, (by rw [k3]; exact hS4), fun st => (by rw [k2, pEv_app, hv5, pEv_app, hv6, show (pTok bt n p1).1 = 10009 from hs69.trans (by decide)]; show (if vA = vB then (1 : Int32) else 0) :: st = _; first | rw [if_pos hcmp] | rw [if_neg hcmp])⟩⟩⟩
            · skip
              have hcmp := c31
              refine ww_blk xCC okX6_not 69 1 (ps := []) (pc' := 125) (lv' := [(3, .int vB), (2, .int 0), (1, .int vA), (0, .ref 0)]) (st' := [.int 0]) (z' := zB) rfl trivial ?_
              subst xhQ
              exact ww_iret xCC okX6_not 70 xhr rfl rfl ⟨_, rfl, ⟨hK4, Or.inl ⟨k1, (by rw [k3]; exact hS4), fun st => (by rw [k2, pEv_app, hv5, pEv_app, hv6, show (pTok bt n p1).1 = 10009 from hs69.trans (by decide)]; show (if vA = vB then (1 : Int32) else 0) :: st = _; first | rw [if_pos hcmp] | rw [if_neg hcmp])⟩⟩⟩
          · skip
            obtain ⟨htag, hp⟩ : tag = 2 ∧ p = p2 := by
              rcases hc3 with w | w
              · exact w.2
              · omega
            refine ww_blk xCC okX6_not 57 2 (ps := []) (pc' := 104) (lv' := [(3, .int vB), (2, .int 0), (1, .int vA), (0, .ref 0)]) (st' := [.int 0]) (z' := zB) rfl trivial ?_
            refine ww_br xCC okX6_not 59 (P := 0 = 0) (t1 := 115) (t2 := 107) (r := []) rfl (fun _ => ?_) (fun q => absurd (by decide) q)
            refine ww_blk xCC okX6_not 64 2 (ps := []) (pc' := 117) (lv' := [(3, .int vB), (2, .int 0), (1, .int vA), (0, .ref 0)]) (st' := [.int vB, .int vA]) (z' := zB) rfl trivial ?_
            refine ww_br xCC okX6_not 66 (P := vA = vB) (t1 := 120) (t2 := 124) (r := []) rfl (fun c33 => ?_) (fun c33 => ?_)
            · skip
              have hcmp := c33
              refine ww_blk xCC okX6_not 67 2 (ps := []) (pc' := 125) (lv' := [(3, .int vB), (2, .int 0), (1, .int vA), (0, .ref 0)]) (st' := [.int 1]) (z' := zB) rfl trivial ?_
              subst xhQ
              exact ww_iret xCC okX6_not 70 xhr rfl rfl ⟨_, rfl, ⟨hK4, Or.inr ⟨htag, (by rw [hp]; exact hB4)⟩⟩⟩
            · skip
              have hcmp := c33
              refine ww_blk xCC okX6_not 69 1 (ps := []) (pc' := 125) (lv' := [(3, .int vB), (2, .int 0), (1, .int vA), (0, .ref 0)]) (st' := [.int 0]) (z' := zB) rfl trivial ?_
              subst xhQ
              exact ww_iret xCC okX6_not 70 xhr rfl rfl ⟨_, rfl, ⟨hK4, Or.inr ⟨htag, (by rw [hp]; exact hB4)⟩⟩⟩
        · skip
          rw [h24.2]
          have hs69 := h24.1
          refine ww_br xCC okX6_not 41 (P := 0 = 0) (t1 := 75) (t2 := 77) (r := []) rfl (fun _ => ?_) (fun q => absurd (by decide) q)
          obtain ⟨-, -, k1, k2, k3⟩ := hc2.resolve_right (fun w => by
            rcases w.1 with q | q
            · exact hs60 (q.trans (by decide))
            · exact hs69 (q.trans (by decide)))
          refine ww_blk xCC okX6_not 42 1 (ps := []) (pc' := 76) (lv' := [(1, .int vA), (0, .ref 0)]) (st' := [.int vA]) (z' := zA) rfl trivial ?_
          subst xhQ
          exact ww_iret xCC okX6_not 43 xhr rfl rfl ⟨_, rfl, ⟨hK1, Or.inl ⟨k1, (by rw [k3]; exact hS1), fun st => (by rw [k2]; exact hv5 st)⟩⟩⟩
    · skip
      obtain ⟨htag, hp⟩ : tag = 2 ∧ p = p1 := by
        rcases hc1 with w | w
        · exact w.2
        · omega
      refine ww_blk xCC okX6_not 33 3 (ps := []) (pc' := 60) (lv' := [(1, .int vA), (0, .ref 0)]) (st' := [.int 60, .ref 0]) (z' := zA) rfl trivial ?_
      refine ww_callVIi xCC okX6_not 36 (ix := 217) (t_X6_isSign_b l d zA hB1.1 60) (by omega) (by decide) xyX6_isSign xiX6_isSign (Or.inl (lw_gt_of (List.mem_of_getElem? (i := 1072) (by decide +kernel)) rfl)) rfl rfl rfl (rest := []) rfl (Nat.le_of_ble_eq_true rfl) rfl (fun v37 z35 h36 => ?_)
      rw [h36.1, h36.2]
      refine ww_br xCC okX6_not 37 (P := 0 = 0) (t1 := 66) (t2 := 77) (r := []) rfl (fun _ => ?_) (fun q => absurd (by decide) q)
      refine ww_blk xCC okX6_not 38 2 (ps := []) (pc' := 69) (lv' := [(1, .int vA), (0, .ref 0)]) (st' := [.int 61, .ref 0]) (z' := zA) rfl trivial ?_
      refine ww_callVIi xCC okX6_not 40 (ix := 217) (t_X6_isSign_b l d zA hB1.1 61) (by omega) (by decide) xyX6_isSign xiX6_isSign (Or.inl (lw_gt_of (List.mem_of_getElem? (i := 1072) (by decide +kernel)) rfl)) rfl rfl rfl (rest := []) rfl (Nat.le_of_ble_eq_true rfl) rfl (fun v41 z39 h40 => ?_)
      rw [h40.1, h40.2]
      refine ww_br xCC okX6_not 41 (P := 0 = 0) (t1 := 75) (t2 := 77) (r := []) rfl (fun _ => ?_) (fun q => absurd (by decide) q)
      refine ww_blk xCC okX6_not 42 1 (ps := []) (pc' := 76) (lv' := [(1, .int vA), (0, .ref 0)]) (st' := [.int vA]) (z' := zA) rfl trivial ?_
      subst xhQ
      exact ww_iret xCC okX6_not 43 xhr rfl rfl ⟨_, rfl, ⟨hK1, Or.inr ⟨htag, (by rw [hp]; exact hB1)⟩⟩⟩

/-- all of them, at every fuel -/
theorem m_all (l : Launch) (bt : Nat → Nat) (n fr : Nat) : ∀ f, MC l bt n fr yX6_either cX6_either 3 0 f ∧ MC l bt n fr yX6_both cX6_both 3 1 f ∧ MC l bt n fr yX6_not cX6_not 4 2 f ∧ MC l bt n fr yX6_added cX6_added 4 4 f ∧ MC l bt n fr yX6_term cX6_term 2 5 f ∧ MC l bt n fr yX6_atom cX6_atom 2 6 f := by
  intro f
  induction f using Nat.strongRecOn with
  | ind f ih =>
    exact ⟨fun d z o pos tag cs p h1 h2 h3 => t_X6_either l d bt n fr f (fun g hg => (ih g hg).2.1) z o pos tag cs p h1 h2 h3,
      fun d z o pos tag cs p h1 h2 h3 => t_X6_both l d bt n fr f (fun g hg => (ih g hg).2.2.1) z o pos tag cs p h1 h2 h3,
      fun d z o pos tag cs p h1 h2 h3 => t_X6_not l d bt n fr f (fun g hg => (ih g hg).2.2.1) (fun g hg => (ih g hg).2.2.2.1) z o pos tag cs p h1 h2 h3,
      fun d z o pos tag cs p h1 h2 h3 => t_X6_added l d bt n fr f (fun g hg => (ih g hg).2.2.2.2.1) z o pos tag cs p h1 h2 h3,
      fun d z o pos tag cs p h1 h2 h3 => t_X6_term l d bt n fr f (fun g hg => (ih g hg).2.2.2.2.2) z o pos tag cs p h1 h2 h3,
      fun d z o pos tag cs p h1 h2 h3 => t_X6_atom l d bt n fr f (fun g hg => (ih g hg).1) (fun g hg => (ih g hg).2.2.2.2.2) z o pos tag cs p h1 h2 h3⟩
