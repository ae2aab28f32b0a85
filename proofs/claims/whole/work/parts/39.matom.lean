/-! name and atom of the model -/
set_option maxHeartbeats 4000000 in
set_option maxRecDepth 20000 in
theorem t_X6_name (l : Launch) (d : Nat) (z : xMem) (bt : Nat → Nat) (n fr : Nat) (pos o : Nat) (hgs : gS z bt n fr pos o) (hw : z.1 0 25 = 1) : XMi l (d + 3) yX6_name cX6_name 1 (some .int) shM [.ref 0] z (fun v z' => (10000 ≤ (pTok bt n pos).1 ∧ (pTok bt n pos).1 ≤ 10005 ∧ v = pF z (pTok bt n pos).1 ∧ z' = z) ∨ (10005 < (pTok bt n pos).1 ∧ bS z' (pTok bt n pos).2.1 ∧ pK z z')) := by
  refine XM.of (by decide) (Nat.le_of_ble_eq_true rfl) (fun xp xe xs xm xar xbl xme xc xD xcs xad xAA xCC xhr => ?_)
  generalize xhQ : MQ xbl _ xar xs 0 0 xAA = xQ
  show ww xp l xe (xRm (d + 3)) xs xm xar xbl xme xc 1 xD xcs xad shM xAA xQ 0 [(0, .ref 0)] [] z
  refine ww_blk xCC okX6_name 0 9 (ps := []) (pc' := 13) (lv' := [(0, .ref 0)]) (st' := [.int 0, .int 0, .int 0, .int 0, .int 109, .int 114, .int 97, .int 104, .ref 0]) (z' := z) rfl trivial ?_
  refine ww_callVIz xCC okX6_name 9 (ix := 195) (t_X6_isWord l d z bt n fr hgs.1 pos hgs.2.2.2.2.1 hgs.2.1 hgs.2.2.2.1 [104, 97, 114, 109] 10000 (by decide)) (by omega) (by decide) xyX6_isWord xiX6_isWord (Or.inl (lw_gt_of (List.mem_of_getElem? (i := 1028) (by decide +kernel)) rfl)) rfl rfl rfl (rest := []) rfl (Nat.le_of_ble_eq_true rfl) rfl (fun z1 h2 => ?_) (fun z1 h2 => ?_)
  · skip
    rw [h2.2]
    have hs13 := h2.1
    refine ww_br xCC okX6_name 10 (P := 1 = 0) (t1 := 24) (t2 := 19) (r := []) rfl (fun q => absurd q (by decide)) (fun _ => ?_)
    refine ww_blk xCC okX6_name 11 2 (ps := []) (pc' := 23) (lv' := [(0, .ref 0)]) (st' := [.int (z.1 0 16)]) (z' := z) rfl trivial ?_
    subst xhQ
    exact ww_iret xCC okX6_name 13 xhr rfl rfl ⟨_, rfl, (Or.inl ⟨(by rw [hs13]; decide), (by rw [hs13]; decide), (by rw [hs13]; rfl), rfl⟩)⟩
  · skip
    rw [h2.2]
    have hs13 := h2.1
    refine ww_br xCC okX6_name 10 (P := 0 = 0) (t1 := 24) (t2 := 19) (r := []) rfl (fun _ => ?_) (fun q => absurd (by decide) q)
    refine ww_blk xCC okX6_name 14 9 (ps := []) (pc' := 37) (lv' := [(0, .ref 0)]) (st' := [.int 0, .int 0, .int 0, .int 0, .int 115, .int 119, .int 97, .int 108, .ref 0]) (z' := z) rfl trivial ?_
    refine ww_callVIz xCC okX6_name 23 (ix := 195) (t_X6_isWord l d z bt n fr hgs.1 pos hgs.2.2.2.2.1 hgs.2.1 hgs.2.2.2.1 [108, 97, 119, 115] 10001 (by decide)) (by omega) (by decide) xyX6_isWord xiX6_isWord (Or.inl (lw_gt_of (List.mem_of_getElem? (i := 1028) (by decide +kernel)) rfl)) rfl rfl rfl (rest := []) rfl (Nat.le_of_ble_eq_true rfl) rfl (fun z5 h6 => ?_) (fun z5 h6 => ?_)
    · skip
      rw [h6.2]
      have hs37 := h6.1
      refine ww_br xCC okX6_name 24 (P := 1 = 0) (t1 := 48) (t2 := 43) (r := []) rfl (fun q => absurd q (by decide)) (fun _ => ?_)
      refine ww_blk xCC okX6_name 25 2 (ps := []) (pc' := 47) (lv' := [(0, .ref 0)]) (st' := [.int (z.1 0 17)]) (z' := z) rfl trivial ?_
      subst xhQ
      exact ww_iret xCC okX6_name 27 xhr rfl rfl ⟨_, rfl, (Or.inl ⟨(by rw [hs37]; decide), (by rw [hs37]; decide), (by rw [hs37]; rfl), rfl⟩)⟩
    · skip
      rw [h6.2]
      have hs37 := h6.1
      refine ww_br xCC okX6_name 24 (P := 0 = 0) (t1 := 48) (t2 := 43) (r := []) rfl (fun _ => ?_) (fun q => absurd (by decide) q)
      refine ww_blk xCC okX6_name 28 9 (ps := []) (pc' := 63) (lv' := [(0, .ref 0)]) (st' := [.int 0, .int 0, .int 114, .int 101, .int 98, .int 109, .int 117, .int 110, .ref 0]) (z' := z) rfl trivial ?_
      refine ww_callVIz xCC okX6_name 37 (ix := 195) (t_X6_isWord l d z bt n fr hgs.1 pos hgs.2.2.2.2.1 hgs.2.1 hgs.2.2.2.1 [110, 117, 109, 98, 101, 114] 10002 (by decide)) (by omega) (by decide) xyX6_isWord xiX6_isWord (Or.inl (lw_gt_of (List.mem_of_getElem? (i := 1028) (by decide +kernel)) rfl)) rfl rfl rfl (rest := []) rfl (Nat.le_of_ble_eq_true rfl) rfl (fun z9 h10 => ?_) (fun z9 h10 => ?_)
      · skip
        rw [h10.2]
        have hs63 := h10.1
        refine ww_br xCC okX6_name 38 (P := 1 = 0) (t1 := 74) (t2 := 69) (r := []) rfl (fun q => absurd q (by decide)) (fun _ => ?_)
        refine ww_blk xCC okX6_name 39 2 (ps := []) (pc' := 73) (lv' := [(0, .ref 0)]) (st' := [.int (z.1 0 18)]) (z' := z) rfl trivial ?_
        subst xhQ
        exact ww_iret xCC okX6_name 41 xhr rfl rfl ⟨_, rfl, (Or.inl ⟨(by rw [hs63]; decide), (by rw [hs63]; decide), (by rw [hs63]; rfl), rfl⟩)⟩
      · skip
        rw [h10.2]
        have hs63 := h10.1
        refine ww_br xCC okX6_name 38 (P := 0 = 0) (t1 := 74) (t2 := 69) (r := []) rfl (fun _ => ?_) (fun q => absurd (by decide) q)
        refine ww_blk xCC okX6_name 42 9 (ps := []) (pc' := 87) (lv' := [(0, .ref 0)]) (st' := [.int 0, .int 0, .int 0, .int 0, .int 114, .int 97, .int 101, .int 121, .ref 0]) (z' := z) rfl trivial ?_
        refine ww_callVIz xCC okX6_name 51 (ix := 195) (t_X6_isWord l d z bt n fr hgs.1 pos hgs.2.2.2.2.1 hgs.2.1 hgs.2.2.2.1 [121, 101, 97, 114] 10003 (by decide)) (by omega) (by decide) xyX6_isWord xiX6_isWord (Or.inl (lw_gt_of (List.mem_of_getElem? (i := 1028) (by decide +kernel)) rfl)) rfl rfl rfl (rest := []) rfl (Nat.le_of_ble_eq_true rfl) rfl (fun z13 h14 => ?_) (fun z13 h14 => ?_)
        · skip
          rw [h14.2]
          have hs87 := h14.1
          refine ww_br xCC okX6_name 52 (P := 1 = 0) (t1 := 98) (t2 := 93) (r := []) rfl (fun q => absurd q (by decide)) (fun _ => ?_)
          refine ww_blk xCC okX6_name 53 2 (ps := []) (pc' := 97) (lv' := [(0, .ref 0)]) (st' := [.int (z.1 0 19)]) (z' := z) rfl trivial ?_
          subst xhQ
          exact ww_iret xCC okX6_name 55 xhr rfl rfl ⟨_, rfl, (Or.inl ⟨(by rw [hs87]; decide), (by rw [hs87]; decide), (by rw [hs87]; rfl), rfl⟩)⟩
        · skip
          rw [h14.2]
          have hs87 := h14.1
          refine ww_br xCC okX6_name 52 (P := 0 = 0) (t1 := 98) (t2 := 93) (r := []) rfl (fun _ => ?_) (fun q => absurd (by decide) q)
          refine ww_blk xCC okX6_name 56 9 (ps := []) (pc' := 113) (lv' := [(0, .ref 0)]) (st' := [.int 0, .int 0, .int 100, .int 101, .int 118, .int 114, .int 101, .int 115, .ref 0]) (z' := z) rfl trivial ?_
          refine ww_callVIz xCC okX6_name 65 (ix := 195) (t_X6_isWord l d z bt n fr hgs.1 pos hgs.2.2.2.2.1 hgs.2.1 hgs.2.2.2.1 [115, 101, 114, 118, 101, 100] 10004 (by decide)) (by omega) (by decide) xyX6_isWord xiX6_isWord (Or.inl (lw_gt_of (List.mem_of_getElem? (i := 1028) (by decide +kernel)) rfl)) rfl rfl rfl (rest := []) rfl (Nat.le_of_ble_eq_true rfl) rfl (fun z17 h18 => ?_) (fun z17 h18 => ?_)
          · skip
            rw [h18.2]
            have hs113 := h18.1
            refine ww_br xCC okX6_name 66 (P := 1 = 0) (t1 := 124) (t2 := 119) (r := []) rfl (fun q => absurd q (by decide)) (fun _ => ?_)
            refine ww_blk xCC okX6_name 67 2 (ps := []) (pc' := 123) (lv' := [(0, .ref 0)]) (st' := [.int (z.1 0 20)]) (z' := z) rfl trivial ?_
            subst xhQ
            exact ww_iret xCC okX6_name 69 xhr rfl rfl ⟨_, rfl, (Or.inl ⟨(by rw [hs113]; decide), (by rw [hs113]; decide), (by rw [hs113]; rfl), rfl⟩)⟩
          · skip
            rw [h18.2]
            have hs113 := h18.1
            refine ww_br xCC okX6_name 66 (P := 0 = 0) (t1 := 124) (t2 := 119) (r := []) rfl (fun _ => ?_) (fun q => absurd (by decide) q)
            refine ww_blk xCC okX6_name 70 9 (ps := []) (pc' := 138) (lv' := [(0, .ref 0)]) (st' := [.int 0, .int 0, .int 0, .int 101, .int 118, .int 105, .int 108, .int 97, .ref 0]) (z' := z) rfl trivial ?_
            refine ww_callVIz xCC okX6_name 79 (ix := 195) (t_X6_isWord l d z bt n fr hgs.1 pos hgs.2.2.2.2.1 hgs.2.1 hgs.2.2.2.1 [97, 108, 105, 118, 101] 10005 (by decide)) (by omega) (by decide) xyX6_isWord xiX6_isWord (Or.inl (lw_gt_of (List.mem_of_getElem? (i := 1028) (by decide +kernel)) rfl)) rfl rfl rfl (rest := []) rfl (Nat.le_of_ble_eq_true rfl) rfl (fun z21 h22 => ?_) (fun z21 h22 => ?_)
            · skip
              rw [h22.2]
              have hs138 := h22.1
              refine ww_br xCC okX6_name 80 (P := 1 = 0) (t1 := 149) (t2 := 144) (r := []) rfl (fun q => absurd q (by decide)) (fun _ => ?_)
              refine ww_blk xCC okX6_name 81 2 (ps := []) (pc' := 148) (lv' := [(0, .ref 0)]) (st' := [.int (z.1 0 21)]) (z' := z) rfl trivial ?_
              subst xhQ
              exact ww_iret xCC okX6_name 83 xhr rfl rfl ⟨_, rfl, (Or.inl ⟨(by rw [hs138]; decide), (by rw [hs138]; decide), (by rw [hs138]; rfl), rfl⟩)⟩
            · skip
              rw [h22.2]
              have hs138 := h22.1
              refine ww_br xCC okX6_name 80 (P := 0 = 0) (t1 := 149) (t2 := 144) (r := []) rfl (fun _ => ?_) (fun q => absurd (by decide) q)
              refine ww_blk xCC okX6_name 84 1 (ps := []) (pc' := 150) (lv' := [(0, .ref 0)]) (st' := [.ref 0]) (z' := z) rfl trivial ?_
              refine ww_callVIv xCC okX6_name 85 (ix := 189) (t_X6_fail_g l d z hgs.2.1) (by omega) (by decide) xyX6_fail xiX6_fail (Or.inl (lw_gt_of (List.mem_of_getElem? (i := 1040) (by decide +kernel)) rfl)) rfl rfl rfl (rest := []) rfl (Nat.le_of_ble_eq_true rfl) rfl (fun z25 h26 => ?_)
              rw [h26]
              have hBf : bS (mPut (mPut z 0 29 1) 0 30 (z.1 0 26)) (pTok bt n pos).2.1 := ⟨rfl, hgs.2.2.2.1.1⟩
              refine ww_blk xCC okX6_name 86 1 (ps := []) (pc' := 154) (lv' := [(0, .ref 0)]) (st' := [.int 0]) (z' := (mPut (mPut z 0 29 1) 0 30 (z.1 0 26))) rfl trivial ?_
              subst xhQ
              exact ww_iret xCC okX6_name 87 xhr rfl rfl ⟨_, rfl, (Or.inr ⟨(by have := (tkM_wd hgs.2.2.2.2.1 hgs.2.2.2.1 hw).1; omega), hBf, (pK_put (pK_put (pK_rf z) _ (by omega)) _ (by omega))⟩)⟩

set_option maxHeartbeats 4000000 in
set_option maxRecDepth 20000 in
theorem t_X6_atom (l : Launch) (d : Nat) (bt : Nat → Nat) (n fr : Nat) (f : Nat) (ihE : ∀ g, g < f → MC l bt n fr yX6_either cX6_either 3 0 g) (ihA : ∀ g, g < f → MC l bt n fr yX6_atom cX6_atom 2 6 g) (z : xMem) (o pos tag : Nat) (cs : List Nat) (p : Nat) (hgs : gS z bt n fr pos o) (hG : pG bt n f 6 o pos = (tag, cs, p)) (ht : tag ≠ 0) : XMi l (d + f + 5) yX6_atom cX6_atom 2 (some .int) shM [.ref 0] z (fun v z' => mR z z' bt n fr o tag cs p v) := by
  obtain ⟨g, rfl, hm⟩ := pG_min hG ht
  refine XM.of (by decide) (Nat.le_of_ble_eq_true rfl) (fun xp xe xs xm xar xbl xme xc xD xcs xad xAA xCC xhr => ?_)
  generalize xhQ : MQ xbl _ xar xs 0 0 xAA = xQ
  show ww xp l xe (xRm (d + (g + 1) + 5)) xs xm xar xbl xme xc 2 xD xcs xad shM xAA xQ 0 [(0, .ref 0)] [] z
  refine ww_blk xCC okX6_atom 0 4 (ps := []) (pc' := 5) (lv' := [(1, .int 0), (0, .ref 0)]) (st' := [.int 45, .ref 0]) (z' := z) rfl trivial ?_
  refine ww_callVIz xCC okX6_atom 4 (ix := 217) (t_X6_isSign l d z bt n pos hgs.1.2.2.2.1 hgs.2.1 hgs.2.2.2.1 45 (by decide)) (by omega) (by decide) xyX6_isSign xiX6_isSign (Or.inl (lw_gt_of (List.mem_of_getElem? (i := 1072) (by decide +kernel)) rfl)) rfl rfl rfl (rest := []) rfl (Nat.le_of_ble_eq_true rfl) rfl (fun z1 h2 => ?_) (fun z1 h2 => ?_)
  · skip
    rw [h2.2]
    have hs5 := h2.1
    refine ww_br xCC okX6_atom 5 (P := 1 = 0) (t1 := 37) (t2 := 11) (r := []) rfl (fun q => absurd q (by decide)) (fun _ => ?_)
    have hm1 := (hm.resolve_right (fun w => w.1 (hs5.trans (by decide)))).2
    refine ww_blk xCC okX6_atom 6 1 (ps := []) (pc' := 12) (lv' := [(1, .int 0), (0, .ref 0)]) (st' := [.ref 0]) (z' := z) rfl trivial ?_
    refine ww_callVIz xCC okX6_atom 7 (ix := 220) (t_X6_opens l d z bt n fr pos o hgs (by rw [hs5]; decide)) (by omega) (by decide) xyX6_opens xiX6_opens (Or.inl (lw_gt_of (List.mem_of_getElem? (i := 1056) (by decide +kernel)) rfl)) rfl rfl rfl (rest := []) rfl (Nat.le_of_ble_eq_true rfl) rfl (fun z4 h5 => ?_) (fun z4 h5 => ?_)
    · skip
      obtain ⟨ho12, hgo12, hK12⟩ := h5
      replace hK12 := pK_tr (pK_rf z) hK12
      refine ww_br xCC okX6_atom 8 (P := 1 = 0) (t1 := 161) (t2 := 18) (r := []) rfl (fun q => absurd q (by decide)) (fun _ => ?_)
      obtain ⟨-, t1, x1, p1, h1, ht1, hc1⟩ := hm1.resolve_left (fun w => absurd w.1 (by omega))
      refine ww_blk xCC okX6_atom 9 1 (ps := []) (pc' := 19) (lv' := [(1, .int 0), (0, .ref 0)]) (st' := [.ref 0]) (z' := z4) rfl trivial ?_
      refine ww_callVIi xCC okX6_atom 10 (ix := 224) (ihA g (by omega) d z4 (o + 1) (pTok bt n pos).2.2 t1 x1 p1 hgo12 h1 ht1) (by omega) (by decide) xyX6_atom xiX6_atom (Or.inl (lw_gt_of (List.mem_of_getElem? (i := 1068) (by decide +kernel)) rfl)) rfl rfl rfl (rest := []) rfl (Nat.le_of_ble_eq_true rfl) rfl (fun vA zA hA => ?_)
      obtain ⟨hK1, hA1⟩ := hA
      have hv5 : t1 = 1 → ∀ st, pEv (pF z) x1 st = vA :: st := fun w st => by
        rcases hA1 with ⟨-, -, q⟩ | ⟨q, -⟩
        · rw [← pEv_K hK12]; exact q st
        · omega
      replace hK1 := pK_tr hK12 hK1
      rcases hA1 with ⟨e1, hS1, -⟩ | ⟨e1, hB1⟩
      · skip
        replace hv5 := hv5 e1
        obtain ⟨k1, k2, k3⟩ := (hc1.resolve_left (fun w => absurd w.1 (by omega))).2
        refine ww_blk xCC okX6_atom 11 8 (ps := []) (pc' := 34) (lv' := [(1, .int (-vA)), (0, .ref 0)]) (st' := []) (z' := (mPut zA 0 28 ((zA.1 0 28) - 1))) rfl trivial ?_
        rw [hS1.2.2.1]
        rw [nI_pred o]
        have hgd : gS (mPut zA 0 28 (nI o)) bt n fr p1 o := ⟨pM_K (pK_put (pK_rf zA) _ (by omega)) hS1.1, hS1.2.1, rfl, tkM_K hS1.2.2.2.1 rfl rfl rfl rfl, hS1.2.2.2.2.1, hgs.2.2.2.2.2⟩
        refine ww_blk xCC okX6_atom 19 1 (ps := []) (pc' := 161) (lv' := [(1, .int (-vA)), (0, .ref 0)]) (st' := []) (z' := (mPut zA 0 28 (nI o))) rfl trivial ?_
        refine ww_blk xCC okX6_atom 80 1 (ps := []) (pc' := 162) (lv' := [(1, .int (-vA)), (0, .ref 0)]) (st' := [.int (-vA)]) (z' := (mPut zA 0 28 (nI o))) rfl trivial ?_
        subst xhQ
        exact ww_iret xCC okX6_atom 81 xhr rfl rfl ⟨_, rfl, ⟨(pK_put hK1 _ (by omega)), Or.inl ⟨k1, (by rw [k3]; exact hgd), fun st => (by rw [k2, pEv_app, hv5]; rfl)⟩⟩⟩
      · skip
        obtain ⟨htag, hp⟩ : tag = 2 ∧ p = p1 := by
          rcases hc1 with w | w
          · exact w.2
          · omega
        refine ww_blk xCC okX6_atom 11 8 (ps := []) (pc' := 34) (lv' := [(1, .int (-vA)), (0, .ref 0)]) (st' := []) (z' := (mPut zA 0 28 ((zA.1 0 28) - 1))) rfl trivial ?_
        refine ww_blk xCC okX6_atom 19 1 (ps := []) (pc' := 161) (lv' := [(1, .int (-vA)), (0, .ref 0)]) (st' := []) (z' := (mPut zA 0 28 ((zA.1 0 28) - 1))) rfl trivial ?_
        refine ww_blk xCC okX6_atom 80 1 (ps := []) (pc' := 162) (lv' := [(1, .int (-vA)), (0, .ref 0)]) (st' := [.int (-vA)]) (z' := (mPut zA 0 28 ((zA.1 0 28) - 1))) rfl trivial ?_
        subst xhQ
        exact ww_iret xCC okX6_atom 81 xhr rfl rfl ⟨_, rfl, ⟨(pK_put hK1 _ (by omega)), Or.inr ⟨htag, (by rw [hp]; exact hB1)⟩⟩⟩
    · skip
      obtain ⟨ho12, hBo12, hK12⟩ := h5
      replace hK12 := pK_tr (pK_rf z) hK12
      obtain ⟨-, htag, hp⟩ := hm1.resolve_right (fun w => absurd w.1 (by omega))
      refine ww_br xCC okX6_atom 8 (P := 0 = 0) (t1 := 161) (t2 := 18) (r := []) rfl (fun _ => ?_) (fun q => absurd (by decide) q)
      refine ww_blk xCC okX6_atom 80 1 (ps := []) (pc' := 162) (lv' := [(1, .int 0), (0, .ref 0)]) (st' := [.int 0]) (z' := z4) rfl trivial ?_
      subst xhQ
      exact ww_iret xCC okX6_atom 81 xhr rfl rfl ⟨_, rfl, ⟨hK12, Or.inr ⟨htag, (by rw [hp]; exact hBo12)⟩⟩⟩
  · skip
    rw [h2.2]
    have hs5 := h2.1
    refine ww_br xCC okX6_atom 5 (P := 0 = 0) (t1 := 37) (t2 := 11) (r := []) rfl (fun _ => ?_) (fun q => absurd (by decide) q)
    refine ww_blk xCC okX6_atom 20 2 (ps := []) (pc' := 40) (lv' := [(1, .int 0), (0, .ref 0)]) (st' := [.int 40, .ref 0]) (z' := z) rfl trivial ?_
    refine ww_callVIz xCC okX6_atom 22 (ix := 217) (t_X6_isSign l d z bt n pos hgs.1.2.2.2.1 hgs.2.1 hgs.2.2.2.1 40 (by decide)) (by omega) (by decide) xyX6_isSign xiX6_isSign (Or.inl (lw_gt_of (List.mem_of_getElem? (i := 1072) (by decide +kernel)) rfl)) rfl rfl rfl (rest := []) rfl (Nat.le_of_ble_eq_true rfl) rfl (fun z9 h10 => ?_) (fun z9 h10 => ?_)
    · skip
      rw [h10.2]
      have hs40 := h10.1
      refine ww_br xCC okX6_atom 23 (P := 1 = 0) (t1 := 95) (t2 := 46) (r := []) rfl (fun q => absurd q (by decide)) (fun _ => ?_)
      have hm7 := (hm.resolve_left (fun w => hs5 (w.1.trans (by decide)))).2
      obtain ⟨g7, rfl, h7⟩ := pG_one hm7 ht
      have hm1 := ((h7.resolve_left (fun w => by have q := w.1; rw [hs40] at q; exact absurd q (by decide))).resolve_right (fun w => w.2.1 (hs40.trans (by decide)))).2
      refine ww_blk xCC okX6_atom 24 1 (ps := []) (pc' := 47) (lv' := [(1, .int 0), (0, .ref 0)]) (st' := [.ref 0]) (z' := z) rfl trivial ?_
      refine ww_callVIz xCC okX6_atom 25 (ix := 220) (t_X6_opens l d z bt n fr pos o hgs (by rw [hs40]; decide)) (by omega) (by decide) xyX6_opens xiX6_opens (Or.inl (lw_gt_of (List.mem_of_getElem? (i := 1056) (by decide +kernel)) rfl)) rfl rfl rfl (rest := []) rfl (Nat.le_of_ble_eq_true rfl) rfl (fun z12 h13 => ?_) (fun z12 h13 => ?_)
      · skip
        obtain ⟨ho47, hgo47, hK47⟩ := h13
        replace hK47 := pK_tr (pK_rf z) hK47
        refine ww_br xCC okX6_atom 26 (P := 1 = 0) (t1 := 161) (t2 := 53) (r := []) rfl (fun q => absurd q (by decide)) (fun _ => ?_)
        obtain ⟨-, t1, x1, p1, h1, ht1, hc1⟩ := hm1.resolve_left (fun w => absurd w.1 (by omega))
        refine ww_blk xCC okX6_atom 27 1 (ps := []) (pc' := 54) (lv' := [(1, .int 0), (0, .ref 0)]) (st' := [.ref 0]) (z' := z12) rfl trivial ?_
        refine ww_callVIi xCC okX6_atom 28 (ix := 227) (ihE g7 (by omega) d z12 (o + 1) (pTok bt n pos).2.2 t1 x1 p1 hgo47 h1 ht1) (by omega) (by decide) xyX6_either xiX6_either (Or.inl (lw_gt_of (List.mem_of_getElem? (i := 1044) (by decide +kernel)) rfl)) rfl rfl rfl (rest := []) rfl (Nat.le_of_ble_eq_true rfl) rfl (fun vA zA hA => ?_)
        obtain ⟨hK1, hA1⟩ := hA
        have hv5 : t1 = 1 → ∀ st, pEv (pF z) x1 st = vA :: st := fun w st => by
          rcases hA1 with ⟨-, -, q⟩ | ⟨q, -⟩
          · rw [← pEv_K hK47]; exact q st
          · omega
        replace hK1 := pK_tr hK47 hK1
        rcases hA1 with ⟨e1, hS1, -⟩ | ⟨e1, hB1⟩
        · skip
          replace hv5 := hv5 e1
          have hc2 := (hc1.resolve_left (fun w => absurd w.1 (by omega))).2
          refine ww_blk xCC okX6_atom 29 3 (ps := []) (pc' := 61) (lv' := [(1, .int vA), (0, .ref 0)]) (st' := [.int 41, .ref 0]) (z' := zA) rfl trivial ?_
          refine ww_callVIz xCC okX6_atom 32 (ix := 217) (t_X6_isSign l d zA bt n p1 hS1.1.2.2.2.1 hS1.2.1 hS1.2.2.2.1 41 (by decide)) (by omega) (by decide) xyX6_isSign xiX6_isSign (Or.inl (lw_gt_of (List.mem_of_getElem? (i := 1072) (by decide +kernel)) rfl)) rfl rfl rfl (rest := []) rfl (Nat.le_of_ble_eq_true rfl) rfl (fun z15 h16 => ?_) (fun z15 h16 => ?_)
          · skip
            rw [h16.2]
            have hs61 := h16.1
            refine ww_br xCC okX6_atom 33 (P := 1 = 0) (t1 := 67) (t2 := 71) (r := []) rfl (fun q => absurd q (by decide)) (fun _ => ?_)
            obtain ⟨-, k1, k2, k3⟩ := hc2.resolve_right (fun w => w.1 (hs61.trans (by decide)))
            refine ww_blk xCC okX6_atom 36 6 (ps := []) (pc' := 81) (lv' := [(1, .int vA), (0, .ref 0)]) (st' := []) (z' := (mPut zA 0 28 ((zA.1 0 28) - 1))) rfl trivial ?_
            rw [hS1.2.2.1]
            rw [nI_pred o]
            have hgd : gS (mPut zA 0 28 (nI o)) bt n fr p1 o := ⟨pM_K (pK_put (pK_rf zA) _ (by omega)) hS1.1, hS1.2.1, rfl, tkM_K hS1.2.2.2.1 rfl rfl rfl rfl, hS1.2.2.2.2.1, hgs.2.2.2.2.2⟩
            refine ww_blk xCC okX6_atom 42 2 (ps := []) (pc' := 85) (lv' := [(1, .int vA), (0, .ref 0)]) (st' := [.int (zA.1 0 29)]) (z' := (mPut zA 0 28 (nI o))) rfl trivial ?_
            refine ww_br xCC okX6_atom 44 (P := (zA.1 0 29) = 0) (t1 := 88) (t2 := 161) (r := []) rfl (fun c18 => ?_) (fun c18 => absurd (hgd.2.1) c18)
            refine ww_blk xCC okX6_atom 45 1 (ps := []) (pc' := 89) (lv' := [(1, .int vA), (0, .ref 0)]) (st' := [.ref 0]) (z' := (mPut zA 0 28 (nI o))) rfl trivial ?_
            refine ww_callVIv xCC okX6_atom 46 (ix := 192) (t_X6_next l d (mPut zA 0 28 (nI o)) bt n fr hgd.1 (pTok bt n p1).2.2 (pTok_le hgd.2.2.2.2.1).1 (tkM_here hgd.2.2.2.1 (by rw [hs61]; decide))) (by omega) (by decide) xyX6_next xiX6_next (Or.inl (lw_gt_of (List.mem_of_getElem? (i := 1015) (by decide +kernel)) rfl)) rfl rfl rfl (rest := []) rfl (Nat.le_of_ble_eq_true rfl) rfl (fun z19 h20 => ?_)
            have hgN89 := gS_nx hgd.1 hgd.2.1 hgd.2.2.1 h20.1 h20.2 (pTok_le hgd.2.2.2.2.1).1 hgd.2.2.2.2.2
            have hKN89 := pK_tr (pK_put hK1 _ (by omega)) (pK4_K h20.1)
            refine ww_blk xCC okX6_atom 47 1 (ps := []) (pc' := 161) (lv' := [(1, .int vA), (0, .ref 0)]) (st' := []) (z' := z19) rfl trivial ?_
            refine ww_blk xCC okX6_atom 80 1 (ps := []) (pc' := 162) (lv' := [(1, .int vA), (0, .ref 0)]) (st' := [.int vA]) (z' := z19) rfl trivial ?_
            subst xhQ
            exact ww_iret xCC okX6_atom 81 xhr rfl rfl ⟨_, rfl, ⟨hKN89, Or.inl ⟨k1, (by rw [k3]; exact hgN89), fun st => (by rw [k2]; exact hv5 st)⟩⟩⟩
          · skip
            rw [h16.2]
            have hs61 := h16.1
            refine ww_br xCC okX6_atom 33 (P := 0 = 0) (t1 := 67) (t2 := 71) (r := []) rfl (fun _ => ?_) (fun q => absurd (by decide) q)
            refine ww_blk xCC okX6_atom 34 1 (ps := []) (pc' := 68) (lv' := [(1, .int vA), (0, .ref 0)]) (st' := [.ref 0]) (z' := zA) rfl trivial ?_
            refine ww_callVIv xCC okX6_atom 35 (ix := 189) (t_X6_fail_g l d zA hS1.2.1) (by omega) (by decide) xyX6_fail xiX6_fail (Or.inl (lw_gt_of (List.mem_of_getElem? (i := 1040) (by decide +kernel)) rfl)) rfl rfl rfl (rest := []) rfl (Nat.le_of_ble_eq_true rfl) rfl (fun z23 h24 => ?_)
            rw [h24]
            have hBf : bS (mPut (mPut zA 0 29 1) 0 30 (zA.1 0 26)) (pTok bt n p1).2.1 := ⟨rfl, hS1.2.2.2.1.1⟩
            obtain ⟨-, htag, hp⟩ := hc2.resolve_left (fun w => hs61 (w.1.trans (by decide)))
            refine ww_blk xCC okX6_atom 36 6 (ps := []) (pc' := 81) (lv' := [(1, .int vA), (0, .ref 0)]) (st' := []) (z' := (mPut (mPut (mPut zA 0 29 1) 0 30 (zA.1 0 26)) 0 28 ((zA.1 0 28) - 1))) rfl trivial ?_
            refine ww_blk xCC okX6_atom 42 2 (ps := []) (pc' := 85) (lv' := [(1, .int vA), (0, .ref 0)]) (st' := [.int 1]) (z' := (mPut (mPut (mPut zA 0 29 1) 0 30 (zA.1 0 26)) 0 28 ((zA.1 0 28) - 1))) rfl trivial ?_
            refine ww_br xCC okX6_atom 44 (P := 1 = 0) (t1 := 88) (t2 := 161) (r := []) rfl (fun q => absurd q (by decide)) (fun _ => ?_)
            refine ww_blk xCC okX6_atom 80 1 (ps := []) (pc' := 162) (lv' := [(1, .int vA), (0, .ref 0)]) (st' := [.int vA]) (z' := (mPut (mPut (mPut zA 0 29 1) 0 30 (zA.1 0 26)) 0 28 ((zA.1 0 28) - 1))) rfl trivial ?_
            subst xhQ
            exact ww_iret xCC okX6_atom 81 xhr rfl rfl ⟨_, rfl, ⟨(pK_put (pK_put (pK_put hK1 _ (by omega)) _ (by omega)) _ (by omega)), Or.inr ⟨htag, (by rw [hp]; exact hBf)⟩⟩⟩
        · skip
          obtain ⟨htag, hp⟩ : tag = 2 ∧ p = p1 := by
            rcases hc1 with w | w
            · exact w.2
            · omega
          refine ww_blk xCC okX6_atom 29 3 (ps := []) (pc' := 61) (lv' := [(1, .int vA), (0, .ref 0)]) (st' := [.int 41, .ref 0]) (z' := zA) rfl trivial ?_
          refine ww_callVIi xCC okX6_atom 32 (ix := 217) (t_X6_isSign_b l d zA hB1.1 41) (by omega) (by decide) xyX6_isSign xiX6_isSign (Or.inl (lw_gt_of (List.mem_of_getElem? (i := 1072) (by decide +kernel)) rfl)) rfl rfl rfl (rest := []) rfl (Nat.le_of_ble_eq_true rfl) rfl (fun v29 z27 h28 => ?_)
          rw [h28.1, h28.2]
          refine ww_br xCC okX6_atom 33 (P := 0 = 0) (t1 := 67) (t2 := 71) (r := []) rfl (fun _ => ?_) (fun q => absurd (by decide) q)
          refine ww_blk xCC okX6_atom 34 1 (ps := []) (pc' := 68) (lv' := [(1, .int vA), (0, .ref 0)]) (st' := [.ref 0]) (z' := zA) rfl trivial ?_
          refine ww_callVIv xCC okX6_atom 35 (ix := 189) (t_X6_fail_b l d zA hB1.1) (by omega) (by decide) xyX6_fail xiX6_fail (Or.inl (lw_gt_of (List.mem_of_getElem? (i := 1040) (by decide +kernel)) rfl)) rfl rfl rfl (rest := []) rfl (Nat.le_of_ble_eq_true rfl) rfl (fun z31 h32 => ?_)
          rw [h32]
          refine ww_blk xCC okX6_atom 36 6 (ps := []) (pc' := 81) (lv' := [(1, .int vA), (0, .ref 0)]) (st' := []) (z' := (mPut zA 0 28 ((zA.1 0 28) - 1))) rfl trivial ?_
          refine ww_blk xCC okX6_atom 42 2 (ps := []) (pc' := 85) (lv' := [(1, .int vA), (0, .ref 0)]) (st' := [.int (zA.1 0 29)]) (z' := (mPut zA 0 28 ((zA.1 0 28) - 1))) rfl trivial ?_
          refine ww_br xCC okX6_atom 44 (P := (zA.1 0 29) = 0) (t1 := 88) (t2 := 161) (r := []) rfl (fun c34 => absurd c34 (by rw [hB1.1]; decide)) (fun c34 => ?_)
          refine ww_blk xCC okX6_atom 80 1 (ps := []) (pc' := 162) (lv' := [(1, .int vA), (0, .ref 0)]) (st' := [.int vA]) (z' := (mPut zA 0 28 ((zA.1 0 28) - 1))) rfl trivial ?_
          subst xhQ
          exact ww_iret xCC okX6_atom 81 xhr rfl rfl ⟨_, rfl, ⟨(pK_put hK1 _ (by omega)), Or.inr ⟨htag, (by rw [hp]; exact hB1)⟩⟩⟩
      · skip
        obtain ⟨ho47, hBo47, hK47⟩ := h13
        replace hK47 := pK_tr (pK_rf z) hK47
        obtain ⟨-, htag, hp⟩ := hm1.resolve_right (fun w => absurd w.1 (by omega))
        refine ww_br xCC okX6_atom 26 (P := 0 = 0) (t1 := 161) (t2 := 53) (r := []) rfl (fun _ => ?_) (fun q => absurd (by decide) q)
        refine ww_blk xCC okX6_atom 80 1 (ps := []) (pc' := 162) (lv' := [(1, .int 0), (0, .ref 0)]) (st' := [.int 0]) (z' := z12) rfl trivial ?_
        subst xhQ
        exact ww_iret xCC okX6_atom 81 xhr rfl rfl ⟨_, rfl, ⟨hK47, Or.inr ⟨htag, (by rw [hp]; exact hBo47)⟩⟩⟩
    · skip
      rw [h10.2]
      have hs40 := h10.1
      refine ww_br xCC okX6_atom 23 (P := 0 = 0) (t1 := 95) (t2 := 46) (r := []) rfl (fun _ => ?_) (fun q => absurd (by decide) q)
      refine ww_blk xCC okX6_atom 48 2 (ps := []) (pc' := 99) (lv' := [(1, .int 0), (0, .ref 0)]) (st' := [.int (z.1 0 29)]) (z' := z) rfl trivial ?_
      refine ww_br xCC okX6_atom 50 (P := (z.1 0 29) = 0) (t1 := 102) (t2 := 123) (r := []) rfl (fun c37 => ?_) (fun c37 => absurd (hgs.2.1) c37)
      refine ww_blk xCC okX6_atom 51 3 (ps := []) (pc' := 107) (lv' := [(1, .int 0), (0, .ref 0)]) (st' := [.int 2, .int (z.1 0 25)]) (z' := z) rfl trivial ?_
      refine ww_br xCC okX6_atom 54 (P := (z.1 0 25) = 2) (t1 := 110) (t2 := 123) (r := []) rfl (fun c38 => ?_) (fun c38 => ?_)
      · skip
        have hnum := tkM_num hgs.2.2.2.1 c38
        have hm7 := (hm.resolve_left (fun w => hs5 (w.1.trans (by decide)))).2
        obtain ⟨g7, rfl, h7⟩ := pG_one hm7 ht
        obtain ⟨k1, k2, k3⟩ : tag = 1 ∧ cs = [(pTok bt n pos).1] ∧ p = (pTok bt n pos).2.2 := by
          have q9 := hnum.1
          rcases h7 with w | w | w
          · exact w.2
          · omega
          · omega
        refine ww_blk xCC okX6_atom 55 5 (ps := []) (pc' := 117) (lv' := [(1, .int ((z.2.1 0 27).toInt32)), (0, .ref 0)]) (st' := [.ref 0]) (z' := z) rfl trivial ?_
        refine ww_callVIv xCC okX6_atom 60 (ix := 192) (t_X6_next l d z bt n fr hgs.1 (pTok bt n pos).2.2 (pTok_le hgs.2.2.2.2.1).1 (tkM_here hgs.2.2.2.1 (by have := hnum.1; omega))) (by omega) (by decide) xyX6_next xiX6_next (Or.inl (lw_gt_of (List.mem_of_getElem? (i := 1015) (by decide +kernel)) rfl)) rfl rfl rfl (rest := []) rfl (Nat.le_of_ble_eq_true rfl) rfl (fun z39 h40 => ?_)
        have hgN117 := gS_nx hgs.1 hgs.2.1 hgs.2.2.1 h40.1 h40.2 (pTok_le hgs.2.2.2.2.1).1 hgs.2.2.2.2.2
        have hKN117 := pK_tr (pK_rf z) (pK4_K h40.1)
        refine ww_blk xCC okX6_atom 61 1 (ps := []) (pc' := 161) (lv' := [(1, .int ((z.2.1 0 27).toInt32)), (0, .ref 0)]) (st' := []) (z' := z39) rfl trivial ?_
        refine ww_blk xCC okX6_atom 80 1 (ps := []) (pc' := 162) (lv' := [(1, .int ((z.2.1 0 27).toInt32)), (0, .ref 0)]) (st' := [.int ((z.2.1 0 27).toInt32)]) (z' := z39) rfl trivial ?_
        subst xhQ
        exact ww_iret xCC okX6_atom 81 xhr rfl rfl ⟨_, rfl, ⟨hKN117, Or.inl ⟨k1, (by rw [k3]; exact hgN117), fun st => (by rw [k2, hnum.2, lN_i]; show pStep _ _ _ = _; unfold pStep; rw [if_pos (by have := hnum.1; omega), if_pos hnum.1])⟩⟩⟩
      · skip
        have hn0 := c38
        refine ww_blk xCC okX6_atom 62 2 (ps := []) (pc' := 127) (lv' := [(1, .int 0), (0, .ref 0)]) (st' := [.int (z.1 0 29)]) (z' := z) rfl trivial ?_
        refine ww_br xCC okX6_atom 64 (P := (z.1 0 29) = 0) (t1 := 130) (t2 := 157) (r := []) rfl (fun c42 => ?_) (fun c42 => absurd (hgs.2.1) c42)
        refine ww_blk xCC okX6_atom 65 3 (ps := []) (pc' := 135) (lv' := [(1, .int 0), (0, .ref 0)]) (st' := [.int 1, .int (z.1 0 25)]) (z' := z) rfl trivial ?_
        refine ww_br xCC okX6_atom 68 (P := (z.1 0 25) = 1) (t1 := 138) (t2 := 157) (r := []) rfl (fun c43 => ?_) (fun c43 => ?_)
        · skip
          have hw1 := c43
          have hm7 := (hm.resolve_left (fun w => hs5 (w.1.trans (by decide)))).2
          obtain ⟨g7, rfl, h7⟩ := pG_one hm7 ht
          have hwd := tkM_wd hgs.2.2.2.2.1 hgs.2.2.2.1 hw1
          refine ww_blk xCC okX6_atom 69 1 (ps := []) (pc' := 139) (lv' := [(1, .int 0), (0, .ref 0)]) (st' := [.ref 0]) (z' := z) rfl trivial ?_
          refine ww_callVIi xCC okX6_atom 70 (ix := 230) (t_X6_name l d z bt n fr pos o hgs hw1) (by omega) (by decide) xyX6_name xiX6_name (Or.inl (lw_gt_of (List.mem_of_getElem? (i := 1076) (by decide +kernel)) rfl)) rfl rfl rfl (rest := []) rfl (Nat.le_of_ble_eq_true rfl) rfl (fun vA zA hA => ?_)
          rcases hA with ⟨q1, q2, q3, q4⟩ | ⟨q1, hB1, hK1⟩
          · skip
            obtain ⟨k1, k2, k3⟩ : tag = 1 ∧ cs = [(pTok bt n pos).1] ∧ p = (pTok bt n pos).2.2 := by
              rcases h7 with w | w | w
              · exact w.2
              · exact absurd w.1 hwd.2
              · omega
            have hgz : gS zA bt n fr pos o := by rw [q4]; exact hgs
            have hK1 : pK z zA := by rw [q4]; exact pK_rf z
            refine ww_blk xCC okX6_atom 71 3 (ps := []) (pc' := 147) (lv' := [(1, .int vA), (0, .ref 0)]) (st' := [.int (zA.1 0 29)]) (z' := zA) rfl trivial ?_
            refine ww_br xCC okX6_atom 74 (P := (zA.1 0 29) = 0) (t1 := 150) (t2 := 161) (r := []) rfl (fun c44 => ?_) (fun c44 => absurd (hgz.2.1) c44)
            refine ww_blk xCC okX6_atom 75 1 (ps := []) (pc' := 151) (lv' := [(1, .int vA), (0, .ref 0)]) (st' := [.ref 0]) (z' := zA) rfl trivial ?_
            refine ww_callVIv xCC okX6_atom 76 (ix := 192) (t_X6_next l d zA bt n fr hgz.1 (pTok bt n pos).2.2 (pTok_le hgz.2.2.2.2.1).1 (tkM_here hgz.2.2.2.1 (by omega))) (by omega) (by decide) xyX6_next xiX6_next (Or.inl (lw_gt_of (List.mem_of_getElem? (i := 1015) (by decide +kernel)) rfl)) rfl rfl rfl (rest := []) rfl (Nat.le_of_ble_eq_true rfl) rfl (fun z45 h46 => ?_)
            have hgN151 := gS_nx hgz.1 hgz.2.1 hgz.2.2.1 h46.1 h46.2 (pTok_le hgz.2.2.2.2.1).1 hgz.2.2.2.2.2
            have hKN151 := pK_tr hK1 (pK4_K h46.1)
            refine ww_blk xCC okX6_atom 77 1 (ps := []) (pc' := 161) (lv' := [(1, .int vA), (0, .ref 0)]) (st' := []) (z' := z45) rfl trivial ?_
            refine ww_blk xCC okX6_atom 80 1 (ps := []) (pc' := 162) (lv' := [(1, .int vA), (0, .ref 0)]) (st' := [.int vA]) (z' := z45) rfl trivial ?_
            subst xhQ
            exact ww_iret xCC okX6_atom 81 xhr rfl rfl ⟨_, rfl, ⟨hKN151, Or.inl ⟨k1, (by rw [k3]; exact hgN151), fun st => (by rw [k2, q3]; show pStep _ _ _ = _; unfold pStep; rw [if_pos q2, if_neg (by omega)])⟩⟩⟩
          · skip
            obtain ⟨htag, hp⟩ : tag = 2 ∧ p = (pTok bt n pos).2.1 := by
              rcases h7 with w | w | w
              · omega
              · exact absurd w.1 hwd.2
              · exact w.2.2
            refine ww_blk xCC okX6_atom 71 3 (ps := []) (pc' := 147) (lv' := [(1, .int vA), (0, .ref 0)]) (st' := [.int (zA.1 0 29)]) (z' := zA) rfl trivial ?_
            refine ww_br xCC okX6_atom 74 (P := (zA.1 0 29) = 0) (t1 := 150) (t2 := 161) (r := []) rfl (fun c48 => absurd c48 (by rw [hB1.1]; decide)) (fun c48 => ?_)
            refine ww_blk xCC okX6_atom 80 1 (ps := []) (pc' := 162) (lv' := [(1, .int vA), (0, .ref 0)]) (st' := [.int vA]) (z' := zA) rfl trivial ?_
            subst xhQ
            exact ww_iret xCC okX6_atom 81 xhr rfl rfl ⟨_, rfl, ⟨hK1, Or.inr ⟨htag, (by rw [hp]; exact hB1)⟩⟩⟩
        · skip
          have hw0 := c43
          have hm7 := (hm.resolve_left (fun w => hs5 (w.1.trans (by decide)))).2
          obtain ⟨g7, rfl, h7⟩ := pG_one hm7 ht
          have hnon := tkM_non hgs.2.2.2.1 hw0 hn0
          obtain ⟨htag, hp⟩ : tag = 2 ∧ p = (pTok bt n pos).2.1 := by
            rcases h7 with w | w | w
            · omega
            · exact absurd (w.1.trans (by decide)) hs40
            · exact w.2.2
          refine ww_blk xCC okX6_atom 78 1 (ps := []) (pc' := 158) (lv' := [(1, .int 0), (0, .ref 0)]) (st' := [.ref 0]) (z' := z) rfl trivial ?_
          refine ww_callVIv xCC okX6_atom 79 (ix := 189) (t_X6_fail_g l d z hgs.2.1) (by omega) (by decide) xyX6_fail xiX6_fail (Or.inl (lw_gt_of (List.mem_of_getElem? (i := 1040) (by decide +kernel)) rfl)) rfl rfl rfl (rest := []) rfl (Nat.le_of_ble_eq_true rfl) rfl (fun z49 h50 => ?_)
          rw [h50]
          have hBf : bS (mPut (mPut z 0 29 1) 0 30 (z.1 0 26)) (pTok bt n pos).2.1 := ⟨rfl, hgs.2.2.2.1.1⟩
          refine ww_blk xCC okX6_atom 80 1 (ps := []) (pc' := 162) (lv' := [(1, .int 0), (0, .ref 0)]) (st' := [.int 0]) (z' := (mPut (mPut z 0 29 1) 0 30 (z.1 0 26))) rfl trivial ?_
          subst xhQ
          exact ww_iret xCC okX6_atom 81 xhr rfl rfl ⟨_, rfl, ⟨(pK_put (pK_put (pK_rf z) _ (by omega)) _ (by omega)), Or.inr ⟨htag, (by rw [hp]; exact hBf)⟩⟩⟩
