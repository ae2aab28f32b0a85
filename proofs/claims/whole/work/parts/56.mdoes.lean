/-! the model's does -/
set_option maxHeartbeats 4000000 in
set_option maxRecDepth 20000 in
theorem t_X6_does (l : Launch) (d : Nat) (x y : Int32) (z : xMem) (r : sR) (cnt : Nat) (tc : Nat → sTc) (hr : RM z r) (hw : sW r cnt) (ht : TM z cnt tc) : XMi l (d + 312) yX6_does cX6_does 3 (some .int) shM [.ref 0, .int x, .int y] z (fun v z' => (¬ (0 ≤ x.toInt ∧ x.toInt < r 7 4 ∧ 0 ≤ y.toInt ∧ y.toInt ≤ 9) ∧ v = -2 ∧ KM z z') ∨ (∃ p e, x = nI p ∧ y = nI e ∧ p < r 7 4 ∧ e < 10 ∧ ((sCan tc r p e = false ∧ v = -3 ∧ KM z z') ∨ (sCan tc r p e = true ∧ v = nI (sDone tc r p e 7 0) ∧ RM z' (sDone tc r p e) ∧ KO z z')))) := by
  refine XM.of (by decide) (Nat.le_of_ble_eq_true rfl) (fun xp xe xs xm xar xbl xme xc xD xcs xad xAA xCC xhr => ?_)
  generalize xhQ : MQ xbl _ xar xs 0 0 xAA = xQ
  show ww xp l xe (xRm (d + 312)) xs xm xar xbl xme xc 3 xD xcs xad shM xAA xQ 0 [(0, .ref 0), (1, .int x), (2, .int y)] [] z
  have hb := hw.1
  have h74 : r 7 4 ≤ 4 := hw.2.2.2.2.2.2.1
  have h15 : z.1 0 15 = nI (r 7 4) := hr.2.2.2.2.2.2.2.2.2.2.2.1
  refine ww_blk xCC okX6_does 0 2 (ps := []) (pc' := 2) (lv' := [(0, .ref 0), (1, .int x), (2, .int y)]) (st' := [.int x, .ref 0]) (z' := z) rfl trivial ?_
  refine ww_callVIz xCC okX6_does 2 (ix := 97) (t_X6_isOne l (d + 310) x z (r 7 4) h15 h74) (by omega) (by decide) xyX6_isOne xiX6_isOne (Or.inl (lw_gt_of (List.mem_of_getElem? (i := 972) (by decide +kernel)) rfl)) rfl rfl rfl (rest := []) rfl (Nat.le_of_ble_eq_true rfl) rfl (fun zO hO => ?_) (fun zO hO => ?_)
  · skip
    rw [hO.2]
    obtain ⟨⟨hOa, hOb⟩, -⟩ := hO
    obtain ⟨p, hp, rfl⟩ := sNN (x := x) (n := r 7 4) hOa (by omega)
    refine ww_br xCC okX6_does 3 (P := 1 = 0) (t1 := 15) (t2 := 8) (r := []) rfl (fun q => absurd q (by decide)) (fun _ => ?_)
    refine ww_blk xCC okX6_does 4 1 (ps := []) (pc' := 9) (lv' := [(0, .ref 0), (1, .int (nI p)), (2, .int y)]) (st' := [.int y]) (z' := z) rfl trivial ?_
    refine ww_callSNz xCC okX6_does 5 (ix := 94) (t_X6_isDeed l d y _) (by omega) (by decide) xyX6_isDeed xiX6_isDeed (Or.inl (lw_gt_of (List.mem_of_getElem? (i := 968) (by decide +kernel)) rfl)) rfl (rest := []) rfl (Nat.le_of_ble_eq_true rfl) rfl (fun z2 h3 => ?_) (fun z2 h3 => ?_)
    · skip
      have h3 : 0 ≤ y.toInt ∧ y.toInt ≤ 9 := h3
      obtain ⟨e, he, rfl⟩ := sNN (x := y) (n := 10) h3.1 (by omega)
      refine ww_br xCC okX6_does 6 (P := 1 = 0) (t1 := 15) (t2 := 18) (r := []) rfl (fun q => absurd q (by decide)) (fun _ => ?_)
      refine ww_blk xCC okX6_does 9 3 (ps := []) (pc' := 21) (lv' := [(0, .ref 0), (1, .int (nI p)), (2, .int (nI e))]) (st' := [.int (nI e), .int (nI p), .ref 0]) (z' := z) rfl trivial ?_
      refine ww_callVIz xCC okX6_does 12 (ix := 279) (t_X6_can l d p e z r cnt tc hr hw ht (by omega) (by omega)) (by omega) (by decide) xyX6_can xiX6_can (Or.inl (lw_gt_of (List.mem_of_getElem? (i := 988) (by decide +kernel)) rfl)) rfl rfl rfl (rest := []) rfl (Nat.le_of_ble_eq_true rfl) rfl (fun zS5 hS5 => ?_) (fun zS5 hS5 => ?_)
      · skip
        have hrS5 := RM_K hS5.2 hr
        have htS5 := TM_K hS5.2 ht
        have hKS5 := KM_tr (KM_rf z) hS5.2
        refine ww_br xCC okX6_does 13 (P := 1 = 0) (t1 := 27) (t2 := 30) (r := []) rfl (fun q => absurd q (by decide)) (fun _ => ?_)
        refine ww_blk xCC okX6_does 16 3 (ps := []) (pc' := 33) (lv' := [(0, .ref 0), (1, .int (nI p)), (2, .int (nI e))]) (st' := [.int (nI e), .int (nI p), .ref 0]) (z' := zS5) rfl trivial ?_
        refine ww_callVIv xCC okX6_does 19 (ix := 283) (t_X6_done l d p e zS5 r cnt tc hrS5 hw htS5 (by omega) he) (by omega) (by decide) xyX6_done xiX6_done (Or.inl (lw_gt_of (List.mem_of_getElem? (i := 1125) (by decide +kernel)) rfl)) rfl rfl rfl (rest := []) rfl (Nat.le_of_ble_eq_true rfl) rfl (fun zD hD => ?_)
        refine ww_blk xCC okX6_does 20 2 (ps := []) (pc' := 40) (lv' := [(0, .ref 0), (1, .int (nI p)), (2, .int (nI e))]) (st' := [.int (zD.1 0 9)]) (z' := zD) rfl trivial ?_
        rw [hD.1.2.2.2.2.2.2.2.1]
        subst xhQ
        exact ww_iret xCC okX6_does 22 xhr rfl rfl ⟨_, rfl, (Or.inr ⟨p, e, rfl, rfl, hp, he, Or.inr ⟨hS5.1, rfl, hD.1, KO_tr (KO_of hKS5) hD.2⟩⟩)⟩
      · skip
        have hrS5 := RM_K hS5.2 hr
        have htS5 := TM_K hS5.2 ht
        have hKS5 := KM_tr (KM_rf z) hS5.2
        refine ww_br xCC okX6_does 13 (P := 0 = 0) (t1 := 27) (t2 := 30) (r := []) rfl (fun _ => ?_) (fun q => absurd (by decide) q)
        refine ww_blk xCC okX6_does 14 1 (ps := []) (pc' := 29) (lv' := [(0, .ref 0), (1, .int (nI p)), (2, .int (nI e))]) (st' := [.int (-3)]) (z' := zS5) rfl trivial ?_
        subst xhQ
        exact ww_iret xCC okX6_does 15 xhr rfl rfl ⟨_, rfl, (Or.inr ⟨p, e, rfl, rfl, hp, he, Or.inl ⟨hS5.1, rfl, hKS5⟩⟩)⟩
    · skip
      have h3 : ¬ (0 ≤ y.toInt ∧ y.toInt ≤ 9) := h3
      refine ww_br xCC okX6_does 6 (P := 0 = 0) (t1 := 15) (t2 := 18) (r := []) rfl (fun _ => ?_) (fun q => absurd (by decide) q)
      refine ww_blk xCC okX6_does 7 1 (ps := []) (pc' := 17) (lv' := [(0, .ref 0), (1, .int (nI p)), (2, .int y)]) (st' := [.int (-2)]) (z' := z) rfl trivial ?_
      subst xhQ
      exact ww_iret xCC okX6_does 8 xhr rfl rfl ⟨_, rfl, (Or.inl ⟨(by omega), rfl, KM_rf z⟩)⟩
  · skip
    rw [hO.2]
    replace hO := hO.1
    refine ww_br xCC okX6_does 3 (P := 0 = 0) (t1 := 15) (t2 := 8) (r := []) rfl (fun _ => ?_) (fun q => absurd (by decide) q)
    refine ww_blk xCC okX6_does 7 1 (ps := []) (pc' := 17) (lv' := [(0, .ref 0), (1, .int x), (2, .int y)]) (st' := [.int (-2)]) (z' := z) rfl trivial ?_
    subst xhQ
    exact ww_iret xCC okX6_does 8 xhr rfl rfl ⟨_, rfl, (Or.inl ⟨(by omega), rfl, KM_rf z⟩)⟩
