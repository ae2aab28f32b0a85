/-! the model's does, asks -/
def sAsk (tc : Nat → sTc) (r : sR) (p e u : Nat) : Int32 := if u = 0 then (if sDares tc r p e = true then 1 else 0) else if u = 1 then sCosts tc r p e else sSits tc r p e
set_option maxHeartbeats 4000000 in
set_option maxRecDepth 20000 in
theorem t_X6_does (l : Launch) (d : Nat) (x y : Int32) (z : xMem) (r : sR) (cnt : Nat) (tc : Nat → sTc) (hr : RM z r) (hw : sW r cnt) (ht : TM z cnt tc) : XMi l (d + 312) yX6_does cX6_does 3 (some .int) shM [.ref 0, .int x, .int y] z (fun v z' => (¬ (0 ≤ x.toInt ∧ x.toInt < r 7 4 ∧ 0 ≤ y.toInt ∧ y.toInt ≤ 9) ∧ v = -2 ∧ KM z z') ∨ (∃ p e, x = nI p ∧ y = nI e ∧ p < r 7 4 ∧ e < 10 ∧ ((sCan tc r p e = false ∧ v = -3 ∧ KM z z') ∨ (sCan tc r p e = true ∧ v = nI (sDone tc r p e 7 0) ∧ RM z' (sDone tc r p e) ∧ KO z z')))) := by
  refine XM.of (by decide) (Nat.le_of_ble_eq_true rfl) (fun xp xe xs xm xar xbl xme xc xD xcs xad xAA xCC xhr => ?_)
  generalize xhQ : MQ xbl _ xar xs 0 0 xAA = xQ
  show ww xp l xe (xRm (d + 312)) xs xm xar xbl xme xc 3 xD xcs xad shM xAA xQ 0 [(0, .ref 0), (1, .int x), (2, .int y)] [] z
  have hb := hw.1
  have h74 : r 7 4 ≤ 4 := hw.2.2.2.2.2.2.1
  have h15 : z.1 0 15 = nI (r 7 4) := hr.2.2.2.2.2.2.2.2.2.2.2.1
  refine ww_blk xCC okX6_does 0 2 (ps := []) (pc' := 2) (lv' := [(0, .ref 0), (1, .int x), (2, .int y)]) (st' := [.int x, .ref 0]) (z' := z) rfl trivial ?_
  refine ww_callVIz xCC okX6_does 2 (ix := 97) (t_X6_isOne l (d + 310) x z (r 7 4) h15 h74) (by omega) (by decide) xyX6_isOne xiX6_isOne (Or.inl (lw_gt_of (List.mem_of_getElem? (i := 976) (by decide +kernel)) rfl)) rfl rfl rfl (rest := []) rfl (Nat.le_of_ble_eq_true rfl) rfl (fun zO hO => ?_) (fun zO hO => ?_)
  · skip
    rw [hO.2]
    obtain ⟨⟨hOa, hOb⟩, -⟩ := hO
    obtain ⟨p, hp, rfl⟩ := sNN (x := x) (n := r 7 4) hOa (by omega)
    refine ww_br xCC okX6_does 3 (P := 1 = 0) (t1 := 15) (t2 := 8) (r := []) rfl (fun q => absurd q (by decide)) (fun _ => ?_)
    refine ww_blk xCC okX6_does 4 1 (ps := []) (pc' := 9) (lv' := [(0, .ref 0), (1, .int (nI p)), (2, .int y)]) (st' := [.int y]) (z' := z) rfl trivial ?_
    refine ww_callSNz xCC okX6_does 5 (ix := 94) (t_X6_isDeed l d y _) (by omega) (by decide) xyX6_isDeed xiX6_isDeed (Or.inl (lw_gt_of (List.mem_of_getElem? (i := 972) (by decide +kernel)) rfl)) rfl (rest := []) rfl (Nat.le_of_ble_eq_true rfl) rfl (fun z2 h3 => ?_) (fun z2 h3 => ?_)
    · skip
      have h3 : 0 ≤ y.toInt ∧ y.toInt ≤ 9 := h3
      obtain ⟨e, he, rfl⟩ := sNN (x := y) (n := 10) h3.1 (by omega)
      refine ww_br xCC okX6_does 6 (P := 1 = 0) (t1 := 15) (t2 := 18) (r := []) rfl (fun q => absurd q (by decide)) (fun _ => ?_)
      refine ww_blk xCC okX6_does 9 3 (ps := []) (pc' := 21) (lv' := [(0, .ref 0), (1, .int (nI p)), (2, .int (nI e))]) (st' := [.int (nI e), .int (nI p), .ref 0]) (z' := z) rfl trivial ?_
      refine ww_callVIz xCC okX6_does 12 (ix := 279) (t_X6_can l d p e z r cnt tc hr hw ht (by omega) (by omega)) (by omega) (by decide) xyX6_can xiX6_can (Or.inl (lw_gt_of (List.mem_of_getElem? (i := 992) (by decide +kernel)) rfl)) rfl rfl rfl (rest := []) rfl (Nat.le_of_ble_eq_true rfl) rfl (fun zS5 hS5 => ?_) (fun zS5 hS5 => ?_)
      · skip
        have hrS5 := RM_K hS5.2 hr
        have htS5 := TM_K hS5.2 ht
        have hKS5 := KM_tr (KM_rf z) hS5.2
        refine ww_br xCC okX6_does 13 (P := 1 = 0) (t1 := 27) (t2 := 30) (r := []) rfl (fun q => absurd q (by decide)) (fun _ => ?_)
        refine ww_blk xCC okX6_does 16 3 (ps := []) (pc' := 33) (lv' := [(0, .ref 0), (1, .int (nI p)), (2, .int (nI e))]) (st' := [.int (nI e), .int (nI p), .ref 0]) (z' := zS5) rfl trivial ?_
        refine ww_callVIv xCC okX6_does 19 (ix := 283) (t_X6_done l d p e zS5 r cnt tc hrS5 hw htS5 (by omega) he) (by omega) (by decide) xyX6_done xiX6_done (Or.inl (lw_gt_of (List.mem_of_getElem? (i := 1129) (by decide +kernel)) rfl)) rfl rfl rfl (rest := []) rfl (Nat.le_of_ble_eq_true rfl) rfl (fun zD hD => ?_)
        refine ww_blk xCC okX6_does 20 2 (ps := []) (pc' := 40) (lv' := [(0, .ref 0), (1, .int (nI p)), (2, .int (nI e))]) (st' := [.int (zD.1 0 9)]) (z' := zD) rfl trivial ?_
        rw [hD.1.2.2.2.2.2.2.2.1]
        subst xhQ
        exact ww_iret xCC okX6_does 22 xhr rfl rfl ⟨_, rfl, (Or.inr ⟨p, e, rfl, rfl, hp, he, Or.inr ⟨hS5.1, rfl, hD.1, KO_tr (KO_of hKS5) hD.2⟩⟩)⟩
      · skip
        have hrS5 := RM_K hS5.2 hr
        have htS5 := TM_K hS5.2 ht
        have hKS5 := KM_tr (KM_rf z) hS5.2
        refine ww_br xCC okX6_does 13 (P := 0 = 0) (t1 := 27) (t2 := 30) (r := []) rfl (fun _ => ?_) (fun q => absurd (by decide) q)
        refine ww_blk xCC okX6_does 14 1 (ps := []) (pc' := 29) (lv' := [(0, .ref 0), (1, .int (nI p)), (2, .int (nI e))]) (st' := [.int (-3)]) (z' := zS5) rfl trivial ?_
        subst xhQ
        exact ww_iret xCC okX6_does 15 xhr rfl rfl ⟨_, rfl, (Or.inr ⟨p, e, rfl, rfl, hp, he, Or.inl ⟨hS5.1, rfl, hKS5⟩⟩)⟩
    · skip
      have h3 : ¬ (0 ≤ y.toInt ∧ y.toInt ≤ 9) := h3
      refine ww_br xCC okX6_does 6 (P := 0 = 0) (t1 := 15) (t2 := 18) (r := []) rfl (fun _ => ?_) (fun q => absurd (by decide) q)
      refine ww_blk xCC okX6_does 7 1 (ps := []) (pc' := 17) (lv' := [(0, .ref 0), (1, .int (nI p)), (2, .int y)]) (st' := [.int (-2)]) (z' := z) rfl trivial ?_
      subst xhQ
      exact ww_iret xCC okX6_does 8 xhr rfl rfl ⟨_, rfl, (Or.inl ⟨(by omega), rfl, KM_rf z⟩)⟩
  · skip
    rw [hO.2]
    replace hO := hO.1
    refine ww_br xCC okX6_does 3 (P := 0 = 0) (t1 := 15) (t2 := 8) (r := []) rfl (fun _ => ?_) (fun q => absurd (by decide) q)
    refine ww_blk xCC okX6_does 7 1 (ps := []) (pc' := 17) (lv' := [(0, .ref 0), (1, .int x), (2, .int y)]) (st' := [.int (-2)]) (z' := z) rfl trivial ?_
    subst xhQ
    exact ww_iret xCC okX6_does 8 xhr rfl rfl ⟨_, rfl, (Or.inl ⟨(by omega), rfl, KM_rf z⟩)⟩

set_option maxHeartbeats 4000000 in
set_option maxRecDepth 20000 in
theorem t_X6_asks (l : Launch) (d : Nat) (x y w : Int32) (z : xMem) (r : sR) (cnt : Nat) (tc : Nat → sTc) (hr : RM z r) (hw : sW r cnt) (ht : TM z cnt tc) : XMi l (d + 312) yX6_asks cX6_asks 4 (some .int) shM [.ref 0, .int x, .int y, .int w] z (fun v z' => KM z z' ∧ ((¬ (0 ≤ x.toInt ∧ x.toInt < r 7 4 ∧ 0 ≤ y.toInt ∧ y.toInt ≤ 9 ∧ 0 ≤ w.toInt ∧ w.toInt ≤ 2) ∧ v = -2) ∨ (∃ p e u, x = nI p ∧ y = nI e ∧ w = nI u ∧ p < r 7 4 ∧ e < 10 ∧ u < 3 ∧ v = sAsk tc r p e u))) := by
  refine XM.of (by decide) (Nat.le_of_ble_eq_true rfl) (fun xp xe xs xm xar xbl xme xc xD xcs xad xAA xCC xhr => ?_)
  generalize xhQ : MQ xbl _ xar xs 0 0 xAA = xQ
  show ww xp l xe (xRm (d + 312)) xs xm xar xbl xme xc 4 xD xcs xad shM xAA xQ 0 [(0, .ref 0), (1, .int x), (2, .int y), (3, .int w)] [] z
  have hb := hw.1
  have h74 : r 7 4 ≤ 4 := hw.2.2.2.2.2.2.1
  have h15 : z.1 0 15 = nI (r 7 4) := hr.2.2.2.2.2.2.2.2.2.2.2.1
  refine ww_blk xCC okX6_asks 0 2 (ps := []) (pc' := 2) (lv' := [(0, .ref 0), (1, .int x), (2, .int y), (3, .int w)]) (st' := [.int x, .ref 0]) (z' := z) rfl trivial ?_
  refine ww_callVIz xCC okX6_asks 2 (ix := 97) (t_X6_isOne l (d + 310) x z (r 7 4) h15 h74) (by omega) (by decide) xyX6_isOne xiX6_isOne (Or.inl (lw_gt_of (List.mem_of_getElem? (i := 976) (by decide +kernel)) rfl)) rfl rfl rfl (rest := []) rfl (Nat.le_of_ble_eq_true rfl) rfl (fun zO hO => ?_) (fun zO hO => ?_)
  · skip
    rw [hO.2]
    obtain ⟨⟨hOa, hOb⟩, -⟩ := hO
    obtain ⟨p, hp, rfl⟩ := sNN (x := x) (n := r 7 4) hOa (by omega)
    refine ww_br xCC okX6_asks 3 (P := 1 = 0) (t1 := 27) (t2 := 8) (r := []) rfl (fun q => absurd q (by decide)) (fun _ => ?_)
    refine ww_blk xCC okX6_asks 4 1 (ps := []) (pc' := 9) (lv' := [(0, .ref 0), (1, .int (nI p)), (2, .int y), (3, .int w)]) (st' := [.int y]) (z' := z) rfl trivial ?_
    refine ww_callSNz xCC okX6_asks 5 (ix := 94) (t_X6_isDeed l d y _) (by omega) (by decide) xyX6_isDeed xiX6_isDeed (Or.inl (lw_gt_of (List.mem_of_getElem? (i := 972) (by decide +kernel)) rfl)) rfl (rest := []) rfl (Nat.le_of_ble_eq_true rfl) rfl (fun z2 h3 => ?_) (fun z2 h3 => ?_)
    · skip
      have h3 : 0 ≤ y.toInt ∧ y.toInt ≤ 9 := h3
      obtain ⟨e, he, rfl⟩ := sNN (x := y) (n := 10) h3.1 (by omega)
      refine ww_br xCC okX6_asks 6 (P := 1 = 0) (t1 := 27) (t2 := 15) (r := []) rfl (fun q => absurd q (by decide)) (fun _ => ?_)
      refine ww_blk xCC okX6_asks 7 4 (ps := []) (pc' := 21) (lv' := [(0, .ref 0), (1, .int (nI p)), (2, .int (nI e)), (3, .int w)]) (st' := [.long 2, .long 0, .long w.toInt64]) (z' := z) rfl trivial ?_
      refine ww_callSNz xCC okX6_asks 11 (ix := 82) (t_X6_in l d w.toInt64 0 2 w.toInt 0 2 (Int32.toInt_toInt64 _) rfl rfl  _) (by omega) (by decide) xyX6_in xiX6_in (Or.inl (lw_gt_of (List.mem_of_getElem? (i := 962) (by decide +kernel)) rfl)) rfl (rest := []) rfl (Nat.le_of_ble_eq_true rfl) rfl (fun z5 h6 => ?_) (fun z5 h6 => ?_)
      · skip
        have h6 : 0 ≤ w.toInt ∧ w.toInt ≤ 2 := h6
        obtain ⟨u, hu, rfl⟩ := sNN (x := w) (n := 3) h6.1 (by omega)
        refine ww_br xCC okX6_asks 12 (P := 1 = 0) (t1 := 27) (t2 := 30) (r := []) rfl (fun q => absurd q (by decide)) (fun _ => ?_)
        refine ww_blk xCC okX6_asks 15 1 (ps := []) (pc' := 31) (lv' := [(0, .ref 0), (1, .int (nI p)), (2, .int (nI e)), (3, .int (nI u))]) (st' := [.int (nI u)]) (z' := z) rfl trivial ?_
        refine ww_br xCC okX6_asks 16 (P := (nI u) = 0) (t1 := 34) (t2 := 51) (r := []) rfl (fun c8 => ?_) (fun c8 => ?_)
        · skip
          replace c8 : u = 0 := (sEQ (a := u) (b := 0) (by omega) (by omega)).mp c8
          refine ww_blk xCC okX6_asks 17 3 (ps := []) (pc' := 37) (lv' := [(0, .ref 0), (1, .int (nI p)), (2, .int (nI e)), (3, .int (nI u))]) (st' := [.int (nI e), .int (nI p), .ref 0]) (z' := z) rfl trivial ?_
          refine ww_callVIz xCC okX6_asks 20 (ix := 270) (t_X6_dares l d p e z r cnt tc hr hw ht (by omega) (by omega)) (by omega) (by decide) xyX6_dares xiX6_dares (Or.inl (lw_gt_of (List.mem_of_getElem? (i := 996) (by decide +kernel)) rfl)) rfl rfl rfl (rest := []) rfl (Nat.le_of_ble_eq_true rfl) rfl (fun zS9 hS9 => ?_) (fun zS9 hS9 => ?_)
          · skip
            have hrS9 := RM_K hS9.2 hr
            have htS9 := TM_K hS9.2 ht
            have hKS9 := KM_tr (KM_rf z) hS9.2
            refine ww_br xCC okX6_asks 21 (P := 1 = 0) (t1 := 47) (t2 := 43) (r := []) rfl (fun q => absurd q (by decide)) (fun _ => ?_)
            refine ww_blk xCC okX6_asks 22 2 (ps := []) (pc' := 71) (lv' := [(0, .ref 0), (1, .int (nI p)), (2, .int (nI e)), (3, .int (nI u))]) (st' := [.int 1]) (z' := zS9) rfl trivial ?_
            subst xhQ
            exact ww_iret xCC okX6_asks 38 xhr rfl rfl ⟨_, rfl, ⟨hKS9, Or.inr ⟨p, e, u, rfl, rfl, rfl, hp, he, hu, (by unfold sAsk; grind)⟩⟩⟩
          · skip
            have hrS9 := RM_K hS9.2 hr
            have htS9 := TM_K hS9.2 ht
            have hKS9 := KM_tr (KM_rf z) hS9.2
            refine ww_br xCC okX6_asks 21 (P := 0 = 0) (t1 := 47) (t2 := 43) (r := []) rfl (fun _ => ?_) (fun q => absurd (by decide) q)
            refine ww_blk xCC okX6_asks 24 2 (ps := []) (pc' := 71) (lv' := [(0, .ref 0), (1, .int (nI p)), (2, .int (nI e)), (3, .int (nI u))]) (st' := [.int 0]) (z' := zS9) rfl trivial ?_
            subst xhQ
            exact ww_iret xCC okX6_asks 38 xhr rfl rfl ⟨_, rfl, ⟨hKS9, Or.inr ⟨p, e, u, rfl, rfl, rfl, hp, he, hu, (by unfold sAsk; grind)⟩⟩⟩
        · skip
          replace c8 : ¬ u = 0 := fun q => c8 ((sEQ (a := u) (b := 0) (by omega) (by omega)).mpr q)
          refine ww_blk xCC okX6_asks 26 2 (ps := []) (pc' := 53) (lv' := [(0, .ref 0), (1, .int (nI p)), (2, .int (nI e)), (3, .int (nI u))]) (st' := [.int 1, .int (nI u)]) (z' := z) rfl trivial ?_
          refine ww_br xCC okX6_asks 28 (P := (nI u) = 1) (t1 := 56) (t2 := 65) (r := []) rfl (fun c12 => ?_) (fun c12 => ?_)
          · skip
            replace c12 : u = 1 := (sEQ (a := u) (b := 1) (by omega) (by omega)).mp c12
            refine ww_blk xCC okX6_asks 29 3 (ps := []) (pc' := 59) (lv' := [(0, .ref 0), (1, .int (nI p)), (2, .int (nI e)), (3, .int (nI u))]) (st' := [.int (nI e), .int (nI p), .ref 0]) (z' := z) rfl trivial ?_
            refine ww_callVIi xCC okX6_asks 32 (ix := 273) (t_X6_costsOf l d p e z r cnt tc hr hw ht (by omega) (by omega)) (by omega) (by decide) xyX6_costsOf xiX6_costsOf (Or.inl (lw_gt_of (List.mem_of_getElem? (i := 1117) (by decide +kernel)) rfl)) rfl rfl rfl (rest := []) rfl (Nat.le_of_ble_eq_true rfl) rfl (fun v14 zS13 hS13 => ?_)
            have hrS13 := RM_K hS13.2 hr
            have htS13 := TM_K hS13.2 ht
            have hKS13 := KM_tr (KM_rf z) hS13.2
            rw [hS13.1]
            refine ww_blk xCC okX6_asks 33 1 (ps := []) (pc' := 71) (lv' := [(0, .ref 0), (1, .int (nI p)), (2, .int (nI e)), (3, .int (nI u))]) (st' := [.int (sCosts tc r p e)]) (z' := zS13) rfl trivial ?_
            subst xhQ
            exact ww_iret xCC okX6_asks 38 xhr rfl rfl ⟨_, rfl, ⟨hKS13, Or.inr ⟨p, e, u, rfl, rfl, rfl, hp, he, hu, (by unfold sAsk; grind)⟩⟩⟩
          · skip
            replace c12 : ¬ u = 1 := fun q => c12 ((sEQ (a := u) (b := 1) (by omega) (by omega)).mpr q)
            refine ww_blk xCC okX6_asks 34 3 (ps := []) (pc' := 68) (lv' := [(0, .ref 0), (1, .int (nI p)), (2, .int (nI e)), (3, .int (nI u))]) (st' := [.int (nI e), .int (nI p), .ref 0]) (z' := z) rfl trivial ?_
            refine ww_callVIi xCC okX6_asks 37 (ix := 276) (t_X6_sitsBy l d p e z r cnt tc hr hw ht (by omega) (by omega)) (by omega) (by decide) xyX6_sitsBy xiX6_sitsBy (Or.inl (lw_gt_of (List.mem_of_getElem? (i := 1121) (by decide +kernel)) rfl)) rfl rfl rfl (rest := []) rfl (Nat.le_of_ble_eq_true rfl) rfl (fun v16 zS15 hS15 => ?_)
            have hrS15 := RM_K hS15.2 hr
            have htS15 := TM_K hS15.2 ht
            have hKS15 := KM_tr (KM_rf z) hS15.2
            rw [hS15.1]
            subst xhQ
            exact ww_iret xCC okX6_asks 38 xhr rfl rfl ⟨_, rfl, ⟨hKS15, Or.inr ⟨p, e, u, rfl, rfl, rfl, hp, he, hu, (by unfold sAsk; grind)⟩⟩⟩
      · skip
        have h6 : ¬ (0 ≤ w.toInt ∧ w.toInt ≤ 2) := h6
        refine ww_br xCC okX6_asks 12 (P := 0 = 0) (t1 := 27) (t2 := 30) (r := []) rfl (fun _ => ?_) (fun q => absurd (by decide) q)
        refine ww_blk xCC okX6_asks 13 1 (ps := []) (pc' := 29) (lv' := [(0, .ref 0), (1, .int (nI p)), (2, .int (nI e)), (3, .int w)]) (st' := [.int (-2)]) (z' := z) rfl trivial ?_
        subst xhQ
        exact ww_iret xCC okX6_asks 14 xhr rfl rfl ⟨_, rfl, ⟨KM_rf z, Or.inl ⟨(by omega), rfl⟩⟩⟩
    · skip
      have h3 : ¬ (0 ≤ y.toInt ∧ y.toInt ≤ 9) := h3
      refine ww_br xCC okX6_asks 6 (P := 0 = 0) (t1 := 27) (t2 := 15) (r := []) rfl (fun _ => ?_) (fun q => absurd (by decide) q)
      refine ww_blk xCC okX6_asks 13 1 (ps := []) (pc' := 29) (lv' := [(0, .ref 0), (1, .int (nI p)), (2, .int y), (3, .int w)]) (st' := [.int (-2)]) (z' := z) rfl trivial ?_
      subst xhQ
      exact ww_iret xCC okX6_asks 14 xhr rfl rfl ⟨_, rfl, ⟨KM_rf z, Or.inl ⟨(by omega), rfl⟩⟩⟩
  · skip
    rw [hO.2]
    replace hO := hO.1
    refine ww_br xCC okX6_asks 3 (P := 0 = 0) (t1 := 27) (t2 := 8) (r := []) rfl (fun _ => ?_) (fun q => absurd (by decide) q)
    refine ww_blk xCC okX6_asks 13 1 (ps := []) (pc' := 29) (lv' := [(0, .ref 0), (1, .int x), (2, .int y), (3, .int w)]) (st' := [.int (-2)]) (z' := z) rfl trivial ?_
    subst xhQ
    exact ww_iret xCC okX6_asks 14 xhr rfl rfl ⟨_, rfl, ⟨KM_rf z, Or.inl ⟨(by omega), rfl⟩⟩⟩
