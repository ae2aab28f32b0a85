/-! LawsLapse's leaves -/
set_option maxHeartbeats 4000000 in
set_option maxRecDepth 20000 in
theorem t_X5_isDeed (l : Launch) (d : Nat) (x : Int32) (z : xMem) : XMz l (d + 1) yX5_isDeed cX5_isDeed 1 (some .boolean) [] [.int x] z (fun _ => 0 ≤ x.toInt ∧ x.toInt ≤ 9) (fun _ => ¬ (0 ≤ x.toInt ∧ x.toInt ≤ 9)) := by
  refine XM.of (by decide) (Nat.le_of_ble_eq_true rfl) (fun xp xe xs xm xar xbl xme xc xD xcs xad xAA xCC xhr => ?_)
  generalize xhQ : MQ xbl _ xar xs 0 0 xAA = xQ
  show ww xp l xe (xRm (d + 1)) xs xm xar xbl xme xc 1 xD xcs xad [] xAA xQ 0 [(0, .int x)] [] z
  refine ww_blk xCC okX5_isDeed 0 3 (ps := []) (pc' := 4) (lv' := [(0, .int x)]) (st' := [.int 9, .int 0, .int x]) (z' := z) rfl trivial ?_
  refine ww_callSNz xCC okX5_isDeed 3 (ix := 52) (t_X5_within l d x 0 9 _) (by omega) (by decide) xyX5_within xiX5_within (Or.inl (lw_gt_of (List.mem_of_getElem? (i := 327) (by decide +kernel)) rfl)) rfl (rest := []) rfl (Nat.le_of_ble_eq_true rfl) rfl (fun z1 h2 => ?_) (fun z1 h2 => ?_)
  · skip
    have h2 : 0 ≤ x.toInt ∧ x.toInt ≤ 9 := h2
    subst xhQ
    exact ww_iret xCC okX5_isDeed 4 xhr rfl (by decide) (Or.inl ⟨rfl, (by assumption)⟩)
  · skip
    have h2 : ¬ (0 ≤ x.toInt ∧ x.toInt ≤ 9) := h2
    subst xhQ
    exact ww_iret xCC okX5_isDeed 4 xhr rfl (by decide) (Or.inr ⟨rfl, (by assumption)⟩)

set_option maxHeartbeats 4000000 in
set_option maxRecDepth 20000 in
theorem t_X5_isLaw (l : Launch) (d : Nat) (x : Int32) (z : xMem) : XMz l (d + 1) yX5_isLaw cX5_isLaw 1 (some .boolean) [] [.int x] z (fun _ => 0 ≤ x.toInt ∧ x.toInt ≤ 7) (fun _ => ¬ (0 ≤ x.toInt ∧ x.toInt ≤ 7)) := by
  refine XM.of (by decide) (Nat.le_of_ble_eq_true rfl) (fun xp xe xs xm xar xbl xme xc xD xcs xad xAA xCC xhr => ?_)
  generalize xhQ : MQ xbl _ xar xs 0 0 xAA = xQ
  show ww xp l xe (xRm (d + 1)) xs xm xar xbl xme xc 1 xD xcs xad [] xAA xQ 0 [(0, .int x)] [] z
  refine ww_blk xCC okX5_isLaw 0 3 (ps := []) (pc' := 4) (lv' := [(0, .int x)]) (st' := [.int 7, .int 0, .int x]) (z' := z) rfl trivial ?_
  refine ww_callSNz xCC okX5_isLaw 3 (ix := 52) (t_X5_within l d x 0 7 _) (by omega) (by decide) xyX5_within xiX5_within (Or.inl (lw_gt_of (List.mem_of_getElem? (i := 327) (by decide +kernel)) rfl)) rfl (rest := []) rfl (Nat.le_of_ble_eq_true rfl) rfl (fun z1 h2 => ?_) (fun z1 h2 => ?_)
  · skip
    have h2 : 0 ≤ x.toInt ∧ x.toInt ≤ 7 := h2
    subst xhQ
    exact ww_iret xCC okX5_isLaw 4 xhr rfl (by decide) (Or.inl ⟨rfl, (by assumption)⟩)
  · skip
    have h2 : ¬ (0 ≤ x.toInt ∧ x.toInt ≤ 7) := h2
    subst xhQ
    exact ww_iret xCC okX5_isLaw 4 xhr rfl (by decide) (Or.inr ⟨rfl, (by assumption)⟩)

set_option maxHeartbeats 4000000 in
set_option maxRecDepth 20000 in
theorem t_X5_isOne (l : Launch) (d : Nat) (x : Int32) (z : xMem) (k : Nat) (hk : z.1 19 9 = nI k) (hk4 : k ≤ 4) : XMz l (d + 1) yX5_isOne cX5_isOne 2 (some .boolean) shX [.ref 0, .int x] z (fun z' => (0 ≤ x.toInt ∧ x.toInt < k) ∧ z' = z) (fun z' => ¬ (0 ≤ x.toInt ∧ x.toInt < k) ∧ z' = z) := by
  refine XM.of (by decide) (Nat.le_of_ble_eq_true rfl) (fun xp xe xs xm xar xbl xme xc xD xcs xad xAA xCC xhr => ?_)
  generalize xhQ : MQ xbl _ xar xs 0 0 xAA = xQ
  show ww xp l xe (xRm (d + 1)) xs xm xar xbl xme xc 2 xD xcs xad shX xAA xQ 0 [(0, .ref 0), (1, .int x)] [] z
  refine ww_blk xCC okX5_isOne 0 7 (ps := []) (pc' := 11) (lv' := [(0, .ref 0), (1, .int x)]) (st' := [.int ((z.1 19 9) - 1), .int 0, .int x]) (z' := z) rfl trivial ?_
  rw [hk]
  refine ww_callSNz xCC okX5_isOne 7 (ix := 52) (t_X5_within l d x 0 (nI k - 1) _) (by omega) (by decide) xyX5_within xiX5_within (Or.inl (lw_gt_of (List.mem_of_getElem? (i := 327) (by decide +kernel)) rfl)) rfl (rest := []) rfl (Nat.le_of_ble_eq_true rfl) rfl (fun z1 h2 => ?_) (fun z1 h2 => ?_)
  · skip
    have h2 : 0 ≤ x.toInt ∧ x.toInt ≤ (nI k - 1).toInt := h2
    subst xhQ
    exact ww_iret xCC okX5_isOne 8 xhr rfl (by decide) (Or.inl ⟨rfl, ⟨(by rw [sSub1 (by omega)] at *; omega), rfl⟩⟩)
  · skip
    have h2 : ¬ (0 ≤ x.toInt ∧ x.toInt ≤ (nI k - 1).toInt) := h2
    subst xhQ
    exact ww_iret xCC okX5_isOne 8 xhr rfl (by decide) (Or.inr ⟨rfl, ⟨(by rw [sSub1 (by omega)] at *; omega), rfl⟩⟩)

set_option maxHeartbeats 4000000 in
set_option maxRecDepth 20000 in
theorem t_X5_stands (l : Launch) (d : Nat) (u : Nat) (x : Int32) (z : xMem) (k : Nat) (hk : z.1 19 9 = nI k) (hk4 : k ≤ 4) (hu : u ≤ 12) : XMz l (d + 2) yX5_stands cX5_stands 3 (some .boolean) shX [.ref 0, .int x, .int (nI u)] z (fun z' => sIs k x u ∧ z' = z) (fun z' => ¬ sIs k x u ∧ z' = z) := by
  refine XM.of (by decide) (Nat.le_of_ble_eq_true rfl) (fun xp xe xs xm xar xbl xme xc xD xcs xad xAA xCC xhr => ?_)
  generalize xhQ : MQ xbl _ xar xs 0 0 xAA = xQ
  show ww xp l xe (xRm (d + 2)) xs xm xar xbl xme xc 3 xD xcs xad shX xAA xQ 0 [(0, .ref 0), (1, .int x), (2, .int (nI u))] [] z
  refine ww_blk xCC okX5_stands 0 1 (ps := []) (pc' := 1) (lv' := [(0, .ref 0), (1, .int x), (2, .int (nI u))]) (st' := [.int (nI u)]) (z' := z) rfl trivial ?_
  refine ww_sw xCC okX5_stands 1 (x := (nI u)) (L := [(0, 68), (1, 84), (2, 84), (3, 73), (4, 73), (5, 78), (6, 78), (7, 78), (8, 78), (9, 78), (10, 84), (11, 84), (12, 84)]) (P := (nI u).toInt < 0 ∨ 12 < (nI u).toInt) (t0 := 86) (r := []) rfl (fun c1 => ?_) (And.intro (fun c1 => ?_) (And.intro (fun c1 => ?_) (And.intro (fun c1 => ?_) (And.intro (fun c1 => ?_) (And.intro (fun c1 => ?_) (And.intro (fun c1 => ?_) (And.intro (fun c1 => ?_) (And.intro (fun c1 => ?_) (And.intro (fun c1 => ?_) (And.intro (fun c1 => ?_) (And.intro (fun c1 => ?_) (And.intro (fun c1 => ?_) ((fun c1 => ?_))))))))))))))
  · skip
    rw [sTI (k := u) (by omega)] at c1
    refine ww_blk xCC okX5_stands 14 1 (ps := []) (pc' := 87) (lv' := [(0, .ref 0), (1, .int x), (2, .int (nI u))]) (st' := [.int 0]) (z' := z) rfl trivial ?_
    subst xhQ
    exact ww_iret xCC okX5_stands 15 xhr rfl (by decide) (Or.inr ⟨rfl, ⟨(by unfold sIs; omega), rfl⟩⟩)
  · have c1 : (nI u) = 0 := c1
    replace c1 : u = 0 := (sEQ (a := u) (b := 0) (by omega) (by omega)).mp c1
    show ww xp l xe (xRm (d + 2)) xs xm xar xbl xme xc 3 xD xcs xad shX xAA xQ 68 [(0, .ref 0), (1, .int x), (2, .int (nI u))] [] z
    refine ww_blk xCC okX5_stands 2 1 (ps := []) (pc' := 69) (lv' := [(0, .ref 0), (1, .int x), (2, .int (nI u))]) (st' := [.int x]) (z' := z) rfl trivial ?_
    refine ww_callSNz xCC okX5_stands 3 (ix := 153) (t_X5_isLaw l d x _) (by omega) (by decide) xyX5_isLaw xiX5_isLaw (Or.inl (lw_gt_of (List.mem_of_getElem? (i := 334) (by decide +kernel)) rfl)) rfl (rest := []) rfl (Nat.le_of_ble_eq_true rfl) rfl (fun z2 h3 => ?_) (fun z2 h3 => ?_)
    · skip
      have h3 : 0 ≤ x.toInt ∧ x.toInt ≤ 7 := h3
      subst xhQ
      exact ww_iret xCC okX5_stands 4 xhr rfl (by decide) (Or.inl ⟨rfl, ⟨(by unfold sIs; omega), rfl⟩⟩)
    · skip
      have h3 : ¬ (0 ≤ x.toInt ∧ x.toInt ≤ 7) := h3
      subst xhQ
      exact ww_iret xCC okX5_stands 4 xhr rfl (by decide) (Or.inr ⟨rfl, ⟨(by unfold sIs; omega), rfl⟩⟩)
  · have c1 : (nI u) = 1 := c1
    replace c1 : u = 1 := (sEQ (a := u) (b := 1) (by omega) (by omega)).mp c1
    show ww xp l xe (xRm (d + 2)) xs xm xar xbl xme xc 3 xD xcs xad shX xAA xQ 84 [(0, .ref 0), (1, .int x), (2, .int (nI u))] [] z
    refine ww_blk xCC okX5_stands 12 1 (ps := []) (pc' := 85) (lv' := [(0, .ref 0), (1, .int x), (2, .int (nI u))]) (st' := [.int 1]) (z' := z) rfl trivial ?_
    subst xhQ
    exact ww_iret xCC okX5_stands 13 xhr rfl (by decide) (Or.inl ⟨rfl, ⟨(by unfold sIs; omega), rfl⟩⟩)
  · have c1 : (nI u) = 2 := c1
    replace c1 : u = 2 := (sEQ (a := u) (b := 2) (by omega) (by omega)).mp c1
    show ww xp l xe (xRm (d + 2)) xs xm xar xbl xme xc 3 xD xcs xad shX xAA xQ 84 [(0, .ref 0), (1, .int x), (2, .int (nI u))] [] z
    refine ww_blk xCC okX5_stands 12 1 (ps := []) (pc' := 85) (lv' := [(0, .ref 0), (1, .int x), (2, .int (nI u))]) (st' := [.int 1]) (z' := z) rfl trivial ?_
    subst xhQ
    exact ww_iret xCC okX5_stands 13 xhr rfl (by decide) (Or.inl ⟨rfl, ⟨(by unfold sIs; omega), rfl⟩⟩)
  · have c1 : (nI u) = 3 := c1
    replace c1 : u = 3 := (sEQ (a := u) (b := 3) (by omega) (by omega)).mp c1
    show ww xp l xe (xRm (d + 2)) xs xm xar xbl xme xc 3 xD xcs xad shX xAA xQ 73 [(0, .ref 0), (1, .int x), (2, .int (nI u))] [] z
    refine ww_blk xCC okX5_stands 5 1 (ps := []) (pc' := 74) (lv' := [(0, .ref 0), (1, .int x), (2, .int (nI u))]) (st' := [.int x]) (z' := z) rfl trivial ?_
    refine ww_callSNz xCC okX5_stands 6 (ix := 86) (t_X5_isDeed l d x _) (by omega) (by decide) xyX5_isDeed xiX5_isDeed (Or.inl (lw_gt_of (List.mem_of_getElem? (i := 337) (by decide +kernel)) rfl)) rfl (rest := []) rfl (Nat.le_of_ble_eq_true rfl) rfl (fun z4 h5 => ?_) (fun z4 h5 => ?_)
    · skip
      have h5 : 0 ≤ x.toInt ∧ x.toInt ≤ 9 := h5
      subst xhQ
      exact ww_iret xCC okX5_stands 7 xhr rfl (by decide) (Or.inl ⟨rfl, ⟨(by unfold sIs; omega), rfl⟩⟩)
    · skip
      have h5 : ¬ (0 ≤ x.toInt ∧ x.toInt ≤ 9) := h5
      subst xhQ
      exact ww_iret xCC okX5_stands 7 xhr rfl (by decide) (Or.inr ⟨rfl, ⟨(by unfold sIs; omega), rfl⟩⟩)
  · have c1 : (nI u) = 4 := c1
    replace c1 : u = 4 := (sEQ (a := u) (b := 4) (by omega) (by omega)).mp c1
    show ww xp l xe (xRm (d + 2)) xs xm xar xbl xme xc 3 xD xcs xad shX xAA xQ 73 [(0, .ref 0), (1, .int x), (2, .int (nI u))] [] z
    refine ww_blk xCC okX5_stands 5 1 (ps := []) (pc' := 74) (lv' := [(0, .ref 0), (1, .int x), (2, .int (nI u))]) (st' := [.int x]) (z' := z) rfl trivial ?_
    refine ww_callSNz xCC okX5_stands 6 (ix := 86) (t_X5_isDeed l d x _) (by omega) (by decide) xyX5_isDeed xiX5_isDeed (Or.inl (lw_gt_of (List.mem_of_getElem? (i := 337) (by decide +kernel)) rfl)) rfl (rest := []) rfl (Nat.le_of_ble_eq_true rfl) rfl (fun z6 h7 => ?_) (fun z6 h7 => ?_)
    · skip
      have h7 : 0 ≤ x.toInt ∧ x.toInt ≤ 9 := h7
      subst xhQ
      exact ww_iret xCC okX5_stands 7 xhr rfl (by decide) (Or.inl ⟨rfl, ⟨(by unfold sIs; omega), rfl⟩⟩)
    · skip
      have h7 : ¬ (0 ≤ x.toInt ∧ x.toInt ≤ 9) := h7
      subst xhQ
      exact ww_iret xCC okX5_stands 7 xhr rfl (by decide) (Or.inr ⟨rfl, ⟨(by unfold sIs; omega), rfl⟩⟩)
  · have c1 : (nI u) = 5 := c1
    replace c1 : u = 5 := (sEQ (a := u) (b := 5) (by omega) (by omega)).mp c1
    show ww xp l xe (xRm (d + 2)) xs xm xar xbl xme xc 3 xD xcs xad shX xAA xQ 78 [(0, .ref 0), (1, .int x), (2, .int (nI u))] [] z
    refine ww_blk xCC okX5_stands 8 2 (ps := []) (pc' := 80) (lv' := [(0, .ref 0), (1, .int x), (2, .int (nI u))]) (st' := [.int x, .ref 0]) (z' := z) rfl trivial ?_
    refine ww_callVIz xCC okX5_stands 10 (ix := 82) (t_X5_isOne l d x z k hk hk4) (by omega) (by decide) xyX5_isOne xiX5_isOne (Or.inl (lw_gt_of (List.mem_of_getElem? (i := 340) (by decide +kernel)) rfl)) rfl rfl rfl (rest := []) rfl (Nat.le_of_ble_eq_true rfl) rfl (fun z8 h9 => ?_) (fun z8 h9 => ?_)
    · skip
      rw [h9.2]
      obtain ⟨⟨h9a, h9b⟩, -⟩ := h9
      subst xhQ
      exact ww_iret xCC okX5_stands 11 xhr rfl (by decide) (Or.inl ⟨rfl, ⟨(by unfold sIs; omega), rfl⟩⟩)
    · skip
      rw [h9.2]
      replace h9 := h9.1
      subst xhQ
      exact ww_iret xCC okX5_stands 11 xhr rfl (by decide) (Or.inr ⟨rfl, ⟨(by unfold sIs; omega), rfl⟩⟩)
  · have c1 : (nI u) = 6 := c1
    replace c1 : u = 6 := (sEQ (a := u) (b := 6) (by omega) (by omega)).mp c1
    show ww xp l xe (xRm (d + 2)) xs xm xar xbl xme xc 3 xD xcs xad shX xAA xQ 78 [(0, .ref 0), (1, .int x), (2, .int (nI u))] [] z
    refine ww_blk xCC okX5_stands 8 2 (ps := []) (pc' := 80) (lv' := [(0, .ref 0), (1, .int x), (2, .int (nI u))]) (st' := [.int x, .ref 0]) (z' := z) rfl trivial ?_
    refine ww_callVIz xCC okX5_stands 10 (ix := 82) (t_X5_isOne l d x z k hk hk4) (by omega) (by decide) xyX5_isOne xiX5_isOne (Or.inl (lw_gt_of (List.mem_of_getElem? (i := 340) (by decide +kernel)) rfl)) rfl rfl rfl (rest := []) rfl (Nat.le_of_ble_eq_true rfl) rfl (fun z10 h11 => ?_) (fun z10 h11 => ?_)
    · skip
      rw [h11.2]
      obtain ⟨⟨h11a, h11b⟩, -⟩ := h11
      subst xhQ
      exact ww_iret xCC okX5_stands 11 xhr rfl (by decide) (Or.inl ⟨rfl, ⟨(by unfold sIs; omega), rfl⟩⟩)
    · skip
      rw [h11.2]
      replace h11 := h11.1
      subst xhQ
      exact ww_iret xCC okX5_stands 11 xhr rfl (by decide) (Or.inr ⟨rfl, ⟨(by unfold sIs; omega), rfl⟩⟩)
  · have c1 : (nI u) = 7 := c1
    replace c1 : u = 7 := (sEQ (a := u) (b := 7) (by omega) (by omega)).mp c1
    show ww xp l xe (xRm (d + 2)) xs xm xar xbl xme xc 3 xD xcs xad shX xAA xQ 78 [(0, .ref 0), (1, .int x), (2, .int (nI u))] [] z
    refine ww_blk xCC okX5_stands 8 2 (ps := []) (pc' := 80) (lv' := [(0, .ref 0), (1, .int x), (2, .int (nI u))]) (st' := [.int x, .ref 0]) (z' := z) rfl trivial ?_
    refine ww_callVIz xCC okX5_stands 10 (ix := 82) (t_X5_isOne l d x z k hk hk4) (by omega) (by decide) xyX5_isOne xiX5_isOne (Or.inl (lw_gt_of (List.mem_of_getElem? (i := 340) (by decide +kernel)) rfl)) rfl rfl rfl (rest := []) rfl (Nat.le_of_ble_eq_true rfl) rfl (fun z12 h13 => ?_) (fun z12 h13 => ?_)
    · skip
      rw [h13.2]
      obtain ⟨⟨h13a, h13b⟩, -⟩ := h13
      subst xhQ
      exact ww_iret xCC okX5_stands 11 xhr rfl (by decide) (Or.inl ⟨rfl, ⟨(by unfold sIs; omega), rfl⟩⟩)
    · skip
      rw [h13.2]
      replace h13 := h13.1
      subst xhQ
      exact ww_iret xCC okX5_stands 11 xhr rfl (by decide) (Or.inr ⟨rfl, ⟨(by unfold sIs; omega), rfl⟩⟩)
  · have c1 : (nI u) = 8 := c1
    replace c1 : u = 8 := (sEQ (a := u) (b := 8) (by omega) (by omega)).mp c1
    show ww xp l xe (xRm (d + 2)) xs xm xar xbl xme xc 3 xD xcs xad shX xAA xQ 78 [(0, .ref 0), (1, .int x), (2, .int (nI u))] [] z
    refine ww_blk xCC okX5_stands 8 2 (ps := []) (pc' := 80) (lv' := [(0, .ref 0), (1, .int x), (2, .int (nI u))]) (st' := [.int x, .ref 0]) (z' := z) rfl trivial ?_
    refine ww_callVIz xCC okX5_stands 10 (ix := 82) (t_X5_isOne l d x z k hk hk4) (by omega) (by decide) xyX5_isOne xiX5_isOne (Or.inl (lw_gt_of (List.mem_of_getElem? (i := 340) (by decide +kernel)) rfl)) rfl rfl rfl (rest := []) rfl (Nat.le_of_ble_eq_true rfl) rfl (fun z14 h15 => ?_) (fun z14 h15 => ?_)
    · skip
      rw [h15.2]
      obtain ⟨⟨h15a, h15b⟩, -⟩ := h15
      subst xhQ
      exact ww_iret xCC okX5_stands 11 xhr rfl (by decide) (Or.inl ⟨rfl, ⟨(by unfold sIs; omega), rfl⟩⟩)
    · skip
      rw [h15.2]
      replace h15 := h15.1
      subst xhQ
      exact ww_iret xCC okX5_stands 11 xhr rfl (by decide) (Or.inr ⟨rfl, ⟨(by unfold sIs; omega), rfl⟩⟩)
  · have c1 : (nI u) = 9 := c1
    replace c1 : u = 9 := (sEQ (a := u) (b := 9) (by omega) (by omega)).mp c1
    show ww xp l xe (xRm (d + 2)) xs xm xar xbl xme xc 3 xD xcs xad shX xAA xQ 78 [(0, .ref 0), (1, .int x), (2, .int (nI u))] [] z
    refine ww_blk xCC okX5_stands 8 2 (ps := []) (pc' := 80) (lv' := [(0, .ref 0), (1, .int x), (2, .int (nI u))]) (st' := [.int x, .ref 0]) (z' := z) rfl trivial ?_
    refine ww_callVIz xCC okX5_stands 10 (ix := 82) (t_X5_isOne l d x z k hk hk4) (by omega) (by decide) xyX5_isOne xiX5_isOne (Or.inl (lw_gt_of (List.mem_of_getElem? (i := 340) (by decide +kernel)) rfl)) rfl rfl rfl (rest := []) rfl (Nat.le_of_ble_eq_true rfl) rfl (fun z16 h17 => ?_) (fun z16 h17 => ?_)
    · skip
      rw [h17.2]
      obtain ⟨⟨h17a, h17b⟩, -⟩ := h17
      subst xhQ
      exact ww_iret xCC okX5_stands 11 xhr rfl (by decide) (Or.inl ⟨rfl, ⟨(by unfold sIs; omega), rfl⟩⟩)
    · skip
      rw [h17.2]
      replace h17 := h17.1
      subst xhQ
      exact ww_iret xCC okX5_stands 11 xhr rfl (by decide) (Or.inr ⟨rfl, ⟨(by unfold sIs; omega), rfl⟩⟩)
  · have c1 : (nI u) = 10 := c1
    replace c1 : u = 10 := (sEQ (a := u) (b := 10) (by omega) (by omega)).mp c1
    show ww xp l xe (xRm (d + 2)) xs xm xar xbl xme xc 3 xD xcs xad shX xAA xQ 84 [(0, .ref 0), (1, .int x), (2, .int (nI u))] [] z
    refine ww_blk xCC okX5_stands 12 1 (ps := []) (pc' := 85) (lv' := [(0, .ref 0), (1, .int x), (2, .int (nI u))]) (st' := [.int 1]) (z' := z) rfl trivial ?_
    subst xhQ
    exact ww_iret xCC okX5_stands 13 xhr rfl (by decide) (Or.inl ⟨rfl, ⟨(by unfold sIs; omega), rfl⟩⟩)
  · have c1 : (nI u) = 11 := c1
    replace c1 : u = 11 := (sEQ (a := u) (b := 11) (by omega) (by omega)).mp c1
    show ww xp l xe (xRm (d + 2)) xs xm xar xbl xme xc 3 xD xcs xad shX xAA xQ 84 [(0, .ref 0), (1, .int x), (2, .int (nI u))] [] z
    refine ww_blk xCC okX5_stands 12 1 (ps := []) (pc' := 85) (lv' := [(0, .ref 0), (1, .int x), (2, .int (nI u))]) (st' := [.int 1]) (z' := z) rfl trivial ?_
    subst xhQ
    exact ww_iret xCC okX5_stands 13 xhr rfl (by decide) (Or.inl ⟨rfl, ⟨(by unfold sIs; omega), rfl⟩⟩)
  · have c1 : (nI u) = 12 := c1
    replace c1 : u = 12 := (sEQ (a := u) (b := 12) (by omega) (by omega)).mp c1
    show ww xp l xe (xRm (d + 2)) xs xm xar xbl xme xc 3 xD xcs xad shX xAA xQ 84 [(0, .ref 0), (1, .int x), (2, .int (nI u))] [] z
    refine ww_blk xCC okX5_stands 12 1 (ps := []) (pc' := 85) (lv' := [(0, .ref 0), (1, .int x), (2, .int (nI u))]) (st' := [.int 1]) (z' := z) rfl trivial ?_
    subst xhQ
    exact ww_iret xCC okX5_stands 13 xhr rfl (by decide) (Or.inl ⟨rfl, ⟨(by unfold sIs; omega), rfl⟩⟩)

set_option maxHeartbeats 4000000 in
set_option maxRecDepth 20000 in
theorem t_X5_commonDivisor (l : Launch) (d : Nat) (a b : Nat) (ha : a < 100) (hb : b < 100) (z : xMem) : XMi l d yX5_commonDivisor cX5_commonDivisor 4 (some .int) [] [.int (nI a), .int (nI b)] z (fun v _ => v = nI (Nat.gcd a b)) := by
  refine XM.of (by decide) (Nat.le_of_ble_eq_true rfl) (fun xp xe xs xm xar xbl xme xc xD xcs xad xAA xCC xhr => ?_)
  generalize xhQ : MQ xbl _ xar xs 0 0 xAA = xQ
  show ww xp l xe (xRm d) xs xm xar xbl xme xc 4 xD xcs xad [] xAA xQ 0 [(0, .int (nI a)), (1, .int (nI b))] [] z
  refine ww_blk xCC okX5_commonDivisor 0 2 (ps := []) (pc' := 2) (lv' := [(2, .int 0), (0, .int (nI a)), (1, .int (nI b))]) (st' := []) (z' := z) rfl trivial ?_
  have L2 : ∀ (n2 : Nat) (i : Nat) (p9 : Nat) (q9 : Nat), 100 - i < n2 → (Nat.gcd p9 q9 = Nat.gcd a b) → (p9 < 100) → (q9 + i < 100) → ww xp l xe (xRm d) xs xm xar xbl xme xc 4 xD xcs xad [] xAA xQ 2 [(2, .int (nI i)), (0, .int (nI p9)), (1, .int (nI q9))] [] z := by
    intro n2
    induction n2 with
    | zero =>
      intro i p9 q9 hmu2
      exact absurd hmu2 (Nat.not_lt_zero _)
    | succ n2 ih2 =>
      intro i p9 q9 hmu2 e2_0 e2_1 e2_2
      refine ww_blk xCC okX5_commonDivisor 2 2 (ps := []) (pc' := 5) (lv' := [(2, .int (nI i)), (0, .int (nI p9)), (1, .int (nI q9))]) (st' := [.int 100, .int (nI i)]) (z' := z) rfl trivial ?_
      refine ww_br xCC okX5_commonDivisor 4 (P := 100 ≤ (nI i)) (t1 := 26) (t2 := 8) (r := []) rfl (fun c1 => ?_) (fun c1 => ?_)
      · skip
        replace c1 : 100 ≤ i := (sLE (a := 100) (b := i) (by omega) (by omega)).mp c1
        refine ww_blk xCC okX5_commonDivisor 17 1 (ps := []) (pc' := 27) (lv' := [(2, .int (nI i)), (0, .int (nI p9)), (1, .int (nI q9))]) (st' := [.int (nI p9)]) (z' := z) rfl trivial ?_
        subst xhQ
        exact ww_iret xCC okX5_commonDivisor 18 xhr rfl rfl ⟨_, rfl, (by first | (exfalso; omega) | (rw [show q9 = 0 by omega, Nat.gcd_zero_right] at e2_0; rw [e2_0]))⟩
      · skip
        replace c1 : ¬ 100 ≤ i := fun q => c1 ((sLE (a := 100) (b := i) (by omega) (by omega)).mpr q)
        refine ww_blk xCC okX5_commonDivisor 5 1 (ps := []) (pc' := 9) (lv' := [(2, .int (nI i)), (0, .int (nI p9)), (1, .int (nI q9))]) (st' := [.int (nI q9)]) (z' := z) rfl trivial ?_
        refine ww_br xCC okX5_commonDivisor 6 (P := (nI q9) = 0) (t1 := 26) (t2 := 12) (r := []) rfl (fun c2 => ?_) (fun c2 => ?_)
        · skip
          replace c2 : q9 = 0 := (sEQ (a := q9) (b := 0) (by omega) (by omega)).mp c2
          refine ww_blk xCC okX5_commonDivisor 17 1 (ps := []) (pc' := 27) (lv' := [(2, .int (nI i)), (0, .int (nI p9)), (1, .int (nI q9))]) (st' := [.int (nI p9)]) (z' := z) rfl trivial ?_
          subst xhQ
          exact ww_iret xCC okX5_commonDivisor 18 xhr rfl rfl ⟨_, rfl, (by first | (exfalso; omega) | (rw [show q9 = 0 by omega, Nat.gcd_zero_right] at e2_0; rw [e2_0]))⟩
        · skip
          replace c2 : ¬ q9 = 0 := fun q => c2 ((sEQ (a := q9) (b := 0) (by omega) (by omega)).mpr q)
          refine ww_blk xCC okX5_commonDivisor 7 10 (ps := [¬ (nI q9) = 0]) (pc' := 2) (lv' := [(2, .int ((nI i) + 1)), (1, .int ((nI p9) - (nI p9) / (nI q9) * (nI q9))), (0, .int (nI q9)), (3, .int ((nI p9) - (nI p9) / (nI q9) * (nI q9)))]) (st' := []) (z' := z) rfl (fun w => absurd ((sEQ (a := q9) (b := 0) (by omega) (by omega)).mp w) (by omega)) ?_
          rw [show nI i + (1 : Int32) = nI (i + 1) from nI_add i 1]
          rw [show nI p9 - nI p9 / nI q9 * nI q9 = nI (p9 % q9) from pk_rem (by omega) (by omega) (by omega)]
          exact ww_cut [0, 2, 1] (xlc rfl (xlc rfl (xlc rfl rfl))) rfl rfl (ih2 (i + 1) q9 (p9 % q9) (by omega) (by rw [Nat.gcd_comm q9, ← Nat.gcd_rec, Nat.gcd_comm]; exact e2_0) (by omega) (by have := Nat.mod_lt p9 (show q9 > 0 by omega); omega))
  exact ww_cut [0, 1, 2] (xlc (congrArg Value.int (show (0 : Int32) = nI 0 from rfl)) (xlc rfl (xlc rfl rfl))) rfl rfl (L2 (100 - 0 + 1) 0 a b (Nat.lt_succ_self _) rfl ha (by omega))

set_option maxHeartbeats 4000000 in
set_option maxRecDepth 20000 in
theorem t_X5_fraction (l : Launch) (d : Nat) (a b : Nat) (w : Int32) (ha : a < 100) (hb : b < 100) (z : xMem) : XMl l (d + 1) yX5_fraction cX5_fraction 4 (some .long) [] [.int (nI a), .int (nI b), .int w] z (fun v _ => v = if 0 ≤ w.toInt ∧ w.toInt ≤ 1 ∧ ¬ b = 0 then lN (sLow a b w.toInt.toNat) else -4611686018427387904) := by
  refine XM.of (by decide) (Nat.le_of_ble_eq_true rfl) (fun xp xe xs xm xar xbl xme xc xD xcs xad xAA xCC xhr => ?_)
  generalize xhQ : MQ xbl _ xar xs 0 0 xAA = xQ
  show ww xp l xe (xRm (d + 1)) xs xm xar xbl xme xc 4 xD xcs xad [] xAA xQ 0 [(0, .int (nI a)), (1, .int (nI b)), (2, .int w)] [] z
  refine ww_blk xCC okX5_fraction 0 1 (ps := []) (pc' := 1) (lv' := [(0, .int (nI a)), (1, .int (nI b)), (2, .int w)]) (st' := [.int (nI b)]) (z' := z) rfl trivial ?_
  refine ww_br xCC okX5_fraction 1 (P := (nI b) = 0) (t1 := 13) (t2 := 4) (r := []) rfl (fun c1 => ?_) (fun c1 => ?_)
  · skip
    replace c1 : b = 0 := (sEQ (a := b) (b := 0) (by omega) (by omega)).mp c1
    have h1 := c1
    refine ww_blk xCC okX5_fraction 7 1 (ps := []) (pc' := 16) (lv' := [(0, .int (nI a)), (1, .int (nI b)), (2, .int w)]) (st' := [.long (-4611686018427387904)]) (z' := z) rfl trivial ?_
    subst xhQ
    exact ww_lret xCC okX5_fraction 8 xhr rfl ⟨_, rfl, (by first | (rw [if_neg (by omega)]) | (rw [if_pos (by omega)]; unfold sLow; first | (rw [if_pos (by rw [h32]; rfl)]) | (rw [if_neg (by intro q; apply h32; apply Int32.toInt_inj.mp; show w.toInt = 0; omega)])) | (exfalso; omega))⟩
  · skip
    replace c1 : ¬ b = 0 := fun q => c1 ((sEQ (a := b) (b := 0) (by omega) (by omega)).mpr q)
    have h1 := c1
    have hg0 : 0 < Nat.gcd a b := Nat.gcd_pos_of_pos_right a (by omega)
    have hgb := Nat.le_of_dvd (show 0 < b by omega) (Nat.gcd_dvd_right a b)
    have hd1 : a / Nat.gcd a b ≤ a := Nat.div_le_self _ _
    have hd2 : b / Nat.gcd a b ≤ b := Nat.div_le_self _ _
    refine ww_blk xCC okX5_fraction 2 3 (ps := []) (pc' := 7) (lv' := [(0, .int (nI a)), (1, .int (nI b)), (2, .int w)]) (st' := [.int 1, .int 0, .int w]) (z' := z) rfl trivial ?_
    refine ww_callSNz xCC okX5_fraction 5 (ix := 52) (t_X5_within l d w 0 1 _) (by omega) (by decide) xyX5_within xiX5_within (Or.inl (lw_gt_of (List.mem_of_getElem? (i := 327) (by decide +kernel)) rfl)) rfl (rest := []) rfl (Nat.le_of_ble_eq_true rfl) rfl (fun z2 h3 => ?_) (fun z2 h3 => ?_)
    · skip
      have h3 : 0 ≤ w.toInt ∧ w.toInt ≤ 1 := h3
      refine ww_br xCC okX5_fraction 6 (P := 1 = 0) (t1 := 13) (t2 := 17) (r := []) rfl (fun q => absurd q (by decide)) (fun _ => ?_)
      refine ww_blk xCC okX5_fraction 9 2 (ps := []) (pc' := 19) (lv' := [(0, .int (nI a)), (1, .int (nI b)), (2, .int w)]) (st' := [.int (nI b), .int (nI a)]) (z' := z) rfl trivial ?_
      refine ww_callSNi xCC okX5_fraction 11 (ix := 266) (t_X5_commonDivisor l d a b (by omega) (by omega) _) (by omega) (by decide) xyX5_commonDivisor xiX5_commonDivisor (Or.inl (lw_gt_of (List.mem_of_getElem? (i := 685) (by decide +kernel)) rfl)) rfl (rest := []) rfl (Nat.le_of_ble_eq_true rfl) rfl (fun v7 z5 h6 => ?_)
      rw [h6]
      refine ww_blk xCC okX5_fraction 12 2 (ps := []) (pc' := 24) (lv' := [(3, .int (nI (Nat.gcd a b))), (0, .int (nI a)), (1, .int (nI b)), (2, .int w)]) (st' := [.int (nI (Nat.gcd a b))]) (z' := z) rfl trivial ?_
      refine ww_br xCC okX5_fraction 14 (P := (nI (Nat.gcd a b)) = 0) (t1 := 27) (t2 := 31) (r := []) rfl (fun c8 => ?_) (fun c8 => ?_)
      · skip
        replace c8 : (Nat.gcd a b) = 0 := (sEQ (a := (Nat.gcd a b)) (b := 0) (by omega) (by omega)).mp c8
        refine ww_blk xCC okX5_fraction 15 1 (ps := []) (pc' := 30) (lv' := [(3, .int (nI (Nat.gcd a b))), (0, .int (nI a)), (1, .int (nI b)), (2, .int w)]) (st' := [.long (-4611686018427387904)]) (z' := z) rfl trivial ?_
        subst xhQ
        exact ww_lret xCC okX5_fraction 16 xhr rfl ⟨_, rfl, (by first | (rw [if_neg (by omega)]) | (rw [if_pos (by omega)]; unfold sLow; first | (rw [if_pos (by rw [h32]; rfl)]) | (rw [if_neg (by intro q; apply h32; apply Int32.toInt_inj.mp; show w.toInt = 0; omega)])) | (exfalso; omega))⟩
      · skip
        replace c8 : ¬ (Nat.gcd a b) = 0 := fun q => c8 ((sEQ (a := (Nat.gcd a b)) (b := 0) (by omega) (by omega)).mpr q)
        refine ww_blk xCC okX5_fraction 17 1 (ps := []) (pc' := 32) (lv' := [(3, .int (nI (Nat.gcd a b))), (0, .int (nI a)), (1, .int (nI b)), (2, .int w)]) (st' := [.int w]) (z' := z) rfl trivial ?_
        refine ww_br xCC okX5_fraction 18 (P := w = 0) (t1 := 35) (t2 := 42) (r := []) rfl (fun c9 => ?_) (fun c9 => ?_)
        · skip
          have h32 := c9
          refine ww_blk xCC okX5_fraction 19 5 (ps := [¬ (nI (Nat.gcd a b)) = 0]) (pc' := 46) (lv' := [(3, .int (nI (Nat.gcd a b))), (0, .int (nI a)), (1, .int (nI b)), (2, .int w)]) (st' := [.long (((nI a) / (nI (Nat.gcd a b))).toInt64)]) (z' := z) rfl (fun w9 => absurd ((sEQ (a := Nat.gcd a b) (b := 0) (by omega) (by omega)).mp w9) (by omega)) ?_
          rw [show nI a / nI (Nat.gcd a b) = nI (a / Nat.gcd a b) from pk_div (by omega) (by omega) (by omega)]
          rw [nI_l (n := (a / Nat.gcd a b)) (by omega)]
          subst xhQ
          exact ww_lret xCC okX5_fraction 28 xhr rfl ⟨_, rfl, (by first | (rw [if_neg (by omega)]) | (rw [if_pos (by omega)]; unfold sLow; first | (rw [if_pos (by rw [h32]; rfl)]) | (rw [if_neg (by intro q; apply h32; apply Int32.toInt_inj.mp; show w.toInt = 0; omega)])) | (exfalso; omega))⟩
        · skip
          have h32 := c9
          refine ww_blk xCC okX5_fraction 24 4 (ps := [¬ (nI (Nat.gcd a b)) = 0]) (pc' := 46) (lv' := [(3, .int (nI (Nat.gcd a b))), (0, .int (nI a)), (1, .int (nI b)), (2, .int w)]) (st' := [.long (((nI b) / (nI (Nat.gcd a b))).toInt64)]) (z' := z) rfl (fun w9 => absurd ((sEQ (a := Nat.gcd a b) (b := 0) (by omega) (by omega)).mp w9) (by omega)) ?_
          rw [show nI b / nI (Nat.gcd a b) = nI (b / Nat.gcd a b) from pk_div (by omega) (by omega) (by omega)]
          rw [nI_l (n := (b / Nat.gcd a b)) (by omega)]
          subst xhQ
          exact ww_lret xCC okX5_fraction 28 xhr rfl ⟨_, rfl, (by first | (rw [if_neg (by omega)]) | (rw [if_pos (by omega)]; unfold sLow; first | (rw [if_pos (by rw [h32]; rfl)]) | (rw [if_neg (by intro q; apply h32; apply Int32.toInt_inj.mp; show w.toInt = 0; omega)])) | (exfalso; omega))⟩
    · skip
      have h3 : ¬ (0 ≤ w.toInt ∧ w.toInt ≤ 1) := h3
      refine ww_br xCC okX5_fraction 6 (P := 0 = 0) (t1 := 13) (t2 := 17) (r := []) rfl (fun _ => ?_) (fun q => absurd (by decide) q)
      refine ww_blk xCC okX5_fraction 7 1 (ps := []) (pc' := 16) (lv' := [(0, .int (nI a)), (1, .int (nI b)), (2, .int w)]) (st' := [.long (-4611686018427387904)]) (z' := z) rfl trivial ?_
      subst xhQ
      exact ww_lret xCC okX5_fraction 8 xhr rfl ⟨_, rfl, (by first | (rw [if_neg (by omega)]) | (rw [if_pos (by omega)]; unfold sLow; first | (rw [if_pos (by rw [h32]; rfl)]) | (rw [if_neg (by intro q; apply h32; apply Int32.toInt_inj.mp; show w.toInt = 0; omega)])) | (exfalso; omega))⟩
