/-! leaves of the model -/
set_option maxHeartbeats 4000000 in
set_option maxRecDepth 20000 in
theorem t_X6_within (l : Launch) (d : Nat) (v a b : Int32) (z : xMem) : XMi l d yX6_within cX6_within 3 (some .int) [] [.int v, .int a, .int b] z (fun r _ => r = sWi v a b) := by
  refine XM.of (by decide) (Nat.le_of_ble_eq_true rfl) (fun xp xe xs xm xar xbl xme xc xD xcs xad xAA xCC xhr => ?_)
  generalize xhQ : MQ xbl _ xar xs 0 0 xAA = xQ
  show ww xp l xe (xRm d) xs xm xar xbl xme xc 3 xD xcs xad [] xAA xQ 0 [(0, .int v), (1, .int a), (2, .int b)] [] z
  refine ww_blk xCC okX6_within 0 2 (ps := []) (pc' := 2) (lv' := [(0, .int v), (1, .int a), (2, .int b)]) (st' := [.int a, .int v]) (z' := z) rfl trivial ?_
  refine ww_br xCC okX6_within 2 (P := a ≤ v) (t1 := 9) (t2 := 5) (r := []) rfl (fun c1 => ?_) (fun c1 => ?_)
  · skip
    refine ww_blk xCC okX6_within 5 2 (ps := []) (pc' := 11) (lv' := [(0, .int v), (1, .int a), (2, .int b)]) (st' := [.int b, .int v]) (z' := z) rfl trivial ?_
    refine ww_br xCC okX6_within 7 (P := v ≤ b) (t1 := 18) (t2 := 14) (r := []) rfl (fun c2 => ?_) (fun c2 => ?_)
    · skip
      refine ww_blk xCC okX6_within 10 1 (ps := []) (pc' := 19) (lv' := [(0, .int v), (1, .int a), (2, .int b)]) (st' := [.int v]) (z' := z) rfl trivial ?_
      subst xhQ
      exact ww_iret xCC okX6_within 11 xhr rfl rfl ⟨_, rfl, (by unfold sWi; simp only [Int32.lt_iff_toInt_lt, Int32.le_iff_toInt_le] at *; split <;> first | rfl | (exfalso; omega) | (split <;> first | rfl | (exfalso; omega)))⟩
    · skip
      refine ww_blk xCC okX6_within 8 2 (ps := []) (pc' := 19) (lv' := [(0, .int v), (1, .int a), (2, .int b)]) (st' := [.int b]) (z' := z) rfl trivial ?_
      subst xhQ
      exact ww_iret xCC okX6_within 11 xhr rfl rfl ⟨_, rfl, (by unfold sWi; simp only [Int32.lt_iff_toInt_lt, Int32.le_iff_toInt_le] at *; split <;> first | rfl | (exfalso; omega) | (split <;> first | rfl | (exfalso; omega)))⟩
  · skip
    refine ww_blk xCC okX6_within 3 2 (ps := []) (pc' := 19) (lv' := [(0, .int v), (1, .int a), (2, .int b)]) (st' := [.int a]) (z' := z) rfl trivial ?_
    subst xhQ
    exact ww_iret xCC okX6_within 11 xhr rfl rfl ⟨_, rfl, (by unfold sWi; simp only [Int32.lt_iff_toInt_lt, Int32.le_iff_toInt_le] at *; split <;> first | rfl | (exfalso; omega) | (split <;> first | rfl | (exfalso; omega)))⟩

set_option maxHeartbeats 4000000 in
set_option maxRecDepth 20000 in
theorem t_X6_in (l : Launch) (d : Nat) (v a b : Int64) (vi ai bi : Int) (hv : v.toInt = vi) (ha : a.toInt = ai) (hb : b.toInt = bi) (z : xMem) : XMz l d yX6_in cX6_in 6 (some .boolean) [] [.long v, .long a, .long b] z (fun _ => ai ≤ vi ∧ vi ≤ bi) (fun _ => ¬ (ai ≤ vi ∧ vi ≤ bi)) := by
  refine XM.of (by decide) (Nat.le_of_ble_eq_true rfl) (fun xp xe xs xm xar xbl xme xc xD xcs xad xAA xCC xhr => ?_)
  generalize xhQ : MQ xbl _ xar xs 0 0 xAA = xQ
  show ww xp l xe (xRm d) xs xm xar xbl xme xc 6 xD xcs xad [] xAA xQ 0 [(0, .long v), (2, .long a), (4, .long b)] [] z
  refine ww_blk xCC okX6_in 0 3 (ps := []) (pc' := 3) (lv' := [(0, .long v), (2, .long a), (4, .long b)]) (st' := [.int (lg_cmp v a)]) (z' := z) rfl trivial ?_
  refine ww_br xCC okX6_in 3 (P := (lg_cmp v a) < 0) (t1 := 17) (t2 := 6) (r := []) rfl (fun c1 => ?_) (fun c1 => ?_)
  · skip
    refine ww_blk xCC okX6_in 10 1 (ps := []) (pc' := 18) (lv' := [(0, .long v), (2, .long a), (4, .long b)]) (st' := [.int 0]) (z' := z) rfl trivial ?_
    subst xhQ
    exact ww_iret xCC okX6_in 11 xhr rfl (by decide) (Or.inr ⟨rfl, (by simp only [lg_cmp_lt, lg_cmp_gt, Int64.lt_iff_toInt_lt, hv, ha, hb] at *; omega)⟩)
  · skip
    refine ww_blk xCC okX6_in 4 3 (ps := []) (pc' := 10) (lv' := [(0, .long v), (2, .long a), (4, .long b)]) (st' := [.int (lg_cmp v b)]) (z' := z) rfl trivial ?_
    refine ww_br xCC okX6_in 7 (P := 0 < (lg_cmp v b)) (t1 := 17) (t2 := 13) (r := []) rfl (fun c2 => ?_) (fun c2 => ?_)
    · skip
      refine ww_blk xCC okX6_in 10 1 (ps := []) (pc' := 18) (lv' := [(0, .long v), (2, .long a), (4, .long b)]) (st' := [.int 0]) (z' := z) rfl trivial ?_
      subst xhQ
      exact ww_iret xCC okX6_in 11 xhr rfl (by decide) (Or.inr ⟨rfl, (by simp only [lg_cmp_lt, lg_cmp_gt, Int64.lt_iff_toInt_lt, hv, ha, hb] at *; omega)⟩)
    · skip
      refine ww_blk xCC okX6_in 8 2 (ps := []) (pc' := 18) (lv' := [(0, .long v), (2, .long a), (4, .long b)]) (st' := [.int 1]) (z' := z) rfl trivial ?_
      subst xhQ
      exact ww_iret xCC okX6_in 11 xhr rfl (by decide) (Or.inl ⟨rfl, (by simp only [lg_cmp_lt, lg_cmp_gt, Int64.lt_iff_toInt_lt, hv, ha, hb] at *; omega)⟩)

set_option maxHeartbeats 4000000 in
set_option maxRecDepth 20000 in
theorem t_X6_bitsOf (l : Launch) (d : Nat) (n : Nat) (hn : n < 1024) (z : xMem) : XMi l d yX6_bitsOf cX6_bitsOf 3 (some .int) [] [.int (nI n)] z (fun r _ => r = nI (sPop n)) := by
  refine XM.of (by decide) (Nat.le_of_ble_eq_true rfl) (fun xp xe xs xm xar xbl xme xc xD xcs xad xAA xCC xhr => ?_)
  generalize xhQ : MQ xbl _ xar xs 0 0 xAA = xQ
  show ww xp l xe (xRm d) xs xm xar xbl xme xc 3 xD xcs xad [] xAA xQ 0 [(0, .int (nI n))] [] z
  refine ww_blk xCC okX6_bitsOf 0 4 (ps := []) (pc' := 4) (lv' := [(2, .int (nI n)), (1, .int 0), (0, .int (nI n))]) (st' := []) (z' := z) rfl trivial ?_
  have L4 : ∀ (n4 : Nat) (m : Nat) (k : Nat), m < n4 → (m < 1024) → (k + sPop m = sPop n) → ww xp l xe (xRm d) xs xm xar xbl xme xc 3 xD xcs xad [] xAA xQ 4 [(2, .int (nI m)), (1, .int (nI k))] [] z := by
    intro n4
    induction n4 with
    | zero =>
      intro m k hmu4
      exact absurd hmu4 (Nat.not_lt_zero _)
    | succ n4 ih4 =>
      intro m k hmu4 e4_0 e4_1
      refine ww_blk xCC okX6_bitsOf 4 1 (ps := []) (pc' := 5) (lv' := [(2, .int (nI m)), (1, .int (nI k))]) (st' := [.int (nI m)]) (z' := z) rfl trivial ?_
      refine ww_br xCC okX6_bitsOf 5 (P := (nI m) = 0) (t1 := 20) (t2 := 8) (r := []) rfl (fun c1 => ?_) (fun c1 => ?_)
      · skip
        have hm0 : m = 0 := (nI_eq (b := 0) (by omega) (by omega)).mp c1
        refine ww_blk xCC okX6_bitsOf 14 1 (ps := []) (pc' := 21) (lv' := [(2, .int (nI m)), (1, .int (nI k))]) (st' := [.int (nI k)]) (z' := z) rfl trivial ?_
        subst xhQ
        exact ww_iret xCC okX6_bitsOf 15 xhr rfl rfl ⟨_, rfl, (by rw [hm0, sPop_0] at e4_1; rw [← e4_1]; rfl)⟩
      · skip
        have hm0 : m ≠ 0 := fun q => c1 (by rw [q]; rfl)
        have hs := sPop_step0 m (by omega) hm0
        refine ww_blk xCC okX6_bitsOf 6 8 (ps := []) (pc' := 4) (lv' := [(2, .int ((nI m) &&& ((nI m) - 1))), (1, .int ((nI k) + 1))]) (st' := []) (z' := z) rfl trivial ?_
        exact ww_cut [0, 1] (xlc (congrArg Value.int (show ((nI m) &&& ((nI m) - 1) : Int32) = nI (m &&& (m - 1)) from hs.1)) (xlc (congrArg Value.int (show ((nI k) + 1 : Int32) = nI (k + 1) from nI_1 k)) rfl)) rfl rfl (ih4 (m &&& (m - 1)) (k + 1) (by omega) (by omega) (by omega))
  exact ww_cut [0, 1] (xlc rfl (xlc (congrArg Value.int (show (0 : Int32) = nI 0 from nI_0.symm)) rfl)) rfl rfl (L4 (n + 1) n 0 (Nat.lt_succ_self _) hn (by omega))

set_option maxHeartbeats 4000000 in
set_option maxRecDepth 20000 in
theorem t_X6_isDeed (l : Launch) (d : Nat) (x : Int32) (z : xMem) : XMz l (d + 1) yX6_isDeed cX6_isDeed 1 (some .boolean) [] [.int x] z (fun _ => 0 ≤ x.toInt ∧ x.toInt ≤ 9) (fun _ => ¬ (0 ≤ x.toInt ∧ x.toInt ≤ 9)) := by
  refine XM.of (by decide) (Nat.le_of_ble_eq_true rfl) (fun xp xe xs xm xar xbl xme xc xD xcs xad xAA xCC xhr => ?_)
  generalize xhQ : MQ xbl _ xar xs 0 0 xAA = xQ
  show ww xp l xe (xRm (d + 1)) xs xm xar xbl xme xc 1 xD xcs xad [] xAA xQ 0 [(0, .int x)] [] z
  refine ww_blk xCC okX6_isDeed 0 4 (ps := []) (pc' := 6) (lv' := [(0, .int x)]) (st' := [.long 9, .long 0, .long x.toInt64]) (z' := z) rfl trivial ?_
  refine ww_callSNz xCC okX6_isDeed 4 (ix := 82) (t_X6_in l d x.toInt64 0 9 x.toInt 0 9 (Int32.toInt_toInt64 _) rfl rfl  _) (by omega) (by decide) xyX6_in xiX6_in (Or.inl (lw_gt_of (List.mem_of_getElem? (i := 962) (by decide +kernel)) rfl)) rfl (rest := []) rfl (Nat.le_of_ble_eq_true rfl) rfl (fun z1 h2 => ?_) (fun z1 h2 => ?_)
  · skip
    have h2 : 0 ≤ x.toInt ∧ x.toInt ≤ 9 := h2
    subst xhQ
    exact ww_iret xCC okX6_isDeed 5 xhr rfl (by decide) (Or.inl ⟨rfl, (by assumption)⟩)
  · skip
    have h2 : ¬ (0 ≤ x.toInt ∧ x.toInt ≤ 9) := h2
    subst xhQ
    exact ww_iret xCC okX6_isDeed 5 xhr rfl (by decide) (Or.inr ⟨rfl, (by assumption)⟩)

set_option maxHeartbeats 4000000 in
set_option maxRecDepth 20000 in
theorem t_X6_isLaw (l : Launch) (d : Nat) (x : Int32) (z : xMem) : XMz l (d + 1) yX6_isLaw cX6_isLaw 1 (some .boolean) [] [.int x] z (fun _ => 0 ≤ x.toInt ∧ x.toInt ≤ 7) (fun _ => ¬ (0 ≤ x.toInt ∧ x.toInt ≤ 7)) := by
  refine XM.of (by decide) (Nat.le_of_ble_eq_true rfl) (fun xp xe xs xm xar xbl xme xc xD xcs xad xAA xCC xhr => ?_)
  generalize xhQ : MQ xbl _ xar xs 0 0 xAA = xQ
  show ww xp l xe (xRm (d + 1)) xs xm xar xbl xme xc 1 xD xcs xad [] xAA xQ 0 [(0, .int x)] [] z
  refine ww_blk xCC okX6_isLaw 0 4 (ps := []) (pc' := 6) (lv' := [(0, .int x)]) (st' := [.long 7, .long 0, .long x.toInt64]) (z' := z) rfl trivial ?_
  refine ww_callSNz xCC okX6_isLaw 4 (ix := 82) (t_X6_in l d x.toInt64 0 7 x.toInt 0 7 (Int32.toInt_toInt64 _) rfl rfl  _) (by omega) (by decide) xyX6_in xiX6_in (Or.inl (lw_gt_of (List.mem_of_getElem? (i := 962) (by decide +kernel)) rfl)) rfl (rest := []) rfl (Nat.le_of_ble_eq_true rfl) rfl (fun z1 h2 => ?_) (fun z1 h2 => ?_)
  · skip
    have h2 : 0 ≤ x.toInt ∧ x.toInt ≤ 7 := h2
    subst xhQ
    exact ww_iret xCC okX6_isLaw 5 xhr rfl (by decide) (Or.inl ⟨rfl, (by assumption)⟩)
  · skip
    have h2 : ¬ (0 ≤ x.toInt ∧ x.toInt ≤ 7) := h2
    subst xhQ
    exact ww_iret xCC okX6_isLaw 5 xhr rfl (by decide) (Or.inr ⟨rfl, (by assumption)⟩)
