/-! readers of the model -/
set_option maxHeartbeats 4000000 in
set_option maxRecDepth 20000 in
theorem t_X6_isOne (l : Launch) (d : Nat) (x : Int32) (z : xMem) (k : Nat) (hk : z.1 0 15 = nI k) (hk4 : k ≤ 4) : XMz l (d + 1) yX6_isOne cX6_isOne 2 (some .boolean) shM [.ref 0, .int x] z (fun z' => (0 ≤ x.toInt ∧ x.toInt < k) ∧ z' = z) (fun z' => ¬ (0 ≤ x.toInt ∧ x.toInt < k) ∧ z' = z) := by
  refine XM.of (by decide) (Nat.le_of_ble_eq_true rfl) (fun xp xe xs xm xar xbl xme xc xD xcs xad xAA xCC xhr => ?_)
  generalize xhQ : MQ xbl _ xar xs 0 0 xAA = xQ
  show ww xp l xe (xRm (d + 1)) xs xm xar xbl xme xc 2 xD xcs xad shM xAA xQ 0 [(0, .ref 0), (1, .int x)] [] z
  refine ww_blk xCC okX6_isOne 0 8 (ps := []) (pc' := 10) (lv' := [(0, .ref 0), (1, .int x)]) (st' := [.long (((z.1 0 15) - 1).toInt64), .long 0, .long x.toInt64]) (z' := z) rfl trivial ?_
  refine ww_callSNz xCC okX6_isOne 8 (ix := 82) (t_X6_in l d x.toInt64 0 (((z.1 0 15) - 1).toInt64) x.toInt 0 (((z.1 0 15) - 1).toInt) (Int32.toInt_toInt64 _) rfl (Int32.toInt_toInt64 _)  _) (by omega) (by decide) xyX6_in xiX6_in (Or.inl (lw_gt_of (List.mem_of_getElem? (i := 962) (by decide +kernel)) rfl)) rfl (rest := []) rfl (Nat.le_of_ble_eq_true rfl) rfl (fun z1 h2 => ?_) (fun z1 h2 => ?_)
  · skip
    have h2 : 0 ≤ x.toInt ∧ x.toInt ≤ ((z.1 0 15) - 1).toInt := h2
    subst xhQ
    exact ww_iret xCC okX6_isOne 9 xhr rfl (by decide) (Or.inl ⟨rfl, ⟨(by rw [hk, sSub1 (by omega)] at *; omega), rfl⟩⟩)
  · skip
    have h2 : ¬ (0 ≤ x.toInt ∧ x.toInt ≤ ((z.1 0 15) - 1).toInt) := h2
    subst xhQ
    exact ww_iret xCC okX6_isOne 9 xhr rfl (by decide) (Or.inr ⟨rfl, ⟨(by rw [hk, sSub1 (by omega)] at *; omega), rfl⟩⟩)

set_option maxHeartbeats 4000000 in
set_option maxRecDepth 20000 in
theorem t_X6_alive (l : Launch) (d : Nat) (z : xMem) (f : Nat → Nat) (hf : ∀ j, z.1 4 j = nI (f j)) (hb : ∀ j, f j < 2 ^ 31) : XMi l d yX6_alive cX6_alive 3 (some .int) shM [.ref 0] z (fun v z' => v = nI (sAl f 8) ∧ z' = z) := by
  refine XM.of (by decide) (Nat.le_of_ble_eq_true rfl) (fun xp xe xs xm xar xbl xme xc xD xcs xad xAA xCC xhr => ?_)
  generalize xhQ : MQ xbl _ xar xs 0 0 xAA = xQ
  show ww xp l xe (xRm d) xs xm xar xbl xme xc 3 xD xcs xad shM xAA xQ 0 [(0, .ref 0)] [] z
  refine ww_blk xCC okX6_alive 0 4 (ps := []) (pc' := 4) (lv' := [(2, .int 0), (1, .int 0), (0, .ref 0)]) (st' := []) (z' := z) rfl trivial ?_
  have L4 : ∀ (n4 : Nat) (i : Nat), 8 - i < n4 → (i ≤ 8) → ww xp l xe (xRm d) xs xm xar xbl xme xc 3 xD xcs xad shM xAA xQ 4 [(2, .int (nI i)), (1, .int (nI (sAl f i))), (0, .ref 0)] [] z := by
    intro n4
    induction n4 with
    | zero =>
      intro i hmu4
      exact absurd hmu4 (Nat.not_lt_zero _)
    | succ n4 ih4 =>
      intro i hmu4 e4_0
      have hbi := hb i
      refine ww_blk xCC okX6_alive 4 2 (ps := []) (pc' := 7) (lv' := [(2, .int (nI i)), (1, .int (nI (sAl f i))), (0, .ref 0)]) (st' := [.int 8, .int (nI i)]) (z' := z) rfl trivial ?_
      refine ww_br xCC okX6_alive 6 (P := 8 ≤ (nI i)) (t1 := 35) (t2 := 10) (r := []) rfl (fun c1 => ?_) (fun c1 => ?_)
      · skip
        replace c1 : 8 ≤ i := (sLE (a := 8) (b := i) (by omega) (by omega)).mp c1
        refine ww_blk xCC okX6_alive 22 1 (ps := []) (pc' := 36) (lv' := [(2, .int (nI i)), (1, .int (nI (sAl f i))), (0, .ref 0)]) (st' := [.int (nI (sAl f i))]) (z' := z) rfl trivial ?_
        subst xhQ
        exact ww_iret xCC okX6_alive 23 xhr rfl rfl ⟨_, rfl, ⟨(by rw [show i = 8 by omega]), rfl⟩⟩
      · skip
        replace c1 : ¬ 8 ≤ i := fun q => c1 ((sLE (a := 8) (b := i) (by omega) (by omega)).mpr q)
        refine ww_blk xCC okX6_alive 7 5 (ps := [vp_in (nI i) 8]) (pc' := 17) (lv' := [(2, .int (nI i)), (1, .int (nI (sAl f i))), (0, .ref 0)]) (st' := [.int (z.1 4 (nI i).toNatClampNeg), .int (nI (sAl f i))]) (z' := z) rfl (vp_in_nI (by omega) (by decide)) ?_
        rw [sCL (n := i) (by omega)]
        rw [hf i]
        refine ww_br xCC okX6_alive 12 (P := (nI (f i)) ≤ 0) (t1 := 24) (t2 := 20) (r := [.int (nI (sAl f i))]) rfl (fun c2 => ?_) (fun c2 => ?_)
        · skip
          replace c2 : (f i) ≤ 0 := (sLE (a := (f i)) (b := 0) (by omega) (by omega)).mp c2
          refine ww_blk xCC okX6_alive 15 7 (ps := []) (pc' := 4) (lv' := [(2, .int ((nI i) + 1)), (1, .int ((nI (sAl f i)) ||| (0 <<< ((nI i) &&& 31)))), (0, .ref 0)]) (st' := []) (z' := z) rfl trivial ?_
          exact ww_cut [0, 1, 2] (xlc (congrArg Value.int (show ((nI i) + 1 : Int32) = nI (i + 1) from nI_1 i)) (xlc (congrArg Value.int (show ((nI (sAl f i)) ||| (0 <<< ((nI i) &&& 31)) : Int32) = nI (sAl f (i + 1)) from (by rw [sOr_no i (by omega) _ (sAl_lt f i), sAl, if_neg (by omega)]))) (xlc rfl rfl))) rfl rfl (ih4 (i + 1) (by omega) (by omega))
        · skip
          replace c2 : ¬ (f i) ≤ 0 := fun q => c2 ((sLE (a := (f i)) (b := 0) (by omega) (by omega)).mpr q)
          refine ww_blk xCC okX6_alive 13 2 (ps := []) (pc' := 25) (lv' := [(2, .int (nI i)), (1, .int (nI (sAl f i))), (0, .ref 0)]) (st' := [.int 1, .int (nI (sAl f i))]) (z' := z) rfl trivial ?_
          refine ww_blk xCC okX6_alive 16 6 (ps := []) (pc' := 4) (lv' := [(2, .int ((nI i) + 1)), (1, .int ((nI (sAl f i)) ||| (1 <<< ((nI i) &&& 31)))), (0, .ref 0)]) (st' := []) (z' := z) rfl trivial ?_
          exact ww_cut [0, 1, 2] (xlc (congrArg Value.int (show ((nI i) + 1 : Int32) = nI (i + 1) from nI_1 i)) (xlc (congrArg Value.int (show ((nI (sAl f i)) ||| (1 <<< ((nI i) &&& 31)) : Int32) = nI (sAl f (i + 1)) from (by rw [sOr_bit i (by omega) _ (sAl_lt f i), sAl, if_pos (by omega)]))) (xlc rfl rfl))) rfl rfl (ih4 (i + 1) (by omega) (by omega))
  exact ww_cut [0, 1, 2] (xlc (congrArg Value.int (show (0 : Int32) = nI 0 from rfl)) (xlc (congrArg Value.int (show (0 : Int32) = nI (sAl f 0) from rfl)) (xlc rfl rfl))) rfl rfl (L4 (8 - 0 + 1) 0 (Nat.lt_succ_self _) (by omega))
