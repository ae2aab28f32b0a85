/-! the model's unionOf, harmOf -/
theorem sBitK : ∀ i, i < 10 → ∀ a, a < 1024 → (((nI a >>> (nI i &&& 31)) &&& 1 = 1) ↔ a.testBit i = true) := by decide +kernel
def sUn (r : sR) (m : Nat) : Nat → Nat
  | 0 => 0
  | k + 1 => sUn r m k ||| (if m.testBit k = true then r 1 k else 0)
def sHm (r : sR) (m : Nat) : Nat → Nat
  | 0 => 0
  | k + 1 => sHm r m k + (if m.testBit k = true then r 2 k else 0)
theorem sUn_y {r : sR} {m i : Nat} (h : m.testBit i = true) : nI (sUn r m i) ||| nI (r 1 i) = nI (sUn r m (i + 1)) := by rw [sUn, if_pos h, fa_or]
theorem sUn_n {r : sR} {m i : Nat} (h : m.testBit i = false) : nI (sUn r m i) ||| 0 = nI (sUn r m (i + 1)) := by rw [sUn, if_neg (by rw [h]; decide), ← fa_or]; rfl
theorem sHm_y {r : sR} {m i : Nat} (h : m.testBit i = true) : nI (sHm r m i) + nI (r 2 i) = nI (sHm r m (i + 1)) := by rw [sHm, if_pos h, nI_add]
theorem sHm_n {r : sR} {m i : Nat} (h : m.testBit i = false) : nI (sHm r m i) + 0 = nI (sHm r m (i + 1)) := by rw [sHm, if_neg (by rw [h]; decide), ← nI_add]; rfl
set_option maxHeartbeats 4000000 in
set_option maxRecDepth 20000 in
theorem t_X6_unionOf (l : Launch) (d : Nat) (m : Nat) (z : xMem) (r : sR) (hr : RM z r) (hm : m < 1024) : XMi l d yX6_unionOf cX6_unionOf 4 (some .int) shM [.ref 0, .int (nI m)] z (fun v z' => v = nI (sUn r m 10) ∧ z' = z) := by
  refine XM.of (by decide) (Nat.le_of_ble_eq_true rfl) (fun xp xe xs xm xar xbl xme xc xD xcs xad xAA xCC xhr => ?_)
  generalize xhQ : MQ xbl _ xar xs 0 0 xAA = xQ
  show ww xp l xe (xRm d) xs xm xar xbl xme xc 4 xD xcs xad shM xAA xQ 0 [(0, .ref 0), (1, .int (nI m))] [] z
  refine ww_blk xCC okX6_unionOf 0 4 (ps := []) (pc' := 4) (lv' := [(3, .int 0), (2, .int 0), (0, .ref 0), (1, .int (nI m))]) (st' := []) (z' := z) rfl trivial ?_
  have L4 : ∀ (n4 : Nat) (i : Nat), 10 - i < n4 → (i ≤ 10) → ww xp l xe (xRm d) xs xm xar xbl xme xc 4 xD xcs xad shM xAA xQ 4 [(3, .int (nI i)), (2, .int (nI (sUn r m i))), (0, .ref 0), (1, .int (nI m))] [] z := by
    intro n4
    induction n4 with
    | zero =>
      intro i hmu4
      exact absurd hmu4 (Nat.not_lt_zero _)
    | succ n4 ih4 =>
      intro i hmu4 e4_0
      refine ww_blk xCC okX6_unionOf 4 2 (ps := []) (pc' := 7) (lv' := [(3, .int (nI i)), (2, .int (nI (sUn r m i))), (0, .ref 0), (1, .int (nI m))]) (st' := [.int 10, .int (nI i)]) (z' := z) rfl trivial ?_
      refine ww_br xCC okX6_unionOf 6 (P := 10 ≤ (nI i)) (t1 := 38) (t2 := 10) (r := []) rfl (fun c1 => ?_) (fun c1 => ?_)
      · skip
        replace c1 : 10 ≤ i := (sLE (a := 10) (b := i) (by omega) (by omega)).mp c1
        refine ww_blk xCC okX6_unionOf 25 1 (ps := []) (pc' := 39) (lv' := [(3, .int (nI i)), (2, .int (nI (sUn r m i))), (0, .ref 0), (1, .int (nI m))]) (st' := [.int (nI (sUn r m i))]) (z' := z) rfl trivial ?_
        subst xhQ
        exact ww_iret xCC okX6_unionOf 26 xhr rfl rfl ⟨_, rfl, ⟨(by rw [show i = 10 by omega]), rfl⟩⟩
      · skip
        replace c1 : ¬ 10 ≤ i := fun q => c1 ((sLE (a := 10) (b := i) (by omega) (by omega)).mpr q)
        refine ww_blk xCC okX6_unionOf 7 7 (ps := []) (pc' := 17) (lv' := [(3, .int (nI i)), (2, .int (nI (sUn r m i))), (0, .ref 0), (1, .int (nI m))]) (st' := [.int 1, .int (((nI m) >>> ((nI i) &&& 31)) &&& 1), .int (nI (sUn r m i))]) (z' := z) rfl trivial ?_
        refine ww_br xCC okX6_unionOf 14 (P := (((nI m) >>> ((nI i) &&& 31)) &&& 1) = 1) (t1 := 20) (t2 := 29) (r := [.int (nI (sUn r m i))]) rfl (fun c2 => ?_) (fun c2 => ?_)
        · skip
          have h17 : m.testBit i = true := (sBitK i (by omega) m hm).mp c2
          refine ww_blk xCC okX6_unionOf 15 5 (ps := [vp_in (nI i) 10]) (pc' := 30) (lv' := [(3, .int (nI i)), (2, .int (nI (sUn r m i))), (0, .ref 0), (1, .int (nI m))]) (st' := [.int (z.1 5 (nI i).toNatClampNeg), .int (nI (sUn r m i))]) (z' := z) rfl (vp_in_nI (by omega) (by decide)) ?_
          rw [sCL (n := i) (by omega)]
          rw [hr.2.1 i]
          refine ww_blk xCC okX6_unionOf 21 4 (ps := []) (pc' := 4) (lv' := [(3, .int ((nI i) + 1)), (2, .int ((nI (sUn r m i)) ||| (nI (r 1 i)))), (0, .ref 0), (1, .int (nI m))]) (st' := []) (z' := z) rfl trivial ?_
          exact ww_cut [0, 1, 2, 3] (xlc (congrArg Value.int (show ((nI i) + 1 : Int32) = nI (i + 1) from nI_1 i)) (xlc (congrArg Value.int (show ((nI (sUn r m i)) ||| (nI (r 1 i)) : Int32) = nI (sUn r m (i + 1)) from sUn_y h17)) (xlc rfl (xlc rfl rfl)))) rfl rfl (ih4 (i + 1) (by omega) (by omega))
        · skip
          have h17 : m.testBit i = false := (Bool.eq_false_or_eq_true _).resolve_left (fun q => c2 ((sBitK i (by omega) m hm).mpr q))
          refine ww_blk xCC okX6_unionOf 20 5 (ps := []) (pc' := 4) (lv' := [(3, .int ((nI i) + 1)), (2, .int ((nI (sUn r m i)) ||| 0)), (0, .ref 0), (1, .int (nI m))]) (st' := []) (z' := z) rfl trivial ?_
          exact ww_cut [0, 1, 2, 3] (xlc (congrArg Value.int (show ((nI i) + 1 : Int32) = nI (i + 1) from nI_1 i)) (xlc (congrArg Value.int (show ((nI (sUn r m i)) ||| 0 : Int32) = nI (sUn r m (i + 1)) from sUn_n h17)) (xlc rfl (xlc rfl rfl)))) rfl rfl (ih4 (i + 1) (by omega) (by omega))
  exact ww_cut [0, 1, 2, 3] (xlc (congrArg Value.int (show (0 : Int32) = nI 0 from rfl)) (xlc (congrArg Value.int (show (0 : Int32) = nI (sUn r m 0) from rfl)) (xlc rfl (xlc rfl rfl)))) rfl rfl (L4 (10 - 0 + 1) 0 (Nat.lt_succ_self _) (by omega))

set_option maxHeartbeats 4000000 in
set_option maxRecDepth 20000 in
theorem t_X6_harmOf (l : Launch) (d : Nat) (m : Nat) (z : xMem) (r : sR) (hr : RM z r) (hm : m < 1024) : XMi l d yX6_harmOf cX6_harmOf 4 (some .int) shM [.ref 0, .int (nI m)] z (fun v z' => v = nI (sHm r m 10) ∧ z' = z) := by
  refine XM.of (by decide) (Nat.le_of_ble_eq_true rfl) (fun xp xe xs xm xar xbl xme xc xD xcs xad xAA xCC xhr => ?_)
  generalize xhQ : MQ xbl _ xar xs 0 0 xAA = xQ
  show ww xp l xe (xRm d) xs xm xar xbl xme xc 4 xD xcs xad shM xAA xQ 0 [(0, .ref 0), (1, .int (nI m))] [] z
  refine ww_blk xCC okX6_harmOf 0 4 (ps := []) (pc' := 4) (lv' := [(3, .int 0), (2, .int 0), (0, .ref 0), (1, .int (nI m))]) (st' := []) (z' := z) rfl trivial ?_
  have L4 : ∀ (n4 : Nat) (i : Nat), 10 - i < n4 → (i ≤ 10) → ww xp l xe (xRm d) xs xm xar xbl xme xc 4 xD xcs xad shM xAA xQ 4 [(3, .int (nI i)), (2, .int (nI (sHm r m i))), (0, .ref 0), (1, .int (nI m))] [] z := by
    intro n4
    induction n4 with
    | zero =>
      intro i hmu4
      exact absurd hmu4 (Nat.not_lt_zero _)
    | succ n4 ih4 =>
      intro i hmu4 e4_0
      refine ww_blk xCC okX6_harmOf 4 2 (ps := []) (pc' := 7) (lv' := [(3, .int (nI i)), (2, .int (nI (sHm r m i))), (0, .ref 0), (1, .int (nI m))]) (st' := [.int 10, .int (nI i)]) (z' := z) rfl trivial ?_
      refine ww_br xCC okX6_harmOf 6 (P := 10 ≤ (nI i)) (t1 := 38) (t2 := 10) (r := []) rfl (fun c1 => ?_) (fun c1 => ?_)
      · skip
        replace c1 : 10 ≤ i := (sLE (a := 10) (b := i) (by omega) (by omega)).mp c1
        refine ww_blk xCC okX6_harmOf 25 1 (ps := []) (pc' := 39) (lv' := [(3, .int (nI i)), (2, .int (nI (sHm r m i))), (0, .ref 0), (1, .int (nI m))]) (st' := [.int (nI (sHm r m i))]) (z' := z) rfl trivial ?_
        subst xhQ
        exact ww_iret xCC okX6_harmOf 26 xhr rfl rfl ⟨_, rfl, ⟨(by rw [show i = 10 by omega]), rfl⟩⟩
      · skip
        replace c1 : ¬ 10 ≤ i := fun q => c1 ((sLE (a := 10) (b := i) (by omega) (by omega)).mpr q)
        refine ww_blk xCC okX6_harmOf 7 7 (ps := []) (pc' := 17) (lv' := [(3, .int (nI i)), (2, .int (nI (sHm r m i))), (0, .ref 0), (1, .int (nI m))]) (st' := [.int 1, .int (((nI m) >>> ((nI i) &&& 31)) &&& 1), .int (nI (sHm r m i))]) (z' := z) rfl trivial ?_
        refine ww_br xCC okX6_harmOf 14 (P := (((nI m) >>> ((nI i) &&& 31)) &&& 1) = 1) (t1 := 20) (t2 := 29) (r := [.int (nI (sHm r m i))]) rfl (fun c2 => ?_) (fun c2 => ?_)
        · skip
          have h17 : m.testBit i = true := (sBitK i (by omega) m hm).mp c2
          refine ww_blk xCC okX6_harmOf 15 5 (ps := [vp_in (nI i) 10]) (pc' := 30) (lv' := [(3, .int (nI i)), (2, .int (nI (sHm r m i))), (0, .ref 0), (1, .int (nI m))]) (st' := [.int (z.1 6 (nI i).toNatClampNeg), .int (nI (sHm r m i))]) (z' := z) rfl (vp_in_nI (by omega) (by decide)) ?_
          rw [sCL (n := i) (by omega)]
          rw [hr.2.2.1 i]
          refine ww_blk xCC okX6_harmOf 21 4 (ps := []) (pc' := 4) (lv' := [(3, .int ((nI i) + 1)), (2, .int ((nI (sHm r m i)) + (nI (r 2 i)))), (0, .ref 0), (1, .int (nI m))]) (st' := []) (z' := z) rfl trivial ?_
          exact ww_cut [0, 1, 2, 3] (xlc (congrArg Value.int (show ((nI i) + 1 : Int32) = nI (i + 1) from nI_1 i)) (xlc (congrArg Value.int (show ((nI (sHm r m i)) + (nI (r 2 i)) : Int32) = nI (sHm r m (i + 1)) from sHm_y h17)) (xlc rfl (xlc rfl rfl)))) rfl rfl (ih4 (i + 1) (by omega) (by omega))
        · skip
          have h17 : m.testBit i = false := (Bool.eq_false_or_eq_true _).resolve_left (fun q => c2 ((sBitK i (by omega) m hm).mpr q))
          refine ww_blk xCC okX6_harmOf 20 5 (ps := []) (pc' := 4) (lv' := [(3, .int ((nI i) + 1)), (2, .int ((nI (sHm r m i)) + 0)), (0, .ref 0), (1, .int (nI m))]) (st' := []) (z' := z) rfl trivial ?_
          exact ww_cut [0, 1, 2, 3] (xlc (congrArg Value.int (show ((nI i) + 1 : Int32) = nI (i + 1) from nI_1 i)) (xlc (congrArg Value.int (show ((nI (sHm r m i)) + 0 : Int32) = nI (sHm r m (i + 1)) from sHm_n h17)) (xlc rfl (xlc rfl rfl)))) rfl rfl (ih4 (i + 1) (by omega) (by omega))
  exact ww_cut [0, 1, 2, 3] (xlc (congrArg Value.int (show (0 : Int32) = nI 0 from rfl)) (xlc (congrArg Value.int (show (0 : Int32) = nI (sHm r m 0) from rfl)) (xlc rfl (xlc rfl rfl)))) rfl rfl (L4 (10 - 0 + 1) 0 (Nat.lt_succ_self _) (by omega))
