/-! tokens of the model -/
set_option maxHeartbeats 4000000 in
set_option maxRecDepth 20000 in
theorem t_X6_byteAt (l : Launch) (d : Nat) (z : xMem) (bt : Nat → Nat) (n fr : Nat) (hpm : pM z bt n fr) (i : Nat) (hi : i < 2 ^ 30) : XMi l d yX6_byteAt cX6_byteAt 2 (some .int) shM [.ref 0, .int (nI i)] z (fun v z' => v = pB bt n i ∧ z' = z) := by
  refine XM.of (by decide) (Nat.le_of_ble_eq_true rfl) (fun xp xe xs xm xar xbl xme xc xD xcs xad xAA xCC xhr => ?_)
  generalize xhQ : MQ xbl _ xar xs 0 0 xAA = xQ
  show ww xp l xe (xRm d) xs xm xar xbl xme xc 2 xD xcs xad shM xAA xQ 0 [(0, .ref 0), (1, .int (nI i))] [] z
  obtain ⟨g1, g2, g3, g4, g5, g6⟩ := hpm
  refine ww_blk xCC okX6_byteAt 0 3 (ps := []) (pc' := 5) (lv' := [(0, .ref 0), (1, .int (nI i))]) (st' := [.int (z.1 0 23), .int (nI i)]) (z' := z) rfl trivial ?_
  rw [g2]
  refine ww_br xCC okX6_byteAt 3 (P := (nI n) ≤ (nI i)) (t1 := 22) (t2 := 8) (r := []) rfl (fun c1 => ?_) (fun c1 => ?_)
  · skip
    replace c1 : n ≤ i := (sLE (a := n) (b := i) (by omega) (by omega)).mp c1
    refine ww_blk xCC okX6_byteAt 12 1 (ps := []) (pc' := 23) (lv' := [(0, .ref 0), (1, .int (nI i))]) (st' := [.int (-1)]) (z' := z) rfl trivial ?_
    subst xhQ
    exact ww_iret xCC okX6_byteAt 13 xhr rfl rfl ⟨_, rfl, ⟨(by rw [pB_out (by omega)]), rfl⟩⟩
  · skip
    replace c1 : ¬ n ≤ i := fun q => c1 ((sLE (a := n) (b := i) (by omega) (by omega)).mpr q)
    refine ww_blk xCC okX6_byteAt 4 8 (ps := [vp_in ((z.1 0 22) + (nI i)) 960]) (pc' := 23) (lv' := [(0, .ref 0), (1, .int (nI i))]) (st' := [.int (z.1 1 ((z.1 0 22) + (nI i)).toNatClampNeg)]) (z' := z) rfl (by rw [g1, nI_add]; exact vp_in_nI (by omega) (by decide)) ?_
    rw [g1]
    rw [nI_add fr i]
    rw [sCL (n := (fr + i)) (by omega)]
    subst xhQ
    exact ww_iret xCC okX6_byteAt 13 xhr rfl rfl ⟨_, rfl, ⟨(by rw [pB_in (by omega)]; exact g3 i (by omega)), rfl⟩⟩

set_option maxHeartbeats 4000000 in
set_option maxRecDepth 20000 in
theorem t_X6_fail (l : Launch) (d : Nat) (z : xMem) : XMv l d yX6_fail cX6_fail 1 none shM [.ref 0] z (fun z' => z' = if z.1 0 29 = 0 then mPut (mPut z 0 29 1) 0 30 (z.1 0 26) else z) := by
  refine XM.of (by decide) (Nat.le_of_ble_eq_true rfl) (fun xp xe xs xm xar xbl xme xc xD xcs xad xAA xCC xhr => ?_)
  generalize xhQ : MQ xbl _ xar xs 0 0 xAA = xQ
  show ww xp l xe (xRm d) xs xm xar xbl xme xc 1 xD xcs xad shM xAA xQ 0 [(0, .ref 0)] [] z
  refine ww_blk xCC okX6_fail 0 2 (ps := []) (pc' := 4) (lv' := [(0, .ref 0)]) (st' := [.int (z.1 0 29)]) (z' := z) rfl trivial ?_
  refine ww_br xCC okX6_fail 2 (P := (z.1 0 29) = 0) (t1 := 7) (t2 := 20) (r := []) rfl (fun c1 => ?_) (fun c1 => ?_)
  · skip
    refine ww_blk xCC okX6_fail 3 7 (ps := [1 = 0 ∨ 1 = 1]) (pc' := 20) (lv' := [(0, .ref 0)]) (st' := []) (z' := (mPut (mPut z 0 29 1) 0 30 (z.1 0 26))) rfl (Or.inr rfl) ?_
    subst xhQ
    exact ww_vret xCC okX6_fail 10 xhr rfl ⟨rfl, (by rw [if_pos (by assumption)]; rfl)⟩
  · skip
    subst xhQ
    exact ww_vret xCC okX6_fail 10 xhr rfl ⟨rfl, (by rw [if_neg (by assumption)])⟩
