/-! the model's force -/
def sForce (r : sR) (t : Nat) : sR := fun q j => if q = 7 ∧ j = 5 then t else r q j
theorem RM_force {z : xMem} {r : sR} {t : Nat} (h : RM z r) : RM (mPut z 0 4 (nI t)) (sForce r t) := by
  obtain ⟨a1, a2, a3, a4, a5, a6, a7, b1, b2, b3, b4, b5, b6⟩ := h
  refine ⟨fun j => ?_, fun j => ?_, fun j => ?_, fun j => ?_, fun j => ?_, fun j => ?_, fun j => ?_, ?_, ?_, ?_, ?_, ?_, ?_⟩
  · simp [mPut_rd, sForce, a1]
  · simp [mPut_rd, sForce, a2]
  · simp [mPut_rd, sForce, a3]
  · simp [mPut_rd, sForce, a4]
  · simp [mPut_rd, sForce, a5]
  · simp [mPut_rd, sForce, a6]
  · simp [mPut_rd, sForce, a7]
  · simp [mPut_rd, sForce, b1]
  · simp [mPut_rd, sForce, b2]
  · simp [mPut_rd, sForce, b3]
  · simp [mPut_rd, sForce, b4]
  · simp [mPut_rd, sForce, b5]
  · simp [mPut_rd, sForce]
set_option maxHeartbeats 4000000 in
set_option maxRecDepth 20000 in
theorem t_X6_force (l : Launch) (d : Nat) (x : Int32) (z : xMem) (r : sR) (cnt : Nat) (tc : Nat → sTc) (hr : RM z r) (ht : TM z cnt tc) : XMi l (d + 1) yX6_force cX6_force 3 (some .int) shM [.ref 0, .int x] z (fun v z' => (¬ (0 ≤ x.toInt ∧ x.toInt < cnt) ∧ v = -2 ∧ z' = z) ∨ (∃ t, x = nI t ∧ t < cnt ∧ v = nI (r 7 5) ∧ z' = mPut z 0 4 (nI t))) := by
  refine XM.of (by decide) (Nat.le_of_ble_eq_true rfl) (fun xp xe xs xm xar xbl xme xc xD xcs xad xAA xCC xhr => ?_)
  generalize xhQ : MQ xbl _ xar xs 0 0 xAA = xQ
  show ww xp l xe (xRm (d + 1)) xs xm xar xbl xme xc 3 xD xcs xad shM xAA xQ 0 [(0, .ref 0), (1, .int x)] [] z
  have h3 : z.1 0 3 = nI cnt := ht.1
  have hc6 : cnt ≤ 6 := ht.2.2.1
  have h5 : z.1 0 4 = nI (r 7 5) := hr.2.2.2.2.2.2.2.2.2.2.2.2
  refine ww_blk xCC okX6_force 0 8 (ps := []) (pc' := 10) (lv' := [(0, .ref 0), (1, .int x)]) (st' := [.long (((z.1 0 3) - 1).toInt64), .long 0, .long x.toInt64]) (z' := z) rfl trivial ?_
  rw [h3]
  refine ww_callSNz xCC okX6_force 8 (ix := 82) (t_X6_in l d x.toInt64 0 (((nI cnt) - 1).toInt64) x.toInt 0 (((nI cnt) - 1).toInt) (Int32.toInt_toInt64 _) rfl (Int32.toInt_toInt64 _)  _) (by omega) (by decide) xyX6_in xiX6_in (Or.inl (lw_gt_of (List.mem_of_getElem? (i := 962) (by decide +kernel)) rfl)) rfl (rest := []) rfl (Nat.le_of_ble_eq_true rfl) rfl (fun z1 h2 => ?_) (fun z1 h2 => ?_)
  · skip
    have h2 : 0 ≤ x.toInt ∧ x.toInt ≤ ((nI cnt) - 1).toInt := h2
    rw [sSub1 (by omega)] at h2
    obtain ⟨t, ht9, rfl⟩ := sNN (x := x) (n := cnt) h2.1 (by omega)
    refine ww_br xCC okX6_force 9 (P := 1 = 0) (t1 := 16) (t2 := 19) (r := []) rfl (fun q => absurd q (by decide)) (fun _ => ?_)
    refine ww_blk xCC okX6_force 12 7 (ps := []) (pc' := 30) (lv' := [(2, .int (z.1 0 4)), (0, .ref 0), (1, .int (nI t))]) (st' := [.int (z.1 0 4)]) (z' := (mPut z 0 4 (nI t))) rfl trivial ?_
    rw [h5]
    subst xhQ
    exact ww_iret xCC okX6_force 19 xhr rfl rfl ⟨_, rfl, (Or.inr ⟨t, rfl, ht9, rfl, rfl⟩)⟩
  · skip
    have h2 : ¬ (0 ≤ x.toInt ∧ x.toInt ≤ ((nI cnt) - 1).toInt) := h2
    rw [sSub1 (by omega)] at h2
    refine ww_br xCC okX6_force 9 (P := 0 = 0) (t1 := 16) (t2 := 19) (r := []) rfl (fun _ => ?_) (fun q => absurd (by decide) q)
    refine ww_blk xCC okX6_force 10 1 (ps := []) (pc' := 18) (lv' := [(0, .ref 0), (1, .int x)]) (st' := [.int (-2)]) (z' := z) rfl trivial ?_
    subst xhQ
    exact ww_iret xCC okX6_force 11 xhr rfl rfl ⟨_, rfl, (Or.inl ⟨(by omega), rfl, rfl⟩)⟩
