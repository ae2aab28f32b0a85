/-! the model's run -/
theorem KS_rf (z : xMem) : KS z z := ⟨fun _ _ _ => rfl, fun _ _ => rfl⟩
theorem KS_WC {z a : xMem} (h : WC z a) : KS z a := ⟨fun q _ h8 => h.1 q h8, fun j _ => congrFun (h.1 0 (by decide)) j⟩
theorem TM_KS {z z' : xMem} {cnt : Nat} {tc : Nat → sTc} (h : KS z z') (ht : TM z cnt tc) : TM z' cnt tc := by
  obtain ⟨h1, h2, h3, h4⟩ := ht
  refine ⟨(h.2 3 (by omega)).trans h1, h2, h3, fun t hl => ?_⟩
  obtain ⟨bt, n, p, a1, a2, a3, a4, a5⟩ := h4 t hl
  exact ⟨bt, n, p, by rw [h.1 2 (by decide) (by decide)]; exact a1, a2, fun i hi => by rw [h.1 1 (by decide) (by decide)]; exact a3 i hi, a4, a5⟩
def sRun (tc : Nat → sTc) (r : sR) (x w : Int32) : Int32 :=
  if 0 ≤ x.toInt ∧ x.toInt ≤ 20 ∧ 0 ≤ w.toInt ∧ w.toInt ≤ 2 then
    (if w.toInt.toNat = 0 then nI (sAl ((sGo tc r x.toInt.toNat).1 0) 8) else if w.toInt.toNat = 1 then nI ((sGo tc r x.toInt.toNat).1 7 3) else nI (sGo tc r x.toInt.toNat).2)
  else -2
theorem sRun_y {tc : Nat → sTc} {r : sR} {m u : Nat} (hm : m ≤ 20) (hu : u ≤ 2) : sRun tc r (nI m) (nI u) = if u = 0 then nI (sAl ((sGo tc r m).1 0) 8) else if u = 1 then nI ((sGo tc r m).1 7 3) else nI (sGo tc r m).2 := by
  unfold sRun
  rw [sTI (k := m) (by omega), sTI (k := u) (by omega), if_pos (by omega)]
  rfl
set_option maxHeartbeats 4000000 in
set_option maxRecDepth 20000 in
theorem t_X6_run (l : Launch) (d : Nat) (x w : Int32) (z : xMem) (r : sR) (cnt : Nat) (tc : Nat → sTc) (hr : RM z r) (hw : sW r cnt) (ht : TM z cnt tc) (hY : r 7 2 ≤ 999) : XMi l (d + 313) yX6_run cX6_run 5 (some .int) shM [.ref 0, .int x, .int w] z (fun v z' => v = sRun tc r x w ∧ KS z z') := by
  refine XM.of (by decide) (Nat.le_of_ble_eq_true rfl) (fun xp xe xs xm xar xbl xme xc xD xcs xad xAA xCC xhr => ?_)
  generalize xhQ : MQ xbl _ xar xs 0 0 xAA = xQ
  show ww xp l xe (xRm (d + 313)) xs xm xar xbl xme xc 5 xD xcs xad shM xAA xQ 0 [(0, .ref 0), (1, .int x), (2, .int w)] [] z
  have h74 : r 7 4 ≤ 4 := hw.2.2.2.2.2.2.1
  refine ww_blk xCC okX6_run 0 4 (ps := []) (pc' := 6) (lv' := [(0, .ref 0), (1, .int x), (2, .int w)]) (st' := [.long 20, .long 0, .long x.toInt64]) (z' := z) rfl trivial ?_
  refine ww_callSNz xCC okX6_run 4 (ix := 82) (t_X6_in l d x.toInt64 0 20 x.toInt 0 20 (Int32.toInt_toInt64 _) rfl rfl  _) (by omega) (by decide) xyX6_in xiX6_in (Or.inl (lw_gt_of (List.mem_of_getElem? (i := 962) (by decide +kernel)) rfl)) rfl (rest := []) rfl (Nat.le_of_ble_eq_true rfl) rfl (fun z1 h2 => ?_) (fun z1 h2 => ?_)
  · skip
    have h2 : 0 ≤ x.toInt ∧ x.toInt ≤ 20 := h2
    obtain ⟨m, hm, rfl⟩ := sNN (x := x) (n := 21) h2.1 (by omega)
    refine ww_br xCC okX6_run 5 (P := 1 = 0) (t1 := 24) (t2 := 12) (r := []) rfl (fun q => absurd q (by decide)) (fun _ => ?_)
    refine ww_blk xCC okX6_run 6 4 (ps := []) (pc' := 18) (lv' := [(0, .ref 0), (1, .int (nI m)), (2, .int w)]) (st' := [.long 2, .long 0, .long w.toInt64]) (z' := z) rfl trivial ?_
    refine ww_callSNz xCC okX6_run 10 (ix := 82) (t_X6_in l d w.toInt64 0 2 w.toInt 0 2 (Int32.toInt_toInt64 _) rfl rfl  _) (by omega) (by decide) xyX6_in xiX6_in (Or.inl (lw_gt_of (List.mem_of_getElem? (i := 962) (by decide +kernel)) rfl)) rfl (rest := []) rfl (Nat.le_of_ble_eq_true rfl) rfl (fun z4 h5 => ?_) (fun z4 h5 => ?_)
    · skip
      have h5 : 0 ≤ w.toInt ∧ w.toInt ≤ 2 := h5
      obtain ⟨u, hu, rfl⟩ := sNN (x := w) (n := 3) h5.1 (by omega)
      refine ww_br xCC okX6_run 11 (P := 1 = 0) (t1 := 24) (t2 := 27) (r := []) rfl (fun q => absurd q (by decide)) (fun _ => ?_)
      refine ww_blk xCC okX6_run 14 1 (ps := []) (pc' := 28) (lv' := [(0, .ref 0), (1, .int (nI m)), (2, .int (nI u))]) (st' := [.ref 0]) (z' := z) rfl trivial ?_
      refine ww_callVIv xCC okX6_run 15 (ix := 295) (t_X6_laysAside l (d + 312) z) (by omega) (by decide) xyX6_laysAside xiX6_laysAside (Or.inl (lw_gt_of (List.mem_of_getElem? (i := 1147) (by decide +kernel)) rfl)) rfl rfl rfl (rest := []) rfl (Nat.le_of_ble_eq_true rfl) rfl (fun zA hA => ?_)
      have hrA := RM_KS (KS_WC hA) hr
      have htA := TM_KS (KS_WC hA) ht
      refine ww_blk xCC okX6_run 16 2 (ps := []) (pc' := 33) (lv' := [(0, .ref 0), (1, .int (nI m)), (2, .int (nI u))]) (st' := [.int (nI m), .ref 0]) (z' := zA) rfl trivial ?_
      refine ww_callVIi xCC okX6_run 18 (ix := 298) (t_X6_go l d m zA r cnt tc hrA hw htA (by omega) (by omega)) (by omega) (by decide) xyX6_go xiX6_go (Or.inl (lw_gt_of (List.mem_of_getElem? (i := 1151) (by decide +kernel)) rfl)) rfl rfl rfl (rest := []) rfl (Nat.le_of_ble_eq_true rfl) rfl (fun vG zG hG => ?_)
      rw [hG.1]
      have hD := WD_of hA hG.2.2.2 hr hG.2.1 (sOut_go (tc := tc) h74 m)
      refine ww_blk xCC okX6_run 19 2 (ps := []) (pc' := 38) (lv' := [(3, .int (nI (sGo tc r m).2)), (0, .ref 0), (1, .int (nI m)), (2, .int (nI u))]) (st' := [.int (nI u)]) (z' := zG) rfl trivial ?_
      refine ww_br xCC okX6_run 21 (P := (nI u) = 0) (t1 := 41) (t2 := 48) (r := []) rfl (fun c8 => ?_) (fun c8 => ?_)
      · skip
        replace c8 : u = 0 := (sEQ (a := u) (b := 0) (by omega) (by omega)).mp c8
        refine ww_blk xCC okX6_run 22 1 (ps := []) (pc' := 42) (lv' := [(3, .int (nI (sGo tc r m).2)), (0, .ref 0), (1, .int (nI m)), (2, .int (nI u))]) (st' := [.ref 0]) (z' := zG) rfl trivial ?_
        refine ww_callVIi xCC okX6_run 23 (ix := 119) (t_X6_alive l d zG ((sGo tc r m).1 0) hG.2.1.1 (fun j => Nat.lt_of_le_of_lt (hG.2.2.1.1 j).1 (by decide))) (by omega) (by decide) xyX6_alive xiX6_alive (Or.inl (lw_gt_of (List.mem_of_getElem? (i := 1007) (by decide +kernel)) rfl)) rfl rfl rfl (rest := []) rfl (Nat.le_of_ble_eq_true rfl) rfl (fun v11 z9 h10 => ?_)
        rw [h10.1, h10.2]
        refine ww_blk xCC okX6_run 24 1 (ps := []) (pc' := 61) (lv' := [(3, .int (nI (sGo tc r m).2)), (0, .ref 0), (1, .int (nI m)), (2, .int (nI u))]) (st' := [.int (nI (sAl ((sGo tc r m).1 0) 8))]) (z' := zG) rfl trivial ?_
        refine ww_blk xCC okX6_run 32 2 (ps := []) (pc' := 64) (lv' := [(4, .int (nI (sAl ((sGo tc r m).1 0) 8))), (3, .int (nI (sGo tc r m).2)), (0, .ref 0), (1, .int (nI m)), (2, .int (nI u))]) (st' := [.ref 0]) (z' := zG) rfl trivial ?_
        refine ww_callVIv xCC okX6_run 34 (ix := 301) (t_X6_laysBack l (d + 312) z zG hD) (by omega) (by decide) xyX6_laysBack xiX6_laysBack (Or.inl (lw_gt_of (List.mem_of_getElem? (i := 1159) (by decide +kernel)) rfl)) rfl rfl rfl (rest := []) rfl (Nat.le_of_ble_eq_true rfl) rfl (fun zB hB => ?_)
        refine ww_blk xCC okX6_run 35 1 (ps := []) (pc' := 69) (lv' := [(4, .int (nI (sAl ((sGo tc r m).1 0) 8))), (3, .int (nI (sGo tc r m).2)), (0, .ref 0), (1, .int (nI m)), (2, .int (nI u))]) (st' := [.int (nI (sAl ((sGo tc r m).1 0) 8))]) (z' := zB) rfl trivial ?_
        subst xhQ
        exact ww_iret xCC okX6_run 36 xhr rfl rfl ⟨_, rfl, ⟨(by rw [sRun_y (by omega) (by omega)]; grind), hB⟩⟩
      · skip
        replace c8 : ¬ u = 0 := fun q => c8 ((sEQ (a := u) (b := 0) (by omega) (by omega)).mpr q)
        refine ww_blk xCC okX6_run 25 2 (ps := []) (pc' := 50) (lv' := [(3, .int (nI (sGo tc r m).2)), (0, .ref 0), (1, .int (nI m)), (2, .int (nI u))]) (st' := [.int 1, .int (nI u)]) (z' := zG) rfl trivial ?_
        refine ww_br xCC okX6_run 27 (P := (nI u) = 1) (t1 := 53) (t2 := 60) (r := []) rfl (fun c13 => ?_) (fun c13 => ?_)
        · skip
          replace c13 : u = 1 := (sEQ (a := u) (b := 1) (by omega) (by omega)).mp c13
          refine ww_blk xCC okX6_run 28 3 (ps := []) (pc' := 61) (lv' := [(3, .int (nI (sGo tc r m).2)), (0, .ref 0), (1, .int (nI m)), (2, .int (nI u))]) (st' := [.int (zG.1 0 10)]) (z' := zG) rfl trivial ?_
          rw [hG.2.1.2.2.2.2.2.2.2.2.2.2.1]
          refine ww_blk xCC okX6_run 32 2 (ps := []) (pc' := 64) (lv' := [(4, .int (nI ((sGo tc r m).1 7 3))), (3, .int (nI (sGo tc r m).2)), (0, .ref 0), (1, .int (nI m)), (2, .int (nI u))]) (st' := [.ref 0]) (z' := zG) rfl trivial ?_
          refine ww_callVIv xCC okX6_run 34 (ix := 301) (t_X6_laysBack l (d + 312) z zG hD) (by omega) (by decide) xyX6_laysBack xiX6_laysBack (Or.inl (lw_gt_of (List.mem_of_getElem? (i := 1159) (by decide +kernel)) rfl)) rfl rfl rfl (rest := []) rfl (Nat.le_of_ble_eq_true rfl) rfl (fun zB hB => ?_)
          refine ww_blk xCC okX6_run 35 1 (ps := []) (pc' := 69) (lv' := [(4, .int (nI ((sGo tc r m).1 7 3))), (3, .int (nI (sGo tc r m).2)), (0, .ref 0), (1, .int (nI m)), (2, .int (nI u))]) (st' := [.int (nI ((sGo tc r m).1 7 3))]) (z' := zB) rfl trivial ?_
          subst xhQ
          exact ww_iret xCC okX6_run 36 xhr rfl rfl ⟨_, rfl, ⟨(by rw [sRun_y (by omega) (by omega)]; grind), hB⟩⟩
        · skip
          replace c13 : ¬ u = 1 := fun q => c13 ((sEQ (a := u) (b := 1) (by omega) (by omega)).mpr q)
          refine ww_blk xCC okX6_run 31 3 (ps := []) (pc' := 64) (lv' := [(4, .int (nI (sGo tc r m).2)), (3, .int (nI (sGo tc r m).2)), (0, .ref 0), (1, .int (nI m)), (2, .int (nI u))]) (st' := [.ref 0]) (z' := zG) rfl trivial ?_
          refine ww_callVIv xCC okX6_run 34 (ix := 301) (t_X6_laysBack l (d + 312) z zG hD) (by omega) (by decide) xyX6_laysBack xiX6_laysBack (Or.inl (lw_gt_of (List.mem_of_getElem? (i := 1159) (by decide +kernel)) rfl)) rfl rfl rfl (rest := []) rfl (Nat.le_of_ble_eq_true rfl) rfl (fun zB hB => ?_)
          refine ww_blk xCC okX6_run 35 1 (ps := []) (pc' := 69) (lv' := [(4, .int (nI (sGo tc r m).2)), (3, .int (nI (sGo tc r m).2)), (0, .ref 0), (1, .int (nI m)), (2, .int (nI u))]) (st' := [.int (nI (sGo tc r m).2)]) (z' := zB) rfl trivial ?_
          subst xhQ
          exact ww_iret xCC okX6_run 36 xhr rfl rfl ⟨_, rfl, ⟨(by rw [sRun_y (by omega) (by omega)]; grind), hB⟩⟩
    · skip
      have h5 : ¬ (0 ≤ w.toInt ∧ w.toInt ≤ 2) := h5
      refine ww_br xCC okX6_run 11 (P := 0 = 0) (t1 := 24) (t2 := 27) (r := []) rfl (fun _ => ?_) (fun q => absurd (by decide) q)
      refine ww_blk xCC okX6_run 12 1 (ps := []) (pc' := 26) (lv' := [(0, .ref 0), (1, .int (nI m)), (2, .int w)]) (st' := [.int (-2)]) (z' := z) rfl trivial ?_
      subst xhQ
      exact ww_iret xCC okX6_run 13 xhr rfl rfl ⟨_, rfl, ⟨(by unfold sRun; rw [if_neg (by omega)]), KS_rf z⟩⟩
  · skip
    have h2 : ¬ (0 ≤ x.toInt ∧ x.toInt ≤ 20) := h2
    refine ww_br xCC okX6_run 5 (P := 0 = 0) (t1 := 24) (t2 := 12) (r := []) rfl (fun _ => ?_) (fun q => absurd (by decide) q)
    refine ww_blk xCC okX6_run 12 1 (ps := []) (pc' := 26) (lv' := [(0, .ref 0), (1, .int x), (2, .int w)]) (st' := [.int (-2)]) (z' := z) rfl trivial ?_
    subst xhQ
    exact ww_iret xCC okX6_run 13 xhr rfl rfl ⟨_, rfl, ⟨(by unfold sRun; rw [if_neg (by omega)]), KS_rf z⟩⟩
