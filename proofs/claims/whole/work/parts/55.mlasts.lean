/-! the model's lasts -/
theorem sGo_1 {tc : Nat → sTc} {r : sR} {n : Nat} : (sGo tc (sGo tc r n).1 1).1 = (sGo tc r (n + 1)).1 := rfl
theorem sGo_yr {tc : Nat → sTc} {r : sR} : ∀ n, (sGo tc r n).1 7 2 = r 7 2 + n
  | 0 => rfl
  | n + 1 => by
    have e := sGo_yr (tc := tc) (r := r) n
    show sEnd (sAll tc (sGo tc r n).1).1 7 2 = _
    rw [sEnd_y, sAll_y, e]
    omega
/-- the first place where g is 0, or k -/
def sLk (g : Nat → Nat) : Nat → Nat
  | 0 => 0
  | k + 1 => if sLk g k < k then sLk g k else if 0 < g k then k + 1 else k
theorem sLk_y {g : Nat → Nat} {n : Nat} (e : sLk g n = n) (h : ¬ g n ≤ 0) : sLk g (n + 1) = n + 1 := by
  rw [sLk, e, if_neg (Nat.lt_irrefl n), if_pos (by omega)]
theorem sLk_st {g : Nat → Nat} {n : Nat} (h : n ≤ 40) (e : sLk g n = n) (hz : g n ≤ 0) : sLk g 41 = n := by
  have a : ∀ k, sLk g (n + 1 + k) = n := by
    intro k
    induction k with
    | zero =>
      show sLk g (n + 1) = n
      rw [sLk, e, if_neg (Nat.lt_irrefl n), if_neg (by omega)]
    | succ k ih =>
      show sLk g (n + 1 + k + 1) = n
      rw [sLk, ih, if_pos (by omega)]
  have b := a (40 - n)
  rw [show n + 1 + (40 - n) = 41 by omega] at b
  exact b
def sLasts (tc : Nat → sTc) (r : sR) (x : Int32) : Int32 :=
  if 0 ≤ x.toInt ∧ x.toInt ≤ 7 then (if sLk (fun k => (sGo tc r k).1 0 x.toInt.toNat) 41 ≤ 40 then nI (sLk (fun k => (sGo tc r k).1 0 x.toInt.toNat) 41) else -1) else -2
theorem sLasts_y {tc : Nat → sTc} {r : sR} {a : Nat} (h : a < 8) : sLasts tc r (nI a) = if sLk (fun k => (sGo tc r k).1 0 a) 41 ≤ 40 then nI (sLk (fun k => (sGo tc r k).1 0 a) 41) else -1 := by
  unfold sLasts
  rw [sTI (k := a) (by omega), if_pos (by omega)]
  rfl
set_option maxHeartbeats 4000000 in
set_option maxRecDepth 20000 in
theorem t_X6_lasts (l : Launch) (d : Nat) (x : Int32) (z : xMem) (r : sR) (cnt : Nat) (tc : Nat → sTc) (hr : RM z r) (hw : sW r cnt) (ht : TM z cnt tc) (hY : r 7 2 ≤ 999) : XMi l (d + 313) yX6_lasts cX6_lasts 3 (some .int) shM [.ref 0, .int x] z (fun v z' => v = sLasts tc r x ∧ KS z z') := by
  refine XM.of (by decide) (Nat.le_of_ble_eq_true rfl) (fun xp xe xs xm xar xbl xme xc xD xcs xad xAA xCC xhr => ?_)
  generalize xhQ : MQ xbl _ xar xs 0 0 xAA = xQ
  show ww xp l xe (xRm (d + 313)) xs xm xar xbl xme xc 3 xD xcs xad shM xAA xQ 0 [(0, .ref 0), (1, .int x)] [] z
  have h74 : r 7 4 ≤ 4 := hw.2.2.2.2.2.2.1
  refine ww_blk xCC okX6_lasts 0 1 (ps := []) (pc' := 1) (lv' := [(0, .ref 0), (1, .int x)]) (st' := [.int x]) (z' := z) rfl trivial ?_
  refine ww_callSNz xCC okX6_lasts 1 (ix := 90) (t_X6_isLaw l d x _) (by omega) (by decide) xyX6_isLaw xiX6_isLaw (Or.inl (lw_gt_of (List.mem_of_getElem? (i := 969) (by decide +kernel)) rfl)) rfl (rest := []) rfl (Nat.le_of_ble_eq_true rfl) rfl (fun z1 h2 => ?_) (fun z1 h2 => ?_)
  · skip
    have h2 : 0 ≤ x.toInt ∧ x.toInt ≤ 7 := h2
    obtain ⟨a, ha, rfl⟩ := sNN (x := x) (n := 8) h2.1 (by omega)
    refine ww_br xCC okX6_lasts 2 (P := 1 = 0) (t1 := 7) (t2 := 10) (r := []) rfl (fun q => absurd q (by decide)) (fun _ => ?_)
    refine ww_blk xCC okX6_lasts 5 1 (ps := []) (pc' := 11) (lv' := [(0, .ref 0), (1, .int (nI a))]) (st' := [.ref 0]) (z' := z) rfl trivial ?_
    refine ww_callVIv xCC okX6_lasts 6 (ix := 295) (t_X6_laysAside l (d + 312) z) (by omega) (by decide) xyX6_laysAside xiX6_laysAside (Or.inl (lw_gt_of (List.mem_of_getElem? (i := 1147) (by decide +kernel)) rfl)) rfl rfl rfl (rest := []) rfl (Nat.le_of_ble_eq_true rfl) rfl (fun zA hA => ?_)
    have hrA := RM_KS (KS_WC hA) hr
    have htA := TM_KS (KS_WC hA) ht
    refine ww_blk xCC okX6_lasts 7 2 (ps := []) (pc' := 16) (lv' := [(2, .int 0), (0, .ref 0), (1, .int (nI a))]) (st' := []) (z' := zA) rfl trivial ?_
    have L16 : ∀ (n16 : Nat) (n : Nat) (zL : xMem), 41 - n < n16 → (n ≤ 41) → (RM zL (sGo tc r n).1) → (sW (sGo tc r n).1 cnt) → (KO zA zL) → (sLk (fun k => (sGo tc r k).1 0 a) n = n) → ww xp l xe (xRm (d + 313)) xs xm xar xbl xme xc 3 xD xcs xad shM xAA xQ 16 [(2, .int (nI n)), (0, .ref 0), (1, .int (nI a))] [] zL := by
      intro n16
      induction n16 with
      | zero =>
        intro n zL hmu16
        exact absurd hmu16 (Nat.not_lt_zero _)
      | succ n16 ih16 =>
        intro n zL hmu16 e16_0 e16_1 e16_2 e16_3 e16_4
        have htL := TM_KO e16_3 htA
        have hla := (e16_2.1 a).1
        refine ww_blk xCC okX6_lasts 9 2 (ps := []) (pc' := 19) (lv' := [(2, .int (nI n)), (0, .ref 0), (1, .int (nI a))]) (st' := [.int 40, .int (nI n)]) (z' := zL) rfl trivial ?_
        refine ww_br xCC okX6_lasts 11 (P := 40 < (nI n)) (t1 := 43) (t2 := 22) (r := []) rfl (fun c5 => ?_) (fun c5 => ?_)
        · skip
          replace c5 : 40 < n := (sLT (a := 40) (b := n) (by omega) (by omega)).mp c5
          have hq : sLk (fun k => (sGo tc r k).1 0 a) 41 = n := (by have e : n = 41 := (by omega); rw [e] at e16_4; rw [e]; exact e16_4)
          refine ww_blk xCC okX6_lasts 23 1 (ps := []) (pc' := 44) (lv' := [(2, .int (nI n)), (0, .ref 0), (1, .int (nI a))]) (st' := [.ref 0]) (z' := zL) rfl trivial ?_
          refine ww_callVIv xCC okX6_lasts 24 (ix := 301) (t_X6_laysBack l (d + 312) z zL (WD_of hA e16_3 hr e16_1 (sOut_go (tc := tc) h74 n))) (by omega) (by decide) xyX6_laysBack xiX6_laysBack (Or.inl (lw_gt_of (List.mem_of_getElem? (i := 1159) (by decide +kernel)) rfl)) rfl rfl rfl (rest := []) rfl (Nat.le_of_ble_eq_true rfl) rfl (fun zB hB => ?_)
          refine ww_blk xCC okX6_lasts 25 2 (ps := []) (pc' := 50) (lv' := [(2, .int (nI n)), (0, .ref 0), (1, .int (nI a))]) (st' := [.int 40, .int (nI n)]) (z' := zB) rfl trivial ?_
          refine ww_br xCC okX6_lasts 27 (P := (nI n) ≤ 40) (t1 := 57) (t2 := 53) (r := []) rfl (fun c7 => ?_) (fun c7 => ?_)
          · skip
            replace c7 : n ≤ 40 := (sLE (a := n) (b := 40) (by omega) (by omega)).mp c7
            refine ww_blk xCC okX6_lasts 30 1 (ps := []) (pc' := 58) (lv' := [(2, .int (nI n)), (0, .ref 0), (1, .int (nI a))]) (st' := [.int (nI n)]) (z' := zB) rfl trivial ?_
            subst xhQ
            exact ww_iret xCC okX6_lasts 31 xhr rfl rfl ⟨_, rfl, ⟨(by rw [sLasts_y (by omega), hq]; first | (exfalso; omega) | rw [if_pos (by omega)] | rw [if_neg (by omega)]), hB⟩⟩
          · skip
            replace c7 : ¬ n ≤ 40 := fun q => c7 ((sLE (a := n) (b := 40) (by omega) (by omega)).mpr q)
            refine ww_blk xCC okX6_lasts 28 2 (ps := []) (pc' := 58) (lv' := [(2, .int (nI n)), (0, .ref 0), (1, .int (nI a))]) (st' := [.int (-1)]) (z' := zB) rfl trivial ?_
            subst xhQ
            exact ww_iret xCC okX6_lasts 31 xhr rfl rfl ⟨_, rfl, ⟨(by rw [sLasts_y (by omega), hq]; first | (exfalso; omega) | rw [if_pos (by omega)] | rw [if_neg (by omega)]), hB⟩⟩
        · skip
          replace c5 : ¬ 40 < n := fun q => c5 ((sLT (a := 40) (b := n) (by omega) (by omega)).mpr q)
          refine ww_blk xCC okX6_lasts 12 4 (ps := [vp_in (nI a) 8]) (pc' := 28) (lv' := [(2, .int (nI n)), (0, .ref 0), (1, .int (nI a))]) (st' := [.int (zL.1 4 (nI a).toNatClampNeg)]) (z' := zL) rfl (vp_in_nI (by omega) (by decide)) ?_
          rw [sCL (n := a) (by omega)]
          rw [e16_1.1 a]
          refine ww_br xCC okX6_lasts 16 (P := (nI ((sGo tc r n).1 0 a)) ≤ 0) (t1 := 43) (t2 := 31) (r := []) rfl (fun c8 => ?_) (fun c8 => ?_)
          · skip
            replace c8 : ((sGo tc r n).1 0 a) ≤ 0 := (sLE (a := ((sGo tc r n).1 0 a)) (b := 0) (by omega) (by omega)).mp c8
            have hq : sLk (fun k => (sGo tc r k).1 0 a) 41 = n := sLk_st (by omega) e16_4 c8
            refine ww_blk xCC okX6_lasts 23 1 (ps := []) (pc' := 44) (lv' := [(2, .int (nI n)), (0, .ref 0), (1, .int (nI a))]) (st' := [.ref 0]) (z' := zL) rfl trivial ?_
            refine ww_callVIv xCC okX6_lasts 24 (ix := 301) (t_X6_laysBack l (d + 312) z zL (WD_of hA e16_3 hr e16_1 (sOut_go (tc := tc) h74 n))) (by omega) (by decide) xyX6_laysBack xiX6_laysBack (Or.inl (lw_gt_of (List.mem_of_getElem? (i := 1159) (by decide +kernel)) rfl)) rfl rfl rfl (rest := []) rfl (Nat.le_of_ble_eq_true rfl) rfl (fun zB hB => ?_)
            refine ww_blk xCC okX6_lasts 25 2 (ps := []) (pc' := 50) (lv' := [(2, .int (nI n)), (0, .ref 0), (1, .int (nI a))]) (st' := [.int 40, .int (nI n)]) (z' := zB) rfl trivial ?_
            refine ww_br xCC okX6_lasts 27 (P := (nI n) ≤ 40) (t1 := 57) (t2 := 53) (r := []) rfl (fun c10 => ?_) (fun c10 => ?_)
            · skip
              replace c10 : n ≤ 40 := (sLE (a := n) (b := 40) (by omega) (by omega)).mp c10
              refine ww_blk xCC okX6_lasts 30 1 (ps := []) (pc' := 58) (lv' := [(2, .int (nI n)), (0, .ref 0), (1, .int (nI a))]) (st' := [.int (nI n)]) (z' := zB) rfl trivial ?_
              subst xhQ
              exact ww_iret xCC okX6_lasts 31 xhr rfl rfl ⟨_, rfl, ⟨(by rw [sLasts_y (by omega), hq]; first | (exfalso; omega) | rw [if_pos (by omega)] | rw [if_neg (by omega)]), hB⟩⟩
            · skip
              replace c10 : ¬ n ≤ 40 := fun q => c10 ((sLE (a := n) (b := 40) (by omega) (by omega)).mpr q)
              refine ww_blk xCC okX6_lasts 28 2 (ps := []) (pc' := 58) (lv' := [(2, .int (nI n)), (0, .ref 0), (1, .int (nI a))]) (st' := [.int (-1)]) (z' := zB) rfl trivial ?_
              subst xhQ
              exact ww_iret xCC okX6_lasts 31 xhr rfl rfl ⟨_, rfl, ⟨(by rw [sLasts_y (by omega), hq]; first | (exfalso; omega) | rw [if_pos (by omega)] | rw [if_neg (by omega)]), hB⟩⟩
          · skip
            replace c8 : ¬ ((sGo tc r n).1 0 a) ≤ 0 := fun q => c8 ((sLE (a := ((sGo tc r n).1 0 a)) (b := 0) (by omega) (by omega)).mpr q)
            refine ww_blk xCC okX6_lasts 17 2 (ps := []) (pc' := 33) (lv' := [(2, .int (nI n)), (0, .ref 0), (1, .int (nI a))]) (st' := [.int 1, .ref 0]) (z' := zL) rfl trivial ?_
            refine ww_callVIi xCC okX6_lasts 19 (ix := 298) (t_X6_go l d 1 zL (sGo tc r n).1 cnt tc e16_1 e16_2 htL (by decide) (by rw [sGo_yr]; omega)) (by omega) (by decide) xyX6_go xiX6_go (Or.inl (lw_gt_of (List.mem_of_getElem? (i := 1151) (by decide +kernel)) rfl)) rfl rfl rfl (rest := []) rfl (Nat.le_of_ble_eq_true rfl) rfl (fun vG zG hG => ?_)
            refine ww_blk xCC okX6_lasts 20 3 (ps := []) (pc' := 16) (lv' := [(2, .int ((nI n) + 1)), (0, .ref 0), (1, .int (nI a))]) (st' := []) (z' := zG) rfl trivial ?_
            exact ww_cut [0, 1, 2] (xlc (congrArg Value.int (show ((nI n) + 1 : Int32) = nI (n + 1) from nI_1 n)) (xlc rfl (xlc rfl rfl))) rfl rfl (ih16 (n + 1) zG (by omega) (by omega) (by rw [← sGo_1]; exact hG.2.1) (by rw [← sGo_1]; exact hG.2.2.1) (KO_tr e16_3 hG.2.2.2) (sLk_y e16_4 (by omega)))
    exact ww_cut [0, 1, 2] (xlc (congrArg Value.int (show (0 : Int32) = nI 0 from rfl)) (xlc rfl (xlc rfl rfl))) rfl rfl (L16 (41 - 0 + 1) 0 zA (Nat.lt_succ_self _) (by omega) hrA hw (KO_rf zA) rfl)
  · skip
    have h2 : ¬ (0 ≤ x.toInt ∧ x.toInt ≤ 7) := h2
    refine ww_br xCC okX6_lasts 2 (P := 0 = 0) (t1 := 7) (t2 := 10) (r := []) rfl (fun _ => ?_) (fun q => absurd (by decide) q)
    refine ww_blk xCC okX6_lasts 3 1 (ps := []) (pc' := 9) (lv' := [(0, .ref 0), (1, .int x)]) (st' := [.int (-2)]) (z' := z) rfl trivial ?_
    subst xhQ
    exact ww_iret xCC okX6_lasts 4 xhr rfl rfl ⟨_, rfl, ⟨(by unfold sLasts; rw [if_neg (by omega)]), KS_rf z⟩⟩
