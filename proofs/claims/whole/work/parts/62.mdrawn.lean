/-! the model's aliveDrawn, drawn, chance -/
def sNx (w : Int32) : Int32 := w * 1103515245 + 12345
def sU (w : Int32) : Nat := w.toBitVec.toNat / 512
theorem sU_lt (w : Int32) : sU w < 2 ^ 31 := by
  have := w.toBitVec.isLt
  unfold sU
  omega
theorem sU_eq (w : Int32) : (w.toUInt32 >>> ((9 : Int32).toUInt32 &&& Int32.toUInt32 31)).toInt32 = nI (sU w) := by
  apply Int32.toBitVec_inj.1
  apply BitVec.eq_of_toNat_eq
  rw [pk_ushr w 9 9 (by decide), pk_tn (by have := sU_lt w; omega)]
  rfl
/-- so many years drawn: the number at hand, the republic -/
def sDw (tc : Nat → sTc) (r : sR) (sd : Int32) : Nat → Int32 × sR
  | 0 => (sd, r)
  | t + 1 => (sNx (sNx (sDw tc r sd t).1), sEnd (if sU (sNx (sDw tc r sd t).1) % 8 < (sDw tc r sd t).2 7 4 ∧ sCan tc (sDw tc r sd t).2 (sU (sNx (sDw tc r sd t).1) % 8) (sU (sNx (sNx (sDw tc r sd t).1)) % 10) = true then sDone tc (sDw tc r sd t).2 (sU (sNx (sDw tc r sd t).1) % 8) (sU (sNx (sNx (sDw tc r sd t).1)) % 10) else (sDw tc r sd t).2))
theorem sDw_y {tc : Nat → sTc} {r0 r : sR} {sd w : Int32} {t : Nat} (e : sDw tc r0 sd t = (w, r)) (h : sU (sNx w) % 8 < r 7 4) (hc : sCan tc r (sU (sNx w) % 8) (sU (sNx (sNx w)) % 10) = true) : sDw tc r0 sd (t + 1) = (sNx (sNx w), sEnd (sDone tc r (sU (sNx w) % 8) (sU (sNx (sNx w)) % 10))) := by
  rw [sDw, e]
  simp only
  rw [if_pos ⟨h, hc⟩]
theorem sDw_n {tc : Nat → sTc} {r0 r : sR} {sd w : Int32} {t : Nat} (e : sDw tc r0 sd t = (w, r)) (h : ¬ sU (sNx w) % 8 < r 7 4 ∨ sCan tc r (sU (sNx w) % 8) (sU (sNx (sNx w)) % 10) = false) : sDw tc r0 sd (t + 1) = (sNx (sNx w), sEnd r) := by
  rw [sDw, e]
  simp only
  rw [if_neg (fun q => h.elim (fun w => w q.1) (fun w => by rw [w] at q; exact absurd q.2 (by decide)))]
theorem sOut_dw1 {tc : Nat → sTc} {r0 : sR} {sd : Int32} (h : r0 7 4 ≤ 4) : ∀ t, sOut r0 (sDw tc r0 sd t).2 ∧ (sDw tc r0 sd t).2 7 4 = r0 7 4
  | 0 => ⟨fun _ _ _ => rfl, rfl⟩
  | t + 1 => by
    have ⟨h1, h2⟩ := sOut_dw1 (tc := tc) (sd := sd) h t
    rw [sDw]
    dsimp only
    split
    · rename_i hq
      exact ⟨sOut_tr h1 (sOut_tr (sOut_done (by omega)) (sOut_end (show (sDw tc r0 sd t).2 7 4 ≤ 4 by omega))), h2⟩
    · exact ⟨sOut_tr h1 (sOut_end (by omega)), h2⟩
theorem sOut_dw {tc : Nat → sTc} {r0 r : sR} {sd w : Int32} {t : Nat} (h : r0 7 4 ≤ 4) (e : sDw tc r0 sd t = (w, r)) : sOut r0 r := by
  have := (sOut_dw1 (tc := tc) (sd := sd) h t).1
  rw [e] at this
  exact this
/-- how many laws live behind so many years drawn -/
def sDv (tc : Nat → sTc) (r : sR) (sd : Int32) (n : Nat) : Nat := sPop (sAl ((sDw tc r sd n).2 0) 8)
theorem sDv_bd (tc : Nat → sTc) (r : sR) (sd : Int32) (n : Nat) : sDv tc r sd n ≤ 10 := sPop_le _ (Nat.lt_of_lt_of_le (sAl_lt _ 8) (by decide))
def sDrawn (tc : Nat → sTc) (r : sR) (sd x : Int32) : Int32 := if 0 ≤ x.toInt ∧ x.toInt ≤ 20 then nI (sDv tc r sd x.toInt.toNat) else -2
def sCh (tc : Nat → sTc) (r : sR) (sd : Int32) (k : Nat) : Nat → Nat
  | 0 => 0
  | t + 1 => if k ≤ sDv tc r (sd + nI t) 6 then sCh tc r sd k t + 1 else sCh tc r sd k t
theorem sCh_y {tc : Nat → sTc} {r : sR} {sd : Int32} {k t a : Nat} (e : sCh tc r sd k t = a) (h : k ≤ sDv tc r (sd + nI t) 6) : sCh tc r sd k (t + 1) = a + 1 := by rw [sCh, e, if_pos h]
theorem sCh_n {tc : Nat → sTc} {r : sR} {sd : Int32} {k t a : Nat} (e : sCh tc r sd k t = a) (h : ¬ k ≤ sDv tc r (sd + nI t) 6) : sCh tc r sd k (t + 1) = a := by rw [sCh, e, if_neg h]
theorem sCh_bd (tc : Nat → sTc) (r : sR) (sd : Int32) (k : Nat) : ∀ t, sCh tc r sd k t ≤ t
  | 0 => Nat.le_refl 0
  | t + 1 => by
    have := sCh_bd tc r sd k t
    rw [sCh]
    split <;> omega
theorem lN_p1 (a : Nat) : lN a + 1 = lN (a + 1) := (Int64.ofNat_add a 1).symm
theorem lN_p0 (a : Nat) : lN a + 0 = lN a := (Int64.ofNat_add a 0).symm
def sChance (tc : Nat → sTc) (r : sR) (sd x y v : Int32) : Int64 := if 1 ≤ x.toInt ∧ x.toInt ≤ 20 ∧ 0 ≤ y.toInt ∧ y.toInt ≤ 8 ∧ 0 ≤ v.toInt ∧ v.toInt ≤ 1 then lN (sLow (sCh tc r sd y.toInt.toNat x.toInt.toNat) x.toInt.toNat v.toInt.toNat) else -4611686018427387904
theorem sChance_y {tc : Nat → sTc} {r : sR} {sd : Int32} {m k u : Nat} (h1 : 1 ≤ m) (h2 : m ≤ 20) (h3 : k ≤ 8) (h4 : u ≤ 1) : sChance tc r sd (nI m) (nI k) (nI u) = lN (sLow (sCh tc r sd k m) m u) := by
  unfold sChance
  rw [sTI (k := m) (by omega), sTI (k := k) (by omega), sTI (k := u) (by omega), if_pos (by omega)]
  rfl
set_option maxHeartbeats 4000000 in
set_option maxRecDepth 20000 in
theorem t_X6_aliveDrawn (l : Launch) (d : Nat) (sd : Int32) (m : Nat) (z : xMem) (r0 : sR) (cnt : Nat) (tc : Nat → sTc) (hr : RM z r0) (hw0 : sW r0 cnt) (ht : TM z cnt tc) (hY : r0 7 2 ≤ 999) (hm : m ≤ 20) : XMi l (d + 313) yX6_aliveDrawn cX6_aliveDrawn 7 (some .int) shM [.ref 0, .int sd, .int (nI m)] z (fun v z' => v = nI (sDv tc r0 sd m) ∧ KS z z') := by
  refine XM.of (by decide) (Nat.le_of_ble_eq_true rfl) (fun xp xe xs xm xar xbl xme xc xD xcs xad xAA xCC xhr => ?_)
  generalize xhQ : MQ xbl _ xar xs 0 0 xAA = xQ
  show ww xp l xe (xRm (d + 313)) xs xm xar xbl xme xc 7 xD xcs xad shM xAA xQ 0 [(0, .ref 0), (1, .int sd), (2, .int (nI m))] [] z
  have h740 : r0 7 4 ≤ 4 := hw0.2.2.2.2.2.2.1
  refine ww_blk xCC okX6_aliveDrawn 0 1 (ps := []) (pc' := 1) (lv' := [(0, .ref 0), (1, .int sd), (2, .int (nI m))]) (st' := [.ref 0]) (z' := z) rfl trivial ?_
  refine ww_callVIv xCC okX6_aliveDrawn 1 (ix := 295) (t_X6_laysAside l (d + 312) z) (by omega) (by decide) xyX6_laysAside xiX6_laysAside (Or.inl (lw_gt_of (List.mem_of_getElem? (i := 1147) (by decide +kernel)) rfl)) rfl rfl rfl (rest := []) rfl (Nat.le_of_ble_eq_true rfl) rfl (fun zA hA => ?_)
  have hrA := RM_KS (KS_WC hA) hr
  have htA := TM_KS (KS_WC hA) ht
  refine ww_blk xCC okX6_aliveDrawn 2 4 (ps := []) (pc' := 9) (lv' := [(4, .int 0), (3, .int sd), (0, .ref 0), (1, .int sd), (2, .int (nI m))]) (st' := []) (z' := zA) rfl trivial ?_
  have L9 : ∀ (n9 : Nat) (t : Nat) (w : Int32) (r : sR) (zL : xMem), m - t < n9 → (sDw tc r0 sd t = (w, r)) → (t ≤ m) → (RM zL r) → (sW r cnt) → (KO zA zL) → (r 7 2 = r0 7 2 + t) → (r 7 4 = r0 7 4) → ww xp l xe (xRm (d + 313)) xs xm xar xbl xme xc 7 xD xcs xad shM xAA xQ 9 [(4, .int (nI t)), (3, .int w), (0, .ref 0), (2, .int (nI m))] [] zL := by
    intro n9
    induction n9 with
    | zero =>
      intro t w r zL hmu9
      exact absurd hmu9 (Nat.not_lt_zero _)
    | succ n9 ih9 =>
      intro t w r zL hmu9 e9_0 e9_1 e9_2 e9_3 e9_4 e9_5 e9_6
      have hrL := e9_2
      have hw := e9_3
      have hb := hw.1
      have htL := TM_KO e9_4 htA
      have h74 : r 7 4 ≤ 4 := hw.2.2.2.2.2.2.1
      refine ww_blk xCC okX6_aliveDrawn 6 2 (ps := []) (pc' := 12) (lv' := [(4, .int (nI t)), (3, .int w), (0, .ref 0), (2, .int (nI m))]) (st' := [.int (nI m), .int (nI t)]) (z' := zL) rfl trivial ?_
      refine ww_br xCC okX6_aliveDrawn 8 (P := (nI m) ≤ (nI t)) (t1 := 92) (t2 := 15) (r := []) rfl (fun c2 => ?_) (fun c2 => ?_)
      · skip
        replace c2 : m ≤ t := (sLE (a := m) (b := t) (by omega) (by omega)).mp c2
        refine ww_blk xCC okX6_aliveDrawn 51 1 (ps := []) (pc' := 93) (lv' := [(4, .int (nI t)), (3, .int w), (0, .ref 0), (2, .int (nI m))]) (st' := [.ref 0]) (z' := zL) rfl trivial ?_
        refine ww_callVIi xCC okX6_aliveDrawn 52 (ix := 119) (t_X6_alive l d zL (r 0) e9_2.1 (fun j => Nat.lt_of_le_of_lt (e9_3.1 j).1 (by decide))) (by omega) (by decide) xyX6_alive xiX6_alive (Or.inl (lw_gt_of (List.mem_of_getElem? (i := 1007) (by decide +kernel)) rfl)) rfl rfl rfl (rest := []) rfl (Nat.le_of_ble_eq_true rfl) rfl (fun v5 z3 h4 => ?_)
        rw [h4.1, h4.2]
        refine ww_callSNi xCC okX6_aliveDrawn 53 (ix := 255) (t_X6_bitsOf l d (sAl (r 0) 8) (Nat.lt_of_lt_of_le (sAl_lt _ 8) (by decide)) _) (by omega) (by decide) xyX6_bitsOf xiX6_bitsOf (Or.inl (lw_gt_of (List.mem_of_getElem? (i := 1004) (by decide +kernel)) rfl)) rfl (rest := []) rfl (Nat.le_of_ble_eq_true rfl) rfl (fun v8 z6 h7 => ?_)
        rw [h7]
        refine ww_blk xCC okX6_aliveDrawn 54 2 (ps := []) (pc' := 102) (lv' := [(4, .int (nI (sPop (sAl (r 0) 8)))), (3, .int w), (0, .ref 0), (2, .int (nI m))]) (st' := [.ref 0]) (z' := zL) rfl trivial ?_
        refine ww_callVIv xCC okX6_aliveDrawn 56 (ix := 301) (t_X6_laysBack l (d + 312) z zL (WD_of hA e9_4 hr e9_2 (sOut_dw h740 e9_0))) (by omega) (by decide) xyX6_laysBack xiX6_laysBack (Or.inl (lw_gt_of (List.mem_of_getElem? (i := 1159) (by decide +kernel)) rfl)) rfl rfl rfl (rest := []) rfl (Nat.le_of_ble_eq_true rfl) rfl (fun zB hB => ?_)
        refine ww_blk xCC okX6_aliveDrawn 57 1 (ps := []) (pc' := 107) (lv' := [(4, .int (nI (sPop (sAl (r 0) 8)))), (3, .int w), (0, .ref 0), (2, .int (nI m))]) (st' := [.int (nI (sPop (sAl (r 0) 8)))]) (z' := zB) rfl trivial ?_
        subst xhQ
        exact ww_iret xCC okX6_aliveDrawn 58 xhr rfl rfl ⟨_, rfl, ⟨(by rw [show t = m by omega] at e9_0; unfold sDv; rw [e9_0]), hB⟩⟩
      · skip
        replace c2 : ¬ m ≤ t := fun q => c2 ((sLE (a := m) (b := t) (by omega) (by omega)).mpr q)
        refine ww_blk xCC okX6_aliveDrawn 9 26 (ps := [¬ 8 = 0, ¬ 10 = 0]) (pc' := 56) (lv' := [(6, .int (((((((w * 1103515245) + 12345) * 1103515245) + 12345).toUInt32 >>> ((9 : Int32).toUInt32 &&& Int32.toUInt32 31)).toInt32) - ((((((w * 1103515245) + 12345) * 1103515245) + 12345).toUInt32 >>> ((9 : Int32).toUInt32 &&& Int32.toUInt32 31)).toInt32) / 10 * 10)), (3, .int ((((w * 1103515245) + 12345) * 1103515245) + 12345)), (5, .int (((((w * 1103515245) + 12345).toUInt32 >>> ((9 : Int32).toUInt32 &&& Int32.toUInt32 31)).toInt32) - ((((w * 1103515245) + 12345).toUInt32 >>> ((9 : Int32).toUInt32 &&& Int32.toUInt32 31)).toInt32) / 8 * 8)), (4, .int (nI t)), (0, .ref 0), (2, .int (nI m))]) (st' := [.int (((((w * 1103515245) + 12345).toUInt32 >>> ((9 : Int32).toUInt32 &&& Int32.toUInt32 31)).toInt32) - ((((w * 1103515245) + 12345).toUInt32 >>> ((9 : Int32).toUInt32 &&& Int32.toUInt32 31)).toInt32) / 8 * 8), .ref 0]) (z' := zL) rfl ⟨(show ¬ (8 : Int32) = 0 by decide), (show ¬ (10 : Int32) = 0 by decide)⟩ ?_
        rw [show w * 1103515245 + 12345 = sNx w from rfl]
        rw [show sNx w * 1103515245 + 12345 = sNx (sNx w) from rfl]
        rw [sU_eq (sNx (sNx w))]
        rw [show nI (sU (sNx (sNx w))) - nI (sU (sNx (sNx w))) / 10 * 10 = nI (sU (sNx (sNx w)) % 10) from pk_rem (sU_lt _) (by decide) (by decide)]
        rw [sU_eq (sNx w)]
        rw [show nI (sU (sNx w)) - nI (sU (sNx w)) / 8 * 8 = nI (sU (sNx w) % 8) from pk_rem (sU_lt _) (by decide) (by decide)]
        refine ww_callVIz xCC okX6_aliveDrawn 35 (ix := 97) (t_X6_isOne l (d + 310) (nI (sU (sNx w) % 8)) zL (r 7 4) hrL.2.2.2.2.2.2.2.2.2.2.2.1 h74) (by omega) (by decide) xyX6_isOne xiX6_isOne (Or.inl (lw_gt_of (List.mem_of_getElem? (i := 976) (by decide +kernel)) rfl)) rfl rfl rfl (rest := []) rfl (Nat.le_of_ble_eq_true rfl) rfl (fun zO hO => ?_) (fun zO hO => ?_)
        · skip
          rw [hO.2]
          obtain ⟨⟨hOa, hOb⟩, -⟩ := hO
          rw [sTI (by omega)] at hOb
          have hp9 : (sU (sNx w) % 8) < r 7 4 := by omega
          refine ww_br xCC okX6_aliveDrawn 36 (P := 1 = 0) (t1 := 81) (t2 := 62) (r := []) rfl (fun q => absurd q (by decide)) (fun _ => ?_)
          refine ww_blk xCC okX6_aliveDrawn 37 3 (ps := []) (pc' := 67) (lv' := [(6, .int (nI (sU (sNx (sNx w)) % 10))), (3, .int (sNx (sNx w))), (5, .int (nI (sU (sNx w) % 8))), (4, .int (nI t)), (0, .ref 0), (2, .int (nI m))]) (st' := [.int (nI (sU (sNx (sNx w)) % 10)), .int (nI (sU (sNx w) % 8)), .ref 0]) (z' := zL) rfl trivial ?_
          refine ww_callVIz xCC okX6_aliveDrawn 40 (ix := 279) (t_X6_can l d (sU (sNx w) % 8) (sU (sNx (sNx w)) % 10) zL r cnt tc hrL hw htL (by omega) (by omega)) (by omega) (by decide) xyX6_can xiX6_can (Or.inl (lw_gt_of (List.mem_of_getElem? (i := 992) (by decide +kernel)) rfl)) rfl rfl rfl (rest := []) rfl (Nat.le_of_ble_eq_true rfl) rfl (fun zS11 hS11 => ?_) (fun zS11 hS11 => ?_)
          · skip
            have hrS11 := RM_K hS11.2 hrL
            have htS11 := TM_K hS11.2 htL
            have hKS11 := KM_tr (KM_rf zL) hS11.2
            refine ww_br xCC okX6_aliveDrawn 41 (P := 1 = 0) (t1 := 81) (t2 := 73) (r := []) rfl (fun q => absurd q (by decide)) (fun _ => ?_)
            refine ww_blk xCC okX6_aliveDrawn 42 3 (ps := []) (pc' := 78) (lv' := [(6, .int (nI (sU (sNx (sNx w)) % 10))), (3, .int (sNx (sNx w))), (5, .int (nI (sU (sNx w) % 8))), (4, .int (nI t)), (0, .ref 0), (2, .int (nI m))]) (st' := [.int (nI (sU (sNx (sNx w)) % 10)), .int (nI (sU (sNx w) % 8)), .ref 0]) (z' := zS11) rfl trivial ?_
            refine ww_callVIv xCC okX6_aliveDrawn 45 (ix := 283) (t_X6_done l d (sU (sNx w) % 8) (sU (sNx (sNx w)) % 10) zS11 r cnt tc hrS11 hw htS11 (by omega) (by omega)) (by omega) (by decide) xyX6_done xiX6_done (Or.inl (lw_gt_of (List.mem_of_getElem? (i := 1129) (by decide +kernel)) rfl)) rfl rfl rfl (rest := []) rfl (Nat.le_of_ble_eq_true rfl) rfl (fun zD hD => ?_)
            refine ww_blk xCC okX6_aliveDrawn 46 1 (ps := []) (pc' := 82) (lv' := [(6, .int (nI (sU (sNx (sNx w)) % 10))), (3, .int (sNx (sNx w))), (5, .int (nI (sU (sNx w) % 8))), (4, .int (nI t)), (0, .ref 0), (2, .int (nI m))]) (st' := [.ref 0]) (z' := zD) rfl trivial ?_
            refine ww_callVIi xCC okX6_aliveDrawn 47 (ix := 287) (t_X6_ends l (d + 310) zD (sDone tc r (sU (sNx w) % 8) (sU (sNx (sNx w)) % 10)) cnt hD.1 (sW_done hw _ _)) (by omega) (by decide) xyX6_ends xiX6_ends (Or.inl (lw_gt_of (List.mem_of_getElem? (i := 1138) (by decide +kernel)) rfl)) rfl rfl rfl (rest := []) rfl (Nat.le_of_ble_eq_true rfl) rfl (fun vB zB hB => ?_)
            refine ww_blk xCC okX6_aliveDrawn 48 3 (ps := []) (pc' := 9) (lv' := [(4, .int ((nI t) + 1)), (6, .int (nI (sU (sNx (sNx w)) % 10))), (3, .int (sNx (sNx w))), (5, .int (nI (sU (sNx w) % 8))), (0, .ref 0), (2, .int (nI m))]) (st' := []) (z' := zB) rfl trivial ?_
            rw [show nI t + (1 : Int32) = nI (t + 1) from nI_add t 1]
            exact ww_cut [0, 2, 4, 5] (xlc rfl (xlc rfl (xlc rfl (xlc rfl rfl)))) rfl rfl (ih9 (t + 1) (sNx (sNx w)) (sEnd (sDone tc r (sU (sNx w) % 8) (sU (sNx (sNx w)) % 10))) zB (by omega) (sDw_y e9_0 hp9 hS11.1) (by omega) hB.2.1 (sW_end (sW_done hw _ _) (by show (sDone tc r (sU (sNx w) % 8) (sU (sNx (sNx w)) % 10)) 7 2 < 100000; rw [show sDone tc r (sU (sNx w) % 8) (sU (sNx (sNx w)) % 10) 7 2 = r 7 2 from rfl]; omega)) (KO_tr e9_4 (KO_tr (KO_tr (KO_of hKS11) hD.2) hB.2.2)) (sEnd_y.trans (by show ((sDone tc r (sU (sNx w) % 8) (sU (sNx (sNx w)) % 10)) 7 2) + 1 = r0 7 2 + (t + 1); rw [show sDone tc r (sU (sNx w) % 8) (sU (sNx (sNx w)) % 10) 7 2 = r 7 2 from rfl]; omega)) (show sEnd (sDone tc r (sU (sNx w) % 8) (sU (sNx (sNx w)) % 10)) 7 4 = r0 7 4 from e9_6))
          · skip
            have hrS11 := RM_K hS11.2 hrL
            have htS11 := TM_K hS11.2 htL
            have hKS11 := KM_tr (KM_rf zL) hS11.2
            refine ww_br xCC okX6_aliveDrawn 41 (P := 0 = 0) (t1 := 81) (t2 := 73) (r := []) rfl (fun _ => ?_) (fun q => absurd (by decide) q)
            refine ww_blk xCC okX6_aliveDrawn 46 1 (ps := []) (pc' := 82) (lv' := [(6, .int (nI (sU (sNx (sNx w)) % 10))), (3, .int (sNx (sNx w))), (5, .int (nI (sU (sNx w) % 8))), (4, .int (nI t)), (0, .ref 0), (2, .int (nI m))]) (st' := [.ref 0]) (z' := zS11) rfl trivial ?_
            refine ww_callVIi xCC okX6_aliveDrawn 47 (ix := 287) (t_X6_ends l (d + 310) zS11 r cnt hrS11 hw) (by omega) (by decide) xyX6_ends xiX6_ends (Or.inl (lw_gt_of (List.mem_of_getElem? (i := 1138) (by decide +kernel)) rfl)) rfl rfl rfl (rest := []) rfl (Nat.le_of_ble_eq_true rfl) rfl (fun vB zB hB => ?_)
            refine ww_blk xCC okX6_aliveDrawn 48 3 (ps := []) (pc' := 9) (lv' := [(4, .int ((nI t) + 1)), (6, .int (nI (sU (sNx (sNx w)) % 10))), (3, .int (sNx (sNx w))), (5, .int (nI (sU (sNx w) % 8))), (0, .ref 0), (2, .int (nI m))]) (st' := []) (z' := zB) rfl trivial ?_
            rw [show nI t + (1 : Int32) = nI (t + 1) from nI_add t 1]
            exact ww_cut [0, 2, 4, 5] (xlc rfl (xlc rfl (xlc rfl (xlc rfl rfl)))) rfl rfl (ih9 (t + 1) (sNx (sNx w)) (sEnd r) zB (by omega) (sDw_n e9_0 (Or.inr hS11.1)) (by omega) hB.2.1 (sW_end hw (by show r 7 2 < 100000; omega)) (KO_tr e9_4 (KO_tr (KO_of hKS11) hB.2.2)) (sEnd_y.trans (by show (r 7 2) + 1 = r0 7 2 + (t + 1); omega)) (show sEnd r 7 4 = r0 7 4 from e9_6))
        · skip
          rw [hO.2]
          replace hO := hO.1
          rw [sTI (by omega)] at hO
          have hn9 : ¬ (sU (sNx w) % 8) < r 7 4 := by omega
          refine ww_br xCC okX6_aliveDrawn 36 (P := 0 = 0) (t1 := 81) (t2 := 62) (r := []) rfl (fun _ => ?_) (fun q => absurd (by decide) q)
          refine ww_blk xCC okX6_aliveDrawn 46 1 (ps := []) (pc' := 82) (lv' := [(6, .int (nI (sU (sNx (sNx w)) % 10))), (3, .int (sNx (sNx w))), (5, .int (nI (sU (sNx w) % 8))), (4, .int (nI t)), (0, .ref 0), (2, .int (nI m))]) (st' := [.ref 0]) (z' := zL) rfl trivial ?_
          refine ww_callVIi xCC okX6_aliveDrawn 47 (ix := 287) (t_X6_ends l (d + 310) zL r cnt hrL hw) (by omega) (by decide) xyX6_ends xiX6_ends (Or.inl (lw_gt_of (List.mem_of_getElem? (i := 1138) (by decide +kernel)) rfl)) rfl rfl rfl (rest := []) rfl (Nat.le_of_ble_eq_true rfl) rfl (fun vB zB hB => ?_)
          refine ww_blk xCC okX6_aliveDrawn 48 3 (ps := []) (pc' := 9) (lv' := [(4, .int ((nI t) + 1)), (6, .int (nI (sU (sNx (sNx w)) % 10))), (3, .int (sNx (sNx w))), (5, .int (nI (sU (sNx w) % 8))), (0, .ref 0), (2, .int (nI m))]) (st' := []) (z' := zB) rfl trivial ?_
          rw [show nI t + (1 : Int32) = nI (t + 1) from nI_add t 1]
          exact ww_cut [0, 2, 4, 5] (xlc rfl (xlc rfl (xlc rfl (xlc rfl rfl)))) rfl rfl (ih9 (t + 1) (sNx (sNx w)) (sEnd r) zB (by omega) (sDw_n e9_0 (Or.inl hn9)) (by omega) hB.2.1 (sW_end hw (by show r 7 2 < 100000; omega)) (KO_tr e9_4 (KO_tr (KO_of (KM_rf zL)) hB.2.2)) (sEnd_y.trans (by show (r 7 2) + 1 = r0 7 2 + (t + 1); omega)) (show sEnd r 7 4 = r0 7 4 from e9_6))
  exact ww_cut [0, 1, 2, 4] (xlc (congrArg Value.int (show (0 : Int32) = nI 0 from rfl)) (xlc rfl (xlc rfl (xlc rfl rfl)))) rfl rfl (L9 (m - 0 + 1) 0 sd r0 zA (Nat.lt_succ_self _) rfl (by omega) hrA hw0 (KO_rf zA) rfl rfl)

set_option maxHeartbeats 4000000 in
set_option maxRecDepth 20000 in
theorem t_X6_drawn (l : Launch) (d : Nat) (sd x : Int32) (z : xMem) (r : sR) (cnt : Nat) (tc : Nat → sTc) (hr : RM z r) (hw : sW r cnt) (ht : TM z cnt tc) (hY : r 7 2 ≤ 999) : XMi l (d + 314) yX6_drawn cX6_drawn 3 (some .int) shM [.ref 0, .int sd, .int x] z (fun v z' => v = sDrawn tc r sd x ∧ KS z z') := by
  refine XM.of (by decide) (Nat.le_of_ble_eq_true rfl) (fun xp xe xs xm xar xbl xme xc xD xcs xad xAA xCC xhr => ?_)
  generalize xhQ : MQ xbl _ xar xs 0 0 xAA = xQ
  show ww xp l xe (xRm (d + 314)) xs xm xar xbl xme xc 3 xD xcs xad shM xAA xQ 0 [(0, .ref 0), (1, .int sd), (2, .int x)] [] z
  refine ww_blk xCC okX6_drawn 0 4 (ps := []) (pc' := 6) (lv' := [(0, .ref 0), (1, .int sd), (2, .int x)]) (st' := [.long 20, .long 0, .long x.toInt64]) (z' := z) rfl trivial ?_
  refine ww_callSNz xCC okX6_drawn 4 (ix := 82) (t_X6_in l d x.toInt64 0 20 x.toInt 0 20 (Int32.toInt_toInt64 _) rfl rfl  _) (by omega) (by decide) xyX6_in xiX6_in (Or.inl (lw_gt_of (List.mem_of_getElem? (i := 962) (by decide +kernel)) rfl)) rfl (rest := []) rfl (Nat.le_of_ble_eq_true rfl) rfl (fun z1 h2 => ?_) (fun z1 h2 => ?_)
  · skip
    have h2 : 0 ≤ x.toInt ∧ x.toInt ≤ 20 := h2
    obtain ⟨m, hm, rfl⟩ := sNN (x := x) (n := 21) (by omega) (by omega)
    refine ww_br xCC okX6_drawn 5 (P := 1 = 0) (t1 := 21) (t2 := 12) (r := []) rfl (fun q => absurd q (by decide)) (fun _ => ?_)
    refine ww_blk xCC okX6_drawn 6 3 (ps := []) (pc' := 15) (lv' := [(0, .ref 0), (1, .int sd), (2, .int (nI m))]) (st' := [.int (nI m), .int sd, .ref 0]) (z' := z) rfl trivial ?_
    refine ww_callVIi xCC okX6_drawn 9 (ix := 349) (t_X6_aliveDrawn l d sd m z r cnt tc hr hw ht hY (by omega)) (by omega) (by decide) xyX6_aliveDrawn xiX6_aliveDrawn (Or.inl (lw_gt_of (List.mem_of_getElem? (i := 1237) (by decide +kernel)) rfl)) rfl rfl rfl (rest := []) rfl (Nat.le_of_ble_eq_true rfl) rfl (fun v5 zS4 hS4 => ?_)
    have hrS4 := RM_KS hS4.2 hr
    have htS4 := TM_KS hS4.2 ht
    have hKS4 := KS_tr (KS_rf z) hS4.2
    rw [hS4.1]
    refine ww_blk xCC okX6_drawn 10 1 (ps := []) (pc' := 23) (lv' := [(0, .ref 0), (1, .int sd), (2, .int (nI m))]) (st' := [.int (nI (sDv tc r sd m))]) (z' := zS4) rfl trivial ?_
    subst xhQ
    exact ww_iret xCC okX6_drawn 12 xhr rfl rfl ⟨_, rfl, ⟨(by unfold sDrawn; rw [sTI (k := m) (by omega), if_pos (by omega)]; rfl), hKS4⟩⟩
  · skip
    have h2 : ¬ (0 ≤ x.toInt ∧ x.toInt ≤ 20) := h2
    refine ww_br xCC okX6_drawn 5 (P := 0 = 0) (t1 := 21) (t2 := 12) (r := []) rfl (fun _ => ?_) (fun q => absurd (by decide) q)
    refine ww_blk xCC okX6_drawn 11 1 (ps := []) (pc' := 23) (lv' := [(0, .ref 0), (1, .int sd), (2, .int x)]) (st' := [.int (-2)]) (z' := z) rfl trivial ?_
    subst xhQ
    exact ww_iret xCC okX6_drawn 12 xhr rfl rfl ⟨_, rfl, ⟨(by unfold sDrawn; rw [if_neg (by omega)]), KS_rf z⟩⟩

set_option maxHeartbeats 4000000 in
set_option maxRecDepth 20000 in
theorem t_X6_chance (l : Launch) (d : Nat) (sd x y v : Int32) (z : xMem) (r : sR) (cnt : Nat) (tc : Nat → sTc) (hr : RM z r) (hw : sW r cnt) (ht : TM z cnt tc) (hY : r 7 2 ≤ 999) : XMl l (d + 314) yX6_chance cX6_chance 8 (some .long) shM [.ref 0, .int sd, .int x, .int y, .int v] z (fun v9 z' => v9 = sChance tc r sd x y v ∧ KS z z') := by
  refine XM.of (by decide) (Nat.le_of_ble_eq_true rfl) (fun xp xe xs xm xar xbl xme xc xD xcs xad xAA xCC xhr => ?_)
  generalize xhQ : MQ xbl _ xar xs 0 0 xAA = xQ
  show ww xp l xe (xRm (d + 314)) xs xm xar xbl xme xc 8 xD xcs xad shM xAA xQ 0 [(0, .ref 0), (1, .int sd), (2, .int x), (3, .int y), (4, .int v)] [] z
  refine ww_blk xCC okX6_chance 0 4 (ps := []) (pc' := 6) (lv' := [(0, .ref 0), (1, .int sd), (2, .int x), (3, .int y), (4, .int v)]) (st' := [.long 20, .long 1, .long x.toInt64]) (z' := z) rfl trivial ?_
  refine ww_callSNz xCC okX6_chance 4 (ix := 82) (t_X6_in l d x.toInt64 1 20 x.toInt 1 20 (Int32.toInt_toInt64 _) rfl rfl  _) (by omega) (by decide) xyX6_in xiX6_in (Or.inl (lw_gt_of (List.mem_of_getElem? (i := 962) (by decide +kernel)) rfl)) rfl (rest := []) rfl (Nat.le_of_ble_eq_true rfl) rfl (fun z1 h2 => ?_) (fun z1 h2 => ?_)
  · skip
    have h2 : 1 ≤ x.toInt ∧ x.toInt ≤ 20 := h2
    obtain ⟨m, hm, rfl⟩ := sNN (x := x) (n := 21) (by omega) (by omega)
    have hm0 : 1 ≤ m := by rw [sTI (by omega)] at h2; omega
    refine ww_br xCC okX6_chance 5 (P := 1 = 0) (t1 := 35) (t2 := 12) (r := []) rfl (fun q => absurd q (by decide)) (fun _ => ?_)
    refine ww_blk xCC okX6_chance 6 4 (ps := []) (pc' := 18) (lv' := [(0, .ref 0), (1, .int sd), (2, .int (nI m)), (3, .int y), (4, .int v)]) (st' := [.long 8, .long 0, .long y.toInt64]) (z' := z) rfl trivial ?_
    refine ww_callSNz xCC okX6_chance 10 (ix := 82) (t_X6_in l d y.toInt64 0 8 y.toInt 0 8 (Int32.toInt_toInt64 _) rfl rfl  _) (by omega) (by decide) xyX6_in xiX6_in (Or.inl (lw_gt_of (List.mem_of_getElem? (i := 962) (by decide +kernel)) rfl)) rfl (rest := []) rfl (Nat.le_of_ble_eq_true rfl) rfl (fun z4 h5 => ?_) (fun z4 h5 => ?_)
    · skip
      have h5 : 0 ≤ y.toInt ∧ y.toInt ≤ 8 := h5
      obtain ⟨k, hk, rfl⟩ := sNN (x := y) (n := 9) (by omega) (by omega)
      refine ww_br xCC okX6_chance 11 (P := 1 = 0) (t1 := 35) (t2 := 24) (r := []) rfl (fun q => absurd q (by decide)) (fun _ => ?_)
      refine ww_blk xCC okX6_chance 12 4 (ps := []) (pc' := 29) (lv' := [(0, .ref 0), (1, .int sd), (2, .int (nI m)), (3, .int (nI k)), (4, .int v)]) (st' := [.long 1, .long 0, .long v.toInt64]) (z' := z) rfl trivial ?_
      refine ww_callSNz xCC okX6_chance 16 (ix := 82) (t_X6_in l d v.toInt64 0 1 v.toInt 0 1 (Int32.toInt_toInt64 _) rfl rfl  _) (by omega) (by decide) xyX6_in xiX6_in (Or.inl (lw_gt_of (List.mem_of_getElem? (i := 962) (by decide +kernel)) rfl)) rfl (rest := []) rfl (Nat.le_of_ble_eq_true rfl) rfl (fun z7 h8 => ?_) (fun z7 h8 => ?_)
      · skip
        have h8 : 0 ≤ v.toInt ∧ v.toInt ≤ 1 := h8
        obtain ⟨u, hu, rfl⟩ := sNN (x := v) (n := 2) (by omega) (by omega)
        refine ww_br xCC okX6_chance 17 (P := 1 = 0) (t1 := 35) (t2 := 39) (r := []) rfl (fun q => absurd q (by decide)) (fun _ => ?_)
        refine ww_blk xCC okX6_chance 20 4 (ps := []) (pc' := 45) (lv' := [(7, .int 0), (5, .long 0), (0, .ref 0), (1, .int sd), (2, .int (nI m)), (3, .int (nI k)), (4, .int (nI u))]) (st' := []) (z' := z) rfl trivial ?_
        have L45 : ∀ (n45 : Nat) (t : Nat) (a : Nat) (zL : xMem), m - t < n45 → (sCh tc r sd k t = a) → (t ≤ m) → (KS z zL) → ww xp l xe (xRm (d + 314)) xs xm xar xbl xme xc 8 xD xcs xad shM xAA xQ 45 [(7, .int (nI t)), (5, .long (lN a)), (0, .ref 0), (1, .int sd), (2, .int (nI m)), (3, .int (nI k)), (4, .int (nI u))] [] zL := by
          intro n45
          induction n45 with
          | zero =>
            intro t a zL hmu45
            exact absurd hmu45 (Nat.not_lt_zero _)
          | succ n45 ih45 =>
            intro t a zL hmu45 e45_0 e45_1 e45_2
            have hrL := RM_KS e45_2 hr
            have htL := TM_KS e45_2 ht
            have hD9 := sDv_bd tc r (sd + nI t) 6
            refine ww_blk xCC okX6_chance 24 2 (ps := []) (pc' := 48) (lv' := [(7, .int (nI t)), (5, .long (lN a)), (0, .ref 0), (1, .int sd), (2, .int (nI m)), (3, .int (nI k)), (4, .int (nI u))]) (st' := [.int (nI m), .int (nI t)]) (z' := zL) rfl trivial ?_
            refine ww_br xCC okX6_chance 26 (P := (nI m) ≤ (nI t)) (t1 := 81) (t2 := 51) (r := []) rfl (fun c10 => ?_) (fun c10 => ?_)
            · skip
              replace c10 : m ≤ t := (sLE (a := m) (b := t) (by omega) (by omega)).mp c10
              refine ww_blk xCC okX6_chance 43 4 (ps := []) (pc' := 87) (lv' := [(7, .int (nI t)), (5, .long (lN a)), (0, .ref 0), (1, .int sd), (2, .int (nI m)), (3, .int (nI k)), (4, .int (nI u))]) (st' := [.int (nI u), .long ((nI m).toInt64), .long (lN a)]) (z' := zL) rfl trivial ?_
              rw [nI_l (n := m) (by omega)]
              refine ww_callSNl xCC okX6_chance 47 (ix := 328) (t_X6_lowest l d a m u (by have := sCh_bd tc r sd k t; omega) (by omega) (by omega) (by omega) _) (by omega) (by decide) xyX6_lowest xiX6_lowest (Or.inl (lw_gt_of (List.mem_of_getElem? (i := 1204) (by decide +kernel)) rfl)) rfl (rest := []) rfl (Nat.le_of_ble_eq_true rfl) rfl (fun v13 z11 h12 => ?_)
              rw [h12]
              subst xhQ
              exact ww_lret xCC okX6_chance 48 xhr rfl ⟨_, rfl, ⟨(by rw [show t = m by omega] at e45_0; rw [sChance_y hm0 (by omega) (by omega) (by omega), e45_0]), e45_2⟩⟩
            · skip
              replace c10 : ¬ m ≤ t := fun q => c10 ((sLE (a := m) (b := t) (by omega) (by omega)).mpr q)
              refine ww_blk xCC okX6_chance 27 6 (ps := []) (pc' := 60) (lv' := [(7, .int (nI t)), (5, .long (lN a)), (0, .ref 0), (1, .int sd), (2, .int (nI m)), (3, .int (nI k)), (4, .int (nI u))]) (st' := [.int 6, .int (sd + (nI t)), .ref 0, .long (lN a)]) (z' := zL) rfl trivial ?_
              refine ww_callVIi xCC okX6_chance 33 (ix := 349) (t_X6_aliveDrawn l d (sd + (nI t)) 6 zL r cnt tc hrL hw htL hY (by omega)) (by omega) (by decide) xyX6_aliveDrawn xiX6_aliveDrawn (Or.inl (lw_gt_of (List.mem_of_getElem? (i := 1237) (by decide +kernel)) rfl)) rfl rfl rfl (rest := [.long (lN a)]) rfl (Nat.le_of_ble_eq_true rfl) rfl (fun v15 zS14 hS14 => ?_)
              have hrS14 := RM_KS hS14.2 hrL
              have htS14 := TM_KS hS14.2 htL
              have hKS14 := KS_tr e45_2 hS14.2
              rw [hS14.1]
              refine ww_blk xCC okX6_chance 34 1 (ps := []) (pc' := 64) (lv' := [(7, .int (nI t)), (5, .long (lN a)), (0, .ref 0), (1, .int sd), (2, .int (nI m)), (3, .int (nI k)), (4, .int (nI u))]) (st' := [.int (nI k), .int (nI (sDv tc r (sd + (nI t)) 6)), .long (lN a)]) (z' := zS14) rfl trivial ?_
              refine ww_br xCC okX6_chance 35 (P := (nI (sDv tc r (sd + (nI t)) 6)) < (nI k)) (t1 := 71) (t2 := 67) (r := [.long (lN a)]) rfl (fun c16 => ?_) (fun c16 => ?_)
              · skip
                replace c16 : (sDv tc r (sd + (nI t)) 6) < k := (sLT (a := (sDv tc r (sd + (nI t)) 6)) (b := k) (by omega) (by omega)).mp c16
                refine ww_blk xCC okX6_chance 38 5 (ps := []) (pc' := 45) (lv' := [(7, .int ((nI t) + 1)), (5, .long ((lN a) + 0)), (0, .ref 0), (1, .int sd), (2, .int (nI m)), (3, .int (nI k)), (4, .int (nI u))]) (st' := []) (z' := zS14) rfl trivial ?_
                rw [show nI t + (1 : Int32) = nI (t + 1) from nI_add t 1]
                exact ww_cut [0, 1, 2, 3, 4, 5, 6] (xlc rfl (xlc (congrArg Value.long (show ((lN a) + 0 : Int64) = lN a from (lN_p0 a))) (xlc rfl (xlc rfl (xlc rfl (xlc rfl (xlc rfl rfl))))))) rfl rfl (ih45 (t + 1) a zS14 (by omega) (sCh_n e45_0 (by omega)) (by omega) hKS14)
              · skip
                replace c16 : ¬ (sDv tc r (sd + (nI t)) 6) < k := fun q => c16 ((sLT (a := (sDv tc r (sd + (nI t)) 6)) (b := k) (by omega) (by omega)).mpr q)
                refine ww_blk xCC okX6_chance 36 2 (ps := []) (pc' := 72) (lv' := [(7, .int (nI t)), (5, .long (lN a)), (0, .ref 0), (1, .int sd), (2, .int (nI m)), (3, .int (nI k)), (4, .int (nI u))]) (st' := [.long 1, .long (lN a)]) (z' := zS14) rfl trivial ?_
                refine ww_blk xCC okX6_chance 39 4 (ps := []) (pc' := 45) (lv' := [(7, .int ((nI t) + 1)), (5, .long ((lN a) + 1)), (0, .ref 0), (1, .int sd), (2, .int (nI m)), (3, .int (nI k)), (4, .int (nI u))]) (st' := []) (z' := zS14) rfl trivial ?_
                rw [show nI t + (1 : Int32) = nI (t + 1) from nI_add t 1]
                exact ww_cut [0, 1, 2, 3, 4, 5, 6] (xlc rfl (xlc (congrArg Value.long (show ((lN a) + 1 : Int64) = lN (a + 1) from (lN_p1 a))) (xlc rfl (xlc rfl (xlc rfl (xlc rfl (xlc rfl rfl))))))) rfl rfl (ih45 (t + 1) (a + 1) zS14 (by omega) (sCh_y e45_0 (by omega)) (by omega) hKS14)
        exact ww_cut [0, 1, 2, 3, 4, 5, 6] (xlc (congrArg Value.int (show (0 : Int32) = nI 0 from rfl)) (xlc (congrArg Value.long (show (0 : Int64) = lN 0 from rfl)) (xlc rfl (xlc rfl (xlc rfl (xlc rfl (xlc rfl rfl))))))) rfl rfl (L45 (m - 0 + 1) 0 0 z (Nat.lt_succ_self _) rfl (by omega) (KS_rf z))
      · skip
        have h8 : ¬ (0 ≤ v.toInt ∧ v.toInt ≤ 1) := h8
        refine ww_br xCC okX6_chance 17 (P := 0 = 0) (t1 := 35) (t2 := 39) (r := []) rfl (fun _ => ?_) (fun q => absurd (by decide) q)
        refine ww_blk xCC okX6_chance 18 1 (ps := []) (pc' := 38) (lv' := [(0, .ref 0), (1, .int sd), (2, .int (nI m)), (3, .int (nI k)), (4, .int v)]) (st' := [.long (-4611686018427387904)]) (z' := z) rfl trivial ?_
        subst xhQ
        exact ww_lret xCC okX6_chance 19 xhr rfl ⟨_, rfl, ⟨(by unfold sChance; rw [if_neg (by omega)]), KS_rf z⟩⟩
    · skip
      have h5 : ¬ (0 ≤ y.toInt ∧ y.toInt ≤ 8) := h5
      refine ww_br xCC okX6_chance 11 (P := 0 = 0) (t1 := 35) (t2 := 24) (r := []) rfl (fun _ => ?_) (fun q => absurd (by decide) q)
      refine ww_blk xCC okX6_chance 18 1 (ps := []) (pc' := 38) (lv' := [(0, .ref 0), (1, .int sd), (2, .int (nI m)), (3, .int y), (4, .int v)]) (st' := [.long (-4611686018427387904)]) (z' := z) rfl trivial ?_
      subst xhQ
      exact ww_lret xCC okX6_chance 19 xhr rfl ⟨_, rfl, ⟨(by unfold sChance; rw [if_neg (by omega)]), KS_rf z⟩⟩
  · skip
    have h2 : ¬ (1 ≤ x.toInt ∧ x.toInt ≤ 20) := h2
    refine ww_br xCC okX6_chance 5 (P := 0 = 0) (t1 := 35) (t2 := 12) (r := []) rfl (fun _ => ?_) (fun q => absurd (by decide) q)
    refine ww_blk xCC okX6_chance 18 1 (ps := []) (pc' := 38) (lv' := [(0, .ref 0), (1, .int sd), (2, .int x), (3, .int y), (4, .int v)]) (st' := [.long (-4611686018427387904)]) (z' := z) rfl trivial ?_
    subst xhQ
    exact ww_lret xCC okX6_chance 19 xhr rfl ⟨_, rfl, ⟨(by unfold sChance; rw [if_neg (by omega)]), KS_rf z⟩⟩
