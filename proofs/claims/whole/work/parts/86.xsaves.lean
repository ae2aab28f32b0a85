/-! LawsLapse's saves, letGo, drawn, chance, image, back -/
def UI : List Nat := [0, 16, 35, 36, 37, 38, 39, 40, 41, 42]
theorem sChance_x {tc : Nat → sTc} {r : sR} {sd v : Int32} {m k i a : Nat} (h1 : 1 ≤ m) (h2 : m ≤ 20) (h3 : k ≤ 8) (hi : i = m) (e : sCh tc r sd k i = a) : (if 0 ≤ v.toInt ∧ v.toInt ≤ 1 ∧ ¬ m = 0 then lN (sLow a m v.toInt.toNat) else -4611686018427387904) = sChance tc r sd (nI m) (nI k) v := by
  subst hi
  unfold sChance
  rw [sTI (k := i) (by omega), sTI (k := k) (by omega)]
  by_cases hv : 0 ≤ v.toInt ∧ v.toInt ≤ 1
  · rw [if_pos (by omega), if_pos (by omega), show ((i : Int)).toNat = i from rfl, show ((k : Int)).toNat = k from rfl, e]
  · rw [if_neg (by omega), if_neg (by omega)]
theorem RX_bk {z : xMem} {b : Nat} {r rk : sR} (h : RX z b rk) (hz : sZ r) (hzk : sZ rk) : RX z b (sBk r rk) := by
  have e0 : ∀ j, sBk r rk 0 j = rk 0 j := fun j => by
    by_cases q : j < 8
    · simp [sBk, q]
    · simp [sBk, q, (hz j).1 (by omega), (hzk j).1 (by omega)]
  have e1 : ∀ j, sBk r rk 1 j = rk 1 j := fun j => by
    by_cases q : j < 10
    · simp [sBk, q]
    · simp [sBk, q, ((hz j).2.1 (by omega)).1, ((hzk j).2.1 (by omega)).1]
  have e2 : ∀ j, sBk r rk 2 j = rk 2 j := fun j => by
    by_cases q : j < 10
    · simp [sBk, q]
    · simp [sBk, q, ((hz j).2.1 (by omega)).2, ((hzk j).2.1 (by omega)).2]
  have e3 : ∀ j, sBk r rk 3 j = rk 3 j := fun j => by
    by_cases q : j < 4
    · simp [sBk, q]
    · simp [sBk, q, ((hz j).2.2 (by omega)).1, ((hzk j).2.2 (by omega)).1]
  have e4 : ∀ j, sBk r rk 4 j = rk 4 j := fun j => by
    by_cases q : j < 4
    · simp [sBk, q]
    · simp [sBk, q, ((hz j).2.2 (by omega)).2.1, ((hzk j).2.2 (by omega)).2.1]
  have e5 : ∀ j, sBk r rk 5 j = rk 5 j := fun j => by
    by_cases q : j < 4
    · simp [sBk, q]
    · simp [sBk, q, ((hz j).2.2 (by omega)).2.2.1, ((hzk j).2.2 (by omega)).2.2.1]
  have e6 : ∀ j, sBk r rk 6 j = rk 6 j := fun j => by
    by_cases q : j < 4
    · simp [sBk, q]
    · simp [sBk, q, ((hz j).2.2 (by omega)).2.2.2, ((hzk j).2.2 (by omega)).2.2.2]
  have e7 : ∀ j, j < 6 → sBk r rk 7 j = rk 7 j := fun j hj => by simp [sBk, hj]
  obtain ⟨a1, a2, a3, a4, a5, a6, a7, c1, c2, c3, c4, c5, c6, c7⟩ := h
  refine ⟨fun j => ?_, fun j => ?_, fun j => ?_, fun j => ?_, fun j => ?_, fun j => ?_, fun j => ?_, ?_, ?_, ?_, ?_, ?_, ?_, ?_⟩
  · rw [e0]; exact a1 j
  · rw [e1]; exact a2 j
  · rw [e2]; exact a3 j
  · rw [e3]; exact a4 j
  · rw [e4]; exact a5 j
  · rw [e5]; exact a6 j
  · rw [e6]; exact a7 j
  · rw [show sBk r rk 0 = rk 0 from funext e0]; exact c1
  · rw [e7 0 (by decide)]; exact c2
  · rw [e7 1 (by decide)]; exact c3
  · rw [e7 2 (by decide)]; exact c4
  · rw [e7 3 (by decide)]; exact c5
  · rw [e7 4 (by decide)]; exact c6
  · rw [e7 5 (by decide)]; exact c7
set_option maxHeartbeats 4000000 in
set_option maxRecDepth 20000 in
theorem t_X5_saves (l : Launch) (d : Nat) (x w : Int32) (z : xMem) (r : sR) (cnt : Nat) (tc : Nat → sTc) (hr : RX z 19 r) (hw : sW r cnt) (ht : TX z 1 cnt tc) (hS : sSub r) (hZ : sZ r) (hT : TH z) (hY : r 7 2 ≤ 999) : XMi l (d + 7) yX5_saves cX5_saves 7 (some .int) shX [.ref 0, .int x, .int w] z (fun v z' => v = sSaves tc r x w ∧ TH z' ∧ KU UH z z') := by
  refine XM.of (by decide) (Nat.le_of_ble_eq_true rfl) (fun xp xe xs xm xar xbl xme xc xD xcs xad xAA xCC xhr => ?_)
  generalize xhQ : MQ xbl _ xar xs 0 0 xAA = xQ
  show ww xp l xe (xRm (d + 7)) xs xm xar xbl xme xc 7 xD xcs xad shX xAA xQ 0 [(0, .ref 0), (1, .int x), (2, .int w)] [] z
  have hb := hw.1
  have h74 : r 7 4 ≤ 4 := hw.2.2.2.2.2.2.1
  refine ww_blk xCC okX5_saves 0 3 (ps := []) (pc' := 4) (lv' := [(0, .ref 0), (1, .int x), (2, .int w)]) (st' := [.int 10, .int 1, .int x]) (z' := z) rfl trivial ?_
  refine ww_callSNz xCC okX5_saves 3 (ix := 52) (t_X5_within l d x 1 10 _) (by omega) (by decide) xyX5_within xiX5_within (Or.inl (lw_gt_of (List.mem_of_getElem? (i := 327) (by decide +kernel)) rfl)) rfl (rest := []) rfl (Nat.le_of_ble_eq_true rfl) rfl (fun z1 h2 => ?_) (fun z1 h2 => ?_)
  · skip
    have h2 : 1 ≤ x.toInt ∧ x.toInt ≤ 10 := h2
    obtain ⟨m, hm, rfl⟩ := sNN (x := x) (n := 11) (by omega) (by omega)
    refine ww_br xCC okX5_saves 4 (P := 1 = 0) (t1 := 19) (t2 := 10) (r := []) rfl (fun q => absurd q (by decide)) (fun _ => ?_)
    refine ww_blk xCC okX5_saves 5 3 (ps := []) (pc' := 13) (lv' := [(0, .ref 0), (1, .int (nI m)), (2, .int w)]) (st' := [.int 1, .int 0, .int w]) (z' := z) rfl trivial ?_
    refine ww_callSNz xCC okX5_saves 8 (ix := 52) (t_X5_within l d w 0 1 _) (by omega) (by decide) xyX5_within xiX5_within (Or.inl (lw_gt_of (List.mem_of_getElem? (i := 327) (by decide +kernel)) rfl)) rfl (rest := []) rfl (Nat.le_of_ble_eq_true rfl) rfl (fun z4 h5 => ?_) (fun z4 h5 => ?_)
    · skip
      have h5 : 0 ≤ w.toInt ∧ w.toInt ≤ 1 := h5
      obtain ⟨u, hu, rfl⟩ := sNN (x := w) (n := 2) (by omega) (by omega)
      refine ww_br xCC okX5_saves 9 (P := 1 = 0) (t1 := 19) (t2 := 22) (r := []) rfl (fun q => absurd q (by decide)) (fun _ => ?_)
      refine ww_blk xCC okX5_saves 12 5 (ps := []) (pc' := 27) (lv' := [(3, .int (-1)), (0, .ref 0), (1, .int (nI m)), (2, .int (nI u))]) (st' := [.int (-1), .int (nI m), .ref 0]) (z' := z) rfl trivial ?_
      refine ww_callVIi xCC okX5_saves 17 (ix := 182) (t_X5_aliveBehind_n l d m z r cnt tc hr hw ht hS hZ hT hY (by omega)) (by omega) (by decide) xyX5_aliveBehind xiX5_aliveBehind (Or.inl (lw_gt_of (List.mem_of_getElem? (i := 664) (by decide +kernel)) rfl)) rfl rfl rfl (rest := []) rfl (Nat.le_of_ble_eq_true rfl) rfl (fun vz0 z0 hz0 => ?_)
      rw [hz0.1]
      have hrz0 := RX_U hz0.2.2 (by decide) hr
      have htz0 := TX_U hz0.2.2 (by decide) ht
      have hTz0 := hz0.2.1
      refine ww_blk xCC okX5_saves 18 3 (ps := []) (pc' := 35) (lv' := [(5, .int 0), (4, .int (nI (sAB tc r 0 m))), (3, .int (-1)), (0, .ref 0), (1, .int (nI m)), (2, .int (nI u))]) (st' := []) (z' := z0) rfl trivial ?_
      have L35 : ∀ (n35 : Nat) (k : Nat) (f : Nat) (g : Nat) (zL : xMem), 10 - k < n35 → (sSv tc r m k = (f, g)) → (KU UH z zL) → (TH zL) → (k ≤ 10) → (g ≤ 10) → ww xp l xe (xRm (d + 7)) xs xm xar xbl xme xc 7 xD xcs xad shX xAA xQ 35 [(5, .int (nI k)), (3, .int (cI f)), (4, .int (nI g)), (0, .ref 0), (1, .int (nI m)), (2, .int (nI u))] [] zL := by
        intro n35
        induction n35 with
        | zero =>
          intro k f g zL hmu35
          exact absurd hmu35 (Nat.not_lt_zero _)
        | succ n35 ih35 =>
          intro k f g zL hmu35 e35_0 e35_1 e35_2 e35_3 e35_4
          have hrL := RX_U e35_1 (by decide) hr
          have htL := TX_U e35_1 (by decide) ht
          have hTL := e35_2
          have hv := sAB_bd tc r (r 1 k) m
          refine ww_blk xCC okX5_saves 21 2 (ps := []) (pc' := 39) (lv' := [(5, .int (nI k)), (3, .int (cI f)), (4, .int (nI g)), (0, .ref 0), (1, .int (nI m)), (2, .int (nI u))]) (st' := [.int 10, .int (nI k)]) (z' := zL) rfl trivial ?_
          refine ww_br xCC okX5_saves 23 (P := 10 ≤ (nI k)) (t1 := 71) (t2 := 42) (r := []) rfl (fun c7 => ?_) (fun c7 => ?_)
          · skip
            replace c7 : 10 ≤ k := (sLE (a := 10) (b := k) (by omega) (by omega)).mp c7
            refine ww_blk xCC okX5_saves 38 1 (ps := []) (pc' := 72) (lv' := [(5, .int (nI k)), (3, .int (cI f)), (4, .int (nI g)), (0, .ref 0), (1, .int (nI m)), (2, .int (nI u))]) (st' := [.int (nI u)]) (z' := zL) rfl trivial ?_
            refine ww_br xCC okX5_saves 39 (P := (nI u) = 0) (t1 := 75) (t2 := 79) (r := []) rfl (fun c8 => ?_) (fun c8 => ?_)
            · skip
              replace c8 : u = 0 := (sEQ (a := u) (b := 0) (by omega) (by omega)).mp c8
              refine ww_blk xCC okX5_saves 40 2 (ps := []) (pc' := 81) (lv' := [(5, .int (nI k)), (3, .int (cI f)), (4, .int (nI g)), (0, .ref 0), (1, .int (nI m)), (2, .int (nI u))]) (st' := [.int (cI f)]) (z' := zL) rfl trivial ?_
              subst xhQ
              exact ww_iret xCC okX5_saves 43 xhr rfl rfl ⟨_, rfl, ⟨(by rw [show k = 10 by omega] at e35_0; rw [sSaves_y (by omega) (by omega) (by omega) e35_0]; grind), e35_2, e35_1⟩⟩
            · skip
              replace c8 : ¬ u = 0 := fun q => c8 ((sEQ (a := u) (b := 0) (by omega) (by omega)).mpr q)
              refine ww_blk xCC okX5_saves 42 1 (ps := []) (pc' := 81) (lv' := [(5, .int (nI k)), (3, .int (cI f)), (4, .int (nI g)), (0, .ref 0), (1, .int (nI m)), (2, .int (nI u))]) (st' := [.int (nI g)]) (z' := zL) rfl trivial ?_
              subst xhQ
              exact ww_iret xCC okX5_saves 43 xhr rfl rfl ⟨_, rfl, ⟨(by rw [show k = 10 by omega] at e35_0; rw [sSaves_y (by omega) (by omega) (by omega) e35_0]; grind), e35_2, e35_1⟩⟩
          · skip
            replace c7 : ¬ 10 ≤ k := fun q => c7 ((sLE (a := 10) (b := k) (by omega) (by omega)).mpr q)
            refine ww_blk xCC okX5_saves 24 3 (ps := []) (pc' := 46) (lv' := [(5, .int (nI k)), (3, .int (cI f)), (4, .int (nI g)), (0, .ref 0), (1, .int (nI m)), (2, .int (nI u))]) (st' := [.int (nI k), .int (nI m), .ref 0]) (z' := zL) rfl trivial ?_
            refine ww_callVIi xCC okX5_saves 27 (ix := 182) (t_X5_aliveBehind l d k m zL r cnt tc hrL hw htL hS hZ hTL hY (by omega) (by omega)) (by omega) (by decide) xyX5_aliveBehind xiX5_aliveBehind (Or.inl (lw_gt_of (List.mem_of_getElem? (i := 664) (by decide +kernel)) rfl)) rfl rfl rfl (rest := []) rfl (Nat.le_of_ble_eq_true rfl) rfl (fun vA zA hA => ?_)
            rw [hA.1]
            have hrA := RX_U hA.2.2 (by decide) hrL
            have htA := TX_U hA.2.2 (by decide) htL
            have hTA := hA.2.1
            refine ww_blk xCC okX5_saves 28 3 (ps := []) (pc' := 55) (lv' := [(6, .int (nI (sAB tc r (r 1 k) m))), (5, .int (nI k)), (3, .int (cI f)), (4, .int (nI g)), (0, .ref 0), (1, .int (nI m)), (2, .int (nI u))]) (st' := [.int (nI g), .int (nI (sAB tc r (r 1 k) m))]) (z' := zA) rfl trivial ?_
            refine ww_br xCC okX5_saves 31 (P := (nI (sAB tc r (r 1 k) m)) ≤ (nI g)) (t1 := 65) (t2 := 58) (r := []) rfl (fun c9 => ?_) (fun c9 => ?_)
            · skip
              replace c9 : (sAB tc r (r 1 k) m) ≤ g := (sLE (a := (sAB tc r (r 1 k) m)) (b := g) (by omega) (by omega)).mp c9
              refine ww_blk xCC okX5_saves 36 2 (ps := []) (pc' := 35) (lv' := [(5, .int ((nI k) + 1)), (6, .int (nI (sAB tc r (r 1 k) m))), (3, .int (cI f)), (4, .int (nI g)), (0, .ref 0), (1, .int (nI m)), (2, .int (nI u))]) (st' := []) (z' := zA) rfl trivial ?_
              rw [show nI k + (1 : Int32) = nI (k + 1) from nI_add k 1]
              exact ww_cut [0, 2, 3, 4, 5, 6] (xlc rfl (xlc rfl (xlc rfl (xlc rfl (xlc rfl (xlc rfl rfl)))))) rfl rfl (ih35 (k + 1) f g zA (by omega) (sSv_n e35_0 (by omega)) (KU_tr e35_1 hA.2.2) hA.2.1 (by omega) (by omega))
            · skip
              replace c9 : ¬ (sAB tc r (r 1 k) m) ≤ g := fun q => c9 ((sLE (a := (sAB tc r (r 1 k) m)) (b := g) (by omega) (by omega)).mpr q)
              refine ww_blk xCC okX5_saves 32 6 (ps := []) (pc' := 35) (lv' := [(5, .int ((nI k) + 1)), (3, .int (nI k)), (4, .int (nI (sAB tc r (r 1 k) m))), (6, .int (nI (sAB tc r (r 1 k) m))), (0, .ref 0), (1, .int (nI m)), (2, .int (nI u))]) (st' := []) (z' := zA) rfl trivial ?_
              rw [show nI k + (1 : Int32) = nI (k + 1) from nI_add k 1]
              exact ww_cut [0, 1, 2, 4, 5, 6] (xlc rfl (xlc (congrArg Value.int (show (nI k : Int32) = cI (k + 1) from (cI_s k))) (xlc rfl (xlc rfl (xlc rfl (xlc rfl rfl)))))) rfl rfl (ih35 (k + 1) (k + 1) (sAB tc r (r 1 k) m) zA (by omega) (sSv_y e35_0 (by omega)) (KU_tr e35_1 hA.2.2) hA.2.1 (by omega) (by omega))
      exact ww_cut [0, 2, 1, 3, 4, 5] (xlc (congrArg Value.int (show (0 : Int32) = nI 0 from rfl)) (xlc (congrArg Value.int (show ((-1) : Int32) = cI 0 from rfl)) (xlc rfl (xlc rfl (xlc rfl (xlc rfl rfl)))))) rfl rfl (L35 (10 - 0 + 1) 0 0 (sAB tc r 0 m) z0 (Nat.lt_succ_self _) rfl hz0.2.2 hz0.2.1 (by omega) (sAB_bd tc r 0 m))
    · skip
      have h5 : ¬ (0 ≤ w.toInt ∧ w.toInt ≤ 1) := h5
      refine ww_br xCC okX5_saves 9 (P := 0 = 0) (t1 := 19) (t2 := 22) (r := []) rfl (fun _ => ?_) (fun q => absurd (by decide) q)
      refine ww_blk xCC okX5_saves 10 1 (ps := []) (pc' := 21) (lv' := [(0, .ref 0), (1, .int (nI m)), (2, .int w)]) (st' := [.int (-2)]) (z' := z) rfl trivial ?_
      subst xhQ
      exact ww_iret xCC okX5_saves 11 xhr rfl rfl ⟨_, rfl, ⟨(by unfold sSaves; rw [if_neg (by omega)]), hT, KU_rf z⟩⟩
  · skip
    have h2 : ¬ (1 ≤ x.toInt ∧ x.toInt ≤ 10) := h2
    refine ww_br xCC okX5_saves 4 (P := 0 = 0) (t1 := 19) (t2 := 10) (r := []) rfl (fun _ => ?_) (fun q => absurd (by decide) q)
    refine ww_blk xCC okX5_saves 10 1 (ps := []) (pc' := 21) (lv' := [(0, .ref 0), (1, .int x), (2, .int w)]) (st' := [.int (-2)]) (z' := z) rfl trivial ?_
    subst xhQ
    exact ww_iret xCC okX5_saves 11 xhr rfl rfl ⟨_, rfl, ⟨(by unfold sSaves; rw [if_neg (by omega)]), hT, KU_rf z⟩⟩

set_option maxHeartbeats 4000000 in
set_option maxRecDepth 20000 in
theorem t_X5_letGo (l : Launch) (d : Nat) (w : Int32) (z : xMem) (r : sR) (cnt : Nat) (hr : RX z 19 r) (hw : sW r cnt) : XMi l (d + 2) yX5_letGo cX5_letGo 6 (some .int) shX [.ref 0, .int w] z (fun v z' => v = sLetGo r w ∧ KU U0 z z') := by
  refine XM.of (by decide) (Nat.le_of_ble_eq_true rfl) (fun xp xe xs xm xar xbl xme xc xD xcs xad xAA xCC xhr => ?_)
  generalize xhQ : MQ xbl _ xar xs 0 0 xAA = xQ
  show ww xp l xe (xRm (d + 2)) xs xm xar xbl xme xc 6 xD xcs xad shX xAA xQ 0 [(0, .ref 0), (1, .int w)] [] z
  have hb := hw.1
  have h74 : r 7 4 ≤ 4 := hw.2.2.2.2.2.2.1
  refine ww_blk xCC okX5_letGo 0 3 (ps := []) (pc' := 3) (lv' := [(0, .ref 0), (1, .int w)]) (st' := [.int 1, .int 0, .int w]) (z' := z) rfl trivial ?_
  refine ww_callSNz xCC okX5_letGo 3 (ix := 52) (t_X5_within l d w 0 1 _) (by omega) (by decide) xyX5_within xiX5_within (Or.inl (lw_gt_of (List.mem_of_getElem? (i := 327) (by decide +kernel)) rfl)) rfl (rest := []) rfl (Nat.le_of_ble_eq_true rfl) rfl (fun z1 h2 => ?_) (fun z1 h2 => ?_)
  · skip
    have h2 : 0 ≤ w.toInt ∧ w.toInt ≤ 1 := h2
    obtain ⟨u, hu, rfl⟩ := sNN (x := w) (n := 2) (by omega) (by omega)
    refine ww_br xCC okX5_letGo 4 (P := 1 = 0) (t1 := 9) (t2 := 12) (r := []) rfl (fun q => absurd q (by decide)) (fun _ => ?_)
    refine ww_blk xCC okX5_letGo 7 6 (ps := []) (pc' := 19) (lv' := [(4, .int 0), (3, .int (-1)), (2, .int (-1)), (0, .ref 0), (1, .int (nI u))]) (st' := []) (z' := z) rfl trivial ?_
    have L19 : ∀ (n19 : Nat) (a : Nat) (f : Nat) (g : Nat) (zL : xMem), 8 - a < n19 → (sLt r a = (f, g)) → (KU U0 z zL) → (a ≤ 8) → (g ≤ 1001) → ww xp l xe (xRm (d + 2)) xs xm xar xbl xme xc 6 xD xcs xad shX xAA xQ 19 [(4, .int (nI a)), (2, .int (cI f)), (3, .int (cI g)), (0, .ref 0), (1, .int (nI u))] [] zL := by
      intro n19
      induction n19 with
      | zero =>
        intro a f g zL hmu19
        exact absurd hmu19 (Nat.not_lt_zero _)
      | succ n19 ih19 =>
        intro a f g zL hmu19 e19_0 e19_1 e19_2 e19_3
        have hba := hb a
        have hrL := RX_U e19_1 (by decide) hr
        refine ww_blk xCC okX5_letGo 13 2 (ps := []) (pc' := 23) (lv' := [(4, .int (nI a)), (2, .int (cI f)), (3, .int (cI g)), (0, .ref 0), (1, .int (nI u))]) (st' := [.int 8, .int (nI a)]) (z' := zL) rfl trivial ?_
        refine ww_br xCC okX5_letGo 15 (P := 8 ≤ (nI a)) (t1 := 68) (t2 := 26) (r := []) rfl (fun c4 => ?_) (fun c4 => ?_)
        · skip
          replace c4 : 8 ≤ a := (sLE (a := 8) (b := a) (by omega) (by omega)).mp c4
          refine ww_blk xCC okX5_letGo 36 1 (ps := []) (pc' := 69) (lv' := [(4, .int (nI a)), (2, .int (cI f)), (3, .int (cI g)), (0, .ref 0), (1, .int (nI u))]) (st' := [.int (nI u)]) (z' := zL) rfl trivial ?_
          refine ww_br xCC okX5_letGo 37 (P := (nI u) = 0) (t1 := 72) (t2 := 76) (r := []) rfl (fun c5 => ?_) (fun c5 => ?_)
          · skip
            replace c5 : u = 0 := (sEQ (a := u) (b := 0) (by omega) (by omega)).mp c5
            refine ww_blk xCC okX5_letGo 38 2 (ps := []) (pc' := 77) (lv' := [(4, .int (nI a)), (2, .int (cI f)), (3, .int (cI g)), (0, .ref 0), (1, .int (nI u))]) (st' := [.int (cI f)]) (z' := zL) rfl trivial ?_
            subst xhQ
            exact ww_iret xCC okX5_letGo 41 xhr rfl rfl ⟨_, rfl, ⟨(by rw [show a = 8 by omega] at e19_0; rw [sLetGo_y (by omega) e19_0]; grind), e19_1⟩⟩
          · skip
            replace c5 : ¬ u = 0 := fun q => c5 ((sEQ (a := u) (b := 0) (by omega) (by omega)).mpr q)
            refine ww_blk xCC okX5_letGo 40 1 (ps := []) (pc' := 77) (lv' := [(4, .int (nI a)), (2, .int (cI f)), (3, .int (cI g)), (0, .ref 0), (1, .int (nI u))]) (st' := [.int (cI g)]) (z' := zL) rfl trivial ?_
            subst xhQ
            exact ww_iret xCC okX5_letGo 41 xhr rfl rfl ⟨_, rfl, ⟨(by rw [show a = 8 by omega] at e19_0; rw [sLetGo_y (by omega) e19_0]; grind), e19_1⟩⟩
        · skip
          replace c4 : ¬ 8 ≤ a := fun q => c4 ((sLE (a := 8) (b := a) (by omega) (by omega)).mpr q)
          refine ww_blk xCC okX5_letGo 16 3 (ps := []) (pc' := 32) (lv' := [(4, .int (nI a)), (2, .int (cI f)), (3, .int (cI g)), (0, .ref 0), (1, .int (nI u))]) (st' := [.int (nI a), .ref 19]) (z' := zL) rfl trivial ?_
          refine ww_callVEi xCC okX5_letGo 19 (ix := 185) (t_X0_leastHarm l d a (xPull esN zL) r cnt (RX_pull (by decide) hrL) hw (by omega)) (by omega) (by decide) xyX0_leastHarm xiX0_leastHarm (Or.inr (List.mem_of_getElem? (i := 673) (by decide +kernel))) (by decide +kernel) (by decide) (fun q => by cases q) (q0 := 19) rfl rfl rfl rfl (rest := []) rfl (Nat.le_of_ble_eq_true rfl) rfl (fun vcH zcH hcH => ?_)
          have hkH := KU_esN_EQ (rw := xHasRaw shR) hcH.2
          obtain ⟨zH, hzH⟩ : ∃ y, y = xBack esN (xHasRaw shR) zL zcH := ⟨_, rfl⟩
          rw [← hzH] at hkH ⊢
          rw [hcH.1]
          have hrH := RX_U hkH (by decide) hrL
          have hkk := KU_tr e19_1 hkH
          have hsl := sLs_le r a 10
          refine ww_blk xCC okX5_letGo 20 6 (ps := [vp_in (nI a) 8]) (pc' := 47) (lv' := [(5, .int (nI (sLs r a 10))), (4, .int (nI a)), (2, .int (cI f)), (3, .int (cI g)), (0, .ref 0), (1, .int (nI u))]) (st' := [.int (zH.1 20 (nI a).toNatClampNeg)]) (z' := zH) rfl (vp_in_nI (by omega) (by decide)) ?_
          rw [sCL (n := a) (by omega)]
          rw [show zH.1 20 a = nI (r 0 a) from hrH.1 a]
          refine ww_br xCC okX5_letGo 26 (P := (nI (r 0 a)) ≤ 0) (t1 := 62) (t2 := 50) (r := []) rfl (fun c7 => ?_) (fun c7 => ?_)
          · skip
            replace c7 : (r 0 a) ≤ 0 := (sLE (a := (r 0 a)) (b := 0) (by omega) (by omega)).mp c7
            refine ww_blk xCC okX5_letGo 34 2 (ps := []) (pc' := 19) (lv' := [(4, .int ((nI a) + 1)), (5, .int (nI (sLs r a 10))), (2, .int (cI f)), (3, .int (cI g)), (0, .ref 0), (1, .int (nI u))]) (st' := []) (z' := zH) rfl trivial ?_
            rw [show nI a + (1 : Int32) = nI (a + 1) from nI_add a 1]
            exact ww_cut [0, 2, 3, 4, 5] (xlc rfl (xlc rfl (xlc rfl (xlc rfl (xlc rfl rfl))))) rfl rfl (ih19 (a + 1) f g zH (by omega) (sLt_n e19_0 (by omega)) hkk (by omega) (by omega))
          · skip
            replace c7 : ¬ (r 0 a) ≤ 0 := fun q => c7 ((sLE (a := (r 0 a)) (b := 0) (by omega) (by omega)).mpr q)
            refine ww_blk xCC okX5_letGo 27 2 (ps := []) (pc' := 53) (lv' := [(5, .int (nI (sLs r a 10))), (4, .int (nI a)), (2, .int (cI f)), (3, .int (cI g)), (0, .ref 0), (1, .int (nI u))]) (st' := [.int (cI g), .int (nI (sLs r a 10))]) (z' := zH) rfl trivial ?_
            refine ww_br xCC okX5_letGo 29 (P := (nI (sLs r a 10)) ≤ (cI g)) (t1 := 62) (t2 := 56) (r := []) rfl (fun c8 => ?_) (fun c8 => ?_)
            · skip
              have h53 := (cI_le (m := g) (n := sLs r a 10) (by omega) (by omega)).mp c8
              refine ww_blk xCC okX5_letGo 34 2 (ps := []) (pc' := 19) (lv' := [(4, .int ((nI a) + 1)), (5, .int (nI (sLs r a 10))), (2, .int (cI f)), (3, .int (cI g)), (0, .ref 0), (1, .int (nI u))]) (st' := []) (z' := zH) rfl trivial ?_
              rw [show nI a + (1 : Int32) = nI (a + 1) from nI_add a 1]
              exact ww_cut [0, 2, 3, 4, 5] (xlc rfl (xlc rfl (xlc rfl (xlc rfl (xlc rfl rfl))))) rfl rfl (ih19 (a + 1) f g zH (by omega) (sLt_n e19_0 (by omega)) hkk (by omega) (by omega))
            · skip
              have h53 : ¬ sLs r a 10 + 1 ≤ g := fun q => c8 ((cI_le (m := g) (n := sLs r a 10) (by omega) (by omega)).mpr q)
              refine ww_blk xCC okX5_letGo 30 6 (ps := []) (pc' := 19) (lv' := [(4, .int ((nI a) + 1)), (2, .int (nI a)), (3, .int (nI (sLs r a 10))), (5, .int (nI (sLs r a 10))), (0, .ref 0), (1, .int (nI u))]) (st' := []) (z' := zH) rfl trivial ?_
              rw [show nI a + (1 : Int32) = nI (a + 1) from nI_add a 1]
              exact ww_cut [0, 1, 2, 4, 5] (xlc rfl (xlc (congrArg Value.int (show (nI a : Int32) = cI (a + 1) from (cI_s a))) (xlc (congrArg Value.int (show (nI (sLs r a 10) : Int32) = cI (sLs r a 10 + 1) from (cI_s _))) (xlc rfl (xlc rfl rfl))))) rfl rfl (ih19 (a + 1) (a + 1) (sLs r a 10 + 1) zH (by omega) (sLt_y e19_0 rfl (by omega)) hkk (by omega) (by omega))
    exact ww_cut [0, 2, 1, 3, 4] (xlc (congrArg Value.int (show (0 : Int32) = nI 0 from rfl)) (xlc (congrArg Value.int (show ((-1) : Int32) = cI 0 from rfl)) (xlc (congrArg Value.int (show ((-1) : Int32) = cI 0 from rfl)) (xlc rfl (xlc rfl rfl))))) rfl rfl (L19 (8 - 0 + 1) 0 0 0 z (Nat.lt_succ_self _) rfl (KU_rf z) (by omega) (by omega))
  · skip
    have h2 : ¬ (0 ≤ w.toInt ∧ w.toInt ≤ 1) := h2
    refine ww_br xCC okX5_letGo 4 (P := 0 = 0) (t1 := 9) (t2 := 12) (r := []) rfl (fun _ => ?_) (fun q => absurd (by decide) q)
    refine ww_blk xCC okX5_letGo 5 1 (ps := []) (pc' := 11) (lv' := [(0, .ref 0), (1, .int w)]) (st' := [.int (-2)]) (z' := z) rfl trivial ?_
    subst xhQ
    exact ww_iret xCC okX5_letGo 6 xhr rfl rfl ⟨_, rfl, ⟨(by unfold sLetGo; rw [if_neg (by omega)]), KU_rf z⟩⟩

set_option maxHeartbeats 4000000 in
set_option maxRecDepth 20000 in
theorem t_X5_drawn (l : Launch) (d : Nat) (sd x : Int32) (z : xMem) (r : sR) (cnt : Nat) (tc : Nat → sTc) (hr : RX z 19 r) (hw : sW r cnt) (ht : TX z 1 cnt tc) (hS : sSub r) (hZ : sZ r) (hT : TH z) (hY : r 7 2 ≤ 999) : XMi l (d + 7) yX5_drawn cX5_drawn 3 (some .int) shX [.ref 0, .int sd, .int x] z (fun v z' => v = sDrawn tc r sd x ∧ TH z' ∧ KU UH z z') := by
  refine XM.of (by decide) (Nat.le_of_ble_eq_true rfl) (fun xp xe xs xm xar xbl xme xc xD xcs xad xAA xCC xhr => ?_)
  generalize xhQ : MQ xbl _ xar xs 0 0 xAA = xQ
  show ww xp l xe (xRm (d + 7)) xs xm xar xbl xme xc 3 xD xcs xad shX xAA xQ 0 [(0, .ref 0), (1, .int sd), (2, .int x)] [] z
  have hb := hw.1
  have h74 : r 7 4 ≤ 4 := hw.2.2.2.2.2.2.1
  refine ww_blk xCC okX5_drawn 0 3 (ps := []) (pc' := 4) (lv' := [(0, .ref 0), (1, .int sd), (2, .int x)]) (st' := [.int 20, .int 0, .int x]) (z' := z) rfl trivial ?_
  refine ww_callSNz xCC okX5_drawn 3 (ix := 52) (t_X5_within l d x 0 20 _) (by omega) (by decide) xyX5_within xiX5_within (Or.inl (lw_gt_of (List.mem_of_getElem? (i := 327) (by decide +kernel)) rfl)) rfl (rest := []) rfl (Nat.le_of_ble_eq_true rfl) rfl (fun z1 h2 => ?_) (fun z1 h2 => ?_)
  · skip
    have h2 : 0 ≤ x.toInt ∧ x.toInt ≤ 20 := h2
    obtain ⟨m, hm, rfl⟩ := sNN (x := x) (n := 21) (by omega) (by omega)
    refine ww_br xCC okX5_drawn 4 (P := 1 = 0) (t1 := 19) (t2 := 10) (r := []) rfl (fun q => absurd q (by decide)) (fun _ => ?_)
    refine ww_blk xCC okX5_drawn 5 3 (ps := []) (pc' := 13) (lv' := [(0, .ref 0), (1, .int sd), (2, .int (nI m))]) (st' := [.int (nI m), .int sd, .ref 0]) (z' := z) rfl trivial ?_
    refine ww_callVIi xCC okX5_drawn 8 (ix := 227) (t_X5_aliveByDraw l d sd m z r cnt tc hr hw ht hS hZ hT hY (by omega)) (by omega) (by decide) xyX5_aliveByDraw xiX5_aliveByDraw (Or.inl (lw_gt_of (List.mem_of_getElem? (i := 743) (by decide +kernel)) rfl)) rfl rfl rfl (rest := []) rfl (Nat.le_of_ble_eq_true rfl) rfl (fun vA zA hA => ?_)
    rw [hA.1]
    have hrA := RX_U hA.2.2 (by decide) hr
    have htA := TX_U hA.2.2 (by decide) ht
    have hTA := hA.2.1
    refine ww_blk xCC okX5_drawn 9 1 (ps := []) (pc' := 21) (lv' := [(0, .ref 0), (1, .int sd), (2, .int (nI m))]) (st' := [.int (nI (sDv tc r sd m))]) (z' := zA) rfl trivial ?_
    subst xhQ
    exact ww_iret xCC okX5_drawn 11 xhr rfl rfl ⟨_, rfl, ⟨(by unfold sDrawn; rw [sTI (k := m) (by omega), if_pos (by omega)]; rfl), hA.2⟩⟩
  · skip
    have h2 : ¬ (0 ≤ x.toInt ∧ x.toInt ≤ 20) := h2
    refine ww_br xCC okX5_drawn 4 (P := 0 = 0) (t1 := 19) (t2 := 10) (r := []) rfl (fun _ => ?_) (fun q => absurd (by decide) q)
    refine ww_blk xCC okX5_drawn 10 1 (ps := []) (pc' := 21) (lv' := [(0, .ref 0), (1, .int sd), (2, .int x)]) (st' := [.int (-2)]) (z' := z) rfl trivial ?_
    subst xhQ
    exact ww_iret xCC okX5_drawn 11 xhr rfl rfl ⟨_, rfl, ⟨(by unfold sDrawn; rw [if_neg (by omega)]), hT, KU_rf z⟩⟩

set_option maxHeartbeats 4000000 in
set_option maxRecDepth 20000 in
theorem t_X5_chance (l : Launch) (d : Nat) (sd x y v : Int32) (z : xMem) (r : sR) (cnt : Nat) (tc : Nat → sTc) (hr : RX z 19 r) (hw : sW r cnt) (ht : TX z 1 cnt tc) (hS : sSub r) (hZ : sZ r) (hT : TH z) (hY : r 7 2 ≤ 999) : XMl l (d + 7) yX5_chance cX5_chance 7 (some .long) shX [.ref 0, .int sd, .int x, .int y, .int v] z (fun v9 z' => v9 = sChance tc r sd x y v ∧ TH z' ∧ KU UH z z') := by
  refine XM.of (by decide) (Nat.le_of_ble_eq_true rfl) (fun xp xe xs xm xar xbl xme xc xD xcs xad xAA xCC xhr => ?_)
  generalize xhQ : MQ xbl _ xar xs 0 0 xAA = xQ
  show ww xp l xe (xRm (d + 7)) xs xm xar xbl xme xc 7 xD xcs xad shX xAA xQ 0 [(0, .ref 0), (1, .int sd), (2, .int x), (3, .int y), (4, .int v)] [] z
  have hb := hw.1
  have h74 : r 7 4 ≤ 4 := hw.2.2.2.2.2.2.1
  refine ww_blk xCC okX5_chance 0 3 (ps := []) (pc' := 4) (lv' := [(0, .ref 0), (1, .int sd), (2, .int x), (3, .int y), (4, .int v)]) (st' := [.int 20, .int 1, .int x]) (z' := z) rfl trivial ?_
  refine ww_callSNz xCC okX5_chance 3 (ix := 52) (t_X5_within l d x 1 20 _) (by omega) (by decide) xyX5_within xiX5_within (Or.inl (lw_gt_of (List.mem_of_getElem? (i := 327) (by decide +kernel)) rfl)) rfl (rest := []) rfl (Nat.le_of_ble_eq_true rfl) rfl (fun z1 h2 => ?_) (fun z1 h2 => ?_)
  · skip
    have h2 : 1 ≤ x.toInt ∧ x.toInt ≤ 20 := h2
    obtain ⟨m, hm, rfl⟩ := sNN (x := x) (n := 21) (by omega) (by omega)
    refine ww_br xCC okX5_chance 4 (P := 1 = 0) (t1 := 20) (t2 := 10) (r := []) rfl (fun q => absurd q (by decide)) (fun _ => ?_)
    refine ww_blk xCC okX5_chance 5 3 (ps := []) (pc' := 14) (lv' := [(0, .ref 0), (1, .int sd), (2, .int (nI m)), (3, .int y), (4, .int v)]) (st' := [.int 8, .int 0, .int y]) (z' := z) rfl trivial ?_
    refine ww_callSNz xCC okX5_chance 8 (ix := 52) (t_X5_within l d y 0 8 _) (by omega) (by decide) xyX5_within xiX5_within (Or.inl (lw_gt_of (List.mem_of_getElem? (i := 327) (by decide +kernel)) rfl)) rfl (rest := []) rfl (Nat.le_of_ble_eq_true rfl) rfl (fun z4 h5 => ?_) (fun z4 h5 => ?_)
    · skip
      have h5 : 0 ≤ y.toInt ∧ y.toInt ≤ 8 := h5
      obtain ⟨k, hk, rfl⟩ := sNN (x := y) (n := 9) (by omega) (by omega)
      refine ww_br xCC okX5_chance 9 (P := 1 = 0) (t1 := 20) (t2 := 24) (r := []) rfl (fun q => absurd q (by decide)) (fun _ => ?_)
      refine ww_blk xCC okX5_chance 12 4 (ps := []) (pc' := 30) (lv' := [(6, .int 0), (5, .int 0), (0, .ref 0), (1, .int sd), (2, .int (nI m)), (3, .int (nI k)), (4, .int v)]) (st' := []) (z' := z) rfl trivial ?_
      have L30 : ∀ (n30 : Nat) (i : Nat) (a : Nat) (zL : xMem), m - i < n30 → (sCh tc r sd k i = a) → (a ≤ i) → (i ≤ m) → (TH zL) → (KU UH z zL) → ww xp l xe (xRm (d + 7)) xs xm xar xbl xme xc 7 xD xcs xad shX xAA xQ 30 [(6, .int (nI i)), (5, .int (nI a)), (0, .ref 0), (1, .int sd), (2, .int (nI m)), (3, .int (nI k)), (4, .int v)] [] zL := by
        intro n30
        induction n30 with
        | zero =>
          intro i a zL hmu30
          exact absurd hmu30 (Nat.not_lt_zero _)
        | succ n30 ih30 =>
          intro i a zL hmu30 e30_0 e30_1 e30_2 e30_3 e30_4
          have hrL := RX_U e30_4 (by decide) hr
          have htL := TX_U e30_4 (by decide) ht
          have hTL := e30_3
          have hv9 := sDv_bd tc r (sd + nI i) 6
          refine ww_blk xCC okX5_chance 16 2 (ps := []) (pc' := 33) (lv' := [(6, .int (nI i)), (5, .int (nI a)), (0, .ref 0), (1, .int sd), (2, .int (nI m)), (3, .int (nI k)), (4, .int v)]) (st' := [.int (nI m), .int (nI i)]) (z' := zL) rfl trivial ?_
          refine ww_br xCC okX5_chance 18 (P := (nI m) ≤ (nI i)) (t1 := 59) (t2 := 36) (r := []) rfl (fun c7 => ?_) (fun c7 => ?_)
          · skip
            replace c7 : m ≤ i := (sLE (a := m) (b := i) (by omega) (by omega)).mp c7
            refine ww_blk xCC okX5_chance 30 3 (ps := []) (pc' := 64) (lv' := [(6, .int (nI i)), (5, .int (nI a)), (0, .ref 0), (1, .int sd), (2, .int (nI m)), (3, .int (nI k)), (4, .int v)]) (st' := [.int v, .int (nI m), .int (nI a)]) (z' := zL) rfl trivial ?_
            refine ww_callSNl xCC okX5_chance 33 (ix := 188) (t_X5_fraction l d a m v (by omega) (by omega) _) (by omega) (by decide) xyX5_fraction xiX5_fraction (Or.inl (lw_gt_of (List.mem_of_getElem? (i := 681) (by decide +kernel)) rfl)) rfl (rest := []) rfl (Nat.le_of_ble_eq_true rfl) rfl (fun vF z8 hF => ?_)
            subst xhQ
            exact ww_lret xCC okX5_chance 34 xhr rfl ⟨_, rfl, ⟨(by rw [hF]; exact sChance_x (by have q := sTI (k := m) (by omega); omega) (by omega) (by omega) (show i = m by omega) e30_0), e30_3, e30_4⟩⟩
          · skip
            replace c7 : ¬ m ≤ i := fun q => c7 ((sLE (a := m) (b := i) (by omega) (by omega)).mpr q)
            refine ww_blk xCC okX5_chance 19 5 (ps := []) (pc' := 43) (lv' := [(6, .int (nI i)), (5, .int (nI a)), (0, .ref 0), (1, .int sd), (2, .int (nI m)), (3, .int (nI k)), (4, .int v)]) (st' := [.int 6, .int (sd + (nI i)), .ref 0]) (z' := zL) rfl trivial ?_
            refine ww_callVIi xCC okX5_chance 24 (ix := 227) (t_X5_aliveByDraw l d (sd + nI i) 6 zL r cnt tc hrL hw htL hS hZ hTL hY (by decide)) (by omega) (by decide) xyX5_aliveByDraw xiX5_aliveByDraw (Or.inl (lw_gt_of (List.mem_of_getElem? (i := 743) (by decide +kernel)) rfl)) rfl rfl rfl (rest := []) rfl (Nat.le_of_ble_eq_true rfl) rfl (fun vA zA hA => ?_)
            rw [hA.1]
            have hrA := RX_U hA.2.2 (by decide) hrL
            have htA := TX_U hA.2.2 (by decide) htL
            have hTA := hA.2.1
            refine ww_blk xCC okX5_chance 25 1 (ps := []) (pc' := 47) (lv' := [(6, .int (nI i)), (5, .int (nI a)), (0, .ref 0), (1, .int sd), (2, .int (nI m)), (3, .int (nI k)), (4, .int v)]) (st' := [.int (nI k), .int (nI (sDv tc r (sd + nI i) 6))]) (z' := zA) rfl trivial ?_
            refine ww_br xCC okX5_chance 26 (P := (nI (sDv tc r (sd + nI i) 6)) < (nI k)) (t1 := 53) (t2 := 50) (r := []) rfl (fun c9 => ?_) (fun c9 => ?_)
            · skip
              replace c9 : (sDv tc r (sd + nI i) 6) < k := (sLT (a := (sDv tc r (sd + nI i) 6)) (b := k) (by omega) (by omega)).mp c9
              refine ww_blk xCC okX5_chance 28 2 (ps := []) (pc' := 30) (lv' := [(6, .int ((nI i) + 1)), (5, .int (nI a)), (0, .ref 0), (1, .int sd), (2, .int (nI m)), (3, .int (nI k)), (4, .int v)]) (st' := []) (z' := zA) rfl trivial ?_
              rw [show nI i + (1 : Int32) = nI (i + 1) from nI_add i 1]
              exact ww_cut [0, 1, 2, 3, 4, 5, 6] (xlc rfl (xlc rfl (xlc rfl (xlc rfl (xlc rfl (xlc rfl (xlc rfl rfl))))))) rfl rfl (ih30 (i + 1) a zA (by omega) (sCh_n e30_0 (by omega)) (by omega) (by omega) hA.2.1 (KU_tr e30_4 hA.2.2))
            · skip
              replace c9 : ¬ (sDv tc r (sd + nI i) 6) < k := fun q => c9 ((sLT (a := (sDv tc r (sd + nI i) 6)) (b := k) (by omega) (by omega)).mpr q)
              refine ww_blk xCC okX5_chance 27 3 (ps := []) (pc' := 30) (lv' := [(6, .int ((nI i) + 1)), (5, .int ((nI a) + 1)), (0, .ref 0), (1, .int sd), (2, .int (nI m)), (3, .int (nI k)), (4, .int v)]) (st' := []) (z' := zA) rfl trivial ?_
              rw [show nI i + (1 : Int32) = nI (i + 1) from nI_add i 1]
              rw [show nI a + (1 : Int32) = nI (a + 1) from nI_add a 1]
              exact ww_cut [0, 1, 2, 3, 4, 5, 6] (xlc rfl (xlc rfl (xlc rfl (xlc rfl (xlc rfl (xlc rfl (xlc rfl rfl))))))) rfl rfl (ih30 (i + 1) (a + 1) zA (by omega) (sCh_y e30_0 (by omega)) (by omega) (by omega) hA.2.1 (KU_tr e30_4 hA.2.2))
      exact ww_cut [0, 1, 2, 3, 4, 5, 6] (xlc (congrArg Value.int (show (0 : Int32) = nI 0 from rfl)) (xlc (congrArg Value.int (show (0 : Int32) = nI 0 from rfl)) (xlc rfl (xlc rfl (xlc rfl (xlc rfl (xlc rfl rfl))))))) rfl rfl (L30 (m - 0 + 1) 0 0 z (Nat.lt_succ_self _) rfl (by omega) (by omega) hT (KU_rf z))
    · skip
      have h5 : ¬ (0 ≤ y.toInt ∧ y.toInt ≤ 8) := h5
      refine ww_br xCC okX5_chance 9 (P := 0 = 0) (t1 := 20) (t2 := 24) (r := []) rfl (fun _ => ?_) (fun q => absurd (by decide) q)
      refine ww_blk xCC okX5_chance 10 1 (ps := []) (pc' := 23) (lv' := [(0, .ref 0), (1, .int sd), (2, .int (nI m)), (3, .int y), (4, .int v)]) (st' := [.long (-4611686018427387904)]) (z' := z) rfl trivial ?_
      subst xhQ
      exact ww_lret xCC okX5_chance 11 xhr rfl ⟨_, rfl, ⟨(by unfold sChance; rw [if_neg (by omega)]), hT, KU_rf z⟩⟩
  · skip
    have h2 : ¬ (1 ≤ x.toInt ∧ x.toInt ≤ 20) := h2
    refine ww_br xCC okX5_chance 4 (P := 0 = 0) (t1 := 20) (t2 := 10) (r := []) rfl (fun _ => ?_) (fun q => absurd (by decide) q)
    refine ww_blk xCC okX5_chance 10 1 (ps := []) (pc' := 23) (lv' := [(0, .ref 0), (1, .int sd), (2, .int x), (3, .int y), (4, .int v)]) (st' := [.long (-4611686018427387904)]) (z' := z) rfl trivial ?_
    subst xhQ
    exact ww_lret xCC okX5_chance 11 xhr rfl ⟨_, rfl, ⟨(by unfold sChance; rw [if_neg (by omega)]), hT, KU_rf z⟩⟩

set_option maxHeartbeats 4000000 in
set_option maxRecDepth 20000 in
theorem t_X5_image (l : Launch) (d : Nat) (z : xMem) (r rk : sR) (hr : RX z 19 r) (hk : RX z 35 rk ∧ sZ rk) (hZ : sZ r) : XMi l (d + 1) yX5_image cX5_image 1 (some .int) shX [.ref 0] z (fun v z' => v = nI (r 7 4) ∧ z'.1 0 5 = 1 ∧ RX z' 35 r ∧ KU UI z z') := by
  refine XM.of (by decide) (Nat.le_of_ble_eq_true rfl) (fun xp xe xs xm xar xbl xme xc xD xcs xad xAA xCC xhr => ?_)
  generalize xhQ : MQ xbl _ xar xs 0 0 xAA = xQ
  show ww xp l xe (xRm (d + 1)) xs xm xar xbl xme xc 1 xD xcs xad shX xAA xQ 0 [(0, .ref 0)] [] z
  refine ww_blk xCC okX5_image 0 4 (ps := []) (pc' := 8) (lv' := [(0, .ref 0)]) (st' := [.ref 19, .ref 35]) (z' := z) rfl trivial ?_
  refine ww_callVEv xCC okX5_image 4 (ix := 139) (t_X0_takeFrom l d (xPull esKN z) rk r (RX_pull (by decide) hk.1) (RX_pull8 (by decide) hr) hk.2 hZ) (by omega) (by decide) xyX0_takeFrom xiX0_takeFrom (Or.inr (List.mem_of_getElem? (i := 603) (by decide +kernel))) (by decide +kernel) (by decide) (fun q => by cases q) (q0 := 35) rfl rfl rfl rfl (rest := []) rfl (Nat.le_of_ble_eq_true rfl) rfl (fun zcA hcA => ?_)
  have hkA := KU_esKN_TF (rw := xHasRaw shRR) hcA.2
  obtain ⟨zA, hzA⟩ : ∃ y, y = xBack esKN (xHasRaw shRR) z zcA := ⟨_, rfl⟩
  rw [← hzA] at hkA ⊢
  have hrA := RX_back (es := esKN) (rw := xHasRaw shRR) (z := z) (b := 35) (by decide) hcA.1
  rw [← hzA] at hrA
  have hrN := RX_U hkA (by decide) hr
  refine ww_blk xCC okX5_image 5 6 (ps := [1 = 0 ∨ 1 = 1]) (pc' := 23) (lv' := [(0, .ref 0)]) (st' := [.int (zA.1 19 9)]) (z' := (mPut zA 0 5 1)) rfl (Or.inr rfl) ?_
  rw [show zA.1 19 9 = nI (r 7 4) from hrN.2.2.2.2.2.2.2.2.2.2.2.2.1]
  subst xhQ
  exact ww_iret xCC okX5_image 11 xhr rfl rfl ⟨_, rfl, ⟨rfl, mPut_at, RX_of (fun k hk => mPut_nq (by omega)) hrA, KU_put (by decide) (KU_mo hkA (by decide))⟩⟩

set_option maxHeartbeats 4000000 in
set_option maxRecDepth 20000 in
theorem t_X5_back (l : Launch) (d : Nat) (z : xMem) (r rk : sR) (kk : Nat) (hkk : z.1 0 5 = nI kk) (hk1 : kk ≤ 1) (hr : RX z 19 r) (hk : RX z 35 rk ∧ sZ rk) (hZ : sZ r) : XMi l (d + 1) yX5_back cX5_back 1 (some .int) shX [.ref 0] z (fun v z' => (kk = 0 ∧ v = -3 ∧ z' = z) ∨ (kk = 1 ∧ v = nI (rk 7 4) ∧ RX z' 19 (sBk r rk) ∧ KU UN z z')) := by
  refine XM.of (by decide) (Nat.le_of_ble_eq_true rfl) (fun xp xe xs xm xar xbl xme xc xD xcs xad xAA xCC xhr => ?_)
  generalize xhQ : MQ xbl _ xar xs 0 0 xAA = xQ
  show ww xp l xe (xRm (d + 1)) xs xm xar xbl xme xc 1 xD xcs xad shX xAA xQ 0 [(0, .ref 0)] [] z
  refine ww_blk xCC okX5_back 0 2 (ps := []) (pc' := 4) (lv' := [(0, .ref 0)]) (st' := [.int (z.1 0 5)]) (z' := z) rfl trivial ?_
  rw [hkk]
  refine ww_br xCC okX5_back 2 (P := (nI kk) = 0) (t1 := 7) (t2 := 10) (r := []) rfl (fun c1 => ?_) (fun c1 => ?_)
  · skip
    replace c1 : kk = 0 := (sEQ (a := kk) (b := 0) (by omega) (by omega)).mp c1
    refine ww_blk xCC okX5_back 3 1 (ps := []) (pc' := 9) (lv' := [(0, .ref 0)]) (st' := [.int (-3)]) (z' := z) rfl trivial ?_
    subst xhQ
    exact ww_iret xCC okX5_back 4 xhr rfl rfl ⟨_, rfl, (Or.inl ⟨by omega, rfl, rfl⟩)⟩
  · skip
    replace c1 : ¬ kk = 0 := fun q => c1 ((sEQ (a := kk) (b := 0) (by omega) (by omega)).mpr q)
    refine ww_blk xCC okX5_back 5 4 (ps := []) (pc' := 18) (lv' := [(0, .ref 0)]) (st' := [.ref 35, .ref 19]) (z' := z) rfl trivial ?_
    refine ww_callVEv xCC okX5_back 9 (ix := 139) (t_X0_takeFrom l d (xPull esNK z) r rk (RX_pull (by decide) hr) (RX_pull8 (by decide) hk.1) hZ hk.2) (by omega) (by decide) xyX0_takeFrom xiX0_takeFrom (Or.inr (List.mem_of_getElem? (i := 603) (by decide +kernel))) (by decide +kernel) (by decide) (fun q => by cases q) (q0 := 19) rfl rfl rfl rfl (rest := []) rfl (Nat.le_of_ble_eq_true rfl) rfl (fun zcA hcA => ?_)
    have hkA := KU_esNK_TF (rw := xHasRaw shRR) hcA.2
    obtain ⟨zA, hzA⟩ : ∃ y, y = xBack esNK (xHasRaw shRR) z zcA := ⟨_, rfl⟩
    rw [← hzA] at hkA ⊢
    have hrA := RX_back (es := esNK) (rw := xHasRaw shRR) (z := z) (b := 19) (by decide) hcA.1
    rw [← hzA] at hrA
    refine ww_blk xCC okX5_back 10 3 (ps := []) (pc' := 28) (lv' := [(0, .ref 0)]) (st' := [.int (zA.1 19 9)]) (z' := zA) rfl trivial ?_
    rw [show zA.1 19 9 = nI (rk 7 4) from hrA.2.2.2.2.2.2.2.2.2.2.2.2.1]
    subst xhQ
    exact ww_iret xCC okX5_back 13 xhr rfl rfl ⟨_, rfl, (Or.inr ⟨by omega, rfl, RX_bk hrA hZ hk.2, hkA⟩)⟩
