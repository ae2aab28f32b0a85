/-! LawsLapse's methods in thought -/
def esHN : List Nat := [27, 28, 29, 30, 31, 32, 33, 34, 19, 20, 21, 22, 23, 24, 25, 26, 1, 2, 3, 4, 5, 6, 7, 8, 9, 10, 11, 12, 13, 14, 15, 16]
def esKN : List Nat := [35, 36, 37, 38, 39, 40, 41, 42, 19, 20, 21, 22, 23, 24, 25, 26, 1, 2, 3, 4, 5, 6, 7, 8, 9, 10, 11, 12, 13, 14, 15, 16]
def esNK : List Nat := [19, 20, 21, 22, 23, 24, 25, 26, 35, 36, 37, 38, 39, 40, 41, 42, 1, 2, 3, 4, 5, 6, 7, 8, 9, 10, 11, 12, 13, 14, 15, 16]
theorem RX_pull8 {z : xMem} {es : List Nat} {b : Nat} {r : sR} (h : ∀ k, k < 8 → xEs es (8 + k) = b + k) (hr : RX z b r) : RX (xPull es z) 8 r := RX_of (fun k hk => congrArg z.1 (h k hk)) hr
theorem TF_I {z zn : xMem} (h : ∀ q, 8 ≤ q → zn.1 q = z.1 q) : ∀ i, i ∉ [0, 1, 2, 3, 4, 5, 6, 7] → zn.1 i = z.1 i := fun i hi => by
  simp only [List.mem_cons, List.not_mem_nil, or_false, not_or] at hi
  exact h i (by omega)
theorem KU_esHN_TF {rw : Bool} {z zn : xMem} (h : ∀ q, 8 ≤ q → zn.1 q = (xPull esHN z).1 q) : KU UH z (xBack esHN rw z zn) := KU_back (TF_I h) (by decide)
theorem KU_esKN_TF {rw : Bool} {z zn : xMem} (h : ∀ q, 8 ≤ q → zn.1 q = (xPull esKN z).1 q) : KU UK z (xBack esKN rw z zn) := KU_back (TF_I h) (by decide)
theorem KU_esNK_TF {rw : Bool} {z zn : xMem} (h : ∀ q, 8 ≤ q → zn.1 q = (xPull esNK z).1 q) : KU UN z (xBack esNK rw z zn) := KU_back (TF_I h) (by decide)
/-- what is in thought -/
def TH (z : xMem) : Prop := ∃ r, RX z 27 r ∧ sZ r
theorem TH_U {L : List Nat} {z z' : xMem} (h : KU L z z') (hL : ∀ k, k < 8 → 27 + k ∉ L) (hT : TH z) : TH z' := by
  obtain ⟨r, h1, h2⟩ := hT
  exact ⟨r, RX_U h hL h1, h2⟩
theorem sBrk_0 (r : sR) : sBrk r 0 = r := by
  funext q j
  unfold sBrk
  split
  · rename_i h; rw [h.1, h.2]; simp
  · rfl
theorem sZ_brk {r : sR} {a : Nat} (h : sZ r) : sZ (sBrk r a) := by
  intro j
  have := h j
  simpa [sBrk] using this
theorem sSub_brk {r : sR} {a : Nat} (h : sSub r) : sSub (sBrk r a) := by
  intro i hi
  rw [show sBrk r a 7 0 = r 7 0 ||| (a &&& sAl (r 0) 8) by simp [sBrk], Nat.testBit_or, Nat.testBit_and, sAl_tb] at hi
  have e : sBrk r a 0 i = r 0 i := by simp [sBrk]
  rw [e]
  simp only [Bool.or_eq_true, Bool.and_eq_true, decide_eq_true_eq] at hi
  rcases hi with hi | hi
  · exact h i hi
  · exact hi.2
theorem sZ_done {tc : Nat → sTc} {r : sR} {p e : Nat} (h : sZ r) (hp : p < 4) : sZ (sDone tc r p e) := by
  intro j
  obtain ⟨h1, h2, h3⟩ := h j
  refine ⟨fun q => ?_, fun q => ?_, fun q => ?_⟩
  · simpa [sDone] using h1 q
  · simpa [sDone] using h2 q
  · have e : ¬ j = p := by omega
    simpa [sDone, e] using h3 q
theorem sZ_end {r : sR} (h : sZ r) (hp : r 7 4 ≤ 4) : sZ (sEnd r) := by
  intro j
  obtain ⟨h1, h2, h3⟩ := h j
  refine ⟨fun q => ?_, fun q => ?_, fun q => ?_⟩
  · have e : ¬ j < 8 := by omega
    simpa [sEnd, sE2, sE1, e] using h1 q
  · simpa [sEnd, sE2, sE1] using h2 q
  · have e : ¬ j < r 7 4 := by omega
    simpa [sEnd, sE2, sE1, e] using h3 q
theorem sEnd_74 {r : sR} : sEnd r 7 4 = r 7 4 := by simp [sEnd, sE2, sE1]
theorem sZ_ap {tc : Nat → sTc} {r : sR} (h : sZ r) : ∀ k, k ≤ 4 → sZ (sAp tc r k).1
  | 0, _ => h
  | k + 1, hk => by
    have ih := sZ_ap (tc := tc) h k (by omega)
    rw [sAp]
    split
    · exact sZ_done ih (by omega)
    · exact ih
theorem sZ_all {tc : Nat → sTc} {r : sR} (h : sZ r) (hp : r 7 4 ≤ 4) : sZ (sAll tc r).1 := sZ_ap h _ hp
theorem sAll_74 {tc : Nat → sTc} {r : sR} : (sAll tc r).1 7 4 = r 7 4 := sAp_74 tc r _
theorem sGo_74 {tc : Nat → sTc} {r : sR} : ∀ n, (sGo tc r n).1 7 4 = r 7 4
  | 0 => rfl
  | n + 1 => by
    show sEnd (sAll tc (sGo tc r n).1).1 7 4 = _
    rw [sEnd_74, sAll_74, sGo_74 n]
theorem sZ_go {tc : Nat → sTc} {r : sR} (h : sZ r) (hp : r 7 4 ≤ 4) : ∀ n, sZ (sGo tc r n).1
  | 0 => h
  | n + 1 => by
    have e := sGo_74 (tc := tc) (r := r) n
    exact sZ_end (sZ_all (sZ_go h hp n) (by omega)) (by rw [sAll_74]; omega)
theorem sSub_go {tc : Nat → sTc} {r : sR} (h : sSub r) : ∀ n, sSub (sGo tc r n).1
  | 0 => h
  | n + 1 => sSub_end _
theorem sW_go {tc : Nat → sTc} {r : sR} {cnt : Nat} (h : sW r cnt) : ∀ {n : Nat}, r 7 2 + n ≤ 100000 → sW (sGo tc r n).1 cnt
  | 0, _ => h
  | n + 1, hy => by
    have e := sGo_yr (tc := tc) (r := r) n
    exact sW_end (sW_all (sW_go h (n := n) (by omega))) (by rw [sAll_y, e]; omega)
theorem sDw_74 {tc : Nat → sTc} {r : sR} {sd : Int32} : ∀ n, (sDw tc r sd n).2 7 4 = r 7 4
  | 0 => rfl
  | n + 1 => by
    have e := sDw_74 (tc := tc) (r := r) (sd := sd) n
    rw [sDw]
    simp only
    rw [sEnd_74]
    split
    · exact e
    · exact e
theorem sZ_dw {tc : Nat → sTc} {r : sR} {sd : Int32} (h : sZ r) (hp : r 7 4 ≤ 4) : ∀ n, sZ (sDw tc r sd n).2
  | 0 => h
  | n + 1 => by
    have e := sDw_74 (tc := tc) (r := r) (sd := sd) n
    have ih := sZ_dw (sd := sd) (tc := tc) h hp n
    rw [sDw]
    simp only
    split
    · rename_i hq
      refine sZ_end (sZ_done ih (by omega)) ?_
      show (sDw tc r sd n).2 7 4 ≤ 4
      omega
    · exact sZ_end ih (by omega)
set_option maxHeartbeats 4000000 in
set_option maxRecDepth 20000 in
theorem t_X5_aliveBehind (l : Launch) (d : Nat) (e m : Nat) (z : xMem) (r : sR) (cnt : Nat) (tc : Nat → sTc) (hr : RX z 19 r) (hw : sW r cnt) (ht : TX z 1 cnt tc) (hS : sSub r) (hZ : sZ r) (hT : TH z) (hY : r 7 2 ≤ 999) (he : e < 10) (hm : m ≤ 20) : XMi l (d + 6) yX5_aliveBehind cX5_aliveBehind 3 (some .int) shX [.ref 0, .int (nI m), .int (nI e)] z (fun v z' => v = nI (sAB tc r (r 1 e) m) ∧ TH z' ∧ KU UH z z') := by
  refine XM.of (by decide) (Nat.le_of_ble_eq_true rfl) (fun xp xe xs xm xar xbl xme xc xD xcs xad xAA xCC xhr => ?_)
  generalize xhQ : MQ xbl _ xar xs 0 0 xAA = xQ
  show ww xp l xe (xRm (d + 6)) xs xm xar xbl xme xc 3 xD xcs xad shX xAA xQ 0 [(0, .ref 0), (1, .int (nI m)), (2, .int (nI e))] [] z
  have hb := hw.1
  have h74 : r 7 4 ≤ 4 := hw.2.2.2.2.2.2.1
  refine ww_blk xCC okX5_aliveBehind 0 4 (ps := []) (pc' := 8) (lv' := [(0, .ref 0), (1, .int (nI m)), (2, .int (nI e))]) (st' := [.ref 19, .ref 27]) (z' := z) rfl trivial ?_
  obtain ⟨rt0, hrt0, hzt0⟩ := hT
  refine ww_callVEv xCC okX5_aliveBehind 4 (ix := 139) (t_X0_takeFrom l d (xPull esHN z) rt0 r (RX_pull (by decide) hrt0) (RX_pull8 (by decide) hr) hzt0 hZ) (by omega) (by decide) xyX0_takeFrom xiX0_takeFrom (Or.inr (List.mem_of_getElem? (i := 603) (by decide +kernel))) (by decide +kernel) (by decide) (fun q => by cases q) (q0 := 27) rfl rfl rfl rfl (rest := []) rfl (Nat.le_of_ble_eq_true rfl) rfl (fun zcA hcA => ?_)
  have hkA := KU_esHN_TF (rw := xHasRaw shRR) hcA.2
  obtain ⟨zA, hzA⟩ : ∃ y, y = xBack esHN (xHasRaw shRR) z zcA := ⟨_, rfl⟩
  rw [← hzA] at hkA ⊢
  have hrA := RX_back (es := esHN) (rw := xHasRaw shRR) (z := z) (b := 27) (by decide) hcA.1
  rw [← hzA] at hrA
  have htA := TX_U hkA (by decide) ht
  refine ww_blk xCC okX5_aliveBehind 5 2 (ps := []) (pc' := 13) (lv' := [(0, .ref 0), (1, .int (nI m)), (2, .int (nI e))]) (st' := [.int (-1), .int (nI e)]) (z' := zA) rfl trivial ?_
  refine ww_br xCC okX5_aliveBehind 7 (P := (nI e) = (-1)) (t1 := 24) (t2 := 16) (r := []) rfl (fun c3 => absurd c3 (sNm1 e he)) (fun c3 => ?_)
  refine ww_blk xCC okX5_aliveBehind 8 3 (ps := []) (pc' := 21) (lv' := [(0, .ref 0), (1, .int (nI m)), (2, .int (nI e))]) (st' := [.int (nI e), .ref 27]) (z' := zA) rfl trivial ?_
  refine ww_callVEv xCC okX5_aliveBehind 11 (ix := 260) (t_X0_breakBy l d e (xPull esH zA) r cnt (RX_pull (by decide) hrA) hw he) (by omega) (by decide) xyX0_breakBy xiX0_breakBy (Or.inr (List.mem_of_getElem? (i := 668) (by decide +kernel))) (by decide +kernel) (by decide) (fun q => by cases q) (q0 := 27) rfl rfl rfl rfl (rest := []) rfl (Nat.le_of_ble_eq_true rfl) rfl (fun zcB hcB => ?_)
  have hkB := KU_esH_KQ (rw := xHasRaw shR) hcB.2
  obtain ⟨zB, hzB⟩ : ∃ y, y = xBack esH (xHasRaw shR) zA zcB := ⟨_, rfl⟩
  rw [← hzB] at hkB ⊢
  have hrB := RX_back (es := esH) (rw := xHasRaw shR) (z := zA) (b := 27) (by decide) hcB.1
  rw [← hzB] at hrB
  have htB := TX_U hkB (by decide) htA
  refine ww_blk xCC okX5_aliveBehind 12 3 (ps := []) (pc' := 29) (lv' := [(0, .ref 0), (1, .int (nI m)), (2, .int (nI e))]) (st' := [.int (nI m), .ref 27]) (z' := zB) rfl trivial ?_
  refine ww_callVEi xCC okX5_aliveBehind 15 (ix := 143) (t_X0_passYears l d m (xPull esH zB) (sBrk r (r 1 e)) cnt tc (RX_pull (by decide) hrB) (sW_brk hw (hb e).2.1) (TX_pull (by decide) htB) (sSub_brk hS) (by omega) (by show r 7 2 + m ≤ 100000; omega)) (by omega) (by decide) xyX0_passYears xiX0_passYears (Or.inr (List.mem_of_getElem? (i := 610) (by decide +kernel))) (by decide +kernel) (by decide) (fun q => by cases q) (q0 := 27) rfl rfl rfl rfl (rest := []) rfl (Nat.le_of_ble_eq_true rfl) rfl (fun vcG zcG hcG => ?_)
  have hkG := KU_esH_KQ (rw := xHasRaw shR) hcG.2.2
  obtain ⟨zG, hzG⟩ : ∃ y, y = xBack esH (xHasRaw shR) zB zcG := ⟨_, rfl⟩
  rw [← hzG] at hkG ⊢
  rw [hcG.1]
  have hrG := RX_back (es := esH) (rw := xHasRaw shR) (z := zB) (b := 27) (by decide) hcG.2.1
  rw [← hzG] at hrG
  refine ww_blk xCC okX5_aliveBehind 16 4 (ps := []) (pc' := 40) (lv' := [(0, .ref 0), (1, .int (nI m)), (2, .int (nI e))]) (st' := [.int (zG.1 27 2)]) (z' := zG) rfl trivial ?_
  rw [show zG.1 27 2 = nI (sAl ((sGo tc (sBrk r (r 1 e)) m).1 0) 8) from hrG.2.2.2.2.2.2.2.1]
  refine ww_callSNi xCC okX5_aliveBehind 20 (ix := 166) (t_J6_bitCount_0f7a4 l d (sAl ((sGo tc (sBrk r (r 1 e)) m).1 0) 8) (Nat.lt_of_lt_of_le (sAl_lt _ 8) (by decide)) _) (by omega) (by decide) xyJ6_bitCount_0f7a4 xiJ6_bitCount_0f7a4 (Or.inl (lw_gt_of (List.mem_of_getElem? (i := 641) (by decide +kernel)) rfl)) rfl (rest := []) rfl (Nat.le_of_ble_eq_true rfl) rfl (fun v9 z7 h8 => ?_)
  rw [h8]
  subst xhQ
  exact ww_iret xCC okX5_aliveBehind 21 xhr rfl rfl ⟨_, rfl, ⟨rfl, ⟨_, hrG, sZ_go (sZ_brk hZ) h74 m⟩, KU_tr hkA (KU_tr hkB hkG)⟩⟩

set_option maxHeartbeats 4000000 in
set_option maxRecDepth 20000 in
theorem t_X5_aliveBehind_n (l : Launch) (d : Nat) (m : Nat) (z : xMem) (r : sR) (cnt : Nat) (tc : Nat → sTc) (hr : RX z 19 r) (hw : sW r cnt) (ht : TX z 1 cnt tc) (hS : sSub r) (hZ : sZ r) (hT : TH z) (hY : r 7 2 ≤ 999) (hm : m ≤ 20) : XMi l (d + 6) yX5_aliveBehind cX5_aliveBehind 3 (some .int) shX [.ref 0, .int (nI m), .int (-1)] z (fun v z' => v = nI (sAB tc r 0 m) ∧ TH z' ∧ KU UH z z') := by
  refine XM.of (by decide) (Nat.le_of_ble_eq_true rfl) (fun xp xe xs xm xar xbl xme xc xD xcs xad xAA xCC xhr => ?_)
  generalize xhQ : MQ xbl _ xar xs 0 0 xAA = xQ
  show ww xp l xe (xRm (d + 6)) xs xm xar xbl xme xc 3 xD xcs xad shX xAA xQ 0 [(0, .ref 0), (1, .int (nI m)), (2, .int (-1))] [] z
  have hb := hw.1
  have h74 : r 7 4 ≤ 4 := hw.2.2.2.2.2.2.1
  refine ww_blk xCC okX5_aliveBehind 0 4 (ps := []) (pc' := 8) (lv' := [(0, .ref 0), (1, .int (nI m)), (2, .int (-1))]) (st' := [.ref 19, .ref 27]) (z' := z) rfl trivial ?_
  obtain ⟨rt0, hrt0, hzt0⟩ := hT
  refine ww_callVEv xCC okX5_aliveBehind 4 (ix := 139) (t_X0_takeFrom l d (xPull esHN z) rt0 r (RX_pull (by decide) hrt0) (RX_pull8 (by decide) hr) hzt0 hZ) (by omega) (by decide) xyX0_takeFrom xiX0_takeFrom (Or.inr (List.mem_of_getElem? (i := 603) (by decide +kernel))) (by decide +kernel) (by decide) (fun q => by cases q) (q0 := 27) rfl rfl rfl rfl (rest := []) rfl (Nat.le_of_ble_eq_true rfl) rfl (fun zcA hcA => ?_)
  have hkA := KU_esHN_TF (rw := xHasRaw shRR) hcA.2
  obtain ⟨zA, hzA⟩ : ∃ y, y = xBack esHN (xHasRaw shRR) z zcA := ⟨_, rfl⟩
  rw [← hzA] at hkA ⊢
  have hrA := RX_back (es := esHN) (rw := xHasRaw shRR) (z := z) (b := 27) (by decide) hcA.1
  rw [← hzA] at hrA
  have htA := TX_U hkA (by decide) ht
  refine ww_blk xCC okX5_aliveBehind 5 2 (ps := []) (pc' := 13) (lv' := [(0, .ref 0), (1, .int (nI m)), (2, .int (-1))]) (st' := [.int (-1), .int (-1)]) (z' := zA) rfl trivial ?_
  refine ww_br xCC okX5_aliveBehind 7 (P := (-1) = (-1)) (t1 := 24) (t2 := 16) (r := []) rfl (fun _ => ?_) (fun q => absurd (by decide) q)
  refine ww_blk xCC okX5_aliveBehind 12 3 (ps := []) (pc' := 29) (lv' := [(0, .ref 0), (1, .int (nI m)), (2, .int (-1))]) (st' := [.int (nI m), .ref 27]) (z' := zA) rfl trivial ?_
  refine ww_callVEi xCC okX5_aliveBehind 15 (ix := 143) (t_X0_passYears l d m (xPull esH zA) r cnt tc (RX_pull (by decide) hrA) hw (TX_pull (by decide) htA) hS (by omega) (by omega)) (by omega) (by decide) xyX0_passYears xiX0_passYears (Or.inr (List.mem_of_getElem? (i := 610) (by decide +kernel))) (by decide +kernel) (by decide) (fun q => by cases q) (q0 := 27) rfl rfl rfl rfl (rest := []) rfl (Nat.le_of_ble_eq_true rfl) rfl (fun vcG zcG hcG => ?_)
  have hkG := KU_esH_KQ (rw := xHasRaw shR) hcG.2.2
  obtain ⟨zG, hzG⟩ : ∃ y, y = xBack esH (xHasRaw shR) zA zcG := ⟨_, rfl⟩
  rw [← hzG] at hkG ⊢
  rw [hcG.1]
  have hrG := RX_back (es := esH) (rw := xHasRaw shR) (z := zA) (b := 27) (by decide) hcG.2.1
  rw [← hzG] at hrG
  refine ww_blk xCC okX5_aliveBehind 16 4 (ps := []) (pc' := 40) (lv' := [(0, .ref 0), (1, .int (nI m)), (2, .int (-1))]) (st' := [.int (zG.1 27 2)]) (z' := zG) rfl trivial ?_
  rw [show zG.1 27 2 = nI (sAl ((sGo tc r m).1 0) 8) from hrG.2.2.2.2.2.2.2.1]
  refine ww_callSNi xCC okX5_aliveBehind 20 (ix := 166) (t_J6_bitCount_0f7a4 l d (sAl ((sGo tc r m).1 0) 8) (Nat.lt_of_lt_of_le (sAl_lt _ 8) (by decide)) _) (by omega) (by decide) xyJ6_bitCount_0f7a4 xiJ6_bitCount_0f7a4 (Or.inl (lw_gt_of (List.mem_of_getElem? (i := 641) (by decide +kernel)) rfl)) rfl (rest := []) rfl (Nat.le_of_ble_eq_true rfl) rfl (fun v7 z5 h6 => ?_)
  rw [h6]
  subst xhQ
  exact ww_iret xCC okX5_aliveBehind 21 xhr rfl rfl ⟨_, rfl, ⟨(by unfold sAB; rw [sBrk_0]), ⟨_, hrG, sZ_go hZ h74 m⟩, KU_tr hkA hkG⟩⟩

set_option maxHeartbeats 4000000 in
set_option maxRecDepth 20000 in
theorem t_X5_aliveByDraw (l : Launch) (d : Nat) (sd : Int32) (m : Nat) (z : xMem) (r : sR) (cnt : Nat) (tc : Nat → sTc) (hr : RX z 19 r) (hw : sW r cnt) (ht : TX z 1 cnt tc) (hS : sSub r) (hZ : sZ r) (hT : TH z) (hY : r 7 2 ≤ 999) (hm : m ≤ 20) : XMi l (d + 6) yX5_aliveByDraw cX5_aliveByDraw 3 (some .int) shX [.ref 0, .int sd, .int (nI m)] z (fun v z' => v = nI (sDv tc r sd m) ∧ TH z' ∧ KU UH z z') := by
  refine XM.of (by decide) (Nat.le_of_ble_eq_true rfl) (fun xp xe xs xm xar xbl xme xc xD xcs xad xAA xCC xhr => ?_)
  generalize xhQ : MQ xbl _ xar xs 0 0 xAA = xQ
  show ww xp l xe (xRm (d + 6)) xs xm xar xbl xme xc 3 xD xcs xad shX xAA xQ 0 [(0, .ref 0), (1, .int sd), (2, .int (nI m))] [] z
  have hb := hw.1
  have h74 : r 7 4 ≤ 4 := hw.2.2.2.2.2.2.1
  refine ww_blk xCC okX5_aliveByDraw 0 4 (ps := []) (pc' := 8) (lv' := [(0, .ref 0), (1, .int sd), (2, .int (nI m))]) (st' := [.ref 19, .ref 27]) (z' := z) rfl trivial ?_
  obtain ⟨rt0, hrt0, hzt0⟩ := hT
  refine ww_callVEv xCC okX5_aliveByDraw 4 (ix := 139) (t_X0_takeFrom l d (xPull esHN z) rt0 r (RX_pull (by decide) hrt0) (RX_pull8 (by decide) hr) hzt0 hZ) (by omega) (by decide) xyX0_takeFrom xiX0_takeFrom (Or.inr (List.mem_of_getElem? (i := 603) (by decide +kernel))) (by decide +kernel) (by decide) (fun q => by cases q) (q0 := 27) rfl rfl rfl rfl (rest := []) rfl (Nat.le_of_ble_eq_true rfl) rfl (fun zcA hcA => ?_)
  have hkA := KU_esHN_TF (rw := xHasRaw shRR) hcA.2
  obtain ⟨zA, hzA⟩ : ∃ y, y = xBack esHN (xHasRaw shRR) z zcA := ⟨_, rfl⟩
  rw [← hzA] at hkA ⊢
  have hrA := RX_back (es := esHN) (rw := xHasRaw shRR) (z := z) (b := 27) (by decide) hcA.1
  rw [← hzA] at hrA
  have htA := TX_U hkA (by decide) ht
  refine ww_blk xCC okX5_aliveByDraw 5 4 (ps := []) (pc' := 17) (lv' := [(0, .ref 0), (1, .int sd), (2, .int (nI m))]) (st' := [.int (nI m), .int sd, .ref 27]) (z' := zA) rfl trivial ?_
  refine ww_callVEv xCC okX5_aliveByDraw 9 (ix := 263) (t_X0_drawYears l d sd m (xPull esH zA) r cnt tc (RX_pull (by decide) hrA) hw (TX_pull (by decide) htA) hS hY hm) (by omega) (by decide) xyX0_drawYears xiX0_drawYears (Or.inr (List.mem_of_getElem? (i := 747) (by decide +kernel))) (by decide +kernel) (by decide) (fun q => by cases q) (q0 := 27) rfl rfl rfl rfl (rest := []) rfl (Nat.le_of_ble_eq_true rfl) rfl (fun zcG hcG => ?_)
  have hkG := KU_esH_KQ (rw := xHasRaw shR) hcG.2
  obtain ⟨zG, hzG⟩ : ∃ y, y = xBack esH (xHasRaw shR) zA zcG := ⟨_, rfl⟩
  rw [← hzG] at hkG ⊢
  have hrG := RX_back (es := esH) (rw := xHasRaw shR) (z := zA) (b := 27) (by decide) hcG.1
  rw [← hzG] at hrG
  refine ww_blk xCC okX5_aliveByDraw 10 3 (ps := []) (pc' := 27) (lv' := [(0, .ref 0), (1, .int sd), (2, .int (nI m))]) (st' := [.int (zG.1 27 2)]) (z' := zG) rfl trivial ?_
  rw [show zG.1 27 2 = nI (sAl ((sDw tc r sd m).2 0) 8) from hrG.2.2.2.2.2.2.2.1]
  refine ww_callSNi xCC okX5_aliveByDraw 13 (ix := 166) (t_J6_bitCount_0f7a4 l d (sAl ((sDw tc r sd m).2 0) 8) (Nat.lt_of_lt_of_le (sAl_lt _ 8) (by decide)) _) (by omega) (by decide) xyJ6_bitCount_0f7a4 xiJ6_bitCount_0f7a4 (Or.inl (lw_gt_of (List.mem_of_getElem? (i := 641) (by decide +kernel)) rfl)) rfl (rest := []) rfl (Nat.le_of_ble_eq_true rfl) rfl (fun v7 z5 h6 => ?_)
  rw [h6]
  subst xhQ
  exact ww_iret xCC okX5_aliveByDraw 14 xhr rfl rfl ⟨_, rfl, ⟨rfl, ⟨_, hrG, sZ_dw hZ h74 m⟩, KU_tr hkA hkG⟩⟩

set_option maxHeartbeats 4000000 in
set_option maxRecDepth 20000 in
theorem t_X5_run (l : Launch) (d : Nat) (x w : Int32) (z : xMem) (r : sR) (cnt : Nat) (tc : Nat → sTc) (hr : RX z 19 r) (hw : sW r cnt) (ht : TX z 1 cnt tc) (hS : sSub r) (hZ : sZ r) (hT : TH z) (hY : r 7 2 ≤ 999) : XMi l (d + 6) yX5_run cX5_run 4 (some .int) shX [.ref 0, .int x, .int w] z (fun v z' => v = sRun tc r x w ∧ TH z' ∧ KU UH z z') := by
  refine XM.of (by decide) (Nat.le_of_ble_eq_true rfl) (fun xp xe xs xm xar xbl xme xc xD xcs xad xAA xCC xhr => ?_)
  generalize xhQ : MQ xbl _ xar xs 0 0 xAA = xQ
  show ww xp l xe (xRm (d + 6)) xs xm xar xbl xme xc 4 xD xcs xad shX xAA xQ 0 [(0, .ref 0), (1, .int x), (2, .int w)] [] z
  have hb := hw.1
  have h74 : r 7 4 ≤ 4 := hw.2.2.2.2.2.2.1
  refine ww_blk xCC okX5_run 0 3 (ps := []) (pc' := 4) (lv' := [(0, .ref 0), (1, .int x), (2, .int w)]) (st' := [.int 20, .int 0, .int x]) (z' := z) rfl trivial ?_
  refine ww_callSNz xCC okX5_run 3 (ix := 52) (t_X5_within l d x 0 20 _) (by omega) (by decide) xyX5_within xiX5_within (Or.inl (lw_gt_of (List.mem_of_getElem? (i := 327) (by decide +kernel)) rfl)) rfl (rest := []) rfl (Nat.le_of_ble_eq_true rfl) rfl (fun z1 h2 => ?_) (fun z1 h2 => ?_)
  · skip
    have h2 : 0 ≤ x.toInt ∧ x.toInt ≤ 20 := h2
    obtain ⟨m, hm, rfl⟩ := sNN (x := x) (n := 21) (by omega) (by omega)
    refine ww_br xCC okX5_run 4 (P := 1 = 0) (t1 := 19) (t2 := 10) (r := []) rfl (fun q => absurd q (by decide)) (fun _ => ?_)
    refine ww_blk xCC okX5_run 5 3 (ps := []) (pc' := 13) (lv' := [(0, .ref 0), (1, .int (nI m)), (2, .int w)]) (st' := [.int 2, .int 0, .int w]) (z' := z) rfl trivial ?_
    refine ww_callSNz xCC okX5_run 8 (ix := 52) (t_X5_within l d w 0 2 _) (by omega) (by decide) xyX5_within xiX5_within (Or.inl (lw_gt_of (List.mem_of_getElem? (i := 327) (by decide +kernel)) rfl)) rfl (rest := []) rfl (Nat.le_of_ble_eq_true rfl) rfl (fun z4 h5 => ?_) (fun z4 h5 => ?_)
    · skip
      have h5 : 0 ≤ w.toInt ∧ w.toInt ≤ 2 := h5
      obtain ⟨u, hu, rfl⟩ := sNN (x := w) (n := 3) (by omega) (by omega)
      refine ww_br xCC okX5_run 9 (P := 1 = 0) (t1 := 19) (t2 := 22) (r := []) rfl (fun q => absurd q (by decide)) (fun _ => ?_)
      refine ww_blk xCC okX5_run 12 4 (ps := []) (pc' := 30) (lv' := [(0, .ref 0), (1, .int (nI m)), (2, .int (nI u))]) (st' := [.ref 19, .ref 27]) (z' := z) rfl trivial ?_
      obtain ⟨rt0, hrt0, hzt0⟩ := hT
      refine ww_callVEv xCC okX5_run 16 (ix := 139) (t_X0_takeFrom l d (xPull esHN z) rt0 r (RX_pull (by decide) hrt0) (RX_pull8 (by decide) hr) hzt0 hZ) (by omega) (by decide) xyX0_takeFrom xiX0_takeFrom (Or.inr (List.mem_of_getElem? (i := 603) (by decide +kernel))) (by decide +kernel) (by decide) (fun q => by cases q) (q0 := 27) rfl rfl rfl rfl (rest := []) rfl (Nat.le_of_ble_eq_true rfl) rfl (fun zcA hcA => ?_)
      have hkA := KU_esHN_TF (rw := xHasRaw shRR) hcA.2
      obtain ⟨zA, hzA⟩ : ∃ y, y = xBack esHN (xHasRaw shRR) z zcA := ⟨_, rfl⟩
      rw [← hzA] at hkA ⊢
      have hrA := RX_back (es := esHN) (rw := xHasRaw shRR) (z := z) (b := 27) (by decide) hcA.1
      rw [← hzA] at hrA
      have htA := TX_U hkA (by decide) ht
      refine ww_blk xCC okX5_run 17 3 (ps := []) (pc' := 38) (lv' := [(0, .ref 0), (1, .int (nI m)), (2, .int (nI u))]) (st' := [.int (nI m), .ref 27]) (z' := zA) rfl trivial ?_
      refine ww_callVEi xCC okX5_run 20 (ix := 143) (t_X0_passYears l d m (xPull esH zA) r cnt tc (RX_pull (by decide) hrA) hw (TX_pull (by decide) htA) hS (by omega) (by omega)) (by omega) (by decide) xyX0_passYears xiX0_passYears (Or.inr (List.mem_of_getElem? (i := 610) (by decide +kernel))) (by decide +kernel) (by decide) (fun q => by cases q) (q0 := 27) rfl rfl rfl rfl (rest := []) rfl (Nat.le_of_ble_eq_true rfl) rfl (fun vcG zcG hcG => ?_)
      have hkG := KU_esH_KQ (rw := xHasRaw shR) hcG.2.2
      obtain ⟨zG, hzG⟩ : ∃ y, y = xBack esH (xHasRaw shR) zA zcG := ⟨_, rfl⟩
      rw [← hzG] at hkG ⊢
      rw [hcG.1]
      have hrG := RX_back (es := esH) (rw := xHasRaw shR) (z := zA) (b := 27) (by decide) hcG.2.1
      rw [← hzG] at hrG
      refine ww_blk xCC okX5_run 21 2 (ps := []) (pc' := 43) (lv' := [(3, .int (nI (sGo tc r m).2)), (0, .ref 0), (1, .int (nI m)), (2, .int (nI u))]) (st' := [.int (nI u)]) (z' := zG) rfl trivial ?_
      refine ww_sw xCC okX5_run 23 (x := (nI u)) (L := [(0, 68), (1, 76)]) (P := ∀ q ∈ [((0 : Int), (25 : Int)), ((1 : Int), (33 : Int))], (nI u).toInt ≠ q.1) (t0 := 84) (r := []) rfl (fun c10 => ?_) (And.intro (fun c10 => ?_) ((fun c10 => ?_)))
      · skip
        refine ww_blk xCC okX5_run 32 1 (ps := []) (pc' := 85) (lv' := [(3, .int (nI (sGo tc r m).2)), (0, .ref 0), (1, .int (nI m)), (2, .int (nI u))]) (st' := [.int (nI (sGo tc r m).2)]) (z' := zG) rfl trivial ?_
        subst xhQ
        exact ww_iret xCC okX5_run 33 xhr rfl rfl ⟨_, rfl, ⟨(by have q0 := c10 (0, 25) (by simp); have q1 := c10 (1, 33) (by simp); rw [sTI (k := u) (by omega)] at q0 q1; simp at q0 q1; rw [sRun_y (by omega) (by omega), if_neg (by omega), if_neg (by omega)]), ⟨_, hrG, sZ_go hZ h74 m⟩, KU_tr hkA hkG⟩⟩
      · have c10 : (nI u) = 0 := c10
        replace c10 : u = 0 := (sEQ (a := u) (b := 0) (by omega) (by omega)).mp c10
        show ww xp l xe (xRm (d + 6)) xs xm xar xbl xme xc 4 xD xcs xad shX xAA xQ 68 [(3, .int (nI (sGo tc r m).2)), (0, .ref 0), (1, .int (nI m)), (2, .int (nI u))] [] zG
        refine ww_blk xCC okX5_run 24 3 (ps := []) (pc' := 75) (lv' := [(3, .int (nI (sGo tc r m).2)), (0, .ref 0), (1, .int (nI m)), (2, .int (nI u))]) (st' := [.int (zG.1 27 2)]) (z' := zG) rfl trivial ?_
        rw [show zG.1 27 2 = nI (sAl ((sGo tc r m).1 0) 8) from hrG.2.2.2.2.2.2.2.1]
        subst xhQ
        exact ww_iret xCC okX5_run 27 xhr rfl rfl ⟨_, rfl, ⟨(by rw [sRun_y (by omega) (by omega), if_pos (by omega)]), ⟨_, hrG, sZ_go hZ h74 m⟩, KU_tr hkA hkG⟩⟩
      · have c10 : (nI u) = 1 := c10
        replace c10 : u = 1 := (sEQ (a := u) (b := 1) (by omega) (by omega)).mp c10
        show ww xp l xe (xRm (d + 6)) xs xm xar xbl xme xc 4 xD xcs xad shX xAA xQ 76 [(3, .int (nI (sGo tc r m).2)), (0, .ref 0), (1, .int (nI m)), (2, .int (nI u))] [] zG
        refine ww_blk xCC okX5_run 28 3 (ps := []) (pc' := 83) (lv' := [(3, .int (nI (sGo tc r m).2)), (0, .ref 0), (1, .int (nI m)), (2, .int (nI u))]) (st' := [.int (zG.1 27 6)]) (z' := zG) rfl trivial ?_
        rw [show zG.1 27 6 = nI ((sGo tc r m).1 7 3) from hrG.2.2.2.2.2.2.2.2.2.2.2.1]
        subst xhQ
        exact ww_iret xCC okX5_run 31 xhr rfl rfl ⟨_, rfl, ⟨(by rw [sRun_y (by omega) (by omega), if_neg (by omega), if_pos (by omega)]), ⟨_, hrG, sZ_go hZ h74 m⟩, KU_tr hkA hkG⟩⟩
    · skip
      have h5 : ¬ (0 ≤ w.toInt ∧ w.toInt ≤ 2) := h5
      refine ww_br xCC okX5_run 9 (P := 0 = 0) (t1 := 19) (t2 := 22) (r := []) rfl (fun _ => ?_) (fun q => absurd (by decide) q)
      refine ww_blk xCC okX5_run 10 1 (ps := []) (pc' := 21) (lv' := [(0, .ref 0), (1, .int (nI m)), (2, .int w)]) (st' := [.int (-2)]) (z' := z) rfl trivial ?_
      subst xhQ
      exact ww_iret xCC okX5_run 11 xhr rfl rfl ⟨_, rfl, ⟨(by unfold sRun; rw [if_neg (by omega)]), hT, KU_rf z⟩⟩
  · skip
    have h2 : ¬ (0 ≤ x.toInt ∧ x.toInt ≤ 20) := h2
    refine ww_br xCC okX5_run 4 (P := 0 = 0) (t1 := 19) (t2 := 10) (r := []) rfl (fun _ => ?_) (fun q => absurd (by decide) q)
    refine ww_blk xCC okX5_run 10 1 (ps := []) (pc' := 21) (lv' := [(0, .ref 0), (1, .int x), (2, .int w)]) (st' := [.int (-2)]) (z' := z) rfl trivial ?_
    subst xhQ
    exact ww_iret xCC okX5_run 11 xhr rfl rfl ⟨_, rfl, ⟨(by unfold sRun; rw [if_neg (by omega)]), hT, KU_rf z⟩⟩

set_option maxHeartbeats 4000000 in
set_option maxRecDepth 20000 in
theorem t_X5_lasts (l : Launch) (d : Nat) (x : Int32) (z : xMem) (r : sR) (cnt : Nat) (tc : Nat → sTc) (hr : RX z 19 r) (hw : sW r cnt) (ht : TX z 1 cnt tc) (hS : sSub r) (hZ : sZ r) (hT : TH z) (hY : r 7 2 ≤ 999) : XMi l (d + 6) yX5_lasts cX5_lasts 3 (some .int) shX [.ref 0, .int x] z (fun v z' => v = sLasts tc r x ∧ TH z' ∧ KU UH z z') := by
  refine XM.of (by decide) (Nat.le_of_ble_eq_true rfl) (fun xp xe xs xm xar xbl xme xc xD xcs xad xAA xCC xhr => ?_)
  generalize xhQ : MQ xbl _ xar xs 0 0 xAA = xQ
  show ww xp l xe (xRm (d + 6)) xs xm xar xbl xme xc 3 xD xcs xad shX xAA xQ 0 [(0, .ref 0), (1, .int x)] [] z
  have hb := hw.1
  have h74 : r 7 4 ≤ 4 := hw.2.2.2.2.2.2.1
  refine ww_blk xCC okX5_lasts 0 1 (ps := []) (pc' := 1) (lv' := [(0, .ref 0), (1, .int x)]) (st' := [.int x]) (z' := z) rfl trivial ?_
  refine ww_callSNz xCC okX5_lasts 1 (ix := 153) (t_X5_isLaw l d x _) (by omega) (by decide) xyX5_isLaw xiX5_isLaw (Or.inl (lw_gt_of (List.mem_of_getElem? (i := 334) (by decide +kernel)) rfl)) rfl (rest := []) rfl (Nat.le_of_ble_eq_true rfl) rfl (fun z1 h2 => ?_) (fun z1 h2 => ?_)
  · skip
    have h2 : 0 ≤ x.toInt ∧ x.toInt ≤ 7 := h2
    obtain ⟨a, ha, rfl⟩ := sNN (x := x) (n := 8) (by omega) (by omega)
    refine ww_br xCC okX5_lasts 2 (P := 1 = 0) (t1 := 7) (t2 := 10) (r := []) rfl (fun q => absurd q (by decide)) (fun _ => ?_)
    refine ww_blk xCC okX5_lasts 5 4 (ps := []) (pc' := 18) (lv' := [(0, .ref 0), (1, .int (nI a))]) (st' := [.ref 19, .ref 27]) (z' := z) rfl trivial ?_
    obtain ⟨rt0, hrt0, hzt0⟩ := hT
    refine ww_callVEv xCC okX5_lasts 9 (ix := 139) (t_X0_takeFrom l d (xPull esHN z) rt0 r (RX_pull (by decide) hrt0) (RX_pull8 (by decide) hr) hzt0 hZ) (by omega) (by decide) xyX0_takeFrom xiX0_takeFrom (Or.inr (List.mem_of_getElem? (i := 603) (by decide +kernel))) (by decide +kernel) (by decide) (fun q => by cases q) (q0 := 27) rfl rfl rfl rfl (rest := []) rfl (Nat.le_of_ble_eq_true rfl) rfl (fun zcA hcA => ?_)
    have hkA := KU_esHN_TF (rw := xHasRaw shRR) hcA.2
    obtain ⟨zA, hzA⟩ : ∃ y, y = xBack esHN (xHasRaw shRR) z zcA := ⟨_, rfl⟩
    rw [← hzA] at hkA ⊢
    have hrA := RX_back (es := esHN) (rw := xHasRaw shRR) (z := z) (b := 27) (by decide) hcA.1
    rw [← hzA] at hrA
    have htA := TX_U hkA (by decide) ht
    refine ww_blk xCC okX5_lasts 10 2 (ps := []) (pc' := 23) (lv' := [(2, .int 0), (0, .ref 0), (1, .int (nI a))]) (st' := []) (z' := zA) rfl trivial ?_
    have L23 : ∀ (n23 : Nat) (n : Nat) (zL : xMem), 41 - n < n23 → (n ≤ 41) → (RX zL 27 (sGo tc r n).1) → (TX zL 1 cnt tc) → (KU UH z zL) → (sLk (fun k => (sGo tc r k).1 0 a) n = n) → ww xp l xe (xRm (d + 6)) xs xm xar xbl xme xc 3 xD xcs xad shX xAA xQ 23 [(2, .int (nI n)), (0, .ref 0), (1, .int (nI a))] [] zL := by
      intro n23
      induction n23 with
      | zero =>
        intro n zL hmu23
        exact absurd hmu23 (Nat.not_lt_zero _)
      | succ n23 ih23 =>
        intro n zL hmu23 e23_0 e23_1 e23_2 e23_3 e23_4
        have hrL := e23_1
        have htL := e23_2
        have hwL := sW_go (tc := tc) hw (n := n) (by omega)
        have hla := (hwL.1 a).1
        refine ww_blk xCC okX5_lasts 12 2 (ps := []) (pc' := 26) (lv' := [(2, .int (nI n)), (0, .ref 0), (1, .int (nI a))]) (st' := [.int 40, .int (nI n)]) (z' := zL) rfl trivial ?_
        refine ww_br xCC okX5_lasts 14 (P := 40 < (nI n)) (t1 := 58) (t2 := 29) (r := []) rfl (fun c6 => ?_) (fun c6 => ?_)
        · skip
          replace c6 : 40 < n := (sLT (a := 40) (b := n) (by omega) (by omega)).mp c6
          have hq : sLk (fun k => (sGo tc r k).1 0 a) 41 = n := (by have e : n = 41 := (by omega); rw [e] at e23_4; rw [e]; exact e23_4)
          refine ww_blk xCC okX5_lasts 30 1 (ps := []) (pc' := 59) (lv' := [(2, .int (nI n)), (0, .ref 0), (1, .int (nI a))]) (st' := [.int (-1)]) (z' := zL) rfl trivial ?_
          subst xhQ
          exact ww_iret xCC okX5_lasts 31 xhr rfl rfl ⟨_, rfl, ⟨(by rw [sLasts_y (by omega), hq]; first | rw [if_pos (by omega)] | rw [if_neg (by omega)]), ⟨_, hrL, sZ_go hZ h74 n⟩, e23_3⟩⟩
        · skip
          replace c6 : ¬ 40 < n := fun q => c6 ((sLT (a := 40) (b := n) (by omega) (by omega)).mpr q)
          refine ww_blk xCC okX5_lasts 15 5 (ps := [vp_in (nI a) 8]) (pc' := 38) (lv' := [(2, .int (nI n)), (0, .ref 0), (1, .int (nI a))]) (st' := [.int (zL.1 28 (nI a).toNatClampNeg)]) (z' := zL) rfl (vp_in_nI (by omega) (by decide)) ?_
          rw [sCL (n := a) (by omega)]
          rw [show zL.1 28 a = nI ((sGo tc r n).1 0 a) from hrL.1 a]
          refine ww_br xCC okX5_lasts 20 (P := (nI ((sGo tc r n).1 0 a)) = 0) (t1 := 41) (t2 := 43) (r := []) rfl (fun c7 => ?_) (fun c7 => ?_)
          · skip
            replace c7 : ((sGo tc r n).1 0 a) = 0 := (sEQ (a := ((sGo tc r n).1 0 a)) (b := 0) (by omega) (by omega)).mp c7
            have hq : sLk (fun k => (sGo tc r k).1 0 a) 41 = n := sLk_st (by omega) e23_4 (by show (sGo tc r n).1 0 a ≤ 0; omega)
            refine ww_blk xCC okX5_lasts 21 1 (ps := []) (pc' := 42) (lv' := [(2, .int (nI n)), (0, .ref 0), (1, .int (nI a))]) (st' := [.int (nI n)]) (z' := zL) rfl trivial ?_
            subst xhQ
            exact ww_iret xCC okX5_lasts 22 xhr rfl rfl ⟨_, rfl, ⟨(by rw [sLasts_y (by omega), hq]; first | rw [if_pos (by omega)] | rw [if_neg (by omega)]), ⟨_, hrL, sZ_go hZ h74 n⟩, e23_3⟩⟩
          · skip
            replace c7 : ¬ ((sGo tc r n).1 0 a) = 0 := fun q => c7 ((sEQ (a := ((sGo tc r n).1 0 a)) (b := 0) (by omega) (by omega)).mpr q)
            refine ww_blk xCC okX5_lasts 23 3 (ps := []) (pc' := 48) (lv' := [(2, .int (nI n)), (0, .ref 0), (1, .int (nI a))]) (st' := [.int 1, .ref 27]) (z' := zL) rfl trivial ?_
            refine ww_callVEi xCC okX5_lasts 26 (ix := 143) (t_X0_passYears l d 1 (xPull esH zL) (sGo tc r n).1 cnt tc (RX_pull (by decide) hrL) hwL (TX_pull (by decide) htL) (sSub_go hS n) (by omega) (by rw [sGo_yr]; omega)) (by omega) (by decide) xyX0_passYears xiX0_passYears (Or.inr (List.mem_of_getElem? (i := 610) (by decide +kernel))) (by decide +kernel) (by decide) (fun q => by cases q) (q0 := 27) rfl rfl rfl rfl (rest := []) rfl (Nat.le_of_ble_eq_true rfl) rfl (fun vcG zcG hcG => ?_)
            have hkG := KU_esH_KQ (rw := xHasRaw shR) hcG.2.2
            obtain ⟨zG, hzG⟩ : ∃ y, y = xBack esH (xHasRaw shR) zL zcG := ⟨_, rfl⟩
            rw [← hzG] at hkG ⊢
            rw [hcG.1]
            have hrG := RX_back (es := esH) (rw := xHasRaw shR) (z := zL) (b := 27) (by decide) hcG.2.1
            rw [← hzG] at hrG
            refine ww_blk xCC okX5_lasts 27 3 (ps := []) (pc' := 23) (lv' := [(2, .int ((nI n) + 1)), (0, .ref 0), (1, .int (nI a))]) (st' := []) (z' := zG) rfl trivial ?_
            rw [show nI n + (1 : Int32) = nI (n + 1) from nI_add n 1]
            exact ww_cut [0, 1, 2] (xlc rfl (xlc rfl (xlc rfl rfl))) rfl rfl (ih23 (n + 1) zG (by omega) (by omega) (by rw [← sGo_1]; exact hrG) (TX_U hkG (by decide) htL) (KU_tr e23_3 hkG) (sLk_y e23_4 (by omega)))
    exact ww_cut [0, 1, 2] (xlc (congrArg Value.int (show (0 : Int32) = nI 0 from rfl)) (xlc rfl (xlc rfl rfl))) rfl rfl (L23 (41 - 0 + 1) 0 zA (Nat.lt_succ_self _) (by omega) hrA htA hkA rfl)
  · skip
    have h2 : ¬ (0 ≤ x.toInt ∧ x.toInt ≤ 7) := h2
    refine ww_br xCC okX5_lasts 2 (P := 0 = 0) (t1 := 7) (t2 := 10) (r := []) rfl (fun _ => ?_) (fun q => absurd (by decide) q)
    refine ww_blk xCC okX5_lasts 3 1 (ps := []) (pc' := 9) (lv' := [(0, .ref 0), (1, .int x)]) (st' := [.int (-2)]) (z' := z) rfl trivial ?_
    subst xhQ
    exact ww_iret xCC okX5_lasts 4 xhr rfl rfl ⟨_, rfl, ⟨(by unfold sLasts; rw [if_neg (by omega)]), hT, KU_rf z⟩⟩
