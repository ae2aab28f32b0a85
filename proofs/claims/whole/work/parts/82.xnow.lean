/-! LawsLapse's methods on the republic that is now -/
def esN : List Nat := [19, 20, 21, 22, 23, 24, 25, 26, 1, 2, 3, 4, 5, 6, 7, 8, 9, 10, 11, 12, 13, 14, 15, 16]
def esH : List Nat := [27, 28, 29, 30, 31, 32, 33, 34, 1, 2, 3, 4, 5, 6, 7, 8, 9, 10, 11, 12, 13, 14, 15, 16]
def U0 : List Nat := [16]
def UN : List Nat := [16, 19, 20, 21, 22, 23, 24, 25, 26]
def UH : List Nat := [16, 27, 28, 29, 30, 31, 32, 33, 34]
def UK : List Nat := [16, 35, 36, 37, 38, 39, 40, 41, 42]
/-- nothing changed but those places -/
def KU (L : List Nat) (z z' : xMem) : Prop := ∀ q, q ∉ L → z'.1 q = z.1 q
theorem KU_rf {L : List Nat} (z : xMem) : KU L z z := fun _ _ => rfl
theorem KU_tr {L : List Nat} {a b c : xMem} (h1 : KU L a b) (h2 : KU L b c) : KU L a c := fun q h => (h2 q h).trans (h1 q h)
theorem KU_mo {L M : List Nat} {a b : xMem} (h : KU L a b) (hs : ∀ q ∈ L, q ∈ M) : KU M a b := fun q hq => h q (fun w => hq (hs q w))
theorem KU_put {L : List Nat} {z z' : xMem} {q j : Nat} {x : Int32} (hq : q ∈ L) (h : KU L z z') : KU L z (mPut z' q j x) := fun q' h' => (mPut_nq (fun w => h' (by rw [w]; exact hq))).trans (h q' h')
theorem KU_back {es I L : List Nat} {rw : Bool} {z zn : xMem} (h : ∀ i, i ∉ I → zn.1 i = (xPull es z).1 i) (hL : I.all (fun i => match es[i]? with | some q => L.contains q | none => true) = true) : KU L z (xBack es rw z zn) := by
  intro q hq
  refine xBack_keep (fun i hi => h i (fun e => hq ?_))
  have h1 := (xIx_some es i 0 q hi).2
  rw [Nat.sub_zero] at h1
  have h2 := List.all_eq_true.mp hL i e
  rw [h1] at h2
  simpa using h2
theorem KU_esN_KN {rw : Bool} {z zn : xMem} (h : KN (xPull esN z) zn) : KU U0 z (xBack esN rw z zn) := KU_back (I := [23]) (fun i hi => h i (by simpa using hi)) (by decide)
theorem KQ_I {z zn : xMem} (h : KQ z zn) : ∀ i, i ∉ [0, 1, 2, 3, 4, 5, 6, 7, 23] → zn.1 i = z.1 i := fun i hi => by
  simp only [List.mem_cons, List.not_mem_nil, or_false, not_or] at hi
  exact h i (by omega) hi.2.2.2.2.2.2.2.2
theorem KU_esN_KQ {rw : Bool} {z zn : xMem} (h : KQ (xPull esN z) zn) : KU UN z (xBack esN rw z zn) := KU_back (KQ_I h) (by decide)
theorem KU_esH_KN {rw : Bool} {z zn : xMem} (h : KN (xPull esH z) zn) : KU U0 z (xBack esH rw z zn) := KU_back (I := [23]) (fun i hi => h i (by simpa using hi)) (by decide)
theorem KU_esH_KQ {rw : Bool} {z zn : xMem} (h : KQ (xPull esH z) zn) : KU UH z (xBack esH rw z zn) := KU_back (KQ_I h) (by decide)
theorem RX_U {L : List Nat} {z z' : xMem} {b : Nat} {r : sR} (h : KU L z z') (hL : ∀ k, k < 8 → b + k ∉ L) (hr : RX z b r) : RX z' b r := RX_of (fun k hk => h _ (hL k hk)) hr
theorem TX_U {L : List Nat} {z z' : xMem} {t cnt : Nat} {tc : Nat → sTc} (h : KU L z z') (hL : ∀ k, k < 15 → t + k ∉ L) (ht : TX z t cnt tc) : TX z' t cnt tc := TX_of (fun k hk => h _ (hL k hk)) ht
theorem RX_force {z : xMem} {b : Nat} {r : sR} {t : Nat} (hr : RX z b r) : RX (mPut z b 14 (nI t)) b (sForce r t) := by
  obtain ⟨a1, a2, a3, a4, a5, a6, a7, c1, c2, c3, c4, c5, c6, c7⟩ := hr
  have e0 : sForce r t 0 = r 0 := by funext j; simp [sForce]
  refine ⟨fun j => ?_, fun j => ?_, fun j => ?_, fun j => ?_, fun j => ?_, fun j => ?_, fun j => ?_, ?_, ?_, ?_, ?_, ?_, ?_, ?_⟩
  · simp [mPut_rd, sForce, a1]
  · simp [mPut_rd, sForce, a2]
  · simp [mPut_rd, sForce, a3]
  · simp [mPut_rd, sForce, a4]
  · simp [mPut_rd, sForce, a5]
  · simp [mPut_rd, sForce, a6]
  · simp [mPut_rd, sForce, a7]
  · rw [e0]; simp [mPut_rd, c1]
  · simp [mPut_rd, sForce, c2]
  · simp [mPut_rd, sForce, c3]
  · simp [mPut_rd, sForce, c4]
  · simp [mPut_rd, sForce, c5]
  · simp [mPut_rd, sForce, c6]
  · simp [mPut_rd, sForce]
theorem sShare_x {r : sR} {w : Int32} (hA : sAl (r 0) 8 < 256) : (if 0 ≤ w.toInt ∧ w.toInt ≤ 1 ∧ ¬ sPop (sAl (r 0) 8) = 0 then lN (sLow (sPop (r 7 0)) (sPop (sAl (r 0) 8)) w.toInt.toNat) else -4611686018427387904) = sShare r w := by
  have e : sPop (sAl (r 0) 8) = 0 ↔ sAl (r 0) 8 = 0 := ⟨fun h => Decidable.byContradiction (fun q => sPop_ne (by omega) q h), fun h => by rw [h]; exact sPop_0⟩
  unfold sShare
  simp only [e]
set_option maxHeartbeats 4000000 in
set_option maxRecDepth 20000 in
theorem t_X5_count (l : Launch) (d : Nat) (w : Int32) (z : xMem) (r : sR) (cnt : Nat) (tc : Nat → sTc) (hr : RX z 19 r) (hw : sW r cnt) (ht : TX z 1 cnt tc) (tn : Nat) (h6 : z.1 17 1 = nI tn) : XMi l (d + 1) yX5_count cX5_count 2 (some .int) shX [.ref 0, .int w] z (fun v z' => v = sCount r cnt tn w ∧ z' = z) := by
  refine XM.of (by decide) (Nat.le_of_ble_eq_true rfl) (fun xp xe xs xm xar xbl xme xc xD xcs xad xAA xCC xhr => ?_)
  generalize xhQ : MQ xbl _ xar xs 0 0 xAA = xQ
  show ww xp l xe (xRm (d + 1)) xs xm xar xbl xme xc 2 xD xcs xad shX xAA xQ 0 [(0, .ref 0), (1, .int w)] [] z
  have hb := hw.1
  have h74 : r 7 4 ≤ 4 := hw.2.2.2.2.2.2.1
  refine ww_blk xCC okX5_count 0 1 (ps := []) (pc' := 1) (lv' := [(0, .ref 0), (1, .int w)]) (st' := [.int w]) (z' := z) rfl trivial ?_
  refine ww_sw xCC okX5_count 1 (x := w) (L := [(0, 40), (1, 48), (2, 59), (3, 67), (4, 75), (5, 83)]) (P := w.toInt < 0 ∨ 5 < w.toInt) (t0 := 91) (r := []) rfl (fun c1 => ?_) (And.intro (fun c1 => ?_) (And.intro (fun c1 => ?_) (And.intro (fun c1 => ?_) (And.intro (fun c1 => ?_) (And.intro (fun c1 => ?_) ((fun c1 => ?_)))))))
  · skip
    refine ww_blk xCC okX5_count 27 1 (ps := []) (pc' := 93) (lv' := [(0, .ref 0), (1, .int w)]) (st' := [.int (-2)]) (z' := z) rfl trivial ?_
    subst xhQ
    exact ww_iret xCC okX5_count 28 xhr rfl rfl ⟨_, rfl, ⟨(by unfold sCount; rw [if_neg (by omega)]), rfl⟩⟩
  · have c1 : w = 0 := c1
    show ww xp l xe (xRm (d + 1)) xs xm xar xbl xme xc 2 xD xcs xad shX xAA xQ 40 [(0, .ref 0), (1, .int w)] [] z
    refine ww_blk xCC okX5_count 2 3 (ps := []) (pc' := 47) (lv' := [(0, .ref 0), (1, .int w)]) (st' := [.int (z.1 19 9)]) (z' := z) rfl trivial ?_
    rw [show z.1 19 9 = nI (r 7 4) from hr.2.2.2.2.2.2.2.2.2.2.2.2.1]
    subst xhQ
    exact ww_iret xCC okX5_count 5 xhr rfl rfl ⟨_, rfl, ⟨(by rw [show w = nI 0 from c1, sCount_y (by decide)]; rfl), rfl⟩⟩
  · have c1 : w = 1 := c1
    show ww xp l xe (xRm (d + 1)) xs xm xar xbl xme xc 2 xD xcs xad shX xAA xQ 48 [(0, .ref 0), (1, .int w)] [] z
    refine ww_blk xCC okX5_count 6 3 (ps := []) (pc' := 55) (lv' := [(0, .ref 0), (1, .int w)]) (st' := [.int (z.1 19 2)]) (z' := z) rfl trivial ?_
    rw [show z.1 19 2 = nI (sAl (r 0) 8) from hr.2.2.2.2.2.2.2.1]
    refine ww_callSNi xCC okX5_count 9 (ix := 166) (t_J6_bitCount_0f7a4 l d (sAl (r 0) 8) (Nat.lt_of_lt_of_le (sAl_lt _ 8) (by decide)) _) (by omega) (by decide) xyJ6_bitCount_0f7a4 xiJ6_bitCount_0f7a4 (Or.inl (lw_gt_of (List.mem_of_getElem? (i := 641) (by decide +kernel)) rfl)) rfl (rest := []) rfl (Nat.le_of_ble_eq_true rfl) rfl (fun v4 z2 h3 => ?_)
    rw [h3]
    subst xhQ
    exact ww_iret xCC okX5_count 10 xhr rfl rfl ⟨_, rfl, ⟨(by rw [show w = nI 1 from c1, sCount_y (by decide)]; rfl), rfl⟩⟩
  · have c1 : w = 2 := c1
    show ww xp l xe (xRm (d + 1)) xs xm xar xbl xme xc 2 xD xcs xad shX xAA xQ 59 [(0, .ref 0), (1, .int w)] [] z
    refine ww_blk xCC okX5_count 11 3 (ps := []) (pc' := 66) (lv' := [(0, .ref 0), (1, .int w)]) (st' := [.int (z.1 19 5)]) (z' := z) rfl trivial ?_
    rw [show z.1 19 5 = nI (r 7 2) from hr.2.2.2.2.2.2.2.2.2.2.1]
    subst xhQ
    exact ww_iret xCC okX5_count 14 xhr rfl rfl ⟨_, rfl, ⟨(by rw [show w = nI 2 from c1, sCount_y (by decide)]; rfl), rfl⟩⟩
  · have c1 : w = 3 := c1
    show ww xp l xe (xRm (d + 1)) xs xm xar xbl xme xc 2 xD xcs xad shX xAA xQ 67 [(0, .ref 0), (1, .int w)] [] z
    refine ww_blk xCC okX5_count 15 3 (ps := []) (pc' := 74) (lv' := [(0, .ref 0), (1, .int w)]) (st' := [.int (z.1 1 2)]) (z' := z) rfl trivial ?_
    rw [show z.1 1 2 = nI cnt from ht.1]
    subst xhQ
    exact ww_iret xCC okX5_count 18 xhr rfl rfl ⟨_, rfl, ⟨(by rw [show w = nI 3 from c1, sCount_y (by decide)]; rfl), rfl⟩⟩
  · have c1 : w = 4 := c1
    show ww xp l xe (xRm (d + 1)) xs xm xar xbl xme xc 2 xD xcs xad shX xAA xQ 75 [(0, .ref 0), (1, .int w)] [] z
    refine ww_blk xCC okX5_count 19 3 (ps := []) (pc' := 82) (lv' := [(0, .ref 0), (1, .int w)]) (st' := [.int (z.1 17 1)]) (z' := z) rfl trivial ?_
    rw [h6]
    subst xhQ
    exact ww_iret xCC okX5_count 22 xhr rfl rfl ⟨_, rfl, ⟨(by rw [show w = nI 4 from c1, sCount_y (by decide)]; rfl), rfl⟩⟩
  · have c1 : w = 5 := c1
    show ww xp l xe (xRm (d + 1)) xs xm xar xbl xme xc 2 xD xcs xad shX xAA xQ 83 [(0, .ref 0), (1, .int w)] [] z
    refine ww_blk xCC okX5_count 23 3 (ps := []) (pc' := 90) (lv' := [(0, .ref 0), (1, .int w)]) (st' := [.int (z.1 19 14)]) (z' := z) rfl trivial ?_
    rw [show z.1 19 14 = nI (r 7 5) from hr.2.2.2.2.2.2.2.2.2.2.2.2.2]
    subst xhQ
    exact ww_iret xCC okX5_count 26 xhr rfl rfl ⟨_, rfl, ⟨(by rw [show w = nI 5 from c1, sCount_y (by decide)]; rfl), rfl⟩⟩

set_option maxHeartbeats 4000000 in
set_option maxRecDepth 20000 in
theorem t_X5_share (l : Launch) (d : Nat) (w : Int32) (z : xMem) (r : sR) (cnt : Nat) (tc : Nat → sTc) (hr : RX z 19 r) (hw : sW r cnt) (ht : TX z 1 cnt tc) : XMl l (d + 2) yX5_share cX5_share 2 (some .long) shX [.ref 0, .int w] z (fun v z' => v = sShare r w ∧ z' = z) := by
  refine XM.of (by decide) (Nat.le_of_ble_eq_true rfl) (fun xp xe xs xm xar xbl xme xc xD xcs xad xAA xCC xhr => ?_)
  generalize xhQ : MQ xbl _ xar xs 0 0 xAA = xQ
  show ww xp l xe (xRm (d + 2)) xs xm xar xbl xme xc 2 xD xcs xad shX xAA xQ 0 [(0, .ref 0), (1, .int w)] [] z
  have hb := hw.1
  have h74 : r 7 4 ≤ 4 := hw.2.2.2.2.2.2.1
  have h70 := hw.2.1
  have hA8 := sAl_lt (r 0) 8
  have hP1 := sPop_le (r 7 0) (by omega)
  have hP2 := sPop_le (sAl (r 0) 8) (by omega)
  refine ww_blk xCC okX5_share 0 3 (ps := []) (pc' := 7) (lv' := [(0, .ref 0), (1, .int w)]) (st' := [.int (z.1 19 3)]) (z' := z) rfl trivial ?_
  rw [show z.1 19 3 = nI (r 7 0) from hr.2.2.2.2.2.2.2.2.1]
  refine ww_callSNi xCC okX5_share 3 (ix := 166) (t_J6_bitCount_0f7a4 l d (r 7 0) (by omega) _) (by omega) (by decide) xyJ6_bitCount_0f7a4 xiJ6_bitCount_0f7a4 (Or.inl (lw_gt_of (List.mem_of_getElem? (i := 641) (by decide +kernel)) rfl)) rfl (rest := []) rfl (Nat.le_of_ble_eq_true rfl) rfl (fun v3 z1 h2 => ?_)
  rw [h2]
  refine ww_blk xCC okX5_share 4 3 (ps := []) (pc' := 17) (lv' := [(0, .ref 0), (1, .int w)]) (st' := [.int (z.1 19 2), .int (nI (sPop (r 7 0)))]) (z' := z) rfl trivial ?_
  rw [show z.1 19 2 = nI (sAl (r 0) 8) from hr.2.2.2.2.2.2.2.1]
  refine ww_callSNi xCC okX5_share 7 (ix := 166) (t_J6_bitCount_0f7a4 l d (sAl (r 0) 8) (Nat.lt_of_lt_of_le (sAl_lt _ 8) (by decide)) _) (by omega) (by decide) xyJ6_bitCount_0f7a4 xiJ6_bitCount_0f7a4 (Or.inl (lw_gt_of (List.mem_of_getElem? (i := 641) (by decide +kernel)) rfl)) rfl (rest := [.int (nI (sPop (r 7 0)))]) rfl (Nat.le_of_ble_eq_true rfl) rfl (fun v6 z4 h5 => ?_)
  rw [h5]
  refine ww_blk xCC okX5_share 8 1 (ps := []) (pc' := 21) (lv' := [(0, .ref 0), (1, .int w)]) (st' := [.int w, .int (nI (sPop (sAl (r 0) 8))), .int (nI (sPop (r 7 0)))]) (z' := z) rfl trivial ?_
  refine ww_callSNl xCC okX5_share 9 (ix := 188) (t_X5_fraction l d (sPop (r 7 0)) (sPop (sAl (r 0) 8)) w (by omega) (by omega) _) (by omega) (by decide) xyX5_fraction xiX5_fraction (Or.inl (lw_gt_of (List.mem_of_getElem? (i := 681) (by decide +kernel)) rfl)) rfl (rest := []) rfl (Nat.le_of_ble_eq_true rfl) rfl (fun vF z7 hF => ?_)
  subst xhQ
  exact ww_lret xCC okX5_share 10 xhr rfl ⟨_, rfl, ⟨(by rw [hF]; exact sShare_x hA8), rfl⟩⟩

set_option maxHeartbeats 4000000 in
set_option maxRecDepth 20000 in
theorem t_X5_force (l : Launch) (d : Nat) (x : Int32) (z : xMem) (r : sR) (cnt : Nat) (tc : Nat → sTc) (hr : RX z 19 r) (hw : sW r cnt) (ht : TX z 1 cnt tc) : XMi l (d + 1) yX5_force cX5_force 3 (some .int) shX [.ref 0, .int x] z (fun v z' => (¬ (0 ≤ x.toInt ∧ x.toInt < cnt) ∧ v = -2 ∧ z' = z) ∨ (∃ t, x = nI t ∧ t < cnt ∧ v = nI (r 7 5) ∧ RX z' 19 (sForce r t) ∧ KU UN z z')) := by
  refine XM.of (by decide) (Nat.le_of_ble_eq_true rfl) (fun xp xe xs xm xar xbl xme xc xD xcs xad xAA xCC xhr => ?_)
  generalize xhQ : MQ xbl _ xar xs 0 0 xAA = xQ
  show ww xp l xe (xRm (d + 1)) xs xm xar xbl xme xc 3 xD xcs xad shX xAA xQ 0 [(0, .ref 0), (1, .int x)] [] z
  have hb := hw.1
  have h74 : r 7 4 ≤ 4 := hw.2.2.2.2.2.2.1
  have hc6 := ht.2.2.1
  refine ww_blk xCC okX5_force 0 7 (ps := []) (pc' := 11) (lv' := [(0, .ref 0), (1, .int x)]) (st' := [.int ((z.1 1 2) - 1), .int 0, .int x]) (z' := z) rfl trivial ?_
  rw [show z.1 1 2 = nI cnt from ht.1]
  refine ww_callSNz xCC okX5_force 7 (ix := 52) (t_X5_within l d x 0 (nI cnt - 1) _) (by omega) (by decide) xyX5_within xiX5_within (Or.inl (lw_gt_of (List.mem_of_getElem? (i := 327) (by decide +kernel)) rfl)) rfl (rest := []) rfl (Nat.le_of_ble_eq_true rfl) rfl (fun z1 h2 => ?_) (fun z1 h2 => ?_)
  · skip
    have h2 : 0 ≤ x.toInt ∧ x.toInt ≤ (nI cnt - 1).toInt := h2
    rw [sSub1 (by omega)] at h2
    obtain ⟨t, hcnt, rfl⟩ := sNN (x := x) (n := cnt) (by omega) (by omega)
    refine ww_br xCC okX5_force 8 (P := 1 = 0) (t1 := 17) (t2 := 20) (r := []) rfl (fun q => absurd q (by decide)) (fun _ => ?_)
    refine ww_blk xCC okX5_force 11 9 (ps := []) (pc' := 37) (lv' := [(2, .int (z.1 19 14)), (0, .ref 0), (1, .int (nI t))]) (st' := [.int (z.1 19 14)]) (z' := (mPut z 19 14 (nI t))) rfl trivial ?_
    rw [show z.1 19 14 = nI (r 7 5) from hr.2.2.2.2.2.2.2.2.2.2.2.2.2]
    subst xhQ
    exact ww_iret xCC okX5_force 20 xhr rfl rfl ⟨_, rfl, (Or.inr ⟨t, rfl, hcnt, rfl, RX_force hr, KU_put (by decide) (KU_rf z)⟩)⟩
  · skip
    have h2 : ¬ (0 ≤ x.toInt ∧ x.toInt ≤ (nI cnt - 1).toInt) := h2
    rw [sSub1 (by omega)] at h2
    refine ww_br xCC okX5_force 8 (P := 0 = 0) (t1 := 17) (t2 := 20) (r := []) rfl (fun _ => ?_) (fun q => absurd (by decide) q)
    refine ww_blk xCC okX5_force 9 1 (ps := []) (pc' := 19) (lv' := [(0, .ref 0), (1, .int x)]) (st' := [.int (-2)]) (z' := z) rfl trivial ?_
    subst xhQ
    exact ww_iret xCC okX5_force 10 xhr rfl rfl ⟨_, rfl, (Or.inl ⟨(by omega), rfl, rfl⟩)⟩

set_option maxHeartbeats 4000000 in
set_option maxRecDepth 20000 in
theorem t_X5_person (l : Launch) (d : Nat) (x y : Int32) (z : xMem) (r : sR) (hr : RX z 19 r) (h74 : r 7 4 ≤ 4) : XMi l (d + 1) yX5_person cX5_person 3 (some .int) shX [.ref 0, .int x, .int y] z (fun v z' => v = (sPerson r x y).1 ∧ RX z' 19 (sPerson r x y).2 ∧ KU UN z z') := by
  refine XM.of (by decide) (Nat.le_of_ble_eq_true rfl) (fun xp xe xs xm xar xbl xme xc xD xcs xad xAA xCC xhr => ?_)
  generalize xhQ : MQ xbl _ xar xs 0 0 xAA = xQ
  show ww xp l xe (xRm (d + 1)) xs xm xar xbl xme xc 3 xD xcs xad shX xAA xQ 0 [(0, .ref 0), (1, .int x), (2, .int y)] [] z
  refine ww_blk xCC okX5_person 0 3 (ps := []) (pc' := 3) (lv' := [(0, .ref 0), (1, .int x), (2, .int y)]) (st' := [.int 5, .int 0, .int x]) (z' := z) rfl trivial ?_
  refine ww_callSNz xCC okX5_person 3 (ix := 52) (t_X5_within l d x 0 5 _) (by omega) (by decide) xyX5_within xiX5_within (Or.inl (lw_gt_of (List.mem_of_getElem? (i := 327) (by decide +kernel)) rfl)) rfl (rest := []) rfl (Nat.le_of_ble_eq_true rfl) rfl (fun z1 h2 => ?_) (fun z1 h2 => ?_)
  · skip
    have h2 : 0 ≤ x.toInt ∧ x.toInt ≤ 5 := h2
    obtain ⟨k, hk, rfl⟩ := sNN (x := x) (n := 6) (by omega) (by omega)
    refine ww_br xCC okX5_person 4 (P := 1 = 0) (t1 := 19) (t2 := 9) (r := []) rfl (fun q => absurd q (by decide)) (fun _ => ?_)
    refine ww_blk xCC okX5_person 5 3 (ps := []) (pc' := 13) (lv' := [(0, .ref 0), (1, .int (nI k)), (2, .int y)]) (st' := [.int 9, .int 0, .int y]) (z' := z) rfl trivial ?_
    refine ww_callSNz xCC okX5_person 8 (ix := 52) (t_X5_within l d y 0 9 _) (by omega) (by decide) xyX5_within xiX5_within (Or.inl (lw_gt_of (List.mem_of_getElem? (i := 327) (by decide +kernel)) rfl)) rfl (rest := []) rfl (Nat.le_of_ble_eq_true rfl) rfl (fun z4 h5 => ?_) (fun z4 h5 => ?_)
    · skip
      have h5 : 0 ≤ y.toInt ∧ y.toInt ≤ 9 := h5
      obtain ⟨n, hn, rfl⟩ := sNN (x := y) (n := 10) (by omega) (by omega)
      refine ww_br xCC okX5_person 9 (P := 1 = 0) (t1 := 19) (t2 := 22) (r := []) rfl (fun q => absurd q (by decide)) (fun _ => ?_)
      refine ww_blk xCC okX5_person 12 4 (ps := []) (pc' := 30) (lv' := [(0, .ref 0), (1, .int (nI k)), (2, .int (nI n))]) (st' := [.int 4, .int (z.1 19 9)]) (z' := z) rfl trivial ?_
      rw [show z.1 19 9 = nI (r 7 4) from hr.2.2.2.2.2.2.2.2.2.2.2.2.1]
      refine ww_br xCC okX5_person 16 (P := (nI (r 7 4)) < 4) (t1 := 36) (t2 := 33) (r := []) rfl (fun c7 => ?_) (fun c7 => ?_)
      · skip
        replace c7 : (r 7 4) < 4 := (sLT (a := (r 7 4)) (b := 4) (by omega) (by omega)).mp c7
        refine ww_blk xCC okX5_person 19 4 (ps := []) (pc' := 42) (lv' := [(0, .ref 0), (1, .int (nI k)), (2, .int (nI n))]) (st' := [.int (nI n), .int (nI k), .ref 19]) (z' := z) rfl trivial ?_
        refine ww_callVEi xCC okX5_person 23 (ix := 79) (t_X0_add l d k n (xPull esN z) r (RX_pull (by decide) hr) (by omega)) (by omega) (by decide) xyX0_add xiX0_add (Or.inr (List.mem_of_getElem? (i := 408) (by decide +kernel))) (by decide +kernel) (by decide) (fun q => by cases q) (q0 := 19) rfl rfl rfl rfl (rest := []) rfl (Nat.le_of_ble_eq_true rfl) rfl (fun vc8 zc8 hc8 => ?_)
        have hk8 := KU_esN_KQ (rw := xHasRaw shR) hc8.2.2
        obtain ⟨zS8, hz8⟩ : ∃ y, y = xBack esN (xHasRaw shR) z zc8 := ⟨_, rfl⟩
        rw [← hz8] at hk8 ⊢
        rw [hc8.1]
        have hrE := RX_back (es := esN) (rw := xHasRaw shR) (z := z) (b := 19) (by decide) hc8.2.1
        rw [← hz8] at hrE
        subst xhQ
        exact ww_iret xCC okX5_person 24 xhr rfl rfl ⟨_, rfl, (by rw [sPerson_y (by omega) (by omega) (by omega)]; exact ⟨rfl, hrE, hk8⟩)⟩
      · skip
        replace c7 : ¬ (r 7 4) < 4 := fun q => c7 ((sLT (a := (r 7 4)) (b := 4) (by omega) (by omega)).mpr q)
        refine ww_blk xCC okX5_person 17 1 (ps := []) (pc' := 35) (lv' := [(0, .ref 0), (1, .int (nI k)), (2, .int (nI n))]) (st' := [.int (-4)]) (z' := z) rfl trivial ?_
        subst xhQ
        exact ww_iret xCC okX5_person 18 xhr rfl rfl ⟨_, rfl, (by rw [sPerson_f (by omega) (by omega) (by omega)]; exact ⟨rfl, hr, KU_rf z⟩)⟩
    · skip
      have h5 : ¬ (0 ≤ y.toInt ∧ y.toInt ≤ 9) := h5
      refine ww_br xCC okX5_person 9 (P := 0 = 0) (t1 := 19) (t2 := 22) (r := []) rfl (fun _ => ?_) (fun q => absurd (by decide) q)
      refine ww_blk xCC okX5_person 10 1 (ps := []) (pc' := 21) (lv' := [(0, .ref 0), (1, .int (nI k)), (2, .int y)]) (st' := [.int (-2)]) (z' := z) rfl trivial ?_
      subst xhQ
      exact ww_iret xCC okX5_person 11 xhr rfl rfl ⟨_, rfl, (by rw [sPerson_n (by omega)]; exact ⟨rfl, hr, KU_rf z⟩)⟩
  · skip
    have h2 : ¬ (0 ≤ x.toInt ∧ x.toInt ≤ 5) := h2
    refine ww_br xCC okX5_person 4 (P := 0 = 0) (t1 := 19) (t2 := 9) (r := []) rfl (fun _ => ?_) (fun q => absurd (by decide) q)
    refine ww_blk xCC okX5_person 10 1 (ps := []) (pc' := 21) (lv' := [(0, .ref 0), (1, .int x), (2, .int y)]) (st' := [.int (-2)]) (z' := z) rfl trivial ?_
    subst xhQ
    exact ww_iret xCC okX5_person 11 xhr rfl rfl ⟨_, rfl, (by rw [sPerson_n (by omega)]; exact ⟨rfl, hr, KU_rf z⟩)⟩
