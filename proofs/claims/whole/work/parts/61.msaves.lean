/-! the model's aliveBehind, saves, letGo, lowest, share -/
theorem KS_tr {a b c : xMem} (h1 : KS a b) (h2 : KS b c) : KS a c := ⟨fun q h h8 => (h2.1 q h h8).trans (h1.1 q h h8), fun j h => (h2.2 j h).trans (h1.2 j h)⟩
/-- laws broken beside those that are -/
def sBrk (r : sR) (a : Nat) : sR := fun q j => if q = 7 ∧ j = 0 then r 7 0 ||| (a &&& sAl (r 0) 8) else r q j
theorem RM_brk {z : xMem} {r : sR} {a : Nat} (h : RM z r) : RM (mPut z 0 9 (nI (r 7 0 ||| (a &&& sAl (r 0) 8)))) (sBrk r a) := by
  obtain ⟨a1, a2, a3, a4, a5, a6, a7, b1, b2, b3, b4, b5, b6⟩ := h
  refine ⟨fun j => ?_, fun j => ?_, fun j => ?_, fun j => ?_, fun j => ?_, fun j => ?_, fun j => ?_, ?_, ?_, ?_, ?_, ?_, ?_⟩
  · simp [mPut_rd, sBrk, a1]
  · simp [mPut_rd, sBrk, a2]
  · simp [mPut_rd, sBrk, a3]
  · simp [mPut_rd, sBrk, a4]
  · simp [mPut_rd, sBrk, a5]
  · simp [mPut_rd, sBrk, a6]
  · simp [mPut_rd, sBrk, a7]
  · simp [mPut_rd, sBrk]
  · simp [mPut_rd, sBrk, b2]
  · simp [mPut_rd, sBrk, b3]
  · simp [mPut_rd, sBrk, b4]
  · simp [mPut_rd, sBrk, b5]
  · simp [mPut_rd, sBrk, b6]
theorem sW_brk {r : sR} {cnt a : Nat} (h : sW r cnt) (ha : a < 256) : sW (sBrk r a) cnt := by
  have h1 := sOr8 (b := sAl (r 0) 8) h.2.1 ha
  exact ⟨h.1, h1, h.2.2⟩
theorem sOut_brk (r : sR) (a : Nat) : sOut r (sBrk r a) := by
  intro q j hn
  unfold sBrk
  rw [if_neg (fun w => hn (by omega))]
/-- how many laws live behind n years, were those laws broken first -/
def sAB (tc : Nat → sTc) (r : sR) (a n : Nat) : Nat := sPop (sAl ((sGo tc (sBrk r a) n).1 0) 8)
theorem sAB_bd (tc : Nat → sTc) (r : sR) (a n : Nat) : sAB tc r a n ≤ 10 := sPop_le _ (Nat.lt_of_lt_of_le (sAl_lt _ 8) (by decide))
def sSv (tc : Nat → sTc) (r : sR) (n : Nat) : Nat → Nat × Nat
  | 0 => (0, sAB tc r 0 n)
  | k + 1 => if (sSv tc r n k).2 < sAB tc r (r 1 k) n then (k + 1, sAB tc r (r 1 k) n) else sSv tc r n k
theorem sSv_n {tc : Nat → sTc} {r : sR} {n k f g : Nat} (e : sSv tc r n k = (f, g)) (h : ¬ g < sAB tc r (r 1 k) n) : sSv tc r n (k + 1) = (f, g) := by rw [sSv, e, if_neg h]
theorem sSv_y {tc : Nat → sTc} {r : sR} {n k f g : Nat} (e : sSv tc r n k = (f, g)) (h : g < sAB tc r (r 1 k) n) : sSv tc r n (k + 1) = (k + 1, sAB tc r (r 1 k) n) := by rw [sSv, e, if_pos h]
def sSaves (tc : Nat → sTc) (r : sR) (x w : Int32) : Int32 := if 1 ≤ x.toInt ∧ x.toInt ≤ 10 ∧ 0 ≤ w.toInt ∧ w.toInt ≤ 1 then (if w.toInt.toNat = 0 then cI (sSv tc r x.toInt.toNat 10).1 else nI (sSv tc r x.toInt.toNat 10).2) else -2
theorem sSaves_y {tc : Nat → sTc} {r : sR} {m u f g : Nat} (h1 : 1 ≤ (nI m).toInt) (hm : m ≤ 10) (hu : u < 2) (e : sSv tc r m 10 = (f, g)) : sSaves tc r (nI m) (nI u) = if u = 0 then cI f else nI g := by
  unfold sSaves
  rw [sTI (k := m) (by omega)] at h1
  rw [sTI (k := m) (by omega), sTI (k := u) (by omega), if_pos (by omega), show ((m : Int)).toNat = m from rfl, show ((u : Int)).toNat = u from rfl, e]
/-- the least harm by which a law is broken -/
def sLs (r : sR) (a : Nat) : Nat → Nat
  | 0 => 1000
  | e + 1 => if (r 1 e).testBit a = true ∧ r 2 e < sLs r a e then r 2 e else sLs r a e
theorem sLs_n {r : sR} {a e le : Nat} (h : sLs r a e = le) (h2 : (r 1 e).testBit a = false ∨ ¬ r 2 e < le) : sLs r a (e + 1) = le := by
  rw [sLs, h, if_neg (fun q => h2.elim (fun w => by rw [w] at q; exact absurd q.1 (by decide)) (fun w => w q.2))]
theorem sLs_y {r : sR} {a e le : Nat} (h : sLs r a e = le) (h2 : (r 1 e).testBit a = true) (h3 : r 2 e < le) : sLs r a (e + 1) = r 2 e := by
  rw [sLs, h, if_pos ⟨h2, h3⟩]
def sLt (r : sR) : Nat → Nat × Nat
  | 0 => (0, 0)
  | a + 1 => if 0 < r 0 a ∧ (sLt r a).2 < sLs r a 10 + 1 then (a + 1, sLs r a 10 + 1) else sLt r a
theorem sLt_n {r : sR} {a f g : Nat} (e : sLt r a = (f, g)) (h : ¬ (0 < r 0 a ∧ g < sLs r a 10 + 1)) : sLt r (a + 1) = (f, g) := by rw [sLt, e, if_neg h]
theorem sLt_y {r : sR} {a f g le : Nat} (e : sLt r a = (f, g)) (h : sLs r a 10 = le) (h2 : 0 < r 0 a ∧ g < le + 1) : sLt r (a + 1) = (a + 1, le + 1) := by rw [sLt, e, h, if_pos h2]
def sLetGo (r : sR) (w : Int32) : Int32 := if 0 ≤ w.toInt ∧ w.toInt ≤ 1 then (if w.toInt.toNat = 0 then cI (sLt r 8).1 else cI (sLt r 8).2) else -2
theorem sLetGo_y {r : sR} {u f g : Nat} (hu : u < 2) (e : sLt r 8 = (f, g)) : sLetGo r (nI u) = if u = 0 then cI f else cI g := by
  unfold sLetGo
  rw [sTI (k := u) (by omega), if_pos (by omega), show ((u : Int)).toNat = u from rfl, e]
theorem cI_le {m n : Nat} (h : m < 2 ^ 30) (h2 : n < 2 ^ 30) : nI n ≤ cI m ↔ n + 1 ≤ m := by
  rw [Int32.le_iff_toInt_le, cI_T (by omega), nI_toInt (by omega)]; omega
theorem lN_z {q : Nat} (h : q < 2 ^ 31) : lg_cmp (lN q) 0 = 0 ↔ q = 0 := by
  rw [lg_cmp_eq]
  exact pk_lEQ (b := 0) (by omega) (by decide)
def sLow (a b u : Nat) : Nat := if u = 0 then a / Nat.gcd a b else b / Nat.gcd a b
theorem sPop_ne : ∀ {n : Nat}, n < 1024 → ¬ n = 0 → sPop n ≠ 0 := by
  have h : ∀ n, n < 1024 → ¬ n = 0 → sPop n ≠ 0 := by decide +kernel
  exact fun {n} => h n
def sShare (r : sR) (w : Int32) : Int64 := if 0 ≤ w.toInt ∧ w.toInt ≤ 1 ∧ ¬ sAl (r 0) 8 = 0 then lN (sLow (sPop (r 7 0)) (sPop (sAl (r 0) 8)) w.toInt.toNat) else -4611686018427387904
set_option maxHeartbeats 4000000 in
set_option maxRecDepth 20000 in
theorem t_X6_aliveBehind (l : Launch) (d : Nat) (a m : Nat) (z : xMem) (r : sR) (cnt : Nat) (tc : Nat → sTc) (hr : RM z r) (hw : sW r cnt) (ht : TM z cnt tc) (hY : r 7 2 ≤ 999) (ha : a < 256) (hm : m ≤ 20) : XMi l (d + 313) yX6_aliveBehind cX6_aliveBehind 4 (some .int) shM [.ref 0, .int (nI a), .int (nI m)] z (fun v z' => v = nI (sAB tc r a m) ∧ KS z z') := by
  refine XM.of (by decide) (Nat.le_of_ble_eq_true rfl) (fun xp xe xs xm xar xbl xme xc xD xcs xad xAA xCC xhr => ?_)
  generalize xhQ : MQ xbl _ xar xs 0 0 xAA = xQ
  show ww xp l xe (xRm (d + 313)) xs xm xar xbl xme xc 4 xD xcs xad shM xAA xQ 0 [(0, .ref 0), (1, .int (nI a)), (2, .int (nI m))] [] z
  have h74 : r 7 4 ≤ 4 := hw.2.2.2.2.2.2.1
  refine ww_blk xCC okX6_aliveBehind 0 1 (ps := []) (pc' := 1) (lv' := [(0, .ref 0), (1, .int (nI a)), (2, .int (nI m))]) (st' := [.ref 0]) (z' := z) rfl trivial ?_
  refine ww_callVIv xCC okX6_aliveBehind 1 (ix := 295) (t_X6_laysAside l (d + 312) z) (by omega) (by decide) xyX6_laysAside xiX6_laysAside (Or.inl (lw_gt_of (List.mem_of_getElem? (i := 1147) (by decide +kernel)) rfl)) rfl rfl rfl (rest := []) rfl (Nat.le_of_ble_eq_true rfl) rfl (fun zA hA => ?_)
  have hrA := RM_KS (KS_WC hA) hr
  have htA := TM_KS (KS_WC hA) ht
  refine ww_blk xCC okX6_aliveBehind 2 5 (ps := []) (pc' := 11) (lv' := [(0, .ref 0), (1, .int (nI a)), (2, .int (nI m))]) (st' := [.ref 0, .int (nI a), .int (zA.1 0 9), .ref 0]) (z' := zA) rfl trivial ?_
  rw [hrA.2.2.2.2.2.2.2.1]
  refine ww_callVIi xCC okX6_aliveBehind 7 (ix := 119) (t_X6_alive l d zA (r 0) hrA.1 (fun j => Nat.lt_of_le_of_lt (hw.1 j).1 (by decide))) (by omega) (by decide) xyX6_alive xiX6_alive (Or.inl (lw_gt_of (List.mem_of_getElem? (i := 1007) (by decide +kernel)) rfl)) rfl rfl rfl (rest := [.int (nI a), .int (nI (r 7 0)), .ref 0]) rfl (Nat.le_of_ble_eq_true rfl) rfl (fun v4 z2 h3 => ?_)
  rw [h3.1, h3.2]
  refine ww_blk xCC okX6_aliveBehind 8 5 (ps := []) (pc' := 21) (lv' := [(0, .ref 0), (1, .int (nI a)), (2, .int (nI m))]) (st' := [.int (nI m), .ref 0]) (z' := (mPut zA 0 9 ((nI (r 7 0)) ||| ((nI a) &&& (nI (sAl (r 0) 8)))))) rfl trivial ?_
  rw [fa_and a (sAl (r 0) 8)]
  rw [fa_or (r 7 0) (a &&& (sAl (r 0) 8))]
  refine ww_callVIi xCC okX6_aliveBehind 13 (ix := 298) (t_X6_go l d m (mPut zA 0 9 (nI (r 7 0 ||| (a &&& sAl (r 0) 8)))) (sBrk r a) cnt tc (RM_brk hrA) (sW_brk hw ha) (TM_KO (KO_p0 (KO_rf zA) 9 _ (by omega)) htA) (by omega) (by show r 7 2 + m ≤ 100000; omega)) (by omega) (by decide) xyX6_go xiX6_go (Or.inl (lw_gt_of (List.mem_of_getElem? (i := 1151) (by decide +kernel)) rfl)) rfl rfl rfl (rest := []) rfl (Nat.le_of_ble_eq_true rfl) rfl (fun vG zG hG => ?_)
  have hD := WD_of hA (KO_tr (KO_p0 (KO_rf zA) 9 _ (by omega)) hG.2.2.2) hr hG.2.1 (sOut_tr (sOut_brk r a) (sOut_go (tc := tc) (r := sBrk r a) h74 m))
  refine ww_blk xCC okX6_aliveBehind 14 2 (ps := []) (pc' := 26) (lv' := [(0, .ref 0), (1, .int (nI a)), (2, .int (nI m))]) (st' := [.ref 0]) (z' := zG) rfl trivial ?_
  refine ww_callVIi xCC okX6_aliveBehind 16 (ix := 119) (t_X6_alive l d zG ((sGo tc (sBrk r a) m).1 0) hG.2.1.1 (fun j => Nat.lt_of_le_of_lt (hG.2.2.1.1 j).1 (by decide))) (by omega) (by decide) xyX6_alive xiX6_alive (Or.inl (lw_gt_of (List.mem_of_getElem? (i := 1007) (by decide +kernel)) rfl)) rfl rfl rfl (rest := []) rfl (Nat.le_of_ble_eq_true rfl) rfl (fun v7 z5 h6 => ?_)
  rw [h6.1, h6.2]
  refine ww_callSNi xCC okX6_aliveBehind 17 (ix := 255) (t_X6_bitsOf l d (sAl ((sGo tc (sBrk r a) m).1 0) 8) (Nat.lt_of_lt_of_le (sAl_lt _ 8) (by decide)) _) (by omega) (by decide) xyX6_bitsOf xiX6_bitsOf (Or.inl (lw_gt_of (List.mem_of_getElem? (i := 1004) (by decide +kernel)) rfl)) rfl (rest := []) rfl (Nat.le_of_ble_eq_true rfl) rfl (fun v10 z8 h9 => ?_)
  rw [h9]
  refine ww_blk xCC okX6_aliveBehind 18 2 (ps := []) (pc' := 34) (lv' := [(3, .int (nI (sPop (sAl ((sGo tc (sBrk r a) m).1 0) 8)))), (0, .ref 0), (1, .int (nI a)), (2, .int (nI m))]) (st' := [.ref 0]) (z' := zG) rfl trivial ?_
  refine ww_callVIv xCC okX6_aliveBehind 20 (ix := 301) (t_X6_laysBack l (d + 312) z zG hD) (by omega) (by decide) xyX6_laysBack xiX6_laysBack (Or.inl (lw_gt_of (List.mem_of_getElem? (i := 1159) (by decide +kernel)) rfl)) rfl rfl rfl (rest := []) rfl (Nat.le_of_ble_eq_true rfl) rfl (fun zB hB => ?_)
  refine ww_blk xCC okX6_aliveBehind 21 1 (ps := []) (pc' := 38) (lv' := [(3, .int (nI (sPop (sAl ((sGo tc (sBrk r a) m).1 0) 8)))), (0, .ref 0), (1, .int (nI a)), (2, .int (nI m))]) (st' := [.int (nI (sPop (sAl ((sGo tc (sBrk r a) m).1 0) 8)))]) (z' := zB) rfl trivial ?_
  subst xhQ
  exact ww_iret xCC okX6_aliveBehind 22 xhr rfl rfl ⟨_, rfl, ⟨rfl, hB⟩⟩

set_option maxHeartbeats 4000000 in
set_option maxRecDepth 20000 in
theorem t_X6_saves (l : Launch) (d : Nat) (x w : Int32) (z : xMem) (r : sR) (cnt : Nat) (tc : Nat → sTc) (hr : RM z r) (hw : sW r cnt) (ht : TM z cnt tc) (hY : r 7 2 ≤ 999) : XMi l (d + 314) yX6_saves cX6_saves 7 (some .int) shM [.ref 0, .int x, .int w] z (fun v z' => v = sSaves tc r x w ∧ KS z z') := by
  refine XM.of (by decide) (Nat.le_of_ble_eq_true rfl) (fun xp xe xs xm xar xbl xme xc xD xcs xad xAA xCC xhr => ?_)
  generalize xhQ : MQ xbl _ xar xs 0 0 xAA = xQ
  show ww xp l xe (xRm (d + 314)) xs xm xar xbl xme xc 7 xD xcs xad shM xAA xQ 0 [(0, .ref 0), (1, .int x), (2, .int w)] [] z
  have hb := hw.1
  refine ww_blk xCC okX6_saves 0 4 (ps := []) (pc' := 6) (lv' := [(0, .ref 0), (1, .int x), (2, .int w)]) (st' := [.long 10, .long 1, .long x.toInt64]) (z' := z) rfl trivial ?_
  refine ww_callSNz xCC okX6_saves 4 (ix := 82) (t_X6_in l d x.toInt64 1 10 x.toInt 1 10 (Int32.toInt_toInt64 _) rfl rfl  _) (by omega) (by decide) xyX6_in xiX6_in (Or.inl (lw_gt_of (List.mem_of_getElem? (i := 962) (by decide +kernel)) rfl)) rfl (rest := []) rfl (Nat.le_of_ble_eq_true rfl) rfl (fun z1 h2 => ?_) (fun z1 h2 => ?_)
  · skip
    have h2 : 1 ≤ x.toInt ∧ x.toInt ≤ 10 := h2
    obtain ⟨m, hm, rfl⟩ := sNN (x := x) (n := 11) (by omega) (by omega)
    refine ww_br xCC okX6_saves 5 (P := 1 = 0) (t1 := 22) (t2 := 12) (r := []) rfl (fun q => absurd q (by decide)) (fun _ => ?_)
    refine ww_blk xCC okX6_saves 6 4 (ps := []) (pc' := 16) (lv' := [(0, .ref 0), (1, .int (nI m)), (2, .int w)]) (st' := [.long 1, .long 0, .long w.toInt64]) (z' := z) rfl trivial ?_
    refine ww_callSNz xCC okX6_saves 10 (ix := 82) (t_X6_in l d w.toInt64 0 1 w.toInt 0 1 (Int32.toInt_toInt64 _) rfl rfl  _) (by omega) (by decide) xyX6_in xiX6_in (Or.inl (lw_gt_of (List.mem_of_getElem? (i := 962) (by decide +kernel)) rfl)) rfl (rest := []) rfl (Nat.le_of_ble_eq_true rfl) rfl (fun z4 h5 => ?_) (fun z4 h5 => ?_)
    · skip
      have h5 : 0 ≤ w.toInt ∧ w.toInt ≤ 1 := h5
      obtain ⟨u, hu, rfl⟩ := sNN (x := w) (n := 2) (by omega) (by omega)
      refine ww_br xCC okX6_saves 11 (P := 1 = 0) (t1 := 22) (t2 := 25) (r := []) rfl (fun q => absurd q (by decide)) (fun _ => ?_)
      refine ww_blk xCC okX6_saves 14 5 (ps := []) (pc' := 30) (lv' := [(3, .int (-1)), (0, .ref 0), (1, .int (nI m)), (2, .int (nI u))]) (st' := [.int (nI m), .int 0, .ref 0]) (z' := z) rfl trivial ?_
      refine ww_callVIi xCC okX6_saves 19 (ix := 325) (t_X6_aliveBehind l d 0 m z r cnt tc hr hw ht hY (by first | decide | exact (hb _).2.1) (by omega)) (by omega) (by decide) xyX6_aliveBehind xiX6_aliveBehind (Or.inl (lw_gt_of (List.mem_of_getElem? (i := 1192) (by decide +kernel)) rfl)) rfl rfl rfl (rest := []) rfl (Nat.le_of_ble_eq_true rfl) rfl (fun v8 zS7 hS7 => ?_)
      have hrS7 := RM_KS hS7.2 hr
      have htS7 := TM_KS hS7.2 ht
      have hKS7 := KS_tr (KS_rf z) hS7.2
      rw [hS7.1]
      refine ww_blk xCC okX6_saves 20 3 (ps := []) (pc' := 38) (lv' := [(5, .int 0), (4, .int (nI (sAB tc r 0 m))), (3, .int (-1)), (0, .ref 0), (1, .int (nI m)), (2, .int (nI u))]) (st' := []) (z' := zS7) rfl trivial ?_
      have L38 : ∀ (n38 : Nat) (k : Nat) (f : Nat) (g : Nat) (zL : xMem), 10 - k < n38 → (sSv tc r m k = (f, g)) → (KS z zL) → (k ≤ 10) → (g ≤ 10) → ww xp l xe (xRm (d + 314)) xs xm xar xbl xme xc 7 xD xcs xad shM xAA xQ 38 [(5, .int (nI k)), (3, .int (cI f)), (4, .int (nI g)), (0, .ref 0), (1, .int (nI m)), (2, .int (nI u))] [] zL := by
        intro n38
        induction n38 with
        | zero =>
          intro k f g zL hmu38
          exact absurd hmu38 (Nat.not_lt_zero _)
        | succ n38 ih38 =>
          intro k f g zL hmu38 e38_0 e38_1 e38_2 e38_3
          have hrL := RM_KS e38_1 hr
          have htL := TM_KS e38_1 ht
          have hv := sAB_bd tc r (r 1 k) m
          refine ww_blk xCC okX6_saves 23 2 (ps := []) (pc' := 42) (lv' := [(5, .int (nI k)), (3, .int (cI f)), (4, .int (nI g)), (0, .ref 0), (1, .int (nI m)), (2, .int (nI u))]) (st' := [.int 10, .int (nI k)]) (z' := zL) rfl trivial ?_
          refine ww_br xCC okX6_saves 25 (P := 10 ≤ (nI k)) (t1 := 79) (t2 := 45) (r := []) rfl (fun c9 => ?_) (fun c9 => ?_)
          · skip
            replace c9 : 10 ≤ k := (sLE (a := 10) (b := k) (by omega) (by omega)).mp c9
            refine ww_blk xCC okX6_saves 43 1 (ps := []) (pc' := 80) (lv' := [(5, .int (nI k)), (3, .int (cI f)), (4, .int (nI g)), (0, .ref 0), (1, .int (nI m)), (2, .int (nI u))]) (st' := [.int (nI u)]) (z' := zL) rfl trivial ?_
            refine ww_br xCC okX6_saves 44 (P := (nI u) = 0) (t1 := 83) (t2 := 87) (r := []) rfl (fun c10 => ?_) (fun c10 => ?_)
            · skip
              replace c10 : u = 0 := (sEQ (a := u) (b := 0) (by omega) (by omega)).mp c10
              refine ww_blk xCC okX6_saves 45 2 (ps := []) (pc' := 89) (lv' := [(5, .int (nI k)), (3, .int (cI f)), (4, .int (nI g)), (0, .ref 0), (1, .int (nI m)), (2, .int (nI u))]) (st' := [.int (cI f)]) (z' := zL) rfl trivial ?_
              subst xhQ
              exact ww_iret xCC okX6_saves 48 xhr rfl rfl ⟨_, rfl, ⟨(by rw [show k = 10 by omega] at e38_0; rw [sSaves_y (by omega) (by omega) (by omega) e38_0]; grind), e38_1⟩⟩
            · skip
              replace c10 : ¬ u = 0 := fun q => c10 ((sEQ (a := u) (b := 0) (by omega) (by omega)).mpr q)
              refine ww_blk xCC okX6_saves 47 1 (ps := []) (pc' := 89) (lv' := [(5, .int (nI k)), (3, .int (cI f)), (4, .int (nI g)), (0, .ref 0), (1, .int (nI m)), (2, .int (nI u))]) (st' := [.int (nI g)]) (z' := zL) rfl trivial ?_
              subst xhQ
              exact ww_iret xCC okX6_saves 48 xhr rfl rfl ⟨_, rfl, ⟨(by rw [show k = 10 by omega] at e38_0; rw [sSaves_y (by omega) (by omega) (by omega) e38_0]; grind), e38_1⟩⟩
          · skip
            replace c9 : ¬ 10 ≤ k := fun q => c9 ((sLE (a := 10) (b := k) (by omega) (by omega)).mpr q)
            refine ww_blk xCC okX6_saves 26 6 (ps := [vp_in (nI k) 10]) (pc' := 54) (lv' := [(5, .int (nI k)), (3, .int (cI f)), (4, .int (nI g)), (0, .ref 0), (1, .int (nI m)), (2, .int (nI u))]) (st' := [.int (nI m), .int (zL.1 5 (nI k).toNatClampNeg), .ref 0]) (z' := zL) rfl (vp_in_nI (by omega) (by decide)) ?_
            rw [sCL (n := k) (by omega)]
            rw [hrL.2.1 k]
            refine ww_callVIi xCC okX6_saves 32 (ix := 325) (t_X6_aliveBehind l d (r 1 k) m zL r cnt tc hrL hw htL hY (by first | decide | exact (hb _).2.1) (by omega)) (by omega) (by decide) xyX6_aliveBehind xiX6_aliveBehind (Or.inl (lw_gt_of (List.mem_of_getElem? (i := 1192) (by decide +kernel)) rfl)) rfl rfl rfl (rest := []) rfl (Nat.le_of_ble_eq_true rfl) rfl (fun v12 zS11 hS11 => ?_)
            have hrS11 := RM_KS hS11.2 hrL
            have htS11 := TM_KS hS11.2 htL
            have hKS11 := KS_tr e38_1 hS11.2
            rw [hS11.1]
            refine ww_blk xCC okX6_saves 33 3 (ps := []) (pc' := 63) (lv' := [(6, .int (nI (sAB tc r (r 1 k) m))), (5, .int (nI k)), (3, .int (cI f)), (4, .int (nI g)), (0, .ref 0), (1, .int (nI m)), (2, .int (nI u))]) (st' := [.int (nI g), .int (nI (sAB tc r (r 1 k) m))]) (z' := zS11) rfl trivial ?_
            refine ww_br xCC okX6_saves 36 (P := (nI (sAB tc r (r 1 k) m)) ≤ (nI g)) (t1 := 73) (t2 := 66) (r := []) rfl (fun c13 => ?_) (fun c13 => ?_)
            · skip
              replace c13 : (sAB tc r (r 1 k) m) ≤ g := (sLE (a := (sAB tc r (r 1 k) m)) (b := g) (by omega) (by omega)).mp c13
              refine ww_blk xCC okX6_saves 41 2 (ps := []) (pc' := 38) (lv' := [(5, .int ((nI k) + 1)), (6, .int (nI (sAB tc r (r 1 k) m))), (3, .int (cI f)), (4, .int (nI g)), (0, .ref 0), (1, .int (nI m)), (2, .int (nI u))]) (st' := []) (z' := zS11) rfl trivial ?_
              rw [show nI k + (1 : Int32) = nI (k + 1) from nI_add k 1]
              exact ww_cut [0, 2, 3, 4, 5, 6] (xlc rfl (xlc rfl (xlc rfl (xlc rfl (xlc rfl (xlc rfl rfl)))))) rfl rfl (ih38 (k + 1) f g zS11 (by omega) (sSv_n e38_0 (by omega)) hKS11 (by omega) (by omega))
            · skip
              replace c13 : ¬ (sAB tc r (r 1 k) m) ≤ g := fun q => c13 ((sLE (a := (sAB tc r (r 1 k) m)) (b := g) (by omega) (by omega)).mpr q)
              refine ww_blk xCC okX6_saves 37 6 (ps := []) (pc' := 38) (lv' := [(5, .int ((nI k) + 1)), (4, .int (nI (sAB tc r (r 1 k) m))), (3, .int (nI k)), (6, .int (nI (sAB tc r (r 1 k) m))), (0, .ref 0), (1, .int (nI m)), (2, .int (nI u))]) (st' := []) (z' := zS11) rfl trivial ?_
              rw [show nI k + (1 : Int32) = nI (k + 1) from nI_add k 1]
              exact ww_cut [0, 2, 1, 4, 5, 6] (xlc rfl (xlc (congrArg Value.int (show (nI k : Int32) = cI (k + 1) from (cI_s k))) (xlc rfl (xlc rfl (xlc rfl (xlc rfl rfl)))))) rfl rfl (ih38 (k + 1) (k + 1) (sAB tc r (r 1 k) m) zS11 (by omega) (sSv_y e38_0 (by omega)) hKS11 (by omega) (by omega))
      exact ww_cut [0, 2, 1, 3, 4, 5] (xlc (congrArg Value.int (show (0 : Int32) = nI 0 from rfl)) (xlc (congrArg Value.int (show ((-1) : Int32) = cI 0 from rfl)) (xlc rfl (xlc rfl (xlc rfl (xlc rfl rfl)))))) rfl rfl (L38 (10 - 0 + 1) 0 0 (sAB tc r 0 m) zS7 (Nat.lt_succ_self _) rfl hKS7 (by omega) (sAB_bd tc r 0 m))
    · skip
      have h5 : ¬ (0 ≤ w.toInt ∧ w.toInt ≤ 1) := h5
      refine ww_br xCC okX6_saves 11 (P := 0 = 0) (t1 := 22) (t2 := 25) (r := []) rfl (fun _ => ?_) (fun q => absurd (by decide) q)
      refine ww_blk xCC okX6_saves 12 1 (ps := []) (pc' := 24) (lv' := [(0, .ref 0), (1, .int (nI m)), (2, .int w)]) (st' := [.int (-2)]) (z' := z) rfl trivial ?_
      subst xhQ
      exact ww_iret xCC okX6_saves 13 xhr rfl rfl ⟨_, rfl, ⟨(by unfold sSaves; rw [if_neg (by omega)]), KS_rf z⟩⟩
  · skip
    have h2 : ¬ (1 ≤ x.toInt ∧ x.toInt ≤ 10) := h2
    refine ww_br xCC okX6_saves 5 (P := 0 = 0) (t1 := 22) (t2 := 12) (r := []) rfl (fun _ => ?_) (fun q => absurd (by decide) q)
    refine ww_blk xCC okX6_saves 12 1 (ps := []) (pc' := 24) (lv' := [(0, .ref 0), (1, .int x), (2, .int w)]) (st' := [.int (-2)]) (z' := z) rfl trivial ?_
    subst xhQ
    exact ww_iret xCC okX6_saves 13 xhr rfl rfl ⟨_, rfl, ⟨(by unfold sSaves; rw [if_neg (by omega)]), KS_rf z⟩⟩

set_option maxHeartbeats 4000000 in
set_option maxRecDepth 20000 in
theorem t_X6_letGo (l : Launch) (d : Nat) (w : Int32) (z : xMem) (r : sR) (cnt : Nat) (hr : RM z r) (hw : sW r cnt) : XMi l (d + 1) yX6_letGo cX6_letGo 7 (some .int) shM [.ref 0, .int w] z (fun v z' => v = sLetGo r w ∧ z' = z) := by
  refine XM.of (by decide) (Nat.le_of_ble_eq_true rfl) (fun xp xe xs xm xar xbl xme xc xD xcs xad xAA xCC xhr => ?_)
  generalize xhQ : MQ xbl _ xar xs 0 0 xAA = xQ
  show ww xp l xe (xRm (d + 1)) xs xm xar xbl xme xc 7 xD xcs xad shM xAA xQ 0 [(0, .ref 0), (1, .int w)] [] z
  have hb := hw.1
  refine ww_blk xCC okX6_letGo 0 4 (ps := []) (pc' := 4) (lv' := [(0, .ref 0), (1, .int w)]) (st' := [.long 1, .long 0, .long w.toInt64]) (z' := z) rfl trivial ?_
  refine ww_callSNz xCC okX6_letGo 4 (ix := 82) (t_X6_in l d w.toInt64 0 1 w.toInt 0 1 (Int32.toInt_toInt64 _) rfl rfl  _) (by omega) (by decide) xyX6_in xiX6_in (Or.inl (lw_gt_of (List.mem_of_getElem? (i := 962) (by decide +kernel)) rfl)) rfl (rest := []) rfl (Nat.le_of_ble_eq_true rfl) rfl (fun z1 h2 => ?_) (fun z1 h2 => ?_)
  · skip
    have h2 : 0 ≤ w.toInt ∧ w.toInt ≤ 1 := h2
    obtain ⟨u, hu, rfl⟩ := sNN (x := w) (n := 2) (by omega) (by omega)
    refine ww_br xCC okX6_letGo 5 (P := 1 = 0) (t1 := 10) (t2 := 13) (r := []) rfl (fun q => absurd q (by decide)) (fun _ => ?_)
    refine ww_blk xCC okX6_letGo 8 6 (ps := []) (pc' := 20) (lv' := [(4, .int 0), (3, .int (-1)), (2, .int (-1)), (0, .ref 0), (1, .int (nI u))]) (st' := []) (z' := z) rfl trivial ?_
    have L20 : ∀ (n20 : Nat) (a : Nat) (f : Nat) (g : Nat), 8 - a < n20 → (sLt r a = (f, g)) → (a ≤ 8) → (g ≤ 1001) → ww xp l xe (xRm (d + 1)) xs xm xar xbl xme xc 7 xD xcs xad shM xAA xQ 20 [(4, .int (nI a)), (2, .int (cI f)), (3, .int (cI g)), (0, .ref 0), (1, .int (nI u))] [] z := by
      intro n20
      induction n20 with
      | zero =>
        intro a f g hmu20
        exact absurd hmu20 (Nat.not_lt_zero _)
      | succ n20 ih20 =>
        intro a f g hmu20 e20_0 e20_1 e20_2
        have hba := hb a
        refine ww_blk xCC okX6_letGo 14 2 (ps := []) (pc' := 24) (lv' := [(4, .int (nI a)), (2, .int (cI f)), (3, .int (cI g)), (0, .ref 0), (1, .int (nI u))]) (st' := [.int 8, .int (nI a)]) (z' := z) rfl trivial ?_
        refine ww_br xCC okX6_letGo 16 (P := 8 ≤ (nI a)) (t1 := 118) (t2 := 27) (r := []) rfl (fun c4 => ?_) (fun c4 => ?_)
        · skip
          replace c4 : 8 ≤ a := (sLE (a := 8) (b := a) (by omega) (by omega)).mp c4
          refine ww_blk xCC okX6_letGo 63 1 (ps := []) (pc' := 119) (lv' := [(4, .int (nI a)), (2, .int (cI f)), (3, .int (cI g)), (0, .ref 0), (1, .int (nI u))]) (st' := [.int (nI u)]) (z' := z) rfl trivial ?_
          refine ww_br xCC okX6_letGo 64 (P := (nI u) = 0) (t1 := 122) (t2 := 126) (r := []) rfl (fun c5 => ?_) (fun c5 => ?_)
          · skip
            replace c5 : u = 0 := (sEQ (a := u) (b := 0) (by omega) (by omega)).mp c5
            refine ww_blk xCC okX6_letGo 65 2 (ps := []) (pc' := 127) (lv' := [(4, .int (nI a)), (2, .int (cI f)), (3, .int (cI g)), (0, .ref 0), (1, .int (nI u))]) (st' := [.int (cI f)]) (z' := z) rfl trivial ?_
            subst xhQ
            exact ww_iret xCC okX6_letGo 68 xhr rfl rfl ⟨_, rfl, ⟨(by rw [show a = 8 by omega] at e20_0; rw [sLetGo_y (by omega) e20_0]; grind), rfl⟩⟩
          · skip
            replace c5 : ¬ u = 0 := fun q => c5 ((sEQ (a := u) (b := 0) (by omega) (by omega)).mpr q)
            refine ww_blk xCC okX6_letGo 67 1 (ps := []) (pc' := 127) (lv' := [(4, .int (nI a)), (2, .int (cI f)), (3, .int (cI g)), (0, .ref 0), (1, .int (nI u))]) (st' := [.int (cI g)]) (z' := z) rfl trivial ?_
            subst xhQ
            exact ww_iret xCC okX6_letGo 68 xhr rfl rfl ⟨_, rfl, ⟨(by rw [show a = 8 by omega] at e20_0; rw [sLetGo_y (by omega) e20_0]; grind), rfl⟩⟩
        · skip
          replace c4 : ¬ 8 ≤ a := fun q => c4 ((sLE (a := 8) (b := a) (by omega) (by omega)).mpr q)
          refine ww_blk xCC okX6_letGo 17 4 (ps := []) (pc' := 35) (lv' := [(6, .int 0), (5, .int 1000), (4, .int (nI a)), (2, .int (cI f)), (3, .int (cI g)), (0, .ref 0), (1, .int (nI u))]) (st' := []) (z' := z) rfl trivial ?_
          have L35 : ∀ (n35 : Nat) (e : Nat) (le : Nat), 10 - e < n35 → (sLs r a e = le) → (e ≤ 10) → (le ≤ 1000) → ww xp l xe (xRm (d + 1)) xs xm xar xbl xme xc 7 xD xcs xad shM xAA xQ 35 [(6, .int (nI e)), (5, .int (nI le)), (4, .int (nI a)), (2, .int (cI f)), (3, .int (cI g)), (0, .ref 0), (1, .int (nI u))] [] z := by
            intro n35
            induction n35 with
            | zero =>
              intro e le hmu35
              exact absurd hmu35 (Nat.not_lt_zero _)
            | succ n35 ih35 =>
              intro e le hmu35 e35_0 e35_1 e35_2
              have hbe := hb e
              refine ww_blk xCC okX6_letGo 21 2 (ps := []) (pc' := 39) (lv' := [(6, .int (nI e)), (5, .int (nI le)), (4, .int (nI a)), (2, .int (cI f)), (3, .int (cI g)), (0, .ref 0), (1, .int (nI u))]) (st' := [.int 10, .int (nI e)]) (z' := z) rfl trivial ?_
              refine ww_br xCC okX6_letGo 23 (P := 10 ≤ (nI e)) (t1 := 90) (t2 := 42) (r := []) rfl (fun c6 => ?_) (fun c6 => ?_)
              · skip
                replace c6 : 10 ≤ e := (sLE (a := 10) (b := e) (by omega) (by omega)).mp c6
                have he10 : sLs r a 10 = le := (by have q : e = 10 := (by omega); rw [q] at e35_0; exact e35_0)
                refine ww_blk xCC okX6_letGo 49 4 (ps := [vp_in (nI a) 8]) (pc' := 97) (lv' := [(6, .int (nI e)), (5, .int (nI le)), (4, .int (nI a)), (2, .int (cI f)), (3, .int (cI g)), (0, .ref 0), (1, .int (nI u))]) (st' := [.int (z.1 4 (nI a).toNatClampNeg)]) (z' := z) rfl (vp_in_nI (by omega) (by decide)) ?_
                rw [sCL (n := a) (by omega)]
                rw [hr.1 a]
                refine ww_br xCC okX6_letGo 53 (P := (nI (r 0 a)) ≤ 0) (t1 := 112) (t2 := 100) (r := []) rfl (fun c7 => ?_) (fun c7 => ?_)
                · skip
                  replace c7 : (r 0 a) ≤ 0 := (sLE (a := (r 0 a)) (b := 0) (by omega) (by omega)).mp c7
                  refine ww_blk xCC okX6_letGo 61 2 (ps := []) (pc' := 20) (lv' := [(4, .int ((nI a) + 1)), (6, .int (nI e)), (5, .int (nI le)), (2, .int (cI f)), (3, .int (cI g)), (0, .ref 0), (1, .int (nI u))]) (st' := []) (z' := z) rfl trivial ?_
                  rw [show nI a + (1 : Int32) = nI (a + 1) from nI_add a 1]
                  exact ww_cut [0, 3, 4, 5, 6] (xlc rfl (xlc rfl (xlc rfl (xlc rfl (xlc rfl rfl))))) rfl rfl (ih20 (a + 1) f g (by omega) (sLt_n e20_0 (by rw [he10]; omega)) (by omega) (by omega))
                · skip
                  replace c7 : ¬ (r 0 a) ≤ 0 := fun q => c7 ((sLE (a := (r 0 a)) (b := 0) (by omega) (by omega)).mpr q)
                  refine ww_blk xCC okX6_letGo 54 2 (ps := []) (pc' := 103) (lv' := [(6, .int (nI e)), (5, .int (nI le)), (4, .int (nI a)), (2, .int (cI f)), (3, .int (cI g)), (0, .ref 0), (1, .int (nI u))]) (st' := [.int (cI g), .int (nI le)]) (z' := z) rfl trivial ?_
                  refine ww_br xCC okX6_letGo 56 (P := (nI le) ≤ (cI g)) (t1 := 112) (t2 := 106) (r := []) rfl (fun c8 => ?_) (fun c8 => ?_)
                  · skip
                    have h103 := (cI_le (m := g) (n := le) (by omega) (by omega)).mp c8
                    refine ww_blk xCC okX6_letGo 61 2 (ps := []) (pc' := 20) (lv' := [(4, .int ((nI a) + 1)), (6, .int (nI e)), (5, .int (nI le)), (2, .int (cI f)), (3, .int (cI g)), (0, .ref 0), (1, .int (nI u))]) (st' := []) (z' := z) rfl trivial ?_
                    rw [show nI a + (1 : Int32) = nI (a + 1) from nI_add a 1]
                    exact ww_cut [0, 3, 4, 5, 6] (xlc rfl (xlc rfl (xlc rfl (xlc rfl (xlc rfl rfl))))) rfl rfl (ih20 (a + 1) f g (by omega) (sLt_n e20_0 (by rw [he10]; omega)) (by omega) (by omega))
                  · skip
                    have h103 : ¬ le + 1 ≤ g := fun q => c8 ((cI_le (m := g) (n := le) (by omega) (by omega)).mpr q)
                    refine ww_blk xCC okX6_letGo 57 6 (ps := []) (pc' := 20) (lv' := [(4, .int ((nI a) + 1)), (3, .int (nI le)), (2, .int (nI a)), (6, .int (nI e)), (5, .int (nI le)), (0, .ref 0), (1, .int (nI u))]) (st' := []) (z' := z) rfl trivial ?_
                    rw [show nI a + (1 : Int32) = nI (a + 1) from nI_add a 1]
                    exact ww_cut [0, 2, 1, 5, 6] (xlc rfl (xlc (congrArg Value.int (show (nI a : Int32) = cI (a + 1) from (cI_s a))) (xlc (congrArg Value.int (show (nI le : Int32) = cI (le + 1) from (cI_s le))) (xlc rfl (xlc rfl rfl))))) rfl rfl (ih20 (a + 1) (a + 1) (le + 1) (by omega) (sLt_y e20_0 he10 (by omega)) (by omega) (by omega))
              · skip
                replace c6 : ¬ 10 ≤ e := fun q => c6 ((sLE (a := 10) (b := e) (by omega) (by omega)).mpr q)
                refine ww_blk xCC okX6_letGo 24 9 (ps := [vp_in (nI e) 10]) (pc' := 55) (lv' := [(6, .int (nI e)), (5, .int (nI le)), (4, .int (nI a)), (2, .int (cI f)), (3, .int (cI g)), (0, .ref 0), (1, .int (nI u))]) (st' := [.int 1, .int (((z.1 5 (nI e).toNatClampNeg) >>> ((nI a) &&& 31)) &&& 1)]) (z' := z) rfl (vp_in_nI (by omega) (by decide)) ?_
                rw [sCL (n := e) (by omega)]
                rw [hr.2.1 e]
                refine ww_br xCC okX6_letGo 33 (P := (((nI (r 1 e)) >>> ((nI a) &&& 31)) &&& 1) = 1) (t1 := 58) (t2 := 80) (r := []) rfl (fun c9 => ?_) (fun c9 => ?_)
                · skip
                  have h55 : (r 1 e).testBit a = true := (sBit1 a (by omega) (r 1 e) (by omega)).mp c9
                  refine ww_blk xCC okX6_letGo 34 5 (ps := [vp_in (nI e) 10]) (pc' := 67) (lv' := [(6, .int (nI e)), (5, .int (nI le)), (4, .int (nI a)), (2, .int (cI f)), (3, .int (cI g)), (0, .ref 0), (1, .int (nI u))]) (st' := [.int (nI le), .int (z.1 6 (nI e).toNatClampNeg)]) (z' := z) rfl (vp_in_nI (by omega) (by decide)) ?_
                  rw [sCL (n := e) (by omega)]
                  rw [hr.2.2.1 e]
                  refine ww_br xCC okX6_letGo 39 (P := (nI le) ≤ (nI (r 2 e))) (t1 := 80) (t2 := 70) (r := []) rfl (fun c10 => ?_) (fun c10 => ?_)
                  · skip
                    replace c10 : le ≤ (r 2 e) := (sLE (a := le) (b := (r 2 e)) (by omega) (by omega)).mp c10
                    refine ww_blk xCC okX6_letGo 45 4 (ps := []) (pc' := 35) (lv' := [(6, .int ((nI e) + 1)), (5, .int (nI le)), (4, .int (nI a)), (2, .int (cI f)), (3, .int (cI g)), (0, .ref 0), (1, .int (nI u))]) (st' := []) (z' := z) rfl trivial ?_
                    rw [show nI e + (1 : Int32) = nI (e + 1) from nI_add e 1]
                    exact ww_cut [0, 1, 2, 3, 4, 5, 6] (xlc rfl (xlc rfl (xlc rfl (xlc rfl (xlc rfl (xlc rfl (xlc rfl rfl))))))) rfl rfl (ih35 (e + 1) le (by omega) (by first | exact sLs_n e35_0 (Or.inl h55) | exact sLs_n e35_0 (Or.inr (by omega))) (by omega) (by omega))
                  · skip
                    replace c10 : ¬ le ≤ (r 2 e) := fun q => c10 ((sLE (a := le) (b := (r 2 e)) (by omega) (by omega)).mpr q)
                    refine ww_blk xCC okX6_letGo 40 5 (ps := [vp_in (nI e) 10]) (pc' := 82) (lv' := [(6, .int (nI e)), (5, .int (nI le)), (4, .int (nI a)), (2, .int (cI f)), (3, .int (cI g)), (0, .ref 0), (1, .int (nI u))]) (st' := [.int (z.1 6 (nI e).toNatClampNeg)]) (z' := z) rfl (vp_in_nI (by omega) (by decide)) ?_
                    rw [sCL (n := e) (by omega)]
                    rw [hr.2.2.1 e]
                    refine ww_blk xCC okX6_letGo 46 3 (ps := []) (pc' := 35) (lv' := [(6, .int ((nI e) + 1)), (5, .int (nI (r 2 e))), (4, .int (nI a)), (2, .int (cI f)), (3, .int (cI g)), (0, .ref 0), (1, .int (nI u))]) (st' := []) (z' := z) rfl trivial ?_
                    rw [show nI e + (1 : Int32) = nI (e + 1) from nI_add e 1]
                    exact ww_cut [0, 1, 2, 3, 4, 5, 6] (xlc rfl (xlc rfl (xlc rfl (xlc rfl (xlc rfl (xlc rfl (xlc rfl rfl))))))) rfl rfl (ih35 (e + 1) (r 2 e) (by omega) (sLs_y e35_0 h55 (by omega)) (by omega) (by omega))
                · skip
                  have h55 : (r 1 e).testBit a = false := (Bool.eq_false_or_eq_true _).resolve_left (fun q => c9 ((sBit1 a (by omega) (r 1 e) (by omega)).mpr q))
                  refine ww_blk xCC okX6_letGo 45 4 (ps := []) (pc' := 35) (lv' := [(6, .int ((nI e) + 1)), (5, .int (nI le)), (4, .int (nI a)), (2, .int (cI f)), (3, .int (cI g)), (0, .ref 0), (1, .int (nI u))]) (st' := []) (z' := z) rfl trivial ?_
                  rw [show nI e + (1 : Int32) = nI (e + 1) from nI_add e 1]
                  exact ww_cut [0, 1, 2, 3, 4, 5, 6] (xlc rfl (xlc rfl (xlc rfl (xlc rfl (xlc rfl (xlc rfl (xlc rfl rfl))))))) rfl rfl (ih35 (e + 1) le (by omega) (by first | exact sLs_n e35_0 (Or.inl h55) | exact sLs_n e35_0 (Or.inr (by omega))) (by omega) (by omega))
          exact ww_cut [0, 1, 2, 3, 4, 5, 6] (xlc (congrArg Value.int (show (0 : Int32) = nI 0 from rfl)) (xlc (congrArg Value.int (show (1000 : Int32) = nI 1000 from rfl)) (xlc rfl (xlc rfl (xlc rfl (xlc rfl (xlc rfl rfl))))))) rfl rfl (L35 (10 - 0 + 1) 0 1000 (Nat.lt_succ_self _) rfl (by omega) (by omega))
    exact ww_cut [0, 2, 1, 3, 4] (xlc (congrArg Value.int (show (0 : Int32) = nI 0 from rfl)) (xlc (congrArg Value.int (show ((-1) : Int32) = cI 0 from rfl)) (xlc (congrArg Value.int (show ((-1) : Int32) = cI 0 from rfl)) (xlc rfl (xlc rfl rfl))))) rfl rfl (L20 (8 - 0 + 1) 0 0 0 (Nat.lt_succ_self _) rfl (by omega) (by omega))
  · skip
    have h2 : ¬ (0 ≤ w.toInt ∧ w.toInt ≤ 1) := h2
    refine ww_br xCC okX6_letGo 5 (P := 0 = 0) (t1 := 10) (t2 := 13) (r := []) rfl (fun _ => ?_) (fun q => absurd (by decide) q)
    refine ww_blk xCC okX6_letGo 6 1 (ps := []) (pc' := 12) (lv' := [(0, .ref 0), (1, .int w)]) (st' := [.int (-2)]) (z' := z) rfl trivial ?_
    subst xhQ
    exact ww_iret xCC okX6_letGo 7 xhr rfl rfl ⟨_, rfl, ⟨(by unfold sLetGo; rw [if_neg (by omega)]), rfl⟩⟩

set_option maxHeartbeats 4000000 in
set_option maxRecDepth 20000 in
theorem t_X6_lowest (l : Launch) (d : Nat) (a b u : Nat) (ha : a < 2 ^ 31) (hb : b < 2 ^ 31) (hb0 : 0 < b) (hu : u < 2 ^ 31) (z : xMem) : XMl l d yX6_lowest cX6_lowest 11 (some .long) [] [.long (lN a), .long (lN b), .int (nI u)] z (fun v _ => v = lN (sLow a b u)) := by
  refine XM.of (by decide) (Nat.le_of_ble_eq_true rfl) (fun xp xe xs xm xar xbl xme xc xD xcs xad xAA xCC xhr => ?_)
  generalize xhQ : MQ xbl _ xar xs 0 0 xAA = xQ
  show ww xp l xe (xRm d) xs xm xar xbl xme xc 11 xD xcs xad [] xAA xQ 0 [(0, .long (lN a)), (2, .long (lN b)), (4, .int (nI u))] [] z
  refine ww_blk xCC okX6_lowest 0 4 (ps := []) (pc' := 6) (lv' := [(7, .long (lN b)), (5, .long (lN a)), (0, .long (lN a)), (2, .long (lN b)), (4, .int (nI u))]) (st' := []) (z' := z) rfl trivial ?_
  have L6 : ∀ (n6 : Nat) (p : Nat) (q : Nat), q < n6 → (Nat.gcd p q = Nat.gcd a b) → (p < 2 ^ 31) → (q < 2 ^ 31) → ww xp l xe (xRm d) xs xm xar xbl xme xc 11 xD xcs xad [] xAA xQ 6 [(7, .long (lN q)), (5, .long (lN p)), (4, .int (nI u)), (2, .long (lN b)), (0, .long (lN a))] [] z := by
    intro n6
    induction n6 with
    | zero =>
      intro p q hmu6
      exact absurd hmu6 (Nat.not_lt_zero _)
    | succ n6 ih6 =>
      intro p q hmu6 e6_0 e6_1 e6_2
      refine ww_blk xCC okX6_lowest 4 3 (ps := []) (pc' := 10) (lv' := [(7, .long (lN q)), (5, .long (lN p)), (4, .int (nI u)), (2, .long (lN b)), (0, .long (lN a))]) (st' := [.int (lg_cmp (lN q) 0)]) (z' := z) rfl trivial ?_
      refine ww_br xCC okX6_lowest 7 (P := (lg_cmp (lN q) 0) = 0) (t1 := 31) (t2 := 13) (r := []) rfl (fun c1 => ?_) (fun c1 => ?_)
      · skip
        have h10 : q = 0 := (lN_z e6_2).mp c1
        have hpg : p = Nat.gcd a b := by rw [h10, Nat.gcd_zero_right] at e6_0; exact e6_0
        have hp9 : 0 < p := by rw [hpg]; exact Nat.gcd_pos_of_pos_right a hb0
        have hp0 : ¬ lN p = 0 := fun w => absurd ((lN_z e6_1).mp ((lg_cmp_eq _ _).mpr w)) (by omega)
        refine ww_blk xCC okX6_lowest 17 1 (ps := []) (pc' := 33) (lv' := [(7, .long (lN q)), (5, .long (lN p)), (4, .int (nI u)), (2, .long (lN b)), (0, .long (lN a))]) (st' := [.int (nI u)]) (z' := z) rfl trivial ?_
        refine ww_br xCC okX6_lowest 18 (P := (nI u) = 0) (t1 := 36) (t2 := 43) (r := []) rfl (fun c2 => ?_) (fun c2 => ?_)
        · skip
          replace c2 : u = 0 := (sEQ (a := u) (b := 0) (by omega) (by omega)).mp c2
          refine ww_blk xCC okX6_lowest 19 4 (ps := [¬ (lN p) = 0]) (pc' := 47) (lv' := [(7, .long (lN q)), (5, .long (lN p)), (4, .int (nI u)), (2, .long (lN b)), (0, .long (lN a))]) (st' := [.long ((lN a) / (lN p))]) (z' := z) rfl (by assumption) ?_
          rw [show lN a / lN p = lN (a / p) from pk_lDiv (by omega) (by omega) (by omega)]
          subst xhQ
          exact ww_lret xCC okX6_lowest 26 xhr rfl ⟨_, rfl, (by unfold sLow; rw [← hpg]; grind)⟩
        · skip
          replace c2 : ¬ u = 0 := fun q => c2 ((sEQ (a := u) (b := 0) (by omega) (by omega)).mpr q)
          refine ww_blk xCC okX6_lowest 23 3 (ps := [¬ (lN p) = 0]) (pc' := 47) (lv' := [(7, .long (lN q)), (5, .long (lN p)), (4, .int (nI u)), (2, .long (lN b)), (0, .long (lN a))]) (st' := [.long ((lN b) / (lN p))]) (z' := z) rfl (by assumption) ?_
          rw [show lN b / lN p = lN (b / p) from pk_lDiv (by omega) (by omega) (by omega)]
          subst xhQ
          exact ww_lret xCC okX6_lowest 26 xhr rfl ⟨_, rfl, (by unfold sLow; rw [← hpg]; grind)⟩
      · skip
        have h10 : ¬ q = 0 := fun w => c1 ((lN_z e6_2).mpr w)
        have hq0 : ¬ lN q = 0 := fun w => h10 ((lN_z e6_2).mp ((lg_cmp_eq _ _).mpr w))
        refine ww_blk xCC okX6_lowest 8 9 (ps := [¬ (lN q) = 0]) (pc' := 6) (lv' := [(7, .long ((lN p) - (lN p) / (lN q) * (lN q))), (5, .long (lN q)), (9, .long ((lN p) - (lN p) / (lN q) * (lN q))), (4, .int (nI u)), (2, .long (lN b)), (0, .long (lN a))]) (st' := []) (z' := z) rfl (by assumption) ?_
        rw [show lN p - lN p / lN q * lN q = lN (p % q) from pk_lRem (by omega) (by omega) (by omega)]
        exact ww_cut [0, 1, 3, 4, 5] (xlc rfl (xlc rfl (xlc rfl (xlc rfl (xlc rfl rfl))))) rfl rfl (ih6 q (p % q) (by have := Nat.mod_lt p (show q > 0 by omega); omega) (by rw [Nat.gcd_comm q, ← Nat.gcd_rec, Nat.gcd_comm]; exact e6_0) (by omega) (by have := Nat.mod_lt p (show q > 0 by omega); omega))
  exact ww_cut [0, 1, 4, 3, 2] (xlc rfl (xlc rfl (xlc rfl (xlc rfl (xlc rfl rfl))))) rfl rfl (L6 (b + 1) a b (Nat.lt_succ_self _) rfl ha hb)

set_option maxHeartbeats 4000000 in
set_option maxRecDepth 20000 in
theorem t_X6_share (l : Launch) (d : Nat) (w : Int32) (z : xMem) (r : sR) (cnt : Nat) (hr : RM z r) (hw : sW r cnt) : XMl l (d + 1) yX6_share cX6_share 2 (some .long) shM [.ref 0, .int w] z (fun v z' => v = sShare r w ∧ z' = z) := by
  refine XM.of (by decide) (Nat.le_of_ble_eq_true rfl) (fun xp xe xs xm xar xbl xme xc xD xcs xad xAA xCC xhr => ?_)
  generalize xhQ : MQ xbl _ xar xs 0 0 xAA = xQ
  show ww xp l xe (xRm (d + 1)) xs xm xar xbl xme xc 2 xD xcs xad shM xAA xQ 0 [(0, .ref 0), (1, .int w)] [] z
  have hb := hw.1
  have h70 := hw.2.1
  have hA8 := sAl_lt (r 0) 8
  have hP1 := sPop_le (r 7 0) (by omega)
  have hP2 := sPop_le (sAl (r 0) 8) (by omega)
  refine ww_blk xCC okX6_share 0 4 (ps := []) (pc' := 4) (lv' := [(0, .ref 0), (1, .int w)]) (st' := [.long 1, .long 0, .long w.toInt64]) (z' := z) rfl trivial ?_
  refine ww_callSNz xCC okX6_share 4 (ix := 82) (t_X6_in l d w.toInt64 0 1 w.toInt 0 1 (Int32.toInt_toInt64 _) rfl rfl  _) (by omega) (by decide) xyX6_in xiX6_in (Or.inl (lw_gt_of (List.mem_of_getElem? (i := 962) (by decide +kernel)) rfl)) rfl (rest := []) rfl (Nat.le_of_ble_eq_true rfl) rfl (fun z1 h2 => ?_) (fun z1 h2 => ?_)
  · skip
    have h2 : 0 ≤ w.toInt ∧ w.toInt ≤ 1 := h2
    obtain ⟨u, hu, rfl⟩ := sNN (x := w) (n := 2) (by omega) (by omega)
    refine ww_br xCC okX6_share 5 (P := 1 = 0) (t1 := 40) (t2 := 10) (r := []) rfl (fun q => absurd q (by decide)) (fun _ => ?_)
    refine ww_blk xCC okX6_share 6 1 (ps := []) (pc' := 11) (lv' := [(0, .ref 0), (1, .int (nI u))]) (st' := [.ref 0]) (z' := z) rfl trivial ?_
    refine ww_callVIi xCC okX6_share 7 (ix := 119) (t_X6_alive l d z (r 0) hr.1 (fun j => Nat.lt_of_le_of_lt (hb j).1 (by decide))) (by omega) (by decide) xyX6_alive xiX6_alive (Or.inl (lw_gt_of (List.mem_of_getElem? (i := 1007) (by decide +kernel)) rfl)) rfl rfl rfl (rest := []) rfl (Nat.le_of_ble_eq_true rfl) rfl (fun v6 z4 h5 => ?_)
    rw [h5.1, h5.2]
    refine ww_br xCC okX6_share 8 (P := (nI (sAl (r 0) 8)) = 0) (t1 := 40) (t2 := 17) (r := []) rfl (fun c7 => ?_) (fun c7 => ?_)
    · skip
      replace c7 : (sAl (r 0) 8) = 0 := (sEQ (a := (sAl (r 0) 8)) (b := 0) (by omega) (by omega)).mp c7
      have h14 := c7
      refine ww_blk xCC okX6_share 20 1 (ps := []) (pc' := 43) (lv' := [(0, .ref 0), (1, .int (nI u))]) (st' := [.long (-4611686018427387904)]) (z' := z) rfl trivial ?_
      subst xhQ
      exact ww_lret xCC okX6_share 21 xhr rfl ⟨_, rfl, ⟨(by unfold sShare; first | rw [if_neg (by omega)] | (rw [sTI (k := u) (by omega), if_pos ⟨by omega, by omega, h14⟩]; rfl)), rfl⟩⟩
    · skip
      replace c7 : ¬ (sAl (r 0) 8) = 0 := fun q => c7 ((sEQ (a := (sAl (r 0) 8)) (b := 0) (by omega) (by omega)).mpr q)
      have h14 := c7
      refine ww_blk xCC okX6_share 9 2 (ps := []) (pc' := 21) (lv' := [(0, .ref 0), (1, .int (nI u))]) (st' := [.int (z.1 0 9)]) (z' := z) rfl trivial ?_
      rw [hr.2.2.2.2.2.2.2.1]
      refine ww_callSNi xCC okX6_share 11 (ix := 255) (t_X6_bitsOf l d (r 7 0) (by omega) _) (by omega) (by decide) xyX6_bitsOf xiX6_bitsOf (Or.inl (lw_gt_of (List.mem_of_getElem? (i := 1004) (by decide +kernel)) rfl)) rfl (rest := []) rfl (Nat.le_of_ble_eq_true rfl) rfl (fun v10 z8 h9 => ?_)
      rw [h9]
      refine ww_blk xCC okX6_share 12 2 (ps := []) (pc' := 26) (lv' := [(0, .ref 0), (1, .int (nI u))]) (st' := [.ref 0, .long ((nI (sPop (r 7 0))).toInt64)]) (z' := z) rfl trivial ?_
      rw [nI_l (n := (sPop (r 7 0))) (by omega)]
      refine ww_callVIi xCC okX6_share 14 (ix := 119) (t_X6_alive l d z (r 0) hr.1 (fun j => Nat.lt_of_le_of_lt (hb j).1 (by decide))) (by omega) (by decide) xyX6_alive xiX6_alive (Or.inl (lw_gt_of (List.mem_of_getElem? (i := 1007) (by decide +kernel)) rfl)) rfl rfl rfl (rest := [.long (lN (sPop (r 7 0)))]) rfl (Nat.le_of_ble_eq_true rfl) rfl (fun v13 z11 h12 => ?_)
      rw [h12.1, h12.2]
      refine ww_callSNi xCC okX6_share 15 (ix := 255) (t_X6_bitsOf l d (sAl (r 0) 8) (by omega) _) (by omega) (by decide) xyX6_bitsOf xiX6_bitsOf (Or.inl (lw_gt_of (List.mem_of_getElem? (i := 1004) (by decide +kernel)) rfl)) rfl (rest := [.long (lN (sPop (r 7 0)))]) rfl (Nat.le_of_ble_eq_true rfl) rfl (fun v16 z14 h15 => ?_)
      rw [h15]
      refine ww_blk xCC okX6_share 16 2 (ps := []) (pc' := 34) (lv' := [(0, .ref 0), (1, .int (nI u))]) (st' := [.int (nI u), .long ((nI (sPop (sAl (r 0) 8))).toInt64), .long (lN (sPop (r 7 0)))]) (z' := z) rfl trivial ?_
      rw [nI_l (n := (sPop (sAl (r 0) 8))) (by omega)]
      refine ww_callSNl xCC okX6_share 18 (ix := 328) (t_X6_lowest l d (sPop (r 7 0)) (sPop (sAl (r 0) 8)) u (by omega) (by omega) (Nat.pos_of_ne_zero (sPop_ne (by omega) h14)) (by omega) _) (by omega) (by decide) xyX6_lowest xiX6_lowest (Or.inl (lw_gt_of (List.mem_of_getElem? (i := 1204) (by decide +kernel)) rfl)) rfl (rest := []) rfl (Nat.le_of_ble_eq_true rfl) rfl (fun v19 z17 h18 => ?_)
      rw [h18]
      refine ww_blk xCC okX6_share 19 1 (ps := []) (pc' := 43) (lv' := [(0, .ref 0), (1, .int (nI u))]) (st' := [.long (lN (sLow (sPop (r 7 0)) (sPop (sAl (r 0) 8)) u))]) (z' := z) rfl trivial ?_
      subst xhQ
      exact ww_lret xCC okX6_share 21 xhr rfl ⟨_, rfl, ⟨(by unfold sShare; first | rw [if_neg (by omega)] | (rw [sTI (k := u) (by omega), if_pos ⟨by omega, by omega, h14⟩]; rfl)), rfl⟩⟩
  · skip
    have h2 : ¬ (0 ≤ w.toInt ∧ w.toInt ≤ 1) := h2
    refine ww_br xCC okX6_share 5 (P := 0 = 0) (t1 := 40) (t2 := 10) (r := []) rfl (fun _ => ?_) (fun q => absurd (by decide) q)
    refine ww_blk xCC okX6_share 20 1 (ps := []) (pc' := 43) (lv' := [(0, .ref 0), (1, .int w)]) (st' := [.long (-4611686018427387904)]) (z' := z) rfl trivial ?_
    subst xhQ
    exact ww_lret xCC okX6_share 21 xhr rfl ⟨_, rfl, ⟨(by unfold sShare; first | rw [if_neg (by omega)] | (rw [sTI (k := u) (by omega), if_pos ⟨by omega, by omega, h14⟩]; rfl)), rfl⟩⟩
