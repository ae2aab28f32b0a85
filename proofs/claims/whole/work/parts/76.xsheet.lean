/-! the class's sheet -/
theorem sBec {n : Nat} (h : n ≤ 40) : (if 0 < (if nI n < 40 then nI n else 40) then (if nI n < 40 then nI n else 40) else 0) = nI n := by
  have e : (if nI n < 40 then nI n else 40) = nI n := (sMinN (x := n) (b := 40) (by omega) (by decide)).trans (by rw [Nat.min_eq_right h])
  rw [e]
  by_cases q : n = 0
  · rw [q]; decide
  · rw [if_pos (show (0 : Int32) < nI n from nI_lt (a := 0) (b := n) (by omega) (by omega))]
def SHx (z : xMem) (y : Int32) (n i : Nat) : Prop := z.1 0 0 = y ∧ z.1 0 1 = nI n ∧ ∀ j, j < i → z.1 1 j = 0
theorem SHx_1 {z : xMem} {y : Int32} {n i : Nat} (h : SHx z y n i) : SHx (mPut z 1 i 0) y n (i + 1) :=
  ⟨(congrFun (mPut_nq (by decide)) 0).trans h.1, (congrFun (mPut_nq (by decide)) 1).trans h.2.1, fun j hj => by
    by_cases e : j = i
    · rw [e]; exact mPut_at
    · rw [mPut_nj e]; exact h.2.2 j (by omega)⟩
set_option maxHeartbeats 4000000 in
set_option maxRecDepth 20000 in
theorem t_X2_become (l : Launch) (d : Nat) (y : Int32) (n : Nat) (hn : n ≤ 40) (z : xMem) : XMv l d yX2_become cX2_become 4 none shS [.ref 0, .int y, .int (nI n)] z (fun z' => z'.1 0 0 = y ∧ z'.1 0 1 = nI n ∧ ∀ j, j < 40 → z'.1 1 j = 0) := by
  refine XM.of (by decide) (Nat.le_of_ble_eq_true rfl) (fun xp xe xs xm xar xbl xme xc xD xcs xad xAA xCC xhr => ?_)
  generalize xhQ : MQ xbl _ xar xs 0 0 xAA = xQ
  show ww xp l xe (xRm d) xs xm xar xbl xme xc 4 xD xcs xad shS xAA xQ 0 [(0, .ref 0), (1, .int y), (2, .int (nI n))] [] z
  refine ww_blk xCC okX2_become 0 12 (ps := []) (pc' := 21) (lv' := [(3, .int 0), (0, .ref 0), (1, .int y), (2, .int (nI n))]) (st' := []) (z' := (mPut (mPut z 0 0 y) 0 1 (if 0 < (if (nI n) < 40 then (nI n) else 40) then (if (nI n) < 40 then (nI n) else 40) else 0))) rfl trivial ?_
  rw [sBec (n := n) (by omega)]
  have L21 : ∀ (n21 : Nat) (i : Nat) (zL : xMem), 40 - i < n21 → (i ≤ 40) → (SHx zL y n i) → ww xp l xe (xRm d) xs xm xar xbl xme xc 4 xD xcs xad shS xAA xQ 21 [(3, .int (nI i)), (0, .ref 0)] [] zL := by
    intro n21
    induction n21 with
    | zero =>
      intro i zL hmu21
      exact absurd hmu21 (Nat.not_lt_zero _)
    | succ n21 ih21 =>
      intro i zL hmu21 e21_0 e21_1
      refine ww_blk xCC okX2_become 12 2 (ps := []) (pc' := 24) (lv' := [(3, .int (nI i)), (0, .ref 0)]) (st' := [.int 40, .int (nI i)]) (z' := zL) rfl trivial ?_
      refine ww_br xCC okX2_become 14 (P := 40 ≤ (nI i)) (t1 := 40) (t2 := 27) (r := []) rfl (fun c1 => ?_) (fun c1 => ?_)
      · skip
        replace c1 : 40 ≤ i := (sLE (a := 40) (b := i) (by omega) (by omega)).mp c1
        subst xhQ
        exact ww_vret xCC okX2_become 22 xhr rfl ⟨rfl, ⟨e21_1.1, e21_1.2.1, fun j hj => e21_1.2.2 j (by omega)⟩⟩
      · skip
        replace c1 : ¬ 40 ≤ i := fun q => c1 ((sLE (a := 40) (b := i) (by omega) (by omega)).mpr q)
        refine ww_blk xCC okX2_become 15 7 (ps := [vp_in (nI i) 40]) (pc' := 21) (lv' := [(3, .int ((nI i) + 1)), (0, .ref 0)]) (st' := []) (z' := (mPut zL 1 (nI i).toNatClampNeg 0)) rfl (vp_in_nI (by omega) (by decide)) ?_
        rw [show nI i + (1 : Int32) = nI (i + 1) from nI_add i 1]
        rw [sCL (n := i) (by omega)]
        exact ww_cut [0, 1] (xlc rfl (xlc rfl rfl)) rfl rfl (ih21 (i + 1) (mPut zL 1 i 0) (by omega) (by omega) (SHx_1 e21_1))
  exact ww_cut [0, 1] (xlc (congrArg Value.int (show (0 : Int32) = nI 0 from rfl)) (xlc rfl rfl)) rfl rfl (L21 (40 - 0 + 1) 0 (mPut (mPut z 0 0 y) 0 1 (nI n)) (Nat.lt_succ_self _) (by omega) ⟨rfl, rfl, fun j hj => absurd hj (Nat.not_lt_zero j)⟩)

set_option maxHeartbeats 4000000 in
set_option maxRecDepth 20000 in
theorem t_X2_has (l : Launch) (d : Nat) (x y : Int32) (m : Nat) (z : xMem) (hm : m ≤ 40) (h1 : z.1 0 1 = nI m) : XMz l d yX2_has cX2_has 3 (some .boolean) shS [.ref 0, .int x, .int y] z (fun z' => (0 ≤ x.toInt ∧ 0 ≤ y.toInt ∧ x.toInt + y.toInt ≤ m) ∧ z' = z) (fun z' => ¬ (0 ≤ x.toInt ∧ 0 ≤ y.toInt ∧ x.toInt + y.toInt ≤ m) ∧ z' = z) := by
  refine XM.of (by decide) (Nat.le_of_ble_eq_true rfl) (fun xp xe xs xm xar xbl xme xc xD xcs xad xAA xCC xhr => ?_)
  generalize xhQ : MQ xbl _ xar xs 0 0 xAA = xQ
  show ww xp l xe (xRm d) xs xm xar xbl xme xc 3 xD xcs xad shS xAA xQ 0 [(0, .ref 0), (1, .int x), (2, .int y)] [] z
  refine ww_blk xCC okX2_has 0 1 (ps := []) (pc' := 1) (lv' := [(0, .ref 0), (1, .int x), (2, .int y)]) (st' := [.int x]) (z' := z) rfl trivial ?_
  refine ww_br xCC okX2_has 1 (P := x < 0) (t1 := 30) (t2 := 4) (r := []) rfl (fun c1 => ?_) (fun c1 => ?_)
  · skip
    have hx0 : x.toInt < 0 := sL0.mp c1
    refine ww_blk xCC okX2_has 16 1 (ps := []) (pc' := 31) (lv' := [(0, .ref 0), (1, .int x), (2, .int y)]) (st' := [.int 0]) (z' := z) rfl trivial ?_
    subst xhQ
    exact ww_iret xCC okX2_has 17 xhr rfl (by decide) (Or.inr ⟨rfl, ⟨(by omega), rfl⟩⟩)
  · skip
    have hx0 : ¬ x.toInt < 0 := fun q => c1 (sL0.mpr q)
    obtain ⟨a, ha31, rfl⟩ := sNN31 hx0
    refine ww_blk xCC okX2_has 2 1 (ps := []) (pc' := 5) (lv' := [(0, .ref 0), (1, .int (nI a)), (2, .int y)]) (st' := [.int y]) (z' := z) rfl trivial ?_
    refine ww_br xCC okX2_has 3 (P := y < 0) (t1 := 30) (t2 := 8) (r := []) rfl (fun c2 => ?_) (fun c2 => ?_)
    · skip
      have hy0 : y.toInt < 0 := sL0.mp c2
      refine ww_blk xCC okX2_has 16 1 (ps := []) (pc' := 31) (lv' := [(0, .ref 0), (1, .int (nI a)), (2, .int y)]) (st' := [.int 0]) (z' := z) rfl trivial ?_
      subst xhQ
      exact ww_iret xCC okX2_has 17 xhr rfl (by decide) (Or.inr ⟨rfl, ⟨(by rw [sTI (k := a) (by omega)]; omega), rfl⟩⟩)
    · skip
      have hy0 : ¬ y.toInt < 0 := fun q => c2 (sL0.mpr q)
      obtain ⟨b, hb31, rfl⟩ := sNN31 hy0
      refine ww_blk xCC okX2_has 4 3 (ps := []) (pc' := 13) (lv' := [(0, .ref 0), (1, .int (nI a)), (2, .int (nI b))]) (st' := [.int (z.1 0 1), .int (nI a)]) (z' := z) rfl trivial ?_
      rw [h1]
      refine ww_br xCC okX2_has 7 (P := (nI m) < (nI a)) (t1 := 30) (t2 := 16) (r := []) rfl (fun c3 => ?_) (fun c3 => ?_)
      · skip
        replace c3 : m < a := (sLT (a := m) (b := a) (by omega) (by omega)).mp c3
        refine ww_blk xCC okX2_has 16 1 (ps := []) (pc' := 31) (lv' := [(0, .ref 0), (1, .int (nI a)), (2, .int (nI b))]) (st' := [.int 0]) (z' := z) rfl trivial ?_
        subst xhQ
        exact ww_iret xCC okX2_has 17 xhr rfl (by decide) (Or.inr ⟨rfl, ⟨(by rw [sTI (k := a) (by omega)]; rw [sTI (k := b) (by omega)]; omega), rfl⟩⟩)
      · skip
        replace c3 : ¬ m < a := fun q => c3 ((sLT (a := m) (b := a) (by omega) (by omega)).mpr q)
        refine ww_blk xCC okX2_has 8 5 (ps := []) (pc' := 23) (lv' := [(0, .ref 0), (1, .int (nI a)), (2, .int (nI b))]) (st' := [.int ((z.1 0 1) - (nI a)), .int (nI b)]) (z' := z) rfl trivial ?_
        rw [h1]
        refine ww_br xCC okX2_has 13 (P := ((nI m) - (nI a)) < (nI b)) (t1 := 30) (t2 := 26) (r := []) rfl (fun c4 => ?_) (fun c4 => ?_)
        · skip
          have hc : ¬ b + a ≤ m := fun q => absurd c4 (sSubG (n := m) (m := a) (i := b) (by omega) (by omega) (by omega) q)
          refine ww_blk xCC okX2_has 16 1 (ps := []) (pc' := 31) (lv' := [(0, .ref 0), (1, .int (nI a)), (2, .int (nI b))]) (st' := [.int 0]) (z' := z) rfl trivial ?_
          subst xhQ
          exact ww_iret xCC okX2_has 17 xhr rfl (by decide) (Or.inr ⟨rfl, ⟨(by rw [sTI (k := a) (by omega)]; rw [sTI (k := b) (by omega)]; omega), rfl⟩⟩)
        · skip
          have hc := sSubL (n := m) (m := a) (i := b) (by omega) (by omega) (by omega) c4
          refine ww_blk xCC okX2_has 14 2 (ps := []) (pc' := 31) (lv' := [(0, .ref 0), (1, .int (nI a)), (2, .int (nI b))]) (st' := [.int 1]) (z' := z) rfl trivial ?_
          subst xhQ
          exact ww_iret xCC okX2_has 17 xhr rfl (by decide) (Or.inl ⟨rfl, ⟨(by rw [sTI (k := a) (by omega)]; rw [sTI (k := b) (by omega)]; omega), rfl⟩⟩)

set_option maxHeartbeats 4000000 in
set_option maxRecDepth 20000 in
theorem t_X2_put (l : Launch) (d : Nat) (i k : Nat) (v : Int32) (m : Nat) (z : xMem) (hm : m ≤ 40) (h1 : z.1 0 1 = nI m) (h0 : z.1 0 0 = nI k) (hk : k ≤ 2) (hi : i < m) : XMv l (d + 1) yX2_put cX2_put 3 none shS [.ref 0, .int (nI i), .int v] z (fun z' => z' = mPut z 1 i (sNar k v)) := by
  refine XM.of (by decide) (Nat.le_of_ble_eq_true rfl) (fun xp xe xs xm xar xbl xme xc xD xcs xad xAA xCC xhr => ?_)
  generalize xhQ : MQ xbl _ xar xs 0 0 xAA = xQ
  show ww xp l xe (xRm (d + 1)) xs xm xar xbl xme xc 3 xD xcs xad shS xAA xQ 0 [(0, .ref 0), (1, .int (nI i)), (2, .int v)] [] z
  refine ww_blk xCC okX2_put 0 3 (ps := []) (pc' := 3) (lv' := [(0, .ref 0), (1, .int (nI i)), (2, .int v)]) (st' := [.int 1, .int (nI i), .ref 0]) (z' := z) rfl trivial ?_
  refine ww_callVIz xCC okX2_put 3 (ix := 31) (t_X2_has l d (nI i) 1 m z hm h1) (by omega) (by decide) xyX2_has xiX2_has (Or.inl (lw_gt_of (List.mem_of_getElem? (i := 735) (by decide +kernel)) rfl)) rfl rfl rfl (rest := []) rfl (Nat.le_of_ble_eq_true rfl) rfl (fun z1 h2 => ?_) (fun z1 h2 => ?_)
  · skip
    rw [h2.2]
    have hh := h2.1
    refine ww_br xCC okX2_put 4 (P := 1 = 0) (t1 := 9) (t2 := 10) (r := []) rfl (fun q => absurd q (by decide)) (fun _ => ?_)
    refine ww_blk xCC okX2_put 6 5 (ps := []) (pc' := 19) (lv' := [(0, .ref 0), (1, .int (nI i)), (2, .int v)]) (st' := [.int (z.1 0 0), .int (nI i), .ref 1]) (z' := z) rfl trivial ?_
    rw [h0]
    refine ww_br xCC okX2_put 11 (P := (nI k) = 0) (t1 := 22) (t2 := 27) (r := [.int (nI i), .ref 1]) rfl (fun c4 => ?_) (fun c4 => ?_)
    · skip
      replace c4 : k = 0 := (sEQ (a := k) (b := 0) (by omega) (by omega)).mp c4
      refine ww_blk xCC okX2_put 12 3 (ps := []) (pc' := 41) (lv' := [(0, .ref 0), (1, .int (nI i)), (2, .int v)]) (st' := [.int v.toInt8.toInt32, .int (nI i), .ref 1]) (z' := z) rfl trivial ?_
      refine ww_blk xCC okX2_put 23 1 (ps := [vp_in (nI i) 40]) (pc' := 42) (lv' := [(0, .ref 0), (1, .int (nI i)), (2, .int v)]) (st' := []) (z' := (mPut z 1 (nI i).toNatClampNeg v.toInt8.toInt32)) rfl (vp_in_nI (by omega) (by decide)) ?_
      rw [sCL (n := i) (by omega)]
      subst xhQ
      exact ww_vret xCC okX2_put 24 xhr rfl ⟨rfl, (by unfold sNar; rw [if_pos (by omega)])⟩
    · skip
      replace c4 : ¬ k = 0 := fun q => c4 ((sEQ (a := k) (b := 0) (by omega) (by omega)).mpr q)
      refine ww_blk xCC okX2_put 15 3 (ps := []) (pc' := 32) (lv' := [(0, .ref 0), (1, .int (nI i)), (2, .int v)]) (st' := [.int 1, .int (z.1 0 0), .int (nI i), .ref 1]) (z' := z) rfl trivial ?_
      rw [h0]
      refine ww_br xCC okX2_put 18 (P := (nI k) = 1) (t1 := 35) (t2 := 40) (r := [.int (nI i), .ref 1]) rfl (fun c5 => ?_) (fun c5 => ?_)
      · skip
        replace c5 : k = 1 := (sEQ (a := k) (b := 1) (by omega) (by omega)).mp c5
        refine ww_blk xCC okX2_put 19 3 (ps := []) (pc' := 41) (lv' := [(0, .ref 0), (1, .int (nI i)), (2, .int v)]) (st' := [.int v.toInt16.toInt32, .int (nI i), .ref 1]) (z' := z) rfl trivial ?_
        refine ww_blk xCC okX2_put 23 1 (ps := [vp_in (nI i) 40]) (pc' := 42) (lv' := [(0, .ref 0), (1, .int (nI i)), (2, .int v)]) (st' := []) (z' := (mPut z 1 (nI i).toNatClampNeg v.toInt16.toInt32)) rfl (vp_in_nI (by omega) (by decide)) ?_
        rw [sCL (n := i) (by omega)]
        subst xhQ
        exact ww_vret xCC okX2_put 24 xhr rfl ⟨rfl, (by unfold sNar; rw [if_neg (by omega), if_pos (by omega)])⟩
      · skip
        replace c5 : ¬ k = 1 := fun q => c5 ((sEQ (a := k) (b := 1) (by omega) (by omega)).mpr q)
        refine ww_blk xCC okX2_put 22 2 (ps := [vp_in (nI i) 40]) (pc' := 42) (lv' := [(0, .ref 0), (1, .int (nI i)), (2, .int v)]) (st' := []) (z' := (mPut z 1 (nI i).toNatClampNeg v)) rfl (vp_in_nI (by omega) (by decide)) ?_
        rw [sCL (n := i) (by omega)]
        subst xhQ
        exact ww_vret xCC okX2_put 24 xhr rfl ⟨rfl, (by unfold sNar; rw [if_neg (by omega), if_neg (by omega)])⟩
  · skip
    rw [h2.2]
    have hh := h2.1
    refine ww_br xCC okX2_put 4 (P := 0 = 0) (t1 := 9) (t2 := 10) (r := []) rfl (fun _ => ?_) (fun q => absurd (by decide) q)
    subst xhQ
    exact ww_vret xCC okX2_put 5 xhr rfl ⟨rfl, (absurd ⟨by rw [sTI (k := i) (by omega)]; omega, by decide, by rw [sTI (k := i) (by omega), show (1 : Int32).toInt = 1 from rfl]; omega⟩ hh)⟩
