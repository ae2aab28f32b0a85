/-! the model's laysAside, laysBack -/
theorem vp_in_16 {i : Nat} (h : i < 8) : vp_in (16 + nI i) 27 := by
  rw [show (16 : Int32) + nI i = nI (16 + i) from nI_add 16 i]
  exact vp_in_nI (by omega) (by decide)
def WA (z z' : xMem) (i : Nat) : Prop := (∀ q, q ≠ 8 → z'.1 q = z.1 q) ∧ ∀ j, j < i → z'.1 8 j = z.1 7 j
theorem WA_0 (z : xMem) : WA z z 0 := ⟨fun _ _ => rfl, fun j h => absurd h (Nat.not_lt_zero j)⟩
theorem mPut_nq {z : xMem} {q j q' : Nat} {x : Int32} (h : q' ≠ q) : (mPut z q j x).1 q' = z.1 q' := by
  funext k
  rw [mPut_rd, if_neg h]
theorem mPut_at {z : xMem} {q j : Nat} {x : Int32} : (mPut z q j x).1 q j = x := by rw [mPut_rd, if_pos rfl, if_pos rfl]
theorem WA_1 {z b : xMem} {i : Nat} (h : WA z b i) : WA z (mPut b 8 i (z.1 7 i)) (i + 1) := by
  refine ⟨fun q hq => (mPut_nq hq).trans (h.1 q hq), fun j hj => ?_⟩
  by_cases e : j = i
  · subst e; exact mPut_at
  · rw [mPut_nj e]; exact h.2 j (by omega)
def WB (z z' : xMem) (i : Nat) : Prop := (∀ q, q ≠ 8 → z'.1 q = z.1 q) ∧ (∀ j, j < 16 → z'.1 8 j = z.1 7 j) ∧ ∀ j, j < i → z'.1 8 (16 + j) = z.1 4 j
theorem WB_0 {z b : xMem} {i : Nat} (h : WA z b i) (hi : 16 ≤ i) : WB z b 0 := ⟨h.1, fun j hj => h.2 j (by omega), fun j h => absurd h (Nat.not_lt_zero j)⟩
theorem WB_1 {z b : xMem} {i : Nat} (h : WB z b i) : WB z (mPut b 8 (16 + i) (z.1 4 i)) (i + 1) := by
  refine ⟨fun q hq => (mPut_nq hq).trans (h.1 q hq), fun j hj => ?_, fun j hj => ?_⟩
  · rw [mPut_nj (by omega)]; exact h.2.1 j hj
  by_cases e : j = i
  · subst e; exact mPut_at
  · rw [mPut_nj (by omega)]; exact h.2.2 j (by omega)
def WC (z z' : xMem) : Prop := (∀ q, q ≠ 8 → z'.1 q = z.1 q) ∧ (∀ j, j < 16 → z'.1 8 j = z.1 7 j) ∧ (∀ j, j < 8 → z'.1 8 (16 + j) = z.1 4 j) ∧ z'.1 8 24 = z.1 0 8 ∧ z'.1 8 25 = z.1 0 9 ∧ z'.1 8 26 = z.1 0 10
theorem WC_of {z b : xMem} {i : Nat} (h : WB z b i) (hi : 8 ≤ i) : WC z (mPut (mPut (mPut b 8 24 (b.1 0 8)) 8 25 (b.1 0 9)) 8 26 (b.1 0 10)) := by
  refine ⟨fun q hq => ?_, fun j hj => ?_, fun j hj => ?_, ?_, ?_, ?_⟩
  · rw [mPut_nq hq, mPut_nq hq, mPut_nq hq]; exact h.1 q hq
  · rw [mPut_nj (by omega), mPut_nj (by omega), mPut_nj (by omega)]; exact h.2.1 j hj
  · rw [mPut_nj (by omega), mPut_nj (by omega), mPut_nj (by omega)]; exact h.2.2 j (by omega)
  · rw [mPut_nj (by omega), mPut_nj (by omega), mPut_at, h.1 0 (by decide)]
  · rw [mPut_nj (by omega), mPut_at, h.1 0 (by decide)]
  · rw [mPut_at, h.1 0 (by decide)]
set_option maxHeartbeats 4000000 in
set_option maxRecDepth 20000 in
theorem t_X6_laysAside (l : Launch) (d : Nat) (z : xMem) : XMv l d yX6_laysAside cX6_laysAside 2 none shM [.ref 0] z (fun z' => WC z z') := by
  refine XM.of (by decide) (Nat.le_of_ble_eq_true rfl) (fun xp xe xs xm xar xbl xme xc xD xcs xad xAA xCC xhr => ?_)
  generalize xhQ : MQ xbl _ xar xs 0 0 xAA = xQ
  show ww xp l xe (xRm d) xs xm xar xbl xme xc 2 xD xcs xad shM xAA xQ 0 [(0, .ref 0)] [] z
  refine ww_blk xCC okX6_laysAside 0 2 (ps := []) (pc' := 2) (lv' := [(1, .int 0), (0, .ref 0)]) (st' := []) (z' := z) rfl trivial ?_
  have L2 : ∀ (n2 : Nat) (i : Nat) (zL : xMem), 16 - i < n2 → (i ≤ 16) → (WA z zL i) → ww xp l xe (xRm d) xs xm xar xbl xme xc 2 xD xcs xad shM xAA xQ 2 [(1, .int (nI i)), (0, .ref 0)] [] zL := by
    intro n2
    induction n2 with
    | zero =>
      intro i zL hmu2
      exact absurd hmu2 (Nat.not_lt_zero _)
    | succ n2 ih2 =>
      intro i zL hmu2 e2_0 e2_1
      refine ww_blk xCC okX6_laysAside 2 2 (ps := []) (pc' := 5) (lv' := [(1, .int (nI i)), (0, .ref 0)]) (st' := [.int 16, .int (nI i)]) (z' := zL) rfl trivial ?_
      refine ww_br xCC okX6_laysAside 4 (P := 16 ≤ (nI i)) (t1 := 26) (t2 := 8) (r := []) rfl (fun c1 => ?_) (fun c1 => ?_)
      · skip
        replace c1 : 16 ≤ i := (sLE (a := 16) (b := i) (by omega) (by omega)).mp c1
        refine ww_blk xCC okX6_laysAside 15 2 (ps := []) (pc' := 28) (lv' := [(1, .int 0), (0, .ref 0)]) (st' := []) (z' := zL) rfl trivial ?_
        have L28 : ∀ (n28 : Nat) (i : Nat) (zK : xMem), 8 - i < n28 → (i ≤ 8) → (WB z zK i) → ww xp l xe (xRm d) xs xm xar xbl xme xc 2 xD xcs xad shM xAA xQ 28 [(1, .int (nI i)), (0, .ref 0)] [] zK := by
          intro n28
          induction n28 with
          | zero =>
            intro i zK hmu28
            exact absurd hmu28 (Nat.not_lt_zero _)
          | succ n28 ih28 =>
            intro i zK hmu28 e28_0 e28_1
            refine ww_blk xCC okX6_laysAside 17 2 (ps := []) (pc' := 31) (lv' := [(1, .int (nI i)), (0, .ref 0)]) (st' := [.int 8, .int (nI i)]) (z' := zK) rfl trivial ?_
            refine ww_br xCC okX6_laysAside 19 (P := 8 ≤ (nI i)) (t1 := 55) (t2 := 34) (r := []) rfl (fun c2 => ?_) (fun c2 => ?_)
            · skip
              replace c2 : 8 ≤ i := (sLE (a := 8) (b := i) (by omega) (by omega)).mp c2
              refine ww_blk xCC okX6_laysAside 32 18 (ps := [vp_in 24 27, vp_in 25 27, vp_in 26 27]) (pc' := 88) (lv' := [(1, .int (nI i)), (0, .ref 0)]) (st' := []) (z' := (mPut (mPut (mPut zK 8 24 (zK.1 0 8)) 8 25 (zK.1 0 9)) 8 26 (zK.1 0 10))) rfl ⟨(show vp_in 24 27 from (by unfold vp_in; decide)), (show vp_in 25 27 from (by unfold vp_in; decide)), (show vp_in 26 27 from (by unfold vp_in; decide))⟩ ?_
              subst xhQ
              exact ww_vret xCC okX6_laysAside 50 xhr rfl ⟨rfl, (WC_of e28_1 (by omega))⟩
            · skip
              replace c2 : ¬ 8 ≤ i := fun q => c2 ((sLE (a := 8) (b := i) (by omega) (by omega)).mpr q)
              refine ww_blk xCC okX6_laysAside 20 12 (ps := [vp_in (nI i) 8, vp_in (16 + (nI i)) 27]) (pc' := 28) (lv' := [(1, .int ((nI i) + 1)), (0, .ref 0)]) (st' := []) (z' := (mPut zK 8 (16 + (nI i)).toNatClampNeg (zK.1 4 (nI i).toNatClampNeg))) rfl ⟨(vp_in_nI (by omega) (by decide)), (vp_in_16 (by omega))⟩ ?_
              rw [sCL (n := i) (by omega)]
              rw [show (16 : Int32) + nI i = nI (16 + i) from nI_add 16 i]
              rw [sCL (n := (16 + i)) (by omega)]
              rw [e28_1.1 4 (by decide)]
              exact ww_cut [0, 1] (xlc (congrArg Value.int (show ((nI i) + 1 : Int32) = nI (i + 1) from nI_1 i)) (xlc rfl rfl)) rfl rfl (ih28 (i + 1) (mPut zK 8 (16 + i) (z.1 4 i)) (by omega) (by omega) (WB_1 e28_1))
        exact ww_cut [0, 1] (xlc (congrArg Value.int (show (0 : Int32) = nI 0 from rfl)) (xlc rfl rfl)) rfl rfl (L28 (8 - 0 + 1) 0 zL (Nat.lt_succ_self _) (by omega) (WB_0 e2_1 (by omega)))
      · skip
        replace c1 : ¬ 16 ≤ i := fun q => c1 ((sLE (a := 16) (b := i) (by omega) (by omega)).mpr q)
        refine ww_blk xCC okX6_laysAside 5 10 (ps := [vp_in (nI i) 16, vp_in (nI i) 27]) (pc' := 2) (lv' := [(1, .int ((nI i) + 1)), (0, .ref 0)]) (st' := []) (z' := (mPut zL 8 (nI i).toNatClampNeg (zL.1 7 (nI i).toNatClampNeg))) rfl ⟨(vp_in_nI (by omega) (by decide)), (vp_in_nI (by omega) (by decide))⟩ ?_
        rw [sCL (n := i) (by omega)]
        rw [e2_1.1 7 (by decide)]
        exact ww_cut [0, 1] (xlc (congrArg Value.int (show ((nI i) + 1 : Int32) = nI (i + 1) from nI_1 i)) (xlc rfl rfl)) rfl rfl (ih2 (i + 1) (mPut zL 8 i (z.1 7 i)) (by omega) (by omega) (WA_1 e2_1))
  exact ww_cut [0, 1] (xlc (congrArg Value.int (show (0 : Int32) = nI 0 from rfl)) (xlc rfl rfl)) rfl rfl (L2 (16 - 0 + 1) 0 z (Nat.lt_succ_self _) (by omega) (WA_0 z))
