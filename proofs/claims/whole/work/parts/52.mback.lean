/-! the model's laysBack -/
/-- what was laid aside lies in b, and nothing else than the running cells changed since z -/
def WD (z b : xMem) : Prop := (∀ q, q ≠ 0 → q ≠ 4 → q ≠ 7 → q ≠ 8 → b.1 q = z.1 q) ∧ (∀ j, (j < 8 ∨ (10 < j ∧ j < 16) ∨ 30 < j) → b.1 0 j = z.1 0 j) ∧ (∀ j, j < 16 → b.1 8 j = z.1 7 j) ∧ (∀ j, j < 8 → b.1 8 (16 + j) = z.1 4 j) ∧ b.1 8 24 = z.1 0 8 ∧ b.1 8 25 = z.1 0 9 ∧ b.1 8 26 = z.1 0 10 ∧ (∀ j, 16 ≤ j → b.1 7 j = z.1 7 j) ∧ (∀ j, 8 ≤ j → b.1 4 j = z.1 4 j)
/-- nothing changed but scratch and what is laid aside -/
def KS (z z' : xMem) : Prop := (∀ q, q ≠ 0 → q ≠ 8 → z'.1 q = z.1 q) ∧ ∀ j, (j < 16 ∨ 30 < j) → z'.1 0 j = z.1 0 j
def VA (z b c : xMem) (i : Nat) : Prop := (∀ q, q ≠ 7 → c.1 q = b.1 q) ∧ ∀ j, (j < i ∨ 16 ≤ j) → c.1 7 j = z.1 7 j
theorem VA_0 {z b : xMem} (h : WD z b) : VA z b b 0 := ⟨fun _ _ => rfl, fun j hj => h.2.2.2.2.2.2.2.1 j (by omega)⟩
theorem VA_1 {z b c : xMem} {i : Nat} (h : VA z b c i) : VA z b (mPut c 7 i (z.1 7 i)) (i + 1) := by
  refine ⟨fun q hq => (mPut_nq hq).trans (h.1 q hq), fun j hj => ?_⟩
  by_cases e : j = i
  · subst e; exact mPut_at
  · rw [mPut_nj e]; exact h.2 j (by omega)
def VB (z b c : xMem) (i : Nat) : Prop := (∀ q, q ≠ 7 → q ≠ 4 → c.1 q = b.1 q) ∧ c.1 7 = z.1 7 ∧ ∀ j, (j < i ∨ 8 ≤ j) → c.1 4 j = z.1 4 j
theorem VB_0 {z b c : xMem} {i : Nat} (hD : WD z b) (h : VA z b c i) (hi : 16 ≤ i) : VB z b c 0 := ⟨fun q h7 _ => h.1 q h7, funext fun j => h.2 j (by omega), fun j hj => by rw [h.1 4 (by decide)]; exact hD.2.2.2.2.2.2.2.2 j (by omega)⟩
theorem VB_1 {z b c : xMem} {i : Nat} (h : VB z b c i) : VB z b (mPut c 4 i (z.1 4 i)) (i + 1) := by
  refine ⟨fun q h7 h4 => (mPut_nq h4).trans (h.1 q h7 h4), (mPut_nq (by decide)).trans h.2.1, fun j hj => ?_⟩
  by_cases e : j = i
  · subst e; exact mPut_at
  · rw [mPut_nj e]; exact h.2.2 j (by omega)
theorem KS_of {z b c : xMem} {i : Nat} (hD : WD z b) (h : VB z b c i) (hi : 8 ≤ i) : KS z (mPut (mPut (mPut c 0 8 (z.1 0 8)) 0 9 (z.1 0 9)) 0 10 (z.1 0 10)) := by
  refine ⟨fun q h0 h8 => ?_, fun j hj => ?_⟩
  · rw [mPut_nq h0, mPut_nq h0, mPut_nq h0]
    by_cases e7 : q = 7
    · subst e7; exact h.2.1
    by_cases e4 : q = 4
    · subst e4; exact funext fun j => h.2.2 j (by omega)
    · rw [h.1 q e7 e4]; exact hD.1 q h0 e4 e7 h8
  · by_cases e10 : j = 10
    · subst e10; exact mPut_at
    rw [mPut_nj e10]
    by_cases e9 : j = 9
    · subst e9; exact mPut_at
    rw [mPut_nj e9]
    by_cases e8 : j = 8
    · subst e8; exact mPut_at
    rw [mPut_nj e8, h.1 0 (by decide) (by decide)]
    exact hD.2.1 j (by omega)
set_option maxHeartbeats 4000000 in
set_option maxRecDepth 20000 in
theorem t_X6_laysBack (l : Launch) (d : Nat) (z b : xMem) (hD : WD z b) : XMv l d yX6_laysBack cX6_laysBack 2 none shM [.ref 0] b (fun z' => KS z z') := by
  refine XM.of (by decide) (Nat.le_of_ble_eq_true rfl) (fun xp xe xs xm xar xbl xme xc xD xcs xad xAA xCC xhr => ?_)
  generalize xhQ : MQ xbl _ xar xs 0 0 xAA = xQ
  show ww xp l xe (xRm d) xs xm xar xbl xme xc 2 xD xcs xad shM xAA xQ 0 [(0, .ref 0)] [] b
  refine ww_blk xCC okX6_laysBack 0 2 (ps := []) (pc' := 2) (lv' := [(1, .int 0), (0, .ref 0)]) (st' := []) (z' := b) rfl trivial ?_
  have L2 : ∀ (n2 : Nat) (i : Nat) (zL : xMem), 16 - i < n2 → (i ≤ 16) → (VA z b zL i) → ww xp l xe (xRm d) xs xm xar xbl xme xc 2 xD xcs xad shM xAA xQ 2 [(1, .int (nI i)), (0, .ref 0)] [] zL := by
    intro n2
    induction n2 with
    | zero =>
      intro i zL hmu2
      exact absurd hmu2 (Nat.not_lt_zero _)
    | succ n2 ih2 =>
      intro i zL hmu2 e2_0 e2_1
      refine ww_blk xCC okX6_laysBack 2 2 (ps := []) (pc' := 5) (lv' := [(1, .int (nI i)), (0, .ref 0)]) (st' := [.int 16, .int (nI i)]) (z' := zL) rfl trivial ?_
      refine ww_br xCC okX6_laysBack 4 (P := 16 ≤ (nI i)) (t1 := 26) (t2 := 8) (r := []) rfl (fun c1 => ?_) (fun c1 => ?_)
      · skip
        replace c1 : 16 ≤ i := (sLE (a := 16) (b := i) (by omega) (by omega)).mp c1
        refine ww_blk xCC okX6_laysBack 15 2 (ps := []) (pc' := 28) (lv' := [(1, .int 0), (0, .ref 0)]) (st' := []) (z' := zL) rfl trivial ?_
        have L28 : ∀ (n28 : Nat) (i : Nat) (zK : xMem), 8 - i < n28 → (i ≤ 8) → (VB z b zK i) → ww xp l xe (xRm d) xs xm xar xbl xme xc 2 xD xcs xad shM xAA xQ 28 [(1, .int (nI i)), (0, .ref 0)] [] zK := by
          intro n28
          induction n28 with
          | zero =>
            intro i zK hmu28
            exact absurd hmu28 (Nat.not_lt_zero _)
          | succ n28 ih28 =>
            intro i zK hmu28 e28_0 e28_1
            have h24 : zK.1 8 24 = z.1 0 8 := by rw [e28_1.1 8 (by decide) (by decide), hD.2.2.2.2.1]
            have h25 : zK.1 8 25 = z.1 0 9 := by rw [e28_1.1 8 (by decide) (by decide), hD.2.2.2.2.2.1]
            have h26 : zK.1 8 26 = z.1 0 10 := by rw [e28_1.1 8 (by decide) (by decide), hD.2.2.2.2.2.2.1]
            refine ww_blk xCC okX6_laysBack 17 2 (ps := []) (pc' := 31) (lv' := [(1, .int (nI i)), (0, .ref 0)]) (st' := [.int 8, .int (nI i)]) (z' := zK) rfl trivial ?_
            refine ww_br xCC okX6_laysBack 19 (P := 8 ≤ (nI i)) (t1 := 55) (t2 := 34) (r := []) rfl (fun c2 => ?_) (fun c2 => ?_)
            · skip
              replace c2 : 8 ≤ i := (sLE (a := 8) (b := i) (by omega) (by omega)).mp c2
              refine ww_blk xCC okX6_laysBack 32 18 (ps := [vp_in 24 27, vp_in 25 27, vp_in 26 27]) (pc' := 88) (lv' := [(1, .int (nI i)), (0, .ref 0)]) (st' := []) (z' := (mPut (mPut (mPut zK 0 8 (zK.1 8 24)) 0 9 (zK.1 8 25)) 0 10 (zK.1 8 26))) rfl ⟨(show vp_in 24 27 from (by unfold vp_in; decide)), (show vp_in 25 27 from (by unfold vp_in; decide)), (show vp_in 26 27 from (by unfold vp_in; decide))⟩ ?_
              rw [h24]
              rw [h25]
              rw [h26]
              subst xhQ
              exact ww_vret xCC okX6_laysBack 50 xhr rfl ⟨rfl, (KS_of hD e28_1 (by omega))⟩
            · skip
              replace c2 : ¬ 8 ≤ i := fun q => c2 ((sLE (a := 8) (b := i) (by omega) (by omega)).mpr q)
              refine ww_blk xCC okX6_laysBack 20 12 (ps := [vp_in (16 + (nI i)) 27, vp_in (nI i) 8]) (pc' := 28) (lv' := [(1, .int ((nI i) + 1)), (0, .ref 0)]) (st' := []) (z' := (mPut zK 4 (nI i).toNatClampNeg (zK.1 8 (16 + (nI i)).toNatClampNeg))) rfl ⟨(vp_in_16 (by omega)), (vp_in_nI (by omega) (by decide))⟩ ?_
              rw [sCL (n := i) (by omega)]
              rw [show (16 : Int32) + nI i = nI (16 + i) from nI_add 16 i]
              rw [sCL (n := (16 + i)) (by omega)]
              rw [e28_1.1 8 (by decide) (by decide), hD.2.2.2.1 i (by omega)]
              exact ww_cut [0, 1] (xlc (congrArg Value.int (show ((nI i) + 1 : Int32) = nI (i + 1) from nI_1 i)) (xlc rfl rfl)) rfl rfl (ih28 (i + 1) (mPut zK 4 i (z.1 4 i)) (by omega) (by omega) (VB_1 e28_1))
        exact ww_cut [0, 1] (xlc (congrArg Value.int (show (0 : Int32) = nI 0 from rfl)) (xlc rfl rfl)) rfl rfl (L28 (8 - 0 + 1) 0 zL (Nat.lt_succ_self _) (by omega) (VB_0 hD e2_1 (by omega)))
      · skip
        replace c1 : ¬ 16 ≤ i := fun q => c1 ((sLE (a := 16) (b := i) (by omega) (by omega)).mpr q)
        refine ww_blk xCC okX6_laysBack 5 10 (ps := [vp_in (nI i) 27, vp_in (nI i) 16]) (pc' := 2) (lv' := [(1, .int ((nI i) + 1)), (0, .ref 0)]) (st' := []) (z' := (mPut zL 7 (nI i).toNatClampNeg (zL.1 8 (nI i).toNatClampNeg))) rfl ⟨(vp_in_nI (by omega) (by decide)), (vp_in_nI (by omega) (by decide))⟩ ?_
        rw [sCL (n := i) (by omega)]
        rw [e2_1.1 8 (by decide), hD.2.2.1 i (by omega)]
        exact ww_cut [0, 1] (xlc (congrArg Value.int (show ((nI i) + 1 : Int32) = nI (i + 1) from nI_1 i)) (xlc rfl rfl)) rfl rfl (ih2 (i + 1) (mPut zL 7 i (z.1 7 i)) (by omega) (by omega) (VA_1 e2_1))
  exact ww_cut [0, 1] (xlc (congrArg Value.int (show (0 : Int32) = nI 0 from rfl)) (xlc rfl rfl)) rfl rfl (L2 (16 - 0 + 1) 0 b (Nat.lt_succ_self _) (by omega) (VA_0 hD))
