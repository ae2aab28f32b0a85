/-! the republic's rules, and the model's isLastCall, costsOf, sitsBy -/
def bI (b : Bool) : Int32 := if b then 1 else 0
theorem sBit : ∀ i, i < 10 → ∀ a, a < 256 → (((nI a >>> (nI i &&& 31)) &&& 1 = 0) ↔ a.testBit i = false) := by decide +kernel
def sLa (r : sR) (e : Nat) : Nat → Bool
  | 0 => r 1 e != 0
  | k + 1 => sLa r e k && (!((r 1 e).testBit k) || r 0 k == 1)
theorem sLa_0y {r : sR} {e : Nat} (h : ¬ r 1 e = 0) : (1 : Int32) = bI (sLa r e 0) := by simp [sLa, bI, h]
theorem sLa_0n {r : sR} {e : Nat} (h : r 1 e = 0) : (0 : Int32) = bI (sLa r e 0) := by simp [sLa, bI, h]
theorem bI_and1 (b : Bool) : bI b &&& 1 = bI b := by cases b <;> decide
theorem bI_and0 (b : Bool) : bI b &&& 0 = 0 := by cases b <;> decide
theorem sLa_y {r : sR} {e i : Nat} (h : (r 1 e).testBit i = false ∨ r 0 i = 1) : bI (sLa r e i) &&& 1 = bI (sLa r e (i + 1)) := by
  rw [bI_and1, sLa]
  rcases h with h | h <;> simp [h]
theorem sLa_n {r : sR} {e i : Nat} (h : (r 1 e).testBit i = true) (h2 : ¬ r 0 i = 1) : bI (sLa r e i) &&& 0 = bI (sLa r e (i + 1)) := by
  rw [bI_and0, sLa]
  simp [h, h2, bI]
def sClerk (tc : Nat → sTc) (r : sR) (p e : Nat) : Int32 := sWi (sSays tc r 1 p e - nI (r 4 p)) 0 999
def sCosts (tc : Nat → sTc) (r : sR) (p e : Nat) : Int32 := sWi (if r 3 p = 1 then sSays tc r 1 p e / 2 else if r 3 p = 3 then sSays tc r 1 p e / 2 + 5 else if r 3 p = 2 then sWi (sSays tc r 1 p e - nI (r 4 p)) 0 999 else if r 3 p = 4 then sWi (sSays tc r 1 p e - nI (r 4 p)) 0 999 + nI (sPop (r 1 e)) else if r 3 p = 5 then 2 * sSays tc r 1 p e else sSays tc r 1 p e) 0 999
def sMn (v : Int32) : Int32 := if v < 3 then v else 3
def sSits (tc : Nat → sTc) (r : sR) (p e : Nat) : Int32 := if r 3 p = 1 then 0 else if r 3 p = 3 then (if r 4 p < 5 then 1 else 0) else sWi (if r 3 p = 2 then (if sSays tc r 2 p e < 3 then sSays tc r 2 p e else 3) else if r 3 p = 4 then 2 * (if sSays tc r 2 p e < 3 then sSays tc r 2 p e else 3) else if r 3 p = 5 then 1 + nI (r 6 p) else sSays tc r 2 p e) 0 99
set_option maxHeartbeats 4000000 in
set_option maxRecDepth 20000 in
theorem t_X6_isLastCall (l : Launch) (d : Nat) (e : Nat) (z : xMem) (r : sR) (cnt : Nat) (hr : RM z r) (hw : sW r cnt) (he : e < 10) : XMz l (d + 0) yX6_isLastCall cX6_isLastCall 4 (some .boolean) shM [.ref 0, .int (nI e)] z (fun z' => sLa r e 8 = true ∧ z' = z) (fun z' => sLa r e 8 = false ∧ z' = z) := by
  refine XM.of (by decide) (Nat.le_of_ble_eq_true rfl) (fun xp xe xs xm xar xbl xme xc xD xcs xad xAA xCC xhr => ?_)
  generalize xhQ : MQ xbl _ xar xs 0 0 xAA = xQ
  show ww xp l xe (xRm (d + 0)) xs xm xar xbl xme xc 4 xD xcs xad shM xAA xQ 0 [(0, .ref 0), (1, .int (nI e))] [] z
  have hb := hw.1
  have hbe := hb e
  refine ww_blk xCC okX6_isLastCall 0 4 (ps := [vp_in (nI e) 10]) (pc' := 6) (lv' := [(0, .ref 0), (1, .int (nI e))]) (st' := [.int (z.1 5 (nI e).toNatClampNeg)]) (z' := z) rfl (vp_in_nI (by omega) (by decide)) ?_
  rw [sCL (n := e) (by omega)]
  rw [hr.2.1 e]
  refine ww_br xCC okX6_isLastCall 4 (P := (nI (r 1 e)) = 0) (t1 := 13) (t2 := 9) (r := []) rfl (fun c1 => ?_) (fun c1 => ?_)
  · skip
    replace c1 : (r 1 e) = 0 := (sEQ (a := (r 1 e)) (b := 0) (by omega) (by omega)).mp c1
    have hq6 := c1
    refine ww_blk xCC okX6_isLastCall 7 4 (ps := []) (pc' := 17) (lv' := [(3, .int 0), (2, .int 0), (0, .ref 0), (1, .int (nI e))]) (st' := []) (z' := z) rfl trivial ?_
    have L17 : ∀ (n17 : Nat) (i : Nat), 8 - i < n17 → (i ≤ 8) → ww xp l xe (xRm (d + 0)) xs xm xar xbl xme xc 4 xD xcs xad shM xAA xQ 17 [(3, .int (nI i)), (2, .int (bI (sLa r e i))), (0, .ref 0), (1, .int (nI e))] [] z := by
      intro n17
      induction n17 with
      | zero =>
        intro i hmu17
        exact absurd hmu17 (Nat.not_lt_zero _)
      | succ n17 ih17 =>
        intro i hmu17 e17_0
        have hbi := hb i
        refine ww_blk xCC okX6_isLastCall 11 2 (ps := []) (pc' := 20) (lv' := [(3, .int (nI i)), (2, .int (bI (sLa r e i))), (0, .ref 0), (1, .int (nI e))]) (st' := [.int 8, .int (nI i)]) (z' := z) rfl trivial ?_
        refine ww_br xCC okX6_isLastCall 13 (P := 8 ≤ (nI i)) (t1 := 60) (t2 := 23) (r := []) rfl (fun c2 => ?_) (fun c2 => ?_)
        · skip
          replace c2 : 8 ≤ i := (sLE (a := 8) (b := i) (by omega) (by omega)).mp c2
          rcases Bool.eq_false_or_eq_true (sLa r e i) with hq | hq
          · skip
            rw [hq, show bI true = (1 : Int32) from rfl]
            refine ww_blk xCC okX6_isLastCall 37 1 (ps := []) (pc' := 61) (lv' := [(3, .int (nI i)), (2, .int 1), (0, .ref 0), (1, .int (nI e))]) (st' := [.int 1]) (z' := z) rfl trivial ?_
            subst xhQ
            exact ww_iret xCC okX6_isLastCall 38 xhr rfl (by decide) (Or.inl ⟨rfl, ⟨(by rw [show 8 = i by omega]; exact hq), rfl⟩⟩)
          · skip
            rw [hq, show bI false = (0 : Int32) from rfl]
            refine ww_blk xCC okX6_isLastCall 37 1 (ps := []) (pc' := 61) (lv' := [(3, .int (nI i)), (2, .int 0), (0, .ref 0), (1, .int (nI e))]) (st' := [.int 0]) (z' := z) rfl trivial ?_
            subst xhQ
            exact ww_iret xCC okX6_isLastCall 38 xhr rfl (by decide) (Or.inr ⟨rfl, ⟨(by rw [show 8 = i by omega]; exact hq), rfl⟩⟩)
        · skip
          replace c2 : ¬ 8 ≤ i := fun q => c2 ((sLE (a := 8) (b := i) (by omega) (by omega)).mpr q)
          refine ww_blk xCC okX6_isLastCall 14 9 (ps := [vp_in (nI e) 10]) (pc' := 34) (lv' := [(3, .int (nI i)), (2, .int (bI (sLa r e i))), (0, .ref 0), (1, .int (nI e))]) (st' := [.int (((z.1 5 (nI e).toNatClampNeg) >>> ((nI i) &&& 31)) &&& 1), .int (bI (sLa r e i))]) (z' := z) rfl (vp_in_nI (by omega) (by decide)) ?_
          rw [sCL (n := e) (by omega)]
          rw [hr.2.1 e]
          refine ww_br xCC okX6_isLastCall 23 (P := (((nI (r 1 e)) >>> ((nI i) &&& 31)) &&& 1) = 0) (t1 := 47) (t2 := 37) (r := [.int (bI (sLa r e i))]) rfl (fun c3 => ?_) (fun c3 => ?_)
          · skip
            have hq34 : (r 1 e).testBit i = false := (sBit i (by omega) (r 1 e) (by omega)).mp c3
            refine ww_blk xCC okX6_isLastCall 30 2 (ps := []) (pc' := 52) (lv' := [(3, .int (nI i)), (2, .int (bI (sLa r e i))), (0, .ref 0), (1, .int (nI e))]) (st' := [.int 1, .int (bI (sLa r e i))]) (z' := z) rfl trivial ?_
            refine ww_blk xCC okX6_isLastCall 33 4 (ps := []) (pc' := 17) (lv' := [(3, .int ((nI i) + 1)), (2, .int ((bI (sLa r e i)) &&& 1)), (0, .ref 0), (1, .int (nI e))]) (st' := []) (z' := z) rfl trivial ?_
            exact ww_cut [0, 1, 2, 3] (xlc (congrArg Value.int (show ((nI i) + 1 : Int32) = nI (i + 1) from nI_1 i)) (xlc (congrArg Value.int (show ((bI (sLa r e i)) &&& 1 : Int32) = bI (sLa r e (i + 1)) from (by first | exact sLa_n hq34 (by omega) | exact sLa_y (Or.inl hq34) | exact sLa_y (Or.inr (by omega))))) (xlc rfl (xlc rfl rfl)))) rfl rfl (ih17 (i + 1) (by omega) (by omega))
          · skip
            have hq34 : (r 1 e).testBit i = true := (Bool.eq_false_or_eq_true _).resolve_right (fun q => c3 ((sBit i (by omega) (r 1 e) (by omega)).mpr q))
            refine ww_blk xCC okX6_isLastCall 24 5 (ps := [vp_in (nI i) 8]) (pc' := 44) (lv' := [(3, .int (nI i)), (2, .int (bI (sLa r e i))), (0, .ref 0), (1, .int (nI e))]) (st' := [.int 1, .int (z.1 4 (nI i).toNatClampNeg), .int (bI (sLa r e i))]) (z' := z) rfl (vp_in_nI (by omega) (by decide)) ?_
            rw [sCL (n := i) (by omega)]
            rw [hr.1 i]
            refine ww_br xCC okX6_isLastCall 29 (P := (nI (r 0 i)) = 1) (t1 := 47) (t2 := 51) (r := [.int (bI (sLa r e i))]) rfl (fun c4 => ?_) (fun c4 => ?_)
            · skip
              replace c4 : (r 0 i) = 1 := (sEQ (a := (r 0 i)) (b := 1) (by omega) (by omega)).mp c4
              refine ww_blk xCC okX6_isLastCall 30 2 (ps := []) (pc' := 52) (lv' := [(3, .int (nI i)), (2, .int (bI (sLa r e i))), (0, .ref 0), (1, .int (nI e))]) (st' := [.int 1, .int (bI (sLa r e i))]) (z' := z) rfl trivial ?_
              refine ww_blk xCC okX6_isLastCall 33 4 (ps := []) (pc' := 17) (lv' := [(3, .int ((nI i) + 1)), (2, .int ((bI (sLa r e i)) &&& 1)), (0, .ref 0), (1, .int (nI e))]) (st' := []) (z' := z) rfl trivial ?_
              exact ww_cut [0, 1, 2, 3] (xlc (congrArg Value.int (show ((nI i) + 1 : Int32) = nI (i + 1) from nI_1 i)) (xlc (congrArg Value.int (show ((bI (sLa r e i)) &&& 1 : Int32) = bI (sLa r e (i + 1)) from (by first | exact sLa_n hq34 (by omega) | exact sLa_y (Or.inl hq34) | exact sLa_y (Or.inr (by omega))))) (xlc rfl (xlc rfl rfl)))) rfl rfl (ih17 (i + 1) (by omega) (by omega))
            · skip
              replace c4 : ¬ (r 0 i) = 1 := fun q => c4 ((sEQ (a := (r 0 i)) (b := 1) (by omega) (by omega)).mpr q)
              refine ww_blk xCC okX6_isLastCall 32 5 (ps := []) (pc' := 17) (lv' := [(3, .int ((nI i) + 1)), (2, .int ((bI (sLa r e i)) &&& 0)), (0, .ref 0), (1, .int (nI e))]) (st' := []) (z' := z) rfl trivial ?_
              exact ww_cut [0, 1, 2, 3] (xlc (congrArg Value.int (show ((nI i) + 1 : Int32) = nI (i + 1) from nI_1 i)) (xlc (congrArg Value.int (show ((bI (sLa r e i)) &&& 0 : Int32) = bI (sLa r e (i + 1)) from (by first | exact sLa_n hq34 (by omega) | exact sLa_y (Or.inl hq34) | exact sLa_y (Or.inr (by omega))))) (xlc rfl (xlc rfl rfl)))) rfl rfl (ih17 (i + 1) (by omega) (by omega))
    exact ww_cut [0, 1, 2, 3] (xlc (congrArg Value.int (show (0 : Int32) = nI 0 from rfl)) (xlc (congrArg Value.int (show (0 : Int32) = bI (sLa r e 0) from (by first | exact sLa_0y hq6 | exact sLa_0n hq6))) (xlc rfl (xlc rfl rfl)))) rfl rfl (L17 (8 - 0 + 1) 0 (Nat.lt_succ_self _) (by omega))
  · skip
    replace c1 : ¬ (r 1 e) = 0 := fun q => c1 ((sEQ (a := (r 1 e)) (b := 0) (by omega) (by omega)).mpr q)
    have hq6 := c1
    refine ww_blk xCC okX6_isLastCall 5 2 (ps := []) (pc' := 14) (lv' := [(0, .ref 0), (1, .int (nI e))]) (st' := [.int 1]) (z' := z) rfl trivial ?_
    refine ww_blk xCC okX6_isLastCall 8 3 (ps := []) (pc' := 17) (lv' := [(3, .int 0), (2, .int 1), (0, .ref 0), (1, .int (nI e))]) (st' := []) (z' := z) rfl trivial ?_
    have L17 : ∀ (n17 : Nat) (i : Nat), 8 - i < n17 → (i ≤ 8) → ww xp l xe (xRm (d + 0)) xs xm xar xbl xme xc 4 xD xcs xad shM xAA xQ 17 [(3, .int (nI i)), (2, .int (bI (sLa r e i))), (0, .ref 0), (1, .int (nI e))] [] z := by
      intro n17
      induction n17 with
      | zero =>
        intro i hmu17
        exact absurd hmu17 (Nat.not_lt_zero _)
      | succ n17 ih17 =>
        intro i hmu17 e17_0
        have hbi := hb i
        refine ww_blk xCC okX6_isLastCall 11 2 (ps := []) (pc' := 20) (lv' := [(3, .int (nI i)), (2, .int (bI (sLa r e i))), (0, .ref 0), (1, .int (nI e))]) (st' := [.int 8, .int (nI i)]) (z' := z) rfl trivial ?_
        refine ww_br xCC okX6_isLastCall 13 (P := 8 ≤ (nI i)) (t1 := 60) (t2 := 23) (r := []) rfl (fun c5 => ?_) (fun c5 => ?_)
        · skip
          replace c5 : 8 ≤ i := (sLE (a := 8) (b := i) (by omega) (by omega)).mp c5
          rcases Bool.eq_false_or_eq_true (sLa r e i) with hq | hq
          · skip
            rw [hq, show bI true = (1 : Int32) from rfl]
            refine ww_blk xCC okX6_isLastCall 37 1 (ps := []) (pc' := 61) (lv' := [(3, .int (nI i)), (2, .int 1), (0, .ref 0), (1, .int (nI e))]) (st' := [.int 1]) (z' := z) rfl trivial ?_
            subst xhQ
            exact ww_iret xCC okX6_isLastCall 38 xhr rfl (by decide) (Or.inl ⟨rfl, ⟨(by rw [show 8 = i by omega]; exact hq), rfl⟩⟩)
          · skip
            rw [hq, show bI false = (0 : Int32) from rfl]
            refine ww_blk xCC okX6_isLastCall 37 1 (ps := []) (pc' := 61) (lv' := [(3, .int (nI i)), (2, .int 0), (0, .ref 0), (1, .int (nI e))]) (st' := [.int 0]) (z' := z) rfl trivial ?_
            subst xhQ
            exact ww_iret xCC okX6_isLastCall 38 xhr rfl (by decide) (Or.inr ⟨rfl, ⟨(by rw [show 8 = i by omega]; exact hq), rfl⟩⟩)
        · skip
          replace c5 : ¬ 8 ≤ i := fun q => c5 ((sLE (a := 8) (b := i) (by omega) (by omega)).mpr q)
          refine ww_blk xCC okX6_isLastCall 14 9 (ps := [vp_in (nI e) 10]) (pc' := 34) (lv' := [(3, .int (nI i)), (2, .int (bI (sLa r e i))), (0, .ref 0), (1, .int (nI e))]) (st' := [.int (((z.1 5 (nI e).toNatClampNeg) >>> ((nI i) &&& 31)) &&& 1), .int (bI (sLa r e i))]) (z' := z) rfl (vp_in_nI (by omega) (by decide)) ?_
          rw [sCL (n := e) (by omega)]
          rw [hr.2.1 e]
          refine ww_br xCC okX6_isLastCall 23 (P := (((nI (r 1 e)) >>> ((nI i) &&& 31)) &&& 1) = 0) (t1 := 47) (t2 := 37) (r := [.int (bI (sLa r e i))]) rfl (fun c6 => ?_) (fun c6 => ?_)
          · skip
            have hq34 : (r 1 e).testBit i = false := (sBit i (by omega) (r 1 e) (by omega)).mp c6
            refine ww_blk xCC okX6_isLastCall 30 2 (ps := []) (pc' := 52) (lv' := [(3, .int (nI i)), (2, .int (bI (sLa r e i))), (0, .ref 0), (1, .int (nI e))]) (st' := [.int 1, .int (bI (sLa r e i))]) (z' := z) rfl trivial ?_
            refine ww_blk xCC okX6_isLastCall 33 4 (ps := []) (pc' := 17) (lv' := [(3, .int ((nI i) + 1)), (2, .int ((bI (sLa r e i)) &&& 1)), (0, .ref 0), (1, .int (nI e))]) (st' := []) (z' := z) rfl trivial ?_
            exact ww_cut [0, 1, 2, 3] (xlc (congrArg Value.int (show ((nI i) + 1 : Int32) = nI (i + 1) from nI_1 i)) (xlc (congrArg Value.int (show ((bI (sLa r e i)) &&& 1 : Int32) = bI (sLa r e (i + 1)) from (by first | exact sLa_n hq34 (by omega) | exact sLa_y (Or.inl hq34) | exact sLa_y (Or.inr (by omega))))) (xlc rfl (xlc rfl rfl)))) rfl rfl (ih17 (i + 1) (by omega) (by omega))
          · skip
            have hq34 : (r 1 e).testBit i = true := (Bool.eq_false_or_eq_true _).resolve_right (fun q => c6 ((sBit i (by omega) (r 1 e) (by omega)).mpr q))
            refine ww_blk xCC okX6_isLastCall 24 5 (ps := [vp_in (nI i) 8]) (pc' := 44) (lv' := [(3, .int (nI i)), (2, .int (bI (sLa r e i))), (0, .ref 0), (1, .int (nI e))]) (st' := [.int 1, .int (z.1 4 (nI i).toNatClampNeg), .int (bI (sLa r e i))]) (z' := z) rfl (vp_in_nI (by omega) (by decide)) ?_
            rw [sCL (n := i) (by omega)]
            rw [hr.1 i]
            refine ww_br xCC okX6_isLastCall 29 (P := (nI (r 0 i)) = 1) (t1 := 47) (t2 := 51) (r := [.int (bI (sLa r e i))]) rfl (fun c7 => ?_) (fun c7 => ?_)
            · skip
              replace c7 : (r 0 i) = 1 := (sEQ (a := (r 0 i)) (b := 1) (by omega) (by omega)).mp c7
              refine ww_blk xCC okX6_isLastCall 30 2 (ps := []) (pc' := 52) (lv' := [(3, .int (nI i)), (2, .int (bI (sLa r e i))), (0, .ref 0), (1, .int (nI e))]) (st' := [.int 1, .int (bI (sLa r e i))]) (z' := z) rfl trivial ?_
              refine ww_blk xCC okX6_isLastCall 33 4 (ps := []) (pc' := 17) (lv' := [(3, .int ((nI i) + 1)), (2, .int ((bI (sLa r e i)) &&& 1)), (0, .ref 0), (1, .int (nI e))]) (st' := []) (z' := z) rfl trivial ?_
              exact ww_cut [0, 1, 2, 3] (xlc (congrArg Value.int (show ((nI i) + 1 : Int32) = nI (i + 1) from nI_1 i)) (xlc (congrArg Value.int (show ((bI (sLa r e i)) &&& 1 : Int32) = bI (sLa r e (i + 1)) from (by first | exact sLa_n hq34 (by omega) | exact sLa_y (Or.inl hq34) | exact sLa_y (Or.inr (by omega))))) (xlc rfl (xlc rfl rfl)))) rfl rfl (ih17 (i + 1) (by omega) (by omega))
            · skip
              replace c7 : ¬ (r 0 i) = 1 := fun q => c7 ((sEQ (a := (r 0 i)) (b := 1) (by omega) (by omega)).mpr q)
              refine ww_blk xCC okX6_isLastCall 32 5 (ps := []) (pc' := 17) (lv' := [(3, .int ((nI i) + 1)), (2, .int ((bI (sLa r e i)) &&& 0)), (0, .ref 0), (1, .int (nI e))]) (st' := []) (z' := z) rfl trivial ?_
              exact ww_cut [0, 1, 2, 3] (xlc (congrArg Value.int (show ((nI i) + 1 : Int32) = nI (i + 1) from nI_1 i)) (xlc (congrArg Value.int (show ((bI (sLa r e i)) &&& 0 : Int32) = bI (sLa r e (i + 1)) from (by first | exact sLa_n hq34 (by omega) | exact sLa_y (Or.inl hq34) | exact sLa_y (Or.inr (by omega))))) (xlc rfl (xlc rfl rfl)))) rfl rfl (ih17 (i + 1) (by omega) (by omega))
    exact ww_cut [0, 1, 2, 3] (xlc (congrArg Value.int (show (0 : Int32) = nI 0 from rfl)) (xlc (congrArg Value.int (show (1 : Int32) = bI (sLa r e 0) from (by first | exact sLa_0y hq6 | exact sLa_0n hq6))) (xlc rfl (xlc rfl rfl)))) rfl rfl (L17 (8 - 0 + 1) 0 (Nat.lt_succ_self _) (by omega))

set_option maxHeartbeats 4000000 in
set_option maxRecDepth 20000 in
theorem t_X6_costsOf (l : Launch) (d : Nat) (p e : Nat) (z : xMem) (r : sR) (cnt : Nat) (tc : Nat → sTc) (hr : RM z r) (hw : sW r cnt) (ht : TM z cnt tc) (hp : p < 4) (he : e < 10) : XMi l (d + 309) yX6_costsOf cX6_costsOf 6 (some .int) shM [.ref 0, .int (nI p), .int (nI e)] z (fun v z' => v = sCosts tc r p e ∧ KM z z') := by
  refine XM.of (by decide) (Nat.le_of_ble_eq_true rfl) (fun xp xe xs xm xar xbl xme xc xD xcs xad xAA xCC xhr => ?_)
  generalize xhQ : MQ xbl _ xar xs 0 0 xAA = xQ
  show ww xp l xe (xRm (d + 309)) xs xm xar xbl xme xc 6 xD xcs xad shM xAA xQ 0 [(0, .ref 0), (1, .int (nI p)), (2, .int (nI e))] [] z
  have hb := hw.1
  have hbe := hb e
  have hbp := hb p
  refine ww_blk xCC okX6_costsOf 0 13 (ps := [vp_in ((4 * (nI p)) + 3) 16]) (pc' := 15) (lv' := [(3, .int (z.1 7 ((4 * (nI p)) + 3).toNatClampNeg)), (0, .ref 0), (1, .int (nI p)), (2, .int (nI e))]) (st' := [.int (nI e), .int (nI p), .int 1, .ref 0]) (z' := z) rfl (vp_43 (by omega)) ?_
  rw [show (4 : Int32) * nI p = nI (4 * p) from pk_mul 4 p]
  rw [show nI (4 * p) + 3 = nI (4 * p + 3) from nI_add (4 * p) 3]
  rw [sCL (n := (4 * p + 3)) (by omega)]
  rw [hr.2.2.2.2.2.2.1 p]
  refine ww_callVIi xCC okX6_costsOf 13 (ix := 262) (t_X6_says l d 1 p e z r cnt tc hr hw ht (by decide) (by omega) (by omega)) (by omega) (by decide) xyX6_says xiX6_says (Or.inl (lw_gt_of (List.mem_of_getElem? (i := 1000) (by decide +kernel)) rfl)) rfl rfl rfl (rest := []) rfl (Nat.le_of_ble_eq_true rfl) rfl (fun v2 zS1 hS1 => ?_)
  have hrS1 := RM_K hS1.2 hr
  have htS1 := TM_K hS1.2 ht
  have hKS1 := KM_tr (KM_rf z) hS1.2
  rw [hS1.1]
  refine ww_blk xCC okX6_costsOf 14 11 (ps := [vp_in (4 * (nI p)) 16]) (pc' := 35) (lv' := [(4, .int (sSays tc r 1 p e)), (3, .int (nI (r 3 p))), (0, .ref 0), (1, .int (nI p)), (2, .int (nI e))]) (st' := [.int 999, .int 0, .int ((sSays tc r 1 p e) - (zS1.1 7 (4 * (nI p)).toNatClampNeg))]) (z' := zS1) rfl (vp_4 (by omega)) ?_
  rw [show (4 : Int32) * nI p = nI (4 * p) from pk_mul 4 p]
  rw [sCL (n := (4 * p)) (by omega)]
  rw [hrS1.2.2.2.1 p]
  refine ww_callSNi xCC okX6_costsOf 25 (ix := 258) (t_X6_within l d ((sSays tc r 1 p e) - (nI (r 4 p))) 0 999 _) (by omega) (by decide) xyX6_within xiX6_within (Or.inl (lw_gt_of (List.mem_of_getElem? (i := 1082) (by decide +kernel)) rfl)) rfl (rest := []) rfl (Nat.le_of_ble_eq_true rfl) rfl (fun v5 z3 h4 => ?_)
  subst h4
  refine ww_blk xCC okX6_costsOf 26 3 (ps := []) (pc' := 42) (lv' := [(5, .int (sWi ((sSays tc r 1 p e) - (nI (r 4 p))) 0 999)), (4, .int (sSays tc r 1 p e)), (3, .int (nI (r 3 p))), (0, .ref 0), (1, .int (nI p)), (2, .int (nI e))]) (st' := [.int 1, .int (nI (r 3 p))]) (z' := zS1) rfl trivial ?_
  refine ww_br xCC okX6_costsOf 29 (P := (nI (r 3 p)) = 1) (t1 := 45) (t2 := 52) (r := []) rfl (fun c6 => ?_) (fun c6 => ?_)
  · skip
    replace c6 : (r 3 p) = 1 := (sEQ (a := (r 3 p)) (b := 1) (by omega) (by omega)).mp c6
    refine ww_blk xCC okX6_costsOf 30 4 (ps := [¬ 2 = 0]) (pc' := 110) (lv' := [(5, .int (sWi ((sSays tc r 1 p e) - (nI (r 4 p))) 0 999)), (4, .int (sSays tc r 1 p e)), (3, .int (nI (r 3 p))), (0, .ref 0), (1, .int (nI p)), (2, .int (nI e))]) (st' := [.int ((sSays tc r 1 p e) / 2)]) (z' := zS1) rfl (show ¬ (2 : Int32) = 0 by decide) ?_
    refine ww_blk xCC okX6_costsOf 67 2 (ps := []) (pc' := 114) (lv' := [(5, .int (sWi ((sSays tc r 1 p e) - (nI (r 4 p))) 0 999)), (4, .int (sSays tc r 1 p e)), (3, .int (nI (r 3 p))), (0, .ref 0), (1, .int (nI p)), (2, .int (nI e))]) (st' := [.int 999, .int 0, .int ((sSays tc r 1 p e) / 2)]) (z' := zS1) rfl trivial ?_
    refine ww_callSNi xCC okX6_costsOf 69 (ix := 258) (t_X6_within l d ((sSays tc r 1 p e) / 2) 0 999 _) (by omega) (by decide) xyX6_within xiX6_within (Or.inl (lw_gt_of (List.mem_of_getElem? (i := 1082) (by decide +kernel)) rfl)) rfl (rest := []) rfl (Nat.le_of_ble_eq_true rfl) rfl (fun v9 z7 h8 => ?_)
    subst h8
    subst xhQ
    exact ww_iret xCC okX6_costsOf 70 xhr rfl rfl ⟨_, rfl, ⟨(by unfold sCosts; grind), hKS1⟩⟩
  · skip
    replace c6 : ¬ (r 3 p) = 1 := fun q => c6 ((sEQ (a := (r 3 p)) (b := 1) (by omega) (by omega)).mpr q)
    refine ww_blk xCC okX6_costsOf 34 2 (ps := []) (pc' := 54) (lv' := [(5, .int (sWi ((sSays tc r 1 p e) - (nI (r 4 p))) 0 999)), (4, .int (sSays tc r 1 p e)), (3, .int (nI (r 3 p))), (0, .ref 0), (1, .int (nI p)), (2, .int (nI e))]) (st' := [.int 3, .int (nI (r 3 p))]) (z' := zS1) rfl trivial ?_
    refine ww_br xCC okX6_costsOf 36 (P := (nI (r 3 p)) = 3) (t1 := 57) (t2 := 66) (r := []) rfl (fun c10 => ?_) (fun c10 => ?_)
    · skip
      replace c10 : (r 3 p) = 3 := (sEQ (a := (r 3 p)) (b := 3) (by omega) (by omega)).mp c10
      refine ww_blk xCC okX6_costsOf 37 6 (ps := [¬ 2 = 0]) (pc' := 110) (lv' := [(5, .int (sWi ((sSays tc r 1 p e) - (nI (r 4 p))) 0 999)), (4, .int (sSays tc r 1 p e)), (3, .int (nI (r 3 p))), (0, .ref 0), (1, .int (nI p)), (2, .int (nI e))]) (st' := [.int (((sSays tc r 1 p e) / 2) + 5)]) (z' := zS1) rfl (show ¬ (2 : Int32) = 0 by decide) ?_
      refine ww_blk xCC okX6_costsOf 67 2 (ps := []) (pc' := 114) (lv' := [(5, .int (sWi ((sSays tc r 1 p e) - (nI (r 4 p))) 0 999)), (4, .int (sSays tc r 1 p e)), (3, .int (nI (r 3 p))), (0, .ref 0), (1, .int (nI p)), (2, .int (nI e))]) (st' := [.int 999, .int 0, .int (((sSays tc r 1 p e) / 2) + 5)]) (z' := zS1) rfl trivial ?_
      refine ww_callSNi xCC okX6_costsOf 69 (ix := 258) (t_X6_within l d (((sSays tc r 1 p e) / 2) + 5) 0 999 _) (by omega) (by decide) xyX6_within xiX6_within (Or.inl (lw_gt_of (List.mem_of_getElem? (i := 1082) (by decide +kernel)) rfl)) rfl (rest := []) rfl (Nat.le_of_ble_eq_true rfl) rfl (fun v13 z11 h12 => ?_)
      subst h12
      subst xhQ
      exact ww_iret xCC okX6_costsOf 70 xhr rfl rfl ⟨_, rfl, ⟨(by unfold sCosts; grind), hKS1⟩⟩
    · skip
      replace c10 : ¬ (r 3 p) = 3 := fun q => c10 ((sEQ (a := (r 3 p)) (b := 3) (by omega) (by omega)).mpr q)
      refine ww_blk xCC okX6_costsOf 43 2 (ps := []) (pc' := 68) (lv' := [(5, .int (sWi ((sSays tc r 1 p e) - (nI (r 4 p))) 0 999)), (4, .int (sSays tc r 1 p e)), (3, .int (nI (r 3 p))), (0, .ref 0), (1, .int (nI p)), (2, .int (nI e))]) (st' := [.int 2, .int (nI (r 3 p))]) (z' := zS1) rfl trivial ?_
      refine ww_br xCC okX6_costsOf 45 (P := (nI (r 3 p)) = 2) (t1 := 71) (t2 := 76) (r := []) rfl (fun c14 => ?_) (fun c14 => ?_)
      · skip
        replace c14 : (r 3 p) = 2 := (sEQ (a := (r 3 p)) (b := 2) (by omega) (by omega)).mp c14
        refine ww_blk xCC okX6_costsOf 46 2 (ps := []) (pc' := 110) (lv' := [(5, .int (sWi ((sSays tc r 1 p e) - (nI (r 4 p))) 0 999)), (4, .int (sSays tc r 1 p e)), (3, .int (nI (r 3 p))), (0, .ref 0), (1, .int (nI p)), (2, .int (nI e))]) (st' := [.int (sWi ((sSays tc r 1 p e) - (nI (r 4 p))) 0 999)]) (z' := zS1) rfl trivial ?_
        refine ww_blk xCC okX6_costsOf 67 2 (ps := []) (pc' := 114) (lv' := [(5, .int (sWi ((sSays tc r 1 p e) - (nI (r 4 p))) 0 999)), (4, .int (sSays tc r 1 p e)), (3, .int (nI (r 3 p))), (0, .ref 0), (1, .int (nI p)), (2, .int (nI e))]) (st' := [.int 999, .int 0, .int (sWi ((sSays tc r 1 p e) - (nI (r 4 p))) 0 999)]) (z' := zS1) rfl trivial ?_
        refine ww_callSNi xCC okX6_costsOf 69 (ix := 258) (t_X6_within l d (sWi ((sSays tc r 1 p e) - (nI (r 4 p))) 0 999) 0 999 _) (by omega) (by decide) xyX6_within xiX6_within (Or.inl (lw_gt_of (List.mem_of_getElem? (i := 1082) (by decide +kernel)) rfl)) rfl (rest := []) rfl (Nat.le_of_ble_eq_true rfl) rfl (fun v17 z15 h16 => ?_)
        subst h16
        subst xhQ
        exact ww_iret xCC okX6_costsOf 70 xhr rfl rfl ⟨_, rfl, ⟨(by unfold sCosts; grind), hKS1⟩⟩
      · skip
        replace c14 : ¬ (r 3 p) = 2 := fun q => c14 ((sEQ (a := (r 3 p)) (b := 2) (by omega) (by omega)).mpr q)
        refine ww_blk xCC okX6_costsOf 48 2 (ps := []) (pc' := 78) (lv' := [(5, .int (sWi ((sSays tc r 1 p e) - (nI (r 4 p))) 0 999)), (4, .int (sSays tc r 1 p e)), (3, .int (nI (r 3 p))), (0, .ref 0), (1, .int (nI p)), (2, .int (nI e))]) (st' := [.int 4, .int (nI (r 3 p))]) (z' := zS1) rfl trivial ?_
        refine ww_br xCC okX6_costsOf 50 (P := (nI (r 3 p)) = 4) (t1 := 81) (t2 := 96) (r := []) rfl (fun c18 => ?_) (fun c18 => ?_)
        · skip
          replace c18 : (r 3 p) = 4 := (sEQ (a := (r 3 p)) (b := 4) (by omega) (by omega)).mp c18
          refine ww_blk xCC okX6_costsOf 51 5 (ps := [vp_in (nI e) 10]) (pc' := 89) (lv' := [(5, .int (sWi ((sSays tc r 1 p e) - (nI (r 4 p))) 0 999)), (4, .int (sSays tc r 1 p e)), (3, .int (nI (r 3 p))), (0, .ref 0), (1, .int (nI p)), (2, .int (nI e))]) (st' := [.int (zS1.1 5 (nI e).toNatClampNeg), .int (sWi ((sSays tc r 1 p e) - (nI (r 4 p))) 0 999)]) (z' := zS1) rfl (vp_in_nI (by omega) (by decide)) ?_
          rw [sCL (n := e) (by omega)]
          rw [hrS1.2.1 e]
          refine ww_callSNi xCC okX6_costsOf 56 (ix := 255) (t_X6_bitsOf l d (r 1 e) (Nat.lt_trans (hb e).2.1 (by decide)) _) (by omega) (by decide) xyX6_bitsOf xiX6_bitsOf (Or.inl (lw_gt_of (List.mem_of_getElem? (i := 1004) (by decide +kernel)) rfl)) rfl (rest := [.int (sWi ((sSays tc r 1 p e) - (nI (r 4 p))) 0 999)]) rfl (Nat.le_of_ble_eq_true rfl) rfl (fun v21 z19 h20 => ?_)
          rw [h20]
          refine ww_blk xCC okX6_costsOf 57 2 (ps := []) (pc' := 110) (lv' := [(5, .int (sWi ((sSays tc r 1 p e) - (nI (r 4 p))) 0 999)), (4, .int (sSays tc r 1 p e)), (3, .int (nI (r 3 p))), (0, .ref 0), (1, .int (nI p)), (2, .int (nI e))]) (st' := [.int ((sWi ((sSays tc r 1 p e) - (nI (r 4 p))) 0 999) + (nI (sPop (r 1 e))))]) (z' := zS1) rfl trivial ?_
          refine ww_blk xCC okX6_costsOf 67 2 (ps := []) (pc' := 114) (lv' := [(5, .int (sWi ((sSays tc r 1 p e) - (nI (r 4 p))) 0 999)), (4, .int (sSays tc r 1 p e)), (3, .int (nI (r 3 p))), (0, .ref 0), (1, .int (nI p)), (2, .int (nI e))]) (st' := [.int 999, .int 0, .int ((sWi ((sSays tc r 1 p e) - (nI (r 4 p))) 0 999) + (nI (sPop (r 1 e))))]) (z' := zS1) rfl trivial ?_
          refine ww_callSNi xCC okX6_costsOf 69 (ix := 258) (t_X6_within l d ((sWi ((sSays tc r 1 p e) - (nI (r 4 p))) 0 999) + (nI (sPop (r 1 e)))) 0 999 _) (by omega) (by decide) xyX6_within xiX6_within (Or.inl (lw_gt_of (List.mem_of_getElem? (i := 1082) (by decide +kernel)) rfl)) rfl (rest := []) rfl (Nat.le_of_ble_eq_true rfl) rfl (fun v24 z22 h23 => ?_)
          subst h23
          subst xhQ
          exact ww_iret xCC okX6_costsOf 70 xhr rfl rfl ⟨_, rfl, ⟨(by unfold sCosts; grind), hKS1⟩⟩
        · skip
          replace c18 : ¬ (r 3 p) = 4 := fun q => c18 ((sEQ (a := (r 3 p)) (b := 4) (by omega) (by omega)).mpr q)
          refine ww_blk xCC okX6_costsOf 59 2 (ps := []) (pc' := 98) (lv' := [(5, .int (sWi ((sSays tc r 1 p e) - (nI (r 4 p))) 0 999)), (4, .int (sSays tc r 1 p e)), (3, .int (nI (r 3 p))), (0, .ref 0), (1, .int (nI p)), (2, .int (nI e))]) (st' := [.int 5, .int (nI (r 3 p))]) (z' := zS1) rfl trivial ?_
          refine ww_br xCC okX6_costsOf 61 (P := (nI (r 3 p)) = 5) (t1 := 101) (t2 := 108) (r := []) rfl (fun c25 => ?_) (fun c25 => ?_)
          · skip
            replace c25 : (r 3 p) = 5 := (sEQ (a := (r 3 p)) (b := 5) (by omega) (by omega)).mp c25
            refine ww_blk xCC okX6_costsOf 62 4 (ps := []) (pc' := 110) (lv' := [(5, .int (sWi ((sSays tc r 1 p e) - (nI (r 4 p))) 0 999)), (4, .int (sSays tc r 1 p e)), (3, .int (nI (r 3 p))), (0, .ref 0), (1, .int (nI p)), (2, .int (nI e))]) (st' := [.int (2 * (sSays tc r 1 p e))]) (z' := zS1) rfl trivial ?_
            refine ww_blk xCC okX6_costsOf 67 2 (ps := []) (pc' := 114) (lv' := [(5, .int (sWi ((sSays tc r 1 p e) - (nI (r 4 p))) 0 999)), (4, .int (sSays tc r 1 p e)), (3, .int (nI (r 3 p))), (0, .ref 0), (1, .int (nI p)), (2, .int (nI e))]) (st' := [.int 999, .int 0, .int (2 * (sSays tc r 1 p e))]) (z' := zS1) rfl trivial ?_
            refine ww_callSNi xCC okX6_costsOf 69 (ix := 258) (t_X6_within l d (2 * (sSays tc r 1 p e)) 0 999 _) (by omega) (by decide) xyX6_within xiX6_within (Or.inl (lw_gt_of (List.mem_of_getElem? (i := 1082) (by decide +kernel)) rfl)) rfl (rest := []) rfl (Nat.le_of_ble_eq_true rfl) rfl (fun v28 z26 h27 => ?_)
            subst h27
            subst xhQ
            exact ww_iret xCC okX6_costsOf 70 xhr rfl rfl ⟨_, rfl, ⟨(by unfold sCosts; grind), hKS1⟩⟩
          · skip
            replace c25 : ¬ (r 3 p) = 5 := fun q => c25 ((sEQ (a := (r 3 p)) (b := 5) (by omega) (by omega)).mpr q)
            refine ww_blk xCC okX6_costsOf 66 3 (ps := []) (pc' := 114) (lv' := [(5, .int (sWi ((sSays tc r 1 p e) - (nI (r 4 p))) 0 999)), (4, .int (sSays tc r 1 p e)), (3, .int (nI (r 3 p))), (0, .ref 0), (1, .int (nI p)), (2, .int (nI e))]) (st' := [.int 999, .int 0, .int (sSays tc r 1 p e)]) (z' := zS1) rfl trivial ?_
            refine ww_callSNi xCC okX6_costsOf 69 (ix := 258) (t_X6_within l d (sSays tc r 1 p e) 0 999 _) (by omega) (by decide) xyX6_within xiX6_within (Or.inl (lw_gt_of (List.mem_of_getElem? (i := 1082) (by decide +kernel)) rfl)) rfl (rest := []) rfl (Nat.le_of_ble_eq_true rfl) rfl (fun v31 z29 h30 => ?_)
            subst h30
            subst xhQ
            exact ww_iret xCC okX6_costsOf 70 xhr rfl rfl ⟨_, rfl, ⟨(by unfold sCosts; grind), hKS1⟩⟩

set_option maxHeartbeats 4000000 in
set_option maxRecDepth 20000 in
theorem t_X6_sitsBy (l : Launch) (d : Nat) (p e : Nat) (z : xMem) (r : sR) (cnt : Nat) (tc : Nat → sTc) (hr : RM z r) (hw : sW r cnt) (ht : TM z cnt tc) (hp : p < 4) (he : e < 10) : XMi l (d + 309) yX6_sitsBy cX6_sitsBy 6 (some .int) shM [.ref 0, .int (nI p), .int (nI e)] z (fun v z' => v = sSits tc r p e ∧ KM z z') := by
  refine XM.of (by decide) (Nat.le_of_ble_eq_true rfl) (fun xp xe xs xm xar xbl xme xc xD xcs xad xAA xCC xhr => ?_)
  generalize xhQ : MQ xbl _ xar xs 0 0 xAA = xQ
  show ww xp l xe (xRm (d + 309)) xs xm xar xbl xme xc 6 xD xcs xad shM xAA xQ 0 [(0, .ref 0), (1, .int (nI p)), (2, .int (nI e))] [] z
  have hb := hw.1
  have hbe := hb e
  have hbp := hb p
  refine ww_blk xCC okX6_sitsBy 0 11 (ps := [vp_in ((4 * (nI p)) + 3) 16]) (pc' := 13) (lv' := [(3, .int (z.1 7 ((4 * (nI p)) + 3).toNatClampNeg)), (0, .ref 0), (1, .int (nI p)), (2, .int (nI e))]) (st' := [.int 1, .int (z.1 7 ((4 * (nI p)) + 3).toNatClampNeg)]) (z' := z) rfl (vp_43 (by omega)) ?_
  rw [show (4 : Int32) * nI p = nI (4 * p) from pk_mul 4 p]
  rw [show nI (4 * p) + 3 = nI (4 * p + 3) from nI_add (4 * p) 3]
  rw [sCL (n := (4 * p + 3)) (by omega)]
  rw [hr.2.2.2.2.2.2.1 p]
  refine ww_br xCC okX6_sitsBy 11 (P := (nI (r 3 p)) = 1) (t1 := 21) (t2 := 16) (r := []) rfl (fun c1 => ?_) (fun c1 => ?_)
  · skip
    replace c1 : (r 3 p) = 1 := (sEQ (a := (r 3 p)) (b := 1) (by omega) (by omega)).mp c1
    refine ww_blk xCC okX6_sitsBy 15 2 (ps := []) (pc' := 23) (lv' := [(3, .int (nI (r 3 p))), (0, .ref 0), (1, .int (nI p)), (2, .int (nI e))]) (st' := [.int 3, .int (nI (r 3 p))]) (z' := z) rfl trivial ?_
    refine ww_br xCC okX6_sitsBy 17 (P := (nI (r 3 p)) = 3) (t1 := 26) (t2 := 42) (r := []) rfl (fun c2 => ?_) (fun c2 => ?_)
    · skip
      replace c2 : (r 3 p) = 3 := (sEQ (a := (r 3 p)) (b := 3) (by omega) (by omega)).mp c2
      refine ww_blk xCC okX6_sitsBy 18 7 (ps := [vp_in (4 * (nI p)) 16]) (pc' := 35) (lv' := [(3, .int (nI (r 3 p))), (0, .ref 0), (1, .int (nI p)), (2, .int (nI e))]) (st' := [.int 5, .int (z.1 7 (4 * (nI p)).toNatClampNeg)]) (z' := z) rfl (vp_4 (by omega)) ?_
      rw [show (4 : Int32) * nI p = nI (4 * p) from pk_mul 4 p]
      rw [sCL (n := (4 * p)) (by omega)]
      rw [hr.2.2.2.1 p]
      refine ww_br xCC okX6_sitsBy 25 (P := 5 ≤ (nI (r 4 p))) (t1 := 42) (t2 := 38) (r := []) rfl (fun c3 => ?_) (fun c3 => ?_)
      · skip
        replace c3 : 5 ≤ (r 4 p) := (sLE (a := 5) (b := (r 4 p)) (by omega) (by omega)).mp c3
        refine ww_blk xCC okX6_sitsBy 28 1 (ps := []) (pc' := 43) (lv' := [(3, .int (nI (r 3 p))), (0, .ref 0), (1, .int (nI p)), (2, .int (nI e))]) (st' := [.int 0]) (z' := z) rfl trivial ?_
        subst xhQ
        exact ww_iret xCC okX6_sitsBy 29 xhr rfl rfl ⟨_, rfl, ⟨(by unfold sSits; grind), (KM_rf z)⟩⟩
      · skip
        replace c3 : ¬ 5 ≤ (r 4 p) := fun q => c3 ((sLE (a := 5) (b := (r 4 p)) (by omega) (by omega)).mpr q)
        refine ww_blk xCC okX6_sitsBy 26 2 (ps := []) (pc' := 43) (lv' := [(3, .int (nI (r 3 p))), (0, .ref 0), (1, .int (nI p)), (2, .int (nI e))]) (st' := [.int 1]) (z' := z) rfl trivial ?_
        subst xhQ
        exact ww_iret xCC okX6_sitsBy 29 xhr rfl rfl ⟨_, rfl, ⟨(by unfold sSits; grind), (KM_rf z)⟩⟩
    · skip
      replace c2 : ¬ (r 3 p) = 3 := fun q => c2 ((sEQ (a := (r 3 p)) (b := 3) (by omega) (by omega)).mpr q)
      refine ww_blk xCC okX6_sitsBy 28 1 (ps := []) (pc' := 43) (lv' := [(3, .int (nI (r 3 p))), (0, .ref 0), (1, .int (nI p)), (2, .int (nI e))]) (st' := [.int 0]) (z' := z) rfl trivial ?_
      subst xhQ
      exact ww_iret xCC okX6_sitsBy 29 xhr rfl rfl ⟨_, rfl, ⟨(by unfold sSits; grind), (KM_rf z)⟩⟩
  · skip
    replace c1 : ¬ (r 3 p) = 1 := fun q => c1 ((sEQ (a := (r 3 p)) (b := 1) (by omega) (by omega)).mpr q)
    refine ww_blk xCC okX6_sitsBy 12 2 (ps := []) (pc' := 18) (lv' := [(3, .int (nI (r 3 p))), (0, .ref 0), (1, .int (nI p)), (2, .int (nI e))]) (st' := [.int 3, .int (nI (r 3 p))]) (z' := z) rfl trivial ?_
    refine ww_br xCC okX6_sitsBy 14 (P := (nI (r 3 p)) = 3) (t1 := 21) (t2 := 44) (r := []) rfl (fun c4 => ?_) (fun c4 => ?_)
    · skip
      replace c4 : (r 3 p) = 3 := (sEQ (a := (r 3 p)) (b := 3) (by omega) (by omega)).mp c4
      refine ww_blk xCC okX6_sitsBy 15 2 (ps := []) (pc' := 23) (lv' := [(3, .int (nI (r 3 p))), (0, .ref 0), (1, .int (nI p)), (2, .int (nI e))]) (st' := [.int 3, .int (nI (r 3 p))]) (z' := z) rfl trivial ?_
      refine ww_br xCC okX6_sitsBy 17 (P := (nI (r 3 p)) = 3) (t1 := 26) (t2 := 42) (r := []) rfl (fun c5 => ?_) (fun c5 => ?_)
      · skip
        replace c5 : (r 3 p) = 3 := (sEQ (a := (r 3 p)) (b := 3) (by omega) (by omega)).mp c5
        refine ww_blk xCC okX6_sitsBy 18 7 (ps := [vp_in (4 * (nI p)) 16]) (pc' := 35) (lv' := [(3, .int (nI (r 3 p))), (0, .ref 0), (1, .int (nI p)), (2, .int (nI e))]) (st' := [.int 5, .int (z.1 7 (4 * (nI p)).toNatClampNeg)]) (z' := z) rfl (vp_4 (by omega)) ?_
        rw [show (4 : Int32) * nI p = nI (4 * p) from pk_mul 4 p]
        rw [sCL (n := (4 * p)) (by omega)]
        rw [hr.2.2.2.1 p]
        refine ww_br xCC okX6_sitsBy 25 (P := 5 ≤ (nI (r 4 p))) (t1 := 42) (t2 := 38) (r := []) rfl (fun c6 => ?_) (fun c6 => ?_)
        · skip
          replace c6 : 5 ≤ (r 4 p) := (sLE (a := 5) (b := (r 4 p)) (by omega) (by omega)).mp c6
          refine ww_blk xCC okX6_sitsBy 28 1 (ps := []) (pc' := 43) (lv' := [(3, .int (nI (r 3 p))), (0, .ref 0), (1, .int (nI p)), (2, .int (nI e))]) (st' := [.int 0]) (z' := z) rfl trivial ?_
          subst xhQ
          exact ww_iret xCC okX6_sitsBy 29 xhr rfl rfl ⟨_, rfl, ⟨(by unfold sSits; grind), (KM_rf z)⟩⟩
        · skip
          replace c6 : ¬ 5 ≤ (r 4 p) := fun q => c6 ((sLE (a := 5) (b := (r 4 p)) (by omega) (by omega)).mpr q)
          refine ww_blk xCC okX6_sitsBy 26 2 (ps := []) (pc' := 43) (lv' := [(3, .int (nI (r 3 p))), (0, .ref 0), (1, .int (nI p)), (2, .int (nI e))]) (st' := [.int 1]) (z' := z) rfl trivial ?_
          subst xhQ
          exact ww_iret xCC okX6_sitsBy 29 xhr rfl rfl ⟨_, rfl, ⟨(by unfold sSits; grind), (KM_rf z)⟩⟩
      · skip
        replace c5 : ¬ (r 3 p) = 3 := fun q => c5 ((sEQ (a := (r 3 p)) (b := 3) (by omega) (by omega)).mpr q)
        refine ww_blk xCC okX6_sitsBy 28 1 (ps := []) (pc' := 43) (lv' := [(3, .int (nI (r 3 p))), (0, .ref 0), (1, .int (nI p)), (2, .int (nI e))]) (st' := [.int 0]) (z' := z) rfl trivial ?_
        subst xhQ
        exact ww_iret xCC okX6_sitsBy 29 xhr rfl rfl ⟨_, rfl, ⟨(by unfold sSits; grind), (KM_rf z)⟩⟩
    · skip
      replace c4 : ¬ (r 3 p) = 3 := fun q => c4 ((sEQ (a := (r 3 p)) (b := 3) (by omega) (by omega)).mpr q)
      refine ww_blk xCC okX6_sitsBy 30 4 (ps := []) (pc' := 48) (lv' := [(3, .int (nI (r 3 p))), (0, .ref 0), (1, .int (nI p)), (2, .int (nI e))]) (st' := [.int (nI e), .int (nI p), .int 2, .ref 0]) (z' := z) rfl trivial ?_
      refine ww_callVIi xCC okX6_sitsBy 34 (ix := 262) (t_X6_says l d 2 p e z r cnt tc hr hw ht (by decide) (by omega) (by omega)) (by omega) (by decide) xyX6_says xiX6_says (Or.inl (lw_gt_of (List.mem_of_getElem? (i := 1000) (by decide +kernel)) rfl)) rfl rfl rfl (rest := []) rfl (Nat.le_of_ble_eq_true rfl) rfl (fun v8 zS7 hS7 => ?_)
      have hrS7 := RM_K hS7.2 hr
      have htS7 := TM_K hS7.2 ht
      have hKS7 := KM_tr (KM_rf z) hS7.2
      rw [hS7.1]
      refine ww_blk xCC okX6_sitsBy 35 3 (ps := []) (pc' := 56) (lv' := [(4, .int (sSays tc r 2 p e)), (3, .int (nI (r 3 p))), (0, .ref 0), (1, .int (nI p)), (2, .int (nI e))]) (st' := [.int 3, .int (sSays tc r 2 p e)]) (z' := zS7) rfl trivial ?_
      refine ww_br xCC okX6_sitsBy 38 (P := 3 ≤ (sSays tc r 2 p e)) (t1 := 64) (t2 := 59) (r := []) rfl (fun c9 => ?_) (fun c9 => ?_)
      · skip
        refine ww_blk xCC okX6_sitsBy 41 4 (ps := []) (pc' := 69) (lv' := [(5, .int 3), (4, .int (sSays tc r 2 p e)), (3, .int (nI (r 3 p))), (0, .ref 0), (1, .int (nI p)), (2, .int (nI e))]) (st' := [.int 2, .int (nI (r 3 p))]) (z' := zS7) rfl trivial ?_
        refine ww_br xCC okX6_sitsBy 45 (P := (nI (r 3 p)) = 2) (t1 := 72) (t2 := 77) (r := []) rfl (fun c10 => ?_) (fun c10 => ?_)
        · skip
          replace c10 : (r 3 p) = 2 := (sEQ (a := (r 3 p)) (b := 2) (by omega) (by omega)).mp c10
          refine ww_blk xCC okX6_sitsBy 46 2 (ps := []) (pc' := 111) (lv' := [(5, .int 3), (4, .int (sSays tc r 2 p e)), (3, .int (nI (r 3 p))), (0, .ref 0), (1, .int (nI p)), (2, .int (nI e))]) (st' := [.int 3]) (z' := zS7) rfl trivial ?_
          refine ww_blk xCC okX6_sitsBy 70 2 (ps := []) (pc' := 114) (lv' := [(5, .int 3), (4, .int (sSays tc r 2 p e)), (3, .int (nI (r 3 p))), (0, .ref 0), (1, .int (nI p)), (2, .int (nI e))]) (st' := [.int 99, .int 0, .int 3]) (z' := zS7) rfl trivial ?_
          refine ww_callSNi xCC okX6_sitsBy 72 (ix := 258) (t_X6_within l d 3 0 99 _) (by omega) (by decide) xyX6_within xiX6_within (Or.inl (lw_gt_of (List.mem_of_getElem? (i := 1082) (by decide +kernel)) rfl)) rfl (rest := []) rfl (Nat.le_of_ble_eq_true rfl) rfl (fun v13 z11 h12 => ?_)
          subst h12
          subst xhQ
          exact ww_iret xCC okX6_sitsBy 73 xhr rfl rfl ⟨_, rfl, ⟨(by unfold sSits; grind), hKS7⟩⟩
        · skip
          replace c10 : ¬ (r 3 p) = 2 := fun q => c10 ((sEQ (a := (r 3 p)) (b := 2) (by omega) (by omega)).mpr q)
          refine ww_blk xCC okX6_sitsBy 48 2 (ps := []) (pc' := 79) (lv' := [(5, .int 3), (4, .int (sSays tc r 2 p e)), (3, .int (nI (r 3 p))), (0, .ref 0), (1, .int (nI p)), (2, .int (nI e))]) (st' := [.int 4, .int (nI (r 3 p))]) (z' := zS7) rfl trivial ?_
          refine ww_br xCC okX6_sitsBy 50 (P := (nI (r 3 p)) = 4) (t1 := 82) (t2 := 89) (r := []) rfl (fun c14 => ?_) (fun c14 => ?_)
          · skip
            replace c14 : (r 3 p) = 4 := (sEQ (a := (r 3 p)) (b := 4) (by omega) (by omega)).mp c14
            refine ww_blk xCC okX6_sitsBy 51 4 (ps := []) (pc' := 111) (lv' := [(5, .int 3), (4, .int (sSays tc r 2 p e)), (3, .int (nI (r 3 p))), (0, .ref 0), (1, .int (nI p)), (2, .int (nI e))]) (st' := [.int (2 * 3)]) (z' := zS7) rfl trivial ?_
            refine ww_blk xCC okX6_sitsBy 70 2 (ps := []) (pc' := 114) (lv' := [(5, .int 3), (4, .int (sSays tc r 2 p e)), (3, .int (nI (r 3 p))), (0, .ref 0), (1, .int (nI p)), (2, .int (nI e))]) (st' := [.int 99, .int 0, .int (2 * 3)]) (z' := zS7) rfl trivial ?_
            refine ww_callSNi xCC okX6_sitsBy 72 (ix := 258) (t_X6_within l d (2 * 3) 0 99 _) (by omega) (by decide) xyX6_within xiX6_within (Or.inl (lw_gt_of (List.mem_of_getElem? (i := 1082) (by decide +kernel)) rfl)) rfl (rest := []) rfl (Nat.le_of_ble_eq_true rfl) rfl (fun v17 z15 h16 => ?_)
            subst h16
            subst xhQ
            exact ww_iret xCC okX6_sitsBy 73 xhr rfl rfl ⟨_, rfl, ⟨(by unfold sSits; grind), hKS7⟩⟩
          · skip
            replace c14 : ¬ (r 3 p) = 4 := fun q => c14 ((sEQ (a := (r 3 p)) (b := 4) (by omega) (by omega)).mpr q)
            refine ww_blk xCC okX6_sitsBy 55 2 (ps := []) (pc' := 91) (lv' := [(5, .int 3), (4, .int (sSays tc r 2 p e)), (3, .int (nI (r 3 p))), (0, .ref 0), (1, .int (nI p)), (2, .int (nI e))]) (st' := [.int 5, .int (nI (r 3 p))]) (z' := zS7) rfl trivial ?_
            refine ww_br xCC okX6_sitsBy 57 (P := (nI (r 3 p)) = 5) (t1 := 94) (t2 := 109) (r := []) rfl (fun c18 => ?_) (fun c18 => ?_)
            · skip
              replace c18 : (r 3 p) = 5 := (sEQ (a := (r 3 p)) (b := 5) (by omega) (by omega)).mp c18
              refine ww_blk xCC okX6_sitsBy 58 11 (ps := [vp_in ((4 * (nI p)) + 2) 16]) (pc' := 111) (lv' := [(5, .int 3), (4, .int (sSays tc r 2 p e)), (3, .int (nI (r 3 p))), (0, .ref 0), (1, .int (nI p)), (2, .int (nI e))]) (st' := [.int (1 + (zS7.1 7 ((4 * (nI p)) + 2).toNatClampNeg))]) (z' := zS7) rfl (vp_42 (by omega)) ?_
              rw [show (4 : Int32) * nI p = nI (4 * p) from pk_mul 4 p]
              rw [show nI (4 * p) + 2 = nI (4 * p + 2) from nI_add (4 * p) 2]
              rw [sCL (n := (4 * p + 2)) (by omega)]
              rw [hrS7.2.2.2.2.2.1 p]
              refine ww_blk xCC okX6_sitsBy 70 2 (ps := []) (pc' := 114) (lv' := [(5, .int 3), (4, .int (sSays tc r 2 p e)), (3, .int (nI (r 3 p))), (0, .ref 0), (1, .int (nI p)), (2, .int (nI e))]) (st' := [.int 99, .int 0, .int (1 + (nI (r 6 p)))]) (z' := zS7) rfl trivial ?_
              refine ww_callSNi xCC okX6_sitsBy 72 (ix := 258) (t_X6_within l d (1 + (nI (r 6 p))) 0 99 _) (by omega) (by decide) xyX6_within xiX6_within (Or.inl (lw_gt_of (List.mem_of_getElem? (i := 1082) (by decide +kernel)) rfl)) rfl (rest := []) rfl (Nat.le_of_ble_eq_true rfl) rfl (fun v21 z19 h20 => ?_)
              subst h20
              subst xhQ
              exact ww_iret xCC okX6_sitsBy 73 xhr rfl rfl ⟨_, rfl, ⟨(by unfold sSits; grind), hKS7⟩⟩
            · skip
              replace c18 : ¬ (r 3 p) = 5 := fun q => c18 ((sEQ (a := (r 3 p)) (b := 5) (by omega) (by omega)).mpr q)
              refine ww_blk xCC okX6_sitsBy 69 3 (ps := []) (pc' := 114) (lv' := [(5, .int 3), (4, .int (sSays tc r 2 p e)), (3, .int (nI (r 3 p))), (0, .ref 0), (1, .int (nI p)), (2, .int (nI e))]) (st' := [.int 99, .int 0, .int (sSays tc r 2 p e)]) (z' := zS7) rfl trivial ?_
              refine ww_callSNi xCC okX6_sitsBy 72 (ix := 258) (t_X6_within l d (sSays tc r 2 p e) 0 99 _) (by omega) (by decide) xyX6_within xiX6_within (Or.inl (lw_gt_of (List.mem_of_getElem? (i := 1082) (by decide +kernel)) rfl)) rfl (rest := []) rfl (Nat.le_of_ble_eq_true rfl) rfl (fun v24 z22 h23 => ?_)
              subst h23
              subst xhQ
              exact ww_iret xCC okX6_sitsBy 73 xhr rfl rfl ⟨_, rfl, ⟨(by unfold sSits; grind), hKS7⟩⟩
      · skip
        refine ww_blk xCC okX6_sitsBy 39 2 (ps := []) (pc' := 65) (lv' := [(4, .int (sSays tc r 2 p e)), (3, .int (nI (r 3 p))), (0, .ref 0), (1, .int (nI p)), (2, .int (nI e))]) (st' := [.int (sSays tc r 2 p e)]) (z' := zS7) rfl trivial ?_
        refine ww_blk xCC okX6_sitsBy 42 3 (ps := []) (pc' := 69) (lv' := [(5, .int (sSays tc r 2 p e)), (4, .int (sSays tc r 2 p e)), (3, .int (nI (r 3 p))), (0, .ref 0), (1, .int (nI p)), (2, .int (nI e))]) (st' := [.int 2, .int (nI (r 3 p))]) (z' := zS7) rfl trivial ?_
        refine ww_br xCC okX6_sitsBy 45 (P := (nI (r 3 p)) = 2) (t1 := 72) (t2 := 77) (r := []) rfl (fun c25 => ?_) (fun c25 => ?_)
        · skip
          replace c25 : (r 3 p) = 2 := (sEQ (a := (r 3 p)) (b := 2) (by omega) (by omega)).mp c25
          refine ww_blk xCC okX6_sitsBy 46 2 (ps := []) (pc' := 111) (lv' := [(5, .int (sSays tc r 2 p e)), (4, .int (sSays tc r 2 p e)), (3, .int (nI (r 3 p))), (0, .ref 0), (1, .int (nI p)), (2, .int (nI e))]) (st' := [.int (sSays tc r 2 p e)]) (z' := zS7) rfl trivial ?_
          refine ww_blk xCC okX6_sitsBy 70 2 (ps := []) (pc' := 114) (lv' := [(5, .int (sSays tc r 2 p e)), (4, .int (sSays tc r 2 p e)), (3, .int (nI (r 3 p))), (0, .ref 0), (1, .int (nI p)), (2, .int (nI e))]) (st' := [.int 99, .int 0, .int (sSays tc r 2 p e)]) (z' := zS7) rfl trivial ?_
          refine ww_callSNi xCC okX6_sitsBy 72 (ix := 258) (t_X6_within l d (sSays tc r 2 p e) 0 99 _) (by omega) (by decide) xyX6_within xiX6_within (Or.inl (lw_gt_of (List.mem_of_getElem? (i := 1082) (by decide +kernel)) rfl)) rfl (rest := []) rfl (Nat.le_of_ble_eq_true rfl) rfl (fun v28 z26 h27 => ?_)
          subst h27
          subst xhQ
          exact ww_iret xCC okX6_sitsBy 73 xhr rfl rfl ⟨_, rfl, ⟨(by unfold sSits; grind), hKS7⟩⟩
        · skip
          replace c25 : ¬ (r 3 p) = 2 := fun q => c25 ((sEQ (a := (r 3 p)) (b := 2) (by omega) (by omega)).mpr q)
          refine ww_blk xCC okX6_sitsBy 48 2 (ps := []) (pc' := 79) (lv' := [(5, .int (sSays tc r 2 p e)), (4, .int (sSays tc r 2 p e)), (3, .int (nI (r 3 p))), (0, .ref 0), (1, .int (nI p)), (2, .int (nI e))]) (st' := [.int 4, .int (nI (r 3 p))]) (z' := zS7) rfl trivial ?_
          refine ww_br xCC okX6_sitsBy 50 (P := (nI (r 3 p)) = 4) (t1 := 82) (t2 := 89) (r := []) rfl (fun c29 => ?_) (fun c29 => ?_)
          · skip
            replace c29 : (r 3 p) = 4 := (sEQ (a := (r 3 p)) (b := 4) (by omega) (by omega)).mp c29
            refine ww_blk xCC okX6_sitsBy 51 4 (ps := []) (pc' := 111) (lv' := [(5, .int (sSays tc r 2 p e)), (4, .int (sSays tc r 2 p e)), (3, .int (nI (r 3 p))), (0, .ref 0), (1, .int (nI p)), (2, .int (nI e))]) (st' := [.int (2 * (sSays tc r 2 p e))]) (z' := zS7) rfl trivial ?_
            refine ww_blk xCC okX6_sitsBy 70 2 (ps := []) (pc' := 114) (lv' := [(5, .int (sSays tc r 2 p e)), (4, .int (sSays tc r 2 p e)), (3, .int (nI (r 3 p))), (0, .ref 0), (1, .int (nI p)), (2, .int (nI e))]) (st' := [.int 99, .int 0, .int (2 * (sSays tc r 2 p e))]) (z' := zS7) rfl trivial ?_
            refine ww_callSNi xCC okX6_sitsBy 72 (ix := 258) (t_X6_within l d (2 * (sSays tc r 2 p e)) 0 99 _) (by omega) (by decide) xyX6_within xiX6_within (Or.inl (lw_gt_of (List.mem_of_getElem? (i := 1082) (by decide +kernel)) rfl)) rfl (rest := []) rfl (Nat.le_of_ble_eq_true rfl) rfl (fun v32 z30 h31 => ?_)
            subst h31
            subst xhQ
            exact ww_iret xCC okX6_sitsBy 73 xhr rfl rfl ⟨_, rfl, ⟨(by unfold sSits; grind), hKS7⟩⟩
          · skip
            replace c29 : ¬ (r 3 p) = 4 := fun q => c29 ((sEQ (a := (r 3 p)) (b := 4) (by omega) (by omega)).mpr q)
            refine ww_blk xCC okX6_sitsBy 55 2 (ps := []) (pc' := 91) (lv' := [(5, .int (sSays tc r 2 p e)), (4, .int (sSays tc r 2 p e)), (3, .int (nI (r 3 p))), (0, .ref 0), (1, .int (nI p)), (2, .int (nI e))]) (st' := [.int 5, .int (nI (r 3 p))]) (z' := zS7) rfl trivial ?_
            refine ww_br xCC okX6_sitsBy 57 (P := (nI (r 3 p)) = 5) (t1 := 94) (t2 := 109) (r := []) rfl (fun c33 => ?_) (fun c33 => ?_)
            · skip
              replace c33 : (r 3 p) = 5 := (sEQ (a := (r 3 p)) (b := 5) (by omega) (by omega)).mp c33
              refine ww_blk xCC okX6_sitsBy 58 11 (ps := [vp_in ((4 * (nI p)) + 2) 16]) (pc' := 111) (lv' := [(5, .int (sSays tc r 2 p e)), (4, .int (sSays tc r 2 p e)), (3, .int (nI (r 3 p))), (0, .ref 0), (1, .int (nI p)), (2, .int (nI e))]) (st' := [.int (1 + (zS7.1 7 ((4 * (nI p)) + 2).toNatClampNeg))]) (z' := zS7) rfl (vp_42 (by omega)) ?_
              rw [show (4 : Int32) * nI p = nI (4 * p) from pk_mul 4 p]
              rw [show nI (4 * p) + 2 = nI (4 * p + 2) from nI_add (4 * p) 2]
              rw [sCL (n := (4 * p + 2)) (by omega)]
              rw [hrS7.2.2.2.2.2.1 p]
              refine ww_blk xCC okX6_sitsBy 70 2 (ps := []) (pc' := 114) (lv' := [(5, .int (sSays tc r 2 p e)), (4, .int (sSays tc r 2 p e)), (3, .int (nI (r 3 p))), (0, .ref 0), (1, .int (nI p)), (2, .int (nI e))]) (st' := [.int 99, .int 0, .int (1 + (nI (r 6 p)))]) (z' := zS7) rfl trivial ?_
              refine ww_callSNi xCC okX6_sitsBy 72 (ix := 258) (t_X6_within l d (1 + (nI (r 6 p))) 0 99 _) (by omega) (by decide) xyX6_within xiX6_within (Or.inl (lw_gt_of (List.mem_of_getElem? (i := 1082) (by decide +kernel)) rfl)) rfl (rest := []) rfl (Nat.le_of_ble_eq_true rfl) rfl (fun v36 z34 h35 => ?_)
              subst h35
              subst xhQ
              exact ww_iret xCC okX6_sitsBy 73 xhr rfl rfl ⟨_, rfl, ⟨(by unfold sSits; grind), hKS7⟩⟩
            · skip
              replace c33 : ¬ (r 3 p) = 5 := fun q => c33 ((sEQ (a := (r 3 p)) (b := 5) (by omega) (by omega)).mpr q)
              refine ww_blk xCC okX6_sitsBy 69 3 (ps := []) (pc' := 114) (lv' := [(5, .int (sSays tc r 2 p e)), (4, .int (sSays tc r 2 p e)), (3, .int (nI (r 3 p))), (0, .ref 0), (1, .int (nI p)), (2, .int (nI e))]) (st' := [.int 99, .int 0, .int (sSays tc r 2 p e)]) (z' := zS7) rfl trivial ?_
              refine ww_callSNi xCC okX6_sitsBy 72 (ix := 258) (t_X6_within l d (sSays tc r 2 p e) 0 99 _) (by omega) (by decide) xyX6_within xiX6_within (Or.inl (lw_gt_of (List.mem_of_getElem? (i := 1082) (by decide +kernel)) rfl)) rfl (rest := []) rfl (Nat.le_of_ble_eq_true rfl) rfl (fun v39 z37 h38 => ?_)
              subst h38
              subst xhQ
              exact ww_iret xCC okX6_sitsBy 73 xhr rfl rfl ⟨_, rfl, ⟨(by unfold sSits; grind), hKS7⟩⟩
