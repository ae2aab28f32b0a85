/-! the model's dares, can, canSet -/
theorem sBit1 : ∀ i, i < 10 → ∀ a, a < 256 → (((nI a >>> (nI i &&& 31)) &&& 1 = 1) ↔ a.testBit i = true) := by decide +kernel
theorem fa_and (a b : Nat) : nI a &&& nI b = nI (a &&& b) := by
  apply Int32.toBitVec_inj.1
  show BitVec.ofNat 32 a &&& BitVec.ofNat 32 b = BitVec.ofNat 32 (a &&& b)
  apply BitVec.eq_of_getLsbD_eq
  intro i hi
  simp [hi]
theorem fa_or (a b : Nat) : nI a ||| nI b = nI (a ||| b) := by
  apply Int32.toBitVec_inj.1
  show BitVec.ofNat 32 a ||| BitVec.ofNat 32 b = BitVec.ofNat 32 (a ||| b)
  apply BitVec.eq_of_getLsbD_eq
  intro i hi
  simp [hi]
/-- whether one would (kinds: 0 plain, 1 .. 5) -/
def sDares (tc : Nat → sTc) (r : sR) (p e : Nat) : Bool :=
  if r 3 p = 4 then (sSays tc r 0 p e != 0 && decide (r 2 e < 20)) || sLa r e 8
  else if r 3 p = 5 then sSays tc r 0 p e != 0 || decide (r 1 e &&& sAl (r 0) 8 = 0)
  else if r 3 p = 1 then sSays tc r 0 p e != 0 || (r 1 e).testBit (r 4 p)
  else if r 3 p = 2 then sSays tc r 0 p e != 0 && decide (r 2 e < 20)
  else if r 3 p = 3 ∧ r 7 2 % 2 = 1 then sSays tc r 0 p e != 0 || (r 1 e).testBit (r 4 p)
  else sSays tc r 0 p e != 0
def sCan (tc : Nat → sTc) (r : sR) (p e : Nat) : Bool := decide (r 5 p = 0) && sDares tc r p e
def sCf (tc : Nat → sTc) (r : sR) (p e : Nat) : Nat := if sCan tc r p e = true then 1 else 0
set_option maxHeartbeats 4000000 in
set_option maxRecDepth 20000 in
theorem t_X6_dares (l : Launch) (d : Nat) (p e : Nat) (z : xMem) (r : sR) (cnt : Nat) (tc : Nat → sTc) (hr : RM z r) (hw : sW r cnt) (ht : TM z cnt tc) (hp : p < 4) (he : e < 10) : XMz l (d + 309) yX6_dares cX6_dares 7 (some .boolean) shM [.ref 0, .int (nI p), .int (nI e)] z (fun z' => sDares tc r p e = true ∧ KM z z') (fun z' => sDares tc r p e = false ∧ KM z z') := by
  refine XM.of (by decide) (Nat.le_of_ble_eq_true rfl) (fun xp xe xs xm xar xbl xme xc xD xcs xad xAA xCC xhr => ?_)
  generalize xhQ : MQ xbl _ xar xs 0 0 xAA = xQ
  show ww xp l xe (xRm (d + 309)) xs xm xar xbl xme xc 7 xD xcs xad shM xAA xQ 0 [(0, .ref 0), (1, .int (nI p)), (2, .int (nI e))] [] z
  have hb := hw.1
  have hbe := hb e
  have hbp := hb p
  have hy := hw.2.2.2.2.1
  have hand := Nat.and_le_left (n := r 1 e) (m := sAl (r 0) 8)
  refine ww_blk xCC okX6_dares 0 13 (ps := [vp_in ((4 * (nI p)) + 3) 16]) (pc' := 15) (lv' := [(3, .int (z.1 7 ((4 * (nI p)) + 3).toNatClampNeg)), (0, .ref 0), (1, .int (nI p)), (2, .int (nI e))]) (st' := [.int (nI e), .int (nI p), .int 0, .ref 0]) (z' := z) rfl (vp_43 (by omega)) ?_
  rw [show (4 : Int32) * nI p = nI (4 * p) from pk_mul 4 p]
  rw [show nI (4 * p) + 3 = nI (4 * p + 3) from nI_add (4 * p) 3]
  rw [sCL (n := (4 * p + 3)) (by omega)]
  rw [hr.2.2.2.2.2.2.1 p]
  refine ww_callVIi xCC okX6_dares 13 (ix := 262) (t_X6_says l d 0 p e z r cnt tc hr hw ht (by decide) (by omega) (by omega)) (by omega) (by decide) xyX6_says xiX6_says (Or.inl (lw_gt_of (List.mem_of_getElem? (i := 1000) (by decide +kernel)) rfl)) rfl rfl rfl (rest := []) rfl (Nat.le_of_ble_eq_true rfl) rfl (fun v2 zS1 hS1 => ?_)
  have hrS1 := RM_K hS1.2 hr
  have htS1 := TM_K hS1.2 ht
  have hKS1 := KM_tr (KM_rf z) hS1.2
  rw [hS1.1]
  refine ww_br xCC okX6_dares 14 (P := (sSays tc r 0 p e) = 0) (t1 := 25) (t2 := 21) (r := []) rfl (fun c3 => ?_) (fun c3 => ?_)
  · skip
    refine ww_blk xCC okX6_dares 17 3 (ps := []) (pc' := 30) (lv' := [(4, .int 0), (3, .int (nI (r 3 p))), (0, .ref 0), (1, .int (nI p)), (2, .int (nI e))]) (st' := [.int 0]) (z' := zS1) rfl trivial ?_
    refine ww_br xCC okX6_dares 20 (P := 0 = 0) (t1 := 33) (t2 := 54) (r := []) rfl (fun _ => ?_) (fun q => absurd (by decide) q)
    refine ww_blk xCC okX6_dares 21 14 (ps := [vp_in (nI e) 10, vp_in (4 * (nI p)) 16]) (pc' := 51) (lv' := [(4, .int 0), (3, .int (nI (r 3 p))), (0, .ref 0), (1, .int (nI p)), (2, .int (nI e))]) (st' := [.int 1, .int (((zS1.1 5 (nI e).toNatClampNeg) >>> ((zS1.1 7 (4 * (nI p)).toNatClampNeg) &&& 31)) &&& 1)]) (z' := zS1) rfl ⟨(vp_in_nI (by omega) (by decide)), (vp_4 (by omega))⟩ ?_
    rw [sCL (n := e) (by omega)]
    rw [show (4 : Int32) * nI p = nI (4 * p) from pk_mul 4 p]
    rw [sCL (n := (4 * p)) (by omega)]
    rw [hrS1.2.1 e]
    rw [hrS1.2.2.2.1 p]
    refine ww_br xCC okX6_dares 35 (P := (((nI (r 1 e)) >>> ((nI (r 4 p)) &&& 31)) &&& 1) = 1) (t1 := 54) (t2 := 58) (r := []) rfl (fun c5 => ?_) (fun c5 => ?_)
    · skip
      replace c5 := (sBit1 (r 4 p) (by omega) (r 1 e) (by omega)).mp c5
      refine ww_blk xCC okX6_dares 36 2 (ps := []) (pc' := 59) (lv' := [(4, .int 0), (3, .int (nI (r 3 p))), (0, .ref 0), (1, .int (nI p)), (2, .int (nI e))]) (st' := [.int 1]) (z' := zS1) rfl trivial ?_
      refine ww_blk xCC okX6_dares 39 2 (ps := []) (pc' := 63) (lv' := [(5, .int 1), (4, .int 0), (3, .int (nI (r 3 p))), (0, .ref 0), (1, .int (nI p)), (2, .int (nI e))]) (st' := [.int 0]) (z' := zS1) rfl trivial ?_
      refine ww_br xCC okX6_dares 41 (P := 0 = 0) (t1 := 81) (t2 := 66) (r := []) rfl (fun _ => ?_) (fun q => absurd (by decide) q)
      refine ww_blk xCC okX6_dares 50 4 (ps := []) (pc' := 86) (lv' := [(6, .int 0), (5, .int 1), (4, .int 0), (3, .int (nI (r 3 p))), (0, .ref 0), (1, .int (nI p)), (2, .int (nI e))]) (st' := [.int 4, .int (nI (r 3 p))]) (z' := zS1) rfl trivial ?_
      refine ww_br xCC okX6_dares 54 (P := (nI (r 3 p)) = 4) (t1 := 94) (t2 := 89) (r := []) rfl (fun c7 => ?_) (fun c7 => ?_)
      · skip
        replace c7 : (r 3 p) = 4 := (sEQ (a := (r 3 p)) (b := 4) (by omega) (by omega)).mp c7
        refine ww_blk xCC okX6_dares 58 2 (ps := []) (pc' := 96) (lv' := [(6, .int 0), (5, .int 1), (4, .int 0), (3, .int (nI (r 3 p))), (0, .ref 0), (1, .int (nI p)), (2, .int (nI e))]) (st' := [.int 4, .int (nI (r 3 p))]) (z' := zS1) rfl trivial ?_
        refine ww_br xCC okX6_dares 60 (P := (nI (r 3 p)) = 4) (t1 := 99) (t2 := 120) (r := []) rfl (fun c8 => ?_) (fun c8 => ?_)
        · skip
          replace c8 : (r 3 p) = 4 := (sEQ (a := (r 3 p)) (b := 4) (by omega) (by omega)).mp c8
          refine ww_blk xCC okX6_dares 61 1 (ps := []) (pc' := 101) (lv' := [(6, .int 0), (5, .int 1), (4, .int 0), (3, .int (nI (r 3 p))), (0, .ref 0), (1, .int (nI p)), (2, .int (nI e))]) (st' := [.int 0]) (z' := zS1) rfl trivial ?_
          refine ww_br xCC okX6_dares 62 (P := 0 = 0) (t1 := 104) (t2 := 112) (r := []) rfl (fun _ => ?_) (fun q => absurd (by decide) q)
          refine ww_blk xCC okX6_dares 63 2 (ps := []) (pc' := 106) (lv' := [(6, .int 0), (5, .int 1), (4, .int 0), (3, .int (nI (r 3 p))), (0, .ref 0), (1, .int (nI p)), (2, .int (nI e))]) (st' := [.int (nI e), .ref 0]) (z' := zS1) rfl trivial ?_
          refine ww_callVIz xCC okX6_dares 65 (ix := 265) (t_X6_isLastCall l d e zS1 r cnt hrS1 hw (by omega)) (by omega) (by decide) xyX6_isLastCall xiX6_isLastCall (Or.inl (lw_gt_of (List.mem_of_getElem? (i := 1085) (by decide +kernel)) rfl)) rfl rfl rfl (rest := []) rfl (Nat.le_of_ble_eq_true rfl) rfl (fun z10 h11 => ?_) (fun z10 h11 => ?_)
          · skip
            rw [h11.2]
            replace h11 := h11.1
            refine ww_br xCC okX6_dares 66 (P := 1 = 0) (t1 := 116) (t2 := 112) (r := []) rfl (fun q => absurd q (by decide)) (fun _ => ?_)
            refine ww_blk xCC okX6_dares 67 2 (ps := []) (pc' := 144) (lv' := [(6, .int 0), (5, .int 1), (4, .int 0), (3, .int (nI (r 3 p))), (0, .ref 0), (1, .int (nI p)), (2, .int (nI e))]) (st' := [.int 1]) (z' := zS1) rfl trivial ?_
            subst xhQ
            exact ww_iret xCC okX6_dares 84 xhr rfl (by decide) (Or.inl ⟨rfl, ⟨(by unfold sDares; grind), hKS1⟩⟩)
          · skip
            rw [h11.2]
            replace h11 := h11.1
            refine ww_br xCC okX6_dares 66 (P := 0 = 0) (t1 := 116) (t2 := 112) (r := []) rfl (fun _ => ?_) (fun q => absurd (by decide) q)
            refine ww_blk xCC okX6_dares 69 2 (ps := []) (pc' := 144) (lv' := [(6, .int 0), (5, .int 1), (4, .int 0), (3, .int (nI (r 3 p))), (0, .ref 0), (1, .int (nI p)), (2, .int (nI e))]) (st' := [.int 0]) (z' := zS1) rfl trivial ?_
            subst xhQ
            exact ww_iret xCC okX6_dares 84 xhr rfl (by decide) (Or.inr ⟨rfl, ⟨(by unfold sDares; grind), hKS1⟩⟩)
        · skip
          replace c8 : ¬ (r 3 p) = 4 := fun q => c8 ((sEQ (a := (r 3 p)) (b := 4) (by omega) (by omega)).mpr q)
          refine ww_blk xCC okX6_dares 71 1 (ps := []) (pc' := 122) (lv' := [(6, .int 0), (5, .int 1), (4, .int 0), (3, .int (nI (r 3 p))), (0, .ref 0), (1, .int (nI p)), (2, .int (nI e))]) (st' := [.int 0]) (z' := zS1) rfl trivial ?_
          refine ww_br xCC okX6_dares 72 (P := 0 = 0) (t1 := 125) (t2 := 139) (r := []) rfl (fun _ => ?_) (fun q => absurd (by decide) q)
          refine ww_blk xCC okX6_dares 73 5 (ps := [vp_in (nI e) 10]) (pc' := 132) (lv' := [(6, .int 0), (5, .int 1), (4, .int 0), (3, .int (nI (r 3 p))), (0, .ref 0), (1, .int (nI p)), (2, .int (nI e))]) (st' := [.ref 0, .int (zS1.1 5 (nI e).toNatClampNeg)]) (z' := zS1) rfl (vp_in_nI (by omega) (by decide)) ?_
          rw [sCL (n := e) (by omega)]
          rw [hrS1.2.1 e]
          refine ww_callVIi xCC okX6_dares 78 (ix := 119) (t_X6_alive l d zS1 (r 0) hrS1.1 (fun j => Nat.lt_of_le_of_lt (hb j).1 (by decide))) (by omega) (by decide) xyX6_alive xiX6_alive (Or.inl (lw_gt_of (List.mem_of_getElem? (i := 1007) (by decide +kernel)) rfl)) rfl rfl rfl (rest := [.int (nI (r 1 e))]) rfl (Nat.le_of_ble_eq_true rfl) rfl (fun v17 z15 h16 => ?_)
          rw [h16.1, h16.2]
          refine ww_blk xCC okX6_dares 79 1 (ps := []) (pc' := 136) (lv' := [(6, .int 0), (5, .int 1), (4, .int 0), (3, .int (nI (r 3 p))), (0, .ref 0), (1, .int (nI p)), (2, .int (nI e))]) (st' := [.int ((nI (r 1 e)) &&& (nI (sAl (r 0) 8)))]) (z' := zS1) rfl trivial ?_
          rw [fa_and (r 1 e) (sAl (r 0) 8)]
          refine ww_br xCC okX6_dares 80 (P := (nI ((r 1 e) &&& (sAl (r 0) 8))) = 0) (t1 := 139) (t2 := 143) (r := []) rfl (fun c18 => ?_) (fun c18 => ?_)
          · skip
            replace c18 : ((r 1 e) &&& (sAl (r 0) 8)) = 0 := (sEQ (a := ((r 1 e) &&& (sAl (r 0) 8))) (b := 0) (by omega) (by omega)).mp c18
            refine ww_blk xCC okX6_dares 81 2 (ps := []) (pc' := 144) (lv' := [(6, .int 0), (5, .int 1), (4, .int 0), (3, .int (nI (r 3 p))), (0, .ref 0), (1, .int (nI p)), (2, .int (nI e))]) (st' := [.int 1]) (z' := zS1) rfl trivial ?_
            subst xhQ
            exact ww_iret xCC okX6_dares 84 xhr rfl (by decide) (Or.inl ⟨rfl, ⟨(by unfold sDares; grind), hKS1⟩⟩)
          · skip
            replace c18 : ¬ ((r 1 e) &&& (sAl (r 0) 8)) = 0 := fun q => c18 ((sEQ (a := ((r 1 e) &&& (sAl (r 0) 8))) (b := 0) (by omega) (by omega)).mpr q)
            refine ww_blk xCC okX6_dares 83 1 (ps := []) (pc' := 144) (lv' := [(6, .int 0), (5, .int 1), (4, .int 0), (3, .int (nI (r 3 p))), (0, .ref 0), (1, .int (nI p)), (2, .int (nI e))]) (st' := [.int 0]) (z' := zS1) rfl trivial ?_
            subst xhQ
            exact ww_iret xCC okX6_dares 84 xhr rfl (by decide) (Or.inr ⟨rfl, ⟨(by unfold sDares; grind), hKS1⟩⟩)
      · skip
        replace c7 : ¬ (r 3 p) = 4 := fun q => c7 ((sEQ (a := (r 3 p)) (b := 4) (by omega) (by omega)).mpr q)
        refine ww_blk xCC okX6_dares 55 2 (ps := []) (pc' := 91) (lv' := [(6, .int 0), (5, .int 1), (4, .int 0), (3, .int (nI (r 3 p))), (0, .ref 0), (1, .int (nI p)), (2, .int (nI e))]) (st' := [.int 5, .int (nI (r 3 p))]) (z' := zS1) rfl trivial ?_
        refine ww_br xCC okX6_dares 57 (P := (nI (r 3 p)) = 5) (t1 := 94) (t2 := 145) (r := []) rfl (fun c19 => ?_) (fun c19 => ?_)
        · skip
          replace c19 : (r 3 p) = 5 := (sEQ (a := (r 3 p)) (b := 5) (by omega) (by omega)).mp c19
          refine ww_blk xCC okX6_dares 58 2 (ps := []) (pc' := 96) (lv' := [(6, .int 0), (5, .int 1), (4, .int 0), (3, .int (nI (r 3 p))), (0, .ref 0), (1, .int (nI p)), (2, .int (nI e))]) (st' := [.int 4, .int (nI (r 3 p))]) (z' := zS1) rfl trivial ?_
          refine ww_br xCC okX6_dares 60 (P := (nI (r 3 p)) = 4) (t1 := 99) (t2 := 120) (r := []) rfl (fun c20 => ?_) (fun c20 => ?_)
          · skip
            replace c20 : (r 3 p) = 4 := (sEQ (a := (r 3 p)) (b := 4) (by omega) (by omega)).mp c20
            refine ww_blk xCC okX6_dares 61 1 (ps := []) (pc' := 101) (lv' := [(6, .int 0), (5, .int 1), (4, .int 0), (3, .int (nI (r 3 p))), (0, .ref 0), (1, .int (nI p)), (2, .int (nI e))]) (st' := [.int 0]) (z' := zS1) rfl trivial ?_
            refine ww_br xCC okX6_dares 62 (P := 0 = 0) (t1 := 104) (t2 := 112) (r := []) rfl (fun _ => ?_) (fun q => absurd (by decide) q)
            refine ww_blk xCC okX6_dares 63 2 (ps := []) (pc' := 106) (lv' := [(6, .int 0), (5, .int 1), (4, .int 0), (3, .int (nI (r 3 p))), (0, .ref 0), (1, .int (nI p)), (2, .int (nI e))]) (st' := [.int (nI e), .ref 0]) (z' := zS1) rfl trivial ?_
            refine ww_callVIz xCC okX6_dares 65 (ix := 265) (t_X6_isLastCall l d e zS1 r cnt hrS1 hw (by omega)) (by omega) (by decide) xyX6_isLastCall xiX6_isLastCall (Or.inl (lw_gt_of (List.mem_of_getElem? (i := 1085) (by decide +kernel)) rfl)) rfl rfl rfl (rest := []) rfl (Nat.le_of_ble_eq_true rfl) rfl (fun z22 h23 => ?_) (fun z22 h23 => ?_)
            · skip
              rw [h23.2]
              replace h23 := h23.1
              refine ww_br xCC okX6_dares 66 (P := 1 = 0) (t1 := 116) (t2 := 112) (r := []) rfl (fun q => absurd q (by decide)) (fun _ => ?_)
              refine ww_blk xCC okX6_dares 67 2 (ps := []) (pc' := 144) (lv' := [(6, .int 0), (5, .int 1), (4, .int 0), (3, .int (nI (r 3 p))), (0, .ref 0), (1, .int (nI p)), (2, .int (nI e))]) (st' := [.int 1]) (z' := zS1) rfl trivial ?_
              subst xhQ
              exact ww_iret xCC okX6_dares 84 xhr rfl (by decide) (Or.inl ⟨rfl, ⟨(by unfold sDares; grind), hKS1⟩⟩)
            · skip
              rw [h23.2]
              replace h23 := h23.1
              refine ww_br xCC okX6_dares 66 (P := 0 = 0) (t1 := 116) (t2 := 112) (r := []) rfl (fun _ => ?_) (fun q => absurd (by decide) q)
              refine ww_blk xCC okX6_dares 69 2 (ps := []) (pc' := 144) (lv' := [(6, .int 0), (5, .int 1), (4, .int 0), (3, .int (nI (r 3 p))), (0, .ref 0), (1, .int (nI p)), (2, .int (nI e))]) (st' := [.int 0]) (z' := zS1) rfl trivial ?_
              subst xhQ
              exact ww_iret xCC okX6_dares 84 xhr rfl (by decide) (Or.inr ⟨rfl, ⟨(by unfold sDares; grind), hKS1⟩⟩)
          · skip
            replace c20 : ¬ (r 3 p) = 4 := fun q => c20 ((sEQ (a := (r 3 p)) (b := 4) (by omega) (by omega)).mpr q)
            refine ww_blk xCC okX6_dares 71 1 (ps := []) (pc' := 122) (lv' := [(6, .int 0), (5, .int 1), (4, .int 0), (3, .int (nI (r 3 p))), (0, .ref 0), (1, .int (nI p)), (2, .int (nI e))]) (st' := [.int 0]) (z' := zS1) rfl trivial ?_
            refine ww_br xCC okX6_dares 72 (P := 0 = 0) (t1 := 125) (t2 := 139) (r := []) rfl (fun _ => ?_) (fun q => absurd (by decide) q)
            refine ww_blk xCC okX6_dares 73 5 (ps := [vp_in (nI e) 10]) (pc' := 132) (lv' := [(6, .int 0), (5, .int 1), (4, .int 0), (3, .int (nI (r 3 p))), (0, .ref 0), (1, .int (nI p)), (2, .int (nI e))]) (st' := [.ref 0, .int (zS1.1 5 (nI e).toNatClampNeg)]) (z' := zS1) rfl (vp_in_nI (by omega) (by decide)) ?_
            rw [sCL (n := e) (by omega)]
            rw [hrS1.2.1 e]
            refine ww_callVIi xCC okX6_dares 78 (ix := 119) (t_X6_alive l d zS1 (r 0) hrS1.1 (fun j => Nat.lt_of_le_of_lt (hb j).1 (by decide))) (by omega) (by decide) xyX6_alive xiX6_alive (Or.inl (lw_gt_of (List.mem_of_getElem? (i := 1007) (by decide +kernel)) rfl)) rfl rfl rfl (rest := [.int (nI (r 1 e))]) rfl (Nat.le_of_ble_eq_true rfl) rfl (fun v29 z27 h28 => ?_)
            rw [h28.1, h28.2]
            refine ww_blk xCC okX6_dares 79 1 (ps := []) (pc' := 136) (lv' := [(6, .int 0), (5, .int 1), (4, .int 0), (3, .int (nI (r 3 p))), (0, .ref 0), (1, .int (nI p)), (2, .int (nI e))]) (st' := [.int ((nI (r 1 e)) &&& (nI (sAl (r 0) 8)))]) (z' := zS1) rfl trivial ?_
            rw [fa_and (r 1 e) (sAl (r 0) 8)]
            refine ww_br xCC okX6_dares 80 (P := (nI ((r 1 e) &&& (sAl (r 0) 8))) = 0) (t1 := 139) (t2 := 143) (r := []) rfl (fun c30 => ?_) (fun c30 => ?_)
            · skip
              replace c30 : ((r 1 e) &&& (sAl (r 0) 8)) = 0 := (sEQ (a := ((r 1 e) &&& (sAl (r 0) 8))) (b := 0) (by omega) (by omega)).mp c30
              refine ww_blk xCC okX6_dares 81 2 (ps := []) (pc' := 144) (lv' := [(6, .int 0), (5, .int 1), (4, .int 0), (3, .int (nI (r 3 p))), (0, .ref 0), (1, .int (nI p)), (2, .int (nI e))]) (st' := [.int 1]) (z' := zS1) rfl trivial ?_
              subst xhQ
              exact ww_iret xCC okX6_dares 84 xhr rfl (by decide) (Or.inl ⟨rfl, ⟨(by unfold sDares; grind), hKS1⟩⟩)
            · skip
              replace c30 : ¬ ((r 1 e) &&& (sAl (r 0) 8)) = 0 := fun q => c30 ((sEQ (a := ((r 1 e) &&& (sAl (r 0) 8))) (b := 0) (by omega) (by omega)).mpr q)
              refine ww_blk xCC okX6_dares 83 1 (ps := []) (pc' := 144) (lv' := [(6, .int 0), (5, .int 1), (4, .int 0), (3, .int (nI (r 3 p))), (0, .ref 0), (1, .int (nI p)), (2, .int (nI e))]) (st' := [.int 0]) (z' := zS1) rfl trivial ?_
              subst xhQ
              exact ww_iret xCC okX6_dares 84 xhr rfl (by decide) (Or.inr ⟨rfl, ⟨(by unfold sDares; grind), hKS1⟩⟩)
        · skip
          replace c19 : ¬ (r 3 p) = 5 := fun q => c19 ((sEQ (a := (r 3 p)) (b := 5) (by omega) (by omega)).mpr q)
          refine ww_blk xCC okX6_dares 85 2 (ps := []) (pc' := 147) (lv' := [(6, .int 0), (5, .int 1), (4, .int 0), (3, .int (nI (r 3 p))), (0, .ref 0), (1, .int (nI p)), (2, .int (nI e))]) (st' := [.int 1, .int (nI (r 3 p))]) (z' := zS1) rfl trivial ?_
          refine ww_br xCC okX6_dares 87 (P := (nI (r 3 p)) = 1) (t1 := 150) (t2 := 155) (r := []) rfl (fun c31 => ?_) (fun c31 => ?_)
          · skip
            replace c31 : (r 3 p) = 1 := (sEQ (a := (r 3 p)) (b := 1) (by omega) (by omega)).mp c31
            refine ww_blk xCC okX6_dares 88 2 (ps := []) (pc' := 187) (lv' := [(6, .int 0), (5, .int 1), (4, .int 0), (3, .int (nI (r 3 p))), (0, .ref 0), (1, .int (nI p)), (2, .int (nI e))]) (st' := [.int 1]) (z' := zS1) rfl trivial ?_
            subst xhQ
            exact ww_iret xCC okX6_dares 107 xhr rfl (by decide) (Or.inl ⟨rfl, ⟨(by unfold sDares; grind), hKS1⟩⟩)
          · skip
            replace c31 : ¬ (r 3 p) = 1 := fun q => c31 ((sEQ (a := (r 3 p)) (b := 1) (by omega) (by omega)).mpr q)
            refine ww_blk xCC okX6_dares 90 2 (ps := []) (pc' := 157) (lv' := [(6, .int 0), (5, .int 1), (4, .int 0), (3, .int (nI (r 3 p))), (0, .ref 0), (1, .int (nI p)), (2, .int (nI e))]) (st' := [.int 2, .int (nI (r 3 p))]) (z' := zS1) rfl trivial ?_
            refine ww_br xCC okX6_dares 92 (P := (nI (r 3 p)) = 2) (t1 := 160) (t2 := 165) (r := []) rfl (fun c32 => ?_) (fun c32 => ?_)
            · skip
              replace c32 : (r 3 p) = 2 := (sEQ (a := (r 3 p)) (b := 2) (by omega) (by omega)).mp c32
              refine ww_blk xCC okX6_dares 93 2 (ps := []) (pc' := 187) (lv' := [(6, .int 0), (5, .int 1), (4, .int 0), (3, .int (nI (r 3 p))), (0, .ref 0), (1, .int (nI p)), (2, .int (nI e))]) (st' := [.int 0]) (z' := zS1) rfl trivial ?_
              subst xhQ
              exact ww_iret xCC okX6_dares 107 xhr rfl (by decide) (Or.inr ⟨rfl, ⟨(by unfold sDares; grind), hKS1⟩⟩)
            · skip
              replace c32 : ¬ (r 3 p) = 2 := fun q => c32 ((sEQ (a := (r 3 p)) (b := 2) (by omega) (by omega)).mpr q)
              refine ww_blk xCC okX6_dares 95 2 (ps := []) (pc' := 167) (lv' := [(6, .int 0), (5, .int 1), (4, .int 0), (3, .int (nI (r 3 p))), (0, .ref 0), (1, .int (nI p)), (2, .int (nI e))]) (st' := [.int 3, .int (nI (r 3 p))]) (z' := zS1) rfl trivial ?_
              refine ww_br xCC okX6_dares 97 (P := (nI (r 3 p)) = 3) (t1 := 170) (t2 := 185) (r := []) rfl (fun c33 => ?_) (fun c33 => ?_)
              · skip
                replace c33 : (r 3 p) = 3 := (sEQ (a := (r 3 p)) (b := 3) (by omega) (by omega)).mp c33
                refine ww_blk xCC okX6_dares 98 5 (ps := [¬ 2 = 0]) (pc' := 177) (lv' := [(6, .int 0), (5, .int 1), (4, .int 0), (3, .int (nI (r 3 p))), (0, .ref 0), (1, .int (nI p)), (2, .int (nI e))]) (st' := [.int 1, .int ((zS1.1 0 8) - (zS1.1 0 8) / 2 * 2)]) (z' := zS1) rfl (show ¬ (2 : Int32) = 0 by decide) ?_
                rw [hrS1.2.2.2.2.2.2.2.2.2.1]
                rw [show nI (r 7 2) - nI (r 7 2) / 2 * 2 = nI (r 7 2 % 2) from pk_rem (by omega) (by decide) (by decide)]
                refine ww_br xCC okX6_dares 103 (P := (nI (r 7 2 % 2)) = 1) (t1 := 180) (t2 := 185) (r := []) rfl (fun c34 => ?_) (fun c34 => ?_)
                · skip
                  replace c34 : (r 7 2 % 2) = 1 := (sEQ (a := (r 7 2 % 2)) (b := 1) (by omega) (by omega)).mp c34
                  refine ww_blk xCC okX6_dares 104 2 (ps := []) (pc' := 187) (lv' := [(6, .int 0), (5, .int 1), (4, .int 0), (3, .int (nI (r 3 p))), (0, .ref 0), (1, .int (nI p)), (2, .int (nI e))]) (st' := [.int 1]) (z' := zS1) rfl trivial ?_
                  subst xhQ
                  exact ww_iret xCC okX6_dares 107 xhr rfl (by decide) (Or.inl ⟨rfl, ⟨(by unfold sDares; grind), hKS1⟩⟩)
                · skip
                  replace c34 : ¬ (r 7 2 % 2) = 1 := fun q => c34 ((sEQ (a := (r 7 2 % 2)) (b := 1) (by omega) (by omega)).mpr q)
                  refine ww_blk xCC okX6_dares 106 1 (ps := []) (pc' := 187) (lv' := [(6, .int 0), (5, .int 1), (4, .int 0), (3, .int (nI (r 3 p))), (0, .ref 0), (1, .int (nI p)), (2, .int (nI e))]) (st' := [.int 0]) (z' := zS1) rfl trivial ?_
                  subst xhQ
                  exact ww_iret xCC okX6_dares 107 xhr rfl (by decide) (Or.inr ⟨rfl, ⟨(by unfold sDares; grind), hKS1⟩⟩)
              · skip
                replace c33 : ¬ (r 3 p) = 3 := fun q => c33 ((sEQ (a := (r 3 p)) (b := 3) (by omega) (by omega)).mpr q)
                refine ww_blk xCC okX6_dares 106 1 (ps := []) (pc' := 187) (lv' := [(6, .int 0), (5, .int 1), (4, .int 0), (3, .int (nI (r 3 p))), (0, .ref 0), (1, .int (nI p)), (2, .int (nI e))]) (st' := [.int 0]) (z' := zS1) rfl trivial ?_
                subst xhQ
                exact ww_iret xCC okX6_dares 107 xhr rfl (by decide) (Or.inr ⟨rfl, ⟨(by unfold sDares; grind), hKS1⟩⟩)
    · skip
      replace c5 := (Bool.eq_false_or_eq_true _).resolve_left (fun q => c5 ((sBit1 (r 4 p) (by omega) (r 1 e) (by omega)).mpr q))
      refine ww_blk xCC okX6_dares 38 3 (ps := []) (pc' := 63) (lv' := [(5, .int 0), (4, .int 0), (3, .int (nI (r 3 p))), (0, .ref 0), (1, .int (nI p)), (2, .int (nI e))]) (st' := [.int 0]) (z' := zS1) rfl trivial ?_
      refine ww_br xCC okX6_dares 41 (P := 0 = 0) (t1 := 81) (t2 := 66) (r := []) rfl (fun _ => ?_) (fun q => absurd (by decide) q)
      refine ww_blk xCC okX6_dares 50 4 (ps := []) (pc' := 86) (lv' := [(6, .int 0), (5, .int 0), (4, .int 0), (3, .int (nI (r 3 p))), (0, .ref 0), (1, .int (nI p)), (2, .int (nI e))]) (st' := [.int 4, .int (nI (r 3 p))]) (z' := zS1) rfl trivial ?_
      refine ww_br xCC okX6_dares 54 (P := (nI (r 3 p)) = 4) (t1 := 94) (t2 := 89) (r := []) rfl (fun c36 => ?_) (fun c36 => ?_)
      · skip
        replace c36 : (r 3 p) = 4 := (sEQ (a := (r 3 p)) (b := 4) (by omega) (by omega)).mp c36
        refine ww_blk xCC okX6_dares 58 2 (ps := []) (pc' := 96) (lv' := [(6, .int 0), (5, .int 0), (4, .int 0), (3, .int (nI (r 3 p))), (0, .ref 0), (1, .int (nI p)), (2, .int (nI e))]) (st' := [.int 4, .int (nI (r 3 p))]) (z' := zS1) rfl trivial ?_
        refine ww_br xCC okX6_dares 60 (P := (nI (r 3 p)) = 4) (t1 := 99) (t2 := 120) (r := []) rfl (fun c37 => ?_) (fun c37 => ?_)
        · skip
          replace c37 : (r 3 p) = 4 := (sEQ (a := (r 3 p)) (b := 4) (by omega) (by omega)).mp c37
          refine ww_blk xCC okX6_dares 61 1 (ps := []) (pc' := 101) (lv' := [(6, .int 0), (5, .int 0), (4, .int 0), (3, .int (nI (r 3 p))), (0, .ref 0), (1, .int (nI p)), (2, .int (nI e))]) (st' := [.int 0]) (z' := zS1) rfl trivial ?_
          refine ww_br xCC okX6_dares 62 (P := 0 = 0) (t1 := 104) (t2 := 112) (r := []) rfl (fun _ => ?_) (fun q => absurd (by decide) q)
          refine ww_blk xCC okX6_dares 63 2 (ps := []) (pc' := 106) (lv' := [(6, .int 0), (5, .int 0), (4, .int 0), (3, .int (nI (r 3 p))), (0, .ref 0), (1, .int (nI p)), (2, .int (nI e))]) (st' := [.int (nI e), .ref 0]) (z' := zS1) rfl trivial ?_
          refine ww_callVIz xCC okX6_dares 65 (ix := 265) (t_X6_isLastCall l d e zS1 r cnt hrS1 hw (by omega)) (by omega) (by decide) xyX6_isLastCall xiX6_isLastCall (Or.inl (lw_gt_of (List.mem_of_getElem? (i := 1085) (by decide +kernel)) rfl)) rfl rfl rfl (rest := []) rfl (Nat.le_of_ble_eq_true rfl) rfl (fun z39 h40 => ?_) (fun z39 h40 => ?_)
          · skip
            rw [h40.2]
            replace h40 := h40.1
            refine ww_br xCC okX6_dares 66 (P := 1 = 0) (t1 := 116) (t2 := 112) (r := []) rfl (fun q => absurd q (by decide)) (fun _ => ?_)
            refine ww_blk xCC okX6_dares 67 2 (ps := []) (pc' := 144) (lv' := [(6, .int 0), (5, .int 0), (4, .int 0), (3, .int (nI (r 3 p))), (0, .ref 0), (1, .int (nI p)), (2, .int (nI e))]) (st' := [.int 1]) (z' := zS1) rfl trivial ?_
            subst xhQ
            exact ww_iret xCC okX6_dares 84 xhr rfl (by decide) (Or.inl ⟨rfl, ⟨(by unfold sDares; grind), hKS1⟩⟩)
          · skip
            rw [h40.2]
            replace h40 := h40.1
            refine ww_br xCC okX6_dares 66 (P := 0 = 0) (t1 := 116) (t2 := 112) (r := []) rfl (fun _ => ?_) (fun q => absurd (by decide) q)
            refine ww_blk xCC okX6_dares 69 2 (ps := []) (pc' := 144) (lv' := [(6, .int 0), (5, .int 0), (4, .int 0), (3, .int (nI (r 3 p))), (0, .ref 0), (1, .int (nI p)), (2, .int (nI e))]) (st' := [.int 0]) (z' := zS1) rfl trivial ?_
            subst xhQ
            exact ww_iret xCC okX6_dares 84 xhr rfl (by decide) (Or.inr ⟨rfl, ⟨(by unfold sDares; grind), hKS1⟩⟩)
        · skip
          replace c37 : ¬ (r 3 p) = 4 := fun q => c37 ((sEQ (a := (r 3 p)) (b := 4) (by omega) (by omega)).mpr q)
          refine ww_blk xCC okX6_dares 71 1 (ps := []) (pc' := 122) (lv' := [(6, .int 0), (5, .int 0), (4, .int 0), (3, .int (nI (r 3 p))), (0, .ref 0), (1, .int (nI p)), (2, .int (nI e))]) (st' := [.int 0]) (z' := zS1) rfl trivial ?_
          refine ww_br xCC okX6_dares 72 (P := 0 = 0) (t1 := 125) (t2 := 139) (r := []) rfl (fun _ => ?_) (fun q => absurd (by decide) q)
          refine ww_blk xCC okX6_dares 73 5 (ps := [vp_in (nI e) 10]) (pc' := 132) (lv' := [(6, .int 0), (5, .int 0), (4, .int 0), (3, .int (nI (r 3 p))), (0, .ref 0), (1, .int (nI p)), (2, .int (nI e))]) (st' := [.ref 0, .int (zS1.1 5 (nI e).toNatClampNeg)]) (z' := zS1) rfl (vp_in_nI (by omega) (by decide)) ?_
          rw [sCL (n := e) (by omega)]
          rw [hrS1.2.1 e]
          refine ww_callVIi xCC okX6_dares 78 (ix := 119) (t_X6_alive l d zS1 (r 0) hrS1.1 (fun j => Nat.lt_of_le_of_lt (hb j).1 (by decide))) (by omega) (by decide) xyX6_alive xiX6_alive (Or.inl (lw_gt_of (List.mem_of_getElem? (i := 1007) (by decide +kernel)) rfl)) rfl rfl rfl (rest := [.int (nI (r 1 e))]) rfl (Nat.le_of_ble_eq_true rfl) rfl (fun v46 z44 h45 => ?_)
          rw [h45.1, h45.2]
          refine ww_blk xCC okX6_dares 79 1 (ps := []) (pc' := 136) (lv' := [(6, .int 0), (5, .int 0), (4, .int 0), (3, .int (nI (r 3 p))), (0, .ref 0), (1, .int (nI p)), (2, .int (nI e))]) (st' := [.int ((nI (r 1 e)) &&& (nI (sAl (r 0) 8)))]) (z' := zS1) rfl trivial ?_
          rw [fa_and (r 1 e) (sAl (r 0) 8)]
          refine ww_br xCC okX6_dares 80 (P := (nI ((r 1 e) &&& (sAl (r 0) 8))) = 0) (t1 := 139) (t2 := 143) (r := []) rfl (fun c47 => ?_) (fun c47 => ?_)
          · skip
            replace c47 : ((r 1 e) &&& (sAl (r 0) 8)) = 0 := (sEQ (a := ((r 1 e) &&& (sAl (r 0) 8))) (b := 0) (by omega) (by omega)).mp c47
            refine ww_blk xCC okX6_dares 81 2 (ps := []) (pc' := 144) (lv' := [(6, .int 0), (5, .int 0), (4, .int 0), (3, .int (nI (r 3 p))), (0, .ref 0), (1, .int (nI p)), (2, .int (nI e))]) (st' := [.int 1]) (z' := zS1) rfl trivial ?_
            subst xhQ
            exact ww_iret xCC okX6_dares 84 xhr rfl (by decide) (Or.inl ⟨rfl, ⟨(by unfold sDares; grind), hKS1⟩⟩)
          · skip
            replace c47 : ¬ ((r 1 e) &&& (sAl (r 0) 8)) = 0 := fun q => c47 ((sEQ (a := ((r 1 e) &&& (sAl (r 0) 8))) (b := 0) (by omega) (by omega)).mpr q)
            refine ww_blk xCC okX6_dares 83 1 (ps := []) (pc' := 144) (lv' := [(6, .int 0), (5, .int 0), (4, .int 0), (3, .int (nI (r 3 p))), (0, .ref 0), (1, .int (nI p)), (2, .int (nI e))]) (st' := [.int 0]) (z' := zS1) rfl trivial ?_
            subst xhQ
            exact ww_iret xCC okX6_dares 84 xhr rfl (by decide) (Or.inr ⟨rfl, ⟨(by unfold sDares; grind), hKS1⟩⟩)
      · skip
        replace c36 : ¬ (r 3 p) = 4 := fun q => c36 ((sEQ (a := (r 3 p)) (b := 4) (by omega) (by omega)).mpr q)
        refine ww_blk xCC okX6_dares 55 2 (ps := []) (pc' := 91) (lv' := [(6, .int 0), (5, .int 0), (4, .int 0), (3, .int (nI (r 3 p))), (0, .ref 0), (1, .int (nI p)), (2, .int (nI e))]) (st' := [.int 5, .int (nI (r 3 p))]) (z' := zS1) rfl trivial ?_
        refine ww_br xCC okX6_dares 57 (P := (nI (r 3 p)) = 5) (t1 := 94) (t2 := 145) (r := []) rfl (fun c48 => ?_) (fun c48 => ?_)
        · skip
          replace c48 : (r 3 p) = 5 := (sEQ (a := (r 3 p)) (b := 5) (by omega) (by omega)).mp c48
          refine ww_blk xCC okX6_dares 58 2 (ps := []) (pc' := 96) (lv' := [(6, .int 0), (5, .int 0), (4, .int 0), (3, .int (nI (r 3 p))), (0, .ref 0), (1, .int (nI p)), (2, .int (nI e))]) (st' := [.int 4, .int (nI (r 3 p))]) (z' := zS1) rfl trivial ?_
          refine ww_br xCC okX6_dares 60 (P := (nI (r 3 p)) = 4) (t1 := 99) (t2 := 120) (r := []) rfl (fun c49 => ?_) (fun c49 => ?_)
          · skip
            replace c49 : (r 3 p) = 4 := (sEQ (a := (r 3 p)) (b := 4) (by omega) (by omega)).mp c49
            refine ww_blk xCC okX6_dares 61 1 (ps := []) (pc' := 101) (lv' := [(6, .int 0), (5, .int 0), (4, .int 0), (3, .int (nI (r 3 p))), (0, .ref 0), (1, .int (nI p)), (2, .int (nI e))]) (st' := [.int 0]) (z' := zS1) rfl trivial ?_
            refine ww_br xCC okX6_dares 62 (P := 0 = 0) (t1 := 104) (t2 := 112) (r := []) rfl (fun _ => ?_) (fun q => absurd (by decide) q)
            refine ww_blk xCC okX6_dares 63 2 (ps := []) (pc' := 106) (lv' := [(6, .int 0), (5, .int 0), (4, .int 0), (3, .int (nI (r 3 p))), (0, .ref 0), (1, .int (nI p)), (2, .int (nI e))]) (st' := [.int (nI e), .ref 0]) (z' := zS1) rfl trivial ?_
            refine ww_callVIz xCC okX6_dares 65 (ix := 265) (t_X6_isLastCall l d e zS1 r cnt hrS1 hw (by omega)) (by omega) (by decide) xyX6_isLastCall xiX6_isLastCall (Or.inl (lw_gt_of (List.mem_of_getElem? (i := 1085) (by decide +kernel)) rfl)) rfl rfl rfl (rest := []) rfl (Nat.le_of_ble_eq_true rfl) rfl (fun z51 h52 => ?_) (fun z51 h52 => ?_)
            · skip
              rw [h52.2]
              replace h52 := h52.1
              refine ww_br xCC okX6_dares 66 (P := 1 = 0) (t1 := 116) (t2 := 112) (r := []) rfl (fun q => absurd q (by decide)) (fun _ => ?_)
              refine ww_blk xCC okX6_dares 67 2 (ps := []) (pc' := 144) (lv' := [(6, .int 0), (5, .int 0), (4, .int 0), (3, .int (nI (r 3 p))), (0, .ref 0), (1, .int (nI p)), (2, .int (nI e))]) (st' := [.int 1]) (z' := zS1) rfl trivial ?_
              subst xhQ
              exact ww_iret xCC okX6_dares 84 xhr rfl (by decide) (Or.inl ⟨rfl, ⟨(by unfold sDares; grind), hKS1⟩⟩)
            · skip
              rw [h52.2]
              replace h52 := h52.1
              refine ww_br xCC okX6_dares 66 (P := 0 = 0) (t1 := 116) (t2 := 112) (r := []) rfl (fun _ => ?_) (fun q => absurd (by decide) q)
              refine ww_blk xCC okX6_dares 69 2 (ps := []) (pc' := 144) (lv' := [(6, .int 0), (5, .int 0), (4, .int 0), (3, .int (nI (r 3 p))), (0, .ref 0), (1, .int (nI p)), (2, .int (nI e))]) (st' := [.int 0]) (z' := zS1) rfl trivial ?_
              subst xhQ
              exact ww_iret xCC okX6_dares 84 xhr rfl (by decide) (Or.inr ⟨rfl, ⟨(by unfold sDares; grind), hKS1⟩⟩)
          · skip
            replace c49 : ¬ (r 3 p) = 4 := fun q => c49 ((sEQ (a := (r 3 p)) (b := 4) (by omega) (by omega)).mpr q)
            refine ww_blk xCC okX6_dares 71 1 (ps := []) (pc' := 122) (lv' := [(6, .int 0), (5, .int 0), (4, .int 0), (3, .int (nI (r 3 p))), (0, .ref 0), (1, .int (nI p)), (2, .int (nI e))]) (st' := [.int 0]) (z' := zS1) rfl trivial ?_
            refine ww_br xCC okX6_dares 72 (P := 0 = 0) (t1 := 125) (t2 := 139) (r := []) rfl (fun _ => ?_) (fun q => absurd (by decide) q)
            refine ww_blk xCC okX6_dares 73 5 (ps := [vp_in (nI e) 10]) (pc' := 132) (lv' := [(6, .int 0), (5, .int 0), (4, .int 0), (3, .int (nI (r 3 p))), (0, .ref 0), (1, .int (nI p)), (2, .int (nI e))]) (st' := [.ref 0, .int (zS1.1 5 (nI e).toNatClampNeg)]) (z' := zS1) rfl (vp_in_nI (by omega) (by decide)) ?_
            rw [sCL (n := e) (by omega)]
            rw [hrS1.2.1 e]
            refine ww_callVIi xCC okX6_dares 78 (ix := 119) (t_X6_alive l d zS1 (r 0) hrS1.1 (fun j => Nat.lt_of_le_of_lt (hb j).1 (by decide))) (by omega) (by decide) xyX6_alive xiX6_alive (Or.inl (lw_gt_of (List.mem_of_getElem? (i := 1007) (by decide +kernel)) rfl)) rfl rfl rfl (rest := [.int (nI (r 1 e))]) rfl (Nat.le_of_ble_eq_true rfl) rfl (fun v58 z56 h57 => ?_)
            rw [h57.1, h57.2]
            refine ww_blk xCC okX6_dares 79 1 (ps := []) (pc' := 136) (lv' := [(6, .int 0), (5, .int 0), (4, .int 0), (3, .int (nI (r 3 p))), (0, .ref 0), (1, .int (nI p)), (2, .int (nI e))]) (st' := [.int ((nI (r 1 e)) &&& (nI (sAl (r 0) 8)))]) (z' := zS1) rfl trivial ?_
            rw [fa_and (r 1 e) (sAl (r 0) 8)]
            refine ww_br xCC okX6_dares 80 (P := (nI ((r 1 e) &&& (sAl (r 0) 8))) = 0) (t1 := 139) (t2 := 143) (r := []) rfl (fun c59 => ?_) (fun c59 => ?_)
            · skip
              replace c59 : ((r 1 e) &&& (sAl (r 0) 8)) = 0 := (sEQ (a := ((r 1 e) &&& (sAl (r 0) 8))) (b := 0) (by omega) (by omega)).mp c59
              refine ww_blk xCC okX6_dares 81 2 (ps := []) (pc' := 144) (lv' := [(6, .int 0), (5, .int 0), (4, .int 0), (3, .int (nI (r 3 p))), (0, .ref 0), (1, .int (nI p)), (2, .int (nI e))]) (st' := [.int 1]) (z' := zS1) rfl trivial ?_
              subst xhQ
              exact ww_iret xCC okX6_dares 84 xhr rfl (by decide) (Or.inl ⟨rfl, ⟨(by unfold sDares; grind), hKS1⟩⟩)
            · skip
              replace c59 : ¬ ((r 1 e) &&& (sAl (r 0) 8)) = 0 := fun q => c59 ((sEQ (a := ((r 1 e) &&& (sAl (r 0) 8))) (b := 0) (by omega) (by omega)).mpr q)
              refine ww_blk xCC okX6_dares 83 1 (ps := []) (pc' := 144) (lv' := [(6, .int 0), (5, .int 0), (4, .int 0), (3, .int (nI (r 3 p))), (0, .ref 0), (1, .int (nI p)), (2, .int (nI e))]) (st' := [.int 0]) (z' := zS1) rfl trivial ?_
              subst xhQ
              exact ww_iret xCC okX6_dares 84 xhr rfl (by decide) (Or.inr ⟨rfl, ⟨(by unfold sDares; grind), hKS1⟩⟩)
        · skip
          replace c48 : ¬ (r 3 p) = 5 := fun q => c48 ((sEQ (a := (r 3 p)) (b := 5) (by omega) (by omega)).mpr q)
          refine ww_blk xCC okX6_dares 85 2 (ps := []) (pc' := 147) (lv' := [(6, .int 0), (5, .int 0), (4, .int 0), (3, .int (nI (r 3 p))), (0, .ref 0), (1, .int (nI p)), (2, .int (nI e))]) (st' := [.int 1, .int (nI (r 3 p))]) (z' := zS1) rfl trivial ?_
          refine ww_br xCC okX6_dares 87 (P := (nI (r 3 p)) = 1) (t1 := 150) (t2 := 155) (r := []) rfl (fun c60 => ?_) (fun c60 => ?_)
          · skip
            replace c60 : (r 3 p) = 1 := (sEQ (a := (r 3 p)) (b := 1) (by omega) (by omega)).mp c60
            refine ww_blk xCC okX6_dares 88 2 (ps := []) (pc' := 187) (lv' := [(6, .int 0), (5, .int 0), (4, .int 0), (3, .int (nI (r 3 p))), (0, .ref 0), (1, .int (nI p)), (2, .int (nI e))]) (st' := [.int 0]) (z' := zS1) rfl trivial ?_
            subst xhQ
            exact ww_iret xCC okX6_dares 107 xhr rfl (by decide) (Or.inr ⟨rfl, ⟨(by unfold sDares; grind), hKS1⟩⟩)
          · skip
            replace c60 : ¬ (r 3 p) = 1 := fun q => c60 ((sEQ (a := (r 3 p)) (b := 1) (by omega) (by omega)).mpr q)
            refine ww_blk xCC okX6_dares 90 2 (ps := []) (pc' := 157) (lv' := [(6, .int 0), (5, .int 0), (4, .int 0), (3, .int (nI (r 3 p))), (0, .ref 0), (1, .int (nI p)), (2, .int (nI e))]) (st' := [.int 2, .int (nI (r 3 p))]) (z' := zS1) rfl trivial ?_
            refine ww_br xCC okX6_dares 92 (P := (nI (r 3 p)) = 2) (t1 := 160) (t2 := 165) (r := []) rfl (fun c61 => ?_) (fun c61 => ?_)
            · skip
              replace c61 : (r 3 p) = 2 := (sEQ (a := (r 3 p)) (b := 2) (by omega) (by omega)).mp c61
              refine ww_blk xCC okX6_dares 93 2 (ps := []) (pc' := 187) (lv' := [(6, .int 0), (5, .int 0), (4, .int 0), (3, .int (nI (r 3 p))), (0, .ref 0), (1, .int (nI p)), (2, .int (nI e))]) (st' := [.int 0]) (z' := zS1) rfl trivial ?_
              subst xhQ
              exact ww_iret xCC okX6_dares 107 xhr rfl (by decide) (Or.inr ⟨rfl, ⟨(by unfold sDares; grind), hKS1⟩⟩)
            · skip
              replace c61 : ¬ (r 3 p) = 2 := fun q => c61 ((sEQ (a := (r 3 p)) (b := 2) (by omega) (by omega)).mpr q)
              refine ww_blk xCC okX6_dares 95 2 (ps := []) (pc' := 167) (lv' := [(6, .int 0), (5, .int 0), (4, .int 0), (3, .int (nI (r 3 p))), (0, .ref 0), (1, .int (nI p)), (2, .int (nI e))]) (st' := [.int 3, .int (nI (r 3 p))]) (z' := zS1) rfl trivial ?_
              refine ww_br xCC okX6_dares 97 (P := (nI (r 3 p)) = 3) (t1 := 170) (t2 := 185) (r := []) rfl (fun c62 => ?_) (fun c62 => ?_)
              · skip
                replace c62 : (r 3 p) = 3 := (sEQ (a := (r 3 p)) (b := 3) (by omega) (by omega)).mp c62
                refine ww_blk xCC okX6_dares 98 5 (ps := [¬ 2 = 0]) (pc' := 177) (lv' := [(6, .int 0), (5, .int 0), (4, .int 0), (3, .int (nI (r 3 p))), (0, .ref 0), (1, .int (nI p)), (2, .int (nI e))]) (st' := [.int 1, .int ((zS1.1 0 8) - (zS1.1 0 8) / 2 * 2)]) (z' := zS1) rfl (show ¬ (2 : Int32) = 0 by decide) ?_
                rw [hrS1.2.2.2.2.2.2.2.2.2.1]
                rw [show nI (r 7 2) - nI (r 7 2) / 2 * 2 = nI (r 7 2 % 2) from pk_rem (by omega) (by decide) (by decide)]
                refine ww_br xCC okX6_dares 103 (P := (nI (r 7 2 % 2)) = 1) (t1 := 180) (t2 := 185) (r := []) rfl (fun c63 => ?_) (fun c63 => ?_)
                · skip
                  replace c63 : (r 7 2 % 2) = 1 := (sEQ (a := (r 7 2 % 2)) (b := 1) (by omega) (by omega)).mp c63
                  refine ww_blk xCC okX6_dares 104 2 (ps := []) (pc' := 187) (lv' := [(6, .int 0), (5, .int 0), (4, .int 0), (3, .int (nI (r 3 p))), (0, .ref 0), (1, .int (nI p)), (2, .int (nI e))]) (st' := [.int 0]) (z' := zS1) rfl trivial ?_
                  subst xhQ
                  exact ww_iret xCC okX6_dares 107 xhr rfl (by decide) (Or.inr ⟨rfl, ⟨(by unfold sDares; grind), hKS1⟩⟩)
                · skip
                  replace c63 : ¬ (r 7 2 % 2) = 1 := fun q => c63 ((sEQ (a := (r 7 2 % 2)) (b := 1) (by omega) (by omega)).mpr q)
                  refine ww_blk xCC okX6_dares 106 1 (ps := []) (pc' := 187) (lv' := [(6, .int 0), (5, .int 0), (4, .int 0), (3, .int (nI (r 3 p))), (0, .ref 0), (1, .int (nI p)), (2, .int (nI e))]) (st' := [.int 0]) (z' := zS1) rfl trivial ?_
                  subst xhQ
                  exact ww_iret xCC okX6_dares 107 xhr rfl (by decide) (Or.inr ⟨rfl, ⟨(by unfold sDares; grind), hKS1⟩⟩)
              · skip
                replace c62 : ¬ (r 3 p) = 3 := fun q => c62 ((sEQ (a := (r 3 p)) (b := 3) (by omega) (by omega)).mpr q)
                refine ww_blk xCC okX6_dares 106 1 (ps := []) (pc' := 187) (lv' := [(6, .int 0), (5, .int 0), (4, .int 0), (3, .int (nI (r 3 p))), (0, .ref 0), (1, .int (nI p)), (2, .int (nI e))]) (st' := [.int 0]) (z' := zS1) rfl trivial ?_
                subst xhQ
                exact ww_iret xCC okX6_dares 107 xhr rfl (by decide) (Or.inr ⟨rfl, ⟨(by unfold sDares; grind), hKS1⟩⟩)
  · skip
    refine ww_blk xCC okX6_dares 15 2 (ps := []) (pc' := 26) (lv' := [(3, .int (nI (r 3 p))), (0, .ref 0), (1, .int (nI p)), (2, .int (nI e))]) (st' := [.int 1]) (z' := zS1) rfl trivial ?_
    refine ww_blk xCC okX6_dares 18 2 (ps := []) (pc' := 30) (lv' := [(4, .int 1), (3, .int (nI (r 3 p))), (0, .ref 0), (1, .int (nI p)), (2, .int (nI e))]) (st' := [.int 1]) (z' := zS1) rfl trivial ?_
    refine ww_br xCC okX6_dares 20 (P := 1 = 0) (t1 := 33) (t2 := 54) (r := []) rfl (fun q => absurd q (by decide)) (fun _ => ?_)
    refine ww_blk xCC okX6_dares 36 2 (ps := []) (pc' := 59) (lv' := [(4, .int 1), (3, .int (nI (r 3 p))), (0, .ref 0), (1, .int (nI p)), (2, .int (nI e))]) (st' := [.int 1]) (z' := zS1) rfl trivial ?_
    refine ww_blk xCC okX6_dares 39 2 (ps := []) (pc' := 63) (lv' := [(5, .int 1), (4, .int 1), (3, .int (nI (r 3 p))), (0, .ref 0), (1, .int (nI p)), (2, .int (nI e))]) (st' := [.int 1]) (z' := zS1) rfl trivial ?_
    refine ww_br xCC okX6_dares 41 (P := 1 = 0) (t1 := 81) (t2 := 66) (r := []) rfl (fun q => absurd q (by decide)) (fun _ => ?_)
    refine ww_blk xCC okX6_dares 42 5 (ps := [vp_in (nI e) 10]) (pc' := 74) (lv' := [(5, .int 1), (4, .int 1), (3, .int (nI (r 3 p))), (0, .ref 0), (1, .int (nI p)), (2, .int (nI e))]) (st' := [.int 20, .int (zS1.1 6 (nI e).toNatClampNeg)]) (z' := zS1) rfl (vp_in_nI (by omega) (by decide)) ?_
    rw [sCL (n := e) (by omega)]
    rw [hrS1.2.2.1 e]
    refine ww_br xCC okX6_dares 47 (P := 20 ≤ (nI (r 2 e))) (t1 := 81) (t2 := 77) (r := []) rfl (fun c66 => ?_) (fun c66 => ?_)
    · skip
      replace c66 : 20 ≤ (r 2 e) := (sLE (a := 20) (b := (r 2 e)) (by omega) (by omega)).mp c66
      refine ww_blk xCC okX6_dares 50 4 (ps := []) (pc' := 86) (lv' := [(6, .int 0), (5, .int 1), (4, .int 1), (3, .int (nI (r 3 p))), (0, .ref 0), (1, .int (nI p)), (2, .int (nI e))]) (st' := [.int 4, .int (nI (r 3 p))]) (z' := zS1) rfl trivial ?_
      refine ww_br xCC okX6_dares 54 (P := (nI (r 3 p)) = 4) (t1 := 94) (t2 := 89) (r := []) rfl (fun c67 => ?_) (fun c67 => ?_)
      · skip
        replace c67 : (r 3 p) = 4 := (sEQ (a := (r 3 p)) (b := 4) (by omega) (by omega)).mp c67
        refine ww_blk xCC okX6_dares 58 2 (ps := []) (pc' := 96) (lv' := [(6, .int 0), (5, .int 1), (4, .int 1), (3, .int (nI (r 3 p))), (0, .ref 0), (1, .int (nI p)), (2, .int (nI e))]) (st' := [.int 4, .int (nI (r 3 p))]) (z' := zS1) rfl trivial ?_
        refine ww_br xCC okX6_dares 60 (P := (nI (r 3 p)) = 4) (t1 := 99) (t2 := 120) (r := []) rfl (fun c68 => ?_) (fun c68 => ?_)
        · skip
          replace c68 : (r 3 p) = 4 := (sEQ (a := (r 3 p)) (b := 4) (by omega) (by omega)).mp c68
          refine ww_blk xCC okX6_dares 61 1 (ps := []) (pc' := 101) (lv' := [(6, .int 0), (5, .int 1), (4, .int 1), (3, .int (nI (r 3 p))), (0, .ref 0), (1, .int (nI p)), (2, .int (nI e))]) (st' := [.int 0]) (z' := zS1) rfl trivial ?_
          refine ww_br xCC okX6_dares 62 (P := 0 = 0) (t1 := 104) (t2 := 112) (r := []) rfl (fun _ => ?_) (fun q => absurd (by decide) q)
          refine ww_blk xCC okX6_dares 63 2 (ps := []) (pc' := 106) (lv' := [(6, .int 0), (5, .int 1), (4, .int 1), (3, .int (nI (r 3 p))), (0, .ref 0), (1, .int (nI p)), (2, .int (nI e))]) (st' := [.int (nI e), .ref 0]) (z' := zS1) rfl trivial ?_
          refine ww_callVIz xCC okX6_dares 65 (ix := 265) (t_X6_isLastCall l d e zS1 r cnt hrS1 hw (by omega)) (by omega) (by decide) xyX6_isLastCall xiX6_isLastCall (Or.inl (lw_gt_of (List.mem_of_getElem? (i := 1085) (by decide +kernel)) rfl)) rfl rfl rfl (rest := []) rfl (Nat.le_of_ble_eq_true rfl) rfl (fun z70 h71 => ?_) (fun z70 h71 => ?_)
          · skip
            rw [h71.2]
            replace h71 := h71.1
            refine ww_br xCC okX6_dares 66 (P := 1 = 0) (t1 := 116) (t2 := 112) (r := []) rfl (fun q => absurd q (by decide)) (fun _ => ?_)
            refine ww_blk xCC okX6_dares 67 2 (ps := []) (pc' := 144) (lv' := [(6, .int 0), (5, .int 1), (4, .int 1), (3, .int (nI (r 3 p))), (0, .ref 0), (1, .int (nI p)), (2, .int (nI e))]) (st' := [.int 1]) (z' := zS1) rfl trivial ?_
            subst xhQ
            exact ww_iret xCC okX6_dares 84 xhr rfl (by decide) (Or.inl ⟨rfl, ⟨(by unfold sDares; grind), hKS1⟩⟩)
          · skip
            rw [h71.2]
            replace h71 := h71.1
            refine ww_br xCC okX6_dares 66 (P := 0 = 0) (t1 := 116) (t2 := 112) (r := []) rfl (fun _ => ?_) (fun q => absurd (by decide) q)
            refine ww_blk xCC okX6_dares 69 2 (ps := []) (pc' := 144) (lv' := [(6, .int 0), (5, .int 1), (4, .int 1), (3, .int (nI (r 3 p))), (0, .ref 0), (1, .int (nI p)), (2, .int (nI e))]) (st' := [.int 0]) (z' := zS1) rfl trivial ?_
            subst xhQ
            exact ww_iret xCC okX6_dares 84 xhr rfl (by decide) (Or.inr ⟨rfl, ⟨(by unfold sDares; grind), hKS1⟩⟩)
        · skip
          replace c68 : ¬ (r 3 p) = 4 := fun q => c68 ((sEQ (a := (r 3 p)) (b := 4) (by omega) (by omega)).mpr q)
          refine ww_blk xCC okX6_dares 71 1 (ps := []) (pc' := 122) (lv' := [(6, .int 0), (5, .int 1), (4, .int 1), (3, .int (nI (r 3 p))), (0, .ref 0), (1, .int (nI p)), (2, .int (nI e))]) (st' := [.int 1]) (z' := zS1) rfl trivial ?_
          refine ww_br xCC okX6_dares 72 (P := 1 = 0) (t1 := 125) (t2 := 139) (r := []) rfl (fun q => absurd q (by decide)) (fun _ => ?_)
          refine ww_blk xCC okX6_dares 81 2 (ps := []) (pc' := 144) (lv' := [(6, .int 0), (5, .int 1), (4, .int 1), (3, .int (nI (r 3 p))), (0, .ref 0), (1, .int (nI p)), (2, .int (nI e))]) (st' := [.int 1]) (z' := zS1) rfl trivial ?_
          subst xhQ
          exact ww_iret xCC okX6_dares 84 xhr rfl (by decide) (Or.inl ⟨rfl, ⟨(by unfold sDares; grind), hKS1⟩⟩)
      · skip
        replace c67 : ¬ (r 3 p) = 4 := fun q => c67 ((sEQ (a := (r 3 p)) (b := 4) (by omega) (by omega)).mpr q)
        refine ww_blk xCC okX6_dares 55 2 (ps := []) (pc' := 91) (lv' := [(6, .int 0), (5, .int 1), (4, .int 1), (3, .int (nI (r 3 p))), (0, .ref 0), (1, .int (nI p)), (2, .int (nI e))]) (st' := [.int 5, .int (nI (r 3 p))]) (z' := zS1) rfl trivial ?_
        refine ww_br xCC okX6_dares 57 (P := (nI (r 3 p)) = 5) (t1 := 94) (t2 := 145) (r := []) rfl (fun c75 => ?_) (fun c75 => ?_)
        · skip
          replace c75 : (r 3 p) = 5 := (sEQ (a := (r 3 p)) (b := 5) (by omega) (by omega)).mp c75
          refine ww_blk xCC okX6_dares 58 2 (ps := []) (pc' := 96) (lv' := [(6, .int 0), (5, .int 1), (4, .int 1), (3, .int (nI (r 3 p))), (0, .ref 0), (1, .int (nI p)), (2, .int (nI e))]) (st' := [.int 4, .int (nI (r 3 p))]) (z' := zS1) rfl trivial ?_
          refine ww_br xCC okX6_dares 60 (P := (nI (r 3 p)) = 4) (t1 := 99) (t2 := 120) (r := []) rfl (fun c76 => ?_) (fun c76 => ?_)
          · skip
            replace c76 : (r 3 p) = 4 := (sEQ (a := (r 3 p)) (b := 4) (by omega) (by omega)).mp c76
            refine ww_blk xCC okX6_dares 61 1 (ps := []) (pc' := 101) (lv' := [(6, .int 0), (5, .int 1), (4, .int 1), (3, .int (nI (r 3 p))), (0, .ref 0), (1, .int (nI p)), (2, .int (nI e))]) (st' := [.int 0]) (z' := zS1) rfl trivial ?_
            refine ww_br xCC okX6_dares 62 (P := 0 = 0) (t1 := 104) (t2 := 112) (r := []) rfl (fun _ => ?_) (fun q => absurd (by decide) q)
            refine ww_blk xCC okX6_dares 63 2 (ps := []) (pc' := 106) (lv' := [(6, .int 0), (5, .int 1), (4, .int 1), (3, .int (nI (r 3 p))), (0, .ref 0), (1, .int (nI p)), (2, .int (nI e))]) (st' := [.int (nI e), .ref 0]) (z' := zS1) rfl trivial ?_
            refine ww_callVIz xCC okX6_dares 65 (ix := 265) (t_X6_isLastCall l d e zS1 r cnt hrS1 hw (by omega)) (by omega) (by decide) xyX6_isLastCall xiX6_isLastCall (Or.inl (lw_gt_of (List.mem_of_getElem? (i := 1085) (by decide +kernel)) rfl)) rfl rfl rfl (rest := []) rfl (Nat.le_of_ble_eq_true rfl) rfl (fun z78 h79 => ?_) (fun z78 h79 => ?_)
            · skip
              rw [h79.2]
              replace h79 := h79.1
              refine ww_br xCC okX6_dares 66 (P := 1 = 0) (t1 := 116) (t2 := 112) (r := []) rfl (fun q => absurd q (by decide)) (fun _ => ?_)
              refine ww_blk xCC okX6_dares 67 2 (ps := []) (pc' := 144) (lv' := [(6, .int 0), (5, .int 1), (4, .int 1), (3, .int (nI (r 3 p))), (0, .ref 0), (1, .int (nI p)), (2, .int (nI e))]) (st' := [.int 1]) (z' := zS1) rfl trivial ?_
              subst xhQ
              exact ww_iret xCC okX6_dares 84 xhr rfl (by decide) (Or.inl ⟨rfl, ⟨(by unfold sDares; grind), hKS1⟩⟩)
            · skip
              rw [h79.2]
              replace h79 := h79.1
              refine ww_br xCC okX6_dares 66 (P := 0 = 0) (t1 := 116) (t2 := 112) (r := []) rfl (fun _ => ?_) (fun q => absurd (by decide) q)
              refine ww_blk xCC okX6_dares 69 2 (ps := []) (pc' := 144) (lv' := [(6, .int 0), (5, .int 1), (4, .int 1), (3, .int (nI (r 3 p))), (0, .ref 0), (1, .int (nI p)), (2, .int (nI e))]) (st' := [.int 0]) (z' := zS1) rfl trivial ?_
              subst xhQ
              exact ww_iret xCC okX6_dares 84 xhr rfl (by decide) (Or.inr ⟨rfl, ⟨(by unfold sDares; grind), hKS1⟩⟩)
          · skip
            replace c76 : ¬ (r 3 p) = 4 := fun q => c76 ((sEQ (a := (r 3 p)) (b := 4) (by omega) (by omega)).mpr q)
            refine ww_blk xCC okX6_dares 71 1 (ps := []) (pc' := 122) (lv' := [(6, .int 0), (5, .int 1), (4, .int 1), (3, .int (nI (r 3 p))), (0, .ref 0), (1, .int (nI p)), (2, .int (nI e))]) (st' := [.int 1]) (z' := zS1) rfl trivial ?_
            refine ww_br xCC okX6_dares 72 (P := 1 = 0) (t1 := 125) (t2 := 139) (r := []) rfl (fun q => absurd q (by decide)) (fun _ => ?_)
            refine ww_blk xCC okX6_dares 81 2 (ps := []) (pc' := 144) (lv' := [(6, .int 0), (5, .int 1), (4, .int 1), (3, .int (nI (r 3 p))), (0, .ref 0), (1, .int (nI p)), (2, .int (nI e))]) (st' := [.int 1]) (z' := zS1) rfl trivial ?_
            subst xhQ
            exact ww_iret xCC okX6_dares 84 xhr rfl (by decide) (Or.inl ⟨rfl, ⟨(by unfold sDares; grind), hKS1⟩⟩)
        · skip
          replace c75 : ¬ (r 3 p) = 5 := fun q => c75 ((sEQ (a := (r 3 p)) (b := 5) (by omega) (by omega)).mpr q)
          refine ww_blk xCC okX6_dares 85 2 (ps := []) (pc' := 147) (lv' := [(6, .int 0), (5, .int 1), (4, .int 1), (3, .int (nI (r 3 p))), (0, .ref 0), (1, .int (nI p)), (2, .int (nI e))]) (st' := [.int 1, .int (nI (r 3 p))]) (z' := zS1) rfl trivial ?_
          refine ww_br xCC okX6_dares 87 (P := (nI (r 3 p)) = 1) (t1 := 150) (t2 := 155) (r := []) rfl (fun c83 => ?_) (fun c83 => ?_)
          · skip
            replace c83 : (r 3 p) = 1 := (sEQ (a := (r 3 p)) (b := 1) (by omega) (by omega)).mp c83
            refine ww_blk xCC okX6_dares 88 2 (ps := []) (pc' := 187) (lv' := [(6, .int 0), (5, .int 1), (4, .int 1), (3, .int (nI (r 3 p))), (0, .ref 0), (1, .int (nI p)), (2, .int (nI e))]) (st' := [.int 1]) (z' := zS1) rfl trivial ?_
            subst xhQ
            exact ww_iret xCC okX6_dares 107 xhr rfl (by decide) (Or.inl ⟨rfl, ⟨(by unfold sDares; grind), hKS1⟩⟩)
          · skip
            replace c83 : ¬ (r 3 p) = 1 := fun q => c83 ((sEQ (a := (r 3 p)) (b := 1) (by omega) (by omega)).mpr q)
            refine ww_blk xCC okX6_dares 90 2 (ps := []) (pc' := 157) (lv' := [(6, .int 0), (5, .int 1), (4, .int 1), (3, .int (nI (r 3 p))), (0, .ref 0), (1, .int (nI p)), (2, .int (nI e))]) (st' := [.int 2, .int (nI (r 3 p))]) (z' := zS1) rfl trivial ?_
            refine ww_br xCC okX6_dares 92 (P := (nI (r 3 p)) = 2) (t1 := 160) (t2 := 165) (r := []) rfl (fun c84 => ?_) (fun c84 => ?_)
            · skip
              replace c84 : (r 3 p) = 2 := (sEQ (a := (r 3 p)) (b := 2) (by omega) (by omega)).mp c84
              refine ww_blk xCC okX6_dares 93 2 (ps := []) (pc' := 187) (lv' := [(6, .int 0), (5, .int 1), (4, .int 1), (3, .int (nI (r 3 p))), (0, .ref 0), (1, .int (nI p)), (2, .int (nI e))]) (st' := [.int 0]) (z' := zS1) rfl trivial ?_
              subst xhQ
              exact ww_iret xCC okX6_dares 107 xhr rfl (by decide) (Or.inr ⟨rfl, ⟨(by unfold sDares; grind), hKS1⟩⟩)
            · skip
              replace c84 : ¬ (r 3 p) = 2 := fun q => c84 ((sEQ (a := (r 3 p)) (b := 2) (by omega) (by omega)).mpr q)
              refine ww_blk xCC okX6_dares 95 2 (ps := []) (pc' := 167) (lv' := [(6, .int 0), (5, .int 1), (4, .int 1), (3, .int (nI (r 3 p))), (0, .ref 0), (1, .int (nI p)), (2, .int (nI e))]) (st' := [.int 3, .int (nI (r 3 p))]) (z' := zS1) rfl trivial ?_
              refine ww_br xCC okX6_dares 97 (P := (nI (r 3 p)) = 3) (t1 := 170) (t2 := 185) (r := []) rfl (fun c85 => ?_) (fun c85 => ?_)
              · skip
                replace c85 : (r 3 p) = 3 := (sEQ (a := (r 3 p)) (b := 3) (by omega) (by omega)).mp c85
                refine ww_blk xCC okX6_dares 98 5 (ps := [¬ 2 = 0]) (pc' := 177) (lv' := [(6, .int 0), (5, .int 1), (4, .int 1), (3, .int (nI (r 3 p))), (0, .ref 0), (1, .int (nI p)), (2, .int (nI e))]) (st' := [.int 1, .int ((zS1.1 0 8) - (zS1.1 0 8) / 2 * 2)]) (z' := zS1) rfl (show ¬ (2 : Int32) = 0 by decide) ?_
                rw [hrS1.2.2.2.2.2.2.2.2.2.1]
                rw [show nI (r 7 2) - nI (r 7 2) / 2 * 2 = nI (r 7 2 % 2) from pk_rem (by omega) (by decide) (by decide)]
                refine ww_br xCC okX6_dares 103 (P := (nI (r 7 2 % 2)) = 1) (t1 := 180) (t2 := 185) (r := []) rfl (fun c86 => ?_) (fun c86 => ?_)
                · skip
                  replace c86 : (r 7 2 % 2) = 1 := (sEQ (a := (r 7 2 % 2)) (b := 1) (by omega) (by omega)).mp c86
                  refine ww_blk xCC okX6_dares 104 2 (ps := []) (pc' := 187) (lv' := [(6, .int 0), (5, .int 1), (4, .int 1), (3, .int (nI (r 3 p))), (0, .ref 0), (1, .int (nI p)), (2, .int (nI e))]) (st' := [.int 1]) (z' := zS1) rfl trivial ?_
                  subst xhQ
                  exact ww_iret xCC okX6_dares 107 xhr rfl (by decide) (Or.inl ⟨rfl, ⟨(by unfold sDares; grind), hKS1⟩⟩)
                · skip
                  replace c86 : ¬ (r 7 2 % 2) = 1 := fun q => c86 ((sEQ (a := (r 7 2 % 2)) (b := 1) (by omega) (by omega)).mpr q)
                  refine ww_blk xCC okX6_dares 106 1 (ps := []) (pc' := 187) (lv' := [(6, .int 0), (5, .int 1), (4, .int 1), (3, .int (nI (r 3 p))), (0, .ref 0), (1, .int (nI p)), (2, .int (nI e))]) (st' := [.int 1]) (z' := zS1) rfl trivial ?_
                  subst xhQ
                  exact ww_iret xCC okX6_dares 107 xhr rfl (by decide) (Or.inl ⟨rfl, ⟨(by unfold sDares; grind), hKS1⟩⟩)
              · skip
                replace c85 : ¬ (r 3 p) = 3 := fun q => c85 ((sEQ (a := (r 3 p)) (b := 3) (by omega) (by omega)).mpr q)
                refine ww_blk xCC okX6_dares 106 1 (ps := []) (pc' := 187) (lv' := [(6, .int 0), (5, .int 1), (4, .int 1), (3, .int (nI (r 3 p))), (0, .ref 0), (1, .int (nI p)), (2, .int (nI e))]) (st' := [.int 1]) (z' := zS1) rfl trivial ?_
                subst xhQ
                exact ww_iret xCC okX6_dares 107 xhr rfl (by decide) (Or.inl ⟨rfl, ⟨(by unfold sDares; grind), hKS1⟩⟩)
    · skip
      replace c66 : ¬ 20 ≤ (r 2 e) := fun q => c66 ((sLE (a := 20) (b := (r 2 e)) (by omega) (by omega)).mpr q)
      refine ww_blk xCC okX6_dares 48 2 (ps := []) (pc' := 82) (lv' := [(5, .int 1), (4, .int 1), (3, .int (nI (r 3 p))), (0, .ref 0), (1, .int (nI p)), (2, .int (nI e))]) (st' := [.int 1]) (z' := zS1) rfl trivial ?_
      refine ww_blk xCC okX6_dares 51 3 (ps := []) (pc' := 86) (lv' := [(6, .int 1), (5, .int 1), (4, .int 1), (3, .int (nI (r 3 p))), (0, .ref 0), (1, .int (nI p)), (2, .int (nI e))]) (st' := [.int 4, .int (nI (r 3 p))]) (z' := zS1) rfl trivial ?_
      refine ww_br xCC okX6_dares 54 (P := (nI (r 3 p)) = 4) (t1 := 94) (t2 := 89) (r := []) rfl (fun c87 => ?_) (fun c87 => ?_)
      · skip
        replace c87 : (r 3 p) = 4 := (sEQ (a := (r 3 p)) (b := 4) (by omega) (by omega)).mp c87
        refine ww_blk xCC okX6_dares 58 2 (ps := []) (pc' := 96) (lv' := [(6, .int 1), (5, .int 1), (4, .int 1), (3, .int (nI (r 3 p))), (0, .ref 0), (1, .int (nI p)), (2, .int (nI e))]) (st' := [.int 4, .int (nI (r 3 p))]) (z' := zS1) rfl trivial ?_
        refine ww_br xCC okX6_dares 60 (P := (nI (r 3 p)) = 4) (t1 := 99) (t2 := 120) (r := []) rfl (fun c88 => ?_) (fun c88 => ?_)
        · skip
          replace c88 : (r 3 p) = 4 := (sEQ (a := (r 3 p)) (b := 4) (by omega) (by omega)).mp c88
          refine ww_blk xCC okX6_dares 61 1 (ps := []) (pc' := 101) (lv' := [(6, .int 1), (5, .int 1), (4, .int 1), (3, .int (nI (r 3 p))), (0, .ref 0), (1, .int (nI p)), (2, .int (nI e))]) (st' := [.int 1]) (z' := zS1) rfl trivial ?_
          refine ww_br xCC okX6_dares 62 (P := 1 = 0) (t1 := 104) (t2 := 112) (r := []) rfl (fun q => absurd q (by decide)) (fun _ => ?_)
          refine ww_blk xCC okX6_dares 67 2 (ps := []) (pc' := 144) (lv' := [(6, .int 1), (5, .int 1), (4, .int 1), (3, .int (nI (r 3 p))), (0, .ref 0), (1, .int (nI p)), (2, .int (nI e))]) (st' := [.int 1]) (z' := zS1) rfl trivial ?_
          subst xhQ
          exact ww_iret xCC okX6_dares 84 xhr rfl (by decide) (Or.inl ⟨rfl, ⟨(by unfold sDares; grind), hKS1⟩⟩)
        · skip
          replace c88 : ¬ (r 3 p) = 4 := fun q => c88 ((sEQ (a := (r 3 p)) (b := 4) (by omega) (by omega)).mpr q)
          refine ww_blk xCC okX6_dares 71 1 (ps := []) (pc' := 122) (lv' := [(6, .int 1), (5, .int 1), (4, .int 1), (3, .int (nI (r 3 p))), (0, .ref 0), (1, .int (nI p)), (2, .int (nI e))]) (st' := [.int 1]) (z' := zS1) rfl trivial ?_
          refine ww_br xCC okX6_dares 72 (P := 1 = 0) (t1 := 125) (t2 := 139) (r := []) rfl (fun q => absurd q (by decide)) (fun _ => ?_)
          refine ww_blk xCC okX6_dares 81 2 (ps := []) (pc' := 144) (lv' := [(6, .int 1), (5, .int 1), (4, .int 1), (3, .int (nI (r 3 p))), (0, .ref 0), (1, .int (nI p)), (2, .int (nI e))]) (st' := [.int 1]) (z' := zS1) rfl trivial ?_
          subst xhQ
          exact ww_iret xCC okX6_dares 84 xhr rfl (by decide) (Or.inl ⟨rfl, ⟨(by unfold sDares; grind), hKS1⟩⟩)
      · skip
        replace c87 : ¬ (r 3 p) = 4 := fun q => c87 ((sEQ (a := (r 3 p)) (b := 4) (by omega) (by omega)).mpr q)
        refine ww_blk xCC okX6_dares 55 2 (ps := []) (pc' := 91) (lv' := [(6, .int 1), (5, .int 1), (4, .int 1), (3, .int (nI (r 3 p))), (0, .ref 0), (1, .int (nI p)), (2, .int (nI e))]) (st' := [.int 5, .int (nI (r 3 p))]) (z' := zS1) rfl trivial ?_
        refine ww_br xCC okX6_dares 57 (P := (nI (r 3 p)) = 5) (t1 := 94) (t2 := 145) (r := []) rfl (fun c91 => ?_) (fun c91 => ?_)
        · skip
          replace c91 : (r 3 p) = 5 := (sEQ (a := (r 3 p)) (b := 5) (by omega) (by omega)).mp c91
          refine ww_blk xCC okX6_dares 58 2 (ps := []) (pc' := 96) (lv' := [(6, .int 1), (5, .int 1), (4, .int 1), (3, .int (nI (r 3 p))), (0, .ref 0), (1, .int (nI p)), (2, .int (nI e))]) (st' := [.int 4, .int (nI (r 3 p))]) (z' := zS1) rfl trivial ?_
          refine ww_br xCC okX6_dares 60 (P := (nI (r 3 p)) = 4) (t1 := 99) (t2 := 120) (r := []) rfl (fun c92 => ?_) (fun c92 => ?_)
          · skip
            replace c92 : (r 3 p) = 4 := (sEQ (a := (r 3 p)) (b := 4) (by omega) (by omega)).mp c92
            refine ww_blk xCC okX6_dares 61 1 (ps := []) (pc' := 101) (lv' := [(6, .int 1), (5, .int 1), (4, .int 1), (3, .int (nI (r 3 p))), (0, .ref 0), (1, .int (nI p)), (2, .int (nI e))]) (st' := [.int 1]) (z' := zS1) rfl trivial ?_
            refine ww_br xCC okX6_dares 62 (P := 1 = 0) (t1 := 104) (t2 := 112) (r := []) rfl (fun q => absurd q (by decide)) (fun _ => ?_)
            refine ww_blk xCC okX6_dares 67 2 (ps := []) (pc' := 144) (lv' := [(6, .int 1), (5, .int 1), (4, .int 1), (3, .int (nI (r 3 p))), (0, .ref 0), (1, .int (nI p)), (2, .int (nI e))]) (st' := [.int 1]) (z' := zS1) rfl trivial ?_
            subst xhQ
            exact ww_iret xCC okX6_dares 84 xhr rfl (by decide) (Or.inl ⟨rfl, ⟨(by unfold sDares; grind), hKS1⟩⟩)
          · skip
            replace c92 : ¬ (r 3 p) = 4 := fun q => c92 ((sEQ (a := (r 3 p)) (b := 4) (by omega) (by omega)).mpr q)
            refine ww_blk xCC okX6_dares 71 1 (ps := []) (pc' := 122) (lv' := [(6, .int 1), (5, .int 1), (4, .int 1), (3, .int (nI (r 3 p))), (0, .ref 0), (1, .int (nI p)), (2, .int (nI e))]) (st' := [.int 1]) (z' := zS1) rfl trivial ?_
            refine ww_br xCC okX6_dares 72 (P := 1 = 0) (t1 := 125) (t2 := 139) (r := []) rfl (fun q => absurd q (by decide)) (fun _ => ?_)
            refine ww_blk xCC okX6_dares 81 2 (ps := []) (pc' := 144) (lv' := [(6, .int 1), (5, .int 1), (4, .int 1), (3, .int (nI (r 3 p))), (0, .ref 0), (1, .int (nI p)), (2, .int (nI e))]) (st' := [.int 1]) (z' := zS1) rfl trivial ?_
            subst xhQ
            exact ww_iret xCC okX6_dares 84 xhr rfl (by decide) (Or.inl ⟨rfl, ⟨(by unfold sDares; grind), hKS1⟩⟩)
        · skip
          replace c91 : ¬ (r 3 p) = 5 := fun q => c91 ((sEQ (a := (r 3 p)) (b := 5) (by omega) (by omega)).mpr q)
          refine ww_blk xCC okX6_dares 85 2 (ps := []) (pc' := 147) (lv' := [(6, .int 1), (5, .int 1), (4, .int 1), (3, .int (nI (r 3 p))), (0, .ref 0), (1, .int (nI p)), (2, .int (nI e))]) (st' := [.int 1, .int (nI (r 3 p))]) (z' := zS1) rfl trivial ?_
          refine ww_br xCC okX6_dares 87 (P := (nI (r 3 p)) = 1) (t1 := 150) (t2 := 155) (r := []) rfl (fun c95 => ?_) (fun c95 => ?_)
          · skip
            replace c95 : (r 3 p) = 1 := (sEQ (a := (r 3 p)) (b := 1) (by omega) (by omega)).mp c95
            refine ww_blk xCC okX6_dares 88 2 (ps := []) (pc' := 187) (lv' := [(6, .int 1), (5, .int 1), (4, .int 1), (3, .int (nI (r 3 p))), (0, .ref 0), (1, .int (nI p)), (2, .int (nI e))]) (st' := [.int 1]) (z' := zS1) rfl trivial ?_
            subst xhQ
            exact ww_iret xCC okX6_dares 107 xhr rfl (by decide) (Or.inl ⟨rfl, ⟨(by unfold sDares; grind), hKS1⟩⟩)
          · skip
            replace c95 : ¬ (r 3 p) = 1 := fun q => c95 ((sEQ (a := (r 3 p)) (b := 1) (by omega) (by omega)).mpr q)
            refine ww_blk xCC okX6_dares 90 2 (ps := []) (pc' := 157) (lv' := [(6, .int 1), (5, .int 1), (4, .int 1), (3, .int (nI (r 3 p))), (0, .ref 0), (1, .int (nI p)), (2, .int (nI e))]) (st' := [.int 2, .int (nI (r 3 p))]) (z' := zS1) rfl trivial ?_
            refine ww_br xCC okX6_dares 92 (P := (nI (r 3 p)) = 2) (t1 := 160) (t2 := 165) (r := []) rfl (fun c96 => ?_) (fun c96 => ?_)
            · skip
              replace c96 : (r 3 p) = 2 := (sEQ (a := (r 3 p)) (b := 2) (by omega) (by omega)).mp c96
              refine ww_blk xCC okX6_dares 93 2 (ps := []) (pc' := 187) (lv' := [(6, .int 1), (5, .int 1), (4, .int 1), (3, .int (nI (r 3 p))), (0, .ref 0), (1, .int (nI p)), (2, .int (nI e))]) (st' := [.int 1]) (z' := zS1) rfl trivial ?_
              subst xhQ
              exact ww_iret xCC okX6_dares 107 xhr rfl (by decide) (Or.inl ⟨rfl, ⟨(by unfold sDares; grind), hKS1⟩⟩)
            · skip
              replace c96 : ¬ (r 3 p) = 2 := fun q => c96 ((sEQ (a := (r 3 p)) (b := 2) (by omega) (by omega)).mpr q)
              refine ww_blk xCC okX6_dares 95 2 (ps := []) (pc' := 167) (lv' := [(6, .int 1), (5, .int 1), (4, .int 1), (3, .int (nI (r 3 p))), (0, .ref 0), (1, .int (nI p)), (2, .int (nI e))]) (st' := [.int 3, .int (nI (r 3 p))]) (z' := zS1) rfl trivial ?_
              refine ww_br xCC okX6_dares 97 (P := (nI (r 3 p)) = 3) (t1 := 170) (t2 := 185) (r := []) rfl (fun c97 => ?_) (fun c97 => ?_)
              · skip
                replace c97 : (r 3 p) = 3 := (sEQ (a := (r 3 p)) (b := 3) (by omega) (by omega)).mp c97
                refine ww_blk xCC okX6_dares 98 5 (ps := [¬ 2 = 0]) (pc' := 177) (lv' := [(6, .int 1), (5, .int 1), (4, .int 1), (3, .int (nI (r 3 p))), (0, .ref 0), (1, .int (nI p)), (2, .int (nI e))]) (st' := [.int 1, .int ((zS1.1 0 8) - (zS1.1 0 8) / 2 * 2)]) (z' := zS1) rfl (show ¬ (2 : Int32) = 0 by decide) ?_
                rw [hrS1.2.2.2.2.2.2.2.2.2.1]
                rw [show nI (r 7 2) - nI (r 7 2) / 2 * 2 = nI (r 7 2 % 2) from pk_rem (by omega) (by decide) (by decide)]
                refine ww_br xCC okX6_dares 103 (P := (nI (r 7 2 % 2)) = 1) (t1 := 180) (t2 := 185) (r := []) rfl (fun c98 => ?_) (fun c98 => ?_)
                · skip
                  replace c98 : (r 7 2 % 2) = 1 := (sEQ (a := (r 7 2 % 2)) (b := 1) (by omega) (by omega)).mp c98
                  refine ww_blk xCC okX6_dares 104 2 (ps := []) (pc' := 187) (lv' := [(6, .int 1), (5, .int 1), (4, .int 1), (3, .int (nI (r 3 p))), (0, .ref 0), (1, .int (nI p)), (2, .int (nI e))]) (st' := [.int 1]) (z' := zS1) rfl trivial ?_
                  subst xhQ
                  exact ww_iret xCC okX6_dares 107 xhr rfl (by decide) (Or.inl ⟨rfl, ⟨(by unfold sDares; grind), hKS1⟩⟩)
                · skip
                  replace c98 : ¬ (r 7 2 % 2) = 1 := fun q => c98 ((sEQ (a := (r 7 2 % 2)) (b := 1) (by omega) (by omega)).mpr q)
                  refine ww_blk xCC okX6_dares 106 1 (ps := []) (pc' := 187) (lv' := [(6, .int 1), (5, .int 1), (4, .int 1), (3, .int (nI (r 3 p))), (0, .ref 0), (1, .int (nI p)), (2, .int (nI e))]) (st' := [.int 1]) (z' := zS1) rfl trivial ?_
                  subst xhQ
                  exact ww_iret xCC okX6_dares 107 xhr rfl (by decide) (Or.inl ⟨rfl, ⟨(by unfold sDares; grind), hKS1⟩⟩)
              · skip
                replace c97 : ¬ (r 3 p) = 3 := fun q => c97 ((sEQ (a := (r 3 p)) (b := 3) (by omega) (by omega)).mpr q)
                refine ww_blk xCC okX6_dares 106 1 (ps := []) (pc' := 187) (lv' := [(6, .int 1), (5, .int 1), (4, .int 1), (3, .int (nI (r 3 p))), (0, .ref 0), (1, .int (nI p)), (2, .int (nI e))]) (st' := [.int 1]) (z' := zS1) rfl trivial ?_
                subst xhQ
                exact ww_iret xCC okX6_dares 107 xhr rfl (by decide) (Or.inl ⟨rfl, ⟨(by unfold sDares; grind), hKS1⟩⟩)

set_option maxHeartbeats 4000000 in
set_option maxRecDepth 20000 in
theorem t_X6_can (l : Launch) (d : Nat) (p e : Nat) (z : xMem) (r : sR) (cnt : Nat) (tc : Nat → sTc) (hr : RM z r) (hw : sW r cnt) (ht : TM z cnt tc) (hp : p < 4) (he : e < 10) : XMz l (d + 310) yX6_can cX6_can 3 (some .boolean) shM [.ref 0, .int (nI p), .int (nI e)] z (fun z' => sCan tc r p e = true ∧ KM z z') (fun z' => sCan tc r p e = false ∧ KM z z') := by
  refine XM.of (by decide) (Nat.le_of_ble_eq_true rfl) (fun xp xe xs xm xar xbl xme xc xD xcs xad xAA xCC xhr => ?_)
  generalize xhQ : MQ xbl _ xar xs 0 0 xAA = xQ
  show ww xp l xe (xRm (d + 310)) xs xm xar xbl xme xc 3 xD xcs xad shM xAA xQ 0 [(0, .ref 0), (1, .int (nI p)), (2, .int (nI e))] [] z
  have hb := hw.1
  have hbe := hb e
  have hbp := hb p
  refine ww_blk xCC okX6_can 0 8 (ps := [vp_in ((4 * (nI p)) + 1) 16]) (pc' := 10) (lv' := [(0, .ref 0), (1, .int (nI p)), (2, .int (nI e))]) (st' := [.int (z.1 7 ((4 * (nI p)) + 1).toNatClampNeg)]) (z' := z) rfl (vp_41 (by omega)) ?_
  rw [show (4 : Int32) * nI p = nI (4 * p) from pk_mul 4 p]
  rw [show nI (4 * p) + 1 = nI (4 * p + 1) from nI_add (4 * p) 1]
  rw [sCL (n := (4 * p + 1)) (by omega)]
  rw [hr.2.2.2.2.1 p]
  refine ww_br xCC okX6_can 8 (P := (nI (r 5 p)) = 0) (t1 := 13) (t2 := 26) (r := []) rfl (fun c1 => ?_) (fun c1 => ?_)
  · skip
    replace c1 : (r 5 p) = 0 := (sEQ (a := (r 5 p)) (b := 0) (by omega) (by omega)).mp c1
    refine ww_blk xCC okX6_can 9 3 (ps := []) (pc' := 16) (lv' := [(0, .ref 0), (1, .int (nI p)), (2, .int (nI e))]) (st' := [.int (nI e), .int (nI p), .ref 0]) (z' := z) rfl trivial ?_
    refine ww_callVIz xCC okX6_can 12 (ix := 270) (t_X6_dares l d p e z r cnt tc hr hw ht (by omega) (by omega)) (by omega) (by decide) xyX6_dares xiX6_dares (Or.inl (lw_gt_of (List.mem_of_getElem? (i := 996) (by decide +kernel)) rfl)) rfl rfl rfl (rest := []) rfl (Nat.le_of_ble_eq_true rfl) rfl (fun zS2 hS2 => ?_) (fun zS2 hS2 => ?_)
    · skip
      have hrS2 := RM_K hS2.2 hr
      have htS2 := TM_K hS2.2 ht
      have hKS2 := KM_tr (KM_rf z) hS2.2
      refine ww_br xCC okX6_can 13 (P := 1 = 0) (t1 := 26) (t2 := 22) (r := []) rfl (fun q => absurd q (by decide)) (fun _ => ?_)
      refine ww_blk xCC okX6_can 14 2 (ps := []) (pc' := 27) (lv' := [(0, .ref 0), (1, .int (nI p)), (2, .int (nI e))]) (st' := [.int 1]) (z' := zS2) rfl trivial ?_
      subst xhQ
      exact ww_iret xCC okX6_can 17 xhr rfl (by decide) (Or.inl ⟨rfl, ⟨(by unfold sCan; grind), hKS2⟩⟩)
    · skip
      have hrS2 := RM_K hS2.2 hr
      have htS2 := TM_K hS2.2 ht
      have hKS2 := KM_tr (KM_rf z) hS2.2
      refine ww_br xCC okX6_can 13 (P := 0 = 0) (t1 := 26) (t2 := 22) (r := []) rfl (fun _ => ?_) (fun q => absurd (by decide) q)
      refine ww_blk xCC okX6_can 16 1 (ps := []) (pc' := 27) (lv' := [(0, .ref 0), (1, .int (nI p)), (2, .int (nI e))]) (st' := [.int 0]) (z' := zS2) rfl trivial ?_
      subst xhQ
      exact ww_iret xCC okX6_can 17 xhr rfl (by decide) (Or.inr ⟨rfl, ⟨(by unfold sCan; grind), hKS2⟩⟩)
  · skip
    replace c1 : ¬ (r 5 p) = 0 := fun q => c1 ((sEQ (a := (r 5 p)) (b := 0) (by omega) (by omega)).mpr q)
    refine ww_blk xCC okX6_can 16 1 (ps := []) (pc' := 27) (lv' := [(0, .ref 0), (1, .int (nI p)), (2, .int (nI e))]) (st' := [.int 0]) (z' := z) rfl trivial ?_
    subst xhQ
    exact ww_iret xCC okX6_can 17 xhr rfl (by decide) (Or.inr ⟨rfl, ⟨(by unfold sCan; grind), (KM_rf z)⟩⟩)

set_option maxHeartbeats 4000000 in
set_option maxRecDepth 20000 in
theorem t_X6_canSet (l : Launch) (d : Nat) (p : Nat) (z : xMem) (r : sR) (cnt : Nat) (tc : Nat → sTc) (hr : RM z r) (hw : sW r cnt) (ht : TM z cnt tc) (hp : p < 4) : XMi l (d + 311) yX6_canSet cX6_canSet 4 (some .int) shM [.ref 0, .int (nI p)] z (fun v z' => v = nI (sAl (sCf tc r p) 10) ∧ KM z z') := by
  refine XM.of (by decide) (Nat.le_of_ble_eq_true rfl) (fun xp xe xs xm xar xbl xme xc xD xcs xad xAA xCC xhr => ?_)
  generalize xhQ : MQ xbl _ xar xs 0 0 xAA = xQ
  show ww xp l xe (xRm (d + 311)) xs xm xar xbl xme xc 4 xD xcs xad shM xAA xQ 0 [(0, .ref 0), (1, .int (nI p))] [] z
  have hb := hw.1
  refine ww_blk xCC okX6_canSet 0 4 (ps := []) (pc' := 4) (lv' := [(3, .int 0), (2, .int 0), (0, .ref 0), (1, .int (nI p))]) (st' := []) (z' := z) rfl trivial ?_
  have L4 : ∀ (n4 : Nat) (i : Nat) (zL : xMem), 10 - i < n4 → (i ≤ 10) → (KM z zL) → ww xp l xe (xRm (d + 311)) xs xm xar xbl xme xc 4 xD xcs xad shM xAA xQ 4 [(3, .int (nI i)), (2, .int (nI (sAl (sCf tc r p) i))), (0, .ref 0), (1, .int (nI p))] [] zL := by
    intro n4
    induction n4 with
    | zero =>
      intro i zL hmu4
      exact absurd hmu4 (Nat.not_lt_zero _)
    | succ n4 ih4 =>
      intro i zL hmu4 e4_0 e4_1
      have hrL := RM_K e4_1 hr
      have htL := TM_K e4_1 ht
      refine ww_blk xCC okX6_canSet 4 2 (ps := []) (pc' := 7) (lv' := [(3, .int (nI i)), (2, .int (nI (sAl (sCf tc r p) i))), (0, .ref 0), (1, .int (nI p))]) (st' := [.int 10, .int (nI i)]) (z' := zL) rfl trivial ?_
      refine ww_br xCC okX6_canSet 6 (P := 10 ≤ (nI i)) (t1 := 35) (t2 := 10) (r := []) rfl (fun c1 => ?_) (fun c1 => ?_)
      · skip
        replace c1 : 10 ≤ i := (sLE (a := 10) (b := i) (by omega) (by omega)).mp c1
        refine ww_blk xCC okX6_canSet 22 1 (ps := []) (pc' := 36) (lv' := [(3, .int (nI i)), (2, .int (nI (sAl (sCf tc r p) i))), (0, .ref 0), (1, .int (nI p))]) (st' := [.int (nI (sAl (sCf tc r p) i))]) (z' := zL) rfl trivial ?_
        subst xhQ
        exact ww_iret xCC okX6_canSet 23 xhr rfl rfl ⟨_, rfl, ⟨(by rw [show i = 10 by omega]), e4_1⟩⟩
      · skip
        replace c1 : ¬ 10 ≤ i := fun q => c1 ((sLE (a := 10) (b := i) (by omega) (by omega)).mpr q)
        refine ww_blk xCC okX6_canSet 7 4 (ps := []) (pc' := 14) (lv' := [(3, .int (nI i)), (2, .int (nI (sAl (sCf tc r p) i))), (0, .ref 0), (1, .int (nI p))]) (st' := [.int (nI i), .int (nI p), .ref 0, .int (nI (sAl (sCf tc r p) i))]) (z' := zL) rfl trivial ?_
        refine ww_callVIz xCC okX6_canSet 11 (ix := 279) (t_X6_can l d p i zL r cnt tc hrL hw htL (by omega) (by omega)) (by omega) (by decide) xyX6_can xiX6_can (Or.inl (lw_gt_of (List.mem_of_getElem? (i := 992) (by decide +kernel)) rfl)) rfl rfl rfl (rest := [.int (nI (sAl (sCf tc r p) i))]) rfl (Nat.le_of_ble_eq_true rfl) rfl (fun zS2 hS2 => ?_) (fun zS2 hS2 => ?_)
        · skip
          have hrS2 := RM_K hS2.2 hrL
          have htS2 := TM_K hS2.2 htL
          have hKS2 := KM_tr e4_1 hS2.2
          refine ww_br xCC okX6_canSet 12 (P := 1 = 0) (t1 := 24) (t2 := 20) (r := [.int (nI (sAl (sCf tc r p) i))]) rfl (fun q => absurd q (by decide)) (fun _ => ?_)
          refine ww_blk xCC okX6_canSet 13 2 (ps := []) (pc' := 25) (lv' := [(3, .int (nI i)), (2, .int (nI (sAl (sCf tc r p) i))), (0, .ref 0), (1, .int (nI p))]) (st' := [.int 1, .int (nI (sAl (sCf tc r p) i))]) (z' := zS2) rfl trivial ?_
          refine ww_blk xCC okX6_canSet 16 6 (ps := []) (pc' := 4) (lv' := [(3, .int ((nI i) + 1)), (2, .int ((nI (sAl (sCf tc r p) i)) ||| (1 <<< ((nI i) &&& 31)))), (0, .ref 0), (1, .int (nI p))]) (st' := []) (z' := zS2) rfl trivial ?_
          exact ww_cut [0, 1, 2, 3] (xlc (congrArg Value.int (show ((nI i) + 1 : Int32) = nI (i + 1) from nI_1 i)) (xlc (congrArg Value.int (show ((nI (sAl (sCf tc r p) i)) ||| (1 <<< ((nI i) &&& 31)) : Int32) = nI (sAl (sCf tc r p) (i + 1)) from (by rw [sOr_bit i (by omega) _ (sAl_lt _ i), sAl, if_pos (by rw [sCf, if_pos hS2.1]; decide)]))) (xlc rfl (xlc rfl rfl)))) rfl rfl (ih4 (i + 1) zS2 (by omega) (by omega) hKS2)
        · skip
          have hrS2 := RM_K hS2.2 hrL
          have htS2 := TM_K hS2.2 htL
          have hKS2 := KM_tr e4_1 hS2.2
          refine ww_br xCC okX6_canSet 12 (P := 0 = 0) (t1 := 24) (t2 := 20) (r := [.int (nI (sAl (sCf tc r p) i))]) rfl (fun _ => ?_) (fun q => absurd (by decide) q)
          refine ww_blk xCC okX6_canSet 15 7 (ps := []) (pc' := 4) (lv' := [(3, .int ((nI i) + 1)), (2, .int ((nI (sAl (sCf tc r p) i)) ||| (0 <<< ((nI i) &&& 31)))), (0, .ref 0), (1, .int (nI p))]) (st' := []) (z' := zS2) rfl trivial ?_
          exact ww_cut [0, 1, 2, 3] (xlc (congrArg Value.int (show ((nI i) + 1 : Int32) = nI (i + 1) from nI_1 i)) (xlc (congrArg Value.int (show ((nI (sAl (sCf tc r p) i)) ||| (0 <<< ((nI i) &&& 31)) : Int32) = nI (sAl (sCf tc r p) (i + 1)) from (by rw [sOr_no i (by omega) _ (sAl_lt _ i), sAl, if_neg (by rw [sCf, if_neg (by rw [hS2.1]; decide)]; decide)]))) (xlc rfl (xlc rfl rfl)))) rfl rfl (ih4 (i + 1) zS2 (by omega) (by omega) hKS2)
  exact ww_cut [0, 1, 2, 3] (xlc (congrArg Value.int (show (0 : Int32) = nI 0 from rfl)) (xlc (congrArg Value.int (show (0 : Int32) = nI (sAl (sCf tc r p) 0) from rfl)) (xlc rfl (xlc rfl rfl)))) rfl rfl (L4 (10 - 0 + 1) 0 z (Nat.lt_succ_self _) (by omega) (KM_rf z))
