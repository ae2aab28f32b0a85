/-! a deed done: the model -/
/-- nothing changed but the republic's running cells, and scratch -/
def KO (z z' : xMem) : Prop := (∀ q, q ≠ 0 → q ≠ 4 → q ≠ 7 → z'.1 q = z.1 q) ∧ (∀ j, (j < 8 ∨ (10 < j ∧ j < 16) ∨ 30 < j) → z'.1 0 j = z.1 0 j)
theorem KO_of {z z' : xMem} (h : KM z z') : KO z z' := ⟨fun q h0 _ _ => h.1 q h0, fun j hj => h.2 j (by omega)⟩
theorem KO_rf (z : xMem) : KO z z := ⟨fun _ _ _ _ => rfl, fun _ _ => rfl⟩
theorem KO_tr {a b c : xMem} (h1 : KO a b) (h2 : KO b c) : KO a c := ⟨fun q h h4 h7 => (h2.1 q h h4 h7).trans (h1.1 q h h4 h7), fun j h => (h2.2 j h).trans (h1.2 j h)⟩
theorem mPut_rd (z : xMem) (q j : Nat) (x : Int32) (q' k : Nat) : (mPut z q j x).1 q' k = if q' = q then (if k = j then x else z.1 q k) else z.1 q' k := by
  show (xUp z.1 q (upd (z.1 q) j x)) q' k = _
  by_cases h : q' = q
  · subst h
    rw [xUp_eq, if_pos rfl]
    rfl
  · rw [xUp_ne h, if_neg h]
theorem mPut_nj {z : xMem} {q j k : Nat} {x : Int32} (h : k ≠ j) : (mPut z q j x).1 q k = z.1 q k := by rw [mPut_rd, if_pos rfl, if_neg h]
theorem KO_p0 {a b : xMem} (h : KO a b) (j : Nat) (x : Int32) (hj : (8 ≤ j ∧ j ≤ 10) ∨ (16 ≤ j ∧ j ≤ 30)) : KO a (mPut b 0 j x) := by
  refine ⟨fun q h0 h4 h7 => ?_, fun i hi => ?_⟩
  · funext k
    rw [mPut_rd, if_neg h0, h.1 q h0 h4 h7]
  · rw [mPut_rd, if_pos rfl, if_neg (by omega), h.2 i hi]
theorem KO_pq {a b : xMem} (h : KO a b) (q j : Nat) (x : Int32) (hq : q = 4 ∨ q = 7) : KO a (mPut b q j x) := by
  refine ⟨fun q' h0 h4 h7 => ?_, fun i hi => ?_⟩
  · funext k
    rw [mPut_rd, if_neg (by omega), h.1 q' h0 h4 h7]
  · rw [mPut_rd, if_neg (by omega), h.2 i hi]
theorem KO_done {a b : xMem} (h : KO a b) (p : Nat) (x y u v : Int32) : KO a (mPut (mPut (mPut (mPut b 0 9 x) 0 10 y) 7 (4 * p + 1) u) 7 (4 * p + 2) v) := KO_pq (KO_pq (KO_p0 (KO_p0 h 9 x (by omega)) 10 y (by omega)) 7 _ u (by omega)) 7 _ v (by omega)
theorem TM_KO {z z' : xMem} {cnt : Nat} {tc : Nat → sTc} (h : KO z z') (ht : TM z cnt tc) : TM z' cnt tc := by
  obtain ⟨h1, h2, h3, h4⟩ := ht
  refine ⟨(h.2 3 (by omega)).trans h1, h2, h3, fun t hl => ?_⟩
  obtain ⟨bt, n, p, a1, a2, a3, a4, a5⟩ := h4 t hl
  exact ⟨bt, n, p, by rw [h.1 2 (by decide) (by decide) (by decide)]; exact a1, a2, fun i hi => by rw [h.1 1 (by decide) (by decide) (by decide)]; exact a3 i hi, a4, a5⟩
def sTn (x : Int32) : Nat := x.toInt.toNat
theorem sTn_n {x : Int32} (h : 0 ≤ x.toInt) : x = nI (sTn x) := by
  have := x.toInt_lt
  rw [← Int32.toInt_inj, nI_toInt (by unfold sTn; omega)]
  unfold sTn
  omega
theorem sWi_bd (v : Int32) {b : Int32} (h : 0 ≤ b.toInt) : 0 ≤ (sWi v 0 b).toInt ∧ (sWi v 0 b).toInt ≤ b.toInt := by
  unfold sWi
  have h0 : (0 : Int32).toInt = 0 := rfl
  simp only [Int32.lt_iff_toInt_lt]
  split
  · omega
  · split <;> omega
theorem sWi_n (v : Int32) {b : Int32} (h : 0 ≤ b.toInt) : sWi v 0 b = nI (sTn (sWi v 0 b)) := sTn_n (sWi_bd v h).1
theorem sSits_bd (tc : Nat → sTc) (r : sR) (p e : Nat) : 0 ≤ (sSits tc r p e).toInt ∧ (sSits tc r p e).toInt ≤ 99 := by
  unfold sSits
  split
  · decide
  · split
    · split <;> decide
    · exact sWi_bd _ (by decide)
theorem sSits_n (tc : Nat → sTc) (r : sR) (p e : Nat) : sSits tc r p e = nI (sTn (sSits tc r p e)) := sTn_n (sSits_bd tc r p e).1
def sDone (tc : Nat → sTc) (r : sR) (p e : Nat) : sR := fun k j =>
  if k = 7 then (if j = 0 then r 7 0 ||| (r 1 e &&& sAl (r 0) 8) else if j = 3 then sTn (sWi (nI (r 7 3) + sCosts tc r p e) 0 99999) else r 7 j)
  else if k = 5 then (if j = p then sTn (sSits tc r p e) else r 5 j)
  else if k = 6 then (if j = p then sTn (sWi (nI (r 6 p) + 1) 0 99) else r 6 j)
  else r k j
theorem RM_done {z : xMem} {tc : Nat → sTc} {r : sR} {p e : Nat} {x y u v : Int32} (h : RM z r) (hx : x = nI (r 7 0 ||| (r 1 e &&& sAl (r 0) 8))) (hy : y = nI (sTn (sWi (nI (r 7 3) + sCosts tc r p e) 0 99999))) (hu : u = nI (sTn (sSits tc r p e))) (hv : v = nI (sTn (sWi (nI (r 6 p) + 1) 0 99))) : RM (mPut (mPut (mPut (mPut z 0 9 x) 0 10 y) 7 (4 * p + 1) u) 7 (4 * p + 2) v) (sDone tc r p e) := by
  obtain ⟨a1, a2, a3, a4, a5, a6, a7, b1, b2, b3, b4, b5, b6⟩ := h
  refine ⟨fun j => ?_, fun j => ?_, fun j => ?_, fun j => ?_, fun j => ?_, fun j => ?_, fun j => ?_, ?_, ?_, ?_, ?_, ?_, ?_⟩
  · simp [mPut_rd, sDone, a1]
  · simp [mPut_rd, sDone, a2]
  · simp [mPut_rd, sDone, a3]
  · have q1 : ¬ 4 * j = 4 * p + 2 := by omega
    have q2 : ¬ 4 * j = 4 * p + 1 := by omega
    simp [mPut_rd, sDone, q1, q2, a4]
  · have q1 : ¬ 4 * j + 1 = 4 * p + 2 := by omega
    by_cases q : j = p
    · subst q; simp [mPut_rd, sDone, hu]
    · have q2 : ¬ 4 * j + 1 = 4 * p + 1 := by omega
      simp [mPut_rd, sDone, q, a5]
      repeat rw [if_neg (by omega)]
  · have q1 : ¬ 4 * j + 2 = 4 * p + 1 := by omega
    by_cases q : j = p
    · subst q; simp [mPut_rd, sDone, hv]
    · have q2 : ¬ 4 * j + 2 = 4 * p + 2 := by omega
      simp [mPut_rd, sDone, q, a6]
      repeat rw [if_neg (by omega)]
  · have q1 : ¬ 4 * j + 3 = 4 * p + 2 := by omega
    have q2 : ¬ 4 * j + 3 = 4 * p + 1 := by omega
    simp [mPut_rd, sDone, q1, q2, a7]
  · simp [mPut_rd, sDone, hx]
  · simp [mPut_rd, sDone, b2]
  · simp [mPut_rd, sDone, b3]
  · simp [mPut_rd, sDone, hy]
  · simp [mPut_rd, sDone, b5]
  · simp [mPut_rd, sDone, b6]
set_option maxHeartbeats 4000000 in
set_option maxRecDepth 20000 in
theorem t_X6_done (l : Launch) (d : Nat) (p e : Nat) (z : xMem) (r : sR) (cnt : Nat) (tc : Nat → sTc) (hr : RM z r) (hw : sW r cnt) (ht : TM z cnt tc) (hp : p < 4) (he : e < 10) : XMv l (d + 310) yX6_done cX6_done 5 none shM [.ref 0, .int (nI p), .int (nI e)] z (fun z' => RM z' (sDone tc r p e) ∧ KO z z') := by
  refine XM.of (by decide) (Nat.le_of_ble_eq_true rfl) (fun xp xe xs xm xar xbl xme xc xD xcs xad xAA xCC xhr => ?_)
  generalize xhQ : MQ xbl _ xar xs 0 0 xAA = xQ
  show ww xp l xe (xRm (d + 310)) xs xm xar xbl xme xc 5 xD xcs xad shM xAA xQ 0 [(0, .ref 0), (1, .int (nI p)), (2, .int (nI e))] [] z
  have hb := hw.1
  have hbe := hb e
  have hbp := hb p
  refine ww_blk xCC okX6_done 0 3 (ps := []) (pc' := 3) (lv' := [(0, .ref 0), (1, .int (nI p)), (2, .int (nI e))]) (st' := [.int (nI e), .int (nI p), .ref 0]) (z' := z) rfl trivial ?_
  refine ww_callVIi xCC okX6_done 3 (ix := 273) (t_X6_costsOf l d p e z r cnt tc hr hw ht (by omega) (by omega)) (by omega) (by decide) xyX6_costsOf xiX6_costsOf (Or.inl (lw_gt_of (List.mem_of_getElem? (i := 1117) (by decide +kernel)) rfl)) rfl rfl rfl (rest := []) rfl (Nat.le_of_ble_eq_true rfl) rfl (fun v2 zS1 hS1 => ?_)
  have hrS1 := RM_K hS1.2 hr
  have htS1 := TM_K hS1.2 ht
  have hKS1 := KM_tr (KM_rf z) hS1.2
  rw [hS1.1]
  refine ww_blk xCC okX6_done 4 4 (ps := []) (pc' := 10) (lv' := [(3, .int (sCosts tc r p e)), (0, .ref 0), (1, .int (nI p)), (2, .int (nI e))]) (st' := [.int (nI e), .int (nI p), .ref 0]) (z' := zS1) rfl trivial ?_
  refine ww_callVIi xCC okX6_done 8 (ix := 276) (t_X6_sitsBy l d p e zS1 r cnt tc hrS1 hw htS1 (by omega) (by omega)) (by omega) (by decide) xyX6_sitsBy xiX6_sitsBy (Or.inl (lw_gt_of (List.mem_of_getElem? (i := 1121) (by decide +kernel)) rfl)) rfl rfl rfl (rest := []) rfl (Nat.le_of_ble_eq_true rfl) rfl (fun v4 zS3 hS3 => ?_)
  have hrS3 := RM_K hS3.2 hrS1
  have htS3 := TM_K hS3.2 htS1
  have hKS3 := KM_tr hKS1 hS3.2
  rw [hS3.1]
  refine ww_blk xCC okX6_done 9 9 (ps := [vp_in (nI e) 10]) (pc' := 27) (lv' := [(4, .int (sSits tc r p e)), (3, .int (sCosts tc r p e)), (0, .ref 0), (1, .int (nI p)), (2, .int (nI e))]) (st' := [.ref 0, .int (zS3.1 5 (nI e).toNatClampNeg), .int (zS3.1 0 9), .ref 0]) (z' := zS3) rfl (vp_in_nI (by omega) (by decide)) ?_
  rw [sCL (n := e) (by omega)]
  rw [hrS3.2.1 e]
  rw [hrS3.2.2.2.2.2.2.2.1]
  refine ww_callVIi xCC okX6_done 18 (ix := 119) (t_X6_alive l d zS3 (r 0) hrS3.1 (fun j => Nat.lt_of_le_of_lt (hb j).1 (by decide))) (by omega) (by decide) xyX6_alive xiX6_alive (Or.inl (lw_gt_of (List.mem_of_getElem? (i := 1007) (by decide +kernel)) rfl)) rfl rfl rfl (rest := [.int (nI (r 1 e)), .int (nI (r 7 0)), .ref 0]) rfl (Nat.le_of_ble_eq_true rfl) rfl (fun v7 z5 h6 => ?_)
  rw [h6.1, h6.2]
  refine ww_blk xCC okX6_done 19 10 (ps := []) (pc' := 46) (lv' := [(4, .int (sSits tc r p e)), (3, .int (sCosts tc r p e)), (0, .ref 0), (1, .int (nI p)), (2, .int (nI e))]) (st' := [.int 99999, .int 0, .int ((zS3.1 0 10) + (sCosts tc r p e)), .ref 0]) (z' := (mPut zS3 0 9 ((nI (r 7 0)) ||| ((nI (r 1 e)) &&& (nI (sAl (r 0) 8)))))) rfl trivial ?_
  rw [hrS3.2.2.2.2.2.2.2.2.2.2.1]
  rw [fa_and (r 1 e) (sAl (r 0) 8)]
  refine ww_callSNi xCC okX6_done 29 (ix := 258) (t_X6_within l d ((nI (r 7 3)) + (sCosts tc r p e)) 0 99999 _) (by omega) (by decide) xyX6_within xiX6_within (Or.inl (lw_gt_of (List.mem_of_getElem? (i := 1082) (by decide +kernel)) rfl)) rfl (rest := [.ref 0]) rfl (Nat.le_of_ble_eq_true rfl) rfl (fun v10 z8 h9 => ?_)
  subst h9
  refine ww_blk xCC okX6_done 30 29 (ps := [vp_in ((4 * (nI p)) + 1) 16, vp_in ((4 * (nI p)) + 2) 16]) (pc' := 88) (lv' := [(4, .int (sSits tc r p e)), (3, .int (sCosts tc r p e)), (0, .ref 0), (1, .int (nI p)), (2, .int (nI e))]) (st' := [.int 99, .int 0, .int (((mPut (mPut (mPut zS3 0 9 ((nI (r 7 0)) ||| (nI ((r 1 e) &&& (sAl (r 0) 8))))) 0 10 (sWi ((nI (r 7 3)) + (sCosts tc r p e)) 0 99999)) 7 ((4 * (nI p)) + 1).toNatClampNeg (sSits tc r p e)).1 7 ((4 * (nI p)) + 2).toNatClampNeg) + 1), .int ((4 * (nI p)) + 2), .ref 7]) (z' := (mPut (mPut (mPut zS3 0 9 ((nI (r 7 0)) ||| (nI ((r 1 e) &&& (sAl (r 0) 8))))) 0 10 (sWi ((nI (r 7 3)) + (sCosts tc r p e)) 0 99999)) 7 ((4 * (nI p)) + 1).toNatClampNeg (sSits tc r p e))) rfl ⟨(vp_41 (by omega)), (vp_42 (by omega))⟩ ?_
  rw [show (4 : Int32) * nI p = nI (4 * p) from pk_mul 4 p]
  rw [show nI (4 * p) + 1 = nI (4 * p + 1) from nI_add (4 * p) 1]
  rw [sCL (n := (4 * p + 1)) (by omega)]
  rw [show nI (4 * p) + 2 = nI (4 * p + 2) from nI_add (4 * p) 2]
  rw [sCL (n := (4 * p + 2)) (by omega)]
  rw [show (mPut (mPut (mPut zS3 0 9 ((nI (r 7 0)) ||| (nI ((r 1 e) &&& (sAl (r 0) 8))))) 0 10 (sWi ((nI (r 7 3)) + (sCosts tc r p e)) 0 99999)) 7 (4 * p + 1) (sSits tc r p e)).1 7 (4 * p + 2) = zS3.1 7 (4 * p + 2) from mPut_nj (by omega)]
  rw [hrS3.2.2.2.2.2.1 p]
  refine ww_callSNi xCC okX6_done 59 (ix := 258) (t_X6_within l d ((nI (r 6 p)) + 1) 0 99 _) (by omega) (by decide) xyX6_within xiX6_within (Or.inl (lw_gt_of (List.mem_of_getElem? (i := 1082) (by decide +kernel)) rfl)) rfl (rest := [.int (nI (4 * p + 2)), .ref 7]) rfl (Nat.le_of_ble_eq_true rfl) rfl (fun v13 z11 h12 => ?_)
  subst h12
  refine ww_blk xCC okX6_done 60 1 (ps := [vp_in (nI (4 * p + 2)) 16]) (pc' := 92) (lv' := [(4, .int (sSits tc r p e)), (3, .int (sCosts tc r p e)), (0, .ref 0), (1, .int (nI p)), (2, .int (nI e))]) (st' := []) (z' := (mPut (mPut (mPut (mPut zS3 0 9 ((nI (r 7 0)) ||| (nI ((r 1 e) &&& (sAl (r 0) 8))))) 0 10 (sWi ((nI (r 7 3)) + (sCosts tc r p e)) 0 99999)) 7 (4 * p + 1) (sSits tc r p e)) 7 (nI (4 * p + 2)).toNatClampNeg (sWi ((nI (r 6 p)) + 1) 0 99))) rfl (vp_in_nI (by omega) (by decide)) ?_
  rw [sCL (n := (4 * p + 2)) (by omega)]
  subst xhQ
  exact ww_vret xCC okX6_done 61 xhr rfl ⟨rfl, ⟨RM_done hrS3 (fa_or _ _) (sWi_n _ (by decide)) (sSits_n tc r p e) (sWi_n _ (by decide)), KO_done (KO_of hKS3) p _ _ _ _⟩⟩
