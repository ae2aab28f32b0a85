/-! letters, words and signs of the model -/
set_option maxHeartbeats 4000000 in
set_option maxRecDepth 20000 in
theorem t_X6_isLetter (l : Launch) (d : Nat) (z : xMem) (bt : Nat → Nat) (n fr : Nat) (hpm : pM z bt n fr) (a b i c : Nat) (ha : z.1 0 26 = nI a) (hb : z.1 0 24 = nI b) (hbn : b ≤ n) (han : a ≤ n) (hi : i < 8) (hc : c < 256) : XMz l (d + 1) yX6_isLetter cX6_isLetter 3 (some .boolean) shM [.ref 0, .int (nI i), .int (nI c)] z (fun z' => pL bt a b i c ∧ z' = z) (fun z' => ¬ pL bt a b i c ∧ z' = z) := by
  refine XM.of (by decide) (Nat.le_of_ble_eq_true rfl) (fun xp xe xs xm xar xbl xme xc xD xcs xad xAA xCC xhr => ?_)
  generalize xhQ : MQ xbl _ xar xs 0 0 xAA = xQ
  show ww xp l xe (xRm (d + 1)) xs xm xar xbl xme xc 3 xD xcs xad shM xAA xQ 0 [(0, .ref 0), (1, .int (nI i)), (2, .int (nI c))] [] z
  have g4 := hpm.2.2.2.1
  have g6 := hpm.2.2.2.2.2
  refine ww_blk xCC okX6_isLetter 0 6 (ps := []) (pc' := 10) (lv' := [(0, .ref 0), (1, .int (nI i)), (2, .int (nI c))]) (st' := [.int (z.1 0 24), .int ((z.1 0 26) + (nI i))]) (z' := z) rfl trivial ?_
  rw [hb]
  rw [ha]
  rw [nI_add a i]
  refine ww_br xCC okX6_isLetter 6 (P := (nI b) ≤ (nI (a + i))) (t1 := 35) (t2 := 13) (r := []) rfl (fun c1 => ?_) (fun c1 => ?_)
  · skip
    replace c1 : b ≤ (a + i) := (sLE (a := b) (b := (a + i)) (by omega) (by omega)).mp c1
    refine ww_blk xCC okX6_isLetter 19 1 (ps := []) (pc' := 36) (lv' := [(0, .ref 0), (1, .int (nI i)), (2, .int (nI c))]) (st' := [.int (nI c)]) (z' := z) rfl trivial ?_
    refine ww_br xCC okX6_isLetter 20 (P := (nI c) = 0) (t1 := 39) (t2 := 43) (r := []) rfl (fun c2 => ?_) (fun c2 => ?_)
    · skip
      replace c2 : c = 0 := (sEQ (a := c) (b := 0) (by omega) (by omega)).mp c2
      refine ww_blk xCC okX6_isLetter 21 2 (ps := []) (pc' := 44) (lv' := [(0, .ref 0), (1, .int (nI i)), (2, .int (nI c))]) (st' := [.int 1]) (z' := z) rfl trivial ?_
      subst xhQ
      exact ww_iret xCC okX6_isLetter 24 xhr rfl (by decide) (Or.inl ⟨rfl, ⟨(by unfold pL; omega), rfl⟩⟩)
    · skip
      replace c2 : ¬ c = 0 := fun q => c2 ((sEQ (a := c) (b := 0) (by omega) (by omega)).mpr q)
      refine ww_blk xCC okX6_isLetter 23 1 (ps := []) (pc' := 44) (lv' := [(0, .ref 0), (1, .int (nI i)), (2, .int (nI c))]) (st' := [.int 0]) (z' := z) rfl trivial ?_
      subst xhQ
      exact ww_iret xCC okX6_isLetter 24 xhr rfl (by decide) (Or.inr ⟨rfl, ⟨(by unfold pL; omega), rfl⟩⟩)
  · skip
    replace c1 : ¬ b ≤ (a + i) := fun q => c1 ((sLE (a := b) (b := (a + i)) (by omega) (by omega)).mpr q)
    refine ww_blk xCC okX6_isLetter 7 5 (ps := []) (pc' := 20) (lv' := [(0, .ref 0), (1, .int (nI i)), (2, .int (nI c))]) (st' := [.int ((z.1 0 26) + (nI i)), .ref 0]) (z' := z) rfl trivial ?_
    rw [ha]
    rw [nI_add a i]
    refine ww_callVIi xCC okX6_isLetter 12 (ix := 153) (t_X6_byteAt l d z bt n fr hpm (a + i) (by omega)) (by omega) (by decide) xyX6_byteAt xiX6_byteAt (Or.inl (lw_gt_of (List.mem_of_getElem? (i := 1019) (by decide +kernel)) rfl)) rfl rfl rfl (rest := []) rfl (Nat.le_of_ble_eq_true rfl) rfl (fun v5 z3 h4 => ?_)
    rw [h4.1, h4.2]
    refine ww_blk xCC okX6_isLetter 13 1 (ps := []) (pc' := 24) (lv' := [(0, .ref 0), (1, .int (nI i)), (2, .int (nI c))]) (st' := [.int (nI c), .int (pB bt n (a + i))]) (z' := z) rfl trivial ?_
    refine ww_br xCC okX6_isLetter 14 (P := (pB bt n (a + i)) = (nI c)) (t1 := 27) (t2 := 31) (r := []) rfl (fun c6 => ?_) (fun c6 => ?_)
    · skip
      have hl : bt (a + i) = c := ((pB_eq g4 c hc).mp c6).2
      refine ww_blk xCC okX6_isLetter 15 2 (ps := []) (pc' := 44) (lv' := [(0, .ref 0), (1, .int (nI i)), (2, .int (nI c))]) (st' := [.int 1]) (z' := z) rfl trivial ?_
      subst xhQ
      exact ww_iret xCC okX6_isLetter 24 xhr rfl (by decide) (Or.inl ⟨rfl, ⟨(by unfold pL; omega), rfl⟩⟩)
    · skip
      have hl : bt (a + i) ≠ c := fun q => c6 ((pB_eq g4 c hc).mpr ⟨by omega, q⟩)
      refine ww_blk xCC okX6_isLetter 17 2 (ps := []) (pc' := 44) (lv' := [(0, .ref 0), (1, .int (nI i)), (2, .int (nI c))]) (st' := [.int 0]) (z' := z) rfl trivial ?_
      subst xhQ
      exact ww_iret xCC okX6_isLetter 24 xhr rfl (by decide) (Or.inr ⟨rfl, ⟨(by unfold pL; omega), rfl⟩⟩)

set_option maxHeartbeats 4000000 in
set_option maxRecDepth 20000 in
theorem t_X6_isSign (l : Launch) (d : Nat) (z : xMem) (bt : Nat → Nat) (n pos : Nat) (hbt : ∀ i, bt i < 256) (hbad : z.1 0 29 = 0) (htk : tkM z bt n pos) (c : Nat) (hc : c ∈ [40, 41, 59, 43, 45, 42, 60, 61]) : XMz l d yX6_isSign cX6_isSign 2 (some .boolean) shM [.ref 0, .int (nI c)] z (fun z' => (pTok bt n pos).1 = pSg c ∧ z' = z) (fun z' => (pTok bt n pos).1 ≠ pSg c ∧ z' = z) := by
  refine XM.of (by decide) (Nat.le_of_ble_eq_true rfl) (fun xp xe xs xm xar xbl xme xc xD xcs xad xAA xCC xhr => ?_)
  generalize xhQ : MQ xbl _ xar xs 0 0 xAA = xQ
  show ww xp l xe (xRm d) xs xm xar xbl xme xc 2 xD xcs xad shM xAA xQ 0 [(0, .ref 0), (1, .int (nI c))] [] z
  have hck : ∀ k, k ∈ [40, 41, 59, 43, 45, 42, 60, 61] → k < 256 := by decide
  have hc2 := hck c hc
  refine ww_blk xCC okX6_isSign 0 2 (ps := []) (pc' := 4) (lv' := [(0, .ref 0), (1, .int (nI c))]) (st' := [.int (z.1 0 29)]) (z' := z) rfl trivial ?_
  refine ww_br xCC okX6_isSign 2 (P := (z.1 0 29) = 0) (t1 := 7) (t2 := 29) (r := []) rfl (fun c1 => ?_) (fun c1 => absurd (hbad) c1)
  refine ww_blk xCC okX6_isSign 3 3 (ps := []) (pc' := 12) (lv' := [(0, .ref 0), (1, .int (nI c))]) (st' := [.int 3, .int (z.1 0 25)]) (z' := z) rfl trivial ?_
  refine ww_br xCC okX6_isSign 6 (P := (z.1 0 25) = 3) (t1 := 15) (t2 := 29) (r := []) rfl (fun c2 => ?_) (fun c2 => ?_)
  · skip
    refine ww_blk xCC okX6_isSign 7 5 (ps := []) (pc' := 22) (lv' := [(0, .ref 0), (1, .int (nI c))]) (st' := [.int (lg_cmp (z.2.1 0 27) ((nI c).toInt64))]) (z' := z) rfl trivial ?_
    refine ww_br xCC okX6_isSign 12 (P := (lg_cmp (z.2.1 0 27) ((nI c).toInt64)) = 0) (t1 := 25) (t2 := 29) (r := []) rfl (fun c3 => ?_) (fun c3 => ?_)
    · skip
      refine ww_blk xCC okX6_isSign 13 2 (ps := []) (pc' := 30) (lv' := [(0, .ref 0), (1, .int (nI c))]) (st' := [.int 1]) (z' := z) rfl trivial ?_
      subst xhQ
      exact ww_iret xCC okX6_isSign 16 xhr rfl (by decide) (Or.inl ⟨rfl, ⟨(tkM_sign1 hbt htk hc c2 c3), rfl⟩⟩)
    · skip
      refine ww_blk xCC okX6_isSign 15 1 (ps := []) (pc' := 30) (lv' := [(0, .ref 0), (1, .int (nI c))]) (st' := [.int 0]) (z' := z) rfl trivial ?_
      subst xhQ
      exact ww_iret xCC okX6_isSign 16 xhr rfl (by decide) (Or.inr ⟨rfl, ⟨(by first | exact tkM_sign0 hbt htk hc (Or.inl c2) | exact tkM_sign0 hbt htk hc (Or.inr ⟨c2, c3⟩)), rfl⟩⟩)
  · skip
    refine ww_blk xCC okX6_isSign 15 1 (ps := []) (pc' := 30) (lv' := [(0, .ref 0), (1, .int (nI c))]) (st' := [.int 0]) (z' := z) rfl trivial ?_
    subst xhQ
    exact ww_iret xCC okX6_isSign 16 xhr rfl (by decide) (Or.inr ⟨rfl, ⟨(by first | exact tkM_sign0 hbt htk hc (Or.inl c2) | exact tkM_sign0 hbt htk hc (Or.inr ⟨c2, c3⟩)), rfl⟩⟩)

set_option maxHeartbeats 4000000 in
set_option maxRecDepth 20000 in
theorem t_X6_isSign_b (l : Launch) (d : Nat) (z : xMem) (hbad : z.1 0 29 = 1) (c : Int32) : XMi l d yX6_isSign cX6_isSign 2 (some .boolean) shM [.ref 0, .int c] z (fun v z' => v = 0 ∧ z' = z) := by
  refine XM.of (by decide) (Nat.le_of_ble_eq_true rfl) (fun xp xe xs xm xar xbl xme xc xD xcs xad xAA xCC xhr => ?_)
  generalize xhQ : MQ xbl _ xar xs 0 0 xAA = xQ
  show ww xp l xe (xRm d) xs xm xar xbl xme xc 2 xD xcs xad shM xAA xQ 0 [(0, .ref 0), (1, .int c)] [] z
  refine ww_blk xCC okX6_isSign 0 2 (ps := []) (pc' := 4) (lv' := [(0, .ref 0), (1, .int c)]) (st' := [.int (z.1 0 29)]) (z' := z) rfl trivial ?_
  refine ww_br xCC okX6_isSign 2 (P := (z.1 0 29) = 0) (t1 := 7) (t2 := 29) (r := []) rfl (fun c1 => absurd c1 (by rw [hbad]; decide)) (fun c1 => ?_)
  refine ww_blk xCC okX6_isSign 15 1 (ps := []) (pc' := 30) (lv' := [(0, .ref 0), (1, .int c)]) (st' := [.int 0]) (z' := z) rfl trivial ?_
  subst xhQ
  exact ww_iret xCC okX6_isSign 16 xhr rfl (by decide) ⟨_, rfl, ⟨rfl, rfl⟩⟩

set_option maxHeartbeats 4000000 in
set_option maxRecDepth 20000 in
theorem t_X6_isWord (l : Launch) (d : Nat) (z : xMem) (bt : Nat → Nat) (n fr : Nat) (hpm : pM z bt n fr) (pos : Nat) (hpos : pos ≤ n) (hbad : z.1 0 29 = 0) (htk : tkM z bt n pos) (w : List Nat) (C : Nat) (hw : (w, C) ∈ pWords) : XMz l (d + 2) yX6_isWord cX6_isWord 9 (some .boolean) shM [.ref 0, .int (nI (w.getD 0 0)), .int (nI (w.getD 1 0)), .int (nI (w.getD 2 0)), .int (nI (w.getD 3 0)), .int (nI (w.getD 4 0)), .int (nI (w.getD 5 0)), .int (nI (w.getD 6 0)), .int (nI (w.getD 7 0))] z (fun z' => (pTok bt n pos).1 = C ∧ z' = z) (fun z' => (pTok bt n pos).1 ≠ C ∧ z' = z) := by
  refine XM.of (by decide) (Nat.le_of_ble_eq_true rfl) (fun xp xe xs xm xar xbl xme xc xD xcs xad xAA xCC xhr => ?_)
  generalize xhQ : MQ xbl _ xar xs 0 0 xAA = xQ
  show ww xp l xe (xRm (d + 2)) xs xm xar xbl xme xc 9 xD xcs xad shM xAA xQ 0 [(0, .ref 0), (1, .int (nI (w.getD 0 0))), (2, .int (nI (w.getD 1 0))), (3, .int (nI (w.getD 2 0))), (4, .int (nI (w.getD 3 0))), (5, .int (nI (w.getD 4 0))), (6, .int (nI (w.getD 5 0))), (7, .int (nI (w.getD 6 0))), (8, .int (nI (w.getD 7 0)))] [] z
  have g6 := hpm.2.2.2.2.2
  refine ww_blk xCC okX6_isWord 0 2 (ps := []) (pc' := 4) (lv' := [(0, .ref 0), (1, .int (nI (w.getD 0 0))), (2, .int (nI (w.getD 1 0))), (3, .int (nI (w.getD 2 0))), (4, .int (nI (w.getD 3 0))), (5, .int (nI (w.getD 4 0))), (6, .int (nI (w.getD 5 0))), (7, .int (nI (w.getD 6 0))), (8, .int (nI (w.getD 7 0)))]) (st' := [.int (z.1 0 29)]) (z' := z) rfl trivial ?_
  refine ww_br xCC okX6_isWord 2 (P := (z.1 0 29) = 0) (t1 := 7) (t2 := 112) (r := []) rfl (fun c1 => ?_) (fun c1 => absurd (hbad) c1)
  refine ww_blk xCC okX6_isWord 3 3 (ps := []) (pc' := 12) (lv' := [(0, .ref 0), (1, .int (nI (w.getD 0 0))), (2, .int (nI (w.getD 1 0))), (3, .int (nI (w.getD 2 0))), (4, .int (nI (w.getD 3 0))), (5, .int (nI (w.getD 4 0))), (6, .int (nI (w.getD 5 0))), (7, .int (nI (w.getD 6 0))), (8, .int (nI (w.getD 7 0)))]) (st' := [.int 1, .int (z.1 0 25)]) (z' := z) rfl trivial ?_
  refine ww_br xCC okX6_isWord 6 (P := (z.1 0 25) = 1) (t1 := 15) (t2 := 112) (r := []) rfl (fun c2 => ?_) (fun c2 => ?_)
  · skip
    obtain ⟨a, b, ha, hb, hpa, han, hbn, hlet, hcode⟩ := tkM_word hpos htk c2
    have hcc := fun i hi => (pWords_ok _ hw).2 i hi
    refine ww_blk xCC okX6_isWord 7 6 (ps := []) (pc' := 26) (lv' := [(0, .ref 0), (1, .int (nI (w.getD 0 0))), (2, .int (nI (w.getD 1 0))), (3, .int (nI (w.getD 2 0))), (4, .int (nI (w.getD 3 0))), (5, .int (nI (w.getD 4 0))), (6, .int (nI (w.getD 5 0))), (7, .int (nI (w.getD 6 0))), (8, .int (nI (w.getD 7 0)))]) (st' := [.int ((z.1 0 26) + 8), .int (z.1 0 24)]) (z' := z) rfl trivial ?_
    rw [ha]
    rw [show nI a + 8 = nI (a + 8) from nI_add a 8]
    rw [hb]
    refine ww_br xCC okX6_isWord 13 (P := (nI (a + 8)) < (nI b)) (t1 := 112) (t2 := 29) (r := []) rfl (fun c3 => ?_) (fun c3 => ?_)
    · skip
      replace c3 : (a + 8) < b := (sLT (a := (a + 8)) (b := b) (by omega) (by omega)).mp c3
      refine ww_blk xCC okX6_isWord 56 1 (ps := []) (pc' := 113) (lv' := [(0, .ref 0), (1, .int (nI (w.getD 0 0))), (2, .int (nI (w.getD 1 0))), (3, .int (nI (w.getD 2 0))), (4, .int (nI (w.getD 3 0))), (5, .int (nI (w.getD 4 0))), (6, .int (nI (w.getD 5 0))), (7, .int (nI (w.getD 6 0))), (8, .int (nI (w.getD 7 0)))]) (st' := [.int 0]) (z' := z) rfl trivial ?_
      subst xhQ
      exact ww_iret xCC okX6_isWord 57 xhr rfl (by decide) (Or.inr ⟨rfl, ⟨(by first | exact tkM_noword hw htk hw0 | (rw [Ne, hcode, pWd_of hw, ← pL_all hw hpa hlet]; exact fun q => hno (q.2 _ hni)) | (rw [Ne, hcode, pWd_of hw, ← pL_all hw hpa hlet]; exact fun q => absurd q.1 (by omega))), rfl⟩⟩)
    · skip
      replace c3 : ¬ (a + 8) < b := fun q => c3 ((sLT (a := (a + 8)) (b := b) (by omega) (by omega)).mpr q)
      refine ww_blk xCC okX6_isWord 14 3 (ps := []) (pc' := 32) (lv' := [(0, .ref 0), (1, .int (nI (w.getD 0 0))), (2, .int (nI (w.getD 1 0))), (3, .int (nI (w.getD 2 0))), (4, .int (nI (w.getD 3 0))), (5, .int (nI (w.getD 4 0))), (6, .int (nI (w.getD 5 0))), (7, .int (nI (w.getD 6 0))), (8, .int (nI (w.getD 7 0)))]) (st' := [.int (nI (w.getD 0 0)), .int 0, .ref 0]) (z' := z) rfl trivial ?_
      refine ww_callVIz xCC okX6_isWord 17 (ix := 183) (t_X6_isLetter l d z bt n fr hpm a b 0 (w.getD 0 0) ha hb hbn han (by decide) (pW_lt hw 0)) (by omega) (by decide) xyX6_isLetter xiX6_isLetter (Or.inl (lw_gt_of (List.mem_of_getElem? (i := 1032) (by decide +kernel)) rfl)) rfl rfl rfl (rest := []) rfl (Nat.le_of_ble_eq_true rfl) rfl (fun z4 h5 => ?_) (fun z4 h5 => ?_)
      · skip
        rw [h5.2]
        have hl0 := h5.1
        refine ww_br xCC okX6_isWord 18 (P := 1 = 0) (t1 := 112) (t2 := 38) (r := []) rfl (fun q => absurd q (by decide)) (fun _ => ?_)
        refine ww_blk xCC okX6_isWord 19 3 (ps := []) (pc' := 41) (lv' := [(0, .ref 0), (1, .int (nI (w.getD 0 0))), (2, .int (nI (w.getD 1 0))), (3, .int (nI (w.getD 2 0))), (4, .int (nI (w.getD 3 0))), (5, .int (nI (w.getD 4 0))), (6, .int (nI (w.getD 5 0))), (7, .int (nI (w.getD 6 0))), (8, .int (nI (w.getD 7 0)))]) (st' := [.int (nI (w.getD 1 0)), .int 1, .ref 0]) (z' := z) rfl trivial ?_
        refine ww_callVIz xCC okX6_isWord 22 (ix := 183) (t_X6_isLetter l d z bt n fr hpm a b 1 (w.getD 1 0) ha hb hbn han (by decide) (pW_lt hw 1)) (by omega) (by decide) xyX6_isLetter xiX6_isLetter (Or.inl (lw_gt_of (List.mem_of_getElem? (i := 1032) (by decide +kernel)) rfl)) rfl rfl rfl (rest := []) rfl (Nat.le_of_ble_eq_true rfl) rfl (fun z7 h8 => ?_) (fun z7 h8 => ?_)
        · skip
          rw [h8.2]
          have hl1 := h8.1
          refine ww_br xCC okX6_isWord 23 (P := 1 = 0) (t1 := 112) (t2 := 47) (r := []) rfl (fun q => absurd q (by decide)) (fun _ => ?_)
          refine ww_blk xCC okX6_isWord 24 3 (ps := []) (pc' := 50) (lv' := [(0, .ref 0), (1, .int (nI (w.getD 0 0))), (2, .int (nI (w.getD 1 0))), (3, .int (nI (w.getD 2 0))), (4, .int (nI (w.getD 3 0))), (5, .int (nI (w.getD 4 0))), (6, .int (nI (w.getD 5 0))), (7, .int (nI (w.getD 6 0))), (8, .int (nI (w.getD 7 0)))]) (st' := [.int (nI (w.getD 2 0)), .int 2, .ref 0]) (z' := z) rfl trivial ?_
          refine ww_callVIz xCC okX6_isWord 27 (ix := 183) (t_X6_isLetter l d z bt n fr hpm a b 2 (w.getD 2 0) ha hb hbn han (by decide) (pW_lt hw 2)) (by omega) (by decide) xyX6_isLetter xiX6_isLetter (Or.inl (lw_gt_of (List.mem_of_getElem? (i := 1032) (by decide +kernel)) rfl)) rfl rfl rfl (rest := []) rfl (Nat.le_of_ble_eq_true rfl) rfl (fun z10 h11 => ?_) (fun z10 h11 => ?_)
          · skip
            rw [h11.2]
            have hl2 := h11.1
            refine ww_br xCC okX6_isWord 28 (P := 1 = 0) (t1 := 112) (t2 := 56) (r := []) rfl (fun q => absurd q (by decide)) (fun _ => ?_)
            refine ww_blk xCC okX6_isWord 29 3 (ps := []) (pc' := 60) (lv' := [(0, .ref 0), (1, .int (nI (w.getD 0 0))), (2, .int (nI (w.getD 1 0))), (3, .int (nI (w.getD 2 0))), (4, .int (nI (w.getD 3 0))), (5, .int (nI (w.getD 4 0))), (6, .int (nI (w.getD 5 0))), (7, .int (nI (w.getD 6 0))), (8, .int (nI (w.getD 7 0)))]) (st' := [.int (nI (w.getD 3 0)), .int 3, .ref 0]) (z' := z) rfl trivial ?_
            refine ww_callVIz xCC okX6_isWord 32 (ix := 183) (t_X6_isLetter l d z bt n fr hpm a b 3 (w.getD 3 0) ha hb hbn han (by decide) (pW_lt hw 3)) (by omega) (by decide) xyX6_isLetter xiX6_isLetter (Or.inl (lw_gt_of (List.mem_of_getElem? (i := 1032) (by decide +kernel)) rfl)) rfl rfl rfl (rest := []) rfl (Nat.le_of_ble_eq_true rfl) rfl (fun z13 h14 => ?_) (fun z13 h14 => ?_)
            · skip
              rw [h14.2]
              have hl3 := h14.1
              refine ww_br xCC okX6_isWord 33 (P := 1 = 0) (t1 := 112) (t2 := 66) (r := []) rfl (fun q => absurd q (by decide)) (fun _ => ?_)
              refine ww_blk xCC okX6_isWord 34 3 (ps := []) (pc' := 70) (lv' := [(0, .ref 0), (1, .int (nI (w.getD 0 0))), (2, .int (nI (w.getD 1 0))), (3, .int (nI (w.getD 2 0))), (4, .int (nI (w.getD 3 0))), (5, .int (nI (w.getD 4 0))), (6, .int (nI (w.getD 5 0))), (7, .int (nI (w.getD 6 0))), (8, .int (nI (w.getD 7 0)))]) (st' := [.int (nI (w.getD 4 0)), .int 4, .ref 0]) (z' := z) rfl trivial ?_
              refine ww_callVIz xCC okX6_isWord 37 (ix := 183) (t_X6_isLetter l d z bt n fr hpm a b 4 (w.getD 4 0) ha hb hbn han (by decide) (pW_lt hw 4)) (by omega) (by decide) xyX6_isLetter xiX6_isLetter (Or.inl (lw_gt_of (List.mem_of_getElem? (i := 1032) (by decide +kernel)) rfl)) rfl rfl rfl (rest := []) rfl (Nat.le_of_ble_eq_true rfl) rfl (fun z16 h17 => ?_) (fun z16 h17 => ?_)
              · skip
                rw [h17.2]
                have hl4 := h17.1
                refine ww_br xCC okX6_isWord 38 (P := 1 = 0) (t1 := 112) (t2 := 76) (r := []) rfl (fun q => absurd q (by decide)) (fun _ => ?_)
                refine ww_blk xCC okX6_isWord 39 3 (ps := []) (pc' := 80) (lv' := [(0, .ref 0), (1, .int (nI (w.getD 0 0))), (2, .int (nI (w.getD 1 0))), (3, .int (nI (w.getD 2 0))), (4, .int (nI (w.getD 3 0))), (5, .int (nI (w.getD 4 0))), (6, .int (nI (w.getD 5 0))), (7, .int (nI (w.getD 6 0))), (8, .int (nI (w.getD 7 0)))]) (st' := [.int (nI (w.getD 5 0)), .int 5, .ref 0]) (z' := z) rfl trivial ?_
                refine ww_callVIz xCC okX6_isWord 42 (ix := 183) (t_X6_isLetter l d z bt n fr hpm a b 5 (w.getD 5 0) ha hb hbn han (by decide) (pW_lt hw 5)) (by omega) (by decide) xyX6_isLetter xiX6_isLetter (Or.inl (lw_gt_of (List.mem_of_getElem? (i := 1032) (by decide +kernel)) rfl)) rfl rfl rfl (rest := []) rfl (Nat.le_of_ble_eq_true rfl) rfl (fun z19 h20 => ?_) (fun z19 h20 => ?_)
                · skip
                  rw [h20.2]
                  have hl5 := h20.1
                  refine ww_br xCC okX6_isWord 43 (P := 1 = 0) (t1 := 112) (t2 := 86) (r := []) rfl (fun q => absurd q (by decide)) (fun _ => ?_)
                  refine ww_blk xCC okX6_isWord 44 3 (ps := []) (pc' := 91) (lv' := [(0, .ref 0), (1, .int (nI (w.getD 0 0))), (2, .int (nI (w.getD 1 0))), (3, .int (nI (w.getD 2 0))), (4, .int (nI (w.getD 3 0))), (5, .int (nI (w.getD 4 0))), (6, .int (nI (w.getD 5 0))), (7, .int (nI (w.getD 6 0))), (8, .int (nI (w.getD 7 0)))]) (st' := [.int (nI (w.getD 6 0)), .int 6, .ref 0]) (z' := z) rfl trivial ?_
                  refine ww_callVIz xCC okX6_isWord 47 (ix := 183) (t_X6_isLetter l d z bt n fr hpm a b 6 (w.getD 6 0) ha hb hbn han (by decide) (pW_lt hw 6)) (by omega) (by decide) xyX6_isLetter xiX6_isLetter (Or.inl (lw_gt_of (List.mem_of_getElem? (i := 1032) (by decide +kernel)) rfl)) rfl rfl rfl (rest := []) rfl (Nat.le_of_ble_eq_true rfl) rfl (fun z22 h23 => ?_) (fun z22 h23 => ?_)
                  · skip
                    rw [h23.2]
                    have hl6 := h23.1
                    refine ww_br xCC okX6_isWord 48 (P := 1 = 0) (t1 := 112) (t2 := 97) (r := []) rfl (fun q => absurd q (by decide)) (fun _ => ?_)
                    refine ww_blk xCC okX6_isWord 49 3 (ps := []) (pc' := 102) (lv' := [(0, .ref 0), (1, .int (nI (w.getD 0 0))), (2, .int (nI (w.getD 1 0))), (3, .int (nI (w.getD 2 0))), (4, .int (nI (w.getD 3 0))), (5, .int (nI (w.getD 4 0))), (6, .int (nI (w.getD 5 0))), (7, .int (nI (w.getD 6 0))), (8, .int (nI (w.getD 7 0)))]) (st' := [.int (nI (w.getD 7 0)), .int 7, .ref 0]) (z' := z) rfl trivial ?_
                    refine ww_callVIz xCC okX6_isWord 52 (ix := 183) (t_X6_isLetter l d z bt n fr hpm a b 7 (w.getD 7 0) ha hb hbn han (by decide) (pW_lt hw 7)) (by omega) (by decide) xyX6_isLetter xiX6_isLetter (Or.inl (lw_gt_of (List.mem_of_getElem? (i := 1032) (by decide +kernel)) rfl)) rfl rfl rfl (rest := []) rfl (Nat.le_of_ble_eq_true rfl) rfl (fun z25 h26 => ?_) (fun z25 h26 => ?_)
                    · skip
                      rw [h26.2]
                      have hl7 := h26.1
                      refine ww_br xCC okX6_isWord 53 (P := 1 = 0) (t1 := 112) (t2 := 108) (r := []) rfl (fun q => absurd q (by decide)) (fun _ => ?_)
                      refine ww_blk xCC okX6_isWord 54 2 (ps := []) (pc' := 113) (lv' := [(0, .ref 0), (1, .int (nI (w.getD 0 0))), (2, .int (nI (w.getD 1 0))), (3, .int (nI (w.getD 2 0))), (4, .int (nI (w.getD 3 0))), (5, .int (nI (w.getD 4 0))), (6, .int (nI (w.getD 5 0))), (7, .int (nI (w.getD 6 0))), (8, .int (nI (w.getD 7 0)))]) (st' := [.int 1]) (z' := z) rfl trivial ?_
                      subst xhQ
                      exact ww_iret xCC okX6_isWord 57 xhr rfl (by decide) (Or.inl ⟨rfl, ⟨(by rw [hcode, pWd_of hw, ← pL_all hw hpa hlet]; exact ⟨by omega, fun i hi => by rcases (show i = 0 ∨ i = 1 ∨ i = 2 ∨ i = 3 ∨ i = 4 ∨ i = 5 ∨ i = 6 ∨ i = 7 by omega) with rfl | rfl | rfl | rfl | rfl | rfl | rfl | rfl <;> assumption⟩), rfl⟩⟩)
                    · skip
                      rw [h26.2]
                      have hno := h26.1
                      have hni : (7 : Nat) < 8 := by decide
                      refine ww_br xCC okX6_isWord 53 (P := 0 = 0) (t1 := 112) (t2 := 108) (r := []) rfl (fun _ => ?_) (fun q => absurd (by decide) q)
                      refine ww_blk xCC okX6_isWord 56 1 (ps := []) (pc' := 113) (lv' := [(0, .ref 0), (1, .int (nI (w.getD 0 0))), (2, .int (nI (w.getD 1 0))), (3, .int (nI (w.getD 2 0))), (4, .int (nI (w.getD 3 0))), (5, .int (nI (w.getD 4 0))), (6, .int (nI (w.getD 5 0))), (7, .int (nI (w.getD 6 0))), (8, .int (nI (w.getD 7 0)))]) (st' := [.int 0]) (z' := z) rfl trivial ?_
                      subst xhQ
                      exact ww_iret xCC okX6_isWord 57 xhr rfl (by decide) (Or.inr ⟨rfl, ⟨(by first | exact tkM_noword hw htk hw0 | (rw [Ne, hcode, pWd_of hw, ← pL_all hw hpa hlet]; exact fun q => hno (q.2 _ hni)) | (rw [Ne, hcode, pWd_of hw, ← pL_all hw hpa hlet]; exact fun q => absurd q.1 (by omega))), rfl⟩⟩)
                  · skip
                    rw [h23.2]
                    have hno := h23.1
                    have hni : (6 : Nat) < 8 := by decide
                    refine ww_br xCC okX6_isWord 48 (P := 0 = 0) (t1 := 112) (t2 := 97) (r := []) rfl (fun _ => ?_) (fun q => absurd (by decide) q)
                    refine ww_blk xCC okX6_isWord 56 1 (ps := []) (pc' := 113) (lv' := [(0, .ref 0), (1, .int (nI (w.getD 0 0))), (2, .int (nI (w.getD 1 0))), (3, .int (nI (w.getD 2 0))), (4, .int (nI (w.getD 3 0))), (5, .int (nI (w.getD 4 0))), (6, .int (nI (w.getD 5 0))), (7, .int (nI (w.getD 6 0))), (8, .int (nI (w.getD 7 0)))]) (st' := [.int 0]) (z' := z) rfl trivial ?_
                    subst xhQ
                    exact ww_iret xCC okX6_isWord 57 xhr rfl (by decide) (Or.inr ⟨rfl, ⟨(by first | exact tkM_noword hw htk hw0 | (rw [Ne, hcode, pWd_of hw, ← pL_all hw hpa hlet]; exact fun q => hno (q.2 _ hni)) | (rw [Ne, hcode, pWd_of hw, ← pL_all hw hpa hlet]; exact fun q => absurd q.1 (by omega))), rfl⟩⟩)
                · skip
                  rw [h20.2]
                  have hno := h20.1
                  have hni : (5 : Nat) < 8 := by decide
                  refine ww_br xCC okX6_isWord 43 (P := 0 = 0) (t1 := 112) (t2 := 86) (r := []) rfl (fun _ => ?_) (fun q => absurd (by decide) q)
                  refine ww_blk xCC okX6_isWord 56 1 (ps := []) (pc' := 113) (lv' := [(0, .ref 0), (1, .int (nI (w.getD 0 0))), (2, .int (nI (w.getD 1 0))), (3, .int (nI (w.getD 2 0))), (4, .int (nI (w.getD 3 0))), (5, .int (nI (w.getD 4 0))), (6, .int (nI (w.getD 5 0))), (7, .int (nI (w.getD 6 0))), (8, .int (nI (w.getD 7 0)))]) (st' := [.int 0]) (z' := z) rfl trivial ?_
                  subst xhQ
                  exact ww_iret xCC okX6_isWord 57 xhr rfl (by decide) (Or.inr ⟨rfl, ⟨(by first | exact tkM_noword hw htk hw0 | (rw [Ne, hcode, pWd_of hw, ← pL_all hw hpa hlet]; exact fun q => hno (q.2 _ hni)) | (rw [Ne, hcode, pWd_of hw, ← pL_all hw hpa hlet]; exact fun q => absurd q.1 (by omega))), rfl⟩⟩)
              · skip
                rw [h17.2]
                have hno := h17.1
                have hni : (4 : Nat) < 8 := by decide
                refine ww_br xCC okX6_isWord 38 (P := 0 = 0) (t1 := 112) (t2 := 76) (r := []) rfl (fun _ => ?_) (fun q => absurd (by decide) q)
                refine ww_blk xCC okX6_isWord 56 1 (ps := []) (pc' := 113) (lv' := [(0, .ref 0), (1, .int (nI (w.getD 0 0))), (2, .int (nI (w.getD 1 0))), (3, .int (nI (w.getD 2 0))), (4, .int (nI (w.getD 3 0))), (5, .int (nI (w.getD 4 0))), (6, .int (nI (w.getD 5 0))), (7, .int (nI (w.getD 6 0))), (8, .int (nI (w.getD 7 0)))]) (st' := [.int 0]) (z' := z) rfl trivial ?_
                subst xhQ
                exact ww_iret xCC okX6_isWord 57 xhr rfl (by decide) (Or.inr ⟨rfl, ⟨(by first | exact tkM_noword hw htk hw0 | (rw [Ne, hcode, pWd_of hw, ← pL_all hw hpa hlet]; exact fun q => hno (q.2 _ hni)) | (rw [Ne, hcode, pWd_of hw, ← pL_all hw hpa hlet]; exact fun q => absurd q.1 (by omega))), rfl⟩⟩)
            · skip
              rw [h14.2]
              have hno := h14.1
              have hni : (3 : Nat) < 8 := by decide
              refine ww_br xCC okX6_isWord 33 (P := 0 = 0) (t1 := 112) (t2 := 66) (r := []) rfl (fun _ => ?_) (fun q => absurd (by decide) q)
              refine ww_blk xCC okX6_isWord 56 1 (ps := []) (pc' := 113) (lv' := [(0, .ref 0), (1, .int (nI (w.getD 0 0))), (2, .int (nI (w.getD 1 0))), (3, .int (nI (w.getD 2 0))), (4, .int (nI (w.getD 3 0))), (5, .int (nI (w.getD 4 0))), (6, .int (nI (w.getD 5 0))), (7, .int (nI (w.getD 6 0))), (8, .int (nI (w.getD 7 0)))]) (st' := [.int 0]) (z' := z) rfl trivial ?_
              subst xhQ
              exact ww_iret xCC okX6_isWord 57 xhr rfl (by decide) (Or.inr ⟨rfl, ⟨(by first | exact tkM_noword hw htk hw0 | (rw [Ne, hcode, pWd_of hw, ← pL_all hw hpa hlet]; exact fun q => hno (q.2 _ hni)) | (rw [Ne, hcode, pWd_of hw, ← pL_all hw hpa hlet]; exact fun q => absurd q.1 (by omega))), rfl⟩⟩)
          · skip
            rw [h11.2]
            have hno := h11.1
            have hni : (2 : Nat) < 8 := by decide
            refine ww_br xCC okX6_isWord 28 (P := 0 = 0) (t1 := 112) (t2 := 56) (r := []) rfl (fun _ => ?_) (fun q => absurd (by decide) q)
            refine ww_blk xCC okX6_isWord 56 1 (ps := []) (pc' := 113) (lv' := [(0, .ref 0), (1, .int (nI (w.getD 0 0))), (2, .int (nI (w.getD 1 0))), (3, .int (nI (w.getD 2 0))), (4, .int (nI (w.getD 3 0))), (5, .int (nI (w.getD 4 0))), (6, .int (nI (w.getD 5 0))), (7, .int (nI (w.getD 6 0))), (8, .int (nI (w.getD 7 0)))]) (st' := [.int 0]) (z' := z) rfl trivial ?_
            subst xhQ
            exact ww_iret xCC okX6_isWord 57 xhr rfl (by decide) (Or.inr ⟨rfl, ⟨(by first | exact tkM_noword hw htk hw0 | (rw [Ne, hcode, pWd_of hw, ← pL_all hw hpa hlet]; exact fun q => hno (q.2 _ hni)) | (rw [Ne, hcode, pWd_of hw, ← pL_all hw hpa hlet]; exact fun q => absurd q.1 (by omega))), rfl⟩⟩)
        · skip
          rw [h8.2]
          have hno := h8.1
          have hni : (1 : Nat) < 8 := by decide
          refine ww_br xCC okX6_isWord 23 (P := 0 = 0) (t1 := 112) (t2 := 47) (r := []) rfl (fun _ => ?_) (fun q => absurd (by decide) q)
          refine ww_blk xCC okX6_isWord 56 1 (ps := []) (pc' := 113) (lv' := [(0, .ref 0), (1, .int (nI (w.getD 0 0))), (2, .int (nI (w.getD 1 0))), (3, .int (nI (w.getD 2 0))), (4, .int (nI (w.getD 3 0))), (5, .int (nI (w.getD 4 0))), (6, .int (nI (w.getD 5 0))), (7, .int (nI (w.getD 6 0))), (8, .int (nI (w.getD 7 0)))]) (st' := [.int 0]) (z' := z) rfl trivial ?_
          subst xhQ
          exact ww_iret xCC okX6_isWord 57 xhr rfl (by decide) (Or.inr ⟨rfl, ⟨(by first | exact tkM_noword hw htk hw0 | (rw [Ne, hcode, pWd_of hw, ← pL_all hw hpa hlet]; exact fun q => hno (q.2 _ hni)) | (rw [Ne, hcode, pWd_of hw, ← pL_all hw hpa hlet]; exact fun q => absurd q.1 (by omega))), rfl⟩⟩)
      · skip
        rw [h5.2]
        have hno := h5.1
        have hni : (0 : Nat) < 8 := by decide
        refine ww_br xCC okX6_isWord 18 (P := 0 = 0) (t1 := 112) (t2 := 38) (r := []) rfl (fun _ => ?_) (fun q => absurd (by decide) q)
        refine ww_blk xCC okX6_isWord 56 1 (ps := []) (pc' := 113) (lv' := [(0, .ref 0), (1, .int (nI (w.getD 0 0))), (2, .int (nI (w.getD 1 0))), (3, .int (nI (w.getD 2 0))), (4, .int (nI (w.getD 3 0))), (5, .int (nI (w.getD 4 0))), (6, .int (nI (w.getD 5 0))), (7, .int (nI (w.getD 6 0))), (8, .int (nI (w.getD 7 0)))]) (st' := [.int 0]) (z' := z) rfl trivial ?_
        subst xhQ
        exact ww_iret xCC okX6_isWord 57 xhr rfl (by decide) (Or.inr ⟨rfl, ⟨(by first | exact tkM_noword hw htk hw0 | (rw [Ne, hcode, pWd_of hw, ← pL_all hw hpa hlet]; exact fun q => hno (q.2 _ hni)) | (rw [Ne, hcode, pWd_of hw, ← pL_all hw hpa hlet]; exact fun q => absurd q.1 (by omega))), rfl⟩⟩)
  · skip
    have hw0 := c2
    refine ww_blk xCC okX6_isWord 56 1 (ps := []) (pc' := 113) (lv' := [(0, .ref 0), (1, .int (nI (w.getD 0 0))), (2, .int (nI (w.getD 1 0))), (3, .int (nI (w.getD 2 0))), (4, .int (nI (w.getD 3 0))), (5, .int (nI (w.getD 4 0))), (6, .int (nI (w.getD 5 0))), (7, .int (nI (w.getD 6 0))), (8, .int (nI (w.getD 7 0)))]) (st' := [.int 0]) (z' := z) rfl trivial ?_
    subst xhQ
    exact ww_iret xCC okX6_isWord 57 xhr rfl (by decide) (Or.inr ⟨rfl, ⟨(by first | exact tkM_noword hw htk hw0 | (rw [Ne, hcode, pWd_of hw, ← pL_all hw hpa hlet]; exact fun q => hno (q.2 _ hni)) | (rw [Ne, hcode, pWd_of hw, ← pL_all hw hpa hlet]; exact fun q => absurd q.1 (by omega))), rfl⟩⟩)

set_option maxHeartbeats 4000000 in
set_option maxRecDepth 20000 in
theorem t_X6_isWord_b (l : Launch) (d : Nat) (z : xMem) (hbad : z.1 0 29 = 1) (a b c e f g h i : Int32) : XMi l d yX6_isWord cX6_isWord 9 (some .boolean) shM [.ref 0, .int a, .int b, .int c, .int e, .int f, .int g, .int h, .int i] z (fun v z' => v = 0 ∧ z' = z) := by
  refine XM.of (by decide) (Nat.le_of_ble_eq_true rfl) (fun xp xe xs xm xar xbl xme xc xD xcs xad xAA xCC xhr => ?_)
  generalize xhQ : MQ xbl _ xar xs 0 0 xAA = xQ
  show ww xp l xe (xRm d) xs xm xar xbl xme xc 9 xD xcs xad shM xAA xQ 0 [(0, .ref 0), (1, .int a), (2, .int b), (3, .int c), (4, .int e), (5, .int f), (6, .int g), (7, .int h), (8, .int i)] [] z
  refine ww_blk xCC okX6_isWord 0 2 (ps := []) (pc' := 4) (lv' := [(0, .ref 0), (1, .int a), (2, .int b), (3, .int c), (4, .int e), (5, .int f), (6, .int g), (7, .int h), (8, .int i)]) (st' := [.int (z.1 0 29)]) (z' := z) rfl trivial ?_
  refine ww_br xCC okX6_isWord 2 (P := (z.1 0 29) = 0) (t1 := 7) (t2 := 112) (r := []) rfl (fun c1 => absurd c1 (by rw [hbad]; decide)) (fun c1 => ?_)
  refine ww_blk xCC okX6_isWord 56 1 (ps := []) (pc' := 113) (lv' := [(0, .ref 0), (1, .int a), (2, .int b), (3, .int c), (4, .int e), (5, .int f), (6, .int g), (7, .int h), (8, .int i)]) (st' := [.int 0]) (z' := z) rfl trivial ?_
  subst xhQ
  exact ww_iret xCC okX6_isWord 57 xhr rfl (by decide) ⟨_, rfl, ⟨rfl, rfl⟩⟩
