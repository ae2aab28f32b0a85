/-! tokens of the model -/
set_option maxHeartbeats 4000000 in
set_option maxRecDepth 20000 in
theorem t_X6_byteAt (l : Launch) (d : Nat) (z : xMem) (bt : Nat → Nat) (n fr : Nat) (hpm : pM z bt n fr) (i : Nat) (hi : i < 2 ^ 30) : XMi l d yX6_byteAt cX6_byteAt 2 (some .int) shM [.ref 0, .int (nI i)] z (fun v z' => v = pB bt n i ∧ z' = z) := by
  refine XM.of (by decide) (Nat.le_of_ble_eq_true rfl) (fun xp xe xs xm xar xbl xme xc xD xcs xad xAA xCC xhr => ?_)
  generalize xhQ : MQ xbl _ xar xs 0 0 xAA = xQ
  show ww xp l xe (xRm d) xs xm xar xbl xme xc 2 xD xcs xad shM xAA xQ 0 [(0, .ref 0), (1, .int (nI i))] [] z
  obtain ⟨g1, g2, g3, g4, g5, g6⟩ := hpm
  refine ww_blk xCC okX6_byteAt 0 3 (ps := []) (pc' := 5) (lv' := [(0, .ref 0), (1, .int (nI i))]) (st' := [.int (z.1 0 23), .int (nI i)]) (z' := z) rfl trivial ?_
  rw [g2]
  refine ww_br xCC okX6_byteAt 3 (P := (nI n) ≤ (nI i)) (t1 := 22) (t2 := 8) (r := []) rfl (fun c1 => ?_) (fun c1 => ?_)
  · skip
    replace c1 : n ≤ i := (sLE (a := n) (b := i) (by omega) (by omega)).mp c1
    refine ww_blk xCC okX6_byteAt 12 1 (ps := []) (pc' := 23) (lv' := [(0, .ref 0), (1, .int (nI i))]) (st' := [.int (-1)]) (z' := z) rfl trivial ?_
    subst xhQ
    exact ww_iret xCC okX6_byteAt 13 xhr rfl rfl ⟨_, rfl, ⟨(by rw [pB_out (by omega)]), rfl⟩⟩
  · skip
    replace c1 : ¬ n ≤ i := fun q => c1 ((sLE (a := n) (b := i) (by omega) (by omega)).mpr q)
    refine ww_blk xCC okX6_byteAt 4 8 (ps := [vp_in ((z.1 0 22) + (nI i)) 960]) (pc' := 23) (lv' := [(0, .ref 0), (1, .int (nI i))]) (st' := [.int (z.1 1 ((z.1 0 22) + (nI i)).toNatClampNeg)]) (z' := z) rfl (by rw [g1, nI_add]; exact vp_in_nI (by omega) (by decide)) ?_
    rw [g1]
    rw [nI_add fr i]
    rw [sCL (n := (fr + i)) (by omega)]
    subst xhQ
    exact ww_iret xCC okX6_byteAt 13 xhr rfl rfl ⟨_, rfl, ⟨(by rw [pB_in (by omega)]; exact g3 i (by omega)), rfl⟩⟩

set_option maxHeartbeats 4000000 in
set_option maxRecDepth 20000 in
theorem t_X6_fail (l : Launch) (d : Nat) (z : xMem) : XMv l d yX6_fail cX6_fail 1 none shM [.ref 0] z (fun z' => z' = if z.1 0 29 = 0 then mPut (mPut z 0 29 1) 0 30 (z.1 0 26) else z) := by
  refine XM.of (by decide) (Nat.le_of_ble_eq_true rfl) (fun xp xe xs xm xar xbl xme xc xD xcs xad xAA xCC xhr => ?_)
  generalize xhQ : MQ xbl _ xar xs 0 0 xAA = xQ
  show ww xp l xe (xRm d) xs xm xar xbl xme xc 1 xD xcs xad shM xAA xQ 0 [(0, .ref 0)] [] z
  refine ww_blk xCC okX6_fail 0 2 (ps := []) (pc' := 4) (lv' := [(0, .ref 0)]) (st' := [.int (z.1 0 29)]) (z' := z) rfl trivial ?_
  refine ww_br xCC okX6_fail 2 (P := (z.1 0 29) = 0) (t1 := 7) (t2 := 20) (r := []) rfl (fun c1 => ?_) (fun c1 => ?_)
  · skip
    refine ww_blk xCC okX6_fail 3 7 (ps := [1 = 0 ∨ 1 = 1]) (pc' := 20) (lv' := [(0, .ref 0)]) (st' := []) (z' := (mPut (mPut z 0 29 1) 0 30 (z.1 0 26))) rfl (Or.inr rfl) ?_
    subst xhQ
    exact ww_vret xCC okX6_fail 10 xhr rfl ⟨rfl, (by rw [if_pos (by assumption)])⟩
  · skip
    subst xhQ
    exact ww_vret xCC okX6_fail 10 xhr rfl ⟨rfl, (by rw [if_neg (by assumption)])⟩

set_option maxHeartbeats 4000000 in
set_option maxRecDepth 20000 in
theorem t_X6_next (l : Launch) (d : Nat) (z : xMem) (bt : Nat → Nat) (n fr : Nat) (hpm : pM z bt n fr) (pos : Nat) (hpos : pos ≤ n) (hh : z.1 0 24 = nI pos) : XMv l (d + 1) yX6_next cX6_next 3 none shM [.ref 0] z (fun z' => pK4 z z' ∧ tkM z' bt n pos) := by
  refine XM.of (by decide) (Nat.le_of_ble_eq_true rfl) (fun xp xe xs xm xar xbl xme xc xD xcs xad xAA xCC xhr => ?_)
  generalize xhQ : MQ xbl _ xar xs 0 0 xAA = xQ
  show ww xp l xe (xRm (d + 1)) xs xm xar xbl xme xc 3 xD xcs xad shM xAA xQ 0 [(0, .ref 0)] [] z
  have g4 := hpm.2.2.2.1
  have g6 := hpm.2.2.2.2.2
  have L0 : ∀ (n0 : Nat) (a : Nat) (za : xMem), n - a < n0 → (pos ≤ a ∧ a ≤ n) → (pRun pBl bt n a = pRun pBl bt n pos) → (pK4 z za) → (za.1 0 24 = nI a) → ww xp l xe (xRm (d + 1)) xs xm xar xbl xme xc 3 xD xcs xad shM xAA xQ 0 [(0, .ref 0)] [] za := by
    intro n0
    induction n0 with
    | zero =>
      intro a za hmu0
      exact absurd hmu0 (Nat.not_lt_zero _)
    | succ n0 ih0 =>
      intro a za hmu0 e0_0 e0_1 e0_2 e0_3
      refine ww_blk xCC okX6_next 0 3 (ps := []) (pc' := 5) (lv' := [(0, .ref 0)]) (st' := [.int (za.1 0 24), .ref 0]) (z' := za) rfl trivial ?_
      rw [e0_3]
      refine ww_callVIi xCC okX6_next 3 (ix := 153) (t_X6_byteAt l d za bt n fr (pM_K (pK4_K e0_2) hpm) a (by omega)) (by omega) (by decide) xyX6_byteAt xiX6_byteAt (Or.inl (lw_gt_of (List.mem_of_getElem? (i := 1019) (by decide +kernel)) rfl)) rfl rfl rfl (rest := []) rfl (Nat.le_of_ble_eq_true rfl) rfl (fun v3 z1 h2 => ?_)
      rw [h2.1, h2.2]
      refine ww_blk xCC okX6_next 4 1 (ps := []) (pc' := 10) (lv' := [(0, .ref 0)]) (st' := [.int 32, .int (pB bt n a)]) (z' := za) rfl trivial ?_
      refine ww_br xCC okX6_next 5 (P := (pB bt n a) = 32) (t1 := 26) (t2 := 13) (r := []) rfl (fun c4 => ?_) (fun c4 => ?_)
      · skip
        have hb : a < n ∧ bt a = 32 := (pB_eq g4 32 (by decide)).mp c4
        have hbl : pBl (bt a) = true := pBl_iff.mpr (Or.inl hb.2)
        refine ww_blk xCC okX6_next 12 7 (ps := []) (pc' := 0) (lv' := [(0, .ref 0)]) (st' := []) (z' := (mPut za 0 24 ((za.1 0 24) + 1))) rfl trivial ?_
        rw [e0_3]
        rw [nI_1 a]
        exact ww_cut [0] (xlc rfl rfl) rfl rfl (ih0 (a + 1) (mPut za 0 24 (nI (a + 1))) (by omega) (by omega) ((pRun_go hb.1 hbl).symm.trans e0_1) (pK4_put e0_2 _ (by omega)) rfl)
      · skip
        have hc32 := c4
        refine ww_blk xCC okX6_next 6 3 (ps := []) (pc' := 18) (lv' := [(0, .ref 0)]) (st' := [.int (za.1 0 24), .ref 0]) (z' := za) rfl trivial ?_
        rw [e0_3]
        refine ww_callVIi xCC okX6_next 9 (ix := 153) (t_X6_byteAt l d za bt n fr (pM_K (pK4_K e0_2) hpm) a (by omega)) (by omega) (by decide) xyX6_byteAt xiX6_byteAt (Or.inl (lw_gt_of (List.mem_of_getElem? (i := 1019) (by decide +kernel)) rfl)) rfl rfl rfl (rest := []) rfl (Nat.le_of_ble_eq_true rfl) rfl (fun v7 z5 h6 => ?_)
        rw [h6.1, h6.2]
        refine ww_blk xCC okX6_next 10 1 (ps := []) (pc' := 23) (lv' := [(0, .ref 0)]) (st' := [.int 10, .int (pB bt n a)]) (z' := za) rfl trivial ?_
        refine ww_br xCC okX6_next 11 (P := (pB bt n a) = 10) (t1 := 26) (t2 := 39) (r := []) rfl (fun c8 => ?_) (fun c8 => ?_)
        · skip
          have hb : a < n ∧ bt a = 10 := (pB_eq g4 10 (by decide)).mp c8
          have hbl : pBl (bt a) = true := pBl_iff.mpr (Or.inr hb.2)
          refine ww_blk xCC okX6_next 12 7 (ps := []) (pc' := 0) (lv' := [(0, .ref 0)]) (st' := []) (z' := (mPut za 0 24 ((za.1 0 24) + 1))) rfl trivial ?_
          rw [e0_3]
          rw [nI_1 a]
          exact ww_cut [0] (xlc rfl rfl) rfl rfl (ih0 (a + 1) (mPut za 0 24 (nI (a + 1))) (by omega) (by omega) ((pRun_go hb.1 hbl).symm.trans e0_1) (pK4_put e0_2 _ (by omega)) rfl)
        · skip
          have ha : pRun pBl bt n pos = a := by
            rw [← e0_1]
            refine pRun_end (fun q => ?_)
            rcases pBl_iff.mp q.2 with q2 | q2
            · exact hc32 ((pB_eq g4 32 (by decide)).mpr ⟨q.1, q2⟩)
            · exact c8 ((pB_eq g4 10 (by decide)).mpr ⟨q.1, q2⟩)
          refine ww_blk xCC okX6_next 19 7 (ps := []) (pc' := 52) (lv' := [(0, .ref 0)]) (st' := [.int (za.1 0 24), .ref 0]) (z' := (mPut za 0 26 (za.1 0 24))) rfl trivial ?_
          rw [e0_3]
          refine ww_callVIi xCC okX6_next 26 (ix := 153) (t_X6_byteAt l d (mPut za 0 26 (nI a)) bt n fr (pM_K (pK4_K (pK4_put e0_2 _ (by omega))) hpm) a (by omega)) (by omega) (by decide) xyX6_byteAt xiX6_byteAt (Or.inl (lw_gt_of (List.mem_of_getElem? (i := 1019) (by decide +kernel)) rfl)) rfl rfl rfl (rest := []) rfl (Nat.le_of_ble_eq_true rfl) rfl (fun v11 z9 h10 => ?_)
          rw [h10.1, h10.2]
          refine ww_blk xCC okX6_next 27 5 (ps := []) (pc' := 62) (lv' := [(1, .int (pB bt n a)), (0, .ref 0)]) (st' := [.int (pB bt n a)]) (z' := (mPut (mPut za 0 26 (nI a)) 0 25 4)) rfl trivial ?_
          refine ww_br xCC okX6_next 32 (P := 0 ≤ (pB bt n a)) (t1 := 81) (t2 := 65) (r := []) rfl (fun c12 => ?_) (fun c12 => ?_)
          · skip
            have han : a < n := by
              rcases Nat.lt_or_ge a n with q | q
              · exact q
              · rw [pB_out (by omega)] at c12
                exact absurd c12 (by decide)
            refine ww_blk xCC okX6_next 41 4 (ps := []) (pc' := 89) (lv' := [(1, .int (pB bt n a)), (0, .ref 0)]) (st' := [.long 122, .long 97, .long ((pB bt n a).toInt64)]) (z' := (mPut (mPut za 0 26 (nI a)) 0 25 4)) rfl trivial ?_
            refine ww_callSNz xCC okX6_next 45 (ix := 82) (t_X6_in l d ((pB bt n a).toInt64) 97 122 ((pB bt n a).toInt) 97 122 (Int32.toInt_toInt64 _) rfl rfl  _) (by omega) (by decide) xyX6_in xiX6_in (Or.inl (lw_gt_of (List.mem_of_getElem? (i := 962) (by decide +kernel)) rfl)) rfl (rest := []) rfl (Nat.le_of_ble_eq_true rfl) rfl (fun z13 h14 => ?_) (fun z13 h14 => ?_)
            · skip
              have h14 : 97 ≤ (pB bt n a).toInt ∧ (pB bt n a).toInt ≤ 122 := h14
              have hw := (pB_rng g4 97 122 (by decide)).mp h14
              refine ww_br xCC okX6_next 46 (P := 1 = 0) (t1 := 134) (t2 := 95) (r := []) rfl (fun q => absurd q (by decide)) (fun _ => ?_)
              refine ww_blk xCC okX6_next 47 3 (ps := []) (pc' := 100) (lv' := [(1, .int (pB bt n a)), (0, .ref 0)]) (st' := []) (z' := (mPut (mPut (mPut za 0 26 (nI a)) 0 25 4) 0 25 1)) rfl trivial ?_
              have L100 : ∀ (n100 : Nat) (b : Nat) (zw : xMem), n - b < n100 → (a ≤ b ∧ b ≤ n) → (pRun pLe bt n b = pRun pLe bt n a) → (pK4 z zw) → (zw.1 0 24 = nI b) → (zw.1 0 25 = 1) → (zw.1 0 26 = nI a) → ww xp l xe (xRm (d + 1)) xs xm xar xbl xme xc 3 xD xcs xad shM xAA xQ 100 [(0, .ref 0)] [] zw := by
                intro n100
                induction n100 with
                | zero =>
                  intro b zw hmu100
                  exact absurd hmu100 (Nat.not_lt_zero _)
                | succ n100 ih100 =>
                  intro b zw hmu100 e100_0 e100_1 e100_2 e100_3 e100_4 e100_5
                  refine ww_blk xCC okX6_next 50 3 (ps := []) (pc' := 105) (lv' := [(0, .ref 0)]) (st' := [.int (zw.1 0 24), .ref 0]) (z' := zw) rfl trivial ?_
                  rw [e100_3]
                  refine ww_callVIi xCC okX6_next 53 (ix := 153) (t_X6_byteAt l d zw bt n fr (pM_K (pK4_K e100_2) hpm) b (by omega)) (by omega) (by decide) xyX6_byteAt xiX6_byteAt (Or.inl (lw_gt_of (List.mem_of_getElem? (i := 1019) (by decide +kernel)) rfl)) rfl rfl rfl (rest := []) rfl (Nat.le_of_ble_eq_true rfl) rfl (fun v18 z16 h17 => ?_)
                  rw [h17.1, h17.2]
                  refine ww_blk xCC okX6_next 54 3 (ps := []) (pc' := 115) (lv' := [(0, .ref 0)]) (st' := [.long 122, .long 97, .long ((pB bt n b).toInt64)]) (z' := zw) rfl trivial ?_
                  refine ww_callSNz xCC okX6_next 57 (ix := 82) (t_X6_in l d ((pB bt n b).toInt64) 97 122 ((pB bt n b).toInt) 97 122 (Int32.toInt_toInt64 _) rfl rfl  _) (by omega) (by decide) xyX6_in xiX6_in (Or.inl (lw_gt_of (List.mem_of_getElem? (i := 962) (by decide +kernel)) rfl)) rfl (rest := []) rfl (Nat.le_of_ble_eq_true rfl) rfl (fun z19 h20 => ?_) (fun z19 h20 => ?_)
                  · skip
                    have h20 : 97 ≤ (pB bt n b).toInt ∧ (pB bt n b).toInt ≤ 122 := h20
                    have hw2 := (pB_rng g4 97 122 (by decide)).mp h20
                    refine ww_br xCC okX6_next 58 (P := 1 = 0) (t1 := 321) (t2 := 121) (r := []) rfl (fun q => absurd q (by decide)) (fun _ => ?_)
                    refine ww_blk xCC okX6_next 59 7 (ps := []) (pc' := 100) (lv' := [(0, .ref 0)]) (st' := []) (z' := (mPut zw 0 24 ((zw.1 0 24) + 1))) rfl trivial ?_
                    rw [e100_3]
                    rw [nI_1 b]
                    exact ww_cut [0] (xlc rfl rfl) rfl rfl (ih100 (b + 1) (mPut zw 0 24 (nI (b + 1))) (by omega) (by omega) ((pRun_go hw2.1 (pLe_iff.mpr hw2.2)).symm.trans e100_1) (pK4_put e100_2 _ (by omega)) rfl e100_4 e100_5)
                  · skip
                    have h20 : ¬ (97 ≤ (pB bt n b).toInt ∧ (pB bt n b).toInt ≤ 122) := h20
                    have hx : ¬ (b < n ∧ pLe (bt b) = true) := fun q => h20 ((pB_rng g4 97 122 (by decide)).mpr ⟨q.1, pLe_iff.mp q.2⟩)
                    refine ww_br xCC okX6_next 58 (P := 0 = 0) (t1 := 321) (t2 := 121) (r := []) rfl (fun _ => ?_) (fun q => absurd (by decide) q)
                    subst xhQ
                    exact ww_vret xCC okX6_next 163 xhr rfl ⟨rfl, ⟨e100_2, (by have e : pTok bt n pos = (pWd bt a b pWords, a, b) := by { rw [pTok_word ha han (pLe_iff.mpr hw.2), ← e100_1, pRun_end hx] }; unfold tkM; rw [e]; exact ⟨e100_5, Or.inr (Or.inl ⟨han, pLe_iff.mpr hw.2, e100_4, e100_3⟩)⟩)⟩⟩
              exact ww_cut [1] (xlc rfl rfl) rfl rfl (L100 (n - a + 1) a (mPut (mPut (mPut za 0 26 (nI a)) 0 25 4) 0 25 1) (Nat.lt_succ_self _) (by omega) rfl (pK4_put (pK4_put (pK4_put e0_2 _ (by omega)) _ (by omega)) _ (by omega)) e0_3 rfl rfl)
            · skip
              have h14 : ¬ (97 ≤ (pB bt n a).toInt ∧ (pB bt n a).toInt ≤ 122) := h14
              have hle : pLe (bt a) = false := pLe_no.mpr (fun q => h14 ((pB_rng g4 97 122 (by decide)).mpr ⟨han, q⟩))
              refine ww_br xCC okX6_next 46 (P := 0 = 0) (t1 := 134) (t2 := 95) (r := []) rfl (fun _ => ?_) (fun q => absurd (by decide) q)
              refine ww_blk xCC okX6_next 66 4 (ps := []) (pc' := 142) (lv' := [(1, .int (pB bt n a)), (0, .ref 0)]) (st' := [.long 57, .long 48, .long ((pB bt n a).toInt64)]) (z' := (mPut (mPut za 0 26 (nI a)) 0 25 4)) rfl trivial ?_
              refine ww_callSNz xCC okX6_next 70 (ix := 82) (t_X6_in l d ((pB bt n a).toInt64) 48 57 ((pB bt n a).toInt) 48 57 (Int32.toInt_toInt64 _) rfl rfl  _) (by omega) (by decide) xyX6_in xiX6_in (Or.inl (lw_gt_of (List.mem_of_getElem? (i := 962) (by decide +kernel)) rfl)) rfl (rest := []) rfl (Nat.le_of_ble_eq_true rfl) rfl (fun z24 h25 => ?_) (fun z24 h25 => ?_)
              · skip
                have h25 : 48 ≤ (pB bt n a).toInt ∧ (pB bt n a).toInt ≤ 57 := h25
                have hdi := (pB_rng g4 48 57 (by decide)).mp h25
                refine ww_br xCC okX6_next 71 (P := 1 = 0) (t1 := 252) (t2 := 148) (r := []) rfl (fun q => absurd q (by decide)) (fun _ => ?_)
                refine ww_blk xCC okX6_next 72 8 (ps := []) (pc' := 160) (lv' := [(2, .int 0), (1, .int (pB bt n a)), (0, .ref 0)]) (st' := []) (z' := (mPutL (mPut (mPut (mPut za 0 26 (nI a)) 0 25 4) 0 25 2) 0 27 0)) rfl trivial ?_
                have L160 : ∀ (n160 : Nat) (b : Nat) (k : Nat) (zd : xMem), n - b < n160 → (a ≤ b ∧ b ≤ n) → (b = a + k) → (pRun pDi bt n b = pRun pDi bt n a) → (pK4 z zd) → (zd.1 0 24 = nI b) → (zd.1 0 26 = nI a) → (k ≤ 4 → zd.2.1 0 27 = lN (pVal bt a k)) → ww xp l xe (xRm (d + 1)) xs xm xar xbl xme xc 3 xD xcs xad shM xAA xQ 160 [(2, .int (nI k)), (0, .ref 0)] [] zd := by
                  intro n160
                  induction n160 with
                  | zero =>
                    intro b k zd hmu160
                    exact absurd hmu160 (Nat.not_lt_zero _)
                  | succ n160 ih160 =>
                    intro b k zd hmu160 e160_0 e160_1 e160_2 e160_3 e160_4 e160_5 e160_6
                    refine ww_blk xCC okX6_next 80 3 (ps := []) (pc' := 165) (lv' := [(2, .int (nI k)), (0, .ref 0)]) (st' := [.int (zd.1 0 24), .ref 0]) (z' := zd) rfl trivial ?_
                    rw [e160_4]
                    refine ww_callVIi xCC okX6_next 83 (ix := 153) (t_X6_byteAt l d zd bt n fr (pM_K (pK4_K e160_3) hpm) b (by omega)) (by omega) (by decide) xyX6_byteAt xiX6_byteAt (Or.inl (lw_gt_of (List.mem_of_getElem? (i := 1019) (by decide +kernel)) rfl)) rfl rfl rfl (rest := []) rfl (Nat.le_of_ble_eq_true rfl) rfl (fun v29 z27 h28 => ?_)
                    rw [h28.1, h28.2]
                    refine ww_blk xCC okX6_next 84 3 (ps := []) (pc' := 175) (lv' := [(2, .int (nI k)), (0, .ref 0)]) (st' := [.long 57, .long 48, .long ((pB bt n b).toInt64)]) (z' := zd) rfl trivial ?_
                    refine ww_callSNz xCC okX6_next 87 (ix := 82) (t_X6_in l d ((pB bt n b).toInt64) 48 57 ((pB bt n b).toInt) 48 57 (Int32.toInt_toInt64 _) rfl rfl  _) (by omega) (by decide) xyX6_in xiX6_in (Or.inl (lw_gt_of (List.mem_of_getElem? (i := 962) (by decide +kernel)) rfl)) rfl (rest := []) rfl (Nat.le_of_ble_eq_true rfl) rfl (fun z30 h31 => ?_) (fun z30 h31 => ?_)
                    · skip
                      have h31 : 48 ≤ (pB bt n b).toInt ∧ (pB bt n b).toInt ≤ 57 := h31
                      have hd2 := (pB_rng g4 48 57 (by decide)).mp h31
                      refine ww_br xCC okX6_next 88 (P := 1 = 0) (t1 := 235) (t2 := 181) (r := []) rfl (fun q => absurd q (by decide)) (fun _ => ?_)
                      refine ww_blk xCC okX6_next 89 3 (ps := []) (pc' := 184) (lv' := [(2, .int (nI k)), (0, .ref 0)]) (st' := [.int 4, .int (nI k), .ref 0]) (z' := zd) rfl trivial ?_
                      refine ww_br xCC okX6_next 92 (P := 4 ≤ (nI k)) (t1 := 212) (t2 := 187) (r := [.ref 0]) rfl (fun c33 => ?_) (fun c33 => ?_)
                      · skip
                        replace c33 : 4 ≤ k := (sLE (a := 4) (b := k) (by omega) (by omega)).mp c33
                        refine ww_blk xCC okX6_next 106 11 (ps := []) (pc' := 160) (lv' := [(2, .int ((nI k) + 1)), (0, .ref 0)]) (st' := []) (z' := (mPut (mPutL zd 0 27 (zd.2.1 0 27)) 0 24 ((zd.1 0 24) + 1))) rfl trivial ?_
                        rw [nI_1 k]
                        rw [e160_4]
                        rw [nI_1 b]
                        exact ww_cut [0, 1] (xlc rfl (xlc rfl rfl)) rfl rfl (ih160 (b + 1) (k + 1) (mPut (mPutL zd 0 27 (zd.2.1 0 27)) 0 24 (nI (b + 1))) (by omega) (by omega) (by omega) ((pRun_go hd2.1 (pDi_iff.mpr hd2.2)).symm.trans e160_2) (pK4_put (pK4_putL e160_3 _) _ (by omega)) rfl e160_5 (fun q => absurd q (by omega)))
                      · skip
                        replace c33 : ¬ 4 ≤ k := fun q => c33 ((sLE (a := 4) (b := k) (by omega) (by omega)).mpr q)
                        refine ww_blk xCC okX6_next 93 7 (ps := []) (pc' := 200) (lv' := [(2, .int (nI k)), (0, .ref 0)]) (st' := [.int (zd.1 0 24), .ref 0, .long (10 * (zd.2.1 0 27)), .ref 0]) (z' := zd) rfl trivial ?_
                        rw [e160_4]
                        refine ww_callVIi xCC okX6_next 100 (ix := 153) (t_X6_byteAt l d zd bt n fr (pM_K (pK4_K e160_3) hpm) b (by omega)) (by omega) (by decide) xyX6_byteAt xiX6_byteAt (Or.inl (lw_gt_of (List.mem_of_getElem? (i := 1019) (by decide +kernel)) rfl)) rfl rfl rfl (rest := [.long (10 * (zd.2.1 0 27)), .ref 0]) rfl (Nat.le_of_ble_eq_true rfl) rfl (fun v36 z34 h35 => ?_)
                        rw [h35.1, h35.2]
                        refine ww_blk xCC okX6_next 101 5 (ps := []) (pc' := 216) (lv' := [(2, .int (nI k)), (0, .ref 0)]) (st' := [.long (((10 * (zd.2.1 0 27)) + ((pB bt n b).toInt64)) - 48), .ref 0]) (z' := zd) rfl trivial ?_
                        refine ww_blk xCC okX6_next 108 9 (ps := []) (pc' := 160) (lv' := [(2, .int ((nI k) + 1)), (0, .ref 0)]) (st' := []) (z' := (mPut (mPutL zd 0 27 (((10 * (zd.2.1 0 27)) + ((pB bt n b).toInt64)) - 48)) 0 24 ((zd.1 0 24) + 1))) rfl trivial ?_
                        rw [nI_1 k]
                        rw [e160_4]
                        rw [nI_1 b]
                        exact ww_cut [0, 1] (xlc rfl (xlc rfl rfl)) rfl rfl (ih160 (b + 1) (k + 1) (mPut (mPutL zd 0 27 (((10 * (zd.2.1 0 27)) + ((pB bt n b).toInt64)) - 48)) 0 24 (nI (b + 1))) (by omega) (by omega) (by omega) ((pRun_go hd2.1 (pDi_iff.mpr hd2.2)).symm.trans e160_2) (pK4_put (pK4_putL e160_3 _) _ (by omega)) rfl e160_5 (fun q => by show (10 * zd.2.1 0 27 + (pB bt n b).toInt64 - 48 : Int64) = _; rw [e160_6 (by omega), pB_in hd2.1, nI_l (by have := g4 b; omega), show (10 : Int64) = lN 10 from rfl, show (48 : Int64) = lN 48 from rfl, lN_mul, lN_add, lN_sub (by omega), e160_1]; show lN _ = lN (10 * pVal bt a k + (bt (a + k) - 48)); congr 1; have h48 := hd2.2.1; rw [e160_1] at h48; omega))
                    · skip
                      have h31 : ¬ (48 ≤ (pB bt n b).toInt ∧ (pB bt n b).toInt ≤ 57) := h31
                      have hx : ¬ (b < n ∧ pDi (bt b) = true) := fun q => h31 ((pB_rng g4 48 57 (by decide)).mpr ⟨q.1, pDi_iff.mp q.2⟩)
                      refine ww_br xCC okX6_next 88 (P := 0 = 0) (t1 := 235) (t2 := 181) (r := []) rfl (fun _ => ?_) (fun q => absurd (by decide) q)
                      refine ww_blk xCC okX6_next 117 3 (ps := []) (pc' := 238) (lv' := [(2, .int (nI k)), (0, .ref 0)]) (st' := [.int 4, .int (nI k), .ref 0]) (z' := zd) rfl trivial ?_
                      refine ww_br xCC okX6_next 120 (P := (nI k) ≤ 4) (t1 := 245) (t2 := 241) (r := [.ref 0]) rfl (fun c38 => ?_) (fun c38 => ?_)
                      · skip
                        replace c38 : k ≤ 4 := (sLE (a := k) (b := 4) (by omega) (by omega)).mp c38
                        refine ww_blk xCC okX6_next 123 3 (ps := []) (pc' := 321) (lv' := [(2, .int (nI k)), (0, .ref 0)]) (st' := []) (z' := (mPut zd 0 25 2)) rfl trivial ?_
                        subst xhQ
                        exact ww_vret xCC okX6_next 163 xhr rfl ⟨rfl, ⟨(pK4_put e160_3 _ (by omega)), (by have e : pTok bt n pos = (if 4 < k then 10022 else pVal bt a k, a, b) := by { rw [pTok_dig ha han hle (pDi_iff.mpr hdi.2), ← e160_2, pRun_end hx, show b - a = k by omega] }; unfold tkM; rw [e]; refine ⟨e160_5, Or.inr (Or.inr (Or.inl ⟨han, hle, pDi_iff.mpr hdi.2, ?_, e160_4⟩))⟩; rw [if_neg (by omega)]; refine Or.inl ⟨?_, rfl, e160_6 (by omega)⟩; have hv := pVal_lt bt a k (fun i hi => by { have hq := pRun_all (P := pDi) (bt := bt) (n := n) (n - a) a (Nat.le_refl _) (a + i) (by omega) (by rw [← e160_2, pRun_end hx]; omega); rw [pDi_iff] at hq; exact hq.2 }); have hm : (10 : Nat) ^ k ≤ 10 ^ 4 := Nat.pow_le_pow_right (by decide) (by omega); exact Nat.lt_of_lt_of_le hv (Nat.le_trans hm (by decide)))⟩⟩
                      · skip
                        replace c38 : ¬ k ≤ 4 := fun q => c38 ((sLE (a := k) (b := 4) (by omega) (by omega)).mpr q)
                        refine ww_blk xCC okX6_next 121 2 (ps := []) (pc' := 246) (lv' := [(2, .int (nI k)), (0, .ref 0)]) (st' := [.int 4, .ref 0]) (z' := zd) rfl trivial ?_
                        refine ww_blk xCC okX6_next 124 2 (ps := []) (pc' := 321) (lv' := [(2, .int (nI k)), (0, .ref 0)]) (st' := []) (z' := (mPut zd 0 25 4)) rfl trivial ?_
                        subst xhQ
                        exact ww_vret xCC okX6_next 163 xhr rfl ⟨rfl, ⟨(pK4_put e160_3 _ (by omega)), (by have e : pTok bt n pos = (if 4 < k then 10022 else pVal bt a k, a, b) := by { rw [pTok_dig ha han hle (pDi_iff.mpr hdi.2), ← e160_2, pRun_end hx, show b - a = k by omega] }; unfold tkM; rw [e]; refine ⟨e160_5, Or.inr (Or.inr (Or.inl ⟨han, hle, pDi_iff.mpr hdi.2, ?_, e160_4⟩))⟩; rw [if_pos (by omega)]; exact Or.inr ⟨rfl, rfl⟩)⟩⟩
                exact ww_cut [0, 2] (xlc (congrArg Value.int (show (0 : Int32) = nI 0 from nI_0.symm)) (xlc rfl rfl)) rfl rfl (L160 (n - a + 1) a 0 (mPutL (mPut (mPut (mPut za 0 26 (nI a)) 0 25 4) 0 25 2) 0 27 0) (Nat.lt_succ_self _) (by omega) (by omega) rfl (pK4_putL (pK4_put (pK4_put (pK4_put e0_2 _ (by omega)) _ (by omega)) _ (by omega)) _) e0_3 rfl (fun _ => rfl))
              · skip
                have h25 : ¬ (48 ≤ (pB bt n a).toInt ∧ (pB bt n a).toInt ≤ 57) := h25
                have hdi : pDi (bt a) = false := pDi_no.mpr (fun q => h25 ((pB_rng g4 48 57 (by decide)).mpr ⟨han, q⟩))
                refine ww_br xCC okX6_next 71 (P := 0 = 0) (t1 := 252) (t2 := 148) (r := []) rfl (fun _ => ?_) (fun q => absurd (by decide) q)
                refine ww_blk xCC okX6_next 126 2 (ps := []) (pc' := 255) (lv' := [(1, .int (pB bt n a)), (0, .ref 0)]) (st' := [.int 40, .int (pB bt n a)]) (z' := (mPut (mPut za 0 26 (nI a)) 0 25 4)) rfl trivial ?_
                refine ww_br xCC okX6_next 128 (P := (pB bt n a) = 40) (t1 := 300) (t2 := 258) (r := []) rfl (fun c40 => ?_) (fun c40 => ?_)
                · skip
                  have hs : bt a = 40 := ((pB_eq g4 40 (by decide)).mp c40).2
                  refine ww_blk xCC okX6_next 150 13 (ps := []) (pc' := 321) (lv' := [(1, .int (pB bt n a)), (0, .ref 0)]) (st' := []) (z' := (mPut (mPutL (mPut (mPut (mPut za 0 26 (nI a)) 0 25 4) 0 25 3) 0 27 ((pB bt n a).toInt64)) 0 24 ((za.1 0 24) + 1))) rfl trivial ?_
                  rw [e0_3]
                  rw [nI_1 a]
                  subst xhQ
                  exact ww_vret xCC okX6_next 163 xhr rfl ⟨rfl, ⟨(pK4_put (pK4_putL (pK4_put (pK4_put (pK4_put e0_2 _ (by omega)) _ (by omega)) _ (by omega)) _) _ (by omega)), (by have e : pTok bt n pos = (pSg (bt a), a, a + 1) := pTok_sig ha han hle hdi; unfold tkM; rw [e]; exact ⟨rfl, Or.inr (Or.inr (Or.inr ⟨han, hle, hdi, Or.inl ⟨by show pSg (bt a) ≠ 10022; rw [hs]; decide, rfl, by show (pB bt n a).toInt64 = _; rw [pB_in han, nI_l (by have := g4 a; omega)], rfl⟩⟩))⟩)⟩⟩
                · skip
                  have n40 : bt a ≠ 40 := fun q => c40 ((pB_eq g4 40 (by decide)).mpr ⟨han, q⟩)
                  refine ww_blk xCC okX6_next 129 2 (ps := []) (pc' := 261) (lv' := [(1, .int (pB bt n a)), (0, .ref 0)]) (st' := [.int 41, .int (pB bt n a)]) (z' := (mPut (mPut za 0 26 (nI a)) 0 25 4)) rfl trivial ?_
                  refine ww_br xCC okX6_next 131 (P := (pB bt n a) = 41) (t1 := 300) (t2 := 264) (r := []) rfl (fun c41 => ?_) (fun c41 => ?_)
                  · skip
                    have hs : bt a = 41 := ((pB_eq g4 41 (by decide)).mp c41).2
                    refine ww_blk xCC okX6_next 150 13 (ps := []) (pc' := 321) (lv' := [(1, .int (pB bt n a)), (0, .ref 0)]) (st' := []) (z' := (mPut (mPutL (mPut (mPut (mPut za 0 26 (nI a)) 0 25 4) 0 25 3) 0 27 ((pB bt n a).toInt64)) 0 24 ((za.1 0 24) + 1))) rfl trivial ?_
                    rw [e0_3]
                    rw [nI_1 a]
                    subst xhQ
                    exact ww_vret xCC okX6_next 163 xhr rfl ⟨rfl, ⟨(pK4_put (pK4_putL (pK4_put (pK4_put (pK4_put e0_2 _ (by omega)) _ (by omega)) _ (by omega)) _) _ (by omega)), (by have e : pTok bt n pos = (pSg (bt a), a, a + 1) := pTok_sig ha han hle hdi; unfold tkM; rw [e]; exact ⟨rfl, Or.inr (Or.inr (Or.inr ⟨han, hle, hdi, Or.inl ⟨by show pSg (bt a) ≠ 10022; rw [hs]; decide, rfl, by show (pB bt n a).toInt64 = _; rw [pB_in han, nI_l (by have := g4 a; omega)], rfl⟩⟩))⟩)⟩⟩
                  · skip
                    have n41 : bt a ≠ 41 := fun q => c41 ((pB_eq g4 41 (by decide)).mpr ⟨han, q⟩)
                    refine ww_blk xCC okX6_next 132 2 (ps := []) (pc' := 267) (lv' := [(1, .int (pB bt n a)), (0, .ref 0)]) (st' := [.int 59, .int (pB bt n a)]) (z' := (mPut (mPut za 0 26 (nI a)) 0 25 4)) rfl trivial ?_
                    refine ww_br xCC okX6_next 134 (P := (pB bt n a) = 59) (t1 := 300) (t2 := 270) (r := []) rfl (fun c42 => ?_) (fun c42 => ?_)
                    · skip
                      have hs : bt a = 59 := ((pB_eq g4 59 (by decide)).mp c42).2
                      refine ww_blk xCC okX6_next 150 13 (ps := []) (pc' := 321) (lv' := [(1, .int (pB bt n a)), (0, .ref 0)]) (st' := []) (z' := (mPut (mPutL (mPut (mPut (mPut za 0 26 (nI a)) 0 25 4) 0 25 3) 0 27 ((pB bt n a).toInt64)) 0 24 ((za.1 0 24) + 1))) rfl trivial ?_
                      rw [e0_3]
                      rw [nI_1 a]
                      subst xhQ
                      exact ww_vret xCC okX6_next 163 xhr rfl ⟨rfl, ⟨(pK4_put (pK4_putL (pK4_put (pK4_put (pK4_put e0_2 _ (by omega)) _ (by omega)) _ (by omega)) _) _ (by omega)), (by have e : pTok bt n pos = (pSg (bt a), a, a + 1) := pTok_sig ha han hle hdi; unfold tkM; rw [e]; exact ⟨rfl, Or.inr (Or.inr (Or.inr ⟨han, hle, hdi, Or.inl ⟨by show pSg (bt a) ≠ 10022; rw [hs]; decide, rfl, by show (pB bt n a).toInt64 = _; rw [pB_in han, nI_l (by have := g4 a; omega)], rfl⟩⟩))⟩)⟩⟩
                    · skip
                      have n59 : bt a ≠ 59 := fun q => c42 ((pB_eq g4 59 (by decide)).mpr ⟨han, q⟩)
                      refine ww_blk xCC okX6_next 135 2 (ps := []) (pc' := 273) (lv' := [(1, .int (pB bt n a)), (0, .ref 0)]) (st' := [.int 43, .int (pB bt n a)]) (z' := (mPut (mPut za 0 26 (nI a)) 0 25 4)) rfl trivial ?_
                      refine ww_br xCC okX6_next 137 (P := (pB bt n a) = 43) (t1 := 300) (t2 := 276) (r := []) rfl (fun c43 => ?_) (fun c43 => ?_)
                      · skip
                        have hs : bt a = 43 := ((pB_eq g4 43 (by decide)).mp c43).2
                        refine ww_blk xCC okX6_next 150 13 (ps := []) (pc' := 321) (lv' := [(1, .int (pB bt n a)), (0, .ref 0)]) (st' := []) (z' := (mPut (mPutL (mPut (mPut (mPut za 0 26 (nI a)) 0 25 4) 0 25 3) 0 27 ((pB bt n a).toInt64)) 0 24 ((za.1 0 24) + 1))) rfl trivial ?_
                        rw [e0_3]
                        rw [nI_1 a]
                        subst xhQ
                        exact ww_vret xCC okX6_next 163 xhr rfl ⟨rfl, ⟨(pK4_put (pK4_putL (pK4_put (pK4_put (pK4_put e0_2 _ (by omega)) _ (by omega)) _ (by omega)) _) _ (by omega)), (by have e : pTok bt n pos = (pSg (bt a), a, a + 1) := pTok_sig ha han hle hdi; unfold tkM; rw [e]; exact ⟨rfl, Or.inr (Or.inr (Or.inr ⟨han, hle, hdi, Or.inl ⟨by show pSg (bt a) ≠ 10022; rw [hs]; decide, rfl, by show (pB bt n a).toInt64 = _; rw [pB_in han, nI_l (by have := g4 a; omega)], rfl⟩⟩))⟩)⟩⟩
                      · skip
                        have n43 : bt a ≠ 43 := fun q => c43 ((pB_eq g4 43 (by decide)).mpr ⟨han, q⟩)
                        refine ww_blk xCC okX6_next 138 2 (ps := []) (pc' := 279) (lv' := [(1, .int (pB bt n a)), (0, .ref 0)]) (st' := [.int 45, .int (pB bt n a)]) (z' := (mPut (mPut za 0 26 (nI a)) 0 25 4)) rfl trivial ?_
                        refine ww_br xCC okX6_next 140 (P := (pB bt n a) = 45) (t1 := 300) (t2 := 282) (r := []) rfl (fun c44 => ?_) (fun c44 => ?_)
                        · skip
                          have hs : bt a = 45 := ((pB_eq g4 45 (by decide)).mp c44).2
                          refine ww_blk xCC okX6_next 150 13 (ps := []) (pc' := 321) (lv' := [(1, .int (pB bt n a)), (0, .ref 0)]) (st' := []) (z' := (mPut (mPutL (mPut (mPut (mPut za 0 26 (nI a)) 0 25 4) 0 25 3) 0 27 ((pB bt n a).toInt64)) 0 24 ((za.1 0 24) + 1))) rfl trivial ?_
                          rw [e0_3]
                          rw [nI_1 a]
                          subst xhQ
                          exact ww_vret xCC okX6_next 163 xhr rfl ⟨rfl, ⟨(pK4_put (pK4_putL (pK4_put (pK4_put (pK4_put e0_2 _ (by omega)) _ (by omega)) _ (by omega)) _) _ (by omega)), (by have e : pTok bt n pos = (pSg (bt a), a, a + 1) := pTok_sig ha han hle hdi; unfold tkM; rw [e]; exact ⟨rfl, Or.inr (Or.inr (Or.inr ⟨han, hle, hdi, Or.inl ⟨by show pSg (bt a) ≠ 10022; rw [hs]; decide, rfl, by show (pB bt n a).toInt64 = _; rw [pB_in han, nI_l (by have := g4 a; omega)], rfl⟩⟩))⟩)⟩⟩
                        · skip
                          have n45 : bt a ≠ 45 := fun q => c44 ((pB_eq g4 45 (by decide)).mpr ⟨han, q⟩)
                          refine ww_blk xCC okX6_next 141 2 (ps := []) (pc' := 285) (lv' := [(1, .int (pB bt n a)), (0, .ref 0)]) (st' := [.int 42, .int (pB bt n a)]) (z' := (mPut (mPut za 0 26 (nI a)) 0 25 4)) rfl trivial ?_
                          refine ww_br xCC okX6_next 143 (P := (pB bt n a) = 42) (t1 := 300) (t2 := 288) (r := []) rfl (fun c45 => ?_) (fun c45 => ?_)
                          · skip
                            have hs : bt a = 42 := ((pB_eq g4 42 (by decide)).mp c45).2
                            refine ww_blk xCC okX6_next 150 13 (ps := []) (pc' := 321) (lv' := [(1, .int (pB bt n a)), (0, .ref 0)]) (st' := []) (z' := (mPut (mPutL (mPut (mPut (mPut za 0 26 (nI a)) 0 25 4) 0 25 3) 0 27 ((pB bt n a).toInt64)) 0 24 ((za.1 0 24) + 1))) rfl trivial ?_
                            rw [e0_3]
                            rw [nI_1 a]
                            subst xhQ
                            exact ww_vret xCC okX6_next 163 xhr rfl ⟨rfl, ⟨(pK4_put (pK4_putL (pK4_put (pK4_put (pK4_put e0_2 _ (by omega)) _ (by omega)) _ (by omega)) _) _ (by omega)), (by have e : pTok bt n pos = (pSg (bt a), a, a + 1) := pTok_sig ha han hle hdi; unfold tkM; rw [e]; exact ⟨rfl, Or.inr (Or.inr (Or.inr ⟨han, hle, hdi, Or.inl ⟨by show pSg (bt a) ≠ 10022; rw [hs]; decide, rfl, by show (pB bt n a).toInt64 = _; rw [pB_in han, nI_l (by have := g4 a; omega)], rfl⟩⟩))⟩)⟩⟩
                          · skip
                            have n42 : bt a ≠ 42 := fun q => c45 ((pB_eq g4 42 (by decide)).mpr ⟨han, q⟩)
                            refine ww_blk xCC okX6_next 144 2 (ps := []) (pc' := 291) (lv' := [(1, .int (pB bt n a)), (0, .ref 0)]) (st' := [.int 60, .int (pB bt n a)]) (z' := (mPut (mPut za 0 26 (nI a)) 0 25 4)) rfl trivial ?_
                            refine ww_br xCC okX6_next 146 (P := (pB bt n a) = 60) (t1 := 300) (t2 := 294) (r := []) rfl (fun c46 => ?_) (fun c46 => ?_)
                            · skip
                              have hs : bt a = 60 := ((pB_eq g4 60 (by decide)).mp c46).2
                              refine ww_blk xCC okX6_next 150 13 (ps := []) (pc' := 321) (lv' := [(1, .int (pB bt n a)), (0, .ref 0)]) (st' := []) (z' := (mPut (mPutL (mPut (mPut (mPut za 0 26 (nI a)) 0 25 4) 0 25 3) 0 27 ((pB bt n a).toInt64)) 0 24 ((za.1 0 24) + 1))) rfl trivial ?_
                              rw [e0_3]
                              rw [nI_1 a]
                              subst xhQ
                              exact ww_vret xCC okX6_next 163 xhr rfl ⟨rfl, ⟨(pK4_put (pK4_putL (pK4_put (pK4_put (pK4_put e0_2 _ (by omega)) _ (by omega)) _ (by omega)) _) _ (by omega)), (by have e : pTok bt n pos = (pSg (bt a), a, a + 1) := pTok_sig ha han hle hdi; unfold tkM; rw [e]; exact ⟨rfl, Or.inr (Or.inr (Or.inr ⟨han, hle, hdi, Or.inl ⟨by show pSg (bt a) ≠ 10022; rw [hs]; decide, rfl, by show (pB bt n a).toInt64 = _; rw [pB_in han, nI_l (by have := g4 a; omega)], rfl⟩⟩))⟩)⟩⟩
                            · skip
                              have n60 : bt a ≠ 60 := fun q => c46 ((pB_eq g4 60 (by decide)).mpr ⟨han, q⟩)
                              refine ww_blk xCC okX6_next 147 2 (ps := []) (pc' := 297) (lv' := [(1, .int (pB bt n a)), (0, .ref 0)]) (st' := [.int 61, .int (pB bt n a)]) (z' := (mPut (mPut za 0 26 (nI a)) 0 25 4)) rfl trivial ?_
                              refine ww_br xCC okX6_next 149 (P := (pB bt n a) = 61) (t1 := 300) (t2 := 321) (r := []) rfl (fun c47 => ?_) (fun c47 => ?_)
                              · skip
                                have hs : bt a = 61 := ((pB_eq g4 61 (by decide)).mp c47).2
                                refine ww_blk xCC okX6_next 150 13 (ps := []) (pc' := 321) (lv' := [(1, .int (pB bt n a)), (0, .ref 0)]) (st' := []) (z' := (mPut (mPutL (mPut (mPut (mPut za 0 26 (nI a)) 0 25 4) 0 25 3) 0 27 ((pB bt n a).toInt64)) 0 24 ((za.1 0 24) + 1))) rfl trivial ?_
                                rw [e0_3]
                                rw [nI_1 a]
                                subst xhQ
                                exact ww_vret xCC okX6_next 163 xhr rfl ⟨rfl, ⟨(pK4_put (pK4_putL (pK4_put (pK4_put (pK4_put e0_2 _ (by omega)) _ (by omega)) _ (by omega)) _) _ (by omega)), (by have e : pTok bt n pos = (pSg (bt a), a, a + 1) := pTok_sig ha han hle hdi; unfold tkM; rw [e]; exact ⟨rfl, Or.inr (Or.inr (Or.inr ⟨han, hle, hdi, Or.inl ⟨by show pSg (bt a) ≠ 10022; rw [hs]; decide, rfl, by show (pB bt n a).toInt64 = _; rw [pB_in han, nI_l (by have := g4 a; omega)], rfl⟩⟩))⟩)⟩⟩
                              · skip
                                have n61 : bt a ≠ 61 := fun q => c47 ((pB_eq g4 61 (by decide)).mpr ⟨han, q⟩)
                                subst xhQ
                                exact ww_vret xCC okX6_next 163 xhr rfl ⟨rfl, ⟨(pK4_put (pK4_put e0_2 _ (by omega)) _ (by omega)), (by have e : pTok bt n pos = (pSg (bt a), a, a + 1) := pTok_sig ha han hle hdi; unfold tkM; rw [e]; exact ⟨rfl, Or.inr (Or.inr (Or.inr ⟨han, hle, hdi, Or.inr ⟨by show pSg (bt a) = 10022; simp only [pSg, if_neg n40, if_neg n41, if_neg n59, if_neg n43, if_neg n45, if_neg n42, if_neg n60, if_neg n61], rfl⟩⟩))⟩)⟩⟩
          · skip
            have han : ¬ a < n := fun q => by
              rw [pB_in q] at c12
              have := g4 a
              exact c12 (nI_pos' (by omega))
            refine ww_blk xCC okX6_next 33 8 (ps := []) (pc' := 321) (lv' := [(1, .int (pB bt n a)), (0, .ref 0)]) (st' := []) (z' := (mPut (mPut (mPut (mPut za 0 26 (nI a)) 0 25 4) 0 25 0) 0 26 (za.1 0 23))) rfl trivial ?_
            rw [(pM_K (pK4_K e0_2) hpm).2.1]
            subst xhQ
            exact ww_vret xCC okX6_next 163 xhr rfl ⟨rfl, ⟨(pK4_put (pK4_put (pK4_put (pK4_put e0_2 _ (by omega)) _ (by omega)) _ (by omega)) _ (by omega)), (by have e : pTok bt n pos = (10021, a, a) := by { rw [pTok_end (by omega), ha] }; unfold tkM; rw [e]; have hna : a = n := (by omega); exact ⟨(by show nI n = nI a; rw [hna]), Or.inl ⟨(by show n ≤ a; omega), rfl, e0_3⟩⟩)⟩⟩
  exact ww_cut [0] (xlc rfl rfl) rfl rfl (L0 (n - pos + 1) pos z (Nat.lt_succ_self _) ⟨Nat.le_refl _, hpos⟩ rfl (pK4_rf z) hh)
