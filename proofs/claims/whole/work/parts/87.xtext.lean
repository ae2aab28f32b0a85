/-! LawsLapse's feed, text -/
def UF : List Nat := [17, 18]
def UT : List Nat := [1, 4, 5, 6, 7, 8, 9, 10, 11, 12, 13, 14, 15, 17]
def esT (c : Nat) : List Nat := [17, 18, 4 + c, 10 + c]
def TPx (z : xMem) (tn : Nat) (tb : Nat → Nat) : Prop := z.1 17 1 = nI tn ∧ tn ≤ 160 ∧ (∀ i, i < tn → z.1 18 i = nI (tb i)) ∧ ∀ i, tb i < 256
theorem rawX {es : List Nat} (h : xIx es 17 0 ≠ none) : xHasRaw shT = true → ∀ (k n : Nat) (l : List Nat), shX[k]? = some (0, n, l) → 2 ∈ l → xIx es k 0 ≠ none := by
  intro _ k n l hk h2
  have e : (List.range shX.length).all (fun k => match shX[k]? with | some (0, _, l) => !(l.contains 2) || k == 17 | _ => true) = true := by decide +kernel
  have hl : k < shX.length := (List.getElem?_eq_some_iff.mp hk).1
  have e2 := List.all_eq_true.mp e k (List.mem_range.mpr hl)
  rw [hk] at e2
  simp only [Bool.or_eq_true, Bool.not_eq_true', beq_iff_eq] at e2
  rcases e2 with e2 | e2
  · rw [List.contains_iff_mem.mpr h2] at e2; cases e2
  · rw [e2]; exact h
theorem xIx_no {es : List Nat} {q : Nat} (h : q ∉ es) : ∀ k, xIx es q k = none := by
  induction es with
  | nil => intro k; rfl
  | cons b l ih =>
    intro k
    simp only [List.mem_cons, not_or] at h
    rw [xIx, if_neg h.1]
    exact ih h.2 (k + 1)
theorem fe_E {z zA zE : xMem} {tn b : Nat} {rw : Bool} (hz : zE = xBack (esT 0) rw z zA) (h : zA = mPut (mPut (xPull (esT 0) z) 1 tn (nI b)) 0 1 (nI (tn + 1))) : KU UF z zE ∧ zE.1 17 1 = nI (tn + 1) ∧ ∀ i, zE.1 18 i = if i = tn then nI b else z.1 18 i := by
  subst hz
  refine ⟨KU_back (I := [0, 1]) (fun i hi => ?_) (by decide), ?_, fun i => ?_⟩
  · simp only [List.mem_cons, List.not_mem_nil, or_false, not_or] at hi
    rw [h, mPut_nq hi.1, mPut_nq hi.2]
  · rw [xBack_at (show xIx (esT 0) 17 0 = some 0 by decide), h]
    exact mPut_at
  · rw [xBack_at (show xIx (esT 0) 18 0 = some 1 by decide), h]
    simp only [mPut_rd]
    rfl
theorem fe_T {z zE : xMem} {tn b : Nat} {tb : Nat → Nat} (h : TPx z tn tb) (hE : KU UF z zE ∧ zE.1 17 1 = nI (tn + 1) ∧ ∀ i, zE.1 18 i = if i = tn then nI b else z.1 18 i) (hb : b < 256) (hn : tn < 160) : TPx zE (tn + 1) (fun i => if i = tn then b else tb i) := by
  refine ⟨hE.2.1, hn, fun i hi => ?_, fun i => ?_⟩
  · rw [hE.2.2]
    show _ = nI (if i = tn then b else tb i)
    by_cases e : i = tn
    · rw [if_pos e, if_pos e]
    · rw [if_neg e, if_neg e]
      exact h.2.2.1 i (by omega)
  · show (if i = tn then b else tb i) < 256
    split
    · exact hb
    · exact h.2.2.2 i
theorem TQ_X {z : xMem} {c tn : Nat} {tb : Nat → Nat} (h : TPx z tn tb) : TQ (xPull (esT c) z) tn tb := h
theorem te_E {c : Nat} (hc : c < 6) {z zR zE : xMem} {rw : Bool} (hz : zE = xBack (esT c) rw z zR) (h : KD (xPull (esT c) z) zR) : KU UT z zE ∧ zE.1 1 = z.1 1 ∧ zE.1 17 1 = z.1 17 1 ∧ zE.1 18 = z.1 18 := by
  subst hz
  have e1 : 1 ∉ esT c := by simp [esT]; omega
  refine ⟨fun q hq => ?_, xBack_no (xIx_no e1 0), ?_, ?_⟩
  · simp only [UT, List.mem_cons, List.not_mem_nil, or_false, not_or] at hq
    by_cases e18 : q = 18
    · subst e18
      rw [xBack_at (show xIx (esT c) 18 0 = some 1 by simp [esT, xIx])]
      exact h.1
    · exact xBack_no (xIx_no (by simp [esT]; omega) 0)
  · rw [xBack_at (show xIx (esT c) 17 0 = some 0 by simp [esT, xIx])]
    exact h.2 1 (by decide)
  · rw [xBack_at (show xIx (esT c) 18 0 = some 1 by simp [esT, xIx])]
    exact h.1
theorem TPx_z {z z' : xMem} {tn : Nat} {tb : Nat → Nat} (h : TPx z tn tb) (h1 : z'.1 17 1 = nI 0) : TPx z' 0 tb := ⟨h1, Nat.zero_le _, fun i hi => absurd hi (Nat.not_lt_zero i), h.2.2.2⟩
theorem te_P {z zE : xMem} {x : Int32} (_ : KU UT z zE ∧ zE.1 1 = z.1 1 ∧ zE.1 17 1 = z.1 17 1 ∧ zE.1 18 = z.1 18) : (mPut (mPut zE 17 1 0) 1 2 x).1 17 1 = nI 0 := (congrFun (mPut_nq (by decide)) 1).trans mPut_at
theorem te_P0 {z zE : xMem} (_ : KU UT z zE ∧ zE.1 1 = z.1 1 ∧ zE.1 17 1 = z.1 17 1 ∧ zE.1 18 = z.1 18) : (mPut zE 17 1 0).1 17 1 = nI 0 := mPut_at
theorem TXk_of {z z' : xMem} {a b a' b' : Nat} {t : sTc} (h1 : z'.1 a' = z.1 a) (h2 : z'.1 b' = z.1 b) (h : TXk z a b t) : TXk z' a' b' t := by
  unfold TXk at h ⊢
  rw [h1, h2]
  exact h
theorem te_T0 {z zR zE : xMem} {c cnt : Nat} {tc : Nat → sTc} {rw : Bool} (hk : cnt = c) (hc : c < 6) (ht : TX z 1 cnt tc) (hz : zE = xBack (esT c) rw z zR) : TX (mPut zE 17 1 0) 1 cnt tc := by
  subst hz; subst hk
  refine ⟨?_, ht.2.1, ht.2.2.1, fun k hl => ?_⟩
  · rw [mPut_nq (by decide), xBack_no (xIx_no (by simp [esT]; omega) 0)]
    exact ht.1
  · refine TXk_of ?_ ?_ (ht.2.2.2 k hl)
    · rw [mPut_nq (by omega), xBack_no (xIx_no (by simp [esT]; omega) 0)]
    · rw [mPut_nq (by omega), xBack_no (xIx_no (by simp [esT]; omega) 0)]
theorem esT_2 : ∀ k, k < 6 → xIx (esT k) (1 + 3 + k) 0 = some 2 := by decide
theorem esT_3 : ∀ k, k < 6 → xIx (esT k) (1 + 9 + k) 0 = some 3 := by decide
theorem te_T1 {z zR zE : xMem} {c cnt : Nat} {tc : Nat → sTc} {f : sTc} {rw : Bool} (hk : cnt = c) (hc : c < 6) (ht : TX z 1 cnt tc) (hz : zE = xBack (esT c) rw z zR) (hT : TXk zR 2 3 f) : TX (mPut (mPut zE 17 1 0) 1 2 (nI (cnt + 1))) 1 (cnt + 1) (sTcU tc cnt f) := by
  subst hz; subst hk
  refine ⟨mPut_at, by omega, by omega, fun k hl => ?_⟩
  by_cases e : k = cnt
  · subst e
    rw [show sTcU tc k f k = f by simp [sTcU]]
    refine TXk_of ?_ ?_ hT
    · rw [mPut_nq (by omega), mPut_nq (by omega)]
      exact xBack_at (esT_2 k hc)
    · rw [mPut_nq (by omega), mPut_nq (by omega)]
      exact xBack_at (esT_3 k hc)
  · rw [show sTcU tc cnt f k = tc k by simp [sTcU, e]]
    refine TXk_of ?_ ?_ (ht.2.2.2 k (by omega))
    · rw [mPut_nq (by omega), mPut_nq (by omega), xBack_no (xIx_no (by simp [esT]; omega) 0)]
    · rw [mPut_nq (by omega), mPut_nq (by omega), xBack_no (xIx_no (by simp [esT]; omega) 0)]
set_option maxHeartbeats 4000000 in
set_option maxRecDepth 20000 in
theorem t_X5_feed (l : Launch) (d : Nat) (x : Int32) (z : xMem) (tn : Nat) (tb : Nat → Nat) (h : TPx z tn tb) : XMi l (d + 1) yX5_feed cX5_feed 2 (some .int) shX [.ref 0, .int x] z (fun v z' => v = (sFeed tn tb x).1 ∧ TPx z' (sFeed tn tb x).2.1 (sFeed tn tb x).2.2 ∧ KU UF z z') := by
  refine XM.of (by decide) (Nat.le_of_ble_eq_true rfl) (fun xp xe xs xm xar xbl xme xc xD xcs xad xAA xCC xhr => ?_)
  generalize xhQ : MQ xbl _ xar xs 0 0 xAA = xQ
  show ww xp l xe (xRm (d + 1)) xs xm xar xbl xme xc 2 xD xcs xad shX xAA xQ 0 [(0, .ref 0), (1, .int x)] [] z
  have hn := h.2.1
  refine ww_blk xCC okX5_feed 0 3 (ps := []) (pc' := 5) (lv' := [(0, .ref 0), (1, .int x)]) (st' := [.int 255, .int 0, .int x]) (z' := z) rfl trivial ?_
  refine ww_callSNz xCC okX5_feed 3 (ix := 52) (t_X5_within l d x 0 255 _) (by omega) (by decide) xyX5_within xiX5_within (Or.inl (lw_gt_of (List.mem_of_getElem? (i := 327) (by decide +kernel)) rfl)) rfl (rest := []) rfl (Nat.le_of_ble_eq_true rfl) rfl (fun z1 h2 => ?_) (fun z1 h2 => ?_)
  · skip
    have h2 : 0 ≤ x.toInt ∧ x.toInt ≤ 255 := h2
    obtain ⟨b, hb, rfl⟩ := sNN (x := x) (n := 256) (by omega) (by omega)
    refine ww_br xCC okX5_feed 4 (P := 1 = 0) (t1 := 11) (t2 := 14) (r := []) rfl (fun q => absurd q (by decide)) (fun _ => ?_)
    refine ww_blk xCC okX5_feed 7 4 (ps := []) (pc' := 24) (lv' := [(0, .ref 0), (1, .int (nI b))]) (st' := [.int 160, .int (z.1 17 1)]) (z' := z) rfl trivial ?_
    rw [show z.1 17 1 = nI tn from h.1]
    refine ww_br xCC okX5_feed 11 (P := (nI tn) < 160) (t1 := 30) (t2 := 27) (r := []) rfl (fun c4 => ?_) (fun c4 => ?_)
    · skip
      replace c4 : tn < 160 := (sLT (a := tn) (b := 160) (by omega) (by omega)).mp c4
      refine ww_blk xCC okX5_feed 14 3 (ps := []) (pc' := 35) (lv' := [(0, .ref 0), (1, .int (nI b))]) (st' := [.int (nI b), .ref 17]) (z' := z) rfl trivial ?_
      refine ww_callVEv xCC okX5_feed 17 (ix := 101) (t_X3_add l d tn b (xPull (esT 0) z) h.1 (by omega)) (by omega) (by decide) xyX3_add xiX3_add (Or.inr (List.mem_of_getElem? (i := 436) (by decide +kernel))) (by decide +kernel) (by decide) (rawX (by decide)) (q0 := 17) rfl rfl rfl rfl (rest := []) rfl (Nat.le_of_ble_eq_true rfl) rfl (fun zA hA => ?_)
      obtain ⟨zE, hz⟩ : ∃ y, y = xBack (esT 0) (xHasRaw shT) z zA := ⟨_, rfl⟩
      rw [← hz]
      have hE := fe_E hz hA
      have h9 : zE.1 17 1 = nI (tn + 1) := hE.2.1
      refine ww_blk xCC okX5_feed 18 3 (ps := []) (pc' := 45) (lv' := [(0, .ref 0), (1, .int (nI b))]) (st' := [.int (zE.1 17 1)]) (z' := zE) rfl trivial ?_
      rw [h9]
      subst xhQ
      exact ww_iret xCC okX5_feed 21 xhr rfl rfl ⟨_, rfl, (by rw [sFeed_y (by omega) (by omega)]; exact ⟨rfl, fe_T h hE hb (by omega), hE.1⟩)⟩
    · skip
      replace c4 : ¬ tn < 160 := fun q => c4 ((sLT (a := tn) (b := 160) (by omega) (by omega)).mpr q)
      refine ww_blk xCC okX5_feed 12 1 (ps := []) (pc' := 29) (lv' := [(0, .ref 0), (1, .int (nI b))]) (st' := [.int (-4)]) (z' := z) rfl trivial ?_
      subst xhQ
      exact ww_iret xCC okX5_feed 13 xhr rfl rfl ⟨_, rfl, (by rw [sFeed_f (by omega) (by omega)]; exact ⟨rfl, h, KU_rf z⟩)⟩
  · skip
    have h2 : ¬ (0 ≤ x.toInt ∧ x.toInt ≤ 255) := h2
    refine ww_br xCC okX5_feed 4 (P := 0 = 0) (t1 := 11) (t2 := 14) (r := []) rfl (fun _ => ?_) (fun q => absurd (by decide) q)
    refine ww_blk xCC okX5_feed 5 1 (ps := []) (pc' := 13) (lv' := [(0, .ref 0), (1, .int x)]) (st' := [.int (-2)]) (z' := z) rfl trivial ?_
    subst xhQ
    exact ww_iret xCC okX5_feed 6 xhr rfl rfl ⟨_, rfl, (by rw [sFeed_n (by omega)]; exact ⟨rfl, h, KU_rf z⟩)⟩

set_option maxHeartbeats 4000000 in
set_option maxRecDepth 20000 in
theorem t_X5_text (l : Launch) (d : Nat) (z : xMem) (cnt tn : Nat) (tc : Nat → sTc) (tb : Nat → Nat) (ht : TX z 1 cnt tc) (h : TPx z tn tb) : XMi l (d + 311) yX5_text cX5_text 3 (some .int) shX [.ref 0] z (fun v z' => (cnt = 6 ∧ v = -4 ∧ z' = z) ∨ (cnt < 6 ∧ TPx z' 0 tb ∧ KU UT z z' ∧ (((pTx tb tn 300).1 = 1 ∧ v = nI cnt ∧ TX z' 1 (cnt + 1) (sTcU tc cnt (pTx tb tn 300).2.1)) ∨ ((pTx tb tn 300).1 ≠ 1 ∧ v = -100 - nI (pTx tb tn 300).2.2 ∧ TX z' 1 cnt tc)))) := by
  refine XM.of (by decide) (Nat.le_of_ble_eq_true rfl) (fun xp xe xs xm xar xbl xme xc xD xcs xad xAA xCC xhr => ?_)
  generalize xhQ : MQ xbl _ xar xs 0 0 xAA = xQ
  show ww xp l xe (xRm (d + 311)) xs xm xar xbl xme xc 3 xD xcs xad shX xAA xQ 0 [(0, .ref 0)] [] z
  have hn := h.2.1
  have hc1 := ht.2.1
  have hc6 := ht.2.2.1
  refine ww_blk xCC okX5_text 0 6 (ps := []) (pc' := 11) (lv' := [(1, .int (z.1 1 2)), (0, .ref 0)]) (st' := [.int 6, .int (z.1 1 2)]) (z' := z) rfl trivial ?_
  rw [show z.1 1 2 = nI cnt from ht.1]
  refine ww_br xCC okX5_text 6 (P := (nI cnt) < 6) (t1 := 17) (t2 := 14) (r := []) rfl (fun c1 => ?_) (fun c1 => ?_)
  · skip
    replace c1 : cnt < 6 := (sLT (a := cnt) (b := 6) (by omega) (by omega)).mp c1
    rcases (show cnt = 1 ∨ cnt = 2 ∨ cnt = 3 ∨ cnt = 4 ∨ cnt = 5 by omega) with hk | hk | hk | hk | hk
    · skip
      rw [show nI cnt = (1 : Int32) by rw [hk]; rfl]
      refine ww_blk xCC okX5_text 9 12 (ps := [vp_in 1 6, vp_in 1 6]) (pc' := 39) (lv' := [(1, .int 1), (0, .ref 0)]) (st' := [.ref 11, .ref 5, .ref 17]) (z' := z) rfl ⟨(show vp_in 1 6 from (by unfold vp_in; decide)), (show vp_in 1 6 from (by unfold vp_in; decide))⟩ ?_
      refine ww_callVEz xCC okX5_text 21 (ix := 112) (t_X3_reads l d (xPull (esT 1) z) tn tb (TQ_X h) (pTx tb tn 300).1 (pTx tb tn 300).2.1.1 (pTx tb tn 300).2.1.2.1 (pTx tb tn 300).2.1.2.2 (pTx tb tn 300).2.2 rfl (pTx_ne hn)) (by omega) (by decide) xyX3_reads xiX3_reads (Or.inr (List.mem_of_getElem? (i := 444) (by decide +kernel))) (by decide +kernel) (by decide) (rawX (by decide)) (q0 := 17) rfl rfl rfl rfl (rest := []) rfl (Nat.le_of_ble_eq_true rfl) rfl (fun zR hR => ?_) (fun zR hR => ?_)
      · skip
        obtain ⟨zE, hz⟩ : ∃ y, y = xBack (esT 1) (xHasRaw shT) z zR := ⟨_, rfl⟩
        rw [← hz]
        have hE := te_E (c := 1) (by decide) hz hR.2.2
        refine ww_blk xCC okX5_text 22 6 (ps := []) (pc' := 52) (lv' := [(2, .int 1), (1, .int 1), (0, .ref 0)]) (st' := [.int 1]) (z' := (mPut zE 17 1 0)) rfl trivial ?_
        refine ww_br xCC okX5_text 28 (P := 1 = 0) (t1 := 55) (t2 := 66) (r := []) rfl (fun q => absurd q (by decide)) (fun _ => ?_)
        refine ww_blk xCC okX5_text 35 8 (ps := []) (pc' := 80) (lv' := [(2, .int 1), (1, .int 1), (0, .ref 0)]) (st' := [.int 1]) (z' := (mPut (mPut zE 17 1 0) 1 2 ((zE.1 1 2) + 1))) rfl trivial ?_
        rw [show zE.1 1 2 = nI cnt from (congrFun hE.2.1 2).trans ht.1]
        rw [show nI cnt + (1 : Int32) = nI (cnt + 1) from nI_add cnt 1]
        subst xhQ
        exact ww_iret xCC okX5_text 43 xhr rfl rfl ⟨_, rfl, (Or.inr ⟨by omega, TPx_z h (te_P hE), KU_put (by decide) (KU_put (by decide) hE.1), Or.inl ⟨hR.1, by rw [hk]; rfl, te_T1 (c := 1) hk (by decide) ht hz hR.2.1⟩⟩)⟩
      · skip
        obtain ⟨zE, hz⟩ : ∃ y, y = xBack (esT 1) (xHasRaw shT) z zR := ⟨_, rfl⟩
        rw [← hz]
        have hE := te_E (c := 1) (by decide) hz hR.2.2
        have hP : zE.1 17 2 = nI (pTx tb tn 300).2.2 := by rw [hz]; exact (congrFun (xBack_at (show xIx (esT 1) 17 0 = some 0 by decide)) 2).trans hR.2.1
        refine ww_blk xCC okX5_text 22 6 (ps := []) (pc' := 52) (lv' := [(2, .int 0), (1, .int 1), (0, .ref 0)]) (st' := [.int 0]) (z' := (mPut zE 17 1 0)) rfl trivial ?_
        refine ww_br xCC okX5_text 28 (P := 0 = 0) (t1 := 55) (t2 := 66) (r := []) rfl (fun _ => ?_) (fun q => absurd (by decide) q)
        refine ww_blk xCC okX5_text 29 5 (ps := []) (pc' := 65) (lv' := [(2, .int 0), (1, .int 1), (0, .ref 0)]) (st' := [.int ((-100) - (zE.1 17 2))]) (z' := (mPut zE 17 1 0)) rfl trivial ?_
        rw [hP]
        subst xhQ
        exact ww_iret xCC okX5_text 34 xhr rfl rfl ⟨_, rfl, (Or.inr ⟨by omega, TPx_z h (te_P0 hE), KU_put (by decide) hE.1, Or.inr ⟨by rw [hR.1]; decide, rfl, te_T0 (c := 1) hk (by decide) ht hz⟩⟩)⟩
    · skip
      rw [show nI cnt = (2 : Int32) by rw [hk]; rfl]
      refine ww_blk xCC okX5_text 9 12 (ps := [vp_in 2 6, vp_in 2 6]) (pc' := 39) (lv' := [(1, .int 2), (0, .ref 0)]) (st' := [.ref 12, .ref 6, .ref 17]) (z' := z) rfl ⟨(show vp_in 2 6 from (by unfold vp_in; decide)), (show vp_in 2 6 from (by unfold vp_in; decide))⟩ ?_
      refine ww_callVEz xCC okX5_text 21 (ix := 112) (t_X3_reads l d (xPull (esT 2) z) tn tb (TQ_X h) (pTx tb tn 300).1 (pTx tb tn 300).2.1.1 (pTx tb tn 300).2.1.2.1 (pTx tb tn 300).2.1.2.2 (pTx tb tn 300).2.2 rfl (pTx_ne hn)) (by omega) (by decide) xyX3_reads xiX3_reads (Or.inr (List.mem_of_getElem? (i := 444) (by decide +kernel))) (by decide +kernel) (by decide) (rawX (by decide)) (q0 := 17) rfl rfl rfl rfl (rest := []) rfl (Nat.le_of_ble_eq_true rfl) rfl (fun zR hR => ?_) (fun zR hR => ?_)
      · skip
        obtain ⟨zE, hz⟩ : ∃ y, y = xBack (esT 2) (xHasRaw shT) z zR := ⟨_, rfl⟩
        rw [← hz]
        have hE := te_E (c := 2) (by decide) hz hR.2.2
        refine ww_blk xCC okX5_text 22 6 (ps := []) (pc' := 52) (lv' := [(2, .int 1), (1, .int 2), (0, .ref 0)]) (st' := [.int 1]) (z' := (mPut zE 17 1 0)) rfl trivial ?_
        refine ww_br xCC okX5_text 28 (P := 1 = 0) (t1 := 55) (t2 := 66) (r := []) rfl (fun q => absurd q (by decide)) (fun _ => ?_)
        refine ww_blk xCC okX5_text 35 8 (ps := []) (pc' := 80) (lv' := [(2, .int 1), (1, .int 2), (0, .ref 0)]) (st' := [.int 2]) (z' := (mPut (mPut zE 17 1 0) 1 2 ((zE.1 1 2) + 1))) rfl trivial ?_
        rw [show zE.1 1 2 = nI cnt from (congrFun hE.2.1 2).trans ht.1]
        rw [show nI cnt + (1 : Int32) = nI (cnt + 1) from nI_add cnt 1]
        subst xhQ
        exact ww_iret xCC okX5_text 43 xhr rfl rfl ⟨_, rfl, (Or.inr ⟨by omega, TPx_z h (te_P hE), KU_put (by decide) (KU_put (by decide) hE.1), Or.inl ⟨hR.1, by rw [hk]; rfl, te_T1 (c := 2) hk (by decide) ht hz hR.2.1⟩⟩)⟩
      · skip
        obtain ⟨zE, hz⟩ : ∃ y, y = xBack (esT 2) (xHasRaw shT) z zR := ⟨_, rfl⟩
        rw [← hz]
        have hE := te_E (c := 2) (by decide) hz hR.2.2
        have hP : zE.1 17 2 = nI (pTx tb tn 300).2.2 := by rw [hz]; exact (congrFun (xBack_at (show xIx (esT 2) 17 0 = some 0 by decide)) 2).trans hR.2.1
        refine ww_blk xCC okX5_text 22 6 (ps := []) (pc' := 52) (lv' := [(2, .int 0), (1, .int 2), (0, .ref 0)]) (st' := [.int 0]) (z' := (mPut zE 17 1 0)) rfl trivial ?_
        refine ww_br xCC okX5_text 28 (P := 0 = 0) (t1 := 55) (t2 := 66) (r := []) rfl (fun _ => ?_) (fun q => absurd (by decide) q)
        refine ww_blk xCC okX5_text 29 5 (ps := []) (pc' := 65) (lv' := [(2, .int 0), (1, .int 2), (0, .ref 0)]) (st' := [.int ((-100) - (zE.1 17 2))]) (z' := (mPut zE 17 1 0)) rfl trivial ?_
        rw [hP]
        subst xhQ
        exact ww_iret xCC okX5_text 34 xhr rfl rfl ⟨_, rfl, (Or.inr ⟨by omega, TPx_z h (te_P0 hE), KU_put (by decide) hE.1, Or.inr ⟨by rw [hR.1]; decide, rfl, te_T0 (c := 2) hk (by decide) ht hz⟩⟩)⟩
    · skip
      rw [show nI cnt = (3 : Int32) by rw [hk]; rfl]
      refine ww_blk xCC okX5_text 9 12 (ps := [vp_in 3 6, vp_in 3 6]) (pc' := 39) (lv' := [(1, .int 3), (0, .ref 0)]) (st' := [.ref 13, .ref 7, .ref 17]) (z' := z) rfl ⟨(show vp_in 3 6 from (by unfold vp_in; decide)), (show vp_in 3 6 from (by unfold vp_in; decide))⟩ ?_
      refine ww_callVEz xCC okX5_text 21 (ix := 112) (t_X3_reads l d (xPull (esT 3) z) tn tb (TQ_X h) (pTx tb tn 300).1 (pTx tb tn 300).2.1.1 (pTx tb tn 300).2.1.2.1 (pTx tb tn 300).2.1.2.2 (pTx tb tn 300).2.2 rfl (pTx_ne hn)) (by omega) (by decide) xyX3_reads xiX3_reads (Or.inr (List.mem_of_getElem? (i := 444) (by decide +kernel))) (by decide +kernel) (by decide) (rawX (by decide)) (q0 := 17) rfl rfl rfl rfl (rest := []) rfl (Nat.le_of_ble_eq_true rfl) rfl (fun zR hR => ?_) (fun zR hR => ?_)
      · skip
        obtain ⟨zE, hz⟩ : ∃ y, y = xBack (esT 3) (xHasRaw shT) z zR := ⟨_, rfl⟩
        rw [← hz]
        have hE := te_E (c := 3) (by decide) hz hR.2.2
        refine ww_blk xCC okX5_text 22 6 (ps := []) (pc' := 52) (lv' := [(2, .int 1), (1, .int 3), (0, .ref 0)]) (st' := [.int 1]) (z' := (mPut zE 17 1 0)) rfl trivial ?_
        refine ww_br xCC okX5_text 28 (P := 1 = 0) (t1 := 55) (t2 := 66) (r := []) rfl (fun q => absurd q (by decide)) (fun _ => ?_)
        refine ww_blk xCC okX5_text 35 8 (ps := []) (pc' := 80) (lv' := [(2, .int 1), (1, .int 3), (0, .ref 0)]) (st' := [.int 3]) (z' := (mPut (mPut zE 17 1 0) 1 2 ((zE.1 1 2) + 1))) rfl trivial ?_
        rw [show zE.1 1 2 = nI cnt from (congrFun hE.2.1 2).trans ht.1]
        rw [show nI cnt + (1 : Int32) = nI (cnt + 1) from nI_add cnt 1]
        subst xhQ
        exact ww_iret xCC okX5_text 43 xhr rfl rfl ⟨_, rfl, (Or.inr ⟨by omega, TPx_z h (te_P hE), KU_put (by decide) (KU_put (by decide) hE.1), Or.inl ⟨hR.1, by rw [hk]; rfl, te_T1 (c := 3) hk (by decide) ht hz hR.2.1⟩⟩)⟩
      · skip
        obtain ⟨zE, hz⟩ : ∃ y, y = xBack (esT 3) (xHasRaw shT) z zR := ⟨_, rfl⟩
        rw [← hz]
        have hE := te_E (c := 3) (by decide) hz hR.2.2
        have hP : zE.1 17 2 = nI (pTx tb tn 300).2.2 := by rw [hz]; exact (congrFun (xBack_at (show xIx (esT 3) 17 0 = some 0 by decide)) 2).trans hR.2.1
        refine ww_blk xCC okX5_text 22 6 (ps := []) (pc' := 52) (lv' := [(2, .int 0), (1, .int 3), (0, .ref 0)]) (st' := [.int 0]) (z' := (mPut zE 17 1 0)) rfl trivial ?_
        refine ww_br xCC okX5_text 28 (P := 0 = 0) (t1 := 55) (t2 := 66) (r := []) rfl (fun _ => ?_) (fun q => absurd (by decide) q)
        refine ww_blk xCC okX5_text 29 5 (ps := []) (pc' := 65) (lv' := [(2, .int 0), (1, .int 3), (0, .ref 0)]) (st' := [.int ((-100) - (zE.1 17 2))]) (z' := (mPut zE 17 1 0)) rfl trivial ?_
        rw [hP]
        subst xhQ
        exact ww_iret xCC okX5_text 34 xhr rfl rfl ⟨_, rfl, (Or.inr ⟨by omega, TPx_z h (te_P0 hE), KU_put (by decide) hE.1, Or.inr ⟨by rw [hR.1]; decide, rfl, te_T0 (c := 3) hk (by decide) ht hz⟩⟩)⟩
    · skip
      rw [show nI cnt = (4 : Int32) by rw [hk]; rfl]
      refine ww_blk xCC okX5_text 9 12 (ps := [vp_in 4 6, vp_in 4 6]) (pc' := 39) (lv' := [(1, .int 4), (0, .ref 0)]) (st' := [.ref 14, .ref 8, .ref 17]) (z' := z) rfl ⟨(show vp_in 4 6 from (by unfold vp_in; decide)), (show vp_in 4 6 from (by unfold vp_in; decide))⟩ ?_
      refine ww_callVEz xCC okX5_text 21 (ix := 112) (t_X3_reads l d (xPull (esT 4) z) tn tb (TQ_X h) (pTx tb tn 300).1 (pTx tb tn 300).2.1.1 (pTx tb tn 300).2.1.2.1 (pTx tb tn 300).2.1.2.2 (pTx tb tn 300).2.2 rfl (pTx_ne hn)) (by omega) (by decide) xyX3_reads xiX3_reads (Or.inr (List.mem_of_getElem? (i := 444) (by decide +kernel))) (by decide +kernel) (by decide) (rawX (by decide)) (q0 := 17) rfl rfl rfl rfl (rest := []) rfl (Nat.le_of_ble_eq_true rfl) rfl (fun zR hR => ?_) (fun zR hR => ?_)
      · skip
        obtain ⟨zE, hz⟩ : ∃ y, y = xBack (esT 4) (xHasRaw shT) z zR := ⟨_, rfl⟩
        rw [← hz]
        have hE := te_E (c := 4) (by decide) hz hR.2.2
        refine ww_blk xCC okX5_text 22 6 (ps := []) (pc' := 52) (lv' := [(2, .int 1), (1, .int 4), (0, .ref 0)]) (st' := [.int 1]) (z' := (mPut zE 17 1 0)) rfl trivial ?_
        refine ww_br xCC okX5_text 28 (P := 1 = 0) (t1 := 55) (t2 := 66) (r := []) rfl (fun q => absurd q (by decide)) (fun _ => ?_)
        refine ww_blk xCC okX5_text 35 8 (ps := []) (pc' := 80) (lv' := [(2, .int 1), (1, .int 4), (0, .ref 0)]) (st' := [.int 4]) (z' := (mPut (mPut zE 17 1 0) 1 2 ((zE.1 1 2) + 1))) rfl trivial ?_
        rw [show zE.1 1 2 = nI cnt from (congrFun hE.2.1 2).trans ht.1]
        rw [show nI cnt + (1 : Int32) = nI (cnt + 1) from nI_add cnt 1]
        subst xhQ
        exact ww_iret xCC okX5_text 43 xhr rfl rfl ⟨_, rfl, (Or.inr ⟨by omega, TPx_z h (te_P hE), KU_put (by decide) (KU_put (by decide) hE.1), Or.inl ⟨hR.1, by rw [hk]; rfl, te_T1 (c := 4) hk (by decide) ht hz hR.2.1⟩⟩)⟩
      · skip
        obtain ⟨zE, hz⟩ : ∃ y, y = xBack (esT 4) (xHasRaw shT) z zR := ⟨_, rfl⟩
        rw [← hz]
        have hE := te_E (c := 4) (by decide) hz hR.2.2
        have hP : zE.1 17 2 = nI (pTx tb tn 300).2.2 := by rw [hz]; exact (congrFun (xBack_at (show xIx (esT 4) 17 0 = some 0 by decide)) 2).trans hR.2.1
        refine ww_blk xCC okX5_text 22 6 (ps := []) (pc' := 52) (lv' := [(2, .int 0), (1, .int 4), (0, .ref 0)]) (st' := [.int 0]) (z' := (mPut zE 17 1 0)) rfl trivial ?_
        refine ww_br xCC okX5_text 28 (P := 0 = 0) (t1 := 55) (t2 := 66) (r := []) rfl (fun _ => ?_) (fun q => absurd (by decide) q)
        refine ww_blk xCC okX5_text 29 5 (ps := []) (pc' := 65) (lv' := [(2, .int 0), (1, .int 4), (0, .ref 0)]) (st' := [.int ((-100) - (zE.1 17 2))]) (z' := (mPut zE 17 1 0)) rfl trivial ?_
        rw [hP]
        subst xhQ
        exact ww_iret xCC okX5_text 34 xhr rfl rfl ⟨_, rfl, (Or.inr ⟨by omega, TPx_z h (te_P0 hE), KU_put (by decide) hE.1, Or.inr ⟨by rw [hR.1]; decide, rfl, te_T0 (c := 4) hk (by decide) ht hz⟩⟩)⟩
    · skip
      rw [show nI cnt = (5 : Int32) by rw [hk]; rfl]
      refine ww_blk xCC okX5_text 9 12 (ps := [vp_in 5 6, vp_in 5 6]) (pc' := 39) (lv' := [(1, .int 5), (0, .ref 0)]) (st' := [.ref 15, .ref 9, .ref 17]) (z' := z) rfl ⟨(show vp_in 5 6 from (by unfold vp_in; decide)), (show vp_in 5 6 from (by unfold vp_in; decide))⟩ ?_
      refine ww_callVEz xCC okX5_text 21 (ix := 112) (t_X3_reads l d (xPull (esT 5) z) tn tb (TQ_X h) (pTx tb tn 300).1 (pTx tb tn 300).2.1.1 (pTx tb tn 300).2.1.2.1 (pTx tb tn 300).2.1.2.2 (pTx tb tn 300).2.2 rfl (pTx_ne hn)) (by omega) (by decide) xyX3_reads xiX3_reads (Or.inr (List.mem_of_getElem? (i := 444) (by decide +kernel))) (by decide +kernel) (by decide) (rawX (by decide)) (q0 := 17) rfl rfl rfl rfl (rest := []) rfl (Nat.le_of_ble_eq_true rfl) rfl (fun zR hR => ?_) (fun zR hR => ?_)
      · skip
        obtain ⟨zE, hz⟩ : ∃ y, y = xBack (esT 5) (xHasRaw shT) z zR := ⟨_, rfl⟩
        rw [← hz]
        have hE := te_E (c := 5) (by decide) hz hR.2.2
        refine ww_blk xCC okX5_text 22 6 (ps := []) (pc' := 52) (lv' := [(2, .int 1), (1, .int 5), (0, .ref 0)]) (st' := [.int 1]) (z' := (mPut zE 17 1 0)) rfl trivial ?_
        refine ww_br xCC okX5_text 28 (P := 1 = 0) (t1 := 55) (t2 := 66) (r := []) rfl (fun q => absurd q (by decide)) (fun _ => ?_)
        refine ww_blk xCC okX5_text 35 8 (ps := []) (pc' := 80) (lv' := [(2, .int 1), (1, .int 5), (0, .ref 0)]) (st' := [.int 5]) (z' := (mPut (mPut zE 17 1 0) 1 2 ((zE.1 1 2) + 1))) rfl trivial ?_
        rw [show zE.1 1 2 = nI cnt from (congrFun hE.2.1 2).trans ht.1]
        rw [show nI cnt + (1 : Int32) = nI (cnt + 1) from nI_add cnt 1]
        subst xhQ
        exact ww_iret xCC okX5_text 43 xhr rfl rfl ⟨_, rfl, (Or.inr ⟨by omega, TPx_z h (te_P hE), KU_put (by decide) (KU_put (by decide) hE.1), Or.inl ⟨hR.1, by rw [hk]; rfl, te_T1 (c := 5) hk (by decide) ht hz hR.2.1⟩⟩)⟩
      · skip
        obtain ⟨zE, hz⟩ : ∃ y, y = xBack (esT 5) (xHasRaw shT) z zR := ⟨_, rfl⟩
        rw [← hz]
        have hE := te_E (c := 5) (by decide) hz hR.2.2
        have hP : zE.1 17 2 = nI (pTx tb tn 300).2.2 := by rw [hz]; exact (congrFun (xBack_at (show xIx (esT 5) 17 0 = some 0 by decide)) 2).trans hR.2.1
        refine ww_blk xCC okX5_text 22 6 (ps := []) (pc' := 52) (lv' := [(2, .int 0), (1, .int 5), (0, .ref 0)]) (st' := [.int 0]) (z' := (mPut zE 17 1 0)) rfl trivial ?_
        refine ww_br xCC okX5_text 28 (P := 0 = 0) (t1 := 55) (t2 := 66) (r := []) rfl (fun _ => ?_) (fun q => absurd (by decide) q)
        refine ww_blk xCC okX5_text 29 5 (ps := []) (pc' := 65) (lv' := [(2, .int 0), (1, .int 5), (0, .ref 0)]) (st' := [.int ((-100) - (zE.1 17 2))]) (z' := (mPut zE 17 1 0)) rfl trivial ?_
        rw [hP]
        subst xhQ
        exact ww_iret xCC okX5_text 34 xhr rfl rfl ⟨_, rfl, (Or.inr ⟨by omega, TPx_z h (te_P0 hE), KU_put (by decide) hE.1, Or.inr ⟨by rw [hR.1]; decide, rfl, te_T0 (c := 5) hk (by decide) ht hz⟩⟩)⟩
  · skip
    replace c1 : ¬ cnt < 6 := fun q => c1 ((sLT (a := cnt) (b := 6) (by omega) (by omega)).mpr q)
    refine ww_blk xCC okX5_text 7 1 (ps := []) (pc' := 16) (lv' := [(1, .int (nI cnt)), (0, .ref 0)]) (st' := [.int (-4)]) (z' := z) rfl trivial ?_
    subst xhQ
    exact ww_iret xCC okX5_text 8 xhr rfl rfl ⟨_, rfl, (Or.inl ⟨by omega, rfl, rfl⟩)⟩
