/-! the model's feed, text -/
/-- the tape -/
def TP (z : xMem) (tn : Nat) (tb : Nat → Nat) : Prop := z.1 0 6 = nI tn ∧ tn ≤ 160 ∧ (∀ i, i < tn → z.1 3 i = nI (tb i)) ∧ ∀ i, tb i < 256
def sFeed (tn : Nat) (tb : Nat → Nat) (x : Int32) : Int32 × Nat × (Nat → Nat) := if 0 ≤ x.toInt ∧ x.toInt ≤ 255 then (if tn = 160 then (-4, tn, tb) else (nI (tn + 1), tn + 1, fun i => if i = tn then x.toInt.toNat else tb i)) else (-2, tn, tb)
theorem sFeed_n {tn : Nat} {tb : Nat → Nat} {x : Int32} (h : ¬ (0 ≤ x.toInt ∧ x.toInt ≤ 255)) : sFeed tn tb x = (-2, tn, tb) := by rw [sFeed, if_neg h]
theorem sFeed_f {tn : Nat} {tb : Nat → Nat} {b : Nat} (hb : b < 256) (h : tn = 160) : sFeed tn tb (nI b) = (-4, tn, tb) := by rw [sFeed, sTI (k := b) (by omega), if_pos (by omega), if_pos h]
theorem sFeed_y {tn : Nat} {tb : Nat → Nat} {b : Nat} (hb : b < 256) (h : ¬ tn = 160) : sFeed tn tb (nI b) = (nI (tn + 1), tn + 1, fun i => if i = tn then b else tb i) := by rw [sFeed, sTI (k := b) (by omega), if_pos (by omega), if_neg h]; rfl
/-- nothing changed but the tape -/
def KF (z z' : xMem) : Prop := (∀ q, q ≠ 0 → q ≠ 3 → z'.1 q = z.1 q) ∧ ∀ j, j ≠ 6 → z'.1 0 j = z.1 0 j
theorem KF_rf (z : xMem) : KF z z := ⟨fun _ _ _ => rfl, fun _ _ => rfl⟩
theorem KF_1 {z : xMem} {i : Nat} {x y : Int32} : KF z (mPut (mPut z 3 i x) 0 6 y) := ⟨fun q h0 h3 => (mPut_nq h0).trans (mPut_nq h3), fun j hj => (mPut_nj hj).trans (congrFun (mPut_nq (by decide)) j)⟩
theorem TP_1 {z : xMem} {tn b : Nat} {tb : Nat → Nat} (h : TP z tn tb) (hn : tn < 160) (hb : b < 256) : TP (mPut (mPut z 3 tn (nI b)) 0 6 (nI (tn + 1))) (tn + 1) (fun i => if i = tn then b else tb i) := by
  obtain ⟨h1, h2, h3, h4⟩ := h
  refine ⟨mPut_at, by omega, fun i hi => ?_, fun i => ?_⟩
  · rw [mPut_nq (by decide), mPut_rd, if_pos rfl]
    show (if i = tn then nI b else z.1 3 i) = nI (if i = tn then b else tb i)
    by_cases q : i = tn
    · rw [if_pos q, if_pos q]
    · rw [if_neg q, if_neg q]; exact h3 i (by omega)
  · show (if i = tn then b else tb i) < 256
    by_cases q : i = tn
    · rw [if_pos q]; exact hb
    · rw [if_neg q]; exact h4 i
/-- the tape copied so far behind the texts -/
def CT (z z' : xMem) (c i : Nat) : Prop := (∀ q, q ≠ 1 → z'.1 q = z.1 q) ∧ ∀ j, z'.1 1 j = if 160 * c ≤ j ∧ j < 160 * c + i then z.1 3 (j - 160 * c) else z.1 1 j
theorem CT_0 (z : xMem) (c : Nat) : CT z z c 0 := ⟨fun _ _ => rfl, fun j => by rw [if_neg (by omega)]⟩
theorem CT_1 {z b : xMem} {c i : Nat} (h : CT z b c i) : CT z (mPut b 1 (160 * c + i) (b.1 3 i)) c (i + 1) := by
  refine ⟨fun q hq => (mPut_nq hq).trans (h.1 q hq), fun j => ?_⟩
  rw [mPut_rd, if_pos rfl, h.1 3 (by decide), h.2 j]
  by_cases e : j = 160 * c + i
  · rw [if_pos e, if_pos (by omega), e, show 160 * c + i - 160 * c = i by omega]
  · rw [if_neg e]
    by_cases e2 : 160 * c ≤ j ∧ j < 160 * c + i
    · rw [if_pos e2, if_pos (by omega)]
    · rw [if_neg e2, if_neg (by omega)]
theorem CT_rd {z b : xMem} {c i tn k : Nat} {tb : Nat → Nat} {x y : Int32} {j1 j2 : Nat} (h : CT z b c k) (hb : ∀ i, i < tn → z.1 3 i = nI (tb i)) (hk : tn ≤ k) (hi : i < tn) : (mPut (mPut b 2 j1 x) 0 j2 y).1 1 (160 * c + i) = nI (tb i) := by
  rw [mPut_nq (by decide), mPut_nq (by decide), h.2, if_pos (by omega), show 160 * c + i - 160 * c = i by omega]
  exact hb i hi
/-- what a text read from the tape leaves -/
def KX (z z' : xMem) (c tn : Nat) : Prop := z'.1 0 3 = z.1 0 3 ∧ z'.1 0 6 = 0 ∧ (∀ q, q ≠ 0 → q ≠ 1 → q ≠ 2 → z'.1 q = z.1 q) ∧ (∀ j, (j ≠ 3 ∧ j ≠ 6 ∧ ¬ (22 ≤ j ∧ j ≤ 30)) → z'.1 0 j = z.1 0 j) ∧ (∀ j, z'.1 2 j = if j = c then nI tn else z.1 2 j) ∧ (∀ j, j < 160 * c → z'.1 1 j = z.1 1 j) ∧ ∀ i, i < tn → z'.1 1 (160 * c + i) = z.1 3 i
theorem tx_K {z b zr : xMem} {c k tn : Nat} (h : CT z b c k) (hK : pK2 (mPut (mPut b 2 c (nI tn)) 0 6 0) zr) (hk : tn ≤ k) : KX z zr c tn := by
  refine ⟨?_, ?_, fun q h0 h1 h2 => ?_, fun j hj => ?_, fun j => ?_, fun j hj => ?_, fun i hi => ?_⟩
  · rw [hK.2 3 (by omega), mPut_nj (by decide), mPut_nq (by decide), h.1 0 (by decide)]
  · rw [hK.2 6 (by omega)]; exact mPut_at
  · rw [hK.1 q h0, mPut_nq h0, mPut_nq h2, h.1 q h1]
  · rw [hK.2 j (by omega), mPut_nj (by omega), mPut_nq (by decide), h.1 0 (by decide)]
  · rw [hK.1 2 (by decide), mPut_nq (by decide), mPut_rd, if_pos rfl, h.1 2 (by decide)]
  · rw [hK.1 1 (by decide), mPut_nq (by decide), mPut_nq (by decide), h.2 j, if_neg (by omega)]
  · rw [hK.1 1 (by decide), mPut_nq (by decide), mPut_nq (by decide), h.2, if_pos (by omega), show 160 * c + i - 160 * c = i by omega]
/-- nothing changed but texts, the tape and scratch -/
def KT (z z' : xMem) : Prop := (∀ q, 3 ≤ q → z'.1 q = z.1 q) ∧ ∀ j, (j ≠ 3 ∧ j ≠ 6 ∧ ¬ (22 ≤ j ∧ j ≤ 30)) → z'.1 0 j = z.1 0 j
theorem KT_of {z z' : xMem} {c tn : Nat} (h : KX z z' c tn) : KT z z' := ⟨fun q hq => h.2.2.1 q (by omega) (by omega) (by omega), h.2.2.2.1⟩
theorem KT_3 {z z' : xMem} {x : Int32} (h : KT z z') : KT z (mPut z' 0 3 x) := ⟨fun q hq => (mPut_nq (by omega)).trans (h.1 q hq), fun j hj => (mPut_nj (by omega)).trans (h.2 j hj)⟩
theorem TP_0 {z : xMem} {tb : Nat → Nat} (h : z.1 0 6 = 0) (hb : ∀ i, tb i < 256) : TP z 0 tb := ⟨h, by omega, fun i hi => absurd hi (Nat.not_lt_zero i), hb⟩
theorem TP_0p {z : xMem} {tb : Nat → Nat} {x : Int32} (h : z.1 0 6 = 0) (hb : ∀ i, tb i < 256) : TP (mPut z 0 3 x) 0 tb := ⟨(mPut_nj (by decide)).trans h, by omega, fun i hi => absurd hi (Nat.not_lt_zero i), hb⟩
def sTcU (tc : Nat → sTc) (c : Nat) (t : sTc) : Nat → sTc := fun i => if i = c then t else tc i
theorem TM_KTa {z z' : xMem} {cnt tn : Nat} {tc : Nat → sTc} (h : KX z z' cnt tn) (ht : TM z cnt tc) : TM z' cnt tc := by
  obtain ⟨h1, h2, h3, h4⟩ := ht
  refine ⟨h.1.trans h1, h2, h3, fun t hl => ?_⟩
  obtain ⟨bt, n, p, a1, a2, a3, a4, a5⟩ := h4 t hl
  exact ⟨bt, n, p, by rw [h.2.2.2.2.1, if_neg (by omega)]; exact a1, a2, fun i hi => by rw [h.2.2.2.2.2.1 _ (by omega)]; exact a3 i hi, a4, a5⟩
theorem TM_KTb {z z' : xMem} {c cnt tn : Nat} {tc : Nat → sTc} {tb : Nat → Nat} (hc : c = cnt) (h : KX z z' c tn) (ht : TM z cnt tc) (hl6 : c < 6) (hn : tn ≤ 160) (hb : (∀ i, i < tn → z.1 3 i = nI (tb i)) ∧ ∀ i, tb i < 256) (h1 : (pTx tb tn 300).1 = 1) : TM (mPut z' 0 3 (nI (c + 1))) (cnt + 1) (sTcU tc cnt (pTx tb tn 300).2.1) := by
  subst hc
  obtain ⟨g1, g2, g3, g4⟩ := TM_KTa h ht
  refine ⟨mPut_at, by omega, by omega, fun t hl => ?_⟩
  by_cases e : t = c
  · subst e
    refine ⟨tb, tn, (pTx tb tn 300).2.2, ?_, hn, fun i hi => ?_, hb.2, ?_⟩
    · rw [mPut_nq (by decide), h.2.2.2.2.1, if_pos rfl]
    · rw [mPut_nq (by decide), h.2.2.2.2.2.2 i hi]; exact hb.1 i hi
    · rw [sTcU, if_pos rfl, ← h1]
  · obtain ⟨bt, n, p, a1, a2, a3, a4, a5⟩ := g4 t (by omega)
    refine ⟨bt, n, p, ?_, a2, fun i hi => ?_, a4, ?_⟩
    · rw [mPut_nq (by decide)]; exact a1
    · rw [mPut_nq (by decide)]; exact a3 i hi
    · rw [sTcU, if_neg e]; exact a5
set_option maxHeartbeats 4000000 in
set_option maxRecDepth 20000 in
theorem t_X6_feed (l : Launch) (d : Nat) (x : Int32) (z : xMem) (tn : Nat) (tb : Nat → Nat) (h : TP z tn tb) : XMi l (d + 1) yX6_feed cX6_feed 2 (some .int) shM [.ref 0, .int x] z (fun v z' => v = (sFeed tn tb x).1 ∧ TP z' (sFeed tn tb x).2.1 (sFeed tn tb x).2.2 ∧ KF z z') := by
  refine XM.of (by decide) (Nat.le_of_ble_eq_true rfl) (fun xp xe xs xm xar xbl xme xc xD xcs xad xAA xCC xhr => ?_)
  generalize xhQ : MQ xbl _ xar xs 0 0 xAA = xQ
  show ww xp l xe (xRm (d + 1)) xs xm xar xbl xme xc 2 xD xcs xad shM xAA xQ 0 [(0, .ref 0), (1, .int x)] [] z
  have h6 : z.1 0 6 = nI tn := h.1
  have ht := h.2.1
  refine ww_blk xCC okX6_feed 0 4 (ps := []) (pc' := 6) (lv' := [(0, .ref 0), (1, .int x)]) (st' := [.long 255, .long 0, .long x.toInt64]) (z' := z) rfl trivial ?_
  refine ww_callSNz xCC okX6_feed 4 (ix := 82) (t_X6_in l d x.toInt64 0 255 x.toInt 0 255 (Int32.toInt_toInt64 _) rfl rfl  _) (by omega) (by decide) xyX6_in xiX6_in (Or.inl (lw_gt_of (List.mem_of_getElem? (i := 962) (by decide +kernel)) rfl)) rfl (rest := []) rfl (Nat.le_of_ble_eq_true rfl) rfl (fun z1 h2 => ?_) (fun z1 h2 => ?_)
  · skip
    have h2 : 0 ≤ x.toInt ∧ x.toInt ≤ 255 := h2
    obtain ⟨b, hb, rfl⟩ := sNN (x := x) (n := 256) (by omega) (by omega)
    refine ww_br xCC okX6_feed 5 (P := 1 = 0) (t1 := 12) (t2 := 15) (r := []) rfl (fun q => absurd q (by decide)) (fun _ => ?_)
    refine ww_blk xCC okX6_feed 8 3 (ps := []) (pc' := 22) (lv' := [(0, .ref 0), (1, .int (nI b))]) (st' := [.int 160, .int (z.1 0 6)]) (z' := z) rfl trivial ?_
    rw [h6]
    refine ww_br xCC okX6_feed 11 (P := (nI tn) = 160) (t1 := 25) (t2 := 28) (r := []) rfl (fun c4 => ?_) (fun c4 => ?_)
    · skip
      replace c4 : tn = 160 := (sEQ (a := tn) (b := 160) (by omega) (by omega)).mp c4
      refine ww_blk xCC okX6_feed 12 1 (ps := []) (pc' := 27) (lv' := [(0, .ref 0), (1, .int (nI b))]) (st' := [.int (-4)]) (z' := z) rfl trivial ?_
      subst xhQ
      exact ww_iret xCC okX6_feed 13 xhr rfl rfl ⟨_, rfl, (by rw [sFeed_f (by omega) (by omega)]; exact ⟨rfl, h, KF_rf z⟩)⟩
    · skip
      replace c4 : ¬ tn = 160 := fun q => c4 ((sEQ (a := tn) (b := 160) (by omega) (by omega)).mpr q)
      refine ww_blk xCC okX6_feed 14 14 (ps := [vp_in (z.1 0 6) 160]) (pc' := 52) (lv' := [(0, .ref 0), (1, .int (nI b))]) (st' := [.int ((z.1 0 6) + 1)]) (z' := (mPut (mPut z 3 (z.1 0 6).toNatClampNeg (nI b)) 0 6 ((z.1 0 6) + 1))) rfl (by rw [h6]; exact vp_in_nI (by omega) (by decide)) ?_
      rw [h6]
      rw [show nI tn + (1 : Int32) = nI (tn + 1) from nI_add tn 1]
      rw [sCL (n := tn) (by omega)]
      subst xhQ
      exact ww_iret xCC okX6_feed 28 xhr rfl rfl ⟨_, rfl, (by rw [sFeed_y (by omega) (by omega)]; exact ⟨rfl, TP_1 h (by omega) (by omega), KF_1⟩)⟩
  · skip
    have h2 : ¬ (0 ≤ x.toInt ∧ x.toInt ≤ 255) := h2
    refine ww_br xCC okX6_feed 5 (P := 0 = 0) (t1 := 12) (t2 := 15) (r := []) rfl (fun _ => ?_) (fun q => absurd (by decide) q)
    refine ww_blk xCC okX6_feed 6 1 (ps := []) (pc' := 14) (lv' := [(0, .ref 0), (1, .int x)]) (st' := [.int (-2)]) (z' := z) rfl trivial ?_
    subst xhQ
    exact ww_iret xCC okX6_feed 7 xhr rfl rfl ⟨_, rfl, (by rw [sFeed_n (by omega)]; exact ⟨rfl, h, KF_rf z⟩)⟩

set_option maxHeartbeats 4000000 in
set_option maxRecDepth 20000 in
theorem t_X6_text (l : Launch) (d : Nat) (z : xMem) (cnt tn : Nat) (tb : Nat → Nat) (tc : Nat → sTc) (ht9 : TM z cnt tc) (h : TP z tn tb) : XMi l (d + 308) yX6_text cX6_text 2 (some .int) shM [.ref 0] z (fun v z' => (cnt = 6 ∧ v = -4 ∧ z' = z) ∨ (cnt < 6 ∧ TP z' 0 tb ∧ KT z z' ∧ (((pTx tb tn 300).1 = 1 ∧ v = nI cnt ∧ TM z' (cnt + 1) (sTcU tc cnt (pTx tb tn 300).2.1)) ∨ ((pTx tb tn 300).1 ≠ 1 ∧ v = -100 - nI (pTx tb tn 300).2.2 ∧ TM z' cnt tc)))) := by
  refine XM.of (by decide) (Nat.le_of_ble_eq_true rfl) (fun xp xe xs xm xar xbl xme xc xD xcs xad xAA xCC xhr => ?_)
  generalize xhQ : MQ xbl _ xar xs 0 0 xAA = xQ
  show ww xp l xe (xRm (d + 308)) xs xm xar xbl xme xc 2 xD xcs xad shM xAA xQ 0 [(0, .ref 0)] [] z
  obtain ⟨c, hc⟩ : ∃ c, c = cnt := ⟨_, rfl⟩
  have h6 : z.1 0 6 = nI tn := h.1
  have ht := h.2.1
  have hby := h.2.2.1
  have h3 : z.1 0 3 = nI c := by rw [hc]; exact ht9.1
  have hc6 : c ≤ 6 := by rw [hc]; exact ht9.2.2.1
  refine ww_blk xCC okX6_text 0 3 (ps := []) (pc' := 6) (lv' := [(0, .ref 0)]) (st' := [.int 6, .int (z.1 0 3)]) (z' := z) rfl trivial ?_
  rw [h3]
  refine ww_br xCC okX6_text 3 (P := (nI c) = 6) (t1 := 9) (t2 := 12) (r := []) rfl (fun c1 => ?_) (fun c1 => ?_)
  · skip
    replace c1 : c = 6 := (sEQ (a := c) (b := 6) (by omega) (by omega)).mp c1
    refine ww_blk xCC okX6_text 4 1 (ps := []) (pc' := 11) (lv' := [(0, .ref 0)]) (st' := [.int (-4)]) (z' := z) rfl trivial ?_
    subst xhQ
    exact ww_iret xCC okX6_text 5 xhr rfl rfl ⟨_, rfl, (Or.inl ⟨by omega, rfl, rfl⟩)⟩
  · skip
    replace c1 : ¬ c = 6 := fun q => c1 ((sEQ (a := c) (b := 6) (by omega) (by omega)).mpr q)
    refine ww_blk xCC okX6_text 6 2 (ps := []) (pc' := 14) (lv' := [(1, .int 0), (0, .ref 0)]) (st' := []) (z' := z) rfl trivial ?_
    have L14 : ∀ (n14 : Nat) (i : Nat) (zL : xMem), tn - i < n14 → (i ≤ tn) → (CT z zL c i) → ww xp l xe (xRm (d + 308)) xs xm xar xbl xme xc 2 xD xcs xad shM xAA xQ 14 [(1, .int (nI i)), (0, .ref 0)] [] zL := by
      intro n14
      induction n14 with
      | zero =>
        intro i zL hmu14
        exact absurd hmu14 (Nat.not_lt_zero _)
      | succ n14 ih14 =>
        intro i zL hmu14 e14_0 e14_1
        refine ww_blk xCC okX6_text 8 3 (ps := []) (pc' := 19) (lv' := [(1, .int (nI i)), (0, .ref 0)]) (st' := [.int (zL.1 0 6), .int (nI i)]) (z' := zL) rfl trivial ?_
        rw [show zL.1 0 6 = nI tn from (congrFun (e14_1.1 0 (by decide)) 6).trans h6]
        refine ww_br xCC okX6_text 11 (P := (nI tn) ≤ (nI i)) (t1 := 49) (t2 := 22) (r := []) rfl (fun c2 => ?_) (fun c2 => ?_)
        · skip
          replace c2 : tn ≤ i := (sLE (a := tn) (b := i) (by omega) (by omega)).mp c2
          refine ww_blk xCC okX6_text 27 14 (ps := [vp_in (zL.1 0 3) 6]) (pc' := 73) (lv' := [(1, .int (nI i)), (0, .ref 0)]) (st' := [.int 0, .int (zL.1 0 3), .ref 0]) (z' := (mPut (mPut zL 2 (zL.1 0 3).toNatClampNeg (zL.1 0 6)) 0 6 0)) rfl (by rw [show zL.1 0 3 = nI c from (congrFun (e14_1.1 0 (by decide)) 3).trans h3]; first | (rw [show (160 : Int32) * nI c = nI (160 * c) from pk_mul 160 c, nI_add (160 * c) i]; exact vp_in_nI (by omega) (by decide)) | exact vp_in_nI (by omega) (by decide)) ?_
          rw [show zL.1 0 3 = nI c from (congrFun (e14_1.1 0 (by decide)) 3).trans h3]
          rw [sCL (n := c) (by omega)]
          rw [show zL.1 0 6 = nI tn from (congrFun (e14_1.1 0 (by decide)) 6).trans h6]
          refine ww_callVIi xCC okX6_text 41 (ix := 252) (t_X6_read l d tb tn c 0 300 (mPut (mPut zL 2 c (nI tn)) 0 6 0) (pTx tb tn 300).1 (pTx tb tn 300).2.1.1 (pTx tb tn 300).2.1.2.1 (pTx tb tn 300).2.1.2.2 (pTx tb tn 300).2.2 (by omega) (by decide) (by simp [mPut_rd]) ht (fun i hi => CT_rd e14_1 hby (by omega) hi) h.2.2.2 rfl (pTx_ne ht)) (by omega) (by decide) xyX6_read xiX6_read (Or.inl (lw_gt_of (List.mem_of_getElem? (i := 1011) (by decide +kernel)) rfl)) rfl rfl rfl (rest := []) rfl (Nat.le_of_ble_eq_true rfl) rfl (fun vR zR hR => ?_)
          have hK := tx_K e14_1 hR.1 (by omega)
          refine ww_blk xCC okX6_text 42 3 (ps := []) (pc' := 81) (lv' := [(1, .int vR), (0, .ref 0)]) (st' := [.int (zR.1 0 29)]) (z' := zR) rfl trivial ?_
          refine ww_br xCC okX6_text 45 (P := (zR.1 0 29) = 0) (t1 := 92) (t2 := 84) (r := []) rfl (fun c3 => ?_) (fun c3 => ?_)
          · skip
            have hq1 := (hR.2.resolve_right (fun q => absurd (q.2.1.symm.trans c3) (by decide))).1
            refine ww_blk xCC okX6_text 51 10 (ps := []) (pc' := 108) (lv' := [(1, .int vR), (0, .ref 0)]) (st' := [.int (((zR.1 0 3) + 1) - 1)]) (z' := (mPut zR 0 3 ((zR.1 0 3) + 1))) rfl trivial ?_
            rw [show zR.1 0 3 = nI c from hK.1.trans h3]
            rw [show nI c + (1 : Int32) = nI (c + 1) from nI_add c 1]
            rw [nI_pred c]
            subst xhQ
            exact ww_iret xCC okX6_text 61 xhr rfl rfl ⟨_, rfl, (Or.inr ⟨by omega, TP_0p hK.2.1 h.2.2.2, KT_3 (KT_of hK), Or.inl ⟨hq1, by rw [hc], TM_KTb hc hK ht9 (by omega) ht h.2.2 hq1⟩⟩)⟩
          · skip
            have hq2 := hR.2.resolve_left (fun q => c3 q.2.1)
            refine ww_blk xCC okX6_text 46 4 (ps := []) (pc' := 91) (lv' := [(1, .int vR), (0, .ref 0)]) (st' := [.int ((-100) - (zR.1 0 30))]) (z' := zR) rfl trivial ?_
            rw [show zR.1 0 30 = nI (pTx tb tn 300).2.2 from hq2.2.2]
            subst xhQ
            exact ww_iret xCC okX6_text 50 xhr rfl rfl ⟨_, rfl, (Or.inr ⟨by omega, TP_0 hK.2.1 h.2.2.2, KT_of hK, Or.inr ⟨by rw [hq2.1]; decide, rfl, TM_KTa (hc ▸ hK) ht9⟩⟩)⟩
        · skip
          replace c2 : ¬ tn ≤ i := fun q => c2 ((sLE (a := tn) (b := i) (by omega) (by omega)).mpr q)
          refine ww_blk xCC okX6_text 12 15 (ps := [vp_in (nI i) 160, vp_in ((160 * (zL.1 0 3)) + (nI i)) 960]) (pc' := 14) (lv' := [(1, .int ((nI i) + 1)), (0, .ref 0)]) (st' := []) (z' := (mPut zL 1 ((160 * (zL.1 0 3)) + (nI i)).toNatClampNeg (zL.1 3 (nI i).toNatClampNeg))) rfl ⟨(vp_in_nI (by omega) (by decide)), (by rw [show zL.1 0 3 = nI c from (congrFun (e14_1.1 0 (by decide)) 3).trans h3]; first | (rw [show (160 : Int32) * nI c = nI (160 * c) from pk_mul 160 c, nI_add (160 * c) i]; exact vp_in_nI (by omega) (by decide)) | exact vp_in_nI (by omega) (by decide))⟩ ?_
          rw [show nI i + (1 : Int32) = nI (i + 1) from nI_add i 1]
          rw [sCL (n := i) (by omega)]
          rw [show zL.1 0 3 = nI c from (congrFun (e14_1.1 0 (by decide)) 3).trans h3]
          rw [show (160 : Int32) * nI c = nI (160 * c) from pk_mul 160 c]
          rw [nI_add (160 * c) i]
          rw [sCL (n := (160 * c + i)) (by omega)]
          exact ww_cut [0, 1] (xlc rfl (xlc rfl rfl)) rfl rfl (ih14 (i + 1) (mPut zL 1 (160 * c + i) (zL.1 3 i)) (by omega) (by omega) (CT_1 e14_1))
    exact ww_cut [0, 1] (xlc (congrArg Value.int (show (0 : Int32) = nI 0 from rfl)) (xlc rfl rfl)) rfl rfl (L14 (tn - 0 + 1) 0 z (Nat.lt_succ_self _) (by omega) (CT_0 z c))
