/-! the class's reader: the grammar -/
/-- the codes written -/
def WR (z : xMem) (ws : List Nat) : Prop := z.1 0 6 = nI ws.length ∧ ∀ i, i < ws.length → z.1 2 i = nI (ws.getD i 0)
def gX (z : xMem) (bt : Nat → Nat) (n pos : Nat) (ws : List Nat) : Prop := TQ z n bt ∧ tkX z bt n pos ∧ pos ≤ n ∧ WR z ws ∧ ws.length ≤ pos
/-- nothing changed but the token at hand and what is written -/
def KC (z z' : xMem) : Prop := (∀ q, q ≠ 0 → q ≠ 2 → z'.1 q = z.1 q) ∧ ∀ j, j < 2 → z'.1 0 j = z.1 0 j
theorem KC_rf (z : xMem) : KC z z := ⟨fun _ _ _ => rfl, fun _ _ => rfl⟩
theorem KC_tr {a b c : xMem} (h1 : KC a b) (h2 : KC b c) : KC a c := ⟨fun q h h' => (h2.1 q h h').trans (h1.1 q h h'), fun j h => (h2.2 j h).trans (h1.2 j h)⟩
theorem KC_3 {a b : xMem} (h : K3 a b) : KC a b := ⟨fun q h0 _ => h.1 q h0, fun j hj => h.2 j (by omega)⟩
theorem KC_w {z : xMem} {i : Nat} {x y : Int32} : KC z (mPut (mPut z 2 i x) 0 6 y) := ⟨fun q h0 h2 => (mPut_nq h0).trans (mPut_nq h2), fun j hj => (mPut_nj (by omega)).trans (congrFun (mPut_nq (by decide)) j)⟩
theorem pTok_ge {bt : Nat → Nat} {n pos : Nat} (hp : pos ≤ n) : pos ≤ (pTok bt n pos).2.2 := by
  by_cases h : (pTok bt n pos).1 = 10021
  · by_cases h2 : n ≤ pRun pBl bt n pos
    · rw [pTok_end h2]
      exact pRun_ge pBl bt n pos
    · have h3 := (pTok_le (bt := bt) hp).2.1
      rw [pTok_a] at h3
      by_cases hl : pLe (bt (pRun pBl bt n pos)) = true
      · rw [pTok_word rfl (by omega) hl]
        exact Nat.le_trans h3 (pRun_ge pLe bt n _)
      · by_cases hd : pDi (bt (pRun pBl bt n pos)) = true
        · rw [pTok_dig rfl (by omega) (by simpa using hl) hd]
          exact Nat.le_trans h3 (pRun_ge pDi bt n _)
        · rw [pTok_sig rfl (by omega) (by simpa using hl) (by simpa using hd)]
          exact Nat.le_succ_of_le h3
  · exact Nat.le_of_succ_le (pTok_gt hp h).1
theorem pTok_n (bt : Nat → Nat) (n : Nat) : (pTok bt n n).1 = 10021 := by
  rw [pTok_end (by rw [pRun_end (by omega)]; exact Nat.le_refl n)]
theorem pTok_lt (bt : Nat → Nat) (n pos : Nat) : (pTok bt n pos).1 < 20000 := by
  by_cases h : n ≤ pRun pBl bt n pos
  · rw [pTok_end h]; show 10021 < 20000; decide
  · by_cases hl : pLe (bt (pRun pBl bt n pos)) = true
    · rw [pTok_word rfl (by omega) hl]
      have := pWd_rng bt (pRun pBl bt n pos) (pRun pLe bt n (pRun pBl bt n pos))
      show pWd bt (pRun pBl bt n pos) (pRun pLe bt n (pRun pBl bt n pos)) pWords < 20000
      omega
    · by_cases hd : pDi (bt (pRun pBl bt n pos)) = true
      · rw [pTok_dig rfl (by omega) (by simpa using hl) hd]
        show (if 4 < pRun pDi bt n (pRun pBl bt n pos) - pRun pBl bt n pos then 10022 else pVal bt (pRun pBl bt n pos) (pRun pDi bt n (pRun pBl bt n pos) - pRun pBl bt n pos)) < 20000
        split
        · decide
        · rename_i h4
          have h5 := pVal_lt bt (pRun pBl bt n pos) (pRun pDi bt n (pRun pBl bt n pos) - pRun pBl bt n pos) (fun i hi => by
            have := pRun_all (P := pDi) (bt := bt) (n := n) (n - pRun pBl bt n pos) (pRun pBl bt n pos) (Nat.le_refl _) (pRun pBl bt n pos + i) (by omega) (by omega)
            exact (pDi_iff.mp this).2)
          have h6 : 10 ^ (pRun pDi bt n (pRun pBl bt n pos) - pRun pBl bt n pos) ≤ 10 ^ 4 := Nat.pow_le_pow_right (by decide) (by omega)
          omega
      · rw [pTok_sig rfl (by omega) (by simpa using hl) (by simpa using hd)]
        show pSg (bt (pRun pBl bt n pos)) < 20000
        unfold pSg
        repeat' split
        all_goals omega
theorem gX_step {z z' : xMem} {bt : Nat → Nat} {n pos : Nat} {ws : List Nat} (h : gX z bt n pos ws) (hs : tkX z' bt n (pTok bt n pos).2.2 ∧ K3 z z') : gX z' bt n (pTok bt n pos).2.2 ws :=
  ⟨TQ_K hs.2 h.1, hs.1, (pTok_le h.2.2.1).1, ⟨(hs.2.2 6 (by omega)).trans h.2.2.2.1.1, fun i hi => by rw [hs.2.1 2 (by decide)]; exact h.2.2.2.1.2 i hi⟩, Nat.le_trans h.2.2.2.2 (pTok_ge h.2.2.1)⟩
theorem gX_write {z : xMem} {bt : Nat → Nat} {n pos c : Nat} {ws : List Nat} (h : gX z bt n pos ws) (hl : ws.length + 1 ≤ pos) : gX (mPut (mPut z 2 ws.length (nI c)) 0 6 (nI (ws.length + 1))) bt n pos (ws ++ [c]) := by
  obtain ⟨⟨a1, a2, a3, a4⟩, ⟨b1, b2, b3⟩, hp, ⟨c1, c2⟩, hl0⟩ := h
  refine ⟨⟨?_, a2, fun i hi => ?_, a4⟩, ⟨?_, ?_, ?_⟩, hp, ⟨?_, fun i hi => ?_⟩, ?_⟩
  · simp [mPut_rd, a1]
  · simp [mPut_rd, a3 i hi]
  · simp [mPut_rd, b1]
  · simp [mPut_rd, b2]
  · simp [mPut_rd, b3]
  · rw [mPut_at, List.length_append]; rfl
  · rw [List.length_append, List.length_singleton] at hi
    rw [mPut_nq (by decide), mPut_rd, if_pos rfl]
    by_cases e : i = ws.length
    · rw [if_pos e, e, gd_r (Nat.le_refl _), Nat.sub_self]
      rfl
    · rw [if_neg e, gd_l (by omega)]
      exact c2 i (by omega)
  · rw [List.length_append]; exact hl
theorem pG_len (bt : Nat → Nat) (n : Nat) : ∀ f m o pos cs p, m ∈ [0, 1, 2, 3, 4, 5, 6, 7, 10, 11, 14, 15] → pos ≤ n → pG bt n f m o pos = (1, cs, p) → p ≤ n ∧ pos + (if m < 10 then 1 else 0) ≤ p ∧ cs.length + pos ≤ p
  | 0, m, o, pos, cs, p, _, _, h => by simp only [pG, Prod.mk.injEq] at h; exact absurd h.1 (by decide)
  | f + 1, m, o, pos, cs, p, hm, hp, h => by
    have ih := pG_len bt n f
    have hch : ∀ sub rest, (m, sub, rest) ∈ [(0, 1, 10), (1, 2, 11), (4, 5, 14), (5, 6, 15)] → p ≤ n ∧ pos + (if m < 10 then 1 else 0) ≤ p ∧ cs.length + pos ≤ p := by
      intro sub rest hsr
      obtain ⟨g, t1, c1, p1, hg, h1, ht1, h2⟩ := pG_ch hsr h (by decide)
      have hgf : g = f := by omega
      subst hgf
      obtain ⟨e1, c2, h4, h5⟩ := h2.resolve_left (fun q => absurd q.2.1 (by decide))
      rw [e1] at h1
      have hs : m < 10 ∧ sub < 10 ∧ ¬ rest < 10 ∧ sub ∈ [0, 1, 2, 3, 4, 5, 6, 7, 10, 11, 14, 15] ∧ rest ∈ [0, 1, 2, 3, 4, 5, 6, 7, 10, 11, 14, 15] := by
        simp only [List.mem_cons, Prod.mk.injEq, List.not_mem_nil, or_false] at hsr
        rcases hsr with ⟨rfl, rfl, rfl⟩ | ⟨rfl, rfl, rfl⟩ | ⟨rfl, rfl, rfl⟩ | ⟨rfl, rfl, rfl⟩ <;> decide
      have i1 := ih sub o pos c1 p1 hs.2.2.2.1 hp h1
      have i2 := ih rest o p1 c2 p hs.2.2.2.2 i1.1 h4
      rw [if_pos hs.2.1] at i1
      rw [if_neg hs.2.2.1] at i2
      rw [h5 rfl, if_pos hs.1, List.length_append]
      omega
    have hmo : ∀ sub, (m, sub) ∈ [(10, 1), (11, 2), (14, 5), (15, 6)] → p ≤ n ∧ pos + (if m < 10 then 1 else 0) ≤ p ∧ cs.length + pos ≤ p := by
      intro sub hsr
      obtain ⟨g, hg, h1⟩ := pG_mo hsr h (by decide)
      have hgf : g = f := by omega
      subst hgf
      have hs : ¬ m < 10 ∧ sub < 10 ∧ sub ∈ [0, 1, 2, 3, 4, 5, 6, 7, 10, 11, 14, 15] := by
        simp only [List.mem_cons, Prod.mk.injEq, List.not_mem_nil, or_false] at hsr
        rcases hsr with ⟨rfl, rfl⟩ | ⟨rfl, rfl⟩ | ⟨rfl, rfl⟩ | ⟨rfl, rfl⟩ <;> decide
      rcases h1 with ⟨-, -, q1, q2⟩ | ⟨hop, t1, c1, p1, h2, ht1, h3⟩
      · rw [q1, q2, if_neg hs.1, List.length_nil]; omega
      · obtain ⟨e1, c2, h5, h6⟩ := h3.resolve_left (fun q => absurd q.2.1 (by decide))
        rw [e1] at h2
        have hg := pTok_gt hp (pOp_ne _ _ hop)
        have i1 := ih sub o _ c1 p1 hs.2.2 hg.2 h2
        have i2 := ih m o p1 c2 p hm i1.1 h5
        rw [if_pos hs.2.1] at i1
        rw [if_neg hs.1] at i2 ⊢
        rw [h6 rfl, List.length_append, List.length_cons]
        omega
    simp only [List.mem_cons, List.not_mem_nil, or_false] at hm
    rcases hm with rfl | rfl | rfl | rfl | rfl | rfl | rfl | rfl | rfl | rfl | rfl | rfl
    · exact hch 1 10 (by decide)
    · exact hch 2 11 (by decide)
    · obtain ⟨g, hg, h1⟩ := pG_not h (by decide)
      have hgf : g = f := by omega
      subst hgf
      rcases h1 with ⟨ht, h1⟩ | ⟨-, h1⟩
      · obtain ⟨-, t1, x1, p1, h2, -, h3⟩ := h1.resolve_left (fun q => absurd q.2.1 (by decide))
        obtain ⟨e1, -, e2, e3⟩ := h3.resolve_left (fun q => absurd q.2.1 (by decide))
        rw [e1] at h2
        have hg := pTok_gt hp (show (pTok bt n pos).1 ≠ 10021 by omega)
        have i1 := ih 2 _ _ x1 p1 (by decide) hg.2 h2
        rw [if_pos (by decide)] at i1 ⊢
        rw [e2, e3, List.length_append, List.length_singleton]
        omega
      · exact ih 3 o pos cs p (by decide) hp h1
    · obtain ⟨g, t1, x1, p1, hg, h1, -, h2⟩ := pG_cmp h (by decide)
      have hgf : g = f := by omega
      subst hgf
      obtain ⟨e1, h3⟩ := h2.resolve_left (fun q => absurd q.2.1 (by decide))
      rw [e1] at h1
      have i1 := ih 4 o pos x1 p1 (by decide) hp h1
      rw [if_pos (by decide)] at i1 ⊢
      rcases h3 with ⟨-, -, -, e2, e3⟩ | ⟨ht, t2, x2, p2, h4, -, h5⟩
      · rw [e2, e3]; exact i1
      · obtain ⟨e3, -, e4, e5⟩ := h5.resolve_left (fun q => absurd q.2.1 (by decide))
        rw [e3] at h4
        have hg := pTok_gt i1.1 (show (pTok bt n p1).1 ≠ 10021 by omega)
        have i2 := ih 4 o _ x2 p2 (by decide) hg.2 h4
        rw [if_pos (by decide)] at i2
        rw [e4, e5, List.length_append, List.length_append, List.length_singleton]
        omega
    · exact hch 5 14 (by decide)
    · exact hch 6 15 (by decide)
    · obtain ⟨g, hg, h1⟩ := pG_min h (by decide)
      have hgf : g = f := by omega
      subst hgf
      rcases h1 with ⟨ht, h1⟩ | ⟨-, h1⟩
      · obtain ⟨-, t1, x1, p1, h2, -, h3⟩ := h1.resolve_left (fun q => absurd q.2.1 (by decide))
        obtain ⟨e1, -, e2, e3⟩ := h3.resolve_left (fun q => absurd q.2.1 (by decide))
        rw [e1] at h2
        have hg := pTok_gt hp (show (pTok bt n pos).1 ≠ 10021 by omega)
        have i1 := ih 6 _ _ x1 p1 (by decide) hg.2 h2
        rw [if_pos (by decide)] at i1 ⊢
        rw [e2, e3, List.length_append, List.length_singleton]
        omega
      · exact ih 7 o pos cs p (by decide) hp h1
    · obtain ⟨g, hg, h1⟩ := pG_one h (by decide)
      have hgf : g = f := by omega
      subst hgf
      rw [if_pos (by decide)]
      rcases h1 with ⟨ht, -, e2, e3⟩ | ⟨ht, h1⟩ | ⟨-, -, e, -⟩
      · have hg := pTok_gt hp (show (pTok bt n pos).1 ≠ 10021 by omega)
        rw [e2, e3, List.length_singleton]
        omega
      · obtain ⟨-, t1, x1, p1, h2, -, h3⟩ := h1.resolve_left (fun q => absurd q.2.1 (by decide))
        obtain ⟨e1, h4⟩ := h3.resolve_left (fun q => absurd q.2.1 (by decide))
        obtain ⟨hc, -, e2, e3⟩ := h4.resolve_right (fun q => absurd q.2.1 (by decide))
        rw [e1] at h2
        have hg := pTok_gt hp (show (pTok bt n pos).1 ≠ 10021 by omega)
        have i1 := ih 0 _ _ x1 p1 (by decide) hg.2 h2
        rw [if_pos (by decide)] at i1
        have hg2 := pTok_gt i1.1 (show (pTok bt n p1).1 ≠ 10021 by omega)
        rw [e2, e3]
        omega
      · exact absurd e (by decide)
    · exact hmo 1 (by decide)
    · exact hmo 2 (by decide)
    · exact hmo 5 (by decide)
    · exact hmo 6 (by decide)
/-- a reading method of the class, at a fuel -/
def XG (l : Launch) (bt : Nat → Nat) (n : Nat) (y : MethodName) (cy : ByteArray) (maxL m f : Nat) : Prop := ∀ (d : Nat) (z : xMem) (o pos : Nat) (ws : List Nat) (tag : Nat) (cs : List Nat) (p : Nat), gX z bt n pos ws → pG bt n f m o pos = (tag, cs, p) → tag ≠ 0 → o ≤ 5 → XMz l (d + f + 9) y cy maxL (some .boolean) shT2 [.ref 0, .int (nI o)] z (fun z' => tag = 1 ∧ gX z' bt n p (ws ++ cs) ∧ KC z z') (fun z' => tag = 2 ∧ z'.1 0 2 = nI p ∧ KC z z')
set_option maxHeartbeats 4000000 in
set_option maxRecDepth 20000 in
theorem t_X3_either (l : Launch) (d : Nat) (bt : Nat → Nat) (n f : Nat) (ih : ∀ g, g < f → XG l bt n yX3_both cX3_both 3 1 g) (z : xMem) (o pos : Nat) (ws : List Nat) (tag : Nat) (cs : List Nat) (p : Nat) (hG : gX z bt n pos ws) (h : pG bt n f 0 o pos = (tag, cs, p)) (ht : tag ≠ 0) (ho : o ≤ 5) : XMz l (d + f + 9) yX3_either cX3_either 3 (some .boolean) shT2 [.ref 0, .int (nI o)] z (fun z' => tag = 1 ∧ gX z' bt n p (ws ++ cs) ∧ KC z z') (fun z' => tag = 2 ∧ z'.1 0 2 = nI p ∧ KC z z') := by
  refine XM.of (by decide) (Nat.le_of_ble_eq_true rfl) (fun xp xe xs xm xar xbl xme xc xD xcs xad xAA xCC xhr => ?_)
  generalize xhQ : MQ xbl _ xar xs 0 0 xAA = xQ
  show ww xp l xe (xRm (d + f + 9)) xs xm xar xbl xme xc 3 xD xcs xad shT2 xAA xQ 0 [(0, .ref 0), (1, .int (nI o))] [] z
  obtain ⟨g0, t1, c1, p1, hg0, h1, ht1, hc⟩ := pG_ch (m := 0) (sub := 1) (rest := 10) (by decide) h ht
  refine ww_blk xCC okX3_either 0 2 (ps := []) (pc' := 2) (lv' := [(0, .ref 0), (1, .int (nI o))]) (st' := [.int (nI o), .ref 0]) (z' := z) rfl trivial ?_
  refine ww_callVIz xCC okX3_either 2 (ix := 38) (ih g0 (by omega) (d + 0) z o pos ws t1 c1 p1 hG h1 ht1 ho) (by omega) (by decide) xyX3_both xiX3_both (Or.inl (lw_gt_of (List.mem_of_getElem? (i := 538) (by decide +kernel)) rfl)) rfl rfl rfl (rest := []) rfl (Nat.le_of_ble_eq_true rfl) rfl (fun zA hA => ?_) (fun zA hA => ?_)
  · skip
    obtain ⟨c2, hr, hcs⟩ := (hc.resolve_left (fun q => absurd (hA.1.symm.trans q.1) (by decide))).2
    have hGA : gX zA bt n p1 (ws ++ c1) := hA.2.1
    refine ww_br xCC okX3_either 3 (P := 1 = 0) (t1 := 8) (t2 := 10) (r := []) rfl (fun q => absurd q (by decide)) (fun _ => ?_)
    refine ww_blk xCC okX3_either 6 2 (ps := []) (pc' := 12) (lv' := [(2, .int 0), (0, .ref 0), (1, .int (nI o))]) (st' := []) (z' := zA) rfl trivial ?_
    have L12 : ∀ (n12 : Nat) (i : Nat) (g : Nat) (pos1 : Nat) (ws1 : List Nat) (c2 : List Nat) (zL : xMem), g < n12 → (g < f) → (gX zL bt n pos1 ws1) → (pG bt n g 10 o pos1 = (tag, c2, p)) → (tag = 1 → ws ++ cs = ws1 ++ c2) → (i ≤ pos1) → (KC z zL) → ww xp l xe (xRm (d + f + 9)) xs xm xar xbl xme xc 3 xD xcs xad shT2 xAA xQ 12 [(2, .int (nI i)), (0, .ref 0), (1, .int (nI o))] [] zL := by
      intro n12
      induction n12 with
      | zero =>
        intro i g pos1 ws1 c2 zL hmu12
        exact absurd hmu12 (Nat.not_lt_zero _)
      | succ n12 ih12 =>
        intro i g pos1 ws1 c2 zL hmu12 e12_0 e12_1 e12_2 e12_3 e12_4 e12_5
        have hpn := e12_1.2.2.1
        have hn160 := hG.1.2.1
        have hin : i ≤ 160 := by omega
        have htl := pTok_lt bt n pos1
        refine ww_blk xCC okX3_either 8 2 (ps := []) (pc' := 16) (lv' := [(2, .int (nI i)), (0, .ref 0), (1, .int (nI o))]) (st' := [.int 160, .int (nI i)]) (z' := zL) rfl trivial ?_
        refine ww_br xCC okX3_either 10 (P := 160 ≤ (nI i)) (t1 := 56) (t2 := 19) (r := []) rfl (fun c2 => ?_) (fun c2 => ?_)
        · skip
          replace c2 : 160 ≤ i := (sLE (a := 160) (b := i) (by omega) (by omega)).mp c2
          have hi160 := c2
          have hnq : ¬ ((pTok bt n pos1).1 = 10006) := by first | omega | (rw [show pos1 = n by omega, pTok_n]; decide)
          have hop : pOp 10 (pTok bt n pos1).1 = false := by simp only [pOp]; simp; omega
          obtain ⟨g1, hg1, hc1⟩ := pG_mo (m := 10) (sub := 1) (by decide) e12_2 ht
          obtain ⟨-, htag, hcn, hpn⟩ := hc1.resolve_right (fun q => absurd (hop.symm.trans q.1) (by decide))
          refine ww_blk xCC okX3_either 28 1 (ps := []) (pc' := 57) (lv' := [(2, .int (nI i)), (0, .ref 0), (1, .int (nI o))]) (st' := [.int 1]) (z' := zL) rfl trivial ?_
          subst xhQ
          exact ww_iret xCC okX3_either 29 xhr rfl (by decide) (Or.inl ⟨rfl, ⟨htag, (by rw [e12_3 htag, hcn, List.append_nil, hpn]; exact e12_1), e12_5⟩⟩)
        · skip
          replace c2 : ¬ 160 ≤ i := fun q => c2 ((sLE (a := 160) (b := i) (by omega) (by omega)).mpr q)
          have hi160 := c2
          refine ww_blk xCC okX3_either 11 3 (ps := []) (pc' := 26) (lv' := [(2, .int (nI i)), (0, .ref 0), (1, .int (nI o))]) (st' := [.int 10006, .int (zL.1 0 4)]) (z' := zL) rfl trivial ?_
          rw [show zL.1 0 4 = nI (pTok bt n pos1).1 from e12_1.2.1.2.2]
          refine ww_br xCC okX3_either 14 (P := (nI ((pTok bt n pos1).1)) = 10006) (t1 := 29) (t2 := 56) (r := []) rfl (fun c3 => ?_) (fun c3 => ?_)
          · skip
            replace c3 : ((pTok bt n pos1).1) = 10006 := (sEQ (a := ((pTok bt n pos1).1)) (b := 10006) (by omega) (by omega)).mp c3
            have hopq : (pTok bt n pos1).1 = 10006 := by omega
            have hop : pOp 10 (pTok bt n pos1).1 = true := by rw [hopq]; rfl
            obtain ⟨g1, hg1, hc1⟩ := pG_mo (m := 10) (sub := 1) (by decide) e12_2 ht
            obtain ⟨-, t2, x1, q1, hs2, ht2, hc2⟩ := hc1.resolve_left (fun q => absurd (hop.symm.trans q.1) (by decide))
            have hne := pOp_ne _ _ hop
            refine ww_blk xCC okX3_either 15 1 (ps := []) (pc' := 30) (lv' := [(2, .int (nI i)), (0, .ref 0), (1, .int (nI o))]) (st' := [.ref 0]) (z' := zL) rfl trivial ?_
            refine ww_callVIv xCC okX3_either 16 (ix := 28) (t_X3_step l (d + f) n _ bt zL e12_1.1 e12_1.2.1.2.1 (pTok_le e12_1.2.2.1).1) (by omega) (by decide) xyX3_step xiX3_step (Or.inl (lw_gt_of (List.mem_of_getElem? (i := 448) (by decide +kernel)) rfl)) rfl rfl rfl (rest := []) rfl (Nat.le_of_ble_eq_true rfl) rfl (fun zS hS => ?_)
            have hGS := gX_step e12_1 hS
            have hGSK := KC_3 hS.2
            refine ww_blk xCC okX3_either 17 2 (ps := []) (pc' := 35) (lv' := [(2, .int (nI i)), (0, .ref 0), (1, .int (nI o))]) (st' := [.int (nI o), .ref 0]) (z' := zS) rfl trivial ?_
            refine ww_callVIz xCC okX3_either 19 (ix := 38) (ih g1 (by omega) (d + 0) zS o (pTok bt n pos1).2.2 ws1 t2 x1 q1 hGS hs2 ht2 ho) (by omega) (by decide) xyX3_both xiX3_both (Or.inl (lw_gt_of (List.mem_of_getElem? (i := 538) (by decide +kernel)) rfl)) rfl rfl rfl (rest := []) rfl (Nat.le_of_ble_eq_true rfl) rfl (fun zB hB => ?_) (fun zB hB => ?_)
            · skip
              obtain ⟨c3, hr3, hcs3⟩ := (hc2.resolve_left (fun q => absurd (hB.1.symm.trans q.1) (by decide))).2
              have hlx := pG_len bt n g1 1 o _ x1 q1 (by decide) hGS.2.2.1 (by rw [hs2, hB.1])
              rw [if_pos (by decide)] at hlx
              have hgt := pTok_gt e12_1.2.2.1 hne
              have hl1 := e12_1.2.2.2.2
              have hlB := hB.2.1.2.2.2.2
              have hqn := hB.2.1.2.2.1
              have hn160 := hG.1.2.1
              refine ww_br xCC okX3_either 20 (P := 1 = 0) (t1 := 41) (t2 := 43) (r := []) rfl (fun q => absurd q (by decide)) (fun _ => ?_)
              refine ww_blk xCC okX3_either 23 2 (ps := []) (pc' := 47) (lv' := [(2, .int (nI i)), (0, .ref 0), (1, .int (nI o))]) (st' := [.int 10006, .ref 0]) (z' := zB) rfl trivial ?_
              refine ww_callVIv xCC okX3_either 25 (ix := 41) (t_X3_write l d 10006 (ws1 ++ x1).length zB hB.2.1.2.2.2.1.1 (by rw [List.length_append]; omega)) (by omega) (by decide) xyX3_write xiX3_write (Or.inl (lw_gt_of (List.mem_of_getElem? (i := 566) (by decide +kernel)) rfl)) rfl rfl rfl (rest := []) rfl (Nat.le_of_ble_eq_true rfl) rfl (fun zW hW => ?_)
              have hGW : gX zW bt n q1 (ws1 ++ x1 ++ [10006]) := by rw [hW]; exact gX_write hB.2.1 (by rw [List.length_append]; omega)
              have hWK : KC zB zW := by rw [hW]; exact KC_w
              refine ww_blk xCC okX3_either 26 2 (ps := []) (pc' := 12) (lv' := [(2, .int ((nI i) + 1)), (0, .ref 0), (1, .int (nI o))]) (st' := []) (z' := zW) rfl trivial ?_
              rw [show nI i + (1 : Int32) = nI (i + 1) from nI_add i 1]
              exact ww_cut [0, 1, 2] (xlc rfl (xlc rfl (xlc rfl rfl))) rfl rfl (ih12 (i + 1) g1 q1 (ws1 ++ x1 ++ [10006]) c3 zW (by omega) (by omega) hGW hr3 (fun q => by rw [e12_3 q, hcs3 q, hopq]; simp) (by omega) (KC_tr e12_5 (KC_tr hGSK (KC_tr hB.2.2 hWK))))
            · skip
              obtain ⟨-, htag, hp⟩ := hc2.resolve_right (fun q => absurd (hB.1.symm.trans q.1) (by decide))
              refine ww_br xCC okX3_either 20 (P := 0 = 0) (t1 := 41) (t2 := 43) (r := []) rfl (fun _ => ?_) (fun q => absurd (by decide) q)
              refine ww_blk xCC okX3_either 21 1 (ps := []) (pc' := 42) (lv' := [(2, .int (nI i)), (0, .ref 0), (1, .int (nI o))]) (st' := [.int 0]) (z' := zB) rfl trivial ?_
              subst xhQ
              exact ww_iret xCC okX3_either 22 xhr rfl (by decide) (Or.inr ⟨rfl, ⟨htag, (by rw [hp]; exact hB.2.1), KC_tr e12_5 (KC_tr hGSK hB.2.2)⟩⟩)
          · skip
            replace c3 : ¬ ((pTok bt n pos1).1) = 10006 := fun q => c3 ((sEQ (a := ((pTok bt n pos1).1)) (b := 10006) (by omega) (by omega)).mpr q)
            have hnq : ¬ ((pTok bt n pos1).1 = 10006) := by first | omega | (rw [show pos1 = n by omega, pTok_n]; decide)
            have hop : pOp 10 (pTok bt n pos1).1 = false := by simp only [pOp]; simp; omega
            obtain ⟨g1, hg1, hc1⟩ := pG_mo (m := 10) (sub := 1) (by decide) e12_2 ht
            obtain ⟨-, htag, hcn, hpn⟩ := hc1.resolve_right (fun q => absurd (hop.symm.trans q.1) (by decide))
            refine ww_blk xCC okX3_either 28 1 (ps := []) (pc' := 57) (lv' := [(2, .int (nI i)), (0, .ref 0), (1, .int (nI o))]) (st' := [.int 1]) (z' := zL) rfl trivial ?_
            subst xhQ
            exact ww_iret xCC okX3_either 29 xhr rfl (by decide) (Or.inl ⟨rfl, ⟨htag, (by rw [e12_3 htag, hcn, List.append_nil, hpn]; exact e12_1), e12_5⟩⟩)
    exact ww_cut [0, 1, 2] (xlc (congrArg Value.int (show (0 : Int32) = nI 0 from rfl)) (xlc rfl (xlc rfl rfl))) rfl rfl (L12 (g0 + 1) 0 g0 p1 (ws ++ c1) c2 zA (Nat.lt_succ_self _) (by omega) hGA hr (fun q => by rw [hcs q, List.append_assoc]) (Nat.zero_le _) hA.2.2)
  · skip
    obtain ⟨-, htag, hp⟩ := hc.resolve_right (fun q => absurd (hA.1.symm.trans q.1) (by decide))
    refine ww_br xCC okX3_either 3 (P := 0 = 0) (t1 := 8) (t2 := 10) (r := []) rfl (fun _ => ?_) (fun q => absurd (by decide) q)
    refine ww_blk xCC okX3_either 4 1 (ps := []) (pc' := 9) (lv' := [(0, .ref 0), (1, .int (nI o))]) (st' := [.int 0]) (z' := zA) rfl trivial ?_
    subst xhQ
    exact ww_iret xCC okX3_either 5 xhr rfl (by decide) (Or.inr ⟨rfl, ⟨htag, (by rw [hp]; exact hA.2.1), hA.2.2⟩⟩)

set_option maxHeartbeats 4000000 in
set_option maxRecDepth 20000 in
theorem t_X3_both (l : Launch) (d : Nat) (bt : Nat → Nat) (n f : Nat) (ih : ∀ g, g < f → XG l bt n yX3_negated cX3_negated 4 2 g) (z : xMem) (o pos : Nat) (ws : List Nat) (tag : Nat) (cs : List Nat) (p : Nat) (hG : gX z bt n pos ws) (h : pG bt n f 1 o pos = (tag, cs, p)) (ht : tag ≠ 0) (ho : o ≤ 5) : XMz l (d + f + 9) yX3_both cX3_both 3 (some .boolean) shT2 [.ref 0, .int (nI o)] z (fun z' => tag = 1 ∧ gX z' bt n p (ws ++ cs) ∧ KC z z') (fun z' => tag = 2 ∧ z'.1 0 2 = nI p ∧ KC z z') := by
  refine XM.of (by decide) (Nat.le_of_ble_eq_true rfl) (fun xp xe xs xm xar xbl xme xc xD xcs xad xAA xCC xhr => ?_)
  generalize xhQ : MQ xbl _ xar xs 0 0 xAA = xQ
  show ww xp l xe (xRm (d + f + 9)) xs xm xar xbl xme xc 3 xD xcs xad shT2 xAA xQ 0 [(0, .ref 0), (1, .int (nI o))] [] z
  obtain ⟨g0, t1, c1, p1, hg0, h1, ht1, hc⟩ := pG_ch (m := 1) (sub := 2) (rest := 11) (by decide) h ht
  refine ww_blk xCC okX3_both 0 2 (ps := []) (pc' := 2) (lv' := [(0, .ref 0), (1, .int (nI o))]) (st' := [.int (nI o), .ref 0]) (z' := z) rfl trivial ?_
  refine ww_callVIz xCC okX3_both 2 (ix := 45) (ih g0 (by omega) (d + 0) z o pos ws t1 c1 p1 hG h1 ht1 ho) (by omega) (by decide) xyX3_negated xiX3_negated (Or.inl (lw_gt_of (List.mem_of_getElem? (i := 542) (by decide +kernel)) rfl)) rfl rfl rfl (rest := []) rfl (Nat.le_of_ble_eq_true rfl) rfl (fun zA hA => ?_) (fun zA hA => ?_)
  · skip
    obtain ⟨c2, hr, hcs⟩ := (hc.resolve_left (fun q => absurd (hA.1.symm.trans q.1) (by decide))).2
    have hGA : gX zA bt n p1 (ws ++ c1) := hA.2.1
    refine ww_br xCC okX3_both 3 (P := 1 = 0) (t1 := 8) (t2 := 10) (r := []) rfl (fun q => absurd q (by decide)) (fun _ => ?_)
    refine ww_blk xCC okX3_both 6 2 (ps := []) (pc' := 12) (lv' := [(2, .int 0), (0, .ref 0), (1, .int (nI o))]) (st' := []) (z' := zA) rfl trivial ?_
    have L12 : ∀ (n12 : Nat) (i : Nat) (g : Nat) (pos1 : Nat) (ws1 : List Nat) (c2 : List Nat) (zL : xMem), g < n12 → (g < f) → (gX zL bt n pos1 ws1) → (pG bt n g 11 o pos1 = (tag, c2, p)) → (tag = 1 → ws ++ cs = ws1 ++ c2) → (i ≤ pos1) → (KC z zL) → ww xp l xe (xRm (d + f + 9)) xs xm xar xbl xme xc 3 xD xcs xad shT2 xAA xQ 12 [(2, .int (nI i)), (0, .ref 0), (1, .int (nI o))] [] zL := by
      intro n12
      induction n12 with
      | zero =>
        intro i g pos1 ws1 c2 zL hmu12
        exact absurd hmu12 (Nat.not_lt_zero _)
      | succ n12 ih12 =>
        intro i g pos1 ws1 c2 zL hmu12 e12_0 e12_1 e12_2 e12_3 e12_4 e12_5
        have hpn := e12_1.2.2.1
        have hn160 := hG.1.2.1
        have hin : i ≤ 160 := by omega
        have htl := pTok_lt bt n pos1
        refine ww_blk xCC okX3_both 8 2 (ps := []) (pc' := 16) (lv' := [(2, .int (nI i)), (0, .ref 0), (1, .int (nI o))]) (st' := [.int 160, .int (nI i)]) (z' := zL) rfl trivial ?_
        refine ww_br xCC okX3_both 10 (P := 160 ≤ (nI i)) (t1 := 56) (t2 := 19) (r := []) rfl (fun c2 => ?_) (fun c2 => ?_)
        · skip
          replace c2 : 160 ≤ i := (sLE (a := 160) (b := i) (by omega) (by omega)).mp c2
          have hi160 := c2
          have hnq : ¬ ((pTok bt n pos1).1 = 10007) := by first | omega | (rw [show pos1 = n by omega, pTok_n]; decide)
          have hop : pOp 11 (pTok bt n pos1).1 = false := by simp only [pOp]; simp; omega
          obtain ⟨g1, hg1, hc1⟩ := pG_mo (m := 11) (sub := 2) (by decide) e12_2 ht
          obtain ⟨-, htag, hcn, hpn⟩ := hc1.resolve_right (fun q => absurd (hop.symm.trans q.1) (by decide))
          refine ww_blk xCC okX3_both 28 1 (ps := []) (pc' := 57) (lv' := [(2, .int (nI i)), (0, .ref 0), (1, .int (nI o))]) (st' := [.int 1]) (z' := zL) rfl trivial ?_
          subst xhQ
          exact ww_iret xCC okX3_both 29 xhr rfl (by decide) (Or.inl ⟨rfl, ⟨htag, (by rw [e12_3 htag, hcn, List.append_nil, hpn]; exact e12_1), e12_5⟩⟩)
        · skip
          replace c2 : ¬ 160 ≤ i := fun q => c2 ((sLE (a := 160) (b := i) (by omega) (by omega)).mpr q)
          have hi160 := c2
          refine ww_blk xCC okX3_both 11 3 (ps := []) (pc' := 26) (lv' := [(2, .int (nI i)), (0, .ref 0), (1, .int (nI o))]) (st' := [.int 10007, .int (zL.1 0 4)]) (z' := zL) rfl trivial ?_
          rw [show zL.1 0 4 = nI (pTok bt n pos1).1 from e12_1.2.1.2.2]
          refine ww_br xCC okX3_both 14 (P := (nI ((pTok bt n pos1).1)) = 10007) (t1 := 29) (t2 := 56) (r := []) rfl (fun c3 => ?_) (fun c3 => ?_)
          · skip
            replace c3 : ((pTok bt n pos1).1) = 10007 := (sEQ (a := ((pTok bt n pos1).1)) (b := 10007) (by omega) (by omega)).mp c3
            have hopq : (pTok bt n pos1).1 = 10007 := by omega
            have hop : pOp 11 (pTok bt n pos1).1 = true := by rw [hopq]; rfl
            obtain ⟨g1, hg1, hc1⟩ := pG_mo (m := 11) (sub := 2) (by decide) e12_2 ht
            obtain ⟨-, t2, x1, q1, hs2, ht2, hc2⟩ := hc1.resolve_left (fun q => absurd (hop.symm.trans q.1) (by decide))
            have hne := pOp_ne _ _ hop
            refine ww_blk xCC okX3_both 15 1 (ps := []) (pc' := 30) (lv' := [(2, .int (nI i)), (0, .ref 0), (1, .int (nI o))]) (st' := [.ref 0]) (z' := zL) rfl trivial ?_
            refine ww_callVIv xCC okX3_both 16 (ix := 28) (t_X3_step l (d + f) n _ bt zL e12_1.1 e12_1.2.1.2.1 (pTok_le e12_1.2.2.1).1) (by omega) (by decide) xyX3_step xiX3_step (Or.inl (lw_gt_of (List.mem_of_getElem? (i := 448) (by decide +kernel)) rfl)) rfl rfl rfl (rest := []) rfl (Nat.le_of_ble_eq_true rfl) rfl (fun zS hS => ?_)
            have hGS := gX_step e12_1 hS
            have hGSK := KC_3 hS.2
            refine ww_blk xCC okX3_both 17 2 (ps := []) (pc' := 35) (lv' := [(2, .int (nI i)), (0, .ref 0), (1, .int (nI o))]) (st' := [.int (nI o), .ref 0]) (z' := zS) rfl trivial ?_
            refine ww_callVIz xCC okX3_both 19 (ix := 45) (ih g1 (by omega) (d + 0) zS o (pTok bt n pos1).2.2 ws1 t2 x1 q1 hGS hs2 ht2 ho) (by omega) (by decide) xyX3_negated xiX3_negated (Or.inl (lw_gt_of (List.mem_of_getElem? (i := 542) (by decide +kernel)) rfl)) rfl rfl rfl (rest := []) rfl (Nat.le_of_ble_eq_true rfl) rfl (fun zB hB => ?_) (fun zB hB => ?_)
            · skip
              obtain ⟨c3, hr3, hcs3⟩ := (hc2.resolve_left (fun q => absurd (hB.1.symm.trans q.1) (by decide))).2
              have hlx := pG_len bt n g1 2 o _ x1 q1 (by decide) hGS.2.2.1 (by rw [hs2, hB.1])
              rw [if_pos (by decide)] at hlx
              have hgt := pTok_gt e12_1.2.2.1 hne
              have hl1 := e12_1.2.2.2.2
              have hlB := hB.2.1.2.2.2.2
              have hqn := hB.2.1.2.2.1
              have hn160 := hG.1.2.1
              refine ww_br xCC okX3_both 20 (P := 1 = 0) (t1 := 41) (t2 := 43) (r := []) rfl (fun q => absurd q (by decide)) (fun _ => ?_)
              refine ww_blk xCC okX3_both 23 2 (ps := []) (pc' := 47) (lv' := [(2, .int (nI i)), (0, .ref 0), (1, .int (nI o))]) (st' := [.int 10007, .ref 0]) (z' := zB) rfl trivial ?_
              refine ww_callVIv xCC okX3_both 25 (ix := 41) (t_X3_write l d 10007 (ws1 ++ x1).length zB hB.2.1.2.2.2.1.1 (by rw [List.length_append]; omega)) (by omega) (by decide) xyX3_write xiX3_write (Or.inl (lw_gt_of (List.mem_of_getElem? (i := 566) (by decide +kernel)) rfl)) rfl rfl rfl (rest := []) rfl (Nat.le_of_ble_eq_true rfl) rfl (fun zW hW => ?_)
              have hGW : gX zW bt n q1 (ws1 ++ x1 ++ [10007]) := by rw [hW]; exact gX_write hB.2.1 (by rw [List.length_append]; omega)
              have hWK : KC zB zW := by rw [hW]; exact KC_w
              refine ww_blk xCC okX3_both 26 2 (ps := []) (pc' := 12) (lv' := [(2, .int ((nI i) + 1)), (0, .ref 0), (1, .int (nI o))]) (st' := []) (z' := zW) rfl trivial ?_
              rw [show nI i + (1 : Int32) = nI (i + 1) from nI_add i 1]
              exact ww_cut [0, 1, 2] (xlc rfl (xlc rfl (xlc rfl rfl))) rfl rfl (ih12 (i + 1) g1 q1 (ws1 ++ x1 ++ [10007]) c3 zW (by omega) (by omega) hGW hr3 (fun q => by rw [e12_3 q, hcs3 q, hopq]; simp) (by omega) (KC_tr e12_5 (KC_tr hGSK (KC_tr hB.2.2 hWK))))
            · skip
              obtain ⟨-, htag, hp⟩ := hc2.resolve_right (fun q => absurd (hB.1.symm.trans q.1) (by decide))
              refine ww_br xCC okX3_both 20 (P := 0 = 0) (t1 := 41) (t2 := 43) (r := []) rfl (fun _ => ?_) (fun q => absurd (by decide) q)
              refine ww_blk xCC okX3_both 21 1 (ps := []) (pc' := 42) (lv' := [(2, .int (nI i)), (0, .ref 0), (1, .int (nI o))]) (st' := [.int 0]) (z' := zB) rfl trivial ?_
              subst xhQ
              exact ww_iret xCC okX3_both 22 xhr rfl (by decide) (Or.inr ⟨rfl, ⟨htag, (by rw [hp]; exact hB.2.1), KC_tr e12_5 (KC_tr hGSK hB.2.2)⟩⟩)
          · skip
            replace c3 : ¬ ((pTok bt n pos1).1) = 10007 := fun q => c3 ((sEQ (a := ((pTok bt n pos1).1)) (b := 10007) (by omega) (by omega)).mpr q)
            have hnq : ¬ ((pTok bt n pos1).1 = 10007) := by first | omega | (rw [show pos1 = n by omega, pTok_n]; decide)
            have hop : pOp 11 (pTok bt n pos1).1 = false := by simp only [pOp]; simp; omega
            obtain ⟨g1, hg1, hc1⟩ := pG_mo (m := 11) (sub := 2) (by decide) e12_2 ht
            obtain ⟨-, htag, hcn, hpn⟩ := hc1.resolve_right (fun q => absurd (hop.symm.trans q.1) (by decide))
            refine ww_blk xCC okX3_both 28 1 (ps := []) (pc' := 57) (lv' := [(2, .int (nI i)), (0, .ref 0), (1, .int (nI o))]) (st' := [.int 1]) (z' := zL) rfl trivial ?_
            subst xhQ
            exact ww_iret xCC okX3_both 29 xhr rfl (by decide) (Or.inl ⟨rfl, ⟨htag, (by rw [e12_3 htag, hcn, List.append_nil, hpn]; exact e12_1), e12_5⟩⟩)
    exact ww_cut [0, 1, 2] (xlc (congrArg Value.int (show (0 : Int32) = nI 0 from rfl)) (xlc rfl (xlc rfl rfl))) rfl rfl (L12 (g0 + 1) 0 g0 p1 (ws ++ c1) c2 zA (Nat.lt_succ_self _) (by omega) hGA hr (fun q => by rw [hcs q, List.append_assoc]) (Nat.zero_le _) hA.2.2)
  · skip
    obtain ⟨-, htag, hp⟩ := hc.resolve_right (fun q => absurd (hA.1.symm.trans q.1) (by decide))
    refine ww_br xCC okX3_both 3 (P := 0 = 0) (t1 := 8) (t2 := 10) (r := []) rfl (fun _ => ?_) (fun q => absurd (by decide) q)
    refine ww_blk xCC okX3_both 4 1 (ps := []) (pc' := 9) (lv' := [(0, .ref 0), (1, .int (nI o))]) (st' := [.int 0]) (z' := zA) rfl trivial ?_
    subst xhQ
    exact ww_iret xCC okX3_both 5 xhr rfl (by decide) (Or.inr ⟨rfl, ⟨htag, (by rw [hp]; exact hA.2.1), hA.2.2⟩⟩)

set_option maxHeartbeats 4000000 in
set_option maxRecDepth 20000 in
theorem t_X3_sum (l : Launch) (d : Nat) (bt : Nat → Nat) (n f : Nat) (ih : ∀ g, g < f → XG l bt n yX3_product cX3_product 3 5 g) (z : xMem) (o pos : Nat) (ws : List Nat) (tag : Nat) (cs : List Nat) (p : Nat) (hG : gX z bt n pos ws) (h : pG bt n f 4 o pos = (tag, cs, p)) (ht : tag ≠ 0) (ho : o ≤ 5) : XMz l (d + f + 9) yX3_sum cX3_sum 4 (some .boolean) shT2 [.ref 0, .int (nI o)] z (fun z' => tag = 1 ∧ gX z' bt n p (ws ++ cs) ∧ KC z z') (fun z' => tag = 2 ∧ z'.1 0 2 = nI p ∧ KC z z') := by
  refine XM.of (by decide) (Nat.le_of_ble_eq_true rfl) (fun xp xe xs xm xar xbl xme xc xD xcs xad xAA xCC xhr => ?_)
  generalize xhQ : MQ xbl _ xar xs 0 0 xAA = xQ
  show ww xp l xe (xRm (d + f + 9)) xs xm xar xbl xme xc 4 xD xcs xad shT2 xAA xQ 0 [(0, .ref 0), (1, .int (nI o))] [] z
  obtain ⟨g0, t1, c1, p1, hg0, h1, ht1, hc⟩ := pG_ch (m := 4) (sub := 5) (rest := 14) (by decide) h ht
  refine ww_blk xCC okX3_sum 0 2 (ps := []) (pc' := 2) (lv' := [(0, .ref 0), (1, .int (nI o))]) (st' := [.int (nI o), .ref 0]) (z' := z) rfl trivial ?_
  refine ww_callVIz xCC okX3_sum 2 (ix := 54) (ih g0 (by omega) (d + 0) z o pos ws t1 c1 p1 hG h1 ht1 ho) (by omega) (by decide) xyX3_product xiX3_product (Or.inl (lw_gt_of (List.mem_of_getElem? (i := 554) (by decide +kernel)) rfl)) rfl rfl rfl (rest := []) rfl (Nat.le_of_ble_eq_true rfl) rfl (fun zA hA => ?_) (fun zA hA => ?_)
  · skip
    obtain ⟨c2, hr, hcs⟩ := (hc.resolve_left (fun q => absurd (hA.1.symm.trans q.1) (by decide))).2
    have hGA : gX zA bt n p1 (ws ++ c1) := hA.2.1
    refine ww_br xCC okX3_sum 3 (P := 1 = 0) (t1 := 8) (t2 := 10) (r := []) rfl (fun q => absurd q (by decide)) (fun _ => ?_)
    refine ww_blk xCC okX3_sum 6 2 (ps := []) (pc' := 12) (lv' := [(2, .int 0), (0, .ref 0), (1, .int (nI o))]) (st' := []) (z' := zA) rfl trivial ?_
    have L12 : ∀ (n12 : Nat) (i : Nat) (g : Nat) (pos1 : Nat) (ws1 : List Nat) (c2 : List Nat) (zL : xMem), g < n12 → (g < f) → (gX zL bt n pos1 ws1) → (pG bt n g 14 o pos1 = (tag, c2, p)) → (tag = 1 → ws ++ cs = ws1 ++ c2) → (i ≤ pos1) → (KC z zL) → ww xp l xe (xRm (d + f + 9)) xs xm xar xbl xme xc 4 xD xcs xad shT2 xAA xQ 12 [(2, .int (nI i)), (0, .ref 0), (1, .int (nI o))] [] zL := by
      intro n12
      induction n12 with
      | zero =>
        intro i g pos1 ws1 c2 zL hmu12
        exact absurd hmu12 (Nat.not_lt_zero _)
      | succ n12 ih12 =>
        intro i g pos1 ws1 c2 zL hmu12 e12_0 e12_1 e12_2 e12_3 e12_4 e12_5
        have hpn := e12_1.2.2.1
        have hn160 := hG.1.2.1
        have hin : i ≤ 160 := by omega
        have htl := pTok_lt bt n pos1
        refine ww_blk xCC okX3_sum 8 2 (ps := []) (pc' := 16) (lv' := [(2, .int (nI i)), (0, .ref 0), (1, .int (nI o))]) (st' := [.int 160, .int (nI i)]) (z' := zL) rfl trivial ?_
        refine ww_br xCC okX3_sum 10 (P := 160 ≤ (nI i)) (t1 := 69) (t2 := 19) (r := []) rfl (fun c2 => ?_) (fun c2 => ?_)
        · skip
          replace c2 : 160 ≤ i := (sLE (a := 160) (b := i) (by omega) (by omega)).mp c2
          have hi160 := c2
          have hnq : ¬ ((pTok bt n pos1).1 = 10010 ∨ (pTok bt n pos1).1 = 10011) := by first | omega | (rw [show pos1 = n by omega, pTok_n]; decide)
          have hop : pOp 14 (pTok bt n pos1).1 = false := by simp only [pOp]; simp; omega
          obtain ⟨g1, hg1, hc1⟩ := pG_mo (m := 14) (sub := 5) (by decide) e12_2 ht
          obtain ⟨-, htag, hcn, hpn⟩ := hc1.resolve_right (fun q => absurd (hop.symm.trans q.1) (by decide))
          refine ww_blk xCC okX3_sum 35 1 (ps := []) (pc' := 70) (lv' := [(2, .int (nI i)), (0, .ref 0), (1, .int (nI o))]) (st' := [.int 1]) (z' := zL) rfl trivial ?_
          subst xhQ
          exact ww_iret xCC okX3_sum 36 xhr rfl (by decide) (Or.inl ⟨rfl, ⟨htag, (by rw [e12_3 htag, hcn, List.append_nil, hpn]; exact e12_1), e12_5⟩⟩)
        · skip
          replace c2 : ¬ 160 ≤ i := fun q => c2 ((sLE (a := 160) (b := i) (by omega) (by omega)).mpr q)
          have hi160 := c2
          refine ww_blk xCC okX3_sum 11 3 (ps := []) (pc' := 26) (lv' := [(2, .int (nI i)), (0, .ref 0), (1, .int (nI o))]) (st' := [.int 10010, .int (zL.1 0 4)]) (z' := zL) rfl trivial ?_
          rw [show zL.1 0 4 = nI (pTok bt n pos1).1 from e12_1.2.1.2.2]
          refine ww_br xCC okX3_sum 14 (P := (nI ((pTok bt n pos1).1)) = 10010) (t1 := 39) (t2 := 29) (r := []) rfl (fun c3 => ?_) (fun c3 => ?_)
          · skip
            replace c3 : ((pTok bt n pos1).1) = 10010 := (sEQ (a := ((pTok bt n pos1).1)) (b := 10010) (by omega) (by omega)).mp c3
            have hopq : (pTok bt n pos1).1 = 10010 ∨ (pTok bt n pos1).1 = 10011 := by omega
            have hop : pOp 14 (pTok bt n pos1).1 = true := by rcases hopq with q | q <;> rw [q] <;> rfl
            obtain ⟨g1, hg1, hc1⟩ := pG_mo (m := 14) (sub := 5) (by decide) e12_2 ht
            obtain ⟨-, t2, x1, q1, hs2, ht2, hc2⟩ := hc1.resolve_left (fun q => absurd (hop.symm.trans q.1) (by decide))
            have hne := pOp_ne _ _ hop
            refine ww_blk xCC okX3_sum 19 4 (ps := []) (pc' := 45) (lv' := [(3, .int (zL.1 0 4)), (2, .int (nI i)), (0, .ref 0), (1, .int (nI o))]) (st' := [.ref 0]) (z' := zL) rfl trivial ?_
            rw [show zL.1 0 4 = nI (pTok bt n pos1).1 from e12_1.2.1.2.2]
            refine ww_callVIv xCC okX3_sum 23 (ix := 28) (t_X3_step l (d + f) n _ bt zL e12_1.1 e12_1.2.1.2.1 (pTok_le e12_1.2.2.1).1) (by omega) (by decide) xyX3_step xiX3_step (Or.inl (lw_gt_of (List.mem_of_getElem? (i := 448) (by decide +kernel)) rfl)) rfl rfl rfl (rest := []) rfl (Nat.le_of_ble_eq_true rfl) rfl (fun zS hS => ?_)
            have hGS := gX_step e12_1 hS
            have hGSK := KC_3 hS.2
            refine ww_blk xCC okX3_sum 24 2 (ps := []) (pc' := 50) (lv' := [(3, .int (nI ((pTok bt n pos1).1))), (2, .int (nI i)), (0, .ref 0), (1, .int (nI o))]) (st' := [.int (nI o), .ref 0]) (z' := zS) rfl trivial ?_
            refine ww_callVIz xCC okX3_sum 26 (ix := 54) (ih g1 (by omega) (d + 0) zS o (pTok bt n pos1).2.2 ws1 t2 x1 q1 hGS hs2 ht2 ho) (by omega) (by decide) xyX3_product xiX3_product (Or.inl (lw_gt_of (List.mem_of_getElem? (i := 554) (by decide +kernel)) rfl)) rfl rfl rfl (rest := []) rfl (Nat.le_of_ble_eq_true rfl) rfl (fun zB hB => ?_) (fun zB hB => ?_)
            · skip
              obtain ⟨c3, hr3, hcs3⟩ := (hc2.resolve_left (fun q => absurd (hB.1.symm.trans q.1) (by decide))).2
              have hlx := pG_len bt n g1 5 o _ x1 q1 (by decide) hGS.2.2.1 (by rw [hs2, hB.1])
              rw [if_pos (by decide)] at hlx
              have hgt := pTok_gt e12_1.2.2.1 hne
              have hl1 := e12_1.2.2.2.2
              have hlB := hB.2.1.2.2.2.2
              have hqn := hB.2.1.2.2.1
              have hn160 := hG.1.2.1
              refine ww_br xCC okX3_sum 27 (P := 1 = 0) (t1 := 56) (t2 := 58) (r := []) rfl (fun q => absurd q (by decide)) (fun _ => ?_)
              refine ww_blk xCC okX3_sum 30 2 (ps := []) (pc' := 60) (lv' := [(3, .int (nI ((pTok bt n pos1).1))), (2, .int (nI i)), (0, .ref 0), (1, .int (nI o))]) (st' := [.int (nI ((pTok bt n pos1).1)), .ref 0]) (z' := zB) rfl trivial ?_
              refine ww_callVIv xCC okX3_sum 32 (ix := 41) (t_X3_write l d (pTok bt n pos1).1 (ws1 ++ x1).length zB hB.2.1.2.2.2.1.1 (by rw [List.length_append]; omega)) (by omega) (by decide) xyX3_write xiX3_write (Or.inl (lw_gt_of (List.mem_of_getElem? (i := 566) (by decide +kernel)) rfl)) rfl rfl rfl (rest := []) rfl (Nat.le_of_ble_eq_true rfl) rfl (fun zW hW => ?_)
              have hGW : gX zW bt n q1 (ws1 ++ x1 ++ [(pTok bt n pos1).1]) := by rw [hW]; exact gX_write hB.2.1 (by rw [List.length_append]; omega)
              have hWK : KC zB zW := by rw [hW]; exact KC_w
              refine ww_blk xCC okX3_sum 33 2 (ps := []) (pc' := 12) (lv' := [(2, .int ((nI i) + 1)), (3, .int (nI ((pTok bt n pos1).1))), (0, .ref 0), (1, .int (nI o))]) (st' := []) (z' := zW) rfl trivial ?_
              rw [show nI i + (1 : Int32) = nI (i + 1) from nI_add i 1]
              exact ww_cut [0, 2, 3] (xlc rfl (xlc rfl (xlc rfl rfl))) rfl rfl (ih12 (i + 1) g1 q1 (ws1 ++ x1 ++ [(pTok bt n pos1).1]) c3 zW (by omega) (by omega) hGW hr3 (fun q => by rw [e12_3 q, hcs3 q]; simp) (by omega) (KC_tr e12_5 (KC_tr hGSK (KC_tr hB.2.2 hWK))))
            · skip
              obtain ⟨-, htag, hp⟩ := hc2.resolve_right (fun q => absurd (hB.1.symm.trans q.1) (by decide))
              refine ww_br xCC okX3_sum 27 (P := 0 = 0) (t1 := 56) (t2 := 58) (r := []) rfl (fun _ => ?_) (fun q => absurd (by decide) q)
              refine ww_blk xCC okX3_sum 28 1 (ps := []) (pc' := 57) (lv' := [(3, .int (nI ((pTok bt n pos1).1))), (2, .int (nI i)), (0, .ref 0), (1, .int (nI o))]) (st' := [.int 0]) (z' := zB) rfl trivial ?_
              subst xhQ
              exact ww_iret xCC okX3_sum 29 xhr rfl (by decide) (Or.inr ⟨rfl, ⟨htag, (by rw [hp]; exact hB.2.1), KC_tr e12_5 (KC_tr hGSK hB.2.2)⟩⟩)
          · skip
            replace c3 : ¬ ((pTok bt n pos1).1) = 10010 := fun q => c3 ((sEQ (a := ((pTok bt n pos1).1)) (b := 10010) (by omega) (by omega)).mpr q)
            refine ww_blk xCC okX3_sum 15 3 (ps := []) (pc' := 36) (lv' := [(2, .int (nI i)), (0, .ref 0), (1, .int (nI o))]) (st' := [.int 10011, .int (zL.1 0 4)]) (z' := zL) rfl trivial ?_
            rw [show zL.1 0 4 = nI (pTok bt n pos1).1 from e12_1.2.1.2.2]
            refine ww_br xCC okX3_sum 18 (P := (nI ((pTok bt n pos1).1)) = 10011) (t1 := 39) (t2 := 69) (r := []) rfl (fun c8 => ?_) (fun c8 => ?_)
            · skip
              replace c8 : ((pTok bt n pos1).1) = 10011 := (sEQ (a := ((pTok bt n pos1).1)) (b := 10011) (by omega) (by omega)).mp c8
              have hopq : (pTok bt n pos1).1 = 10010 ∨ (pTok bt n pos1).1 = 10011 := by omega
              have hop : pOp 14 (pTok bt n pos1).1 = true := by rcases hopq with q | q <;> rw [q] <;> rfl
              obtain ⟨g1, hg1, hc1⟩ := pG_mo (m := 14) (sub := 5) (by decide) e12_2 ht
              obtain ⟨-, t2, x1, q1, hs2, ht2, hc2⟩ := hc1.resolve_left (fun q => absurd (hop.symm.trans q.1) (by decide))
              have hne := pOp_ne _ _ hop
              refine ww_blk xCC okX3_sum 19 4 (ps := []) (pc' := 45) (lv' := [(3, .int (zL.1 0 4)), (2, .int (nI i)), (0, .ref 0), (1, .int (nI o))]) (st' := [.ref 0]) (z' := zL) rfl trivial ?_
              rw [show zL.1 0 4 = nI (pTok bt n pos1).1 from e12_1.2.1.2.2]
              refine ww_callVIv xCC okX3_sum 23 (ix := 28) (t_X3_step l (d + f) n _ bt zL e12_1.1 e12_1.2.1.2.1 (pTok_le e12_1.2.2.1).1) (by omega) (by decide) xyX3_step xiX3_step (Or.inl (lw_gt_of (List.mem_of_getElem? (i := 448) (by decide +kernel)) rfl)) rfl rfl rfl (rest := []) rfl (Nat.le_of_ble_eq_true rfl) rfl (fun zS hS => ?_)
              have hGS := gX_step e12_1 hS
              have hGSK := KC_3 hS.2
              refine ww_blk xCC okX3_sum 24 2 (ps := []) (pc' := 50) (lv' := [(3, .int (nI ((pTok bt n pos1).1))), (2, .int (nI i)), (0, .ref 0), (1, .int (nI o))]) (st' := [.int (nI o), .ref 0]) (z' := zS) rfl trivial ?_
              refine ww_callVIz xCC okX3_sum 26 (ix := 54) (ih g1 (by omega) (d + 0) zS o (pTok bt n pos1).2.2 ws1 t2 x1 q1 hGS hs2 ht2 ho) (by omega) (by decide) xyX3_product xiX3_product (Or.inl (lw_gt_of (List.mem_of_getElem? (i := 554) (by decide +kernel)) rfl)) rfl rfl rfl (rest := []) rfl (Nat.le_of_ble_eq_true rfl) rfl (fun zB hB => ?_) (fun zB hB => ?_)
              · skip
                obtain ⟨c3, hr3, hcs3⟩ := (hc2.resolve_left (fun q => absurd (hB.1.symm.trans q.1) (by decide))).2
                have hlx := pG_len bt n g1 5 o _ x1 q1 (by decide) hGS.2.2.1 (by rw [hs2, hB.1])
                rw [if_pos (by decide)] at hlx
                have hgt := pTok_gt e12_1.2.2.1 hne
                have hl1 := e12_1.2.2.2.2
                have hlB := hB.2.1.2.2.2.2
                have hqn := hB.2.1.2.2.1
                have hn160 := hG.1.2.1
                refine ww_br xCC okX3_sum 27 (P := 1 = 0) (t1 := 56) (t2 := 58) (r := []) rfl (fun q => absurd q (by decide)) (fun _ => ?_)
                refine ww_blk xCC okX3_sum 30 2 (ps := []) (pc' := 60) (lv' := [(3, .int (nI ((pTok bt n pos1).1))), (2, .int (nI i)), (0, .ref 0), (1, .int (nI o))]) (st' := [.int (nI ((pTok bt n pos1).1)), .ref 0]) (z' := zB) rfl trivial ?_
                refine ww_callVIv xCC okX3_sum 32 (ix := 41) (t_X3_write l d (pTok bt n pos1).1 (ws1 ++ x1).length zB hB.2.1.2.2.2.1.1 (by rw [List.length_append]; omega)) (by omega) (by decide) xyX3_write xiX3_write (Or.inl (lw_gt_of (List.mem_of_getElem? (i := 566) (by decide +kernel)) rfl)) rfl rfl rfl (rest := []) rfl (Nat.le_of_ble_eq_true rfl) rfl (fun zW hW => ?_)
                have hGW : gX zW bt n q1 (ws1 ++ x1 ++ [(pTok bt n pos1).1]) := by rw [hW]; exact gX_write hB.2.1 (by rw [List.length_append]; omega)
                have hWK : KC zB zW := by rw [hW]; exact KC_w
                refine ww_blk xCC okX3_sum 33 2 (ps := []) (pc' := 12) (lv' := [(2, .int ((nI i) + 1)), (3, .int (nI ((pTok bt n pos1).1))), (0, .ref 0), (1, .int (nI o))]) (st' := []) (z' := zW) rfl trivial ?_
                rw [show nI i + (1 : Int32) = nI (i + 1) from nI_add i 1]
                exact ww_cut [0, 2, 3] (xlc rfl (xlc rfl (xlc rfl rfl))) rfl rfl (ih12 (i + 1) g1 q1 (ws1 ++ x1 ++ [(pTok bt n pos1).1]) c3 zW (by omega) (by omega) hGW hr3 (fun q => by rw [e12_3 q, hcs3 q]; simp) (by omega) (KC_tr e12_5 (KC_tr hGSK (KC_tr hB.2.2 hWK))))
              · skip
                obtain ⟨-, htag, hp⟩ := hc2.resolve_right (fun q => absurd (hB.1.symm.trans q.1) (by decide))
                refine ww_br xCC okX3_sum 27 (P := 0 = 0) (t1 := 56) (t2 := 58) (r := []) rfl (fun _ => ?_) (fun q => absurd (by decide) q)
                refine ww_blk xCC okX3_sum 28 1 (ps := []) (pc' := 57) (lv' := [(3, .int (nI ((pTok bt n pos1).1))), (2, .int (nI i)), (0, .ref 0), (1, .int (nI o))]) (st' := [.int 0]) (z' := zB) rfl trivial ?_
                subst xhQ
                exact ww_iret xCC okX3_sum 29 xhr rfl (by decide) (Or.inr ⟨rfl, ⟨htag, (by rw [hp]; exact hB.2.1), KC_tr e12_5 (KC_tr hGSK hB.2.2)⟩⟩)
            · skip
              replace c8 : ¬ ((pTok bt n pos1).1) = 10011 := fun q => c8 ((sEQ (a := ((pTok bt n pos1).1)) (b := 10011) (by omega) (by omega)).mpr q)
              have hnq : ¬ ((pTok bt n pos1).1 = 10010 ∨ (pTok bt n pos1).1 = 10011) := by first | omega | (rw [show pos1 = n by omega, pTok_n]; decide)
              have hop : pOp 14 (pTok bt n pos1).1 = false := by simp only [pOp]; simp; omega
              obtain ⟨g1, hg1, hc1⟩ := pG_mo (m := 14) (sub := 5) (by decide) e12_2 ht
              obtain ⟨-, htag, hcn, hpn⟩ := hc1.resolve_right (fun q => absurd (hop.symm.trans q.1) (by decide))
              refine ww_blk xCC okX3_sum 35 1 (ps := []) (pc' := 70) (lv' := [(2, .int (nI i)), (0, .ref 0), (1, .int (nI o))]) (st' := [.int 1]) (z' := zL) rfl trivial ?_
              subst xhQ
              exact ww_iret xCC okX3_sum 36 xhr rfl (by decide) (Or.inl ⟨rfl, ⟨htag, (by rw [e12_3 htag, hcn, List.append_nil, hpn]; exact e12_1), e12_5⟩⟩)
    exact ww_cut [0, 1, 2] (xlc (congrArg Value.int (show (0 : Int32) = nI 0 from rfl)) (xlc rfl (xlc rfl rfl))) rfl rfl (L12 (g0 + 1) 0 g0 p1 (ws ++ c1) c2 zA (Nat.lt_succ_self _) (by omega) hGA hr (fun q => by rw [hcs q, List.append_assoc]) (Nat.zero_le _) hA.2.2)
  · skip
    obtain ⟨-, htag, hp⟩ := hc.resolve_right (fun q => absurd (hA.1.symm.trans q.1) (by decide))
    refine ww_br xCC okX3_sum 3 (P := 0 = 0) (t1 := 8) (t2 := 10) (r := []) rfl (fun _ => ?_) (fun q => absurd (by decide) q)
    refine ww_blk xCC okX3_sum 4 1 (ps := []) (pc' := 9) (lv' := [(0, .ref 0), (1, .int (nI o))]) (st' := [.int 0]) (z' := zA) rfl trivial ?_
    subst xhQ
    exact ww_iret xCC okX3_sum 5 xhr rfl (by decide) (Or.inr ⟨rfl, ⟨htag, (by rw [hp]; exact hA.2.1), hA.2.2⟩⟩)

set_option maxHeartbeats 4000000 in
set_option maxRecDepth 20000 in
theorem t_X3_product (l : Launch) (d : Nat) (bt : Nat → Nat) (n f : Nat) (ih : ∀ g, g < f → XG l bt n yX3_single cX3_single 4 6 g) (z : xMem) (o pos : Nat) (ws : List Nat) (tag : Nat) (cs : List Nat) (p : Nat) (hG : gX z bt n pos ws) (h : pG bt n f 5 o pos = (tag, cs, p)) (ht : tag ≠ 0) (ho : o ≤ 5) : XMz l (d + f + 9) yX3_product cX3_product 3 (some .boolean) shT2 [.ref 0, .int (nI o)] z (fun z' => tag = 1 ∧ gX z' bt n p (ws ++ cs) ∧ KC z z') (fun z' => tag = 2 ∧ z'.1 0 2 = nI p ∧ KC z z') := by
  refine XM.of (by decide) (Nat.le_of_ble_eq_true rfl) (fun xp xe xs xm xar xbl xme xc xD xcs xad xAA xCC xhr => ?_)
  generalize xhQ : MQ xbl _ xar xs 0 0 xAA = xQ
  show ww xp l xe (xRm (d + f + 9)) xs xm xar xbl xme xc 3 xD xcs xad shT2 xAA xQ 0 [(0, .ref 0), (1, .int (nI o))] [] z
  obtain ⟨g0, t1, c1, p1, hg0, h1, ht1, hc⟩ := pG_ch (m := 5) (sub := 6) (rest := 15) (by decide) h ht
  refine ww_blk xCC okX3_product 0 2 (ps := []) (pc' := 2) (lv' := [(0, .ref 0), (1, .int (nI o))]) (st' := [.int (nI o), .ref 0]) (z' := z) rfl trivial ?_
  refine ww_callVIz xCC okX3_product 2 (ix := 57) (ih g0 (by omega) (d + 0) z o pos ws t1 c1 p1 hG h1 ht1 ho) (by omega) (by decide) xyX3_single xiX3_single (Or.inl (lw_gt_of (List.mem_of_getElem? (i := 558) (by decide +kernel)) rfl)) rfl rfl rfl (rest := []) rfl (Nat.le_of_ble_eq_true rfl) rfl (fun zA hA => ?_) (fun zA hA => ?_)
  · skip
    obtain ⟨c2, hr, hcs⟩ := (hc.resolve_left (fun q => absurd (hA.1.symm.trans q.1) (by decide))).2
    have hGA : gX zA bt n p1 (ws ++ c1) := hA.2.1
    refine ww_br xCC okX3_product 3 (P := 1 = 0) (t1 := 8) (t2 := 10) (r := []) rfl (fun q => absurd q (by decide)) (fun _ => ?_)
    refine ww_blk xCC okX3_product 6 2 (ps := []) (pc' := 12) (lv' := [(2, .int 0), (0, .ref 0), (1, .int (nI o))]) (st' := []) (z' := zA) rfl trivial ?_
    have L12 : ∀ (n12 : Nat) (i : Nat) (g : Nat) (pos1 : Nat) (ws1 : List Nat) (c2 : List Nat) (zL : xMem), g < n12 → (g < f) → (gX zL bt n pos1 ws1) → (pG bt n g 15 o pos1 = (tag, c2, p)) → (tag = 1 → ws ++ cs = ws1 ++ c2) → (i ≤ pos1) → (KC z zL) → ww xp l xe (xRm (d + f + 9)) xs xm xar xbl xme xc 3 xD xcs xad shT2 xAA xQ 12 [(2, .int (nI i)), (0, .ref 0), (1, .int (nI o))] [] zL := by
      intro n12
      induction n12 with
      | zero =>
        intro i g pos1 ws1 c2 zL hmu12
        exact absurd hmu12 (Nat.not_lt_zero _)
      | succ n12 ih12 =>
        intro i g pos1 ws1 c2 zL hmu12 e12_0 e12_1 e12_2 e12_3 e12_4 e12_5
        have hpn := e12_1.2.2.1
        have hn160 := hG.1.2.1
        have hin : i ≤ 160 := by omega
        have htl := pTok_lt bt n pos1
        refine ww_blk xCC okX3_product 8 2 (ps := []) (pc' := 16) (lv' := [(2, .int (nI i)), (0, .ref 0), (1, .int (nI o))]) (st' := [.int 160, .int (nI i)]) (z' := zL) rfl trivial ?_
        refine ww_br xCC okX3_product 10 (P := 160 ≤ (nI i)) (t1 := 56) (t2 := 19) (r := []) rfl (fun c2 => ?_) (fun c2 => ?_)
        · skip
          replace c2 : 160 ≤ i := (sLE (a := 160) (b := i) (by omega) (by omega)).mp c2
          have hi160 := c2
          have hnq : ¬ ((pTok bt n pos1).1 = 10012) := by first | omega | (rw [show pos1 = n by omega, pTok_n]; decide)
          have hop : pOp 15 (pTok bt n pos1).1 = false := by simp only [pOp]; simp; omega
          obtain ⟨g1, hg1, hc1⟩ := pG_mo (m := 15) (sub := 6) (by decide) e12_2 ht
          obtain ⟨-, htag, hcn, hpn⟩ := hc1.resolve_right (fun q => absurd (hop.symm.trans q.1) (by decide))
          refine ww_blk xCC okX3_product 28 1 (ps := []) (pc' := 57) (lv' := [(2, .int (nI i)), (0, .ref 0), (1, .int (nI o))]) (st' := [.int 1]) (z' := zL) rfl trivial ?_
          subst xhQ
          exact ww_iret xCC okX3_product 29 xhr rfl (by decide) (Or.inl ⟨rfl, ⟨htag, (by rw [e12_3 htag, hcn, List.append_nil, hpn]; exact e12_1), e12_5⟩⟩)
        · skip
          replace c2 : ¬ 160 ≤ i := fun q => c2 ((sLE (a := 160) (b := i) (by omega) (by omega)).mpr q)
          have hi160 := c2
          refine ww_blk xCC okX3_product 11 3 (ps := []) (pc' := 26) (lv' := [(2, .int (nI i)), (0, .ref 0), (1, .int (nI o))]) (st' := [.int 10012, .int (zL.1 0 4)]) (z' := zL) rfl trivial ?_
          rw [show zL.1 0 4 = nI (pTok bt n pos1).1 from e12_1.2.1.2.2]
          refine ww_br xCC okX3_product 14 (P := (nI ((pTok bt n pos1).1)) = 10012) (t1 := 29) (t2 := 56) (r := []) rfl (fun c3 => ?_) (fun c3 => ?_)
          · skip
            replace c3 : ((pTok bt n pos1).1) = 10012 := (sEQ (a := ((pTok bt n pos1).1)) (b := 10012) (by omega) (by omega)).mp c3
            have hopq : (pTok bt n pos1).1 = 10012 := by omega
            have hop : pOp 15 (pTok bt n pos1).1 = true := by rw [hopq]; rfl
            obtain ⟨g1, hg1, hc1⟩ := pG_mo (m := 15) (sub := 6) (by decide) e12_2 ht
            obtain ⟨-, t2, x1, q1, hs2, ht2, hc2⟩ := hc1.resolve_left (fun q => absurd (hop.symm.trans q.1) (by decide))
            have hne := pOp_ne _ _ hop
            refine ww_blk xCC okX3_product 15 1 (ps := []) (pc' := 30) (lv' := [(2, .int (nI i)), (0, .ref 0), (1, .int (nI o))]) (st' := [.ref 0]) (z' := zL) rfl trivial ?_
            refine ww_callVIv xCC okX3_product 16 (ix := 28) (t_X3_step l (d + f) n _ bt zL e12_1.1 e12_1.2.1.2.1 (pTok_le e12_1.2.2.1).1) (by omega) (by decide) xyX3_step xiX3_step (Or.inl (lw_gt_of (List.mem_of_getElem? (i := 448) (by decide +kernel)) rfl)) rfl rfl rfl (rest := []) rfl (Nat.le_of_ble_eq_true rfl) rfl (fun zS hS => ?_)
            have hGS := gX_step e12_1 hS
            have hGSK := KC_3 hS.2
            refine ww_blk xCC okX3_product 17 2 (ps := []) (pc' := 35) (lv' := [(2, .int (nI i)), (0, .ref 0), (1, .int (nI o))]) (st' := [.int (nI o), .ref 0]) (z' := zS) rfl trivial ?_
            refine ww_callVIz xCC okX3_product 19 (ix := 57) (ih g1 (by omega) (d + 0) zS o (pTok bt n pos1).2.2 ws1 t2 x1 q1 hGS hs2 ht2 ho) (by omega) (by decide) xyX3_single xiX3_single (Or.inl (lw_gt_of (List.mem_of_getElem? (i := 558) (by decide +kernel)) rfl)) rfl rfl rfl (rest := []) rfl (Nat.le_of_ble_eq_true rfl) rfl (fun zB hB => ?_) (fun zB hB => ?_)
            · skip
              obtain ⟨c3, hr3, hcs3⟩ := (hc2.resolve_left (fun q => absurd (hB.1.symm.trans q.1) (by decide))).2
              have hlx := pG_len bt n g1 6 o _ x1 q1 (by decide) hGS.2.2.1 (by rw [hs2, hB.1])
              rw [if_pos (by decide)] at hlx
              have hgt := pTok_gt e12_1.2.2.1 hne
              have hl1 := e12_1.2.2.2.2
              have hlB := hB.2.1.2.2.2.2
              have hqn := hB.2.1.2.2.1
              have hn160 := hG.1.2.1
              refine ww_br xCC okX3_product 20 (P := 1 = 0) (t1 := 41) (t2 := 43) (r := []) rfl (fun q => absurd q (by decide)) (fun _ => ?_)
              refine ww_blk xCC okX3_product 23 2 (ps := []) (pc' := 47) (lv' := [(2, .int (nI i)), (0, .ref 0), (1, .int (nI o))]) (st' := [.int 10012, .ref 0]) (z' := zB) rfl trivial ?_
              refine ww_callVIv xCC okX3_product 25 (ix := 41) (t_X3_write l d 10012 (ws1 ++ x1).length zB hB.2.1.2.2.2.1.1 (by rw [List.length_append]; omega)) (by omega) (by decide) xyX3_write xiX3_write (Or.inl (lw_gt_of (List.mem_of_getElem? (i := 566) (by decide +kernel)) rfl)) rfl rfl rfl (rest := []) rfl (Nat.le_of_ble_eq_true rfl) rfl (fun zW hW => ?_)
              have hGW : gX zW bt n q1 (ws1 ++ x1 ++ [10012]) := by rw [hW]; exact gX_write hB.2.1 (by rw [List.length_append]; omega)
              have hWK : KC zB zW := by rw [hW]; exact KC_w
              refine ww_blk xCC okX3_product 26 2 (ps := []) (pc' := 12) (lv' := [(2, .int ((nI i) + 1)), (0, .ref 0), (1, .int (nI o))]) (st' := []) (z' := zW) rfl trivial ?_
              rw [show nI i + (1 : Int32) = nI (i + 1) from nI_add i 1]
              exact ww_cut [0, 1, 2] (xlc rfl (xlc rfl (xlc rfl rfl))) rfl rfl (ih12 (i + 1) g1 q1 (ws1 ++ x1 ++ [10012]) c3 zW (by omega) (by omega) hGW hr3 (fun q => by rw [e12_3 q, hcs3 q, hopq]; simp) (by omega) (KC_tr e12_5 (KC_tr hGSK (KC_tr hB.2.2 hWK))))
            · skip
              obtain ⟨-, htag, hp⟩ := hc2.resolve_right (fun q => absurd (hB.1.symm.trans q.1) (by decide))
              refine ww_br xCC okX3_product 20 (P := 0 = 0) (t1 := 41) (t2 := 43) (r := []) rfl (fun _ => ?_) (fun q => absurd (by decide) q)
              refine ww_blk xCC okX3_product 21 1 (ps := []) (pc' := 42) (lv' := [(2, .int (nI i)), (0, .ref 0), (1, .int (nI o))]) (st' := [.int 0]) (z' := zB) rfl trivial ?_
              subst xhQ
              exact ww_iret xCC okX3_product 22 xhr rfl (by decide) (Or.inr ⟨rfl, ⟨htag, (by rw [hp]; exact hB.2.1), KC_tr e12_5 (KC_tr hGSK hB.2.2)⟩⟩)
          · skip
            replace c3 : ¬ ((pTok bt n pos1).1) = 10012 := fun q => c3 ((sEQ (a := ((pTok bt n pos1).1)) (b := 10012) (by omega) (by omega)).mpr q)
            have hnq : ¬ ((pTok bt n pos1).1 = 10012) := by first | omega | (rw [show pos1 = n by omega, pTok_n]; decide)
            have hop : pOp 15 (pTok bt n pos1).1 = false := by simp only [pOp]; simp; omega
            obtain ⟨g1, hg1, hc1⟩ := pG_mo (m := 15) (sub := 6) (by decide) e12_2 ht
            obtain ⟨-, htag, hcn, hpn⟩ := hc1.resolve_right (fun q => absurd (hop.symm.trans q.1) (by decide))
            refine ww_blk xCC okX3_product 28 1 (ps := []) (pc' := 57) (lv' := [(2, .int (nI i)), (0, .ref 0), (1, .int (nI o))]) (st' := [.int 1]) (z' := zL) rfl trivial ?_
            subst xhQ
            exact ww_iret xCC okX3_product 29 xhr rfl (by decide) (Or.inl ⟨rfl, ⟨htag, (by rw [e12_3 htag, hcn, List.append_nil, hpn]; exact e12_1), e12_5⟩⟩)
    exact ww_cut [0, 1, 2] (xlc (congrArg Value.int (show (0 : Int32) = nI 0 from rfl)) (xlc rfl (xlc rfl rfl))) rfl rfl (L12 (g0 + 1) 0 g0 p1 (ws ++ c1) c2 zA (Nat.lt_succ_self _) (by omega) hGA hr (fun q => by rw [hcs q, List.append_assoc]) (Nat.zero_le _) hA.2.2)
  · skip
    obtain ⟨-, htag, hp⟩ := hc.resolve_right (fun q => absurd (hA.1.symm.trans q.1) (by decide))
    refine ww_br xCC okX3_product 3 (P := 0 = 0) (t1 := 8) (t2 := 10) (r := []) rfl (fun _ => ?_) (fun q => absurd (by decide) q)
    refine ww_blk xCC okX3_product 4 1 (ps := []) (pc' := 9) (lv' := [(0, .ref 0), (1, .int (nI o))]) (st' := [.int 0]) (z' := zA) rfl trivial ?_
    subst xhQ
    exact ww_iret xCC okX3_product 5 xhr rfl (by decide) (Or.inr ⟨rfl, ⟨htag, (by rw [hp]; exact hA.2.1), hA.2.2⟩⟩)
