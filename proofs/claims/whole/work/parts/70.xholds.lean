/-! the class: what its memory holds -/
/-- a republic at places b .. b + 7 -/
def RX (z : xMem) (b : Nat) (r : sR) : Prop := (∀ j, z.1 (b + 1) j = nI (r 0 j)) ∧ (∀ j, z.1 (b + 2) j = nI (r 1 j)) ∧ (∀ j, z.1 (b + 3) j = nI (r 2 j)) ∧ (∀ j, z.1 (b + 4) j = nI (r 3 j)) ∧ (∀ j, z.1 (b + 5) j = nI (r 4 j)) ∧ (∀ j, z.1 (b + 6) j = nI (r 5 j)) ∧ (∀ j, z.1 (b + 7) j = nI (r 6 j)) ∧ z.1 b 2 = nI (sAl (r 0) 8) ∧ z.1 b 3 = nI (r 7 0) ∧ z.1 b 4 = nI (r 7 1) ∧ z.1 b 5 = nI (r 7 2) ∧ z.1 b 6 = nI (r 7 3) ∧ z.1 b 9 = nI (r 7 4) ∧ z.1 b 14 = nI (r 7 5)
theorem RX_of {z z' : xMem} {b b' : Nat} {r : sR} (h : ∀ k, k < 8 → z'.1 (b' + k) = z.1 (b + k)) (hr : RX z b r) : RX z' b' r := by
  obtain ⟨a1, a2, a3, a4, a5, a6, a7, c1, c2, c3, c4, c5, c6, c7⟩ := hr
  have h0 : z'.1 b' = z.1 b := h 0 (by decide)
  refine ⟨fun j => ?_, fun j => ?_, fun j => ?_, fun j => ?_, fun j => ?_, fun j => ?_, fun j => ?_, ?_, ?_, ?_, ?_, ?_, ?_, ?_⟩
  · rw [h 1 (by decide)]; exact a1 j
  · rw [h 2 (by decide)]; exact a2 j
  · rw [h 3 (by decide)]; exact a3 j
  · rw [h 4 (by decide)]; exact a4 j
  · rw [h 5 (by decide)]; exact a5 j
  · rw [h 6 (by decide)]; exact a6 j
  · rw [h 7 (by decide)]; exact a7 j
  · rw [h0]; exact c1
  · rw [h0]; exact c2
  · rw [h0]; exact c3
  · rw [h0]; exact c4
  · rw [h0]; exact c5
  · rw [h0]; exact c6
  · rw [h0]; exact c7
/-- the depth of the stack behind codes -/
def pDp : List Nat → Nat → Option Nat
  | [], d => some d
  | c :: l, d => if c ≤ 10005 then pDp l (d + 1) else if c = 10013 ∨ c = 10014 then (if 1 ≤ d then pDp l d else none) else (if 2 ≤ d then pDp l (d - 1) else none)
theorem pDp_app : ∀ (a b : List Nat) (d : Nat), pDp (a ++ b) d = (pDp a d).bind (pDp b)
  | [], b, d => rfl
  | c :: a, b, d => by
    simp only [List.cons_append, pDp]
    repeat' split
    all_goals first | exact pDp_app a b _ | rfl
def tOk (cs : List Nat) : Prop := pDp cs 0 = some 1 ∧ ∀ c ∈ cs, c ≤ 10014
theorem pG_dp (bt : Nat → Nat) (n : Nat) : ∀ f m o pos cs p, m ∈ [0, 1, 2, 3, 4, 5, 6, 7, 10, 11, 14, 15] → pG bt n f m o pos = (1, cs, p) → (∀ d, pDp cs (if m < 10 then d else d + 1) = some (d + 1)) ∧ ∀ c ∈ cs, c ≤ 10014
  | 0, m, o, pos, cs, p, _, h => by simp only [pG, Prod.mk.injEq] at h; exact absurd h.1 (by decide)
  | f + 1, m, o, pos, cs, p, hm, h => by
    have ih := pG_dp bt n f
    have hch : ∀ sub rest, (m, sub, rest) ∈ [(0, 1, 10), (1, 2, 11), (4, 5, 14), (5, 6, 15)] → (∀ d, pDp cs (if m < 10 then d else d + 1) = some (d + 1)) ∧ ∀ c ∈ cs, c ≤ 10014 := by
      intro sub rest hsr
      obtain ⟨g, t1, c1, p1, hg, h1, ht1, h2⟩ := pG_ch hsr h (by decide)
      have hgf : g = f := by omega
      subst hgf
      have h3 := h2.resolve_left (fun q => absurd q.2.1 (by decide))
      obtain ⟨e1, c2, h4, h5⟩ := h3
      rw [e1] at h1
      have hs : m < 10 ∧ sub < 10 ∧ ¬ rest < 10 ∧ sub ∈ [0, 1, 2, 3, 4, 5, 6, 7, 10, 11, 14, 15] ∧ rest ∈ [0, 1, 2, 3, 4, 5, 6, 7, 10, 11, 14, 15] := by
        simp only [List.mem_cons, Prod.mk.injEq, List.not_mem_nil, or_false] at hsr
        rcases hsr with ⟨rfl, rfl, rfl⟩ | ⟨rfl, rfl, rfl⟩ | ⟨rfl, rfl, rfl⟩ | ⟨rfl, rfl, rfl⟩ <;> decide
      have i1 := ih sub o pos c1 p1 hs.2.2.2.1 h1
      have i2 := ih rest o p1 c2 p hs.2.2.2.2 h4
      rw [h5 rfl]
      refine ⟨fun d => ?_, fun c hc => ?_⟩
      · have q1 := i1.1 d
        have q2 := i2.1 d
        rw [if_pos hs.2.1] at q1
        rw [if_neg hs.2.2.1] at q2
        rw [if_pos hs.1, pDp_app, q1]
        exact q2
      · rcases List.mem_append.mp hc with q | q
        · exact i1.2 c q
        · exact i2.2 c q
    have hmo : ∀ sub, (m, sub) ∈ [(10, 1), (11, 2), (14, 5), (15, 6)] → (∀ d, pDp cs (if m < 10 then d else d + 1) = some (d + 1)) ∧ ∀ c ∈ cs, c ≤ 10014 := by
      intro sub hsr
      obtain ⟨g, hg, h1⟩ := pG_mo hsr h (by decide)
      have hgf : g = f := by omega
      subst hgf
      have hs : ¬ m < 10 ∧ sub < 10 ∧ sub ∈ [0, 1, 2, 3, 4, 5, 6, 7, 10, 11, 14, 15] := by
        simp only [List.mem_cons, Prod.mk.injEq, List.not_mem_nil, or_false] at hsr
        rcases hsr with ⟨rfl, rfl⟩ | ⟨rfl, rfl⟩ | ⟨rfl, rfl⟩ | ⟨rfl, rfl⟩ <;> decide
      rcases h1 with ⟨-, -, q, -⟩ | ⟨hop, t1, c1, p1, h2, ht1, h3⟩
      · rw [q]
        exact ⟨fun d => by rw [if_neg hs.1]; rfl, fun c hc => by cases hc⟩
      · have h4 := h3.resolve_left (fun q => absurd q.2.1 (by decide))
        obtain ⟨e1, c2, h5, h6⟩ := h4
        rw [e1] at h2
        have i1 := ih sub o _ c1 p1 hs.2.2 h2
        have i2 := ih m o p1 c2 p hm h5
        have ht : 10006 ≤ (pTok bt n pos).1 ∧ (pTok bt n pos).1 ≤ 10012 := by
          simp only [pOp] at hop
          revert hop
          repeat' split
          all_goals (simp only [Bool.or_eq_true, beq_iff_eq]; omega)
        rw [h6 rfl]
        refine ⟨fun d => ?_, fun c hc => ?_⟩
        · have q1 := i1.1 (d + 1)
          have q2 := i2.1 d
          rw [if_pos hs.2.1] at q1
          rw [if_neg hs.1] at q2 ⊢
          rw [pDp_app, q1]
          show pDp ((pTok bt n pos).1 :: c2) (d + 1 + 1) = _
          rw [pDp, if_neg (by omega), if_neg (by omega), if_pos (by omega)]
          exact q2
        · rcases List.mem_append.mp hc with q | q
          · exact i1.2 c q
          · rcases List.mem_cons.mp q with q | q
            · omega
            · exact i2.2 c q
    simp only [List.mem_cons, List.not_mem_nil, or_false] at hm
    rcases hm with rfl | rfl | rfl | rfl | rfl | rfl | rfl | rfl | rfl | rfl | rfl | rfl
    · exact hch 1 10 (by decide)
    · exact hch 2 11 (by decide)
    · obtain ⟨g, hg, h1⟩ := pG_not h (by decide)
      have hgf : g = f := by omega
      subst hgf
      rcases h1 with ⟨-, h1⟩ | ⟨-, h1⟩
      · obtain ⟨-, t1, x1, p1, h2, -, h3⟩ := h1.resolve_left (fun q => absurd q.2.1 (by decide))
        obtain ⟨e1, -, e2, -⟩ := h3.resolve_left (fun q => absurd q.2.1 (by decide))
        rw [e1] at h2
        have i1 := ih 2 _ _ x1 p1 (by decide) h2
        rw [e2]
        refine ⟨fun d => ?_, fun c hc => ?_⟩
        · have q1 := i1.1 d
          rw [if_pos (by decide)] at q1 ⊢
          rw [pDp_app, q1]
          show pDp [10013] (d + 1) = _
          rw [pDp, if_neg (by decide), if_pos (by decide), if_pos (by omega)]
          rfl
        · rcases List.mem_append.mp hc with q | q
          · exact i1.2 c q
          · rw [List.mem_singleton.mp q]; decide
      · have i1 := ih 3 o pos cs p (by decide) h1
        exact i1
    · obtain ⟨g, t1, x1, p1, hg, h1, -, h2⟩ := pG_cmp h (by decide)
      have hgf : g = f := by omega
      subst hgf
      obtain ⟨e1, h3⟩ := h2.resolve_left (fun q => absurd q.2.1 (by decide))
      rw [e1] at h1
      have i1 : (∀ d, pDp x1 d = some (d + 1)) ∧ ∀ c ∈ x1, c ≤ 10014 := ih 4 o pos x1 p1 (by decide) h1
      show (∀ d, pDp cs d = some (d + 1)) ∧ ∀ c ∈ cs, c ≤ 10014
      rcases h3 with ⟨-, -, -, e2, -⟩ | ⟨ht, t2, x2, p2, h4, -, h5⟩
      · rw [e2]; exact i1
      · obtain ⟨e3, -, e4, -⟩ := h5.resolve_left (fun q => absurd q.2.1 (by decide))
        rw [e3] at h4
        have i2 : (∀ d, pDp x2 d = some (d + 1)) ∧ ∀ c ∈ x2, c ≤ 10014 := ih 4 o _ x2 p2 (by decide) h4
        rw [e4]
        refine ⟨fun d => ?_, fun c hc => ?_⟩
        · rw [pDp_app, i1.1 d]
          show pDp (x2 ++ _) (d + 1) = _
          rw [pDp_app, i2.1 (d + 1)]
          show pDp [(pTok bt n p1).1] (d + 1 + 1) = _
          rw [pDp, if_neg (by omega), if_neg (by omega), if_pos (by omega)]
          rfl
        · rcases List.mem_append.mp hc with q | q
          · exact i1.2 c q
          · rcases List.mem_append.mp q with q | q
            · exact i2.2 c q
            · rw [List.mem_singleton.mp q]; omega
    · exact hch 5 14 (by decide)
    · exact hch 6 15 (by decide)
    · obtain ⟨g, hg, h1⟩ := pG_min h (by decide)
      have hgf : g = f := by omega
      subst hgf
      rcases h1 with ⟨-, h1⟩ | ⟨-, h1⟩
      · obtain ⟨-, t1, x1, p1, h2, -, h3⟩ := h1.resolve_left (fun q => absurd q.2.1 (by decide))
        obtain ⟨e1, -, e2, -⟩ := h3.resolve_left (fun q => absurd q.2.1 (by decide))
        rw [e1] at h2
        have i1 := ih 6 _ _ x1 p1 (by decide) h2
        rw [e2]
        refine ⟨fun d => ?_, fun c hc => ?_⟩
        · have q1 := i1.1 d
          rw [if_pos (by decide)] at q1 ⊢
          rw [pDp_app, q1]
          show pDp [10014] (d + 1) = _
          rw [pDp, if_neg (by decide), if_pos (by decide), if_pos (by omega)]
          rfl
        · rcases List.mem_append.mp hc with q | q
          · exact i1.2 c q
          · rw [List.mem_singleton.mp q]; decide
      · have i1 := ih 7 o pos cs p (by decide) h1
        exact i1
    · obtain ⟨g, hg, h1⟩ := pG_one h (by decide)
      have hgf : g = f := by omega
      subst hgf
      show (∀ d, pDp cs d = some (d + 1)) ∧ ∀ c ∈ cs, c ≤ 10014
      rcases h1 with ⟨ht, -, e2, -⟩ | ⟨-, h1⟩ | ⟨-, -, e, -⟩
      · rw [e2]
        refine ⟨fun d => ?_, fun c hc => ?_⟩
        · rw [pDp, if_pos ht]; rfl
        · rw [List.mem_singleton.mp hc]; omega
      · obtain ⟨-, t1, x1, p1, h2, -, h3⟩ := h1.resolve_left (fun q => absurd q.2.1 (by decide))
        obtain ⟨e1, h4⟩ := h3.resolve_left (fun q => absurd q.2.1 (by decide))
        obtain ⟨-, -, e2, -⟩ := h4.resolve_right (fun q => absurd q.2.1 (by decide))
        rw [e1] at h2
        have i1 := ih 0 _ _ x1 p1 (by decide) h2
        rw [e2]; exact i1
      · exact absurd e (by decide)
    · exact hmo 1 (by decide)
    · exact hmo 2 (by decide)
    · exact hmo 5 (by decide)
    · exact hmo 6 (by decide)
theorem pPt_dp {bt : Nat → Nat} {n F key pos : Nat} {cs : List Nat} {p : Nat} (h : pPt bt n F key pos = (1, cs, p)) : tOk cs := by
  by_cases hk : (pTok bt n pos).1 = key
  · obtain ⟨t1, x1, p1, h1, -, h2⟩ := pPt_key h (by decide) hk
    obtain ⟨e1, h3⟩ := h2.resolve_left (fun q => absurd q.2.1 (by decide))
    obtain ⟨-, -, e2, -⟩ := h3.resolve_right (fun q => absurd q.2.1 (by decide))
    rw [e1] at h1
    have i := pG_dp bt n F 0 0 _ x1 p1 (by decide) h1
    rw [e2]
    exact ⟨i.1 0, i.2⟩
  · exact absurd (pPt_no h hk).1 (by decide)
theorem pTx_dp {bt : Nat → Nat} {n F : Nat} {c1 c2 c3 : List Nat} {p : Nat} (h : pTx bt n F = (1, (c1, c2, c3), p)) : tOk c1 ∧ tOk c2 ∧ tOk c3 := by
  obtain ⟨t1, x1, p1, h1, -, h2⟩ := pTx_of h (by decide)
  obtain ⟨e1, t2, x2, p2, h3, -, h4⟩ := h2.resolve_left (fun q => absurd q.2.1 (by decide))
  obtain ⟨e2, t3, x3, p3, h5, -, h6⟩ := h4.resolve_left (fun q => absurd q.2.1 (by decide))
  obtain ⟨e3, h7⟩ := h6.resolve_left (fun q => absurd q.2.1 (by decide))
  obtain ⟨-, -, f1, f2, f3⟩ := h7.resolve_right (fun q => absurd q.2.1 (by decide))
  rw [e1] at h1; rw [e2] at h3; rw [e3] at h5
  rw [f1, f2, f3]
  exact ⟨pPt_dp h1, pPt_dp h3, pPt_dp h5⟩
/-- one text of the class: a row of codes, a row of ends -/
def TXk (z : xMem) (a b : Nat) (c : sTc) : Prop := z.1 b 0 = nI c.1.length ∧ z.1 b 1 = nI (c.1.length + c.2.1.length) ∧ z.1 b 2 = nI (c.1.length + c.2.1.length + c.2.2.length) ∧ c.1.length + c.2.1.length + c.2.2.length ≤ 160 ∧ (∀ i, i < c.1.length + c.2.1.length + c.2.2.length → z.1 a i = nI ((c.1 ++ (c.2.1 ++ c.2.2)).getD i 0)) ∧ tOk c.1 ∧ tOk c.2.1 ∧ tOk c.2.2
/-- the texts, their object at t -/
def TX (z : xMem) (t cnt : Nat) (tc : Nat → sTc) : Prop := z.1 t 2 = nI cnt ∧ 1 ≤ cnt ∧ cnt ≤ 6 ∧ ∀ k, k < cnt → TXk z (t + 3 + k) (t + 9 + k) (tc k)
theorem TX_of {z z' : xMem} {t t' cnt : Nat} {tc : Nat → sTc} (h : ∀ k, k < 15 → z'.1 (t' + k) = z.1 (t + k)) (ht : TX z t cnt tc) : TX z' t' cnt tc := by
  obtain ⟨h1, h2, h3, h4⟩ := ht
  refine ⟨by have := h 0 (by decide); rw [show z'.1 t' = z.1 t from this]; exact h1, h2, h3, fun k hk => ?_⟩
  have q := h4 k hk
  have e1 : z'.1 (t' + 3 + k) = z.1 (t + 3 + k) := by rw [Nat.add_assoc, h (3 + k) (by omega), Nat.add_assoc]
  have e2 : z'.1 (t' + 9 + k) = z.1 (t + 9 + k) := by rw [Nat.add_assoc, h (9 + k) (by omega), Nat.add_assoc]
  unfold TXk at q ⊢
  rw [e1, e2]
  exact q
theorem gd_l {a b : List Nat} {i : Nat} (h : i < a.length) : (a ++ b).getD i 0 = a.getD i 0 := by
  simp only [List.getD, List.getElem?_append_left h]
theorem gd_r {a b : List Nat} {i : Nat} (h : a.length ≤ i) : (a ++ b).getD i 0 = b.getD (i - a.length) 0 := by
  simp only [List.getD, List.getElem?_append_right h]
theorem TXk_w {z : xMem} {a b w : Nat} {c : sTc} (h : TXk z a b c) (hw : w < 3) : ∃ s0, (w = 0 → s0 = 0) ∧ (w ≠ 0 → z.1 b (w - 1) = nI s0) ∧ z.1 b w = nI (s0 + (sPart w c).length) ∧ s0 + (sPart w c).length ≤ 160 ∧ (∀ i, i < (sPart w c).length → z.1 a (s0 + i) = nI ((sPart w c).getD i 0)) ∧ tOk (sPart w c) := by
  obtain ⟨h0, h1, h2, h3, h4, h5, h6, h7⟩ := h
  rcases (show w = 0 ∨ w = 1 ∨ w = 2 by omega) with rfl | rfl | rfl
  · refine ⟨0, fun _ => rfl, fun q => absurd rfl q, by rw [h0, Nat.zero_add]; rfl, ?_, fun i hi => ?_, h5⟩
    · show 0 + c.1.length ≤ 160; omega
    · have hi : i < c.1.length := hi
      rw [Nat.zero_add, h4 i (by omega)]
      show _ = nI (c.1.getD i 0)
      rw [gd_l hi]
  · refine ⟨c.1.length, fun q => absurd q (by decide), fun _ => h0, h1, ?_, fun i hi => ?_, h6⟩
    · show c.1.length + c.2.1.length ≤ 160; omega
    · have hi : i < c.2.1.length := hi
      rw [h4 _ (by omega)]
      show _ = nI (c.2.1.getD i 0)
      rw [gd_r (by omega), show c.1.length + i - c.1.length = i by omega, gd_l hi]
  · refine ⟨c.1.length + c.2.1.length, fun q => absurd q (by decide), fun _ => h1, h2, ?_, fun i hi => ?_, h7⟩
    · show c.1.length + c.2.1.length + c.2.2.length ≤ 160; omega
    · have hi : i < c.2.2.length := hi
      rw [h4 _ (by omega)]
      show _ = nI (c.2.2.getD i 0)
      rw [gd_r (by omega), gd_r (by omega)]
      congr 2
      omega
theorem bitC : ∀ n, n < 1024 → ((((((((nI n) - ((((nI n).toUInt32 >>> ((1 : Int32).toUInt32 &&& Int32.toUInt32 31)).toInt32) &&& 1431655765)) &&& 858993459) + (((((nI n) - ((((nI n).toUInt32 >>> ((1 : Int32).toUInt32 &&& Int32.toUInt32 31)).toInt32) &&& 1431655765)).toUInt32 >>> ((2 : Int32).toUInt32 &&& Int32.toUInt32 31)).toInt32) &&& 858993459)) + ((((((nI n) - ((((nI n).toUInt32 >>> ((1 : Int32).toUInt32 &&& Int32.toUInt32 31)).toInt32) &&& 1431655765)) &&& 858993459) + (((((nI n) - ((((nI n).toUInt32 >>> ((1 : Int32).toUInt32 &&& Int32.toUInt32 31)).toInt32) &&& 1431655765)).toUInt32 >>> ((2 : Int32).toUInt32 &&& Int32.toUInt32 31)).toInt32) &&& 858993459)).toUInt32 >>> ((4 : Int32).toUInt32 &&& Int32.toUInt32 31)).toInt32)) &&& 252645135) + ((((((((nI n) - ((((nI n).toUInt32 >>> ((1 : Int32).toUInt32 &&& Int32.toUInt32 31)).toInt32) &&& 1431655765)) &&& 858993459) + (((((nI n) - ((((nI n).toUInt32 >>> ((1 : Int32).toUInt32 &&& Int32.toUInt32 31)).toInt32) &&& 1431655765)).toUInt32 >>> ((2 : Int32).toUInt32 &&& Int32.toUInt32 31)).toInt32) &&& 858993459)) + ((((((nI n) - ((((nI n).toUInt32 >>> ((1 : Int32).toUInt32 &&& Int32.toUInt32 31)).toInt32) &&& 1431655765)) &&& 858993459) + (((((nI n) - ((((nI n).toUInt32 >>> ((1 : Int32).toUInt32 &&& Int32.toUInt32 31)).toInt32) &&& 1431655765)).toUInt32 >>> ((2 : Int32).toUInt32 &&& Int32.toUInt32 31)).toInt32) &&& 858993459)).toUInt32 >>> ((4 : Int32).toUInt32 &&& Int32.toUInt32 31)).toInt32)) &&& 252645135).toUInt32 >>> ((8 : Int32).toUInt32 &&& Int32.toUInt32 31)).toInt32)) + (((((((((nI n) - ((((nI n).toUInt32 >>> ((1 : Int32).toUInt32 &&& Int32.toUInt32 31)).toInt32) &&& 1431655765)) &&& 858993459) + (((((nI n) - ((((nI n).toUInt32 >>> ((1 : Int32).toUInt32 &&& Int32.toUInt32 31)).toInt32) &&& 1431655765)).toUInt32 >>> ((2 : Int32).toUInt32 &&& Int32.toUInt32 31)).toInt32) &&& 858993459)) + ((((((nI n) - ((((nI n).toUInt32 >>> ((1 : Int32).toUInt32 &&& Int32.toUInt32 31)).toInt32) &&& 1431655765)) &&& 858993459) + (((((nI n) - ((((nI n).toUInt32 >>> ((1 : Int32).toUInt32 &&& Int32.toUInt32 31)).toInt32) &&& 1431655765)).toUInt32 >>> ((2 : Int32).toUInt32 &&& Int32.toUInt32 31)).toInt32) &&& 858993459)).toUInt32 >>> ((4 : Int32).toUInt32 &&& Int32.toUInt32 31)).toInt32)) &&& 252645135) + ((((((((nI n) - ((((nI n).toUInt32 >>> ((1 : Int32).toUInt32 &&& Int32.toUInt32 31)).toInt32) &&& 1431655765)) &&& 858993459) + (((((nI n) - ((((nI n).toUInt32 >>> ((1 : Int32).toUInt32 &&& Int32.toUInt32 31)).toInt32) &&& 1431655765)).toUInt32 >>> ((2 : Int32).toUInt32 &&& Int32.toUInt32 31)).toInt32) &&& 858993459)) + ((((((nI n) - ((((nI n).toUInt32 >>> ((1 : Int32).toUInt32 &&& Int32.toUInt32 31)).toInt32) &&& 1431655765)) &&& 858993459) + (((((nI n) - ((((nI n).toUInt32 >>> ((1 : Int32).toUInt32 &&& Int32.toUInt32 31)).toInt32) &&& 1431655765)).toUInt32 >>> ((2 : Int32).toUInt32 &&& Int32.toUInt32 31)).toInt32) &&& 858993459)).toUInt32 >>> ((4 : Int32).toUInt32 &&& Int32.toUInt32 31)).toInt32)) &&& 252645135).toUInt32 >>> ((8 : Int32).toUInt32 &&& Int32.toUInt32 31)).toInt32)).toUInt32 >>> ((16 : Int32).toUInt32 &&& Int32.toUInt32 31)).toInt32)) &&& 63 = nI (sPop n) := by decide +kernel
set_option maxHeartbeats 4000000 in
set_option maxRecDepth 20000 in
theorem t_J6_bitCount_0f7a4 (l : Launch) (d : Nat) (n : Nat) (hn : n < 1024) (z : xMem) : XMi l d yJ6_bitCount_0f7a4 cJ6_bitCount_0f7a4 1 (some .int) [] [.int (nI n)] z (fun r _ => r = nI (sPop n)) := by
  refine XM.of (by decide) (Nat.le_of_ble_eq_true rfl) (fun xp xe xs xm xar xbl xme xc xD xcs xad xAA xCC xhr => ?_)
  generalize xhQ : MQ xbl _ xar xs 0 0 xAA = xQ
  show ww xp l xe (xRm d) xs xm xar xbl xme xc 1 xD xcs xad [] xAA xQ 0 [(0, .int (nI n))] [] z
  refine ww_blk xCC okJ6_bitCount_0f7a4 0 41 (ps := []) (pc' := 52) (lv' := [(0, .int ((((((((nI n) - ((((nI n).toUInt32 >>> ((1 : Int32).toUInt32 &&& Int32.toUInt32 31)).toInt32) &&& 1431655765)) &&& 858993459) + (((((nI n) - ((((nI n).toUInt32 >>> ((1 : Int32).toUInt32 &&& Int32.toUInt32 31)).toInt32) &&& 1431655765)).toUInt32 >>> ((2 : Int32).toUInt32 &&& Int32.toUInt32 31)).toInt32) &&& 858993459)) + ((((((nI n) - ((((nI n).toUInt32 >>> ((1 : Int32).toUInt32 &&& Int32.toUInt32 31)).toInt32) &&& 1431655765)) &&& 858993459) + (((((nI n) - ((((nI n).toUInt32 >>> ((1 : Int32).toUInt32 &&& Int32.toUInt32 31)).toInt32) &&& 1431655765)).toUInt32 >>> ((2 : Int32).toUInt32 &&& Int32.toUInt32 31)).toInt32) &&& 858993459)).toUInt32 >>> ((4 : Int32).toUInt32 &&& Int32.toUInt32 31)).toInt32)) &&& 252645135) + ((((((((nI n) - ((((nI n).toUInt32 >>> ((1 : Int32).toUInt32 &&& Int32.toUInt32 31)).toInt32) &&& 1431655765)) &&& 858993459) + (((((nI n) - ((((nI n).toUInt32 >>> ((1 : Int32).toUInt32 &&& Int32.toUInt32 31)).toInt32) &&& 1431655765)).toUInt32 >>> ((2 : Int32).toUInt32 &&& Int32.toUInt32 31)).toInt32) &&& 858993459)) + ((((((nI n) - ((((nI n).toUInt32 >>> ((1 : Int32).toUInt32 &&& Int32.toUInt32 31)).toInt32) &&& 1431655765)) &&& 858993459) + (((((nI n) - ((((nI n).toUInt32 >>> ((1 : Int32).toUInt32 &&& Int32.toUInt32 31)).toInt32) &&& 1431655765)).toUInt32 >>> ((2 : Int32).toUInt32 &&& Int32.toUInt32 31)).toInt32) &&& 858993459)).toUInt32 >>> ((4 : Int32).toUInt32 &&& Int32.toUInt32 31)).toInt32)) &&& 252645135).toUInt32 >>> ((8 : Int32).toUInt32 &&& Int32.toUInt32 31)).toInt32)) + (((((((((nI n) - ((((nI n).toUInt32 >>> ((1 : Int32).toUInt32 &&& Int32.toUInt32 31)).toInt32) &&& 1431655765)) &&& 858993459) + (((((nI n) - ((((nI n).toUInt32 >>> ((1 : Int32).toUInt32 &&& Int32.toUInt32 31)).toInt32) &&& 1431655765)).toUInt32 >>> ((2 : Int32).toUInt32 &&& Int32.toUInt32 31)).toInt32) &&& 858993459)) + ((((((nI n) - ((((nI n).toUInt32 >>> ((1 : Int32).toUInt32 &&& Int32.toUInt32 31)).toInt32) &&& 1431655765)) &&& 858993459) + (((((nI n) - ((((nI n).toUInt32 >>> ((1 : Int32).toUInt32 &&& Int32.toUInt32 31)).toInt32) &&& 1431655765)).toUInt32 >>> ((2 : Int32).toUInt32 &&& Int32.toUInt32 31)).toInt32) &&& 858993459)).toUInt32 >>> ((4 : Int32).toUInt32 &&& Int32.toUInt32 31)).toInt32)) &&& 252645135) + ((((((((nI n) - ((((nI n).toUInt32 >>> ((1 : Int32).toUInt32 &&& Int32.toUInt32 31)).toInt32) &&& 1431655765)) &&& 858993459) + (((((nI n) - ((((nI n).toUInt32 >>> ((1 : Int32).toUInt32 &&& Int32.toUInt32 31)).toInt32) &&& 1431655765)).toUInt32 >>> ((2 : Int32).toUInt32 &&& Int32.toUInt32 31)).toInt32) &&& 858993459)) + ((((((nI n) - ((((nI n).toUInt32 >>> ((1 : Int32).toUInt32 &&& Int32.toUInt32 31)).toInt32) &&& 1431655765)) &&& 858993459) + (((((nI n) - ((((nI n).toUInt32 >>> ((1 : Int32).toUInt32 &&& Int32.toUInt32 31)).toInt32) &&& 1431655765)).toUInt32 >>> ((2 : Int32).toUInt32 &&& Int32.toUInt32 31)).toInt32) &&& 858993459)).toUInt32 >>> ((4 : Int32).toUInt32 &&& Int32.toUInt32 31)).toInt32)) &&& 252645135).toUInt32 >>> ((8 : Int32).toUInt32 &&& Int32.toUInt32 31)).toInt32)).toUInt32 >>> ((16 : Int32).toUInt32 &&& Int32.toUInt32 31)).toInt32)))]) (st' := [.int (((((((((nI n) - ((((nI n).toUInt32 >>> ((1 : Int32).toUInt32 &&& Int32.toUInt32 31)).toInt32) &&& 1431655765)) &&& 858993459) + (((((nI n) - ((((nI n).toUInt32 >>> ((1 : Int32).toUInt32 &&& Int32.toUInt32 31)).toInt32) &&& 1431655765)).toUInt32 >>> ((2 : Int32).toUInt32 &&& Int32.toUInt32 31)).toInt32) &&& 858993459)) + ((((((nI n) - ((((nI n).toUInt32 >>> ((1 : Int32).toUInt32 &&& Int32.toUInt32 31)).toInt32) &&& 1431655765)) &&& 858993459) + (((((nI n) - ((((nI n).toUInt32 >>> ((1 : Int32).toUInt32 &&& Int32.toUInt32 31)).toInt32) &&& 1431655765)).toUInt32 >>> ((2 : Int32).toUInt32 &&& Int32.toUInt32 31)).toInt32) &&& 858993459)).toUInt32 >>> ((4 : Int32).toUInt32 &&& Int32.toUInt32 31)).toInt32)) &&& 252645135) + ((((((((nI n) - ((((nI n).toUInt32 >>> ((1 : Int32).toUInt32 &&& Int32.toUInt32 31)).toInt32) &&& 1431655765)) &&& 858993459) + (((((nI n) - ((((nI n).toUInt32 >>> ((1 : Int32).toUInt32 &&& Int32.toUInt32 31)).toInt32) &&& 1431655765)).toUInt32 >>> ((2 : Int32).toUInt32 &&& Int32.toUInt32 31)).toInt32) &&& 858993459)) + ((((((nI n) - ((((nI n).toUInt32 >>> ((1 : Int32).toUInt32 &&& Int32.toUInt32 31)).toInt32) &&& 1431655765)) &&& 858993459) + (((((nI n) - ((((nI n).toUInt32 >>> ((1 : Int32).toUInt32 &&& Int32.toUInt32 31)).toInt32) &&& 1431655765)).toUInt32 >>> ((2 : Int32).toUInt32 &&& Int32.toUInt32 31)).toInt32) &&& 858993459)).toUInt32 >>> ((4 : Int32).toUInt32 &&& Int32.toUInt32 31)).toInt32)) &&& 252645135).toUInt32 >>> ((8 : Int32).toUInt32 &&& Int32.toUInt32 31)).toInt32)) + (((((((((nI n) - ((((nI n).toUInt32 >>> ((1 : Int32).toUInt32 &&& Int32.toUInt32 31)).toInt32) &&& 1431655765)) &&& 858993459) + (((((nI n) - ((((nI n).toUInt32 >>> ((1 : Int32).toUInt32 &&& Int32.toUInt32 31)).toInt32) &&& 1431655765)).toUInt32 >>> ((2 : Int32).toUInt32 &&& Int32.toUInt32 31)).toInt32) &&& 858993459)) + ((((((nI n) - ((((nI n).toUInt32 >>> ((1 : Int32).toUInt32 &&& Int32.toUInt32 31)).toInt32) &&& 1431655765)) &&& 858993459) + (((((nI n) - ((((nI n).toUInt32 >>> ((1 : Int32).toUInt32 &&& Int32.toUInt32 31)).toInt32) &&& 1431655765)).toUInt32 >>> ((2 : Int32).toUInt32 &&& Int32.toUInt32 31)).toInt32) &&& 858993459)).toUInt32 >>> ((4 : Int32).toUInt32 &&& Int32.toUInt32 31)).toInt32)) &&& 252645135) + ((((((((nI n) - ((((nI n).toUInt32 >>> ((1 : Int32).toUInt32 &&& Int32.toUInt32 31)).toInt32) &&& 1431655765)) &&& 858993459) + (((((nI n) - ((((nI n).toUInt32 >>> ((1 : Int32).toUInt32 &&& Int32.toUInt32 31)).toInt32) &&& 1431655765)).toUInt32 >>> ((2 : Int32).toUInt32 &&& Int32.toUInt32 31)).toInt32) &&& 858993459)) + ((((((nI n) - ((((nI n).toUInt32 >>> ((1 : Int32).toUInt32 &&& Int32.toUInt32 31)).toInt32) &&& 1431655765)) &&& 858993459) + (((((nI n) - ((((nI n).toUInt32 >>> ((1 : Int32).toUInt32 &&& Int32.toUInt32 31)).toInt32) &&& 1431655765)).toUInt32 >>> ((2 : Int32).toUInt32 &&& Int32.toUInt32 31)).toInt32) &&& 858993459)).toUInt32 >>> ((4 : Int32).toUInt32 &&& Int32.toUInt32 31)).toInt32)) &&& 252645135).toUInt32 >>> ((8 : Int32).toUInt32 &&& Int32.toUInt32 31)).toInt32)).toUInt32 >>> ((16 : Int32).toUInt32 &&& Int32.toUInt32 31)).toInt32)) &&& 63)]) (z' := z) rfl trivial ?_
  subst xhQ
  exact ww_iret xCC okJ6_bitCount_0f7a4 41 xhr rfl rfl ⟨_, rfl, (bitC n hn)⟩

set_option maxHeartbeats 4000000 in
set_option maxRecDepth 20000 in
theorem t_X4_fact (l : Launch) (d : Nat) (c p e : Nat) (z : xMem) (r : sR) (cnt : Nat) (hr : RX z 0 r) (hw : sW r cnt) (hc : 10000 ≤ c ∧ c ≤ 10005) (hp : p < 4) (he : e < 10) : XMi l (d + 1) yX4_fact cX4_fact 4 (some .int) shR [.int (nI c), .ref 0, .int (nI p), .int (nI e)] z (fun v z' => v = sF r p e c ∧ z' = z) := by
  refine XM.of (by decide) (Nat.le_of_ble_eq_true rfl) (fun xp xe xs xm xar xbl xme xc xD xcs xad xAA xCC xhr => ?_)
  generalize xhQ : MQ xbl _ xar xs 0 0 xAA = xQ
  show ww xp l xe (xRm (d + 1)) xs xm xar xbl xme xc 4 xD xcs xad shR xAA xQ 0 [(0, .int (nI c)), (1, .ref 0), (2, .int (nI p)), (3, .int (nI e))] [] z
  have hb := hw.1
  refine ww_blk xCC okX4_fact 0 1 (ps := []) (pc' := 1) (lv' := [(0, .int (nI c)), (1, .ref 0), (2, .int (nI p)), (3, .int (nI e))]) (st' := [.int (nI c)]) (z' := z) rfl trivial ?_
  refine ww_sw xCC okX4_fact 1 (x := (nI c)) (L := [(10000, 36), (10001, 43), (10002, 53), (10003, 60), (10004, 65)]) (P := (nI c).toInt < 10000 ∨ 10004 < (nI c).toInt) (t0 := 72) (r := []) rfl (fun c1 => ?_) (And.intro (fun c1 => ?_) (And.intro (fun c1 => ?_) (And.intro (fun c1 => ?_) (And.intro (fun c1 => ?_) ((fun c1 => ?_))))))
  · skip
    refine ww_blk xCC okX4_fact 26 2 (ps := []) (pc' := 76) (lv' := [(0, .int (nI c)), (1, .ref 0), (2, .int (nI p)), (3, .int (nI e))]) (st' := [.int (z.1 0 2)]) (z' := z) rfl trivial ?_
    rw [show z.1 0 2 = nI (sAl (r 0) 8) from hr.2.2.2.2.2.2.2.1]
    refine ww_callSNi xCC okX4_fact 28 (ix := 58) (t_J6_bitCount_0f7a4 l d (sAl (r 0) 8) (Nat.lt_of_lt_of_le (sAl_lt (r 0) 8) (by decide)) _) (by omega) (by decide) xyJ6_bitCount_0f7a4 xiJ6_bitCount_0f7a4 (Or.inl (lw_gt_of (List.mem_of_getElem? (i := 371) (by decide +kernel)) rfl)) rfl (rest := []) rfl (Nat.le_of_ble_eq_true rfl) rfl (fun v4 z2 h3 => ?_)
    rw [h3]
    subst xhQ
    exact ww_iret xCC okX4_fact 29 xhr rfl rfl ⟨_, rfl, ⟨(by have q := c1; first | (have q := (sEQ (a := c) (b := 10000) (by omega) (by omega)).mp q; rw [q]; rfl) | (have q := (sEQ (a := c) (b := 10001) (by omega) (by omega)).mp q; rw [q]; rfl) | (have q := (sEQ (a := c) (b := 10002) (by omega) (by omega)).mp q; rw [q]; rfl) | (have q := (sEQ (a := c) (b := 10003) (by omega) (by omega)).mp q; rw [q]; rfl) | (have q := (sEQ (a := c) (b := 10004) (by omega) (by omega)).mp q; rw [q]; rfl) | (rw [sTI (k := c) (by omega)] at q; rw [show c = 10005 by omega]; rfl)), rfl⟩⟩
  · have c1 : (nI c) = 10000 := c1
    show ww xp l xe (xRm (d + 1)) xs xm xar xbl xme xc 4 xD xcs xad shR xAA xQ 36 [(0, .int (nI c)), (1, .ref 0), (2, .int (nI p)), (3, .int (nI e))] [] z
    refine ww_blk xCC okX4_fact 2 4 (ps := [vp_in (nI e) 10]) (pc' := 42) (lv' := [(0, .int (nI c)), (1, .ref 0), (2, .int (nI p)), (3, .int (nI e))]) (st' := [.int (z.1 3 (nI e).toNatClampNeg)]) (z' := z) rfl (vp_in_nI (by omega) (by decide)) ?_
    rw [sCL (n := e) (by omega)]
    rw [show z.1 3 e = nI (r 2 e) from hr.2.2.1 e]
    subst xhQ
    exact ww_iret xCC okX4_fact 6 xhr rfl rfl ⟨_, rfl, ⟨(by have q := c1; first | (have q := (sEQ (a := c) (b := 10000) (by omega) (by omega)).mp q; rw [q]; rfl) | (have q := (sEQ (a := c) (b := 10001) (by omega) (by omega)).mp q; rw [q]; rfl) | (have q := (sEQ (a := c) (b := 10002) (by omega) (by omega)).mp q; rw [q]; rfl) | (have q := (sEQ (a := c) (b := 10003) (by omega) (by omega)).mp q; rw [q]; rfl) | (have q := (sEQ (a := c) (b := 10004) (by omega) (by omega)).mp q; rw [q]; rfl) | (rw [sTI (k := c) (by omega)] at q; rw [show c = 10005 by omega]; rfl)), rfl⟩⟩
  · have c1 : (nI c) = 10001 := c1
    show ww xp l xe (xRm (d + 1)) xs xm xar xbl xme xc 4 xD xcs xad shR xAA xQ 43 [(0, .int (nI c)), (1, .ref 0), (2, .int (nI p)), (3, .int (nI e))] [] z
    refine ww_blk xCC okX4_fact 7 4 (ps := [vp_in (nI e) 10]) (pc' := 49) (lv' := [(0, .int (nI c)), (1, .ref 0), (2, .int (nI p)), (3, .int (nI e))]) (st' := [.int (z.1 2 (nI e).toNatClampNeg)]) (z' := z) rfl (vp_in_nI (by omega) (by decide)) ?_
    rw [sCL (n := e) (by omega)]
    rw [show z.1 2 e = nI (r 1 e) from hr.2.1 e]
    refine ww_callSNi xCC okX4_fact 11 (ix := 58) (t_J6_bitCount_0f7a4 l d (r 1 e) (Nat.lt_trans (hb e).2.1 (by decide)) _) (by omega) (by decide) xyJ6_bitCount_0f7a4 xiJ6_bitCount_0f7a4 (Or.inl (lw_gt_of (List.mem_of_getElem? (i := 371) (by decide +kernel)) rfl)) rfl (rest := []) rfl (Nat.le_of_ble_eq_true rfl) rfl (fun v7 z5 h6 => ?_)
    rw [h6]
    subst xhQ
    exact ww_iret xCC okX4_fact 12 xhr rfl rfl ⟨_, rfl, ⟨(by have q := c1; first | (have q := (sEQ (a := c) (b := 10000) (by omega) (by omega)).mp q; rw [q]; rfl) | (have q := (sEQ (a := c) (b := 10001) (by omega) (by omega)).mp q; rw [q]; rfl) | (have q := (sEQ (a := c) (b := 10002) (by omega) (by omega)).mp q; rw [q]; rfl) | (have q := (sEQ (a := c) (b := 10003) (by omega) (by omega)).mp q; rw [q]; rfl) | (have q := (sEQ (a := c) (b := 10004) (by omega) (by omega)).mp q; rw [q]; rfl) | (rw [sTI (k := c) (by omega)] at q; rw [show c = 10005 by omega]; rfl)), rfl⟩⟩
  · have c1 : (nI c) = 10002 := c1
    show ww xp l xe (xRm (d + 1)) xs xm xar xbl xme xc 4 xD xcs xad shR xAA xQ 53 [(0, .int (nI c)), (1, .ref 0), (2, .int (nI p)), (3, .int (nI e))] [] z
    refine ww_blk xCC okX4_fact 13 4 (ps := [vp_in (nI p) 4]) (pc' := 59) (lv' := [(0, .int (nI c)), (1, .ref 0), (2, .int (nI p)), (3, .int (nI e))]) (st' := [.int (z.1 5 (nI p).toNatClampNeg)]) (z' := z) rfl (vp_in_nI (by omega) (by decide)) ?_
    rw [sCL (n := p) (by omega)]
    rw [show z.1 5 p = nI (r 4 p) from hr.2.2.2.2.1 p]
    subst xhQ
    exact ww_iret xCC okX4_fact 17 xhr rfl rfl ⟨_, rfl, ⟨(by have q := c1; first | (have q := (sEQ (a := c) (b := 10000) (by omega) (by omega)).mp q; rw [q]; rfl) | (have q := (sEQ (a := c) (b := 10001) (by omega) (by omega)).mp q; rw [q]; rfl) | (have q := (sEQ (a := c) (b := 10002) (by omega) (by omega)).mp q; rw [q]; rfl) | (have q := (sEQ (a := c) (b := 10003) (by omega) (by omega)).mp q; rw [q]; rfl) | (have q := (sEQ (a := c) (b := 10004) (by omega) (by omega)).mp q; rw [q]; rfl) | (rw [sTI (k := c) (by omega)] at q; rw [show c = 10005 by omega]; rfl)), rfl⟩⟩
  · have c1 : (nI c) = 10003 := c1
    show ww xp l xe (xRm (d + 1)) xs xm xar xbl xme xc 4 xD xcs xad shR xAA xQ 60 [(0, .int (nI c)), (1, .ref 0), (2, .int (nI p)), (3, .int (nI e))] [] z
    refine ww_blk xCC okX4_fact 18 2 (ps := []) (pc' := 64) (lv' := [(0, .int (nI c)), (1, .ref 0), (2, .int (nI p)), (3, .int (nI e))]) (st' := [.int (z.1 0 5)]) (z' := z) rfl trivial ?_
    rw [show z.1 0 5 = nI (r 7 2) from hr.2.2.2.2.2.2.2.2.2.2.1]
    subst xhQ
    exact ww_iret xCC okX4_fact 20 xhr rfl rfl ⟨_, rfl, ⟨(by have q := c1; first | (have q := (sEQ (a := c) (b := 10000) (by omega) (by omega)).mp q; rw [q]; rfl) | (have q := (sEQ (a := c) (b := 10001) (by omega) (by omega)).mp q; rw [q]; rfl) | (have q := (sEQ (a := c) (b := 10002) (by omega) (by omega)).mp q; rw [q]; rfl) | (have q := (sEQ (a := c) (b := 10003) (by omega) (by omega)).mp q; rw [q]; rfl) | (have q := (sEQ (a := c) (b := 10004) (by omega) (by omega)).mp q; rw [q]; rfl) | (rw [sTI (k := c) (by omega)] at q; rw [show c = 10005 by omega]; rfl)), rfl⟩⟩
  · have c1 : (nI c) = 10004 := c1
    show ww xp l xe (xRm (d + 1)) xs xm xar xbl xme xc 4 xD xcs xad shR xAA xQ 65 [(0, .int (nI c)), (1, .ref 0), (2, .int (nI p)), (3, .int (nI e))] [] z
    refine ww_blk xCC okX4_fact 21 4 (ps := [vp_in (nI p) 4]) (pc' := 71) (lv' := [(0, .int (nI c)), (1, .ref 0), (2, .int (nI p)), (3, .int (nI e))]) (st' := [.int (z.1 7 (nI p).toNatClampNeg)]) (z' := z) rfl (vp_in_nI (by omega) (by decide)) ?_
    rw [sCL (n := p) (by omega)]
    rw [show z.1 7 p = nI (r 6 p) from hr.2.2.2.2.2.2.1 p]
    subst xhQ
    exact ww_iret xCC okX4_fact 25 xhr rfl rfl ⟨_, rfl, ⟨(by have q := c1; first | (have q := (sEQ (a := c) (b := 10000) (by omega) (by omega)).mp q; rw [q]; rfl) | (have q := (sEQ (a := c) (b := 10001) (by omega) (by omega)).mp q; rw [q]; rfl) | (have q := (sEQ (a := c) (b := 10002) (by omega) (by omega)).mp q; rw [q]; rfl) | (have q := (sEQ (a := c) (b := 10003) (by omega) (by omega)).mp q; rw [q]; rfl) | (have q := (sEQ (a := c) (b := 10004) (by omega) (by omega)).mp q; rw [q]; rfl) | (rw [sTI (k := c) (by omega)] at q; rw [show c = 10005 by omega]; rfl)), rfl⟩⟩

set_option maxHeartbeats 4000000 in
set_option maxRecDepth 20000 in
theorem t_X4_joined (l : Launch) (d : Nat) (c : Nat) (a b : Int32) (z : xMem) (hc : 10006 ≤ c ∧ c ≤ 10012) : XMi l d yX4_joined cX4_joined 3 (some .int) [] [.int (nI c), .int a, .int b] z (fun v _ => v = pJoin c a b) := by
  refine XM.of (by decide) (Nat.le_of_ble_eq_true rfl) (fun xp xe xs xm xar xbl xme xc xD xcs xad xAA xCC xhr => ?_)
  generalize xhQ : MQ xbl _ xar xs 0 0 xAA = xQ
  show ww xp l xe (xRm d) xs xm xar xbl xme xc 3 xD xcs xad [] xAA xQ 0 [(0, .int (nI c)), (1, .int a), (2, .int b)] [] z
  refine ww_blk xCC okX4_joined 0 1 (ps := []) (pc' := 1) (lv' := [(0, .int (nI c)), (1, .int a), (2, .int b)]) (st' := [.int (nI c)]) (z' := z) rfl trivial ?_
  refine ww_sw xCC okX4_joined 1 (x := (nI c)) (L := [(10006, 40), (10007, 54), (10008, 68), (10009, 79), (10010, 90), (10011, 94)]) (P := (nI c).toInt < 10006 ∨ 10011 < (nI c).toInt) (t0 := 98) (r := []) rfl (fun c1 => ?_) (And.intro (fun c1 => ?_) (And.intro (fun c1 => ?_) (And.intro (fun c1 => ?_) (And.intro (fun c1 => ?_) (And.intro (fun c1 => ?_) ((fun c1 => ?_)))))))
  · skip
    refine ww_blk xCC okX4_joined 40 3 (ps := []) (pc' := 101) (lv' := [(0, .int (nI c)), (1, .int a), (2, .int b)]) (st' := [.int (a * b)]) (z' := z) rfl trivial ?_
    subst xhQ
    exact ww_iret xCC okX4_joined 43 xhr rfl rfl ⟨_, rfl, (by have q := c1; first | (have q := (sEQ (a := c) (b := 10006) (by omega) (by omega)).mp q; rw [q]; unfold pJoin; grind) | (have q := (sEQ (a := c) (b := 10007) (by omega) (by omega)).mp q; rw [q]; unfold pJoin; grind) | (have q := (sEQ (a := c) (b := 10008) (by omega) (by omega)).mp q; rw [q]; unfold pJoin; first | (rw [if_neg (by decide), if_neg (by decide), if_pos rfl, if_neg (Int32.not_lt.mpr (by assumption))]) | (rw [if_neg (by decide), if_neg (by decide), if_pos rfl, if_pos (Int32.not_le.mp (by assumption))])) | (have q := (sEQ (a := c) (b := 10009) (by omega) (by omega)).mp q; rw [q]; unfold pJoin; grind) | (have q := (sEQ (a := c) (b := 10010) (by omega) (by omega)).mp q; rw [q]; rfl) | (have q := (sEQ (a := c) (b := 10011) (by omega) (by omega)).mp q; rw [q]; rfl) | (rw [sTI (k := c) (by omega)] at q; rw [show c = 10012 by omega]; rfl))⟩
  · have c1 : (nI c) = 10006 := c1
    show ww xp l xe (xRm d) xs xm xar xbl xme xc 3 xD xcs xad [] xAA xQ 40 [(0, .int (nI c)), (1, .int a), (2, .int b)] [] z
    refine ww_blk xCC okX4_joined 2 1 (ps := []) (pc' := 41) (lv' := [(0, .int (nI c)), (1, .int a), (2, .int b)]) (st' := [.int a]) (z' := z) rfl trivial ?_
    refine ww_br xCC okX4_joined 3 (P := a = 0) (t1 := 44) (t2 := 48) (r := []) rfl (fun c2 => ?_) (fun c2 => ?_)
    · skip
      refine ww_blk xCC okX4_joined 4 1 (ps := []) (pc' := 45) (lv' := [(0, .int (nI c)), (1, .int a), (2, .int b)]) (st' := [.int b]) (z' := z) rfl trivial ?_
      refine ww_br xCC okX4_joined 5 (P := b = 0) (t1 := 52) (t2 := 48) (r := []) rfl (fun c3 => ?_) (fun c3 => ?_)
      · skip
        refine ww_blk xCC okX4_joined 8 1 (ps := []) (pc' := 53) (lv' := [(0, .int (nI c)), (1, .int a), (2, .int b)]) (st' := [.int 0]) (z' := z) rfl trivial ?_
        subst xhQ
        exact ww_iret xCC okX4_joined 9 xhr rfl rfl ⟨_, rfl, (by have q := c1; first | (have q := (sEQ (a := c) (b := 10006) (by omega) (by omega)).mp q; rw [q]; unfold pJoin; grind) | (have q := (sEQ (a := c) (b := 10007) (by omega) (by omega)).mp q; rw [q]; unfold pJoin; grind) | (have q := (sEQ (a := c) (b := 10008) (by omega) (by omega)).mp q; rw [q]; unfold pJoin; first | (rw [if_neg (by decide), if_neg (by decide), if_pos rfl, if_neg (Int32.not_lt.mpr (by assumption))]) | (rw [if_neg (by decide), if_neg (by decide), if_pos rfl, if_pos (Int32.not_le.mp (by assumption))])) | (have q := (sEQ (a := c) (b := 10009) (by omega) (by omega)).mp q; rw [q]; unfold pJoin; grind) | (have q := (sEQ (a := c) (b := 10010) (by omega) (by omega)).mp q; rw [q]; rfl) | (have q := (sEQ (a := c) (b := 10011) (by omega) (by omega)).mp q; rw [q]; rfl) | (rw [sTI (k := c) (by omega)] at q; rw [show c = 10012 by omega]; rfl))⟩
      · skip
        refine ww_blk xCC okX4_joined 6 2 (ps := []) (pc' := 53) (lv' := [(0, .int (nI c)), (1, .int a), (2, .int b)]) (st' := [.int 1]) (z' := z) rfl trivial ?_
        subst xhQ
        exact ww_iret xCC okX4_joined 9 xhr rfl rfl ⟨_, rfl, (by have q := c1; first | (have q := (sEQ (a := c) (b := 10006) (by omega) (by omega)).mp q; rw [q]; unfold pJoin; grind) | (have q := (sEQ (a := c) (b := 10007) (by omega) (by omega)).mp q; rw [q]; unfold pJoin; grind) | (have q := (sEQ (a := c) (b := 10008) (by omega) (by omega)).mp q; rw [q]; unfold pJoin; first | (rw [if_neg (by decide), if_neg (by decide), if_pos rfl, if_neg (Int32.not_lt.mpr (by assumption))]) | (rw [if_neg (by decide), if_neg (by decide), if_pos rfl, if_pos (Int32.not_le.mp (by assumption))])) | (have q := (sEQ (a := c) (b := 10009) (by omega) (by omega)).mp q; rw [q]; unfold pJoin; grind) | (have q := (sEQ (a := c) (b := 10010) (by omega) (by omega)).mp q; rw [q]; rfl) | (have q := (sEQ (a := c) (b := 10011) (by omega) (by omega)).mp q; rw [q]; rfl) | (rw [sTI (k := c) (by omega)] at q; rw [show c = 10012 by omega]; rfl))⟩
    · skip
      refine ww_blk xCC okX4_joined 6 2 (ps := []) (pc' := 53) (lv' := [(0, .int (nI c)), (1, .int a), (2, .int b)]) (st' := [.int 1]) (z' := z) rfl trivial ?_
      subst xhQ
      exact ww_iret xCC okX4_joined 9 xhr rfl rfl ⟨_, rfl, (by have q := c1; first | (have q := (sEQ (a := c) (b := 10006) (by omega) (by omega)).mp q; rw [q]; unfold pJoin; grind) | (have q := (sEQ (a := c) (b := 10007) (by omega) (by omega)).mp q; rw [q]; unfold pJoin; grind) | (have q := (sEQ (a := c) (b := 10008) (by omega) (by omega)).mp q; rw [q]; unfold pJoin; first | (rw [if_neg (by decide), if_neg (by decide), if_pos rfl, if_neg (Int32.not_lt.mpr (by assumption))]) | (rw [if_neg (by decide), if_neg (by decide), if_pos rfl, if_pos (Int32.not_le.mp (by assumption))])) | (have q := (sEQ (a := c) (b := 10009) (by omega) (by omega)).mp q; rw [q]; unfold pJoin; grind) | (have q := (sEQ (a := c) (b := 10010) (by omega) (by omega)).mp q; rw [q]; rfl) | (have q := (sEQ (a := c) (b := 10011) (by omega) (by omega)).mp q; rw [q]; rfl) | (rw [sTI (k := c) (by omega)] at q; rw [show c = 10012 by omega]; rfl))⟩
  · have c1 : (nI c) = 10007 := c1
    show ww xp l xe (xRm d) xs xm xar xbl xme xc 3 xD xcs xad [] xAA xQ 54 [(0, .int (nI c)), (1, .int a), (2, .int b)] [] z
    refine ww_blk xCC okX4_joined 10 1 (ps := []) (pc' := 55) (lv' := [(0, .int (nI c)), (1, .int a), (2, .int b)]) (st' := [.int a]) (z' := z) rfl trivial ?_
    refine ww_br xCC okX4_joined 11 (P := a = 0) (t1 := 66) (t2 := 58) (r := []) rfl (fun c4 => ?_) (fun c4 => ?_)
    · skip
      refine ww_blk xCC okX4_joined 16 1 (ps := []) (pc' := 67) (lv' := [(0, .int (nI c)), (1, .int a), (2, .int b)]) (st' := [.int 0]) (z' := z) rfl trivial ?_
      subst xhQ
      exact ww_iret xCC okX4_joined 17 xhr rfl rfl ⟨_, rfl, (by have q := c1; first | (have q := (sEQ (a := c) (b := 10006) (by omega) (by omega)).mp q; rw [q]; unfold pJoin; grind) | (have q := (sEQ (a := c) (b := 10007) (by omega) (by omega)).mp q; rw [q]; unfold pJoin; grind) | (have q := (sEQ (a := c) (b := 10008) (by omega) (by omega)).mp q; rw [q]; unfold pJoin; first | (rw [if_neg (by decide), if_neg (by decide), if_pos rfl, if_neg (Int32.not_lt.mpr (by assumption))]) | (rw [if_neg (by decide), if_neg (by decide), if_pos rfl, if_pos (Int32.not_le.mp (by assumption))])) | (have q := (sEQ (a := c) (b := 10009) (by omega) (by omega)).mp q; rw [q]; unfold pJoin; grind) | (have q := (sEQ (a := c) (b := 10010) (by omega) (by omega)).mp q; rw [q]; rfl) | (have q := (sEQ (a := c) (b := 10011) (by omega) (by omega)).mp q; rw [q]; rfl) | (rw [sTI (k := c) (by omega)] at q; rw [show c = 10012 by omega]; rfl))⟩
    · skip
      refine ww_blk xCC okX4_joined 12 1 (ps := []) (pc' := 59) (lv' := [(0, .int (nI c)), (1, .int a), (2, .int b)]) (st' := [.int b]) (z' := z) rfl trivial ?_
      refine ww_br xCC okX4_joined 13 (P := b = 0) (t1 := 66) (t2 := 62) (r := []) rfl (fun c5 => ?_) (fun c5 => ?_)
      · skip
        refine ww_blk xCC okX4_joined 16 1 (ps := []) (pc' := 67) (lv' := [(0, .int (nI c)), (1, .int a), (2, .int b)]) (st' := [.int 0]) (z' := z) rfl trivial ?_
        subst xhQ
        exact ww_iret xCC okX4_joined 17 xhr rfl rfl ⟨_, rfl, (by have q := c1; first | (have q := (sEQ (a := c) (b := 10006) (by omega) (by omega)).mp q; rw [q]; unfold pJoin; grind) | (have q := (sEQ (a := c) (b := 10007) (by omega) (by omega)).mp q; rw [q]; unfold pJoin; grind) | (have q := (sEQ (a := c) (b := 10008) (by omega) (by omega)).mp q; rw [q]; unfold pJoin; first | (rw [if_neg (by decide), if_neg (by decide), if_pos rfl, if_neg (Int32.not_lt.mpr (by assumption))]) | (rw [if_neg (by decide), if_neg (by decide), if_pos rfl, if_pos (Int32.not_le.mp (by assumption))])) | (have q := (sEQ (a := c) (b := 10009) (by omega) (by omega)).mp q; rw [q]; unfold pJoin; grind) | (have q := (sEQ (a := c) (b := 10010) (by omega) (by omega)).mp q; rw [q]; rfl) | (have q := (sEQ (a := c) (b := 10011) (by omega) (by omega)).mp q; rw [q]; rfl) | (rw [sTI (k := c) (by omega)] at q; rw [show c = 10012 by omega]; rfl))⟩
      · skip
        refine ww_blk xCC okX4_joined 14 2 (ps := []) (pc' := 67) (lv' := [(0, .int (nI c)), (1, .int a), (2, .int b)]) (st' := [.int 1]) (z' := z) rfl trivial ?_
        subst xhQ
        exact ww_iret xCC okX4_joined 17 xhr rfl rfl ⟨_, rfl, (by have q := c1; first | (have q := (sEQ (a := c) (b := 10006) (by omega) (by omega)).mp q; rw [q]; unfold pJoin; grind) | (have q := (sEQ (a := c) (b := 10007) (by omega) (by omega)).mp q; rw [q]; unfold pJoin; grind) | (have q := (sEQ (a := c) (b := 10008) (by omega) (by omega)).mp q; rw [q]; unfold pJoin; first | (rw [if_neg (by decide), if_neg (by decide), if_pos rfl, if_neg (Int32.not_lt.mpr (by assumption))]) | (rw [if_neg (by decide), if_neg (by decide), if_pos rfl, if_pos (Int32.not_le.mp (by assumption))])) | (have q := (sEQ (a := c) (b := 10009) (by omega) (by omega)).mp q; rw [q]; unfold pJoin; grind) | (have q := (sEQ (a := c) (b := 10010) (by omega) (by omega)).mp q; rw [q]; rfl) | (have q := (sEQ (a := c) (b := 10011) (by omega) (by omega)).mp q; rw [q]; rfl) | (rw [sTI (k := c) (by omega)] at q; rw [show c = 10012 by omega]; rfl))⟩
  · have c1 : (nI c) = 10008 := c1
    show ww xp l xe (xRm d) xs xm xar xbl xme xc 3 xD xcs xad [] xAA xQ 68 [(0, .int (nI c)), (1, .int a), (2, .int b)] [] z
    refine ww_blk xCC okX4_joined 18 2 (ps := []) (pc' := 70) (lv' := [(0, .int (nI c)), (1, .int a), (2, .int b)]) (st' := [.int b, .int a]) (z' := z) rfl trivial ?_
    refine ww_br xCC okX4_joined 20 (P := b ≤ a) (t1 := 77) (t2 := 73) (r := []) rfl (fun c6 => ?_) (fun c6 => ?_)
    · skip
      refine ww_blk xCC okX4_joined 23 1 (ps := []) (pc' := 78) (lv' := [(0, .int (nI c)), (1, .int a), (2, .int b)]) (st' := [.int 0]) (z' := z) rfl trivial ?_
      subst xhQ
      exact ww_iret xCC okX4_joined 24 xhr rfl rfl ⟨_, rfl, (by have q := c1; first | (have q := (sEQ (a := c) (b := 10006) (by omega) (by omega)).mp q; rw [q]; unfold pJoin; grind) | (have q := (sEQ (a := c) (b := 10007) (by omega) (by omega)).mp q; rw [q]; unfold pJoin; grind) | (have q := (sEQ (a := c) (b := 10008) (by omega) (by omega)).mp q; rw [q]; unfold pJoin; first | (rw [if_neg (by decide), if_neg (by decide), if_pos rfl, if_neg (Int32.not_lt.mpr (by assumption))]) | (rw [if_neg (by decide), if_neg (by decide), if_pos rfl, if_pos (Int32.not_le.mp (by assumption))])) | (have q := (sEQ (a := c) (b := 10009) (by omega) (by omega)).mp q; rw [q]; unfold pJoin; grind) | (have q := (sEQ (a := c) (b := 10010) (by omega) (by omega)).mp q; rw [q]; rfl) | (have q := (sEQ (a := c) (b := 10011) (by omega) (by omega)).mp q; rw [q]; rfl) | (rw [sTI (k := c) (by omega)] at q; rw [show c = 10012 by omega]; rfl))⟩
    · skip
      refine ww_blk xCC okX4_joined 21 2 (ps := []) (pc' := 78) (lv' := [(0, .int (nI c)), (1, .int a), (2, .int b)]) (st' := [.int 1]) (z' := z) rfl trivial ?_
      subst xhQ
      exact ww_iret xCC okX4_joined 24 xhr rfl rfl ⟨_, rfl, (by have q := c1; first | (have q := (sEQ (a := c) (b := 10006) (by omega) (by omega)).mp q; rw [q]; unfold pJoin; grind) | (have q := (sEQ (a := c) (b := 10007) (by omega) (by omega)).mp q; rw [q]; unfold pJoin; grind) | (have q := (sEQ (a := c) (b := 10008) (by omega) (by omega)).mp q; rw [q]; unfold pJoin; first | (rw [if_neg (by decide), if_neg (by decide), if_pos rfl, if_neg (Int32.not_lt.mpr (by assumption))]) | (rw [if_neg (by decide), if_neg (by decide), if_pos rfl, if_pos (Int32.not_le.mp (by assumption))])) | (have q := (sEQ (a := c) (b := 10009) (by omega) (by omega)).mp q; rw [q]; unfold pJoin; grind) | (have q := (sEQ (a := c) (b := 10010) (by omega) (by omega)).mp q; rw [q]; rfl) | (have q := (sEQ (a := c) (b := 10011) (by omega) (by omega)).mp q; rw [q]; rfl) | (rw [sTI (k := c) (by omega)] at q; rw [show c = 10012 by omega]; rfl))⟩
  · have c1 : (nI c) = 10009 := c1
    show ww xp l xe (xRm d) xs xm xar xbl xme xc 3 xD xcs xad [] xAA xQ 79 [(0, .int (nI c)), (1, .int a), (2, .int b)] [] z
    refine ww_blk xCC okX4_joined 25 2 (ps := []) (pc' := 81) (lv' := [(0, .int (nI c)), (1, .int a), (2, .int b)]) (st' := [.int b, .int a]) (z' := z) rfl trivial ?_
    refine ww_br xCC okX4_joined 27 (P := a = b) (t1 := 84) (t2 := 88) (r := []) rfl (fun c7 => ?_) (fun c7 => ?_)
    · skip
      refine ww_blk xCC okX4_joined 28 2 (ps := []) (pc' := 89) (lv' := [(0, .int (nI c)), (1, .int a), (2, .int b)]) (st' := [.int 1]) (z' := z) rfl trivial ?_
      subst xhQ
      exact ww_iret xCC okX4_joined 31 xhr rfl rfl ⟨_, rfl, (by have q := c1; first | (have q := (sEQ (a := c) (b := 10006) (by omega) (by omega)).mp q; rw [q]; unfold pJoin; grind) | (have q := (sEQ (a := c) (b := 10007) (by omega) (by omega)).mp q; rw [q]; unfold pJoin; grind) | (have q := (sEQ (a := c) (b := 10008) (by omega) (by omega)).mp q; rw [q]; unfold pJoin; first | (rw [if_neg (by decide), if_neg (by decide), if_pos rfl, if_neg (Int32.not_lt.mpr (by assumption))]) | (rw [if_neg (by decide), if_neg (by decide), if_pos rfl, if_pos (Int32.not_le.mp (by assumption))])) | (have q := (sEQ (a := c) (b := 10009) (by omega) (by omega)).mp q; rw [q]; unfold pJoin; grind) | (have q := (sEQ (a := c) (b := 10010) (by omega) (by omega)).mp q; rw [q]; rfl) | (have q := (sEQ (a := c) (b := 10011) (by omega) (by omega)).mp q; rw [q]; rfl) | (rw [sTI (k := c) (by omega)] at q; rw [show c = 10012 by omega]; rfl))⟩
    · skip
      refine ww_blk xCC okX4_joined 30 1 (ps := []) (pc' := 89) (lv' := [(0, .int (nI c)), (1, .int a), (2, .int b)]) (st' := [.int 0]) (z' := z) rfl trivial ?_
      subst xhQ
      exact ww_iret xCC okX4_joined 31 xhr rfl rfl ⟨_, rfl, (by have q := c1; first | (have q := (sEQ (a := c) (b := 10006) (by omega) (by omega)).mp q; rw [q]; unfold pJoin; grind) | (have q := (sEQ (a := c) (b := 10007) (by omega) (by omega)).mp q; rw [q]; unfold pJoin; grind) | (have q := (sEQ (a := c) (b := 10008) (by omega) (by omega)).mp q; rw [q]; unfold pJoin; first | (rw [if_neg (by decide), if_neg (by decide), if_pos rfl, if_neg (Int32.not_lt.mpr (by assumption))]) | (rw [if_neg (by decide), if_neg (by decide), if_pos rfl, if_pos (Int32.not_le.mp (by assumption))])) | (have q := (sEQ (a := c) (b := 10009) (by omega) (by omega)).mp q; rw [q]; unfold pJoin; grind) | (have q := (sEQ (a := c) (b := 10010) (by omega) (by omega)).mp q; rw [q]; rfl) | (have q := (sEQ (a := c) (b := 10011) (by omega) (by omega)).mp q; rw [q]; rfl) | (rw [sTI (k := c) (by omega)] at q; rw [show c = 10012 by omega]; rfl))⟩
  · have c1 : (nI c) = 10010 := c1
    show ww xp l xe (xRm d) xs xm xar xbl xme xc 3 xD xcs xad [] xAA xQ 90 [(0, .int (nI c)), (1, .int a), (2, .int b)] [] z
    refine ww_blk xCC okX4_joined 32 3 (ps := []) (pc' := 93) (lv' := [(0, .int (nI c)), (1, .int a), (2, .int b)]) (st' := [.int (a + b)]) (z' := z) rfl trivial ?_
    subst xhQ
    exact ww_iret xCC okX4_joined 35 xhr rfl rfl ⟨_, rfl, (by have q := c1; first | (have q := (sEQ (a := c) (b := 10006) (by omega) (by omega)).mp q; rw [q]; unfold pJoin; grind) | (have q := (sEQ (a := c) (b := 10007) (by omega) (by omega)).mp q; rw [q]; unfold pJoin; grind) | (have q := (sEQ (a := c) (b := 10008) (by omega) (by omega)).mp q; rw [q]; unfold pJoin; first | (rw [if_neg (by decide), if_neg (by decide), if_pos rfl, if_neg (Int32.not_lt.mpr (by assumption))]) | (rw [if_neg (by decide), if_neg (by decide), if_pos rfl, if_pos (Int32.not_le.mp (by assumption))])) | (have q := (sEQ (a := c) (b := 10009) (by omega) (by omega)).mp q; rw [q]; unfold pJoin; grind) | (have q := (sEQ (a := c) (b := 10010) (by omega) (by omega)).mp q; rw [q]; rfl) | (have q := (sEQ (a := c) (b := 10011) (by omega) (by omega)).mp q; rw [q]; rfl) | (rw [sTI (k := c) (by omega)] at q; rw [show c = 10012 by omega]; rfl))⟩
  · have c1 : (nI c) = 10011 := c1
    show ww xp l xe (xRm d) xs xm xar xbl xme xc 3 xD xcs xad [] xAA xQ 94 [(0, .int (nI c)), (1, .int a), (2, .int b)] [] z
    refine ww_blk xCC okX4_joined 36 3 (ps := []) (pc' := 97) (lv' := [(0, .int (nI c)), (1, .int a), (2, .int b)]) (st' := [.int (a - b)]) (z' := z) rfl trivial ?_
    subst xhQ
    exact ww_iret xCC okX4_joined 39 xhr rfl rfl ⟨_, rfl, (by have q := c1; first | (have q := (sEQ (a := c) (b := 10006) (by omega) (by omega)).mp q; rw [q]; unfold pJoin; grind) | (have q := (sEQ (a := c) (b := 10007) (by omega) (by omega)).mp q; rw [q]; unfold pJoin; grind) | (have q := (sEQ (a := c) (b := 10008) (by omega) (by omega)).mp q; rw [q]; unfold pJoin; first | (rw [if_neg (by decide), if_neg (by decide), if_pos rfl, if_neg (Int32.not_lt.mpr (by assumption))]) | (rw [if_neg (by decide), if_neg (by decide), if_pos rfl, if_pos (Int32.not_le.mp (by assumption))])) | (have q := (sEQ (a := c) (b := 10009) (by omega) (by omega)).mp q; rw [q]; unfold pJoin; grind) | (have q := (sEQ (a := c) (b := 10010) (by omega) (by omega)).mp q; rw [q]; rfl) | (have q := (sEQ (a := c) (b := 10011) (by omega) (by omega)).mp q; rw [q]; rfl) | (rw [sTI (k := c) (by omega)] at q; rw [show c = 10012 by omega]; rfl))⟩
