/-! the state of both worlds, and what each keeps of it -/
def GR (r : sR) (cnt : Nat) : Prop := sW r cnt ∧ r 7 2 ≤ 999 ∧ sSub r ∧ sZ r
theorem GR_74 {r : sR} {cnt : Nat} (h : GR r cnt) : r 7 4 ≤ 4 := h.1.2.2.2.2.2.2.1
theorem GR_set {tc : Nat → sTc} {r : sR} {cnt : Nat} {w x y : Int32} (h : GR r cnt) : GR (sSet tc r w x y).2 cnt := by
  refine ⟨sW_set h.1, ?_, sSub_set h.2.2.1, sZ_set h.2.2.2 (GR_74 h)⟩
  have h2 := h.2.1
  unfold sSet
  by_cases hk : sSok r w x y
  · rw [if_pos hk]
    show sLay r w.toInt.toNat x.toInt.toNat y.toInt.toNat 7 2 ≤ 999
    obtain ⟨k1, k2, k3, k4, k5⟩ := hk
    have h9 := sMost_le w.toInt.toNat
    unfold sLay
    repeat' split
    all_goals first | omega | (simp_all; done)
  · rw [if_neg hk]
    exact h2
theorem GR_person {r : sR} {cnt : Nat} {x y : Int32} (h : GR r cnt) : GR (sPerson r x y).2 cnt := by
  have hk := sPerson_keep (x := x) (y := y) h.2.2.1 h.2.2.2 (GR_74 h)
  refine ⟨?_, ?_, hk.1, hk.2⟩
  · unfold sPerson
    by_cases h1 : 0 ≤ x.toInt ∧ x.toInt ≤ 5 ∧ 0 ≤ y.toInt ∧ y.toInt ≤ 9
    · rw [if_pos h1]
      by_cases h2 : r 7 4 = 4
      · rw [if_pos h2]; exact h.1
      · rw [if_neg h2]; exact sW_per h.1 h2 (by omega) (by omega)
    · rw [if_neg h1]; exact h.1
  · have h2 := h.2.1
    unfold sPerson
    repeat' split
    all_goals first | exact h2 | (simp [sPer]; exact h2)
theorem GR_rq {it : Nat → Int32} {n a cnt : Nat} : ∀ m k r c, GR r cnt → GR (sRq it n a m k r c).2 cnt
  | 0, _, _, _, h => h
  | m + 1, k, r, c, h => by
    rw [sRq]
    split
    · exact GR_rq m _ _ _ (GR_person h)
    · exact h
theorem GR_rep {T : Nat → sSh} {r : sR} {cnt : Nat} {x y w v : Int32} (h : GR r cnt) : GR (sRep T r x y w v).2 cnt := by
  unfold sRep
  repeat' split
  all_goals first | exact h | exact GR_rq _ _ _ _ h
theorem GR_force {r : sR} {cnt t : Nat} (h : GR r cnt) (ht : t < cnt) : GR (sForce r t) cnt := by
  refine ⟨sW_force h.1 ht, ?_, sSub_force h.2.2.1, sZ_force h.2.2.2⟩
  have h2 := h.2.1
  simp [sForce]
  exact h2
theorem GR_done {tc : Nat → sTc} {r : sR} {cnt p e : Nat} (h : GR r cnt) (hp : p < 4) : GR (sDone tc r p e) cnt := by
  refine ⟨sW_done h.1 p e, ?_, sSub_done h.2.2.1, sZ_done h.2.2.2 hp⟩
  have h2 := h.2.1
  simp [sDone]
  exact h2
theorem GR_end {r : sR} {cnt : Nat} (h : GR r cnt) (h9 : ¬ r 7 2 = 999) : GR (sEnd r) cnt := by
  have h2 := h.2.1
  refine ⟨sW_end h.1 (by omega), ?_, sSub_end r, sZ_end h.2.2.2 (GR_74 h)⟩
  simp [sEnd]
  omega
theorem GR_bk {r rk : sR} {cnt : Nat} (h : GR r cnt) (hk : GR rk cnt) : GR (sBk r rk) cnt := by
  refine ⟨sW_bk h.1 hk.1, ?_, sSub_bk hk.2.2.1, sZ_bk h.2.2.2 hk.2.2.2⟩
  have h2 := hk.2.1
  simp [sBk]
  exact h2
theorem GR_cnt {r : sR} {a b : Nat} (h : GR r a) (hab : a ≤ b) : GR r b := ⟨sW_cnt h.1 hab, h.2⟩
def IG (r rk : sR) (kk cnt : Nat) : Prop := GR r cnt ∧ kk ≤ 1 ∧ (kk = 1 → GR rk cnt)
/-! the reference's memory -/
theorem RM_q {z z' : xMem} {r : sR} (h : ∀ q, 4 ≤ q → q ≤ 7 → z'.1 q = z.1 q) (h0 : ∀ j, (j = 4 ∨ (7 ≤ j ∧ j ≤ 15)) → z'.1 0 j = z.1 0 j) (hr : RM z r) : RM z' r := by
  obtain ⟨a1, a2, a3, a4, a5, a6, a7, b1, b2, b3, b4, b5, b6⟩ := hr
  have e4 := h 4 (by decide) (by decide)
  have e5 := h 5 (by decide) (by decide)
  have e6 := h 6 (by decide) (by decide)
  have e7 := h 7 (by decide) (by decide)
  refine ⟨fun j => ?_, fun j => ?_, fun j => ?_, fun j => ?_, fun j => ?_, fun j => ?_, fun j => ?_, ?_, ?_, ?_, ?_, ?_, ?_⟩
  · rw [e4]; exact a1 j
  · rw [e5]; exact a2 j
  · rw [e6]; exact a3 j
  · rw [e7]; exact a4 j
  · rw [e7]; exact a5 j
  · rw [e7]; exact a6 j
  · rw [e7]; exact a7 j
  · rw [h0 9 (by omega)]; exact b1
  · rw [h0 7 (by omega)]; exact b2
  · rw [h0 8 (by omega)]; exact b3
  · rw [h0 10 (by omega)]; exact b4
  · rw [h0 15 (by omega)]; exact b5
  · rw [h0 4 (by omega)]; exact b6
theorem TM_q {z z' : xMem} {cnt : Nat} {tc : Nat → sTc} (h1 : z'.1 1 = z.1 1) (h2 : z'.1 2 = z.1 2) (h3 : z'.1 0 3 = z.1 0 3) (ht : TM z cnt tc) : TM z' cnt tc := by
  obtain ⟨a, b, c, d⟩ := ht
  refine ⟨h3.trans a, b, c, fun t hl => ?_⟩
  obtain ⟨bt, n, p, a1, a2, a3, a4, a5⟩ := d t hl
  exact ⟨bt, n, p, by rw [h2]; exact a1, a2, fun i hi => by rw [h1]; exact a3 i hi, a4, a5⟩
theorem TP_q {z z' : xMem} {tn : Nat} {tb : Nat → Nat} (h6 : z'.1 0 6 = z.1 0 6) (h3 : z'.1 3 = z.1 3) (h : TP z tn tb) : TP z' tn tb := ⟨h6.trans h.1, h.2.1, fun i hi => by rw [h3]; exact h.2.2.1 i hi, h.2.2.2⟩
theorem SM_q {z z' : xMem} {T : Nat → sSh} (h : ∀ q, 14 ≤ q → q ≤ 17 → z'.1 q = z.1 q) (hT : SM z T) : SM z' T := by
  intro s hs
  have e4 := h 14 (by decide) (by decide)
  have e5 := h 15 (by decide) (by decide)
  have e6 := h 16 (by decide) (by decide)
  have e7 := h 17 (by decide) (by decide)
  rw [e4, e5, e6, e7]
  exact hT s hs
theorem KP_q {z z' : xMem} {kk : Nat} {rk : sR} (h : ∀ q, 10 ≤ q → q ≤ 13 → z'.1 q = z.1 q) (h0 : ∀ j, 40 ≤ j → j ≤ 45 → z'.1 0 j = z.1 0 j) (hk : KP z kk rk) : KP z' kk rk := by
  have e0 := h 10 (by decide) (by decide)
  have e1 := h 11 (by decide) (by decide)
  have e2 := h 12 (by decide) (by decide)
  have e3 := h 13 (by decide) (by decide)
  have f0 := h0 40 (by decide) (by decide)
  have f1 := h0 41 (by decide) (by decide)
  have f2 := h0 42 (by decide) (by decide)
  have f3 := h0 43 (by decide) (by decide)
  have f4 := h0 44 (by decide) (by decide)
  have f5 := h0 45 (by decide) (by decide)
  unfold KP KpR at hk ⊢
  rw [e0, e1, e2, e3, f0, f1, f2, f3, f4, f5]
  exact hk
def IM (z : xMem) (r rk : sR) (kk cnt : Nat) (tc : Nat → sTc) (tn : Nat) (tb : Nat → Nat) (T : Nat → sSh) : Prop := RM z r ∧ TM z cnt tc ∧ TP z tn tb ∧ SM z T ∧ KP z kk rk
section JIM
variable {z z' : xMem} {r rk : sR} {kk cnt : Nat} {tc : Nat → sTc} {tn : Nat} {tb : Nat → Nat} {T : Nat → sSh}
theorem IM_q (h : ∀ q, (1 ≤ q ∧ q ≤ 7) ∨ (10 ≤ q ∧ q ≤ 17) → z'.1 q = z.1 q) (h0 : ∀ j, j < 16 ∨ (40 ≤ j ∧ j ≤ 45) → z'.1 0 j = z.1 0 j) (hI : IM z r rk kk cnt tc tn tb T) : IM z' r rk kk cnt tc tn tb T :=
  ⟨RM_q (fun q _ _ => h q (by omega)) (fun j _ => h0 j (by omega)) hI.1, TM_q (h 1 (by omega)) (h 2 (by omega)) (h0 3 (by omega)) hI.2.1, TP_q (h0 6 (by omega)) (h 3 (by omega)) hI.2.2.1, SM_q (fun q _ _ => h q (by omega)) hI.2.2.2.1, KP_q (fun q _ _ => h q (by omega)) (fun j _ _ => h0 j (by omega)) hI.2.2.2.2⟩
theorem IM_K (h : KM z z') (hI : IM z r rk kk cnt tc tn tb T) : IM z' r rk kk cnt tc tn tb T := IM_q (fun q hq => h.1 q (by omega)) (fun j hj => h.2 j (by omega)) hI
theorem IM_S (h : KS z z') (hI : IM z r rk kk cnt tc tn tb T) : IM z' r rk kk cnt tc tn tb T := IM_q (fun q hq => h.1 q (by omega) (by omega)) (fun j hj => h.2 j (by omega)) hI
theorem IM_R (h : KR z z') (hI : IM z r rk kk cnt tc tn tb T) : IM z' r rk kk cnt tc tn tb T := IM_q (fun q hq => h.1 q (by omega) (by omega)) (fun j hj => h.2 j (by omega)) hI
theorem IM_W {r' : sR} (h : KW z z') (hr : RM z' r') (hI : IM z r rk kk cnt tc tn tb T) : IM z' r' rk kk cnt tc tn tb T :=
  ⟨hr, TM_q (h.1 1 (by omega)) (h.1 2 (by omega)) (h.2 3 (by omega)) hI.2.1, TP_q (h.2 6 (by omega)) (h.1 3 (by omega)) hI.2.2.1, SM_q (fun q _ _ => h.1 q (by omega)) hI.2.2.2.1, KP_q (fun q _ _ => h.1 q (by omega)) (fun j _ _ => h.2 j (by omega)) hI.2.2.2.2⟩
theorem IM_F {tn' : Nat} {tb' : Nat → Nat} (h : KF z z') (ht : TP z' tn' tb') (hI : IM z r rk kk cnt tc tn tb T) : IM z' r rk kk cnt tc tn' tb' T :=
  ⟨RM_q (fun q _ _ => h.1 q (by omega) (by omega)) (fun j _ => h.2 j (by omega)) hI.1, TM_q (h.1 1 (by omega) (by omega)) (h.1 2 (by omega) (by omega)) (h.2 3 (by omega)) hI.2.1, ht, SM_q (fun q _ _ => h.1 q (by omega) (by omega)) hI.2.2.2.1, KP_q (fun q _ _ => h.1 q (by omega) (by omega)) (fun j _ _ => h.2 j (by omega)) hI.2.2.2.2⟩
theorem IM_T {cnt' tn' : Nat} {tc' : Nat → sTc} {tb' : Nat → Nat} (h : KT z z') (ht : TP z' tn' tb') (hc : TM z' cnt' tc') (hI : IM z r rk kk cnt tc tn tb T) : IM z' r rk kk cnt' tc' tn' tb' T :=
  ⟨RM_q (fun q _ _ => h.1 q (by omega)) (fun j _ => h.2 j (by omega)) hI.1, hc, ht, SM_q (fun q _ _ => h.1 q (by omega)) hI.2.2.2.1, KP_q (fun q _ _ => h.1 q (by omega)) (fun j _ _ => h.2 j (by omega)) hI.2.2.2.2⟩
theorem IM_H {T' : Nat → sSh} (h : KH z z') (hT : SM z' T') (hI : IM z r rk kk cnt tc tn tb T) : IM z' r rk kk cnt tc tn tb T' := by
  have h' : ∀ q, q < 14 → z'.1 q = z.1 q := fun q hq => h q (by omega) (by omega) (by omega) (by omega)
  have h0 : ∀ j, z'.1 0 j = z.1 0 j := fun j => congrFun (h' 0 (by decide)) j
  exact ⟨RM_q (fun q _ _ => h' q (by omega)) (fun j _ => h0 j) hI.1, TM_q (h' 1 (by omega)) (h' 2 (by omega)) (h0 3) hI.2.1, TP_q (h0 6) (h' 3 (by omega)) hI.2.2.1, hT, KP_q (fun q _ _ => h' q (by omega)) (fun j _ _ => h0 j) hI.2.2.2.2⟩
theorem IM_Y {T' : Nat → sSh} (h : KY z z') (hT : SM z' T') (hI : IM z r rk kk cnt tc tn tb T) : IM z' r rk kk cnt tc tn tb T' := by
  have h' : ∀ q, 1 ≤ q → q < 14 → z'.1 q = z.1 q := fun q h1 hq => h.1 q (by omega) (by omega) (by omega) (by omega) (by omega)
  exact ⟨RM_q (fun q _ _ => h' q (by omega) (by omega)) (fun j _ => h.2 j (by omega)) hI.1, TM_q (h' 1 (by omega) (by omega)) (h' 2 (by omega) (by omega)) (h.2 3 (by omega)) hI.2.1, TP_q (h.2 6 (by omega)) (h' 3 (by omega) (by omega)) hI.2.2.1, hT, KP_q (fun q _ _ => h' q (by omega) (by omega)) (fun j _ _ => h.2 j (by omega)) hI.2.2.2.2⟩
theorem IM_I (h : KI z z') (hk : KpR z' r) (h74 : r 7 4 ≤ 4) (hI : IM z r rk kk cnt tc tn tb T) : IM z' r r 1 cnt tc tn tb T :=
  ⟨RM_q (fun q _ _ => h.1 q (by omega) (by omega)) (fun j _ => h.2 j (by omega)) hI.1, TM_q (h.1 1 (by omega) (by omega)) (h.1 2 (by omega) (by omega)) (h.2 3 (by omega)) hI.2.1, TP_q (h.2 6 (by omega)) (h.1 3 (by omega) (by omega)) hI.2.2.1, SM_q (fun q _ _ => h.1 q (by omega) (by omega)) hI.2.2.2.1, Or.inr ⟨rfl, h74, hk⟩⟩
end JIM
/-! the class's memory -/
theorem TPx_q {z z' : xMem} {tn : Nat} {tb : Nat → Nat} (h7 : z'.1 17 = z.1 17) (h8 : z'.1 18 = z.1 18) (h : TPx z tn tb) : TPx z' tn tb := ⟨by rw [h7]; exact h.1, h.2.1, fun i hi => by rw [h8]; exact h.2.2.1 i hi, h.2.2.2⟩
def IX (z : xMem) (r rk : sR) (kk cnt : Nat) (tc : Nat → sTc) (tn : Nat) (tb : Nat → Nat) (T : Nat → sSh) : Prop := RX z 19 r ∧ TX z 1 cnt tc ∧ TPx z tn tb ∧ SX z T ∧ TH z ∧ z.1 0 5 = nI kk ∧ ∃ rq, RX z 35 rq ∧ sZ rq ∧ (kk = 1 → rq = rk)
section JIX
variable {z z' : xMem} {r rk : sR} {kk cnt : Nat} {tc : Nat → sTc} {tn : Nat} {tb : Nat → Nat} {T : Nat → sSh}
theorem RX_qq {b : Nat} (h : ∀ q, b ≤ q → q < b + 8 → z'.1 q = z.1 q) (hr : RX z b r) : RX z' b r := RX_of (fun k hk => h _ (by omega) (by omega)) hr
theorem IX_k (h0 : z'.1 0 5 = z.1 0 5) (h : ∀ q, 35 ≤ q → q < 43 → z'.1 q = z.1 q) (hI : z.1 0 5 = nI kk ∧ ∃ rq, RX z 35 rq ∧ sZ rq ∧ (kk = 1 → rq = rk)) : z'.1 0 5 = nI kk ∧ ∃ rq, RX z' 35 rq ∧ sZ rq ∧ (kk = 1 → rq = rk) := by
  obtain ⟨a, rq, b, c, d⟩ := hI
  exact ⟨h0.trans a, rq, RX_qq (fun q h1 h2 => h q h1 (by omega)) b, c, d⟩
theorem TX_qq (h : ∀ q, 1 ≤ q → q < 16 → z'.1 q = z.1 q) (ht : TX z 1 cnt tc) : TX z' 1 cnt tc := TX_of (fun k hk => h _ (by omega) (by omega)) ht
theorem SX_qq (h : ∀ q, 48 ≤ q → q < 56 → z'.1 q = z.1 q) (hT : SX z T) : SX z' T := fun s hs => SY_of (h (48 + 2 * s) (by omega) (by omega)) (h (48 + 2 * s + 1) (by omega) (by omega)) (hT s hs)
theorem TH_qq (h : ∀ q, 27 ≤ q → q < 35 → z'.1 q = z.1 q) (hT : TH z) : TH z' := by
  obtain ⟨q, a, b⟩ := hT
  exact ⟨q, RX_qq (fun q h1 h2 => h q h1 (by omega)) a, b⟩
/-- a list of places leaves out a run of places -/
theorem KU_r {L : List Nat} (lo hi : Nat) (h : KU L z z') (hL : L.all (fun q => decide (q < lo) || decide (hi ≤ q)) = true) : ∀ q, lo ≤ q → q < hi → z'.1 q = z.1 q := fun q h1 h2 => h q (fun e => by
  have := List.all_eq_true.mp hL q e
  simp only [Bool.or_eq_true, decide_eq_true_eq] at this
  omega)
theorem IX_0 (h : KU U0 z z') (hI : IX z r rk kk cnt tc tn tb T) : IX z' r rk kk cnt tc tn tb T :=
  ⟨RX_qq (KU_r 19 27 h (by decide)) hI.1, TX_qq (KU_r 1 16 h (by decide)) hI.2.1, TPx_q (h 17 (by decide)) (h 18 (by decide)) hI.2.2.1, SX_qq (KU_r 48 56 h (by decide)) hI.2.2.2.1, TH_qq (KU_r 27 35 h (by decide)) hI.2.2.2.2.1, IX_k (congrFun (h 0 (by decide)) 5) (KU_r 35 43 h (by decide)) hI.2.2.2.2.2⟩
theorem IX_B (h : KU UB z z') (hI : IX z r rk kk cnt tc tn tb T) : IX z' r rk kk cnt tc tn tb T :=
  ⟨RX_qq (KU_r 19 27 h (by decide)) hI.1, TX_qq (KU_r 1 16 h (by decide)) hI.2.1, TPx_q (h 17 (by decide)) (h 18 (by decide)) hI.2.2.1, SX_qq (KU_r 48 56 h (by decide)) hI.2.2.2.1, TH_qq (KU_r 27 35 h (by decide)) hI.2.2.2.2.1, IX_k (congrFun (h 0 (by decide)) 5) (KU_r 35 43 h (by decide)) hI.2.2.2.2.2⟩
theorem IX_N {r' : sR} (h : KU UN z z') (hr : RX z' 19 r') (hI : IX z r rk kk cnt tc tn tb T) : IX z' r' rk kk cnt tc tn tb T :=
  ⟨hr, TX_qq (KU_r 1 16 h (by decide)) hI.2.1, TPx_q (h 17 (by decide)) (h 18 (by decide)) hI.2.2.1, SX_qq (KU_r 48 56 h (by decide)) hI.2.2.2.1, TH_qq (KU_r 27 35 h (by decide)) hI.2.2.2.2.1, IX_k (congrFun (h 0 (by decide)) 5) (KU_r 35 43 h (by decide)) hI.2.2.2.2.2⟩
theorem IX_H (h : KU UH z z') (hT : TH z') (hI : IX z r rk kk cnt tc tn tb T) : IX z' r rk kk cnt tc tn tb T :=
  ⟨RX_qq (KU_r 19 27 h (by decide)) hI.1, TX_qq (KU_r 1 16 h (by decide)) hI.2.1, TPx_q (h 17 (by decide)) (h 18 (by decide)) hI.2.2.1, SX_qq (KU_r 48 56 h (by decide)) hI.2.2.2.1, hT, IX_k (congrFun (h 0 (by decide)) 5) (KU_r 35 43 h (by decide)) hI.2.2.2.2.2⟩
theorem IX_A {T' : Nat → sSh} (h : KU UA z z') (hT : SX z' T') (hI : IX z r rk kk cnt tc tn tb T) : IX z' r rk kk cnt tc tn tb T' :=
  ⟨RX_qq (KU_r 19 27 h (by decide)) hI.1, TX_qq (KU_r 1 16 h (by decide)) hI.2.1, TPx_q (h 17 (by decide)) (h 18 (by decide)) hI.2.2.1, hT, TH_qq (KU_r 27 35 h (by decide)) hI.2.2.2.2.1, IX_k (congrFun (h 0 (by decide)) 5) (KU_r 35 43 h (by decide)) hI.2.2.2.2.2⟩
theorem IX_M {T' : Nat → sSh} (h : KU UM z z') (hT : SX z' T') (hI : IX z r rk kk cnt tc tn tb T) : IX z' r rk kk cnt tc tn tb T' :=
  ⟨RX_qq (KU_r 19 27 h (by decide)) hI.1, TX_qq (KU_r 1 16 h (by decide)) hI.2.1, TPx_q (h 17 (by decide)) (h 18 (by decide)) hI.2.2.1, hT, TH_qq (KU_r 27 35 h (by decide)) hI.2.2.2.2.1, IX_k (congrFun (h 0 (by decide)) 5) (KU_r 35 43 h (by decide)) hI.2.2.2.2.2⟩
theorem IX_F {tn' : Nat} {tb' : Nat → Nat} (h : KU UF z z') (ht : TPx z' tn' tb') (hI : IX z r rk kk cnt tc tn tb T) : IX z' r rk kk cnt tc tn' tb' T :=
  ⟨RX_qq (KU_r 19 27 h (by decide)) hI.1, TX_qq (KU_r 1 16 h (by decide)) hI.2.1, ht, SX_qq (KU_r 48 56 h (by decide)) hI.2.2.2.1, TH_qq (KU_r 27 35 h (by decide)) hI.2.2.2.2.1, IX_k (congrFun (h 0 (by decide)) 5) (KU_r 35 43 h (by decide)) hI.2.2.2.2.2⟩
theorem IX_T {cnt' tn' : Nat} {tc' : Nat → sTc} {tb' : Nat → Nat} (h : KU UT z z') (ht : TPx z' tn' tb') (hc : TX z' 1 cnt' tc') (hI : IX z r rk kk cnt tc tn tb T) : IX z' r rk kk cnt' tc' tn' tb' T :=
  ⟨RX_qq (KU_r 19 27 h (by decide)) hI.1, hc, ht, SX_qq (KU_r 48 56 h (by decide)) hI.2.2.2.1, TH_qq (KU_r 27 35 h (by decide)) hI.2.2.2.2.1, IX_k (congrFun (h 0 (by decide)) 5) (KU_r 35 43 h (by decide)) hI.2.2.2.2.2⟩
theorem IX_I (h : KU UI z z') (h5 : z'.1 0 5 = 1) (hk : RX z' 35 r) (hz : sZ r) (hI : IX z r rk kk cnt tc tn tb T) : IX z' r r 1 cnt tc tn tb T :=
  ⟨RX_qq (KU_r 19 27 h (by decide)) hI.1, TX_qq (KU_r 1 16 h (by decide)) hI.2.1, TPx_q (h 17 (by decide)) (h 18 (by decide)) hI.2.2.1, SX_qq (KU_r 48 56 h (by decide)) hI.2.2.2.1, TH_qq (KU_r 27 35 h (by decide)) hI.2.2.2.2.1, h5, r, hk, hz, fun _ => rfl⟩
end JIX
