/-! the reference's memory is read at 18 places alone -/
theorem IM_ag {z z' : xMem} {r rk : sR} {kk cnt : Nat} {tc : Nat → sTc} {tn : Nat} {tb : Nat → Nat} {T : Nat → sSh} (h : ∀ q, q < 18 → z'.1 q = z.1 q) (hI : IM z r rk kk cnt tc tn tb T) : IM z' r rk kk cnt tc tn tb T := IM_q (fun q hq => h q (by omega)) (fun j _ => congrFun (h 0 (by decide)) j) hI
theorem IX_ag {z z' : xMem} {r rk : sR} {kk cnt : Nat} {tc : Nat → sTc} {tn : Nat} {tb : Nat → Nat} {T : Nat → sSh} (h : ∀ q, q < 56 → z'.1 q = z.1 q) (hI : IX z r rk kk cnt tc tn tb T) : IX z' r rk kk cnt tc tn tb T :=
  ⟨RX_qq (fun q _ _ => h q (by omega)) hI.1, TX_qq (fun q _ _ => h q (by omega)) hI.2.1, TPx_q (h 17 (by decide)) (h 18 (by decide)) hI.2.2.1, SX_qq (fun q _ h2 => h q h2) hI.2.2.2.1, TH_qq (fun q _ _ => h q (by omega)) hI.2.2.2.2.1, IX_k (congrFun (h 0 (by decide)) 5) (fun q _ _ => h q (by omega)) hI.2.2.2.2.2⟩
/-! one lemma for each call: both worlds' contracts, the same answer, and both worlds hold one state again -/
def JN (zX zM : xMem) : Prop := ∃ (r rk : sR) (kk cnt : Nat) (tc : Nat → sTc) (tn : Nat) (tb : Nat → Nat) (T : Nat → sSh), IG r rk kk cnt ∧ IX zX r rk kk cnt tc tn tb T ∧ IM zM r rk kk cnt tc tn tb T
theorem JN_ag {zX zM zX' zM' : xMem} (h : JN zX zM) (hx : ∀ q, q < 56 → zX'.1 q = zX.1 q) (hm : ∀ q, q < 18 → zM'.1 q = zM.1 q) : JN zX' zM' := by
  obtain ⟨r, rk, kk, cnt, tc, tn, tb, T, hG, hX, hM⟩ := h
  exact ⟨r, rk, kk, cnt, tc, tn, tb, T, hG, IX_ag hx hX, IM_ag hm hM⟩
set_option maxHeartbeats 2000000 in
theorem jc_set (l : Launch) (w x y : Int32) {zX zM : xMem} (h : JN zX zM) : ∃ PX, XMi l 400 yX5_set cX5_set 5 (some .int) shX [.ref 0, .int w, .int x, .int y] zX PX ∧ ∀ v0 zX', PX v0 zX' → ∀ zM2 : xMem, (∀ q, q < 18 → zM2.1 q = zM.1 q) → ∃ PM, XMi l 400 yX6_set cX6_set 5 (some .int) shM [.ref 0, .int w, .int x, .int y] zM2 PM ∧ ∀ v' zM', PM v' zM' → v0 = v' ∧ JN zX' zM' := by
  obtain ⟨r, rk, kk, cnt, tc, tn, tb, T, hG, hX, hM0⟩ := h
  have hw := hG.1.1
  have hY := hG.1.2.1
  have hS := hG.1.2.2.1
  have hZ := hG.1.2.2.2
  have h74 := GR_74 hG.1
  obtain ⟨xr, xt, xp, xs, xh, xf, rq, k1, k2, k3⟩ := id hX
  refine ⟨_, t_X5_set l 392 w x y zX r cnt tc xr hw xt hS, fun v0 zX' p zM2 ag => ?_⟩
  have hM := IM_ag ag hM0
  obtain ⟨mr, mt, mp, ms, mk⟩ := id hM
  refine ⟨_, t_X6_set l 87 w x y zM2 r cnt tc mr hw mt, fun v' zM' q => ?_⟩
  obtain ⟨a1, a2, a3⟩ := p
  obtain ⟨b1, b2, b3⟩ := q
  exact ⟨a1.trans b1.symm, _, rk, kk, cnt, tc, tn, tb, T, ⟨GR_set hG.1, hG.2⟩, IX_N a3 a2 hX, IM_W b3 b2 hM⟩
set_option maxHeartbeats 2000000 in
theorem jc_person (l : Launch) (x y : Int32) {zX zM : xMem} (h : JN zX zM) : ∃ PX, XMi l 400 yX5_person cX5_person 3 (some .int) shX [.ref 0, .int x, .int y] zX PX ∧ ∀ v0 zX', PX v0 zX' → ∀ zM2 : xMem, (∀ q, q < 18 → zM2.1 q = zM.1 q) → ∃ PM, XMi l 400 yX6_person cX6_person 3 (some .int) shM [.ref 0, .int x, .int y] zM2 PM ∧ ∀ v' zM', PM v' zM' → v0 = v' ∧ JN zX' zM' := by
  obtain ⟨r, rk, kk, cnt, tc, tn, tb, T, hG, hX, hM0⟩ := h
  have hw := hG.1.1
  have hY := hG.1.2.1
  have hS := hG.1.2.2.1
  have hZ := hG.1.2.2.2
  have h74 := GR_74 hG.1
  obtain ⟨xr, xt, xp, xs, xh, xf, rq, k1, k2, k3⟩ := id hX
  refine ⟨_, t_X5_person l 399 x y zX r xr h74, fun v0 zX' p zM2 ag => ?_⟩
  have hM := IM_ag ag hM0
  obtain ⟨mr, mt, mp, ms, mk⟩ := id hM
  refine ⟨_, t_X6_person l 399 x y zM2 r mr h74, fun v' zM' q => ?_⟩
  obtain ⟨a1, a2, a3⟩ := p
  obtain ⟨b1, b2, b3⟩ := q
  exact ⟨a1.trans b1.symm, _, rk, kk, cnt, tc, tn, tb, T, ⟨GR_person hG.1, hG.2⟩, IX_N a3 a2 hX, IM_W b3 b2 hM⟩
set_option maxHeartbeats 2000000 in
theorem jc_told (l : Launch) (x w : Int32) {zX zM : xMem} (h : JN zX zM) : ∃ PX, XMi l 400 yX5_told cX5_told 3 (some .int) shX [.ref 0, .int x, .int w] zX PX ∧ ∀ v0 zX', PX v0 zX' → ∀ zM2 : xMem, (∀ q, q < 18 → zM2.1 q = zM.1 q) → ∃ PM, XMi l 400 yX6_told cX6_told 3 (some .int) shM [.ref 0, .int x, .int w] zM2 PM ∧ ∀ v' zM', PM v' zM' → v0 = v' ∧ JN zX' zM' := by
  obtain ⟨r, rk, kk, cnt, tc, tn, tb, T, hG, hX, hM0⟩ := h
  have hw := hG.1.1
  have hY := hG.1.2.1
  have hS := hG.1.2.2.1
  have hZ := hG.1.2.2.2
  have h74 := GR_74 hG.1
  obtain ⟨xr, xt, xp, xs, xh, xf, rq, k1, k2, k3⟩ := id hX
  refine ⟨_, t_X5_told l 393 x w zX r cnt tc xr hw xt, fun v0 zX' p zM2 ag => ?_⟩
  have hM := IM_ag ag hM0
  obtain ⟨mr, mt, mp, ms, mk⟩ := id hM
  refine ⟨_, t_X6_told l 88 x w zM2 r cnt tc mr hw mt, fun v' zM' q => ?_⟩
  obtain ⟨a1, a2⟩ := p
  obtain ⟨b1, b2⟩ := q
  exact ⟨a1.trans b1.symm, r, rk, kk, cnt, tc, tn, tb, T, hG, IX_0 a2 hX, IM_K b2 hM⟩
set_option maxHeartbeats 2000000 in
theorem jc_asks (l : Launch) (x y w : Int32) {zX zM : xMem} (h : JN zX zM) : ∃ PX, XMi l 400 yX5_asks cX5_asks 4 (some .int) shX [.ref 0, .int x, .int y, .int w] zX PX ∧ ∀ v0 zX', PX v0 zX' → ∀ zM2 : xMem, (∀ q, q < 18 → zM2.1 q = zM.1 q) → ∃ PM, XMi l 400 yX6_asks cX6_asks 4 (some .int) shM [.ref 0, .int x, .int y, .int w] zM2 PM ∧ ∀ v' zM', PM v' zM' → v0 = v' ∧ JN zX' zM' := by
  obtain ⟨r, rk, kk, cnt, tc, tn, tb, T, hG, hX, hM0⟩ := h
  have hw := hG.1.1
  have hY := hG.1.2.1
  have hS := hG.1.2.2.1
  have hZ := hG.1.2.2.2
  have h74 := GR_74 hG.1
  obtain ⟨xr, xt, xp, xs, xh, xf, rq, k1, k2, k3⟩ := id hX
  refine ⟨_, t_X5_asks l 396 x y w zX r cnt tc xr hw xt, fun v0 zX' p zM2 ag => ?_⟩
  have hM := IM_ag ag hM0
  obtain ⟨mr, mt, mp, ms, mk⟩ := id hM
  refine ⟨_, t_X6_asks l 88 x y w zM2 r cnt tc mr hw mt, fun v' zM' q => ?_⟩
  obtain ⟨a2, a1⟩ := p
  obtain ⟨b2, b1⟩ := q
  refine ⟨?_, r, rk, kk, cnt, tc, tn, tb, T, hG, IX_0 a2 hX, IM_K b2 hM⟩
  rcases a1 with ⟨c1, c2⟩ | ⟨p1, e1, u1, rfl, rfl, rfl, c1, c2, c3, c4⟩
  · rcases b1 with ⟨d1, d2⟩ | ⟨p1, e1, u1, rfl, rfl, rfl, d1, d2, d3, d4⟩
    · rw [c2, d2]
    · exact absurd (by rw [sTI (k := p1) (by omega), sTI (k := e1) (by omega), sTI (k := u1) (by omega)]; omega) c1
  · rcases b1 with ⟨d1, d2⟩ | ⟨p2, e2, u2, f1, f2, f3, d1, d2, d3, d4⟩
    · exact absurd (by rw [sTI (k := p1) (by omega), sTI (k := e1) (by omega), sTI (k := u1) (by omega)]; omega) d1
    · have g1 : p1 = p2 := (sEQ (by omega) (by omega)).mp f1
      have g2 : e1 = e2 := (sEQ (by omega) (by omega)).mp f2
      have g3 : u1 = u2 := (sEQ (by omega) (by omega)).mp f3
      subst g1 g2 g3
      rw [c4, d4]
set_option maxHeartbeats 2000000 in
theorem jc_feed (l : Launch) (x : Int32) {zX zM : xMem} (h : JN zX zM) : ∃ PX, XMi l 400 yX5_feed cX5_feed 2 (some .int) shX [.ref 0, .int x] zX PX ∧ ∀ v0 zX', PX v0 zX' → ∀ zM2 : xMem, (∀ q, q < 18 → zM2.1 q = zM.1 q) → ∃ PM, XMi l 400 yX6_feed cX6_feed 2 (some .int) shM [.ref 0, .int x] zM2 PM ∧ ∀ v' zM', PM v' zM' → v0 = v' ∧ JN zX' zM' := by
  obtain ⟨r, rk, kk, cnt, tc, tn, tb, T, hG, hX, hM0⟩ := h
  have hw := hG.1.1
  have hY := hG.1.2.1
  have hS := hG.1.2.2.1
  have hZ := hG.1.2.2.2
  have h74 := GR_74 hG.1
  obtain ⟨xr, xt, xp, xs, xh, xf, rq, k1, k2, k3⟩ := id hX
  refine ⟨_, t_X5_feed l 399 x zX tn tb xp, fun v0 zX' p zM2 ag => ?_⟩
  have hM := IM_ag ag hM0
  obtain ⟨mr, mt, mp, ms, mk⟩ := id hM
  refine ⟨_, t_X6_feed l 399 x zM2 tn tb mp, fun v' zM' q => ?_⟩
  obtain ⟨a1, a2, a3⟩ := p
  obtain ⟨b1, b2, b3⟩ := q
  exact ⟨a1.trans b1.symm, r, rk, kk, cnt, tc, _, _, T, hG, IX_F a3 a2 hX, IM_F b3 b2 hM⟩
set_option maxHeartbeats 2000000 in
theorem jc_text (l : Launch) {zX zM : xMem} (h : JN zX zM) : ∃ PX, XMi l 400 yX5_text cX5_text 3 (some .int) shX [.ref 0] zX PX ∧ ∀ v0 zX', PX v0 zX' → ∀ zM2 : xMem, (∀ q, q < 18 → zM2.1 q = zM.1 q) → ∃ PM, XMi l 400 yX6_text cX6_text 2 (some .int) shM [.ref 0] zM2 PM ∧ ∀ v' zM', PM v' zM' → v0 = v' ∧ JN zX' zM' := by
  obtain ⟨r, rk, kk, cnt, tc, tn, tb, T, hG, hX, hM0⟩ := h
  have hw := hG.1.1
  have hY := hG.1.2.1
  have hS := hG.1.2.2.1
  have hZ := hG.1.2.2.2
  have h74 := GR_74 hG.1
  obtain ⟨xr, xt, xp, xs, xh, xf, rq, k1, k2, k3⟩ := id hX
  refine ⟨_, t_X5_text l 89 zX cnt tn tc tb xt xp, fun v0 zX' p zM2 ag => ?_⟩
  have hM := IM_ag ag hM0
  obtain ⟨mr, mt, mp, ms, mk⟩ := id hM
  refine ⟨_, t_X6_text l 92 zM2 cnt tn tb tc mt mp, fun v' zM' q => ?_⟩
  rcases p with ⟨a0, a1, rfl⟩ | ⟨a0, a2, a3, a4⟩
  · rcases q with ⟨b0, b1, rfl⟩ | ⟨b0, b2, b3, b4⟩
    · exact ⟨a1.trans b1.symm, r, rk, kk, cnt, tc, tn, tb, T, hG, hX, hM⟩
    · exact absurd a0 (by omega)
  · rcases q with ⟨b0, b1, rfl⟩ | ⟨b0, b2, b3, b4⟩
    · exact absurd b0 (by omega)
    · rcases a4 with ⟨c1, c2, c3⟩ | ⟨c1, c2, c3⟩
      · rcases b4 with ⟨d1, d2, d3⟩ | ⟨d1, d2, d3⟩
        · exact ⟨c2.trans d2.symm, r, rk, kk, _, _, _, _, T, ⟨GR_cnt hG.1 (by omega), hG.2.1, fun q => GR_cnt (hG.2.2 q) (by omega)⟩, IX_T a3 a2 c3 hX, IM_T b3 b2 d3 hM⟩
        · exact absurd c1 d1
      · rcases b4 with ⟨d1, d2, d3⟩ | ⟨d1, d2, d3⟩
        · exact absurd d1 c1
        · exact ⟨c2.trans d2.symm, r, rk, kk, cnt, tc, _, _, T, hG, IX_T a3 a2 c3 hX, IM_T b3 b2 d3 hM⟩
set_option maxHeartbeats 2000000 in
theorem jc_force (l : Launch) (x : Int32) {zX zM : xMem} (h : JN zX zM) : ∃ PX, XMi l 400 yX5_force cX5_force 3 (some .int) shX [.ref 0, .int x] zX PX ∧ ∀ v0 zX', PX v0 zX' → ∀ zM2 : xMem, (∀ q, q < 18 → zM2.1 q = zM.1 q) → ∃ PM, XMi l 400 yX6_force cX6_force 3 (some .int) shM [.ref 0, .int x] zM2 PM ∧ ∀ v' zM', PM v' zM' → v0 = v' ∧ JN zX' zM' := by
  obtain ⟨r, rk, kk, cnt, tc, tn, tb, T, hG, hX, hM0⟩ := h
  have hw := hG.1.1
  have hY := hG.1.2.1
  have hS := hG.1.2.2.1
  have hZ := hG.1.2.2.2
  have h74 := GR_74 hG.1
  obtain ⟨xr, xt, xp, xs, xh, xf, rq, k1, k2, k3⟩ := id hX
  refine ⟨_, t_X5_force l 399 x zX r cnt tc xr hw xt, fun v0 zX' p zM2 ag => ?_⟩
  have hM := IM_ag ag hM0
  obtain ⟨mr, mt, mp, ms, mk⟩ := id hM
  refine ⟨_, t_X6_force l 399 x zM2 r cnt tc mr mt, fun v' zM' q => ?_⟩
  rcases p with ⟨a0, a1, rfl⟩ | ⟨t, rfl, a0, a1, a2, a3⟩
  · rcases q with ⟨b0, b1, rfl⟩ | ⟨t, rfl, b0, b1, rfl⟩
    · exact ⟨a1.trans b1.symm, r, rk, kk, cnt, tc, tn, tb, T, hG, hX, hM⟩
    · exact absurd (by rw [sTI (k := t) (by have := mt.2.2.1; omega)]; omega) a0
  · have h6 := mt.2.2.1
    rcases q with ⟨b0, b1, rfl⟩ | ⟨t2, f1, b0, b1, rfl⟩
    · exact absurd (by rw [sTI (k := t) (by omega)]; omega) b0
    · have g1 : t = t2 := (sEQ (by omega) (by omega)).mp f1
      subst g1
      exact ⟨a1.trans b1.symm, _, rk, kk, cnt, tc, tn, tb, T, ⟨GR_force hG.1 a0, hG.2⟩, IX_N a3 a2 hX, IM_W (KW_L (KL_j (by omega))) (RM_force mr) hM⟩
set_option maxHeartbeats 2000000 in
theorem jc_does (l : Launch) (x y : Int32) {zX zM : xMem} (h : JN zX zM) : ∃ PX, XMi l 400 yX5_does cX5_does 3 (some .int) shX [.ref 0, .int x, .int y] zX PX ∧ ∀ v0 zX', PX v0 zX' → ∀ zM2 : xMem, (∀ q, q < 18 → zM2.1 q = zM.1 q) → ∃ PM, XMi l 400 yX6_does cX6_does 3 (some .int) shM [.ref 0, .int x, .int y] zM2 PM ∧ ∀ v' zM', PM v' zM' → v0 = v' ∧ JN zX' zM' := by
  obtain ⟨r, rk, kk, cnt, tc, tn, tb, T, hG, hX, hM0⟩ := h
  have hw := hG.1.1
  have hY := hG.1.2.1
  have hS := hG.1.2.2.1
  have hZ := hG.1.2.2.2
  have h74 := GR_74 hG.1
  obtain ⟨xr, xt, xp, xs, xh, xf, rq, k1, k2, k3⟩ := id hX
  refine ⟨_, t_X5_does l 395 x y zX r cnt tc xr hw xt, fun v0 zX' p zM2 ag => ?_⟩
  have hM := IM_ag ag hM0
  obtain ⟨mr, mt, mp, ms, mk⟩ := id hM
  refine ⟨_, t_X6_does l 88 x y zM2 r cnt tc mr hw mt, fun v' zM' q => ?_⟩
  rcases p with ⟨a0, a1, a2⟩ | ⟨p1, e1, rfl, rfl, a0, a1, a2⟩
  · rcases q with ⟨b0, b1, b2⟩ | ⟨p1, e1, rfl, rfl, b0, b1, b2⟩
    · exact ⟨a1.trans b1.symm, r, rk, kk, cnt, tc, tn, tb, T, hG, IX_0 a2 hX, IM_K b2 hM⟩
    · exact absurd (by rw [sTI (k := p1) (by omega), sTI (k := e1) (by omega)]; omega) a0
  · rcases q with ⟨b0, b1, b2⟩ | ⟨p2, e2, f1, f2, b0, b1, b2⟩
    · exact absurd (by rw [sTI (k := p1) (by omega), sTI (k := e1) (by omega)]; omega) b0
    · have g1 : p1 = p2 := (sEQ (by omega) (by omega)).mp f1
      have g2 : e1 = e2 := (sEQ (by omega) (by omega)).mp f2
      subst g1 g2
      rcases a2 with ⟨c1, c2, c3⟩ | ⟨c1, c2, c3, c4⟩
      · rcases b2 with ⟨d1, d2, d3⟩ | ⟨d1, d2, d3, d4⟩
        · exact ⟨c2.trans d2.symm, r, rk, kk, cnt, tc, tn, tb, T, hG, IX_0 c3 hX, IM_K d3 hM⟩
        · rw [c1] at d1; exact absurd d1 (by decide)
      · rcases b2 with ⟨d1, d2, d3⟩ | ⟨d1, d2, d3, d4⟩
        · rw [c1] at d1; exact absurd d1 (by decide)
        · exact ⟨c2.trans d2.symm, _, rk, kk, cnt, tc, tn, tb, T, ⟨GR_done hG.1 (by omega), hG.2⟩, IX_N c4 c3 hX, IM_W (KW_O d4) d3 hM⟩
set_option maxHeartbeats 2000000 in
theorem jc_year (l : Launch) {zX zM : xMem} (h : JN zX zM) : ∃ PX, XMi l 400 yX5_year cX5_year 1 (some .int) shX [.ref 0] zX PX ∧ ∀ v0 zX', PX v0 zX' → ∀ zM2 : xMem, (∀ q, q < 18 → zM2.1 q = zM.1 q) → ∃ PM, XMi l 400 yX6_year cX6_year 1 (some .int) shM [.ref 0] zM2 PM ∧ ∀ v' zM', PM v' zM' → v0 = v' ∧ JN zX' zM' := by
  obtain ⟨r, rk, kk, cnt, tc, tn, tb, T, hG, hX, hM0⟩ := h
  have hw := hG.1.1
  have hY := hG.1.2.1
  have hS := hG.1.2.2.1
  have hZ := hG.1.2.2.2
  have h74 := GR_74 hG.1
  obtain ⟨xr, xt, xp, xs, xh, xf, rq, k1, k2, k3⟩ := id hX
  refine ⟨_, t_X5_year l 398 zX r cnt xr hw hS hY, fun v0 zX' p zM2 ag => ?_⟩
  have hM := IM_ag ag hM0
  obtain ⟨mr, mt, mp, ms, mk⟩ := id hM
  refine ⟨_, t_X6_year l 398 zM2 r cnt mr hw, fun v' zM' q => ?_⟩
  rcases p with ⟨a0, a1, rfl⟩ | ⟨a0, a1, a2, a3⟩
  · rcases q with ⟨b0, b1, rfl⟩ | ⟨b0, b1, b2, b3⟩
    · exact ⟨a1.trans b1.symm, r, rk, kk, cnt, tc, tn, tb, T, hG, hX, hM⟩
    · exact absurd a0 b0
  · rcases q with ⟨b0, b1, rfl⟩ | ⟨b0, b1, b2, b3⟩
    · exact absurd b0 a0
    · exact ⟨a1.trans b1.symm, _, rk, kk, cnt, tc, tn, tb, T, ⟨GR_end hG.1 a0, hG.2⟩, IX_N a3 a2 hX, IM_W (KW_O b3) b2 hM⟩
set_option maxHeartbeats 2000000 in
theorem jc_run (l : Launch) (x w : Int32) {zX zM : xMem} (h : JN zX zM) : ∃ PX, XMi l 400 yX5_run cX5_run 4 (some .int) shX [.ref 0, .int x, .int w] zX PX ∧ ∀ v0 zX', PX v0 zX' → ∀ zM2 : xMem, (∀ q, q < 18 → zM2.1 q = zM.1 q) → ∃ PM, XMi l 400 yX6_run cX6_run 5 (some .int) shM [.ref 0, .int x, .int w] zM2 PM ∧ ∀ v' zM', PM v' zM' → v0 = v' ∧ JN zX' zM' := by
  obtain ⟨r, rk, kk, cnt, tc, tn, tb, T, hG, hX, hM0⟩ := h
  have hw := hG.1.1
  have hY := hG.1.2.1
  have hS := hG.1.2.2.1
  have hZ := hG.1.2.2.2
  have h74 := GR_74 hG.1
  obtain ⟨xr, xt, xp, xs, xh, xf, rq, k1, k2, k3⟩ := id hX
  refine ⟨_, t_X5_run l 394 x w zX r cnt tc xr hw xt hS hZ xh hY, fun v0 zX' p zM2 ag => ?_⟩
  have hM := IM_ag ag hM0
  obtain ⟨mr, mt, mp, ms, mk⟩ := id hM
  refine ⟨_, t_X6_run l 87 x w zM2 r cnt tc mr hw mt hY, fun v' zM' q => ?_⟩
  obtain ⟨a1, a2, a3⟩ := p
  obtain ⟨b1, b2⟩ := q
  exact ⟨a1.trans b1.symm, r, rk, kk, cnt, tc, tn, tb, T, hG, IX_H a3 a2 hX, IM_S b2 hM⟩
set_option maxHeartbeats 2000000 in
theorem jc_lasts (l : Launch) (x : Int32) {zX zM : xMem} (h : JN zX zM) : ∃ PX, XMi l 400 yX5_lasts cX5_lasts 3 (some .int) shX [.ref 0, .int x] zX PX ∧ ∀ v0 zX', PX v0 zX' → ∀ zM2 : xMem, (∀ q, q < 18 → zM2.1 q = zM.1 q) → ∃ PM, XMi l 400 yX6_lasts cX6_lasts 3 (some .int) shM [.ref 0, .int x] zM2 PM ∧ ∀ v' zM', PM v' zM' → v0 = v' ∧ JN zX' zM' := by
  obtain ⟨r, rk, kk, cnt, tc, tn, tb, T, hG, hX, hM0⟩ := h
  have hw := hG.1.1
  have hY := hG.1.2.1
  have hS := hG.1.2.2.1
  have hZ := hG.1.2.2.2
  have h74 := GR_74 hG.1
  obtain ⟨xr, xt, xp, xs, xh, xf, rq, k1, k2, k3⟩ := id hX
  refine ⟨_, t_X5_lasts l 394 x zX r cnt tc xr hw xt hS hZ xh hY, fun v0 zX' p zM2 ag => ?_⟩
  have hM := IM_ag ag hM0
  obtain ⟨mr, mt, mp, ms, mk⟩ := id hM
  refine ⟨_, t_X6_lasts l 87 x zM2 r cnt tc mr hw mt hY, fun v' zM' q => ?_⟩
  obtain ⟨a1, a2, a3⟩ := p
  obtain ⟨b1, b2⟩ := q
  exact ⟨a1.trans b1.symm, r, rk, kk, cnt, tc, tn, tb, T, hG, IX_H a3 a2 hX, IM_S b2 hM⟩
set_option maxHeartbeats 2000000 in
theorem jc_cover (l : Launch) (x w : Int32) {zX zM : xMem} (h : JN zX zM) : ∃ PX, XMi l 400 yX5_cover cX5_cover 4 (some .int) shX [.ref 0, .int x, .int w] zX PX ∧ ∀ v0 zX', PX v0 zX' → ∀ zM2 : xMem, (∀ q, q < 18 → zM2.1 q = zM.1 q) → ∃ PM, XMi l 400 yX6_cover cX6_cover 7 (some .int) shM [.ref 0, .int x, .int w] zM2 PM ∧ ∀ v' zM', PM v' zM' → v0 = v' ∧ JN zX' zM' := by
  obtain ⟨r, rk, kk, cnt, tc, tn, tb, T, hG, hX, hM0⟩ := h
  have hw := hG.1.1
  have hY := hG.1.2.1
  have hS := hG.1.2.2.1
  have hZ := hG.1.2.2.2
  have h74 := GR_74 hG.1
  obtain ⟨xr, xt, xp, xs, xh, xf, rq, k1, k2, k3⟩ := id hX
  refine ⟨_, t_X5_cover l 398 x w zX r cnt xr hw, fun v0 zX' p zM2 ag => ?_⟩
  have hM := IM_ag ag hM0
  obtain ⟨mr, mt, mp, ms, mk⟩ := id hM
  refine ⟨_, t_X6_cover l 399 x w zM2 r cnt mr hw, fun v' zM' q => ?_⟩
  obtain ⟨a1, a2⟩ := p
  obtain ⟨b1, rfl⟩ := q
  exact ⟨a1.trans b1.symm, r, rk, kk, cnt, tc, tn, tb, T, hG, IX_0 a2 hX, hM⟩
set_option maxHeartbeats 2000000 in
theorem jc_rota (l : Launch) (w : Int32) {zX zM : xMem} (h : JN zX zM) : ∃ PX, XMi l 400 yX5_rota cX5_rota 2 (some .int) shX [.ref 0, .int w] zX PX ∧ ∀ v0 zX', PX v0 zX' → ∀ zM2 : xMem, (∀ q, q < 18 → zM2.1 q = zM.1 q) → ∃ PM, XMi l 400 yX6_rota cX6_rota 3 (some .int) shM [.ref 0, .int w] zM2 PM ∧ ∀ v' zM', PM v' zM' → v0 = v' ∧ JN zX' zM' := by
  obtain ⟨r, rk, kk, cnt, tc, tn, tb, T, hG, hX, hM0⟩ := h
  have hw := hG.1.1
  have hY := hG.1.2.1
  have hS := hG.1.2.2.1
  have hZ := hG.1.2.2.2
  have h74 := GR_74 hG.1
  obtain ⟨xr, xt, xp, xs, xh, xf, rq, k1, k2, k3⟩ := id hX
  refine ⟨_, t_X5_rota l 393 w zX r cnt tc xr hw xt, fun v0 zX' p zM2 ag => ?_⟩
  have hM := IM_ag ag hM0
  obtain ⟨mr, mt, mp, ms, mk⟩ := id hM
  refine ⟨_, t_X6_rota l 84 w zM2 r cnt tc mr hw mt, fun v' zM' q => ?_⟩
  obtain ⟨a1, a2⟩ := p
  obtain ⟨b1, b2⟩ := q
  exact ⟨a1.trans b1.symm, r, rk, kk, cnt, tc, tn, tb, T, hG, IX_B a2 hX, IM_R b2 hM⟩
set_option maxHeartbeats 2000000 in
theorem jc_saves (l : Launch) (x w : Int32) {zX zM : xMem} (h : JN zX zM) : ∃ PX, XMi l 400 yX5_saves cX5_saves 7 (some .int) shX [.ref 0, .int x, .int w] zX PX ∧ ∀ v0 zX', PX v0 zX' → ∀ zM2 : xMem, (∀ q, q < 18 → zM2.1 q = zM.1 q) → ∃ PM, XMi l 400 yX6_saves cX6_saves 7 (some .int) shM [.ref 0, .int x, .int w] zM2 PM ∧ ∀ v' zM', PM v' zM' → v0 = v' ∧ JN zX' zM' := by
  obtain ⟨r, rk, kk, cnt, tc, tn, tb, T, hG, hX, hM0⟩ := h
  have hw := hG.1.1
  have hY := hG.1.2.1
  have hS := hG.1.2.2.1
  have hZ := hG.1.2.2.2
  have h74 := GR_74 hG.1
  obtain ⟨xr, xt, xp, xs, xh, xf, rq, k1, k2, k3⟩ := id hX
  refine ⟨_, t_X5_saves l 393 x w zX r cnt tc xr hw xt hS hZ xh hY, fun v0 zX' p zM2 ag => ?_⟩
  have hM := IM_ag ag hM0
  obtain ⟨mr, mt, mp, ms, mk⟩ := id hM
  refine ⟨_, t_X6_saves l 86 x w zM2 r cnt tc mr hw mt hY, fun v' zM' q => ?_⟩
  obtain ⟨a1, a2, a3⟩ := p
  obtain ⟨b1, b2⟩ := q
  exact ⟨a1.trans b1.symm, r, rk, kk, cnt, tc, tn, tb, T, hG, IX_H a3 a2 hX, IM_S b2 hM⟩
set_option maxHeartbeats 2000000 in
theorem jc_letGo (l : Launch) (w : Int32) {zX zM : xMem} (h : JN zX zM) : ∃ PX, XMi l 400 yX5_letGo cX5_letGo 6 (some .int) shX [.ref 0, .int w] zX PX ∧ ∀ v0 zX', PX v0 zX' → ∀ zM2 : xMem, (∀ q, q < 18 → zM2.1 q = zM.1 q) → ∃ PM, XMi l 400 yX6_letGo cX6_letGo 7 (some .int) shM [.ref 0, .int w] zM2 PM ∧ ∀ v' zM', PM v' zM' → v0 = v' ∧ JN zX' zM' := by
  obtain ⟨r, rk, kk, cnt, tc, tn, tb, T, hG, hX, hM0⟩ := h
  have hw := hG.1.1
  have hY := hG.1.2.1
  have hS := hG.1.2.2.1
  have hZ := hG.1.2.2.2
  have h74 := GR_74 hG.1
  obtain ⟨xr, xt, xp, xs, xh, xf, rq, k1, k2, k3⟩ := id hX
  refine ⟨_, t_X5_letGo l 398 w zX r cnt xr hw, fun v0 zX' p zM2 ag => ?_⟩
  have hM := IM_ag ag hM0
  obtain ⟨mr, mt, mp, ms, mk⟩ := id hM
  refine ⟨_, t_X6_letGo l 399 w zM2 r cnt mr hw, fun v' zM' q => ?_⟩
  obtain ⟨a1, a2⟩ := p
  obtain ⟨b1, rfl⟩ := q
  exact ⟨a1.trans b1.symm, r, rk, kk, cnt, tc, tn, tb, T, hG, IX_0 a2 hX, hM⟩
set_option maxHeartbeats 2000000 in
theorem jc_share (l : Launch) (w : Int32) {zX zM : xMem} (h : JN zX zM) : ∃ PX, XMl l 400 yX5_share cX5_share 2 (some .long) shX [.ref 0, .int w] zX PX ∧ ∀ v0 zX', PX v0 zX' → ∀ zM2 : xMem, (∀ q, q < 18 → zM2.1 q = zM.1 q) → ∃ PM, XMl l 400 yX6_share cX6_share 2 (some .long) shM [.ref 0, .int w] zM2 PM ∧ ∀ v' zM', PM v' zM' → v0 = v' ∧ JN zX' zM' := by
  obtain ⟨r, rk, kk, cnt, tc, tn, tb, T, hG, hX, hM0⟩ := h
  have hw := hG.1.1
  have hY := hG.1.2.1
  have hS := hG.1.2.2.1
  have hZ := hG.1.2.2.2
  have h74 := GR_74 hG.1
  obtain ⟨xr, xt, xp, xs, xh, xf, rq, k1, k2, k3⟩ := id hX
  refine ⟨_, t_X5_share l 398 w zX r cnt tc xr hw xt, fun v0 zX' p zM2 ag => ?_⟩
  have hM := IM_ag ag hM0
  obtain ⟨mr, mt, mp, ms, mk⟩ := id hM
  refine ⟨_, t_X6_share l 399 w zM2 r cnt mr hw, fun v' zM' q => ?_⟩
  obtain ⟨a1, rfl⟩ := p
  obtain ⟨b1, rfl⟩ := q
  exact ⟨a1.trans b1.symm, r, rk, kk, cnt, tc, tn, tb, T, hG, hX, hM⟩
set_option maxHeartbeats 2000000 in
theorem jc_tells (l : Launch) (x y w : Int32) {zX zM : xMem} (h : JN zX zM) : ∃ PX, XMi l 400 yX5_tells cX5_tells 5 (some .int) shX [.ref 0, .int x, .int y, .int w] zX PX ∧ ∀ v0 zX', PX v0 zX' → ∀ zM2 : xMem, (∀ q, q < 18 → zM2.1 q = zM.1 q) → ∃ PM, XMi l 400 yX6_tells cX6_tells 11 (some .int) shM [.ref 0, .int x, .int y, .int w] zM2 PM ∧ ∀ v' zM', PM v' zM' → v0 = v' ∧ JN zX' zM' := by
  obtain ⟨r, rk, kk, cnt, tc, tn, tb, T, hG, hX, hM0⟩ := h
  have hw := hG.1.1
  have hY := hG.1.2.1
  have hS := hG.1.2.2.1
  have hZ := hG.1.2.2.2
  have h74 := GR_74 hG.1
  obtain ⟨xr, xt, xp, xs, xh, xf, rq, k1, k2, k3⟩ := id hX
  refine ⟨_, t_X5_tells l 393 x y w zX r cnt tc xr hw xt hS hZ xh T xs, fun v0 zX' p zM2 ag => ?_⟩
  have hM := IM_ag ag hM0
  obtain ⟨mr, mt, mp, ms, mk⟩ := id hM
  refine ⟨_, t_X6_tells l 86 x y w zM2 r cnt tc mr hw mt T ms, fun v' zM' q => ?_⟩
  obtain ⟨a1, a2, a3⟩ := p
  obtain ⟨b1, b2⟩ := q
  exact ⟨a1.trans b1.symm, r, rk, kk, cnt, tc, tn, tb, T, hG, IX_H a3 a2 hX, IM_K b2 hM⟩
set_option maxHeartbeats 2000000 in
theorem jc_film (l : Launch) (x y : Int32) {zX zM : xMem} (h : JN zX zM) : ∃ PX, XMi l 400 yX5_film cX5_film 7 (some .int) shX [.ref 0, .int x, .int y] zX PX ∧ ∀ v0 zX', PX v0 zX' → ∀ zM2 : xMem, (∀ q, q < 18 → zM2.1 q = zM.1 q) → ∃ PM, XMi l 400 yX6_film cX6_film 6 (some .int) shM [.ref 0, .int x, .int y] zM2 PM ∧ ∀ v' zM', PM v' zM' → v0 = v' ∧ JN zX' zM' := by
  obtain ⟨r, rk, kk, cnt, tc, tn, tb, T, hG, hX, hM0⟩ := h
  have hw := hG.1.1
  have hY := hG.1.2.1
  have hS := hG.1.2.2.1
  have hZ := hG.1.2.2.2
  have h74 := GR_74 hG.1
  obtain ⟨xr, xt, xp, xs, xh, xf, rq, k1, k2, k3⟩ := id hX
  refine ⟨_, t_X5_film l 395 x y zX r cnt tc xr hw xt T xs, fun v0 zX' p zM2 ag => ?_⟩
  have hM := IM_ag ag hM0
  obtain ⟨mr, mt, mp, ms, mk⟩ := id hM
  refine ⟨_, t_X6_film l 90 x y zM2 r cnt tc mr hw mt T ms, fun v' zM' q => ?_⟩
  obtain ⟨a1, a2, a3⟩ := p
  obtain ⟨b1, b2, b3⟩ := q
  exact ⟨a1.trans b1.symm, r, rk, kk, cnt, tc, tn, tb, _, hG, IX_M a3 a2 hX, IM_Y b3 b2 hM⟩
set_option maxHeartbeats 2000000 in
theorem jc_drawn (l : Launch) (w x : Int32) {zX zM : xMem} (h : JN zX zM) : ∃ PX, XMi l 400 yX5_drawn cX5_drawn 3 (some .int) shX [.ref 0, .int w, .int x] zX PX ∧ ∀ v0 zX', PX v0 zX' → ∀ zM2 : xMem, (∀ q, q < 18 → zM2.1 q = zM.1 q) → ∃ PM, XMi l 400 yX6_drawn cX6_drawn 3 (some .int) shM [.ref 0, .int w, .int x] zM2 PM ∧ ∀ v' zM', PM v' zM' → v0 = v' ∧ JN zX' zM' := by
  obtain ⟨r, rk, kk, cnt, tc, tn, tb, T, hG, hX, hM0⟩ := h
  have hw := hG.1.1
  have hY := hG.1.2.1
  have hS := hG.1.2.2.1
  have hZ := hG.1.2.2.2
  have h74 := GR_74 hG.1
  obtain ⟨xr, xt, xp, xs, xh, xf, rq, k1, k2, k3⟩ := id hX
  refine ⟨_, t_X5_drawn l 393 w x zX r cnt tc xr hw xt hS hZ xh hY, fun v0 zX' p zM2 ag => ?_⟩
  have hM := IM_ag ag hM0
  obtain ⟨mr, mt, mp, ms, mk⟩ := id hM
  refine ⟨_, t_X6_drawn l 86 w x zM2 r cnt tc mr hw mt hY, fun v' zM' q => ?_⟩
  obtain ⟨a1, a2, a3⟩ := p
  obtain ⟨b1, b2⟩ := q
  exact ⟨a1.trans b1.symm, r, rk, kk, cnt, tc, tn, tb, T, hG, IX_H a3 a2 hX, IM_S b2 hM⟩
set_option maxHeartbeats 2000000 in
theorem jc_chance (l : Launch) (w x y u : Int32) {zX zM : xMem} (h : JN zX zM) : ∃ PX, XMl l 400 yX5_chance cX5_chance 7 (some .long) shX [.ref 0, .int w, .int x, .int y, .int u] zX PX ∧ ∀ v0 zX', PX v0 zX' → ∀ zM2 : xMem, (∀ q, q < 18 → zM2.1 q = zM.1 q) → ∃ PM, XMl l 400 yX6_chance cX6_chance 8 (some .long) shM [.ref 0, .int w, .int x, .int y, .int u] zM2 PM ∧ ∀ v' zM', PM v' zM' → v0 = v' ∧ JN zX' zM' := by
  obtain ⟨r, rk, kk, cnt, tc, tn, tb, T, hG, hX, hM0⟩ := h
  have hw := hG.1.1
  have hY := hG.1.2.1
  have hS := hG.1.2.2.1
  have hZ := hG.1.2.2.2
  have h74 := GR_74 hG.1
  obtain ⟨xr, xt, xp, xs, xh, xf, rq, k1, k2, k3⟩ := id hX
  refine ⟨_, t_X5_chance l 393 w x y u zX r cnt tc xr hw xt hS hZ xh hY, fun v0 zX' p zM2 ag => ?_⟩
  have hM := IM_ag ag hM0
  obtain ⟨mr, mt, mp, ms, mk⟩ := id hM
  refine ⟨_, t_X6_chance l 86 w x y u zM2 r cnt tc mr hw mt hY, fun v' zM' q => ?_⟩
  obtain ⟨a1, a2, a3⟩ := p
  obtain ⟨b1, b2⟩ := q
  exact ⟨a1.trans b1.symm, r, rk, kk, cnt, tc, tn, tb, T, hG, IX_H a3 a2 hX, IM_S b2 hM⟩
set_option maxHeartbeats 2000000 in
theorem jc_image (l : Launch) {zX zM : xMem} (h : JN zX zM) : ∃ PX, XMi l 400 yX5_image cX5_image 1 (some .int) shX [.ref 0] zX PX ∧ ∀ v0 zX', PX v0 zX' → ∀ zM2 : xMem, (∀ q, q < 18 → zM2.1 q = zM.1 q) → ∃ PM, XMi l 400 yX6_image cX6_image 2 (some .int) shM [.ref 0] zM2 PM ∧ ∀ v' zM', PM v' zM' → v0 = v' ∧ JN zX' zM' := by
  obtain ⟨r, rk, kk, cnt, tc, tn, tb, T, hG, hX, hM0⟩ := h
  have hw := hG.1.1
  have hY := hG.1.2.1
  have hS := hG.1.2.2.1
  have hZ := hG.1.2.2.2
  have h74 := GR_74 hG.1
  obtain ⟨xr, xt, xp, xs, xh, xf, rq, k1, k2, k3⟩ := id hX
  refine ⟨_, t_X5_image l 399 zX r rq xr ⟨k1, k2⟩ hZ, fun v0 zX' p zM2 ag => ?_⟩
  have hM := IM_ag ag hM0
  obtain ⟨mr, mt, mp, ms, mk⟩ := id hM
  refine ⟨_, t_X6_image l 400 zM2 r mr, fun v' zM' q => ?_⟩
  obtain ⟨a1, a2, a3, a4⟩ := p
  obtain ⟨b1, b2, b3⟩ := q
  exact ⟨a1.trans b1.symm, r, r, 1, cnt, tc, tn, tb, T, ⟨hG.1, Nat.le_refl 1, fun _ => hG.1⟩, IX_I a4 a2 a3 hZ hX, IM_I b3 b2 h74 hM⟩
set_option maxHeartbeats 2000000 in
theorem jc_back (l : Launch) {zX zM : xMem} (h : JN zX zM) : ∃ PX, XMi l 400 yX5_back cX5_back 1 (some .int) shX [.ref 0] zX PX ∧ ∀ v0 zX', PX v0 zX' → ∀ zM2 : xMem, (∀ q, q < 18 → zM2.1 q = zM.1 q) → ∃ PM, XMi l 400 yX6_back cX6_back 2 (some .int) shM [.ref 0] zM2 PM ∧ ∀ v' zM', PM v' zM' → v0 = v' ∧ JN zX' zM' := by
  obtain ⟨r, rk, kk, cnt, tc, tn, tb, T, hG, hX, hM0⟩ := h
  have hw := hG.1.1
  have hY := hG.1.2.1
  have hS := hG.1.2.2.1
  have hZ := hG.1.2.2.2
  have h74 := GR_74 hG.1
  obtain ⟨xr, xt, xp, xs, xh, xf, rq, k1, k2, k3⟩ := id hX
  refine ⟨_, t_X5_back l 399 zX r rq kk xf hG.2.1 xr ⟨k1, k2⟩ hZ, fun v0 zX' p zM2 ag => ?_⟩
  have hM := IM_ag ag hM0
  obtain ⟨mr, mt, mp, ms, mk⟩ := id hM
  refine ⟨_, t_X6_back l 400 zM2 r rk kk mr mk, fun v' zM' q => ?_⟩
  rcases p with ⟨a0, a1, rfl⟩ | ⟨a0, a1, a2, a3⟩
  · rcases q with ⟨b0, b1, rfl⟩ | ⟨b0, b1, b2, b3⟩
    · exact ⟨a1.trans b1.symm, r, rk, kk, cnt, tc, tn, tb, T, hG, hX, hM⟩
    · exact absurd a0 (by omega)
  · rcases q with ⟨b0, b1, rfl⟩ | ⟨b0, b1, b2, b3⟩
    · exact absurd b0 (by omega)
    · have k4 := k3 a0
      subst k4
      exact ⟨a1.trans b1.symm, _, rq, kk, cnt, tc, tn, tb, T, ⟨GR_bk hG.1 (hG.2.2 a0), hG.2⟩, IX_N a3 a2 hX, IM_W b3 b2 hM⟩
set_option maxHeartbeats 2000000 in
theorem jc_count (l : Launch) (w : Int32) {zX zM : xMem} (h : JN zX zM) : ∃ PX, XMi l 400 yX5_count cX5_count 2 (some .int) shX [.ref 0, .int w] zX PX ∧ ∀ v0 zX', PX v0 zX' → ∀ zM2 : xMem, (∀ q, q < 18 → zM2.1 q = zM.1 q) → ∃ PM, XMi l 400 yX6_count cX6_count 2 (some .int) shM [.ref 0, .int w] zM2 PM ∧ ∀ v' zM', PM v' zM' → v0 = v' ∧ JN zX' zM' := by
  obtain ⟨r, rk, kk, cnt, tc, tn, tb, T, hG, hX, hM0⟩ := h
  have hw := hG.1.1
  have hY := hG.1.2.1
  have hS := hG.1.2.2.1
  have hZ := hG.1.2.2.2
  have h74 := GR_74 hG.1
  obtain ⟨xr, xt, xp, xs, xh, xf, rq, k1, k2, k3⟩ := id hX
  refine ⟨_, t_X5_count l 399 w zX r cnt tc xr hw xt tn xp.1, fun v0 zX' p zM2 ag => ?_⟩
  have hM := IM_ag ag hM0
  obtain ⟨mr, mt, mp, ms, mk⟩ := id hM
  refine ⟨_, t_X6_count l 399 w zM2 r cnt tn mr mt.1 mp.1 (fun j => (hw.1 j).1), fun v' zM' q => ?_⟩
  obtain ⟨a1, rfl⟩ := p
  obtain ⟨b1, rfl⟩ := q
  exact ⟨a1.trans b1.symm, r, rk, kk, cnt, tc, tn, tb, T, hG, hX, hM⟩
set_option maxHeartbeats 2000000 in
theorem jc_sheet (l : Launch) (x y u : Int32) {zX zM : xMem} (h : JN zX zM) : ∃ PX, XMi l 400 yX5_sheet cX5_sheet 5 (some .int) shX [.ref 0, .int x, .int y, .int u] zX PX ∧ ∀ v0 zX', PX v0 zX' → ∀ zM2 : xMem, (∀ q, q < 18 → zM2.1 q = zM.1 q) → ∃ PM, XMi l 400 yX6_sheet cX6_sheet 5 (some .int) shM [.ref 0, .int x, .int y, .int u] zM2 PM ∧ ∀ v' zM', PM v' zM' → v0 = v' ∧ JN zX' zM' := by
  obtain ⟨r, rk, kk, cnt, tc, tn, tb, T, hG, hX, hM0⟩ := h
  have hw := hG.1.1
  have hY := hG.1.2.1
  have hS := hG.1.2.2.1
  have hZ := hG.1.2.2.2
  have h74 := GR_74 hG.1
  obtain ⟨xr, xt, xp, xs, xh, xf, rq, k1, k2, k3⟩ := id hX
  refine ⟨_, t_X5_sheet l 398 x y u zX T xs, fun v0 zX' p zM2 ag => ?_⟩
  have hM := IM_ag ag hM0
  obtain ⟨mr, mt, mp, ms, mk⟩ := id hM
  refine ⟨_, t_X6_sheet l 398 x y u zM2 T ms, fun v' zM' q => ?_⟩
  obtain ⟨a1, a2, a3⟩ := p
  obtain ⟨b1, b2, b3⟩ := q
  exact ⟨a1.trans b1.symm, r, rk, kk, cnt, tc, tn, tb, _, hG, IX_A a3 a2 hX, IM_H b3 b2 hM⟩
set_option maxHeartbeats 2000000 in
theorem jc_cell (l : Launch) (x y u : Int32) {zX zM : xMem} (h : JN zX zM) : ∃ PX, XMi l 400 yX5_cell cX5_cell 5 (some .int) shX [.ref 0, .int x, .int y, .int u] zX PX ∧ ∀ v0 zX', PX v0 zX' → ∀ zM2 : xMem, (∀ q, q < 18 → zM2.1 q = zM.1 q) → ∃ PM, XMi l 400 yX6_cell cX6_cell 4 (some .int) shM [.ref 0, .int x, .int y, .int u] zM2 PM ∧ ∀ v' zM', PM v' zM' → v0 = v' ∧ JN zX' zM' := by
  obtain ⟨r, rk, kk, cnt, tc, tn, tb, T, hG, hX, hM0⟩ := h
  have hw := hG.1.1
  have hY := hG.1.2.1
  have hS := hG.1.2.2.1
  have hZ := hG.1.2.2.2
  have h74 := GR_74 hG.1
  obtain ⟨xr, xt, xp, xs, xh, xf, rq, k1, k2, k3⟩ := id hX
  refine ⟨_, t_X5_cell l 398 x y u zX T xs, fun v0 zX' p zM2 ag => ?_⟩
  have hM := IM_ag ag hM0
  obtain ⟨mr, mt, mp, ms, mk⟩ := id hM
  refine ⟨_, t_X6_cell l 398 x y u zM2 T ms, fun v' zM' q => ?_⟩
  obtain ⟨a1, a2, a3⟩ := p
  obtain ⟨b1, b2, b3⟩ := q
  exact ⟨a1.trans b1.symm, r, rk, kk, cnt, tc, tn, tb, _, hG, IX_A a3 a2 hX, IM_H b3 b2 hM⟩
set_option maxHeartbeats 2000000 in
theorem jc_copy (l : Launch) (x y u v w : Int32) {zX zM : xMem} (h : JN zX zM) : ∃ PX, XMi l 400 yX5_copy cX5_copy 8 (some .int) shX [.ref 0, .int x, .int y, .int u, .int v, .int w] zX PX ∧ ∀ v0 zX', PX v0 zX' → ∀ zM2 : xMem, (∀ q, q < 18 → zM2.1 q = zM.1 q) → ∃ PM, XMi l 400 yX6_copy cX6_copy 9 (some .int) shM [.ref 0, .int x, .int y, .int u, .int v, .int w] zM2 PM ∧ ∀ v' zM', PM v' zM' → v0 = v' ∧ JN zX' zM' := by
  obtain ⟨r, rk, kk, cnt, tc, tn, tb, T, hG, hX, hM0⟩ := h
  have hw := hG.1.1
  have hY := hG.1.2.1
  have hS := hG.1.2.2.1
  have hZ := hG.1.2.2.2
  have h74 := GR_74 hG.1
  obtain ⟨xr, xt, xp, xs, xh, xf, rq, k1, k2, k3⟩ := id hX
  refine ⟨_, t_X5_copy l 398 x y u v w zX T xs, fun v0 zX' p zM2 ag => ?_⟩
  have hM := IM_ag ag hM0
  obtain ⟨mr, mt, mp, ms, mk⟩ := id hM
  refine ⟨_, t_X6_copy l 398 x y u v w zM2 T ms, fun v' zM' q => ?_⟩
  obtain ⟨a1, a2, a3⟩ := p
  obtain ⟨b1, b2, b3⟩ := q
  exact ⟨a1.trans b1.symm, r, rk, kk, cnt, tc, tn, tb, _, hG, IX_A a3 a2 hX, IM_H b3 b2 hM⟩
set_option maxHeartbeats 2000000 in
theorem jc_republic (l : Launch) (x y w u : Int32) {zX zM : xMem} (h : JN zX zM) : ∃ PX, XMi l 400 yX5_republic cX5_republic 9 (some .int) shX [.ref 0, .int x, .int y, .int w, .int u] zX PX ∧ ∀ v0 zX', PX v0 zX' → ∀ zM2 : xMem, (∀ q, q < 18 → zM2.1 q = zM.1 q) → ∃ PM, XMi l 400 yX6_republic cX6_republic 8 (some .int) shM [.ref 0, .int x, .int y, .int w, .int u] zM2 PM ∧ ∀ v' zM', PM v' zM' → v0 = v' ∧ JN zX' zM' := by
  obtain ⟨r, rk, kk, cnt, tc, tn, tb, T, hG, hX, hM0⟩ := h
  have hw := hG.1.1
  have hY := hG.1.2.1
  have hS := hG.1.2.2.1
  have hZ := hG.1.2.2.2
  have h74 := GR_74 hG.1
  obtain ⟨xr, xt, xp, xs, xh, xf, rq, k1, k2, k3⟩ := id hX
  refine ⟨_, t_X5_republic l 398 x y w u zX r T xr h74 xs, fun v0 zX' p zM2 ag => ?_⟩
  have hM := IM_ag ag hM0
  obtain ⟨mr, mt, mp, ms, mk⟩ := id hM
  refine ⟨_, t_X6_republic l 398 x y w u zM2 r T mr h74 ms, fun v' zM' q => ?_⟩
  obtain ⟨a1, a2, a3⟩ := p
  obtain ⟨b1, b2, b3⟩ := q
  exact ⟨a1.trans b1.symm, _, rk, kk, cnt, tc, tn, tb, T, ⟨GR_rep hG.1, hG.2⟩, IX_N a3 a2 hX, IM_W b3 b2 hM⟩
set_option maxHeartbeats 2000000 in
theorem jc_taken (l : Launch) (x y : Int32) {zX zM : xMem} (h : JN zX zM) : ∃ PX, XMi l 400 yX5_taken cX5_taken 5 (some .int) shX [.ref 0, .int x, .int y] zX PX ∧ ∀ v0 zX', PX v0 zX' → ∀ zM2 : xMem, (∀ q, q < 18 → zM2.1 q = zM.1 q) → ∃ PM, XMi l 400 yX6_taken cX6_taken 4 (some .int) shM [.ref 0, .int x, .int y] zM2 PM ∧ ∀ v' zM', PM v' zM' → v0 = v' ∧ JN zX' zM' := by
  obtain ⟨r, rk, kk, cnt, tc, tn, tb, T, hG, hX, hM0⟩ := h
  have hw := hG.1.1
  have hY := hG.1.2.1
  have hS := hG.1.2.2.1
  have hZ := hG.1.2.2.2
  have h74 := GR_74 hG.1
  obtain ⟨xr, xt, xp, xs, xh, xf, rq, k1, k2, k3⟩ := id hX
  refine ⟨_, t_X5_taken l 398 x y zX r cnt xr hw, fun v0 zX' p zM2 ag => ?_⟩
  have hM := IM_ag ag hM0
  obtain ⟨mr, mt, mp, ms, mk⟩ := id hM
  refine ⟨_, t_X6_taken l 398 x y zM2 r cnt mr hw, fun v' zM' q => ?_⟩
  obtain ⟨a1, rfl⟩ := p
  obtain ⟨b1, rfl⟩ := q
  exact ⟨a1.trans b1.symm, r, rk, kk, cnt, tc, tn, tb, T, hG, hX, hM⟩
