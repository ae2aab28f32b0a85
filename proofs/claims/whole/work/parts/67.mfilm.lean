/-! the model's republic, firstOther, likeSet, film -/
theorem sPerson_4 {r : sR} {x y : Int32} (h : r 7 4 ≤ 4) : (sPerson r x y).2 7 4 ≤ 4 := by
  unfold sPerson
  split
  · split
    · exact h
    · simp [sPer]; omega
  · exact h
def sRq (it : Nat → Int32) (n a : Nat) : Nat → Nat → sR → Nat → Int32 × sR
  | 0, _, r, c => (nI c, r)
  | m + 1, k, r, c => if a + 2 * k + 2 ≤ n then sRq it n a m (k + 1) (sPerson r (it (a + 2 * k)) (it (a + 2 * k + 1))).2 (if (sPerson r (it (a + 2 * k)) (it (a + 2 * k + 1))).1.toInt < 0 then c else c + 1) else (-12, r)
theorem sRq_y {it : Nat → Int32} {n a m k c : Nat} {r : sR} (hk : k < m) (h : a + 2 * k + 2 ≤ n) (hv : ¬ (sPerson r (it (a + 2 * k)) (it (a + 2 * k + 1))).1.toInt < 0) : sRq it n a (m - k) k r c = sRq it n a (m - (k + 1)) (k + 1) (sPerson r (it (a + 2 * k)) (it (a + 2 * k + 1))).2 (c + 1) := by
  rw [show m - k = (m - (k + 1)) + 1 by omega, sRq, if_pos h, if_neg hv]
theorem sRq_n {it : Nat → Int32} {n a m k c : Nat} {r : sR} (hk : k < m) (h : a + 2 * k + 2 ≤ n) (hv : (sPerson r (it (a + 2 * k)) (it (a + 2 * k + 1))).1.toInt < 0) : sRq it n a (m - k) k r c = sRq it n a (m - (k + 1)) (k + 1) (sPerson r (it (a + 2 * k)) (it (a + 2 * k + 1))).2 c := by
  rw [show m - k = (m - (k + 1)) + 1 by omega, sRq, if_pos h, if_pos hv]
theorem sRq_o {it : Nat → Int32} {n a m k c : Nat} {r : sR} (hk : k < m) (h : ¬ a + 2 * k + 2 ≤ n) : sRq it n a (m - k) k r c = (-12, r) := by
  rw [show m - k = (m - (k + 1)) + 1 by omega, sRq, if_neg h]
def sRep (T : Nat → sSh) (r : sR) (x y w v : Int32) : Int32 × sR :=
  if 0 ≤ x.toInt ∧ x.toInt ≤ 3 ∧ 0 ≤ y.toInt ∧ y.toInt ≤ 2 ∧ 0 ≤ v.toInt ∧ v.toInt ≤ 4 then
    (if (T x.toInt.toNat).1 = 0 then (-11, r) else if (T x.toInt.toNat).1 ≠ y.toInt.toNat + 1 then (-13, r) else if w.toInt < 0 then (if v.toInt.toNat = 0 then (0, r) else (-12, r)) else sRq (T x.toInt.toNat).2.2 (T x.toInt.toNat).2.1 w.toInt.toNat v.toInt.toNat 0 r 0)
  else (-2, r)
theorem sRep_b {T : Nat → sSh} {r : sR} {x y w v : Int32} (h : ¬ (0 ≤ x.toInt ∧ x.toInt ≤ 3 ∧ 0 ≤ y.toInt ∧ y.toInt ≤ 2 ∧ 0 ≤ v.toInt ∧ v.toInt ≤ 4)) : sRep T r x y w v = (-2, r) := if_neg h
theorem sRep_m {T : Nat → sSh} {r : sR} {s g m : Nat} {w : Int32} (hs : s < 4) (hg : g < 3) (hm : m ≤ 4) (h : (T s).1 = 0) : sRep T r (nI s) (nI g) w (nI m) = (-11, r) := by
  unfold sRep
  rw [sTN (k := s) (by omega), sTN (k := g) (by omega), sTN (k := m) (by omega), sTI (k := s) (by omega), sTI (k := g) (by omega), sTI (k := m) (by omega), if_pos (by omega), if_pos h]
theorem sRep_s {T : Nat → sSh} {r : sR} {s g m k n : Nat} {it : Nat → Int32} {w : Int32} (hs : s < 4) (hg : g < 3) (hm : m ≤ 4) (h : T s = (k + 1, n, it)) (hk : k ≠ g) : sRep T r (nI s) (nI g) w (nI m) = (-13, r) := by
  unfold sRep
  rw [sTN (k := s) (by omega), sTN (k := g) (by omega), sTN (k := m) (by omega), sTI (k := s) (by omega), sTI (k := g) (by omega), sTI (k := m) (by omega), if_pos (by omega), h, if_neg (Nat.succ_ne_zero k), if_pos (by simpa using hk)]
theorem sRep_n {T : Nat → sSh} {r : sR} {s g m k n : Nat} {it : Nat → Int32} {w : Int32} (hs : s < 4) (hg : g < 3) (hm : m ≤ 4) (h : T s = (k + 1, n, it)) (hk : k = g) (hw : w.toInt < 0) : sRep T r (nI s) (nI g) w (nI m) = if m = 0 then (0, r) else (-12, r) := by
  unfold sRep
  rw [sTN (k := s) (by omega), sTN (k := g) (by omega), sTN (k := m) (by omega), sTI (k := s) (by omega), sTI (k := g) (by omega), sTI (k := m) (by omega), if_pos (by omega), h, if_neg (Nat.succ_ne_zero k), if_neg (by simpa using hk), if_pos hw]
theorem sRep_y {T : Nat → sSh} {r : sR} {s g m k n a : Nat} {it : Nat → Int32} (hs : s < 4) (hg : g < 3) (hm : m ≤ 4) (ha : a < 2 ^ 31) (h : T s = (k + 1, n, it)) (hk : k = g) : sRep T r (nI s) (nI g) (nI a) (nI m) = sRq it n a m 0 r 0 := by
  unfold sRep
  rw [sTN (k := s) (by omega), sTN (k := g) (by omega), sTN (k := m) (by omega), sTN (k := a) (by omega), sTI (k := s) (by omega), sTI (k := g) (by omega), sTI (k := m) (by omega), sTI (k := a) (by omega), if_pos (by omega), h, if_neg (Nat.succ_ne_zero k), if_neg (by simpa using hk), if_neg (by omega)]
theorem vp_rep {s a k : Nat} (h : 40 * s + a + 2 * k < 160) : vp_in (40 * nI s + nI a + 2 * nI k) 160 := by
  rw [show (40 : Int32) * nI s = nI (40 * s) from pk_mul 40 s, show (2 : Int32) * nI k = nI (2 * k) from pk_mul 2 k, nI_add, nI_add]
  exact vp_in_nI h (by decide)
theorem vp_rep1 {s a k : Nat} (h : 40 * s + a + 2 * k + 1 < 160) : vp_in (40 * nI s + nI a + 2 * nI k + 1) 160 := by
  rw [show (40 : Int32) * nI s = nI (40 * s) from pk_mul 40 s, show (2 : Int32) * nI k = nI (2 * k) from pk_mul 2 k, nI_add, nI_add, show nI (40 * s + a + 2 * k) + 1 = nI (40 * s + a + 2 * k + 1) from nI_add _ 1]
  exact vp_in_nI h (by decide)
theorem sSub22 {a c n : Nat} (ha : a < 2 ^ 31) (hc : c ≤ 100) (hn : n ≤ 40) : nI a ≤ nI n - nI c - 2 ↔ a + c + 2 ≤ n := by
  rw [Int32.sub_sub, show nI c + 2 = nI (c + 2) from nI_add c 2, Int32.le_iff_toInt_le, nI_toInt ha, sSubT hn (by omega)]
  omega
theorem c0_add (c : Nat) : nI c + 0 = nI c := nI_add c 0
/-- the first place where f holds, 1 more; 0 for none -/
def sF1 (f : Nat → Bool) : Nat → Nat
  | 0 => 0
  | k + 1 => if sF1 f k = 0 then (if f k = true then k + 1 else 0) else sF1 f k
theorem sF1_n {f : Nat → Bool} {i : Nat} (h : sF1 f i = 0) (hf : f i = false) : sF1 f (i + 1) = 0 := by rw [sF1, if_pos h, if_neg (by rw [hf]; decide)]
theorem sF1_st {f : Nat → Bool} {i : Nat} (h : ¬ sF1 f i = 0) : ∀ k, sF1 f (i + k) = sF1 f i
  | 0 => rfl
  | k + 1 => by
    have e := sF1_st h k
    show sF1 f (i + k + 1) = _
    rw [sF1, e, if_neg h]
theorem sF1_at {f : Nat → Bool} {i n : Nat} (h : sF1 f i = 0) (hi : i < n) (hf : f i = true) : sF1 f n = i + 1 := by
  have e : sF1 f (i + 1) = i + 1 := by rw [sF1, if_pos h, if_pos hf]
  have e2 := sF1_st (f := f) (i := i + 1) (by rw [e]; omega) (n - (i + 1))
  rw [show i + 1 + (n - (i + 1)) = n by omega] at e2
  rw [e2, e]
theorem sF1_le (f : Nat → Bool) : ∀ n, sF1 f n ≤ n
  | 0 => Nat.le_refl 0
  | k + 1 => by
    have e := sF1_le f k
    rw [sF1]
    repeat' split
    all_goals omega
def sCn (tc : Nat → sTc) (r : sR) (p d : Nat) : Int32 := if sDares tc r p d = true then sCosts tc r p d else -1
def sOt (tc : Nat → sTc) (r : sR) (p : Nat) (it : Nat → Int32) (d : Nat) : Bool := !decide (sCn tc r p d = it d)
theorem sOt_t1 {tc : Nat → sTc} {r : sR} {p d : Nat} {it : Nat → Int32} (h : sDares tc r p d = true) (c : ¬ sCosts tc r p d = it d) : sOt tc r p it d = true := by unfold sOt sCn; rw [if_pos h, decide_eq_false c]; rfl
theorem sOt_t0 {tc : Nat → sTc} {r : sR} {p d : Nat} {it : Nat → Int32} (h : sDares tc r p d = false) (c : ¬ -1 = it d) : sOt tc r p it d = true := by unfold sOt sCn; rw [if_neg (by rw [h]; decide), decide_eq_false c]; rfl
theorem sOt_f1 {tc : Nat → sTc} {r : sR} {p d : Nat} {it : Nat → Int32} (h : sDares tc r p d = true) (c : sCosts tc r p d = it d) : sOt tc r p it d = false := by unfold sOt sCn; rw [if_pos h, decide_eq_true c]; rfl
theorem sOt_f0 {tc : Nat → sTc} {r : sR} {p d : Nat} {it : Nat → Int32} (h : sDares tc r p d = false) (c : -1 = it d) : sOt tc r p it d = false := by unfold sOt sCn; rw [if_neg (by rw [h]; decide), decide_eq_true c]; rfl
def sLf (tc : Nat → sTc) (r : sR) (it : Nat → Int32) (n p : Nat) : Nat := if sF1 (sOt tc r p it) n = 0 then 1 else 0
/-- how many hold -/
def sCt (f : Nat → Bool) : Nat → Nat
  | 0 => 0
  | k + 1 => if f k = true then sCt f k + 1 else sCt f k
theorem sCt_y {f : Nat → Bool} {i : Nat} (h : f i = true) : nI (sCt f i) + 1 = nI (sCt f (i + 1)) := by rw [sCt, if_pos h]; exact nI_add _ 1
theorem sCt_n {f : Nat → Bool} {i : Nat} (h : f i = false) : nI (sCt f i) + 0 = nI (sCt f (i + 1)) := by rw [sCt, if_neg (by rw [h]; decide)]; exact nI_add _ 0
theorem RM_KH {z z' : xMem} {r : sR} (h : KH z z') (hr : RM z r) : RM z' r := RM_Kb ⟨fun q _ h2 => h q (by omega) (by omega) (by omega) (by omega), fun j _ => congrFun (h 0 (by decide) (by decide) (by decide) (by decide)) j⟩ hr
theorem TM_KH {z z' : xMem} {cnt : Nat} {tc : Nat → sTc} (h : KH z z') (ht : TM z cnt tc) : TM z' cnt tc := TM_Kb ⟨fun q _ h2 => h q (by omega) (by omega) (by omega) (by omega), fun j _ => congrFun (h 0 (by decide) (by decide) (by decide) (by decide)) j⟩ ht
/-- filmed so far -/
def FL (tc : Nat → sTc) (r : sR) (p s : Nat) (z z' : xMem) (i : Nat) : Prop := (∀ q, q ≠ 0 → q ≠ 17 → z'.1 q = z.1 q) ∧ (∀ j, (j < 16 ∨ 30 < j) → z'.1 0 j = z.1 0 j) ∧ ∀ j, z'.1 17 j = if 40 * s ≤ j ∧ j < 40 * s + i then sCn tc r p (j - 40 * s) else z.1 17 j
theorem FL_0 {tc : Nat → sTc} {r : sR} {p s : Nat} (z : xMem) : FL tc r p s z z 0 := ⟨fun _ _ _ => rfl, fun _ _ => rfl, fun j => by rw [if_neg (by omega)]⟩
theorem FL_K {tc : Nat → sTc} {r : sR} {p s i : Nat} {z a b : xMem} (h : FL tc r p s z a i) (k : KM a b) : FL tc r p s z b i := ⟨fun q h0 h1 => (k.1 q h0).trans (h.1 q h0 h1), fun j hj => (k.2 j hj).trans (h.2.1 j hj), fun j => by rw [k.1 17 (by decide)]; exact h.2.2 j⟩
theorem FL_1 {tc : Nat → sTc} {r : sR} {p s i : Nat} {z a : xMem} {x : Int32} (h : FL tc r p s z a i) (hx : sCn tc r p i = x) : FL tc r p s z (mPut a 17 (40 * s + i) x) (i + 1) := by
  refine ⟨fun q h0 h1 => (mPut_nq h1).trans (h.1 q h0 h1), fun j hj => (congrFun (mPut_nq (by decide)) j).trans (h.2.1 j hj), fun j => ?_⟩
  rw [mPut_rd, if_pos rfl, h.2.2 j]
  by_cases e : j = 40 * s + i
  · rw [if_pos e, if_pos (by omega), e, show 40 * s + i - 40 * s = i by omega, hx]
  · rw [if_neg e]
    by_cases e2 : 40 * s ≤ j ∧ j < 40 * s + i
    · rw [if_pos e2, if_pos (by omega)]
    · rw [if_neg e2, if_neg (by omega)]
theorem Kb_FL {tc : Nat → sTc} {r : sR} {p s i : Nat} {z a : xMem} (h : FL tc r p s z a i) : Kb z a := ⟨fun q h1 h2 => h.1 q (by omega) (by omega), fun j hj => h.2.1 j (by omega)⟩
/-- nothing changed but sheets, and scratch -/
def KY (z z' : xMem) : Prop := (∀ q, q ≠ 0 → q ≠ 14 → q ≠ 15 → q ≠ 16 → q ≠ 17 → z'.1 q = z.1 q) ∧ ∀ j, (j < 16 ∨ 30 < j) → z'.1 0 j = z.1 0 j
theorem KY_rf (z : xMem) : KY z z := ⟨fun _ _ _ _ _ _ => rfl, fun _ _ => rfl⟩
theorem KY_FL {tc : Nat → sTc} {r : sR} {p s i : Nat} {z a b : xMem} (h1 : KH z a) (h : FL tc r p s a b i) : KY z b := ⟨fun q n0 n1 n2 n3 n4 => (h.1 q n0 n4).trans (h1 q n1 n2 n3 n4), fun j hj => (h.2.1 j hj).trans (congrFun (h1 0 (by decide) (by decide) (by decide) (by decide)) j)⟩
def sFilm (tc : Nat → sTc) (r : sR) (T : Nat → sSh) (x y : Int32) : Int32 × (Nat → sSh) := if 0 ≤ x.toInt ∧ x.toInt ≤ 3 ∧ 0 ≤ y.toInt ∧ y.toInt < r 7 4 then (nI (sCt (fun d => sDares tc r y.toInt.toNat d) 10), sShU T x.toInt.toNat (2, 10, fun d => sCn tc r y.toInt.toNat d)) else (-2, T)
theorem sFilm_n {tc : Nat → sTc} {r : sR} {T : Nat → sSh} {x y : Int32} (h : ¬ (0 ≤ x.toInt ∧ x.toInt ≤ 3 ∧ 0 ≤ y.toInt ∧ y.toInt < r 7 4)) : sFilm tc r T x y = (-2, T) := if_neg h
theorem sFilm_y {tc : Nat → sTc} {r : sR} {T : Nat → sSh} {s p : Nat} (hs : s < 4) (hp : p < r 7 4) (h : r 7 4 ≤ 4) : sFilm tc r T (nI s) (nI p) = (nI (sCt (fun d => sDares tc r p d) 10), sShU T s (2, 10, fun d => sCn tc r p d)) := by
  unfold sFilm
  rw [sTN (k := s) (by omega), sTN (k := p) (by omega), sTI (k := s) (by omega), sTI (k := p) (by omega), if_pos (by omega)]
theorem SM_film {tc : Nat → sTc} {r : sR} {p s i : Nat} {z a : xMem} {T : Nat → sSh} (hs : s < 4) (hT : SM z (sShU T s (2, 10, fun _ => 0))) (h : FL tc r p s z a i) (hi : i ≤ 10 ∧ 10 ≤ i) : SM a (sShU T s (2, i, fun d => sCn tc r p d)) := by
  have e : i = 10 := by omega
  subst e
  have hs1 := (hT s hs).resolve_left (fun q => by simp [sShU] at q)
  obtain ⟨n, k, it, q1, q2, q3, q4, q5, q6, q7⟩ := hs1
  simp only [sShU, if_pos, Prod.mk.injEq] at q1
  obtain ⟨e1, e2, -⟩ := q1
  have ek : k = 1 := by omega
  subst ek e2
  have e3 : sShU T s (2, 10, fun d => sCn tc r p d) = sShU (sShU T s (2, 10, fun _ => 0)) s (2, 10, fun d => sCn tc r p d) := by
    funext u
    unfold sShU
    by_cases q : u = s
    · rw [if_pos q, if_pos q]
    · rw [if_neg q, if_neg q, if_neg q]
  rw [e3]
  refine SM_u hT (fun j _ => congrFun (h.1 14 (by decide) (by decide)) j) (fun j _ => congrFun (h.1 15 (by decide) (by decide)) j) (fun j _ => congrFun (h.1 16 (by decide) (by decide)) j) (fun j hj => by rw [h.2.2, if_neg (by omega)]) (fun _ => Or.inr ⟨10, 1, _, rfl, by decide, by decide, by rw [h.1 14 (by decide) (by decide)]; exact q4, by rw [h.1 15 (by decide) (by decide)]; exact q5, by rw [h.1 16 (by decide) (by decide)]; exact q6, fun j hj => ?_⟩)
  rw [h.2.2, if_pos (by omega), show 40 * s + j - 40 * s = j by omega]
set_option maxHeartbeats 4000000 in
set_option maxRecDepth 20000 in
theorem t_X6_republic (l : Launch) (d : Nat) (x y w v : Int32) (z : xMem) (r0 : sR) (T : Nat → sSh) (hr : RM z r0) (h74 : r0 7 4 ≤ 4) (hT : SM z T) : XMi l (d + 2) yX6_republic cX6_republic 8 (some .int) shM [.ref 0, .int x, .int y, .int w, .int v] z (fun v9 z' => v9 = (sRep T r0 x y w v).1 ∧ RM z' (sRep T r0 x y w v).2 ∧ KW z z') := by
  refine XM.of (by decide) (Nat.le_of_ble_eq_true rfl) (fun xp xe xs xm xar xbl xme xc xD xcs xad xAA xCC xhr => ?_)
  generalize xhQ : MQ xbl _ xar xs 0 0 xAA = xQ
  show ww xp l xe (xRm (d + 2)) xs xm xar xbl xme xc 8 xD xcs xad shM xAA xQ 0 [(0, .ref 0), (1, .int x), (2, .int y), (3, .int w), (4, .int v)] [] z
  refine ww_blk xCC okX6_republic 0 1 (ps := []) (pc' := 1) (lv' := [(0, .ref 0), (1, .int x), (2, .int y), (3, .int w), (4, .int v)]) (st' := [.int x]) (z' := z) rfl trivial ?_
  refine ww_callSNz xCC okX6_republic 1 (ix := 337) (t_X6_isSheet l d x _) (by omega) (by decide) xyX6_isSheet xiX6_isSheet (Or.inl (lw_gt_of (List.mem_of_getElem? (i := 1212) (by decide +kernel)) rfl)) rfl (rest := []) rfl (Nat.le_of_ble_eq_true rfl) rfl (fun z1 h2 => ?_) (fun z1 h2 => ?_)
  · skip
    have h2 : 0 ≤ x.toInt ∧ x.toInt ≤ 3 := h2
    obtain ⟨s, hs, rfl⟩ := sNN (x := x) (n := 4) h2.1 (by omega)
    refine ww_br xCC okX6_republic 2 (P := 1 = 0) (t1 := 32) (t2 := 7) (r := []) rfl (fun q => absurd q (by decide)) (fun _ => ?_)
    refine ww_blk xCC okX6_republic 3 4 (ps := []) (pc' := 13) (lv' := [(0, .ref 0), (1, .int (nI s)), (2, .int y), (3, .int w), (4, .int v)]) (st' := [.long 2, .long 0, .long y.toInt64]) (z' := z) rfl trivial ?_
    refine ww_callSNz xCC okX6_republic 7 (ix := 82) (t_X6_in l d y.toInt64 0 2 y.toInt 0 2 (Int32.toInt_toInt64 _) rfl rfl  _) (by omega) (by decide) xyX6_in xiX6_in (Or.inl (lw_gt_of (List.mem_of_getElem? (i := 962) (by decide +kernel)) rfl)) rfl (rest := []) rfl (Nat.le_of_ble_eq_true rfl) rfl (fun z4 h5 => ?_) (fun z4 h5 => ?_)
    · skip
      have h5 : 0 ≤ y.toInt ∧ y.toInt ≤ 2 := h5
      obtain ⟨g, hg, rfl⟩ := sNN (x := y) (n := 3) (by omega) (by omega)
      refine ww_br xCC okX6_republic 8 (P := 1 = 0) (t1 := 32) (t2 := 19) (r := []) rfl (fun q => absurd q (by decide)) (fun _ => ?_)
      refine ww_blk xCC okX6_republic 9 4 (ps := []) (pc' := 26) (lv' := [(0, .ref 0), (1, .int (nI s)), (2, .int (nI g)), (3, .int w), (4, .int v)]) (st' := [.long 4, .long 0, .long v.toInt64]) (z' := z) rfl trivial ?_
      refine ww_callSNz xCC okX6_republic 13 (ix := 82) (t_X6_in l d v.toInt64 0 4 v.toInt 0 4 (Int32.toInt_toInt64 _) rfl rfl  _) (by omega) (by decide) xyX6_in xiX6_in (Or.inl (lw_gt_of (List.mem_of_getElem? (i := 962) (by decide +kernel)) rfl)) rfl (rest := []) rfl (Nat.le_of_ble_eq_true rfl) rfl (fun z7 h8 => ?_) (fun z7 h8 => ?_)
      · skip
        have h8 : 0 ≤ v.toInt ∧ v.toInt ≤ 4 := h8
        obtain ⟨m, hm4, rfl⟩ := sNN (x := v) (n := 5) (by omega) (by omega)
        refine ww_br xCC okX6_republic 14 (P := 1 = 0) (t1 := 32) (t2 := 35) (r := []) rfl (fun q => absurd q (by decide)) (fun _ => ?_)
        refine ww_blk xCC okX6_republic 17 4 (ps := [vp_in (nI s) 4]) (pc' := 41) (lv' := [(0, .ref 0), (1, .int (nI s)), (2, .int (nI g)), (3, .int w), (4, .int (nI m))]) (st' := [.int (z.1 14 (nI s).toNatClampNeg)]) (z' := z) rfl (vp_in_nI (by omega) (by decide)) ?_
        rw [sCL (n := s) (by omega)]
        refine ww_br xCC okX6_republic 21 (P := (z.1 14 s) = 0) (t1 := 57) (t2 := 44) (r := []) rfl (fun c10 => ?_) (fun c10 => ?_)
        · skip
          have hm := SM_0 hT (s := s) (by omega) c10
          refine ww_blk xCC okX6_republic 30 4 (ps := [vp_in (nI s) 4]) (pc' := 63) (lv' := [(0, .ref 0), (1, .int (nI s)), (2, .int (nI g)), (3, .int w), (4, .int (nI m))]) (st' := [.int (z.1 14 (nI s).toNatClampNeg)]) (z' := z) rfl (vp_in_nI (by omega) (by decide)) ?_
          rw [sCL (n := s) (by omega)]
          refine ww_br xCC okX6_republic 34 (P := (z.1 14 s) = 0) (t1 := 66) (t2 := 69) (r := []) rfl (fun c11 => ?_) (fun c11 => absurd (by assumption) c11)
          refine ww_blk xCC okX6_republic 35 1 (ps := []) (pc' := 68) (lv' := [(0, .ref 0), (1, .int (nI s)), (2, .int (nI g)), (3, .int w), (4, .int (nI m))]) (st' := [.int (-11)]) (z' := z) rfl trivial ?_
          subst xhQ
          exact ww_iret xCC okX6_republic 36 xhr rfl rfl ⟨_, rfl, (by rw [sRep_m (by omega) (by omega) (by omega) hm]; exact ⟨rfl, hr, KW_rf z⟩)⟩
        · skip
          obtain ⟨n, k9, it, hTs, hk, hn, h14, h15, h16, hit⟩ := SM_1 hT (s := s) (by omega) c10
          refine ww_blk xCC okX6_republic 22 5 (ps := [vp_in (nI s) 4]) (pc' := 51) (lv' := [(0, .ref 0), (1, .int (nI s)), (2, .int (nI g)), (3, .int w), (4, .int (nI m))]) (st' := [.int (nI g), .int (z.1 15 (nI s).toNatClampNeg)]) (z' := z) rfl (vp_in_nI (by omega) (by decide)) ?_
          rw [sCL (n := s) (by omega)]
          rw [h15]
          refine ww_br xCC okX6_republic 27 (P := (nI k9) = (nI g)) (t1 := 57) (t2 := 54) (r := []) rfl (fun c12 => ?_) (fun c12 => ?_)
          · skip
            replace c12 : k9 = g := (sEQ (a := k9) (b := g) (by omega) (by omega)).mp c12
            refine ww_blk xCC okX6_republic 30 4 (ps := [vp_in (nI s) 4]) (pc' := 63) (lv' := [(0, .ref 0), (1, .int (nI s)), (2, .int (nI g)), (3, .int w), (4, .int (nI m))]) (st' := [.int (z.1 14 (nI s).toNatClampNeg)]) (z' := z) rfl (vp_in_nI (by omega) (by decide)) ?_
            rw [sCL (n := s) (by omega)]
            refine ww_br xCC okX6_republic 34 (P := (z.1 14 s) = 0) (t1 := 66) (t2 := 69) (r := []) rfl (fun c13 => absurd c13 (fun q => absurd (h14.symm.trans q) (by decide))) (fun c13 => ?_)
            rcases (show w.toInt < 0 ∨ 0 ≤ w.toInt by omega) with hw0 | hw0
            · skip
              refine ww_blk xCC okX6_republic 37 6 (ps := []) (pc' := 79) (lv' := [(6, .int 0), (5, .int 0), (0, .ref 0), (1, .int (nI s)), (2, .int (nI g)), (3, .int w), (4, .int (nI m))]) (st' := [.int (nI m), .int 0]) (z' := z) rfl trivial ?_
              refine ww_br xCC okX6_republic 43 (P := (nI m) ≤ 0) (t1 := 158) (t2 := 82) (r := []) rfl (fun c14 => ?_) (fun c14 => ?_)
              · skip
                replace c14 : m ≤ 0 := (sLE (a := m) (b := 0) (by omega) (by omega)).mp c14
                refine ww_blk xCC okX6_republic 91 1 (ps := []) (pc' := 160) (lv' := [(6, .int 0), (5, .int 0), (0, .ref 0), (1, .int (nI s)), (2, .int (nI g)), (3, .int w), (4, .int (nI m))]) (st' := [.int 0]) (z' := z) rfl trivial ?_
                subst xhQ
                exact ww_iret xCC okX6_republic 92 xhr rfl rfl ⟨_, rfl, (by rw [sRep_n (by omega) (by omega) (by omega) hTs (by omega) hw0, if_pos (by omega)]; exact ⟨rfl, hr, KW_rf z⟩)⟩
              · skip
                replace c14 : ¬ m ≤ 0 := fun q => c14 ((sLE (a := m) (b := 0) (by omega) (by omega)).mpr q)
                refine ww_blk xCC okX6_republic 44 1 (ps := []) (pc' := 83) (lv' := [(6, .int 0), (5, .int 0), (0, .ref 0), (1, .int (nI s)), (2, .int (nI g)), (3, .int w), (4, .int (nI m))]) (st' := [.int w]) (z' := z) rfl trivial ?_
                refine ww_br xCC okX6_republic 45 (P := w < 0) (t1 := 103) (t2 := 86) (r := []) rfl (fun c15 => ?_) (fun c15 => absurd (sL0.mpr hw0) c15)
                refine ww_blk xCC okX6_republic 58 1 (ps := []) (pc' := 105) (lv' := [(6, .int 0), (5, .int 0), (0, .ref 0), (1, .int (nI s)), (2, .int (nI g)), (3, .int w), (4, .int (nI m))]) (st' := [.int (-12)]) (z' := z) rfl trivial ?_
                subst xhQ
                exact ww_iret xCC okX6_republic 59 xhr rfl rfl ⟨_, rfl, (by rw [sRep_n (by omega) (by omega) (by omega) hTs (by omega) hw0, if_neg (by omega)]; exact ⟨rfl, hr, KW_rf z⟩)⟩
            · skip
              obtain ⟨a, ha31, rfl⟩ := sNN31 (x := w) (by omega)
              refine ww_blk xCC okX6_republic 37 4 (ps := []) (pc' := 75) (lv' := [(6, .int 0), (5, .int 0), (0, .ref 0), (1, .int (nI s)), (2, .int (nI g)), (3, .int (nI a)), (4, .int (nI m))]) (st' := []) (z' := z) rfl trivial ?_
              have L75 : ∀ (n75 : Nat) (k : Nat) (r : sR) (c : Nat) (zL : xMem), m - k < n75 → (sRq it n a m 0 r0 0 = sRq it n a (m - k) k r c) → (RM zL r) → (KW z zL) → (r 7 4 ≤ 4) → (k ≤ m) → ww xp l xe (xRm (d + 2)) xs xm xar xbl xme xc 8 xD xcs xad shM xAA xQ 75 [(6, .int (nI k)), (5, .int (nI c)), (0, .ref 0), (1, .int (nI s)), (2, .int (nI g)), (3, .int (nI a)), (4, .int (nI m))] [] zL := by
                intro n75
                induction n75 with
                | zero =>
                  intro k r c zL hmu75
                  exact absurd hmu75 (Nat.not_lt_zero _)
                | succ n75 ih75 =>
                  intro k r c zL hmu75 e75_0 e75_1 e75_2 e75_3 e75_4
                  refine ww_blk xCC okX6_republic 41 2 (ps := []) (pc' := 79) (lv' := [(6, .int (nI k)), (5, .int (nI c)), (0, .ref 0), (1, .int (nI s)), (2, .int (nI g)), (3, .int (nI a)), (4, .int (nI m))]) (st' := [.int (nI m), .int (nI k)]) (z' := zL) rfl trivial ?_
                  refine ww_br xCC okX6_republic 43 (P := (nI m) ≤ (nI k)) (t1 := 158) (t2 := 82) (r := []) rfl (fun c16 => ?_) (fun c16 => ?_)
                  · skip
                    replace c16 : m ≤ k := (sLE (a := m) (b := k) (by omega) (by omega)).mp c16
                    refine ww_blk xCC okX6_republic 91 1 (ps := []) (pc' := 160) (lv' := [(6, .int (nI k)), (5, .int (nI c)), (0, .ref 0), (1, .int (nI s)), (2, .int (nI g)), (3, .int (nI a)), (4, .int (nI m))]) (st' := [.int (nI c)]) (z' := zL) rfl trivial ?_
                    subst xhQ
                    exact ww_iret xCC okX6_republic 92 xhr rfl rfl ⟨_, rfl, (by rw [sRep_y (by omega) (by omega) (by omega) ha31 hTs (by omega), e75_0, show m - k = 0 by omega]; exact ⟨rfl, e75_1, e75_2⟩)⟩
                  · skip
                    replace c16 : ¬ m ≤ k := fun q => c16 ((sLE (a := m) (b := k) (by omega) (by omega)).mpr q)
                    refine ww_blk xCC okX6_republic 44 1 (ps := []) (pc' := 83) (lv' := [(6, .int (nI k)), (5, .int (nI c)), (0, .ref 0), (1, .int (nI s)), (2, .int (nI g)), (3, .int (nI a)), (4, .int (nI m))]) (st' := [.int (nI a)]) (z' := zL) rfl trivial ?_
                    refine ww_br xCC okX6_republic 45 (P := (nI a) < 0) (t1 := 103) (t2 := 86) (r := []) rfl (fun c17 => absurd c17 (nI_pos (by omega))) (fun c17 => ?_)
                    refine ww_blk xCC okX6_republic 46 11 (ps := [vp_in (nI s) 4]) (pc' := 100) (lv' := [(6, .int (nI k)), (5, .int (nI c)), (0, .ref 0), (1, .int (nI s)), (2, .int (nI g)), (3, .int (nI a)), (4, .int (nI m))]) (st' := [.int (((zL.1 16 (nI s).toNatClampNeg) - (2 * (nI k))) - 2), .int (nI a)]) (z' := zL) rfl (vp_in_nI (by omega) (by decide)) ?_
                    rw [sCL (n := s) (by omega)]
                    rw [show zL.1 16 s = nI n from (congrFun (e75_2.1 16 (by omega)) s).trans h16]
                    rw [show (2 : Int32) * nI k = nI (2 * k) from pk_mul 2 k]
                    refine ww_br xCC okX6_republic 57 (P := (nI a) ≤ (((nI n) - (nI (2 * k))) - 2)) (t1 := 106) (t2 := 103) (r := []) rfl (fun c18 => ?_) (fun c18 => ?_)
                    · skip
                      have hle := (sSub22 (a := a) (c := 2 * k) (n := n) (by omega) (by omega) (by omega)).mp c18
                      have hI0 : zL.1 17 (40 * s + a + 2 * k) = it (a + 2 * k) := by rw [e75_2.1 17 (by omega), show 40 * s + a + 2 * k = 40 * s + (a + 2 * k) by omega]; exact hit _ (by omega)
                      have hI1 : zL.1 17 (40 * s + a + 2 * k + 1) = it (a + 2 * k + 1) := by rw [e75_2.1 17 (by omega), show 40 * s + a + 2 * k + 1 = 40 * s + (a + 2 * k + 1) by omega]; exact hit _ (by omega)
                      refine ww_blk xCC okX6_republic 60 22 (ps := [vp_in (((40 * (nI s)) + (nI a)) + (2 * (nI k))) 160, vp_in ((((40 * (nI s)) + (nI a)) + (2 * (nI k))) + 1) 160]) (pc' := 138) (lv' := [(7, .int (((40 * (nI s)) + (nI a)) + (2 * (nI k)))), (6, .int (nI k)), (5, .int (nI c)), (0, .ref 0), (1, .int (nI s)), (2, .int (nI g)), (3, .int (nI a)), (4, .int (nI m))]) (st' := [.int (zL.1 17 ((((40 * (nI s)) + (nI a)) + (2 * (nI k))) + 1).toNatClampNeg), .int (zL.1 17 (((40 * (nI s)) + (nI a)) + (2 * (nI k))).toNatClampNeg), .ref 0, .int (nI c)]) (z' := zL) rfl ⟨(vp_rep (by omega)), (vp_rep1 (by omega))⟩ ?_
                      rw [show (40 : Int32) * nI s = nI (40 * s) from pk_mul 40 s]
                      rw [show (2 : Int32) * nI k = nI (2 * k) from pk_mul 2 k]
                      rw [nI_add (40 * s) a]
                      rw [nI_add ((40 * s) + a) (2 * k)]
                      rw [show nI (((40 * s) + a) + (2 * k)) + (1 : Int32) = nI ((((40 * s) + a) + (2 * k)) + 1) from nI_add (((40 * s) + a) + (2 * k)) 1]
                      rw [sCL (n := ((((40 * s) + a) + (2 * k)) + 1)) (by omega)]
                      rw [hI1]
                      rw [sCL (n := (((40 * s) + a) + (2 * k))) (by omega)]
                      rw [hI0]
                      refine ww_callVIi xCC okX6_republic 82 (ix := 371) (t_X6_person l d (it (a + 2 * k)) (it (a + 2 * k + 1)) zL r e75_1 e75_3) (by omega) (by decide) xyX6_person xiX6_person (Or.inl (lw_gt_of (List.mem_of_getElem? (i := 1272) (by decide +kernel)) rfl)) rfl rfl rfl (rest := [.int (nI c)]) rfl (Nat.le_of_ble_eq_true rfl) rfl (fun vP zP hP => ?_)
                      rw [hP.1]
                      refine ww_br xCC okX6_republic 83 (P := ((sPerson r (it (a + 2 * k)) (it (a + 2 * k + 1))).1) < 0) (t1 := 148) (t2 := 144) (r := [.int (nI c)]) rfl (fun c19 => ?_) (fun c19 => ?_)
                      · skip
                        have hv9 := sL0.mp c19
                        refine ww_blk xCC okX6_republic 86 5 (ps := []) (pc' := 75) (lv' := [(6, .int ((nI k) + 1)), (5, .int ((nI c) + 0)), (7, .int (nI (((40 * s) + a) + (2 * k)))), (0, .ref 0), (1, .int (nI s)), (2, .int (nI g)), (3, .int (nI a)), (4, .int (nI m))]) (st' := []) (z' := zP) rfl trivial ?_
                        rw [show nI k + (1 : Int32) = nI (k + 1) from nI_add k 1]
                        rw [show nI c + (0 : Int32) = nI (c + 0) from nI_add c 0]
                        exact ww_cut [0, 1, 3, 4, 5, 6, 7] (xlc rfl (xlc (congrArg Value.int (show (nI (c + 0) : Int32) = nI c from rfl)) (xlc rfl (xlc rfl (xlc rfl (xlc rfl (xlc rfl rfl))))))) rfl rfl (ih75 (k + 1) ((sPerson r (it (a + 2 * k)) (it (a + 2 * k + 1))).2) c zP (by omega) (e75_0.trans (sRq_n (by omega) (by omega) hv9)) hP.2.1 (KW_tr e75_2 hP.2.2) (sPerson_4 e75_3) (by omega))
                      · skip
                        have hv9 : ¬ (sPerson r (it (a + 2 * k)) (it (a + 2 * k + 1))).1.toInt < 0 := fun q => c19 (sL0.mpr q)
                        refine ww_blk xCC okX6_republic 84 2 (ps := []) (pc' := 149) (lv' := [(7, .int (nI (((40 * s) + a) + (2 * k)))), (6, .int (nI k)), (5, .int (nI c)), (0, .ref 0), (1, .int (nI s)), (2, .int (nI g)), (3, .int (nI a)), (4, .int (nI m))]) (st' := [.int 1, .int (nI c)]) (z' := zP) rfl trivial ?_
                        refine ww_blk xCC okX6_republic 87 4 (ps := []) (pc' := 75) (lv' := [(6, .int ((nI k) + 1)), (5, .int ((nI c) + 1)), (7, .int (nI (((40 * s) + a) + (2 * k)))), (0, .ref 0), (1, .int (nI s)), (2, .int (nI g)), (3, .int (nI a)), (4, .int (nI m))]) (st' := []) (z' := zP) rfl trivial ?_
                        rw [show nI k + (1 : Int32) = nI (k + 1) from nI_add k 1]
                        rw [show nI c + (1 : Int32) = nI (c + 1) from nI_add c 1]
                        exact ww_cut [0, 1, 3, 4, 5, 6, 7] (xlc rfl (xlc rfl (xlc rfl (xlc rfl (xlc rfl (xlc rfl (xlc rfl rfl))))))) rfl rfl (ih75 (k + 1) ((sPerson r (it (a + 2 * k)) (it (a + 2 * k + 1))).2) (c + 1) zP (by omega) (e75_0.trans (sRq_y (by omega) (by omega) hv9)) hP.2.1 (KW_tr e75_2 hP.2.2) (sPerson_4 e75_3) (by omega))
                    · skip
                      have hle : ¬ a + 2 * k + 2 ≤ n := fun q => c18 ((sSub22 (a := a) (c := 2 * k) (n := n) (by omega) (by omega) (by omega)).mpr q)
                      refine ww_blk xCC okX6_republic 58 1 (ps := []) (pc' := 105) (lv' := [(6, .int (nI k)), (5, .int (nI c)), (0, .ref 0), (1, .int (nI s)), (2, .int (nI g)), (3, .int (nI a)), (4, .int (nI m))]) (st' := [.int (-12)]) (z' := zL) rfl trivial ?_
                      subst xhQ
                      exact ww_iret xCC okX6_republic 59 xhr rfl rfl ⟨_, rfl, (by rw [sRep_y (by omega) (by omega) (by omega) ha31 hTs (by omega), e75_0, sRq_o (by omega) hle]; exact ⟨rfl, e75_1, e75_2⟩)⟩
              exact ww_cut [0, 1, 2, 3, 4, 5, 6] (xlc (congrArg Value.int (show (0 : Int32) = nI 0 from rfl)) (xlc (congrArg Value.int (show (0 : Int32) = nI 0 from rfl)) (xlc rfl (xlc rfl (xlc rfl (xlc rfl (xlc rfl rfl))))))) rfl rfl (L75 (m - 0 + 1) 0 r0 0 z (Nat.lt_succ_self _) rfl hr (KW_rf z) h74 (by omega))
          · skip
            replace c12 : ¬ k9 = g := fun q => c12 ((sEQ (a := k9) (b := g) (by omega) (by omega)).mpr q)
            refine ww_blk xCC okX6_republic 28 1 (ps := []) (pc' := 56) (lv' := [(0, .ref 0), (1, .int (nI s)), (2, .int (nI g)), (3, .int w), (4, .int (nI m))]) (st' := [.int (-13)]) (z' := z) rfl trivial ?_
            subst xhQ
            exact ww_iret xCC okX6_republic 29 xhr rfl rfl ⟨_, rfl, (by rw [sRep_s (by omega) (by omega) (by omega) hTs (by omega)]; exact ⟨rfl, hr, KW_rf z⟩)⟩
      · skip
        have h8 : ¬ (0 ≤ v.toInt ∧ v.toInt ≤ 4) := h8
        refine ww_br xCC okX6_republic 14 (P := 0 = 0) (t1 := 32) (t2 := 35) (r := []) rfl (fun _ => ?_) (fun q => absurd (by decide) q)
        refine ww_blk xCC okX6_republic 15 1 (ps := []) (pc' := 34) (lv' := [(0, .ref 0), (1, .int (nI s)), (2, .int (nI g)), (3, .int w), (4, .int v)]) (st' := [.int (-2)]) (z' := z) rfl trivial ?_
        subst xhQ
        exact ww_iret xCC okX6_republic 16 xhr rfl rfl ⟨_, rfl, (by rw [sRep_b (by omega)]; exact ⟨rfl, hr, KW_rf z⟩)⟩
    · skip
      have h5 : ¬ (0 ≤ y.toInt ∧ y.toInt ≤ 2) := h5
      refine ww_br xCC okX6_republic 8 (P := 0 = 0) (t1 := 32) (t2 := 19) (r := []) rfl (fun _ => ?_) (fun q => absurd (by decide) q)
      refine ww_blk xCC okX6_republic 15 1 (ps := []) (pc' := 34) (lv' := [(0, .ref 0), (1, .int (nI s)), (2, .int y), (3, .int w), (4, .int v)]) (st' := [.int (-2)]) (z' := z) rfl trivial ?_
      subst xhQ
      exact ww_iret xCC okX6_republic 16 xhr rfl rfl ⟨_, rfl, (by rw [sRep_b (by omega)]; exact ⟨rfl, hr, KW_rf z⟩)⟩
  · skip
    have h2 : ¬ (0 ≤ x.toInt ∧ x.toInt ≤ 3) := h2
    refine ww_br xCC okX6_republic 2 (P := 0 = 0) (t1 := 32) (t2 := 7) (r := []) rfl (fun _ => ?_) (fun q => absurd (by decide) q)
    refine ww_blk xCC okX6_republic 15 1 (ps := []) (pc' := 34) (lv' := [(0, .ref 0), (1, .int x), (2, .int y), (3, .int w), (4, .int v)]) (st' := [.int (-2)]) (z' := z) rfl trivial ?_
    subst xhQ
    exact ww_iret xCC okX6_republic 16 xhr rfl rfl ⟨_, rfl, (by rw [sRep_b (by omega)]; exact ⟨rfl, hr, KW_rf z⟩)⟩

set_option maxHeartbeats 4000000 in
set_option maxRecDepth 20000 in
theorem t_X6_firstOther (l : Launch) (d : Nat) (p : Nat) (z : xMem) (r : sR) (cnt : Nat) (tc : Nat → sTc) (hr : RM z r) (hw : sW r cnt) (ht : TM z cnt tc) (s n : Nat) (it : Nat → Int32) (hs : s < 4) (hn : n ≤ 10) (h16 : z.1 16 s = nI n) (hit : ∀ i, i < n → z.1 17 (40 * s + i) = it i) (hp : p < 4) : XMi l (d + 310) yX6_firstOther cX6_firstOther 4 (some .int) shM [.ref 0, .int (nI s), .int (nI p)] z (fun v z' => v = cI (sF1 (sOt tc r p it) n) ∧ KM z z') := by
  refine XM.of (by decide) (Nat.le_of_ble_eq_true rfl) (fun xp xe xs xm xar xbl xme xc xD xcs xad xAA xCC xhr => ?_)
  generalize xhQ : MQ xbl _ xar xs 0 0 xAA = xQ
  show ww xp l xe (xRm (d + 310)) xs xm xar xbl xme xc 4 xD xcs xad shM xAA xQ 0 [(0, .ref 0), (1, .int (nI s)), (2, .int (nI p))] [] z
  refine ww_blk xCC okX6_firstOther 0 2 (ps := []) (pc' := 2) (lv' := [(3, .int 0), (0, .ref 0), (1, .int (nI s)), (2, .int (nI p))]) (st' := []) (z' := z) rfl trivial ?_
  have L2 : ∀ (n2 : Nat) (i : Nat) (zL : xMem), n - i < n2 → (i ≤ n) → (KM z zL) → (sF1 (sOt tc r p it) i = 0) → ww xp l xe (xRm (d + 310)) xs xm xar xbl xme xc 4 xD xcs xad shM xAA xQ 2 [(3, .int (nI i)), (0, .ref 0), (1, .int (nI s)), (2, .int (nI p))] [] zL := by
    intro n2
    induction n2 with
    | zero =>
      intro i zL hmu2
      exact absurd hmu2 (Nat.not_lt_zero _)
    | succ n2 ih2 =>
      intro i zL hmu2 e2_0 e2_1 e2_2
      have hrL := RM_K e2_1 hr
      have htL := TM_K e2_1 ht
      refine ww_blk xCC okX6_firstOther 2 5 (ps := [vp_in (nI s) 4]) (pc' := 9) (lv' := [(3, .int (nI i)), (0, .ref 0), (1, .int (nI s)), (2, .int (nI p))]) (st' := [.int (zL.1 16 (nI s).toNatClampNeg), .int (nI i)]) (z' := zL) rfl (vp_in_nI (by omega) (by decide)) ?_
      rw [sCL (n := s) (by omega)]
      rw [show zL.1 16 s = nI n from (congrFun (e2_1.1 16 (by decide)) s).trans h16]
      refine ww_br xCC okX6_firstOther 7 (P := (nI n) ≤ (nI i)) (t1 := 53) (t2 := 12) (r := []) rfl (fun c1 => ?_) (fun c1 => ?_)
      · skip
        replace c1 : n ≤ i := (sLE (a := n) (b := i) (by omega) (by omega)).mp c1
        refine ww_blk xCC okX6_firstOther 32 1 (ps := []) (pc' := 54) (lv' := [(3, .int (nI i)), (0, .ref 0), (1, .int (nI s)), (2, .int (nI p))]) (st' := [.int (-1)]) (z' := zL) rfl trivial ?_
        subst xhQ
        exact ww_iret xCC okX6_firstOther 33 xhr rfl rfl ⟨_, rfl, ⟨(by rw [show n = i by omega, e2_2]; rfl), e2_1⟩⟩
      · skip
        replace c1 : ¬ n ≤ i := fun q => c1 ((sLE (a := n) (b := i) (by omega) (by omega)).mpr q)
        refine ww_blk xCC okX6_firstOther 8 3 (ps := []) (pc' := 15) (lv' := [(3, .int (nI i)), (0, .ref 0), (1, .int (nI s)), (2, .int (nI p))]) (st' := [.int (nI i), .int (nI p), .ref 0]) (z' := zL) rfl trivial ?_
        refine ww_callVIz xCC okX6_firstOther 11 (ix := 270) (t_X6_dares l d p i zL r cnt tc hrL hw htL (by omega) (by omega)) (by omega) (by decide) xyX6_dares xiX6_dares (Or.inl (lw_gt_of (List.mem_of_getElem? (i := 996) (by decide +kernel)) rfl)) rfl rfl rfl (rest := []) rfl (Nat.le_of_ble_eq_true rfl) rfl (fun zS2 hS2 => ?_) (fun zS2 hS2 => ?_)
        · skip
          have hrS2 := RM_K hS2.2 hrL
          have htS2 := TM_K hS2.2 htL
          have hKS2 := KM_tr e2_1 hS2.2
          have hdr := hS2.1
          refine ww_br xCC okX6_firstOther 12 (P := 1 = 0) (t1 := 30) (t2 := 21) (r := []) rfl (fun q => absurd q (by decide)) (fun _ => ?_)
          refine ww_blk xCC okX6_firstOther 13 3 (ps := []) (pc' := 24) (lv' := [(3, .int (nI i)), (0, .ref 0), (1, .int (nI s)), (2, .int (nI p))]) (st' := [.int (nI i), .int (nI p), .ref 0]) (z' := zS2) rfl trivial ?_
          refine ww_callVIi xCC okX6_firstOther 16 (ix := 273) (t_X6_costsOf l d p i zS2 r cnt tc hrS2 hw htS2 (by omega) (by omega)) (by omega) (by decide) xyX6_costsOf xiX6_costsOf (Or.inl (lw_gt_of (List.mem_of_getElem? (i := 1117) (by decide +kernel)) rfl)) rfl rfl rfl (rest := []) rfl (Nat.le_of_ble_eq_true rfl) rfl (fun v5 zS4 hS4 => ?_)
          have hrS4 := RM_K hS4.2 hrS2
          have htS4 := TM_K hS4.2 htS2
          have hKS4 := KM_tr hKS2 hS4.2
          rw [hS4.1]
          refine ww_blk xCC okX6_firstOther 17 1 (ps := []) (pc' := 31) (lv' := [(3, .int (nI i)), (0, .ref 0), (1, .int (nI s)), (2, .int (nI p))]) (st' := [.int (sCosts tc r p i)]) (z' := zS4) rfl trivial ?_
          refine ww_blk xCC okX6_firstOther 19 8 (ps := [vp_in ((40 * (nI s)) + (nI i)) 160]) (pc' := 42) (lv' := [(3, .int (nI i)), (0, .ref 0), (1, .int (nI s)), (2, .int (nI p))]) (st' := [.int (zS4.1 17 ((40 * (nI s)) + (nI i)).toNatClampNeg), .int (sCosts tc r p i)]) (z' := zS4) rfl (vp_40 (by omega) (by omega)) ?_
          rw [show (40 : Int32) * nI s = nI (40 * s) from pk_mul 40 s]
          rw [nI_add (40 * s) i]
          rw [sCL (n := ((40 * s) + i)) (by omega)]
          rw [show zS4.1 17 (40 * s + i) = it i from (congrFun (hKS4.1 17 (by decide)) _).trans (hit i (by omega))]
          refine ww_br xCC okX6_firstOther 27 (P := (sCosts tc r p i) = (it i)) (t1 := 47) (t2 := 45) (r := []) rfl (fun c6 => ?_) (fun c6 => ?_)
          · skip
            have hq42 := c6
            refine ww_blk xCC okX6_firstOther 30 2 (ps := []) (pc' := 2) (lv' := [(3, .int ((nI i) + 1)), (0, .ref 0), (1, .int (nI s)), (2, .int (nI p))]) (st' := []) (z' := zS4) rfl trivial ?_
            rw [show nI i + (1 : Int32) = nI (i + 1) from nI_add i 1]
            exact ww_cut [0, 1, 2, 3] (xlc rfl (xlc rfl (xlc rfl (xlc rfl rfl)))) rfl rfl (ih2 (i + 1) zS4 (by omega) (by omega) hKS4 (sF1_n e2_2 (sOt_f1 hdr hq42)))
          · skip
            have hq42 := c6
            refine ww_blk xCC okX6_firstOther 28 1 (ps := []) (pc' := 46) (lv' := [(3, .int (nI i)), (0, .ref 0), (1, .int (nI s)), (2, .int (nI p))]) (st' := [.int (nI i)]) (z' := zS4) rfl trivial ?_
            subst xhQ
            exact ww_iret xCC okX6_firstOther 29 xhr rfl rfl ⟨_, rfl, ⟨(by rw [sF1_at e2_2 (show i < n by omega) (sOt_t1 hdr hq42)]; exact cI_s i), hKS4⟩⟩
        · skip
          have hrS2 := RM_K hS2.2 hrL
          have htS2 := TM_K hS2.2 htL
          have hKS2 := KM_tr e2_1 hS2.2
          have hdr := hS2.1
          refine ww_br xCC okX6_firstOther 12 (P := 0 = 0) (t1 := 30) (t2 := 21) (r := []) rfl (fun _ => ?_) (fun q => absurd (by decide) q)
          refine ww_blk xCC okX6_firstOther 18 9 (ps := [vp_in ((40 * (nI s)) + (nI i)) 160]) (pc' := 42) (lv' := [(3, .int (nI i)), (0, .ref 0), (1, .int (nI s)), (2, .int (nI p))]) (st' := [.int (zS2.1 17 ((40 * (nI s)) + (nI i)).toNatClampNeg), .int (-1)]) (z' := zS2) rfl (vp_40 (by omega) (by omega)) ?_
          rw [show (40 : Int32) * nI s = nI (40 * s) from pk_mul 40 s]
          rw [nI_add (40 * s) i]
          rw [sCL (n := ((40 * s) + i)) (by omega)]
          rw [show zS2.1 17 (40 * s + i) = it i from (congrFun (hKS2.1 17 (by decide)) _).trans (hit i (by omega))]
          refine ww_br xCC okX6_firstOther 27 (P := (-1) = (it i)) (t1 := 47) (t2 := 45) (r := []) rfl (fun c8 => ?_) (fun c8 => ?_)
          · skip
            have hq42 := c8
            refine ww_blk xCC okX6_firstOther 30 2 (ps := []) (pc' := 2) (lv' := [(3, .int ((nI i) + 1)), (0, .ref 0), (1, .int (nI s)), (2, .int (nI p))]) (st' := []) (z' := zS2) rfl trivial ?_
            rw [show nI i + (1 : Int32) = nI (i + 1) from nI_add i 1]
            exact ww_cut [0, 1, 2, 3] (xlc rfl (xlc rfl (xlc rfl (xlc rfl rfl)))) rfl rfl (ih2 (i + 1) zS2 (by omega) (by omega) hKS2 (sF1_n e2_2 (sOt_f0 hdr hq42)))
          · skip
            have hq42 := c8
            refine ww_blk xCC okX6_firstOther 28 1 (ps := []) (pc' := 46) (lv' := [(3, .int (nI i)), (0, .ref 0), (1, .int (nI s)), (2, .int (nI p))]) (st' := [.int (nI i)]) (z' := zS2) rfl trivial ?_
            subst xhQ
            exact ww_iret xCC okX6_firstOther 29 xhr rfl rfl ⟨_, rfl, ⟨(by rw [sF1_at e2_2 (show i < n by omega) (sOt_t0 hdr hq42)]; exact cI_s i), hKS2⟩⟩
  exact ww_cut [0, 1, 2, 3] (xlc (congrArg Value.int (show (0 : Int32) = nI 0 from rfl)) (xlc rfl (xlc rfl (xlc rfl rfl)))) rfl rfl (L2 (n - 0 + 1) 0 z (Nat.lt_succ_self _) (by omega) (KM_rf z) rfl)

set_option maxHeartbeats 4000000 in
set_option maxRecDepth 20000 in
theorem t_X6_likeSet (l : Launch) (d : Nat) (z : xMem) (r : sR) (cnt : Nat) (tc : Nat → sTc) (hr : RM z r) (hw : sW r cnt) (ht : TM z cnt tc) (s n : Nat) (it : Nat → Int32) (hs : s < 4) (hn : n ≤ 10) (h16 : z.1 16 s = nI n) (hit : ∀ i, i < n → z.1 17 (40 * s + i) = it i) : XMi l (d + 311) yX6_likeSet cX6_likeSet 4 (some .int) shM [.ref 0, .int (nI s)] z (fun v z' => v = nI (sAl (sLf tc r it n) (r 7 4)) ∧ KM z z') := by
  refine XM.of (by decide) (Nat.le_of_ble_eq_true rfl) (fun xp xe xs xm xar xbl xme xc xD xcs xad xAA xCC xhr => ?_)
  generalize xhQ : MQ xbl _ xar xs 0 0 xAA = xQ
  show ww xp l xe (xRm (d + 311)) xs xm xar xbl xme xc 4 xD xcs xad shM xAA xQ 0 [(0, .ref 0), (1, .int (nI s))] [] z
  have hb := hw.1
  have h74 : r 7 4 ≤ 4 := hw.2.2.2.2.2.2.1
  refine ww_blk xCC okX6_likeSet 0 4 (ps := []) (pc' := 4) (lv' := [(3, .int 0), (2, .int 0), (0, .ref 0), (1, .int (nI s))]) (st' := []) (z' := z) rfl trivial ?_
  have L4 : ∀ (n4 : Nat) (p : Nat) (zL : xMem), r 7 4 - p < n4 → (p ≤ r 7 4) → (KM z zL) → ww xp l xe (xRm (d + 311)) xs xm xar xbl xme xc 4 xD xcs xad shM xAA xQ 4 [(3, .int (nI p)), (2, .int (nI (sAl (sLf tc r it n) p))), (0, .ref 0), (1, .int (nI s))] [] zL := by
    intro n4
    induction n4 with
    | zero =>
      intro p zL hmu4
      exact absurd hmu4 (Nat.not_lt_zero _)
    | succ n4 ih4 =>
      intro p zL hmu4 e4_0 e4_1
      have hrL := RM_K e4_1 hr
      have htL := TM_K e4_1 ht
      refine ww_blk xCC okX6_likeSet 4 3 (ps := []) (pc' := 9) (lv' := [(3, .int (nI p)), (2, .int (nI (sAl (sLf tc r it n) p))), (0, .ref 0), (1, .int (nI s))]) (st' := [.int (zL.1 0 15), .int (nI p)]) (z' := zL) rfl trivial ?_
      rw [hrL.2.2.2.2.2.2.2.2.2.2.2.1]
      refine ww_br xCC okX6_likeSet 7 (P := (nI (r 7 4)) ≤ (nI p)) (t1 := 38) (t2 := 12) (r := []) rfl (fun c1 => ?_) (fun c1 => ?_)
      · skip
        replace c1 : (r 7 4) ≤ p := (sLE (a := (r 7 4)) (b := p) (by omega) (by omega)).mp c1
        refine ww_blk xCC okX6_likeSet 24 1 (ps := []) (pc' := 39) (lv' := [(3, .int (nI p)), (2, .int (nI (sAl (sLf tc r it n) p))), (0, .ref 0), (1, .int (nI s))]) (st' := [.int (nI (sAl (sLf tc r it n) p))]) (z' := zL) rfl trivial ?_
        subst xhQ
        exact ww_iret xCC okX6_likeSet 25 xhr rfl rfl ⟨_, rfl, ⟨(by rw [show p = r 7 4 by omega]), e4_1⟩⟩
      · skip
        replace c1 : ¬ (r 7 4) ≤ p := fun q => c1 ((sLE (a := (r 7 4)) (b := p) (by omega) (by omega)).mpr q)
        refine ww_blk xCC okX6_likeSet 8 4 (ps := []) (pc' := 16) (lv' := [(3, .int (nI p)), (2, .int (nI (sAl (sLf tc r it n) p))), (0, .ref 0), (1, .int (nI s))]) (st' := [.int (nI p), .int (nI s), .ref 0, .int (nI (sAl (sLf tc r it n) p))]) (z' := zL) rfl trivial ?_
        refine ww_callVIi xCC okX6_likeSet 12 (ix := 334) (t_X6_firstOther l d p zL r cnt tc hrL hw htL s n it hs hn ((congrFun (e4_1.1 16 (by decide)) s).trans h16) (fun q hq => (congrFun (e4_1.1 17 (by decide)) _).trans (hit q hq)) (by omega)) (by omega) (by decide) xyX6_firstOther xiX6_firstOther (Or.inl (lw_gt_of (List.mem_of_getElem? (i := 1216) (by decide +kernel)) rfl)) rfl rfl rfl (rest := [.int (nI (sAl (sLf tc r it n) p))]) rfl (Nat.le_of_ble_eq_true rfl) rfl (fun v3 zS2 hS2 => ?_)
        have hrS2 := RM_K hS2.2 hrL
        have htS2 := TM_K hS2.2 htL
        have hKS2 := KM_tr e4_1 hS2.2
        rw [hS2.1]
        refine ww_blk xCC okX6_likeSet 13 1 (ps := []) (pc' := 20) (lv' := [(3, .int (nI p)), (2, .int (nI (sAl (sLf tc r it n) p))), (0, .ref 0), (1, .int (nI s))]) (st' := [.int (-1), .int (cI (sF1 (sOt tc r p it) n)), .int (nI (sAl (sLf tc r it n) p))]) (z' := zS2) rfl trivial ?_
        refine ww_br xCC okX6_likeSet 14 (P := (cI (sF1 (sOt tc r p it) n)) = (-1)) (t1 := 23) (t2 := 27) (r := [.int (nI (sAl (sLf tc r it n) p))]) rfl (fun c4 => ?_) (fun c4 => ?_)
        · skip
          have h20 := cI_m (by have := sF1_le (sOt tc r p it) n; omega) c4
          refine ww_blk xCC okX6_likeSet 15 2 (ps := []) (pc' := 28) (lv' := [(3, .int (nI p)), (2, .int (nI (sAl (sLf tc r it n) p))), (0, .ref 0), (1, .int (nI s))]) (st' := [.int 1, .int (nI (sAl (sLf tc r it n) p))]) (z' := zS2) rfl trivial ?_
          refine ww_blk xCC okX6_likeSet 18 6 (ps := []) (pc' := 4) (lv' := [(3, .int ((nI p) + 1)), (2, .int ((nI (sAl (sLf tc r it n) p)) ||| (1 <<< ((nI p) &&& 31)))), (0, .ref 0), (1, .int (nI s))]) (st' := []) (z' := zS2) rfl trivial ?_
          rw [show nI p + (1 : Int32) = nI (p + 1) from nI_add p 1]
          exact ww_cut [0, 1, 2, 3] (xlc rfl (xlc (congrArg Value.int (show ((nI (sAl (sLf tc r it n) p)) ||| (1 <<< ((nI p) &&& 31)) : Int32) = nI (sAl (sLf tc r it n) (p + 1)) from (by rw [sOr_bit p (by omega) _ (sAl_lt _ p), sAl, if_pos (by rw [sLf, if_pos h20]; decide)]))) (xlc rfl (xlc rfl rfl)))) rfl rfl (ih4 (p + 1) zS2 (by omega) (by omega) hKS2)
        · skip
          have h20 := cI_nm c4
          refine ww_blk xCC okX6_likeSet 17 7 (ps := []) (pc' := 4) (lv' := [(3, .int ((nI p) + 1)), (2, .int ((nI (sAl (sLf tc r it n) p)) ||| (0 <<< ((nI p) &&& 31)))), (0, .ref 0), (1, .int (nI s))]) (st' := []) (z' := zS2) rfl trivial ?_
          rw [show nI p + (1 : Int32) = nI (p + 1) from nI_add p 1]
          exact ww_cut [0, 1, 2, 3] (xlc rfl (xlc (congrArg Value.int (show ((nI (sAl (sLf tc r it n) p)) ||| (0 <<< ((nI p) &&& 31)) : Int32) = nI (sAl (sLf tc r it n) (p + 1)) from (by rw [sOr_no p (by omega) _ (sAl_lt _ p), sAl, if_neg (by rw [sLf, if_neg h20]; decide)]))) (xlc rfl (xlc rfl rfl)))) rfl rfl (ih4 (p + 1) zS2 (by omega) (by omega) hKS2)
  exact ww_cut [0, 1, 2, 3] (xlc (congrArg Value.int (show (0 : Int32) = nI 0 from rfl)) (xlc (congrArg Value.int (show (0 : Int32) = nI (sAl (sLf tc r it n) 0) from rfl)) (xlc rfl (xlc rfl rfl)))) rfl rfl (L4 (r 7 4 - 0 + 1) 0 z (Nat.lt_succ_self _) (by omega) (KM_rf z))

set_option maxHeartbeats 4000000 in
set_option maxRecDepth 20000 in
theorem t_X6_film (l : Launch) (d : Nat) (x y : Int32) (z : xMem) (r : sR) (cnt : Nat) (tc : Nat → sTc) (hr : RM z r) (hw : sW r cnt) (ht : TM z cnt tc) (T : Nat → sSh) (hT : SM z T) : XMi l (d + 310) yX6_film cX6_film 6 (some .int) shM [.ref 0, .int x, .int y] z (fun v9 z' => v9 = (sFilm tc r T x y).1 ∧ SM z' (sFilm tc r T x y).2 ∧ KY z z') := by
  refine XM.of (by decide) (Nat.le_of_ble_eq_true rfl) (fun xp xe xs xm xar xbl xme xc xD xcs xad xAA xCC xhr => ?_)
  generalize xhQ : MQ xbl _ xar xs 0 0 xAA = xQ
  show ww xp l xe (xRm (d + 310)) xs xm xar xbl xme xc 6 xD xcs xad shM xAA xQ 0 [(0, .ref 0), (1, .int x), (2, .int y)] [] z
  have hb := hw.1
  have h74 : r 7 4 ≤ 4 := hw.2.2.2.2.2.2.1
  refine ww_blk xCC okX6_film 0 1 (ps := []) (pc' := 1) (lv' := [(0, .ref 0), (1, .int x), (2, .int y)]) (st' := [.int x]) (z' := z) rfl trivial ?_
  refine ww_callSNz xCC okX6_film 1 (ix := 337) (t_X6_isSheet l d x _) (by omega) (by decide) xyX6_isSheet xiX6_isSheet (Or.inl (lw_gt_of (List.mem_of_getElem? (i := 1212) (by decide +kernel)) rfl)) rfl (rest := []) rfl (Nat.le_of_ble_eq_true rfl) rfl (fun z1 h2 => ?_) (fun z1 h2 => ?_)
  · skip
    have h2 : 0 ≤ x.toInt ∧ x.toInt ≤ 3 := h2
    obtain ⟨s, hs, rfl⟩ := sNN (x := x) (n := 4) h2.1 (by omega)
    refine ww_br xCC okX6_film 2 (P := 1 = 0) (t1 := 15) (t2 := 7) (r := []) rfl (fun q => absurd q (by decide)) (fun _ => ?_)
    refine ww_blk xCC okX6_film 3 2 (ps := []) (pc' := 9) (lv' := [(0, .ref 0), (1, .int (nI s)), (2, .int y)]) (st' := [.int y, .ref 0]) (z' := z) rfl trivial ?_
    refine ww_callVIz xCC okX6_film 5 (ix := 97) (t_X6_isOne l d y z (r 7 4) hr.2.2.2.2.2.2.2.2.2.2.2.1 h74) (by omega) (by decide) xyX6_isOne xiX6_isOne (Or.inl (lw_gt_of (List.mem_of_getElem? (i := 976) (by decide +kernel)) rfl)) rfl rfl rfl (rest := []) rfl (Nat.le_of_ble_eq_true rfl) rfl (fun zO hO => ?_) (fun zO hO => ?_)
    · skip
      rw [hO.2]
      obtain ⟨⟨hOa, hOb⟩, -⟩ := hO
      obtain ⟨p, hp, rfl⟩ := sNN (x := y) (n := r 7 4) hOa (by omega)
      refine ww_br xCC okX6_film 6 (P := 1 = 0) (t1 := 15) (t2 := 18) (r := []) rfl (fun q => absurd q (by decide)) (fun _ => ?_)
      refine ww_blk xCC okX6_film 9 4 (ps := []) (pc' := 23) (lv' := [(0, .ref 0), (1, .int (nI s)), (2, .int (nI p))]) (st' := [.int 10, .int 1, .int (nI s), .ref 0]) (z' := z) rfl trivial ?_
      refine ww_callVIi xCC okX6_film 13 (ix := 345) (t_X6_sheet l d (nI s) 1 10 z T hT) (by omega) (by decide) xyX6_sheet xiX6_sheet (Or.inl (lw_gt_of (List.mem_of_getElem? (i := 1228) (by decide +kernel)) rfl)) rfl rfl rfl (rest := []) rfl (Nat.le_of_ble_eq_true rfl) rfl (fun vH zH hH => ?_)
      have hT1 : SM zH (sShU T s (2, 10, fun _ => 0)) := by have q := hH.2.1; rw [show sSheet T (nI s) 1 10 = _ from sSheet_y (k := 1) (n := 10) hs (by decide) (by decide)] at q; exact q
      have hrH := RM_KH hH.2.2 hr
      have htH := TM_KH hH.2.2 ht
      refine ww_blk xCC okX6_film 14 5 (ps := []) (pc' := 32) (lv' := [(4, .int 0), (3, .int 0), (0, .ref 0), (1, .int (nI s)), (2, .int (nI p))]) (st' := []) (z' := zH) rfl trivial ?_
      have L32 : ∀ (n32 : Nat) (i : Nat) (zL : xMem), 10 - i < n32 → (i ≤ 10) → (FL tc r p s zH zL i) → ww xp l xe (xRm (d + 310)) xs xm xar xbl xme xc 6 xD xcs xad shM xAA xQ 32 [(4, .int (nI i)), (3, .int (nI (sCt (fun d => sDares tc r p d) i))), (0, .ref 0), (1, .int (nI s)), (2, .int (nI p))] [] zL := by
        intro n32
        induction n32 with
        | zero =>
          intro i zL hmu32
          exact absurd hmu32 (Nat.not_lt_zero _)
        | succ n32 ih32 =>
          intro i zL hmu32 e32_0 e32_1
          have hrL := RM_Kb (Kb_FL e32_1) hrH
          have htL := TM_Kb (Kb_FL e32_1) htH
          refine ww_blk xCC okX6_film 19 2 (ps := []) (pc' := 36) (lv' := [(4, .int (nI i)), (3, .int (nI (sCt (fun d => sDares tc r p d) i))), (0, .ref 0), (1, .int (nI s)), (2, .int (nI p))]) (st' := [.int 10, .int (nI i)]) (z' := zL) rfl trivial ?_
          refine ww_br xCC okX6_film 21 (P := 10 ≤ (nI i)) (t1 := 95) (t2 := 39) (r := []) rfl (fun c5 => ?_) (fun c5 => ?_)
          · skip
            replace c5 : 10 ≤ i := (sLE (a := 10) (b := i) (by omega) (by omega)).mp c5
            refine ww_blk xCC okX6_film 53 1 (ps := []) (pc' := 96) (lv' := [(4, .int (nI i)), (3, .int (nI (sCt (fun d => sDares tc r p d) i))), (0, .ref 0), (1, .int (nI s)), (2, .int (nI p))]) (st' := [.int (nI (sCt (fun d => sDares tc r p d) i))]) (z' := zL) rfl trivial ?_
            subst xhQ
            exact ww_iret xCC okX6_film 54 xhr rfl rfl ⟨_, rfl, (by rw [sFilm_y hs hp h74, show (10 : Nat) = i by omega]; exact ⟨rfl, SM_film hs hT1 e32_1 (by omega), KY_FL hH.2.2 e32_1⟩)⟩
          · skip
            replace c5 : ¬ 10 ≤ i := fun q => c5 ((sLE (a := 10) (b := i) (by omega) (by omega)).mpr q)
            refine ww_blk xCC okX6_film 22 3 (ps := []) (pc' := 43) (lv' := [(4, .int (nI i)), (3, .int (nI (sCt (fun d => sDares tc r p d) i))), (0, .ref 0), (1, .int (nI s)), (2, .int (nI p))]) (st' := [.int (nI i), .int (nI p), .ref 0]) (z' := zL) rfl trivial ?_
            refine ww_callVIz xCC okX6_film 25 (ix := 270) (t_X6_dares l d p i zL r cnt tc hrL hw htL (by omega) (by omega)) (by omega) (by decide) xyX6_dares xiX6_dares (Or.inl (lw_gt_of (List.mem_of_getElem? (i := 996) (by decide +kernel)) rfl)) rfl rfl rfl (rest := []) rfl (Nat.le_of_ble_eq_true rfl) rfl (fun zS6 hS6 => ?_) (fun zS6 hS6 => ?_)
            · skip
              have hrS6 := RM_K hS6.2 hrL
              have htS6 := TM_K hS6.2 htL
              have hKS6 := KM_tr (KM_rf zL) hS6.2
              have hdr := hS6.1
              refine ww_blk xCC okX6_film 26 9 (ps := []) (pc' := 61) (lv' := [(5, .int 1), (4, .int (nI i)), (3, .int (nI (sCt (fun d => sDares tc r p d) i))), (0, .ref 0), (1, .int (nI s)), (2, .int (nI p))]) (st' := [.int 1, .int ((40 * (nI s)) + (nI i)), .ref 17]) (z' := zS6) rfl trivial ?_
              rw [show (40 : Int32) * nI s = nI (40 * s) from pk_mul 40 s]
              rw [nI_add (40 * s) i]
              refine ww_br xCC okX6_film 35 (P := 1 = 0) (t1 := 74) (t2 := 64) (r := [.int (nI ((40 * s) + i)), .ref 17]) rfl (fun q => absurd q (by decide)) (fun _ => ?_)
              refine ww_blk xCC okX6_film 36 3 (ps := []) (pc' := 68) (lv' := [(5, .int 1), (4, .int (nI i)), (3, .int (nI (sCt (fun d => sDares tc r p d) i))), (0, .ref 0), (1, .int (nI s)), (2, .int (nI p))]) (st' := [.int (nI i), .int (nI p), .ref 0, .int (nI ((40 * s) + i)), .ref 17]) (z' := zS6) rfl trivial ?_
              refine ww_callVIi xCC okX6_film 39 (ix := 273) (t_X6_costsOf l d p i zS6 r cnt tc hrS6 hw htS6 (by omega) (by omega)) (by omega) (by decide) xyX6_costsOf xiX6_costsOf (Or.inl (lw_gt_of (List.mem_of_getElem? (i := 1117) (by decide +kernel)) rfl)) rfl rfl rfl (rest := [.int (nI ((40 * s) + i)), .ref 17]) rfl (Nat.le_of_ble_eq_true rfl) rfl (fun v9 zS8 hS8 => ?_)
              have hrS8 := RM_K hS8.2 hrS6
              have htS8 := TM_K hS8.2 htS6
              have hKS8 := KM_tr hKS6 hS8.2
              rw [hS8.1]
              refine ww_blk xCC okX6_film 40 1 (ps := []) (pc' := 75) (lv' := [(5, .int 1), (4, .int (nI i)), (3, .int (nI (sCt (fun d => sDares tc r p d) i))), (0, .ref 0), (1, .int (nI s)), (2, .int (nI p))]) (st' := [.int (sCosts tc r p i), .int (nI ((40 * s) + i)), .ref 17]) (z' := zS8) rfl trivial ?_
              refine ww_blk xCC okX6_film 42 3 (ps := [vp_in (nI ((40 * s) + i)) 160]) (pc' := 79) (lv' := [(5, .int 1), (4, .int (nI i)), (3, .int (nI (sCt (fun d => sDares tc r p d) i))), (0, .ref 0), (1, .int (nI s)), (2, .int (nI p))]) (st' := [.int 1, .int (nI (sCt (fun d => sDares tc r p d) i))]) (z' := (mPut zS8 17 (nI ((40 * s) + i)).toNatClampNeg (sCosts tc r p i))) rfl (vp_in_nI (by omega) (by decide)) ?_
              rw [sCL (n := ((40 * s) + i)) (by omega)]
              refine ww_br xCC okX6_film 45 (P := 1 = 0) (t1 := 86) (t2 := 82) (r := [.int (nI (sCt (fun d => sDares tc r p d) i))]) rfl (fun q => absurd q (by decide)) (fun _ => ?_)
              refine ww_blk xCC okX6_film 46 2 (ps := []) (pc' := 87) (lv' := [(5, .int 1), (4, .int (nI i)), (3, .int (nI (sCt (fun d => sDares tc r p d) i))), (0, .ref 0), (1, .int (nI s)), (2, .int (nI p))]) (st' := [.int 1, .int (nI (sCt (fun d => sDares tc r p d) i))]) (z' := (mPut zS8 17 ((40 * s) + i) (sCosts tc r p i))) rfl trivial ?_
              refine ww_blk xCC okX6_film 49 4 (ps := []) (pc' := 32) (lv' := [(4, .int ((nI i) + 1)), (3, .int ((nI (sCt (fun d => sDares tc r p d) i)) + 1)), (5, .int 1), (0, .ref 0), (1, .int (nI s)), (2, .int (nI p))]) (st' := []) (z' := (mPut zS8 17 ((40 * s) + i) (sCosts tc r p i))) rfl trivial ?_
              rw [show nI i + (1 : Int32) = nI (i + 1) from nI_add i 1]
              exact ww_cut [0, 1, 3, 4, 5] (xlc rfl (xlc (congrArg Value.int (show ((nI (sCt (fun d => sDares tc r p d) i)) + 1 : Int32) = nI (sCt (fun d => sDares tc r p d) (i + 1)) from (sCt_y hdr))) (xlc rfl (xlc rfl (xlc rfl rfl))))) rfl rfl (ih32 (i + 1) (mPut zS8 17 ((40 * s) + i) (sCosts tc r p i)) (by omega) (by omega) (FL_1 (FL_K e32_1 hKS8) (by unfold sCn; rw [if_pos hdr])))
            · skip
              have hrS6 := RM_K hS6.2 hrL
              have htS6 := TM_K hS6.2 htL
              have hKS6 := KM_tr (KM_rf zL) hS6.2
              have hdr := hS6.1
              refine ww_blk xCC okX6_film 26 9 (ps := []) (pc' := 61) (lv' := [(5, .int 0), (4, .int (nI i)), (3, .int (nI (sCt (fun d => sDares tc r p d) i))), (0, .ref 0), (1, .int (nI s)), (2, .int (nI p))]) (st' := [.int 0, .int ((40 * (nI s)) + (nI i)), .ref 17]) (z' := zS6) rfl trivial ?_
              rw [show (40 : Int32) * nI s = nI (40 * s) from pk_mul 40 s]
              rw [nI_add (40 * s) i]
              refine ww_br xCC okX6_film 35 (P := 0 = 0) (t1 := 74) (t2 := 64) (r := [.int (nI ((40 * s) + i)), .ref 17]) rfl (fun _ => ?_) (fun q => absurd (by decide) q)
              refine ww_blk xCC okX6_film 41 4 (ps := [vp_in (nI ((40 * s) + i)) 160]) (pc' := 79) (lv' := [(5, .int 0), (4, .int (nI i)), (3, .int (nI (sCt (fun d => sDares tc r p d) i))), (0, .ref 0), (1, .int (nI s)), (2, .int (nI p))]) (st' := [.int 0, .int (nI (sCt (fun d => sDares tc r p d) i))]) (z' := (mPut zS6 17 (nI ((40 * s) + i)).toNatClampNeg (-1))) rfl (vp_in_nI (by omega) (by decide)) ?_
              rw [sCL (n := ((40 * s) + i)) (by omega)]
              refine ww_br xCC okX6_film 45 (P := 0 = 0) (t1 := 86) (t2 := 82) (r := [.int (nI (sCt (fun d => sDares tc r p d) i))]) rfl (fun _ => ?_) (fun q => absurd (by decide) q)
              refine ww_blk xCC okX6_film 48 5 (ps := []) (pc' := 32) (lv' := [(4, .int ((nI i) + 1)), (3, .int ((nI (sCt (fun d => sDares tc r p d) i)) + 0)), (5, .int 0), (0, .ref 0), (1, .int (nI s)), (2, .int (nI p))]) (st' := []) (z' := (mPut zS6 17 ((40 * s) + i) (-1))) rfl trivial ?_
              rw [show nI i + (1 : Int32) = nI (i + 1) from nI_add i 1]
              exact ww_cut [0, 1, 3, 4, 5] (xlc rfl (xlc (congrArg Value.int (show ((nI (sCt (fun d => sDares tc r p d) i)) + 0 : Int32) = nI (sCt (fun d => sDares tc r p d) (i + 1)) from (sCt_n hdr))) (xlc rfl (xlc rfl (xlc rfl rfl))))) rfl rfl (ih32 (i + 1) (mPut zS6 17 ((40 * s) + i) (-1)) (by omega) (by omega) (FL_1 (FL_K e32_1 hKS6) (by unfold sCn; rw [if_neg (by rw [hdr]; decide)])))
      exact ww_cut [0, 1, 2, 3, 4] (xlc (congrArg Value.int (show (0 : Int32) = nI 0 from rfl)) (xlc (congrArg Value.int (show (0 : Int32) = nI (sCt (fun d => sDares tc r p d) 0) from rfl)) (xlc rfl (xlc rfl (xlc rfl rfl))))) rfl rfl (L32 (10 - 0 + 1) 0 zH (Nat.lt_succ_self _) (by omega) (FL_0 zH))
    · skip
      rw [hO.2]
      replace hO := hO.1
      refine ww_br xCC okX6_film 6 (P := 0 = 0) (t1 := 15) (t2 := 18) (r := []) rfl (fun _ => ?_) (fun q => absurd (by decide) q)
      refine ww_blk xCC okX6_film 7 1 (ps := []) (pc' := 17) (lv' := [(0, .ref 0), (1, .int (nI s)), (2, .int y)]) (st' := [.int (-2)]) (z' := z) rfl trivial ?_
      subst xhQ
      exact ww_iret xCC okX6_film 8 xhr rfl rfl ⟨_, rfl, (by rw [sFilm_n (by omega)]; exact ⟨rfl, hT, KY_rf z⟩)⟩
  · skip
    have h2 : ¬ (0 ≤ x.toInt ∧ x.toInt ≤ 3) := h2
    refine ww_br xCC okX6_film 2 (P := 0 = 0) (t1 := 15) (t2 := 7) (r := []) rfl (fun _ => ?_) (fun q => absurd (by decide) q)
    refine ww_blk xCC okX6_film 7 1 (ps := []) (pc' := 17) (lv' := [(0, .ref 0), (1, .int x), (2, .int y)]) (st' := [.int (-2)]) (z' := z) rfl trivial ?_
    subst xhQ
    exact ww_iret xCC okX6_film 8 xhr rfl rfl ⟨_, rfl, (by rw [sFilm_n (by omega)]; exact ⟨rfl, hT, KY_rf z⟩)⟩
