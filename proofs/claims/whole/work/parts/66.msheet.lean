/-! the model's sheets: 0 missing or 1 more than the sort, how many, the items -/
abbrev sSh : Type := Nat × Nat × (Nat → Int32)
def SM (z : xMem) (T : Nat → sSh) : Prop := ∀ s, s < 4 → ((T s).1 = 0 ∧ z.1 14 s = 0) ∨ ∃ n k it, T s = (k + 1, n, it) ∧ k ≤ 2 ∧ n ≤ 40 ∧ z.1 14 s = 1 ∧ z.1 15 s = nI k ∧ z.1 16 s = nI n ∧ ∀ i, i < n → z.1 17 (40 * s + i) = it i
theorem SM_0 {z : xMem} {T : Nat → sSh} (h : SM z T) {s : Nat} (hs : s < 4) (c : z.1 14 s = 0) : (T s).1 = 0 := by
  rcases h s hs with q | ⟨n, k, it, h1, h2, h3, h4, h5⟩
  · exact q.1
  · rw [h4] at c; exact absurd c (by decide)
theorem SM_1 {z : xMem} {T : Nat → sSh} (h : SM z T) {s : Nat} (hs : s < 4) (c : ¬ z.1 14 s = 0) : ∃ n k it, T s = (k + 1, n, it) ∧ k ≤ 2 ∧ n ≤ 40 ∧ z.1 14 s = 1 ∧ z.1 15 s = nI k ∧ z.1 16 s = nI n ∧ ∀ i, i < n → z.1 17 (40 * s + i) = it i := (h s hs).resolve_left (fun q => c q.2)
/-- nothing changed but sheets -/
def KH (z z' : xMem) : Prop := (∀ q, q ≠ 14 → q ≠ 15 → q ≠ 16 → q ≠ 17 → z'.1 q = z.1 q)
theorem KH_rf (z : xMem) : KH z z := fun _ _ _ _ _ => rfl
theorem KH_tr {a b c : xMem} (h1 : KH a b) (h2 : KH b c) : KH a c := fun q n1 n2 n3 n4 => (h2 q n1 n2 n3 n4).trans (h1 q n1 n2 n3 n4)
theorem KH_17 {z : xMem} {j : Nat} {x : Int32} : KH z (mPut z 17 j x) := fun q _ _ _ n4 => mPut_nq n4
theorem KH_3 {z : xMem} {i j k : Nat} {x y v : Int32} : KH z (mPut (mPut (mPut z 14 i x) 15 j y) 16 k v) := fun q n1 n2 n3 _ => (mPut_nq n3).trans ((mPut_nq n2).trans (mPut_nq n1))
theorem sL0 {x : Int32} : x < 0 ↔ x.toInt < 0 := Int32.lt_iff_toInt_lt
theorem sG0 {x : Int32} : 0 ≤ x ↔ 0 ≤ x.toInt := Int32.le_iff_toInt_le
theorem sL40 {x : Int32} : x ≤ 40 ↔ x.toInt ≤ 40 := Int32.le_iff_toInt_le
theorem sNN31 {x : Int32} (h : ¬ x.toInt < 0) : ∃ j : Nat, j < 2 ^ 31 ∧ x = nI j := by
  refine ⟨x.toInt.toNat, ?_, ?_⟩
  · have := x.toInt_lt; omega
  · rw [← Int32.toInt_inj, nI_toInt]
    · omega
    · have := x.toInt_lt; omega
theorem vp_40 {s i : Nat} (hs : s < 4) (hi : i < 40) : vp_in (40 * nI s + nI i) 160 := by
  rw [show (40 : Int32) * nI s = nI (40 * s) from pk_mul 40 s, nI_add]
  exact vp_in_nI (by omega) (by decide)
theorem vp_403 {s i q : Nat} (hs : s < 4) (hi : i + q < 40) : vp_in (40 * nI s + nI i + nI q) 160 := by
  rw [show (40 : Int32) * nI s = nI (40 * s) from pk_mul 40 s, nI_add, nI_add]
  exact vp_in_nI (by omega) (by decide)
theorem sSubS {m c : Nat} (h : c + 1 ≤ m) : nI m - 1 - nI c = nI (m - 1 - c) := by
  rw [show (1 : Int32) = nI 1 from rfl, pk_sub (by omega), pk_sub (by omega)]
theorem sSubT {a m : Nat} (ha : a ≤ 40) (hm : m < 2 ^ 31) : (nI a - nI m).toInt = (a : Int) - m := by
  rw [Int32.toInt_sub, nI_toInt (by omega), nI_toInt hm]
  exact Int.bmod_eq_of_le (by omega) (by omega)
theorem sSubG {i m n : Nat} (hn : n ≤ 40) (hm : m < 2 ^ 31) (hi : i < 2 ^ 31) (h : i + m ≤ n) : ¬ (nI n - nI m < nI i) := by
  rw [Int32.lt_iff_toInt_lt, sSubT hn hm, nI_toInt hi]; omega
theorem sSubL {i m n : Nat} (hn : n ≤ 40) (hm : m < 2 ^ 31) (hi : i < 2 ^ 31) (h : ¬ (nI n - nI m < nI i)) : i + m ≤ n := by
  rw [Int32.lt_iff_toInt_lt, sSubT hn hm, nI_toInt hi] at h; omega
theorem sSubG2 {i m n : Nat} (hn : n ≤ 40) (hm : m < 2 ^ 31) (hi : i < 2 ^ 31) (h : i + m ≤ n) : nI i ≤ nI n - nI m := by
  rw [Int32.le_iff_toInt_le, sSubT hn hm, nI_toInt hi]; omega
theorem sSubL2 {i m n : Nat} (hn : n ≤ 40) (hm : m < 2 ^ 31) (hi : i < 2 ^ 31) (h : nI i ≤ nI n - nI m) : i + m ≤ n := by
  rw [Int32.le_iff_toInt_le, sSubT hn hm, nI_toInt hi] at h; omega
/-- sheet -/
def sShU (T : Nat → sSh) (s : Nat) (x : sSh) : Nat → sSh := fun u => if u = s then x else T u
def sSheet (T : Nat → sSh) (x y v : Int32) : Int32 × (Nat → sSh) :=
  if 0 ≤ x.toInt ∧ x.toInt ≤ 3 ∧ -1 ≤ y.toInt ∧ y.toInt ≤ 2 ∧ (0 ≤ y.toInt → v.toInt ≤ 40) then
    (if y.toInt < 0 then (1, sShU T x.toInt.toNat (0, 0, fun _ => 0)) else if v.toInt < 0 then (-14, T) else (1, sShU T x.toInt.toNat (y.toInt.toNat + 1, v.toInt.toNat, fun _ => 0)))
  else (-2, T)
theorem sSheet_b {T : Nat → sSh} {x y v : Int32} (h : ¬ (0 ≤ x.toInt ∧ x.toInt ≤ 3 ∧ -1 ≤ y.toInt ∧ y.toInt ≤ 2 ∧ (0 ≤ y.toInt → v.toInt ≤ 40))) : sSheet T x y v = (-2, T) := if_neg h
theorem sSheet_14 {T : Nat → sSh} {s k : Nat} {v : Int32} (hs : s < 4) (hk : k < 3) (h : ¬ 0 ≤ v.toInt) : sSheet T (nI s) (nI k) v = (-14, T) := by
  unfold sSheet
  rw [sTI (k := s) (by omega), sTI (k := k) (by omega), if_pos (by omega), if_neg (by omega), if_pos (by omega)]
theorem sSheet_m {T : Nat → sSh} {s : Nat} {y v : Int32} (hs : s < 4) (hy : -1 ≤ y.toInt ∧ y.toInt < 0) : sSheet T (nI s) y v = (1, sShU T s (0, 0, fun _ => 0)) := by
  unfold sSheet
  rw [sTI (k := s) (by omega), if_pos (by omega), if_pos hy.2]
  rfl
theorem sSheet_y {T : Nat → sSh} {s k n : Nat} (hs : s < 4) (hk : k < 3) (hn : n ≤ 40) : sSheet T (nI s) (nI k) (nI n) = (1, sShU T s (k + 1, n, fun _ => 0)) := by
  unfold sSheet
  rw [sTI (k := s) (by omega), sTI (k := k) (by omega), sTI (k := n) (by omega), if_pos (by omega), if_neg (by omega), if_neg (by omega)]
  rfl
def HS (z z' : xMem) (s : Nat) (a b c : Int32) (i : Nat) : Prop := (∀ q, q ≠ 14 → q ≠ 15 → q ≠ 16 → q ≠ 17 → z'.1 q = z.1 q) ∧ (∀ j, z'.1 14 j = if j = s then a else z.1 14 j) ∧ (∀ j, z'.1 15 j = if j = s then b else z.1 15 j) ∧ (∀ j, z'.1 16 j = if j = s then c else z.1 16 j) ∧ ∀ j, z'.1 17 j = if 40 * s ≤ j ∧ j < 40 * s + i then 0 else z.1 17 j
theorem HS_0 (z : xMem) (s : Nat) (a b c : Int32) : HS z (mPut (mPut (mPut z 14 s a) 15 s b) 16 s c) s a b c 0 := by
  refine ⟨KH_3, fun j => ?_, fun j => ?_, fun j => ?_, fun j => ?_⟩
  · rw [mPut_nq (by decide), mPut_nq (by decide), mPut_rd, if_pos rfl]
  · rw [mPut_nq (by decide), mPut_rd, if_pos rfl, mPut_nq (by decide)]
  · rw [mPut_rd, if_pos rfl, mPut_nq (by decide), mPut_nq (by decide)]
  · rw [mPut_nq (by decide), mPut_nq (by decide), mPut_nq (by decide), if_neg (by omega)]
theorem HS_1 {z b : xMem} {s i : Nat} {x y v : Int32} (h : HS z b s x y v i) : HS z (mPut b 17 (40 * s + i) 0) s x y v (i + 1) := by
  obtain ⟨h1, h2, h3, h4, h5⟩ := h
  refine ⟨fun q n1 n2 n3 n4 => (mPut_nq n4).trans (h1 q n1 n2 n3 n4), fun j => ?_, fun j => ?_, fun j => ?_, fun j => ?_⟩
  · rw [mPut_nq (by decide)]; exact h2 j
  · rw [mPut_nq (by decide)]; exact h3 j
  · rw [mPut_nq (by decide)]; exact h4 j
  · rw [mPut_rd, if_pos rfl, h5 j]
    by_cases e : j = 40 * s + i
    · rw [if_pos e, if_pos (by omega)]
    · rw [if_neg e]
      by_cases e2 : 40 * s ≤ j ∧ j < 40 * s + i
      · rw [if_pos e2, if_pos (by omega)]
      · rw [if_neg e2, if_neg (by omega)]
theorem KH_HS {z z' : xMem} {s i : Nat} {a b c : Int32} (h : HS z z' s a b c i) : KH z z' := h.1
theorem SM_u {z z' : xMem} {T : Nat → sSh} {s : Nat} {x : sSh} (hT : SM z T) (h14 : ∀ j, j ≠ s → z'.1 14 j = z.1 14 j) (h15 : ∀ j, j ≠ s → z'.1 15 j = z.1 15 j) (h16 : ∀ j, j ≠ s → z'.1 16 j = z.1 16 j) (h17 : ∀ j, ¬ (40 * s ≤ j ∧ j < 40 * s + 40) → z'.1 17 j = z.1 17 j)
    (hx : s < 4 → (x.1 = 0 ∧ z'.1 14 s = 0) ∨ ∃ n k it, x = (k + 1, n, it) ∧ k ≤ 2 ∧ n ≤ 40 ∧ z'.1 14 s = 1 ∧ z'.1 15 s = nI k ∧ z'.1 16 s = nI n ∧ ∀ i, i < n → z'.1 17 (40 * s + i) = it i) : SM z' (sShU T s x) := by
  intro u hu
  by_cases e : u = s
  · subst e
    unfold sShU
    rw [if_pos rfl]
    exact hx hu
  · unfold sShU
    rw [if_neg e]
    rcases hT u hu with q | ⟨n, k, it, q1, q2, q3, q4, q5, q6, q7⟩
    · exact Or.inl ⟨q.1, by rw [h14 u e]; exact q.2⟩
    · exact Or.inr ⟨n, k, it, q1, q2, q3, by rw [h14 u e]; exact q4, by rw [h15 u e]; exact q5, by rw [h16 u e]; exact q6, fun i hi => by rw [h17 _ (by omega)]; exact q7 i hi⟩
theorem SM_miss {z : xMem} {T : Nat → sSh} {s : Nat} {y v : Int32} {it : Nat → Int32} (hT : SM z T) : SM (mPut (mPut (mPut z 14 s 0) 15 s y) 16 s v) (sShU T s (0, 0, it)) := by
  obtain ⟨h1, h2, h3, h4, h5⟩ := HS_0 z s 0 y v
  exact SM_u hT (fun j hj => by rw [h2, if_neg hj]) (fun j hj => by rw [h3, if_neg hj]) (fun j hj => by rw [h4, if_neg hj]) (fun j hj => by rw [h5, if_neg (by omega)]) (fun _ => Or.inl ⟨rfl, by rw [h2, if_pos rfl]⟩)
theorem SM_new {z z' : xMem} {T : Nat → sSh} {s k n i : Nat} (hT : SM z T) (h : HS z z' s 1 (nI k) (nI n) i) (hk : k ≤ 2) (hn : n ≤ 40) (hi : i = n) : SM z' (sShU T s (k + 1, n, fun _ => 0)) := by
  obtain ⟨h1, h2, h3, h4, h5⟩ := h
  exact SM_u hT (fun j hj => by rw [h2, if_neg hj]) (fun j hj => by rw [h3, if_neg hj]) (fun j hj => by rw [h4, if_neg hj]) (fun j hj => by rw [h5, if_neg (by omega)]) (fun _ => Or.inr ⟨n, k, fun _ => 0, rfl, hk, hn, by rw [h2, if_pos rfl], by rw [h3, if_pos rfl], by rw [h4, if_pos rfl], fun q hq => by rw [h5, if_pos (by omega)]⟩)
/-- cell -/
def sNar (k : Nat) (v : Int32) : Int32 := if k = 0 then v.toInt8.toInt32 else if k = 1 then v.toInt16.toInt32 else v
def sCell (T : Nat → sSh) (x y v : Int32) : Int32 × (Nat → sSh) :=
  if 0 ≤ x.toInt ∧ x.toInt ≤ 3 then
    (if (T x.toInt.toNat).1 = 0 then (-11, T) else if 0 ≤ y.toInt ∧ y.toInt < (T x.toInt.toNat).2.1 then (1, sShU T x.toInt.toNat ((T x.toInt.toNat).1, (T x.toInt.toNat).2.1, fun i => if i = y.toInt.toNat then sNar ((T x.toInt.toNat).1 - 1) v else (T x.toInt.toNat).2.2 i)) else (-12, T))
  else (-2, T)
theorem sCell_b {T : Nat → sSh} {x y v : Int32} (h : ¬ (0 ≤ x.toInt ∧ x.toInt ≤ 3)) : sCell T x y v = (-2, T) := if_neg h
theorem sCell_m {T : Nat → sSh} {s : Nat} {y v : Int32} (hs : s < 4) (h : (T s).1 = 0) : sCell T (nI s) y v = (-11, T) := by
  unfold sCell
  rw [sTN (k := s) (by omega), sTI (k := s) (by omega), if_pos (by omega), if_pos h]
theorem sCell_o {T : Nat → sSh} {s n k : Nat} {it : Nat → Int32} {y v : Int32} (hs : s < 4) (h : T s = (k + 1, n, it)) (hy : ¬ (0 ≤ y.toInt ∧ y.toInt < n)) : sCell T (nI s) y v = (-12, T) := by
  unfold sCell
  rw [sTN (k := s) (by omega), sTI (k := s) (by omega), if_pos (by omega), h, if_neg (Nat.succ_ne_zero k), if_neg hy]
theorem sCell_y {T : Nat → sSh} {s n k i : Nat} {it : Nat → Int32} {v : Int32} (hs : s < 4) (h : T s = (k + 1, n, it)) (hi : i < n) (hn : n ≤ 40) : sCell T (nI s) (nI i) v = (1, sShU T s (k + 1, n, fun j => if j = i then sNar k v else it j)) := by
  unfold sCell
  rw [sTN (k := s) (by omega), sTN (k := i) (by omega), sTI (k := s) (by omega), sTI (k := i) (by omega), if_pos (by omega), h, if_neg (Nat.succ_ne_zero k), if_pos (by show (0 : Int) ≤ (i : Int) ∧ (i : Int) < (n : Int); omega)]
  rfl
theorem SM_cell {z : xMem} {T : Nat → sSh} {s n k i : Nat} {it : Nat → Int32} {v w : Int32} (hT : SM z T) (hs : s < 4) (h : T s = (k + 1, n, it)) (hi : i < n) (hn : n ≤ 40) (hw : sNar k v = w) : SM (mPut z 17 (40 * s + i) w) (sShU T s (k + 1, n, fun j => if j = i then sNar k v else it j)) := by
  obtain ⟨n', k', it', q1, q2, q3, q4, q5, q6, q7⟩ := (hT s hs).resolve_left (fun q => by rw [h] at q; exact absurd q.1 (Nat.succ_ne_zero k))
  rw [h] at q1
  simp only [Prod.mk.injEq] at q1
  obtain ⟨e1, e2, e3⟩ := q1
  have e1 : k = k' := by omega
  subst e1 e2 e3
  refine SM_u hT (fun j hj => congrFun (mPut_nq (by decide)) j) (fun j hj => congrFun (mPut_nq (by decide)) j) (fun j hj => congrFun (mPut_nq (by decide)) j) (fun j hj => mPut_nj (by omega)) (fun _ => Or.inr ⟨n, k, _, rfl, q2, q3, (congrFun (mPut_nq (by decide)) s).trans q4, (congrFun (mPut_nq (by decide)) s).trans q5, (congrFun (mPut_nq (by decide)) s).trans q6, fun j hj => ?_⟩)
  show _ = if j = i then sNar k v else it j
  rw [mPut_rd, if_pos rfl]
  by_cases e : j = i
  · rw [if_pos e, if_pos (by omega), hw]
  · rw [if_neg e, if_neg (by omega)]; exact q7 j hj
/-- copy -/
def sCopy (T : Nat → sSh) (x y u v w : Int32) : Int32 × (Nat → sSh) :=
  if 0 ≤ x.toInt ∧ x.toInt ≤ 3 ∧ 0 ≤ u.toInt ∧ u.toInt ≤ 3 then
    (if (T x.toInt.toNat).1 = 0 ∨ (T u.toInt.toNat).1 = 0 then (-11, T) else if (T x.toInt.toNat).1 ≠ (T u.toInt.toNat).1 then (-13, T)
     else if 0 ≤ w.toInt ∧ 0 ≤ y.toInt ∧ 0 ≤ v.toInt ∧ y.toInt + w.toInt ≤ (T x.toInt.toNat).2.1 ∧ v.toInt + w.toInt ≤ (T u.toInt.toNat).2.1 then
       (w, sShU T u.toInt.toNat ((T u.toInt.toNat).1, (T u.toInt.toNat).2.1, fun p => if v.toInt.toNat ≤ p ∧ p < v.toInt.toNat + w.toInt.toNat then (T x.toInt.toNat).2.2 (y.toInt.toNat + (p - v.toInt.toNat)) else (T u.toInt.toNat).2.2 p)) else (-12, T))
  else (-2, T)
theorem sCopy_b {T : Nat → sSh} {x y u v w : Int32} (h : ¬ (0 ≤ x.toInt ∧ x.toInt ≤ 3 ∧ 0 ≤ u.toInt ∧ u.toInt ≤ 3)) : sCopy T x y u v w = (-2, T) := if_neg h
theorem sCopy_m {T : Nat → sSh} {s t : Nat} {y v w : Int32} (hs : s < 4) (ht : t < 4) (h : (T s).1 = 0 ∨ (T t).1 = 0) : sCopy T (nI s) y (nI t) v w = (-11, T) := by
  unfold sCopy
  rw [sTN (k := s) (by omega), sTN (k := t) (by omega), sTI (k := s) (by omega), sTI (k := t) (by omega), if_pos (by omega), if_pos h]
theorem sCopy_k {T : Nat → sSh} {s t n k nt kt : Nat} {it itt : Nat → Int32} {y v w : Int32} (hs : s < 4) (ht : t < 4) (h1 : T s = (k + 1, n, it)) (h2 : T t = (kt + 1, nt, itt)) (hk : k ≠ kt) : sCopy T (nI s) y (nI t) v w = (-13, T) := by
  unfold sCopy
  rw [sTN (k := s) (by omega), sTN (k := t) (by omega), sTI (k := s) (by omega), sTI (k := t) (by omega), if_pos (by omega), h1, h2, if_neg (by simp), if_pos (by simpa using hk)]
theorem sCopy_o {T : Nat → sSh} {s t n k nt kt : Nat} {it itt : Nat → Int32} {y v w : Int32} (hs : s < 4) (ht : t < 4) (h1 : T s = (k + 1, n, it)) (h2 : T t = (kt + 1, nt, itt)) (hk : k = kt) (h : ¬ (0 ≤ w.toInt ∧ 0 ≤ y.toInt ∧ 0 ≤ v.toInt ∧ y.toInt + w.toInt ≤ n ∧ v.toInt + w.toInt ≤ nt)) : sCopy T (nI s) y (nI t) v w = (-12, T) := by
  unfold sCopy
  rw [sTN (k := s) (by omega), sTN (k := t) (by omega), sTI (k := s) (by omega), sTI (k := t) (by omega), if_pos (by omega), h1, h2, if_neg (by simp), if_neg (by simpa using hk), if_neg h]
def sCpT (T : Nat → sSh) (s i t j m : Nat) : Nat → sSh := sShU T t ((T t).1, (T t).2.1, fun p => if j ≤ p ∧ p < j + m then (T s).2.2 (i + (p - j)) else (T t).2.2 p)
theorem sCopy_y {T : Nat → sSh} {s t n k nt kt i j m : Nat} {it itt : Nat → Int32} (hs : s < 4) (ht : t < 4) (h1 : T s = (k + 1, n, it)) (h2 : T t = (kt + 1, nt, itt)) (hk : k = kt) (hn : n ≤ 40 ∧ nt ≤ 40) (hi : i + m ≤ n) (hj : j + m ≤ nt) : sCopy T (nI s) (nI i) (nI t) (nI j) (nI m) = (nI m, sCpT T s i t j m) := by
  unfold sCopy
  rw [sTN (k := s) (by omega), sTN (k := t) (by omega), sTN (k := i) (by omega), sTN (k := j) (by omega), sTN (k := m) (by omega), sTI (k := s) (by omega), sTI (k := t) (by omega), sTI (k := i) (by omega), sTI (k := j) (by omega), sTI (k := m) (by omega), if_pos (by omega), if_neg (by rw [h1, h2]; simp), if_neg (by rw [h1, h2]; simpa using hk), if_pos (by rw [h1, h2]; show (0 : Int) ≤ (m : Int) ∧ (0 : Int) ≤ (i : Int) ∧ (0 : Int) ≤ (j : Int) ∧ (i : Int) + (m : Int) ≤ (n : Int) ∧ (j : Int) + (m : Int) ≤ (nt : Int); omega)]
  rfl
def CY (z z' : xMem) (A B lo hi : Nat) : Prop := (∀ q, q ≠ 17 → z'.1 q = z.1 q) ∧ ∀ p, z'.1 17 p = if B + lo ≤ p ∧ p < B + hi then z.1 17 (A + (p - B)) else z.1 17 p
theorem CY_0 {A B m : Nat} (z : xMem) {up : Nat} : CY z z A B (if up = 1 then m - 0 else 0) (if up = 1 then m else 0) := ⟨fun _ _ => rfl, fun p => by rw [if_neg (by split <;> omega)]⟩
theorem CY_s {z b : xMem} {A B lo hi lo' hi' q : Nat} (h : CY z b A B lo hi) (hr : ¬ (B + lo ≤ A + q ∧ A + q < B + hi)) (h1 : (lo' = lo ∧ hi = q ∧ hi' = q + 1 ∧ lo ≤ q) ∨ (hi' = hi ∧ lo = q + 1 ∧ lo' = q ∧ q < hi)) : CY z (mPut b 17 (B + q) (b.1 17 (A + q))) A B lo' hi' := by
  refine ⟨fun u hu => (mPut_nq hu).trans (h.1 u hu), fun p => ?_⟩
  rw [mPut_rd, if_pos rfl, h.2 (A + q), if_neg hr, h.2 p]
  by_cases e : p = B + q
  · rw [if_pos e, if_pos (by omega), e, show B + q - B = q by omega]
  · rw [if_neg e]
    by_cases e2 : B + lo ≤ p ∧ p < B + hi
    · rw [if_pos e2, if_pos (by omega)]
    · rw [if_neg e2, if_neg (by omega)]
theorem CY_d {z b : xMem} {s i t j m c up : Nat} (h : CY z b (40 * s + i) (40 * t + j) (if up = 1 then m - c else 0) (if up = 1 then m else c)) (hu : up = 0) (hr : ¬ (40 * t + j ≤ 40 * s + i + c ∧ 40 * s + i + c < 40 * t + j + c)) : CY z (mPut b 17 (40 * t + j + c) (b.1 17 (40 * s + i + c))) (40 * s + i) (40 * t + j) (if up = 1 then m - (c + 1) else 0) (if up = 1 then m else c + 1) := by
  subst hu
  simp only [if_neg (show ¬ (0 : Nat) = 1 by decide)] at h ⊢
  exact CY_s h (by omega) (Or.inl ⟨rfl, rfl, rfl, Nat.zero_le _⟩)
theorem CY_u {z b : xMem} {s i t j m c up : Nat} (h : CY z b (40 * s + i) (40 * t + j) (if up = 1 then m - c else 0) (if up = 1 then m else c)) (hu : up = 1) (hc : c < m) (hr : ¬ (40 * t + j + (m - c) ≤ 40 * s + i + (m - 1 - c) ∧ 40 * s + i + (m - 1 - c) < 40 * t + j + m)) : CY z (mPut b 17 (40 * t + j + (m - 1 - c)) (b.1 17 (40 * s + i + (m - 1 - c)))) (40 * s + i) (40 * t + j) (if up = 1 then m - (c + 1) else 0) (if up = 1 then m else c + 1) := by
  subst hu
  simp only [if_pos] at h ⊢
  exact CY_s h hr (Or.inr ⟨rfl, by omega, by omega, by omega⟩)
theorem KH_CY {z z' : xMem} {A B lo hi : Nat} (h : CY z z' A B lo hi) : KH z z' := fun q _ _ _ n4 => h.1 q n4
theorem SM_copy {z z' : xMem} {T : Nat → sSh} {s t n k nt kt i j m lo hi : Nat} {it itt : Nat → Int32} (hT : SM z T) (hs : s < 4) (ht : t < 4) (h1 : T s = (k + 1, n, it)) (h2 : T t = (kt + 1, nt, itt)) (hi1 : i + m ≤ n) (hj : j + m ≤ nt) (h : CY z z' (40 * s + i) (40 * t + j) lo hi) (hlo : lo = 0) (hhi : hi = m) : SM z' (sCpT T s i t j m) := by
  subst hlo hhi
  obtain ⟨n', k', it', q1, q2, q3, q4, q5, q6, q7⟩ := (hT s hs).resolve_left (fun q => by rw [h1] at q; exact absurd q.1 (Nat.succ_ne_zero k))
  rw [h1] at q1
  simp only [Prod.mk.injEq] at q1
  obtain ⟨e1, e2, e3⟩ := q1
  obtain ⟨n2, k2, it2, r1, r2, r3, r4, r5, r6, r7⟩ := (hT t ht).resolve_left (fun q => by rw [h2] at q; exact absurd q.1 (Nat.succ_ne_zero kt))
  rw [h2] at r1
  simp only [Prod.mk.injEq] at r1
  obtain ⟨f1, f2, f3⟩ := r1
  have e1 : k = k' := by omega
  have f1 : kt = k2 := by omega
  subst e1 e2 e3 f1 f2 f3
  refine SM_u hT (fun p hp => congrFun (h.1 14 (by decide)) p) (fun p hp => congrFun (h.1 15 (by decide)) p) (fun p hp => congrFun (h.1 16 (by decide)) p) (fun p hp => by rw [h.2, if_neg (by omega)]) (fun _ => Or.inr ⟨nt, kt, _, by rw [h2], r2, r3, by rw [h.1 14 (by decide)]; exact r4, by rw [h.1 15 (by decide)]; exact r5, by rw [h.1 16 (by decide)]; exact r6, fun p hp => ?_⟩)
  show _ = if j ≤ p ∧ p < j + hi then (T s).2.2 (i + (p - j)) else itt p
  rw [h.2, h1]
  by_cases e : j ≤ p ∧ p < j + hi
  · rw [if_pos e, if_pos (by omega), show 40 * s + i + (40 * t + p - (40 * t + j)) = 40 * s + (i + (p - j)) by omega]
    exact q7 _ (by omega)
  · rw [if_neg e, if_neg (by omega)]
    exact r7 p hp
set_option maxHeartbeats 4000000 in
set_option maxRecDepth 20000 in
theorem t_X6_isSheet (l : Launch) (d : Nat) (x : Int32) (z : xMem) : XMz l (d + 1) yX6_isSheet cX6_isSheet 1 (some .boolean) [] [.int x] z (fun _ => 0 ≤ x.toInt ∧ x.toInt ≤ 3) (fun _ => ¬ (0 ≤ x.toInt ∧ x.toInt ≤ 3)) := by
  refine XM.of (by decide) (Nat.le_of_ble_eq_true rfl) (fun xp xe xs xm xar xbl xme xc xD xcs xad xAA xCC xhr => ?_)
  generalize xhQ : MQ xbl _ xar xs 0 0 xAA = xQ
  show ww xp l xe (xRm (d + 1)) xs xm xar xbl xme xc 1 xD xcs xad [] xAA xQ 0 [(0, .int x)] [] z
  refine ww_blk xCC okX6_isSheet 0 4 (ps := []) (pc' := 6) (lv' := [(0, .int x)]) (st' := [.long 3, .long 0, .long x.toInt64]) (z' := z) rfl trivial ?_
  refine ww_callSNz xCC okX6_isSheet 4 (ix := 82) (t_X6_in l d x.toInt64 0 3 x.toInt 0 3 (Int32.toInt_toInt64 _) rfl rfl  _) (by omega) (by decide) xyX6_in xiX6_in (Or.inl (lw_gt_of (List.mem_of_getElem? (i := 962) (by decide +kernel)) rfl)) rfl (rest := []) rfl (Nat.le_of_ble_eq_true rfl) rfl (fun z1 h2 => ?_) (fun z1 h2 => ?_)
  · skip
    have h2 : 0 ≤ x.toInt ∧ x.toInt ≤ 3 := h2
    subst xhQ
    exact ww_iret xCC okX6_isSheet 5 xhr rfl (by decide) (Or.inl ⟨rfl, (by assumption)⟩)
  · skip
    have h2 : ¬ (0 ≤ x.toInt ∧ x.toInt ≤ 3) := h2
    subst xhQ
    exact ww_iret xCC okX6_isSheet 5 xhr rfl (by decide) (Or.inr ⟨rfl, (by assumption)⟩)

set_option maxHeartbeats 4000000 in
set_option maxRecDepth 20000 in
theorem t_X6_sheet (l : Launch) (d : Nat) (x y v : Int32) (z : xMem) (T : Nat → sSh) (hT : SM z T) : XMi l (d + 2) yX6_sheet cX6_sheet 5 (some .int) shM [.ref 0, .int x, .int y, .int v] z (fun v9 z' => v9 = (sSheet T x y v).1 ∧ SM z' (sSheet T x y v).2 ∧ KH z z') := by
  refine XM.of (by decide) (Nat.le_of_ble_eq_true rfl) (fun xp xe xs xm xar xbl xme xc xD xcs xad xAA xCC xhr => ?_)
  generalize xhQ : MQ xbl _ xar xs 0 0 xAA = xQ
  show ww xp l xe (xRm (d + 2)) xs xm xar xbl xme xc 5 xD xcs xad shM xAA xQ 0 [(0, .ref 0), (1, .int x), (2, .int y), (3, .int v)] [] z
  refine ww_blk xCC okX6_sheet 0 1 (ps := []) (pc' := 1) (lv' := [(0, .ref 0), (1, .int x), (2, .int y), (3, .int v)]) (st' := [.int x]) (z' := z) rfl trivial ?_
  refine ww_callSNz xCC okX6_sheet 1 (ix := 337) (t_X6_isSheet l d x _) (by omega) (by decide) xyX6_isSheet xiX6_isSheet (Or.inl (lw_gt_of (List.mem_of_getElem? (i := 1212) (by decide +kernel)) rfl)) rfl (rest := []) rfl (Nat.le_of_ble_eq_true rfl) rfl (fun z1 h2 => ?_) (fun z1 h2 => ?_)
  · skip
    have h2 : 0 ≤ x.toInt ∧ x.toInt ≤ 3 := h2
    obtain ⟨s, hs, rfl⟩ := sNN (x := x) (n := 4) h2.1 (by omega)
    refine ww_br xCC okX6_sheet 2 (P := 1 = 0) (t1 := 31) (t2 := 7) (r := []) rfl (fun q => absurd q (by decide)) (fun _ => ?_)
    refine ww_blk xCC okX6_sheet 3 4 (ps := []) (pc' := 15) (lv' := [(0, .ref 0), (1, .int (nI s)), (2, .int y), (3, .int v)]) (st' := [.long 2, .long (-1), .long y.toInt64]) (z' := z) rfl trivial ?_
    refine ww_callSNz xCC okX6_sheet 7 (ix := 82) (t_X6_in l d y.toInt64 (-1) 2 y.toInt (-1) 2 (Int32.toInt_toInt64 _) rfl rfl  _) (by omega) (by decide) xyX6_in xiX6_in (Or.inl (lw_gt_of (List.mem_of_getElem? (i := 962) (by decide +kernel)) rfl)) rfl (rest := []) rfl (Nat.le_of_ble_eq_true rfl) rfl (fun z4 h5 => ?_) (fun z4 h5 => ?_)
    · skip
      have h5 : (-1) ≤ y.toInt ∧ y.toInt ≤ 2 := h5
      refine ww_br xCC okX6_sheet 8 (P := 1 = 0) (t1 := 31) (t2 := 21) (r := []) rfl (fun q => absurd q (by decide)) (fun _ => ?_)
      refine ww_blk xCC okX6_sheet 9 1 (ps := []) (pc' := 22) (lv' := [(0, .ref 0), (1, .int (nI s)), (2, .int y), (3, .int v)]) (st' := [.int y]) (z' := z) rfl trivial ?_
      refine ww_br xCC okX6_sheet 10 (P := y < 0) (t1 := 34) (t2 := 25) (r := []) rfl (fun c7 => ?_) (fun c7 => ?_)
      · skip
        have hy0 := sL0.mp c7
        refine ww_blk xCC okX6_sheet 16 1 (ps := []) (pc' := 35) (lv' := [(0, .ref 0), (1, .int (nI s)), (2, .int y), (3, .int v)]) (st' := [.int y]) (z' := z) rfl trivial ?_
        refine ww_br xCC okX6_sheet 17 (P := y < 0) (t1 := 45) (t2 := 38) (r := []) rfl (fun c8 => ?_) (fun c8 => absurd (sL0.mpr hy0) c8)
        refine ww_blk xCC okX6_sheet 22 4 (ps := []) (pc' := 51) (lv' := [(0, .ref 0), (1, .int (nI s)), (2, .int y), (3, .int v)]) (st' := [.int y, .int (nI s), .ref 14]) (z' := z) rfl trivial ?_
        refine ww_br xCC okX6_sheet 26 (P := y < 0) (t1 := 58) (t2 := 54) (r := [.int (nI s), .ref 14]) rfl (fun c9 => ?_) (fun c9 => absurd (sL0.mpr hy0) c9)
        refine ww_blk xCC okX6_sheet 29 16 (ps := [vp_in (nI s) 4, 0 = 0 ∨ 0 = 1, vp_in (nI s) 4, vp_in (nI s) 4]) (pc' := 80) (lv' := [(4, .int 0), (0, .ref 0), (1, .int (nI s)), (2, .int y), (3, .int v)]) (st' := [.int v, .int 0]) (z' := (mPut (mPut (mPut z 14 (nI s).toNatClampNeg 0) 15 (nI s).toNatClampNeg y) 16 (nI s).toNatClampNeg v)) rfl ⟨(vp_in_nI (by omega) (by decide)), (Or.inl rfl), (vp_in_nI (by omega) (by decide)), (vp_in_nI (by omega) (by decide))⟩ ?_
        rw [sCL (n := s) (by omega)]
        refine ww_br xCC okX6_sheet 45 (P := v ≤ 0) (t1 := 106) (t2 := 83) (r := []) rfl (fun c10 => ?_) (fun c10 => ?_)
        · skip
          refine ww_blk xCC okX6_sheet 59 1 (ps := []) (pc' := 107) (lv' := [(4, .int 0), (0, .ref 0), (1, .int (nI s)), (2, .int y), (3, .int v)]) (st' := [.int 1]) (z' := (mPut (mPut (mPut z 14 s 0) 15 s y) 16 s v)) rfl trivial ?_
          subst xhQ
          exact ww_iret xCC okX6_sheet 60 xhr rfl rfl ⟨_, rfl, (by rw [sSheet_m (by omega) (by omega)]; exact ⟨rfl, SM_miss hT, KH_3⟩)⟩
        · skip
          refine ww_blk xCC okX6_sheet 46 1 (ps := []) (pc' := 84) (lv' := [(4, .int 0), (0, .ref 0), (1, .int (nI s)), (2, .int y), (3, .int v)]) (st' := [.int y]) (z' := (mPut (mPut (mPut z 14 s 0) 15 s y) 16 s v)) rfl trivial ?_
          refine ww_br xCC okX6_sheet 47 (P := y < 0) (t1 := 106) (t2 := 87) (r := []) rfl (fun c11 => ?_) (fun c11 => absurd (sL0.mpr hy0) c11)
          refine ww_blk xCC okX6_sheet 59 1 (ps := []) (pc' := 107) (lv' := [(4, .int 0), (0, .ref 0), (1, .int (nI s)), (2, .int y), (3, .int v)]) (st' := [.int 1]) (z' := (mPut (mPut (mPut z 14 s 0) 15 s y) 16 s v)) rfl trivial ?_
          subst xhQ
          exact ww_iret xCC okX6_sheet 60 xhr rfl rfl ⟨_, rfl, (by rw [sSheet_m (by omega) (by omega)]; exact ⟨rfl, SM_miss hT, KH_3⟩)⟩
      · skip
        have hy0 : ¬ y.toInt < 0 := fun q => c7 (sL0.mpr q)
        obtain ⟨k, hk, rfl⟩ := sNN (x := y) (n := 3) (by omega) (by omega)
        refine ww_blk xCC okX6_sheet 11 2 (ps := []) (pc' := 28) (lv' := [(0, .ref 0), (1, .int (nI s)), (2, .int (nI k)), (3, .int v)]) (st' := [.int 40, .int v]) (z' := z) rfl trivial ?_
        refine ww_br xCC okX6_sheet 13 (P := v ≤ 40) (t1 := 34) (t2 := 31) (r := []) rfl (fun c12 => ?_) (fun c12 => ?_)
        · skip
          have hv40 := sL40.mp c12
          refine ww_blk xCC okX6_sheet 16 1 (ps := []) (pc' := 35) (lv' := [(0, .ref 0), (1, .int (nI s)), (2, .int (nI k)), (3, .int v)]) (st' := [.int (nI k)]) (z' := z) rfl trivial ?_
          refine ww_br xCC okX6_sheet 17 (P := (nI k) < 0) (t1 := 45) (t2 := 38) (r := []) rfl (fun c13 => absurd c13 (nI_pos (by omega))) (fun c13 => ?_)
          refine ww_blk xCC okX6_sheet 18 1 (ps := []) (pc' := 39) (lv' := [(0, .ref 0), (1, .int (nI s)), (2, .int (nI k)), (3, .int v)]) (st' := [.int v]) (z' := z) rfl trivial ?_
          refine ww_br xCC okX6_sheet 19 (P := 0 ≤ v) (t1 := 45) (t2 := 42) (r := []) rfl (fun c14 => ?_) (fun c14 => ?_)
          · skip
            have hv0 := sG0.mp c14
            obtain ⟨n, hn, rfl⟩ := sNN (x := v) (n := 41) (by omega) (by omega)
            refine ww_blk xCC okX6_sheet 22 4 (ps := []) (pc' := 51) (lv' := [(0, .ref 0), (1, .int (nI s)), (2, .int (nI k)), (3, .int (nI n))]) (st' := [.int (nI k), .int (nI s), .ref 14]) (z' := z) rfl trivial ?_
            refine ww_br xCC okX6_sheet 26 (P := (nI k) < 0) (t1 := 58) (t2 := 54) (r := [.int (nI s), .ref 14]) rfl (fun c15 => absurd c15 (nI_pos (by omega))) (fun c15 => ?_)
            refine ww_blk xCC okX6_sheet 27 2 (ps := []) (pc' := 59) (lv' := [(0, .ref 0), (1, .int (nI s)), (2, .int (nI k)), (3, .int (nI n))]) (st' := [.int 1, .int (nI s), .ref 14]) (z' := z) rfl trivial ?_
            refine ww_blk xCC okX6_sheet 30 13 (ps := [vp_in (nI s) 4, 1 = 0 ∨ 1 = 1, vp_in (nI s) 4, vp_in (nI s) 4]) (pc' := 77) (lv' := [(4, .int 0), (0, .ref 0), (1, .int (nI s)), (2, .int (nI k)), (3, .int (nI n))]) (st' := []) (z' := (mPut (mPut (mPut z 14 (nI s).toNatClampNeg 1) 15 (nI s).toNatClampNeg (nI k)) 16 (nI s).toNatClampNeg (nI n))) rfl ⟨(vp_in_nI (by omega) (by decide)), (Or.inr rfl), (vp_in_nI (by omega) (by decide)), (vp_in_nI (by omega) (by decide))⟩ ?_
            rw [sCL (n := s) (by omega)]
            have L77 : ∀ (n77 : Nat) (i : Nat) (zL : xMem), n - i < n77 → (i ≤ n) → (HS z zL s 1 (nI k) (nI n) i) → ww xp l xe (xRm (d + 2)) xs xm xar xbl xme xc 5 xD xcs xad shM xAA xQ 77 [(4, .int (nI i)), (0, .ref 0), (1, .int (nI s)), (2, .int (nI k)), (3, .int (nI n))] [] zL := by
              intro n77
              induction n77 with
              | zero =>
                intro i zL hmu77
                exact absurd hmu77 (Nat.not_lt_zero _)
              | succ n77 ih77 =>
                intro i zL hmu77 e77_0 e77_1
                refine ww_blk xCC okX6_sheet 43 2 (ps := []) (pc' := 80) (lv' := [(4, .int (nI i)), (0, .ref 0), (1, .int (nI s)), (2, .int (nI k)), (3, .int (nI n))]) (st' := [.int (nI n), .int (nI i)]) (z' := zL) rfl trivial ?_
                refine ww_br xCC okX6_sheet 45 (P := (nI n) ≤ (nI i)) (t1 := 106) (t2 := 83) (r := []) rfl (fun c16 => ?_) (fun c16 => ?_)
                · skip
                  replace c16 : n ≤ i := (sLE (a := n) (b := i) (by omega) (by omega)).mp c16
                  refine ww_blk xCC okX6_sheet 59 1 (ps := []) (pc' := 107) (lv' := [(4, .int (nI i)), (0, .ref 0), (1, .int (nI s)), (2, .int (nI k)), (3, .int (nI n))]) (st' := [.int 1]) (z' := zL) rfl trivial ?_
                  subst xhQ
                  exact ww_iret xCC okX6_sheet 60 xhr rfl rfl ⟨_, rfl, (by rw [sSheet_y (by omega) (by omega) (by omega)]; exact ⟨rfl, SM_new hT e77_1 (by omega) (by omega) (by omega), KH_HS e77_1⟩)⟩
                · skip
                  replace c16 : ¬ n ≤ i := fun q => c16 ((sLE (a := n) (b := i) (by omega) (by omega)).mpr q)
                  refine ww_blk xCC okX6_sheet 46 1 (ps := []) (pc' := 84) (lv' := [(4, .int (nI i)), (0, .ref 0), (1, .int (nI s)), (2, .int (nI k)), (3, .int (nI n))]) (st' := [.int (nI k)]) (z' := zL) rfl trivial ?_
                  refine ww_br xCC okX6_sheet 47 (P := (nI k) < 0) (t1 := 106) (t2 := 87) (r := []) rfl (fun c17 => absurd c17 (nI_pos (by omega))) (fun c17 => ?_)
                  refine ww_blk xCC okX6_sheet 48 11 (ps := [vp_in ((40 * (nI s)) + (nI i)) 160]) (pc' := 77) (lv' := [(4, .int ((nI i) + 1)), (0, .ref 0), (1, .int (nI s)), (2, .int (nI k)), (3, .int (nI n))]) (st' := []) (z' := (mPut zL 17 ((40 * (nI s)) + (nI i)).toNatClampNeg 0)) rfl (vp_40 (by omega) (by omega)) ?_
                  rw [show nI i + (1 : Int32) = nI (i + 1) from nI_add i 1]
                  rw [show (40 : Int32) * nI s = nI (40 * s) from pk_mul 40 s]
                  rw [nI_add (40 * s) i]
                  rw [sCL (n := ((40 * s) + i)) (by omega)]
                  exact ww_cut [0, 1, 2, 3, 4] (xlc rfl (xlc rfl (xlc rfl (xlc rfl (xlc rfl rfl))))) rfl rfl (ih77 (i + 1) (mPut zL 17 ((40 * s) + i) 0) (by omega) (by omega) (HS_1 e77_1))
            exact ww_cut [0, 1, 2, 3, 4] (xlc (congrArg Value.int (show (0 : Int32) = nI 0 from rfl)) (xlc rfl (xlc rfl (xlc rfl (xlc rfl rfl))))) rfl rfl (L77 (n - 0 + 1) 0 (mPut (mPut (mPut z 14 s 1) 15 s (nI k)) 16 s (nI n)) (Nat.lt_succ_self _) (by omega) (HS_0 z s 1 (nI k) (nI n)))
          · skip
            have hv0 : ¬ 0 ≤ v.toInt := fun q => c14 (sG0.mpr q)
            refine ww_blk xCC okX6_sheet 20 1 (ps := []) (pc' := 44) (lv' := [(0, .ref 0), (1, .int (nI s)), (2, .int (nI k)), (3, .int v)]) (st' := [.int (-14)]) (z' := z) rfl trivial ?_
            subst xhQ
            exact ww_iret xCC okX6_sheet 21 xhr rfl rfl ⟨_, rfl, (by rw [sSheet_14 (by omega) (by omega) hv0]; exact ⟨rfl, hT, KH_rf z⟩)⟩
        · skip
          have hv40 : ¬ v.toInt ≤ 40 := fun q => c12 (sL40.mpr q)
          refine ww_blk xCC okX6_sheet 14 1 (ps := []) (pc' := 33) (lv' := [(0, .ref 0), (1, .int (nI s)), (2, .int (nI k)), (3, .int v)]) (st' := [.int (-2)]) (z' := z) rfl trivial ?_
          subst xhQ
          exact ww_iret xCC okX6_sheet 15 xhr rfl rfl ⟨_, rfl, (by rw [sSheet_b (by omega)]; exact ⟨rfl, hT, KH_rf z⟩)⟩
    · skip
      have h5 : ¬ ((-1) ≤ y.toInt ∧ y.toInt ≤ 2) := h5
      refine ww_br xCC okX6_sheet 8 (P := 0 = 0) (t1 := 31) (t2 := 21) (r := []) rfl (fun _ => ?_) (fun q => absurd (by decide) q)
      refine ww_blk xCC okX6_sheet 14 1 (ps := []) (pc' := 33) (lv' := [(0, .ref 0), (1, .int (nI s)), (2, .int y), (3, .int v)]) (st' := [.int (-2)]) (z' := z) rfl trivial ?_
      subst xhQ
      exact ww_iret xCC okX6_sheet 15 xhr rfl rfl ⟨_, rfl, (by rw [sSheet_b (by omega)]; exact ⟨rfl, hT, KH_rf z⟩)⟩
  · skip
    have h2 : ¬ (0 ≤ x.toInt ∧ x.toInt ≤ 3) := h2
    refine ww_br xCC okX6_sheet 2 (P := 0 = 0) (t1 := 31) (t2 := 7) (r := []) rfl (fun _ => ?_) (fun q => absurd (by decide) q)
    refine ww_blk xCC okX6_sheet 14 1 (ps := []) (pc' := 33) (lv' := [(0, .ref 0), (1, .int x), (2, .int y), (3, .int v)]) (st' := [.int (-2)]) (z' := z) rfl trivial ?_
    subst xhQ
    exact ww_iret xCC okX6_sheet 15 xhr rfl rfl ⟨_, rfl, (by rw [sSheet_b (by omega)]; exact ⟨rfl, hT, KH_rf z⟩)⟩

set_option maxHeartbeats 4000000 in
set_option maxRecDepth 20000 in
theorem t_X6_cell (l : Launch) (d : Nat) (x y v : Int32) (z : xMem) (T : Nat → sSh) (hT : SM z T) : XMi l (d + 2) yX6_cell cX6_cell 4 (some .int) shM [.ref 0, .int x, .int y, .int v] z (fun v9 z' => v9 = (sCell T x y v).1 ∧ SM z' (sCell T x y v).2 ∧ KH z z') := by
  refine XM.of (by decide) (Nat.le_of_ble_eq_true rfl) (fun xp xe xs xm xar xbl xme xc xD xcs xad xAA xCC xhr => ?_)
  generalize xhQ : MQ xbl _ xar xs 0 0 xAA = xQ
  show ww xp l xe (xRm (d + 2)) xs xm xar xbl xme xc 4 xD xcs xad shM xAA xQ 0 [(0, .ref 0), (1, .int x), (2, .int y), (3, .int v)] [] z
  refine ww_blk xCC okX6_cell 0 1 (ps := []) (pc' := 1) (lv' := [(0, .ref 0), (1, .int x), (2, .int y), (3, .int v)]) (st' := [.int x]) (z' := z) rfl trivial ?_
  refine ww_callSNz xCC okX6_cell 1 (ix := 337) (t_X6_isSheet l d x _) (by omega) (by decide) xyX6_isSheet xiX6_isSheet (Or.inl (lw_gt_of (List.mem_of_getElem? (i := 1212) (by decide +kernel)) rfl)) rfl (rest := []) rfl (Nat.le_of_ble_eq_true rfl) rfl (fun z1 h2 => ?_) (fun z1 h2 => ?_)
  · skip
    have h2 : 0 ≤ x.toInt ∧ x.toInt ≤ 3 := h2
    obtain ⟨s, hs, rfl⟩ := sNN (x := x) (n := 4) h2.1 (by omega)
    refine ww_br xCC okX6_cell 2 (P := 1 = 0) (t1 := 7) (t2 := 10) (r := []) rfl (fun q => absurd q (by decide)) (fun _ => ?_)
    refine ww_blk xCC okX6_cell 5 4 (ps := [vp_in (nI s) 4]) (pc' := 16) (lv' := [(0, .ref 0), (1, .int (nI s)), (2, .int y), (3, .int v)]) (st' := [.int (z.1 14 (nI s).toNatClampNeg)]) (z' := z) rfl (vp_in_nI (by omega) (by decide)) ?_
    rw [sCL (n := s) (by omega)]
    refine ww_br xCC okX6_cell 9 (P := (z.1 14 s) = 0) (t1 := 19) (t2 := 22) (r := []) rfl (fun c4 => ?_) (fun c4 => ?_)
    · skip
      have hm := SM_0 hT (s := s) (by omega) c4
      refine ww_blk xCC okX6_cell 10 1 (ps := []) (pc' := 21) (lv' := [(0, .ref 0), (1, .int (nI s)), (2, .int y), (3, .int v)]) (st' := [.int (-11)]) (z' := z) rfl trivial ?_
      subst xhQ
      exact ww_iret xCC okX6_cell 11 xhr rfl rfl ⟨_, rfl, (by rw [sCell_m (by omega) hm]; exact ⟨rfl, hT, KH_rf z⟩)⟩
    · skip
      obtain ⟨n, k, it, hTs, hk, hn, h14, h15, h16, hit⟩ := SM_1 hT (s := s) (by omega) c4
      refine ww_blk xCC okX6_cell 12 10 (ps := [vp_in (nI s) 4]) (pc' := 34) (lv' := [(0, .ref 0), (1, .int (nI s)), (2, .int y), (3, .int v)]) (st' := [.long (((z.1 16 (nI s).toNatClampNeg) - 1).toInt64), .long 0, .long y.toInt64]) (z' := z) rfl (vp_in_nI (by omega) (by decide)) ?_
      rw [sCL (n := s) (by omega)]
      rw [h16]
      refine ww_callSNz xCC okX6_cell 22 (ix := 82) (t_X6_in l d y.toInt64 0 (((nI n) - 1).toInt64) y.toInt 0 (((nI n) - 1).toInt) (Int32.toInt_toInt64 _) rfl (Int32.toInt_toInt64 _)  _) (by omega) (by decide) xyX6_in xiX6_in (Or.inl (lw_gt_of (List.mem_of_getElem? (i := 962) (by decide +kernel)) rfl)) rfl (rest := []) rfl (Nat.le_of_ble_eq_true rfl) rfl (fun z5 h6 => ?_) (fun z5 h6 => ?_)
      · skip
        have h6 : 0 ≤ y.toInt ∧ y.toInt ≤ ((nI n) - 1).toInt := h6
        rw [sSub1 (by omega)] at h6
        obtain ⟨i, hi, rfl⟩ := sNN (x := y) (n := n) h6.1 (by omega)
        refine ww_br xCC okX6_cell 23 (P := 1 = 0) (t1 := 40) (t2 := 43) (r := []) rfl (fun q => absurd q (by decide)) (fun _ => ?_)
        refine ww_blk xCC okX6_cell 26 11 (ps := [vp_in (nI s) 4]) (pc' := 59) (lv' := [(0, .ref 0), (1, .int (nI s)), (2, .int (nI i)), (3, .int v)]) (st' := [.int (z.1 15 (nI s).toNatClampNeg), .int ((40 * (nI s)) + (nI i)), .ref 17]) (z' := z) rfl (vp_in_nI (by omega) (by decide)) ?_
        rw [sCL (n := s) (by omega)]
        rw [h15]
        rw [show (40 : Int32) * nI s = nI (40 * s) from pk_mul 40 s]
        rw [nI_add (40 * s) i]
        refine ww_br xCC okX6_cell 37 (P := (nI k) = 0) (t1 := 62) (t2 := 67) (r := [.int (nI ((40 * s) + i)), .ref 17]) rfl (fun c8 => ?_) (fun c8 => ?_)
        · skip
          replace c8 : k = 0 := (sEQ (a := k) (b := 0) (by omega) (by omega)).mp c8
          refine ww_blk xCC okX6_cell 38 3 (ps := []) (pc' := 83) (lv' := [(0, .ref 0), (1, .int (nI s)), (2, .int (nI i)), (3, .int v)]) (st' := [.int v.toInt8.toInt32, .int (nI ((40 * s) + i)), .ref 17]) (z' := z) rfl trivial ?_
          refine ww_blk xCC okX6_cell 51 2 (ps := [vp_in (nI ((40 * s) + i)) 160]) (pc' := 85) (lv' := [(0, .ref 0), (1, .int (nI s)), (2, .int (nI i)), (3, .int v)]) (st' := [.int 1]) (z' := (mPut z 17 (nI ((40 * s) + i)).toNatClampNeg v.toInt8.toInt32)) rfl (vp_in_nI (by omega) (by decide)) ?_
          rw [sCL (n := ((40 * s) + i)) (by omega)]
          subst xhQ
          exact ww_iret xCC okX6_cell 53 xhr rfl rfl ⟨_, rfl, (by rw [sCell_y (by omega) hTs hi (by omega)]; exact ⟨rfl, SM_cell hT (by omega) hTs hi (by omega) (by unfold sNar; rw [if_pos (by omega)]), KH_17⟩)⟩
        · skip
          replace c8 : ¬ k = 0 := fun q => c8 ((sEQ (a := k) (b := 0) (by omega) (by omega)).mpr q)
          refine ww_blk xCC okX6_cell 41 5 (ps := [vp_in (nI s) 4]) (pc' := 74) (lv' := [(0, .ref 0), (1, .int (nI s)), (2, .int (nI i)), (3, .int v)]) (st' := [.int 1, .int (z.1 15 (nI s).toNatClampNeg), .int (nI ((40 * s) + i)), .ref 17]) (z' := z) rfl (vp_in_nI (by omega) (by decide)) ?_
          rw [sCL (n := s) (by omega)]
          rw [h15]
          refine ww_br xCC okX6_cell 46 (P := (nI k) = 1) (t1 := 77) (t2 := 82) (r := [.int (nI ((40 * s) + i)), .ref 17]) rfl (fun c9 => ?_) (fun c9 => ?_)
          · skip
            replace c9 : k = 1 := (sEQ (a := k) (b := 1) (by omega) (by omega)).mp c9
            refine ww_blk xCC okX6_cell 47 3 (ps := []) (pc' := 83) (lv' := [(0, .ref 0), (1, .int (nI s)), (2, .int (nI i)), (3, .int v)]) (st' := [.int v.toInt16.toInt32, .int (nI ((40 * s) + i)), .ref 17]) (z' := z) rfl trivial ?_
            refine ww_blk xCC okX6_cell 51 2 (ps := [vp_in (nI ((40 * s) + i)) 160]) (pc' := 85) (lv' := [(0, .ref 0), (1, .int (nI s)), (2, .int (nI i)), (3, .int v)]) (st' := [.int 1]) (z' := (mPut z 17 (nI ((40 * s) + i)).toNatClampNeg v.toInt16.toInt32)) rfl (vp_in_nI (by omega) (by decide)) ?_
            rw [sCL (n := ((40 * s) + i)) (by omega)]
            subst xhQ
            exact ww_iret xCC okX6_cell 53 xhr rfl rfl ⟨_, rfl, (by rw [sCell_y (by omega) hTs hi (by omega)]; exact ⟨rfl, SM_cell hT (by omega) hTs hi (by omega) (by unfold sNar; rw [if_neg (by omega), if_pos (by omega)]), KH_17⟩)⟩
          · skip
            replace c9 : ¬ k = 1 := fun q => c9 ((sEQ (a := k) (b := 1) (by omega) (by omega)).mpr q)
            refine ww_blk xCC okX6_cell 50 3 (ps := [vp_in (nI ((40 * s) + i)) 160]) (pc' := 85) (lv' := [(0, .ref 0), (1, .int (nI s)), (2, .int (nI i)), (3, .int v)]) (st' := [.int 1]) (z' := (mPut z 17 (nI ((40 * s) + i)).toNatClampNeg v)) rfl (vp_in_nI (by omega) (by decide)) ?_
            rw [sCL (n := ((40 * s) + i)) (by omega)]
            subst xhQ
            exact ww_iret xCC okX6_cell 53 xhr rfl rfl ⟨_, rfl, (by rw [sCell_y (by omega) hTs hi (by omega)]; exact ⟨rfl, SM_cell hT (by omega) hTs hi (by omega) (by unfold sNar; rw [if_neg (by omega), if_neg (by omega)]), KH_17⟩)⟩
      · skip
        have h6 : ¬ (0 ≤ y.toInt ∧ y.toInt ≤ ((nI n) - 1).toInt) := h6
        rw [sSub1 (by omega)] at h6
        refine ww_br xCC okX6_cell 23 (P := 0 = 0) (t1 := 40) (t2 := 43) (r := []) rfl (fun _ => ?_) (fun q => absurd (by decide) q)
        refine ww_blk xCC okX6_cell 24 1 (ps := []) (pc' := 42) (lv' := [(0, .ref 0), (1, .int (nI s)), (2, .int y), (3, .int v)]) (st' := [.int (-12)]) (z' := z) rfl trivial ?_
        subst xhQ
        exact ww_iret xCC okX6_cell 25 xhr rfl rfl ⟨_, rfl, (by rw [sCell_o (by omega) hTs (by omega)]; exact ⟨rfl, hT, KH_rf z⟩)⟩
  · skip
    have h2 : ¬ (0 ≤ x.toInt ∧ x.toInt ≤ 3) := h2
    refine ww_br xCC okX6_cell 2 (P := 0 = 0) (t1 := 7) (t2 := 10) (r := []) rfl (fun _ => ?_) (fun q => absurd (by decide) q)
    refine ww_blk xCC okX6_cell 3 1 (ps := []) (pc' := 9) (lv' := [(0, .ref 0), (1, .int x), (2, .int y), (3, .int v)]) (st' := [.int (-2)]) (z' := z) rfl trivial ?_
    subst xhQ
    exact ww_iret xCC okX6_cell 4 xhr rfl rfl ⟨_, rfl, (by rw [sCell_b (by omega)]; exact ⟨rfl, hT, KH_rf z⟩)⟩

set_option maxHeartbeats 4000000 in
set_option maxRecDepth 20000 in
theorem t_X6_copy (l : Launch) (d : Nat) (x y u v w : Int32) (z : xMem) (T : Nat → sSh) (hT : SM z T) : XMi l (d + 2) yX6_copy cX6_copy 9 (some .int) shM [.ref 0, .int x, .int y, .int u, .int v, .int w] z (fun v9 z' => v9 = (sCopy T x y u v w).1 ∧ SM z' (sCopy T x y u v w).2 ∧ KH z z') := by
  refine XM.of (by decide) (Nat.le_of_ble_eq_true rfl) (fun xp xe xs xm xar xbl xme xc xD xcs xad xAA xCC xhr => ?_)
  generalize xhQ : MQ xbl _ xar xs 0 0 xAA = xQ
  show ww xp l xe (xRm (d + 2)) xs xm xar xbl xme xc 9 xD xcs xad shM xAA xQ 0 [(0, .ref 0), (1, .int x), (2, .int y), (3, .int u), (4, .int v), (5, .int w)] [] z
  refine ww_blk xCC okX6_copy 0 1 (ps := []) (pc' := 1) (lv' := [(0, .ref 0), (1, .int x), (2, .int y), (3, .int u), (4, .int v), (5, .int w)]) (st' := [.int x]) (z' := z) rfl trivial ?_
  refine ww_callSNz xCC okX6_copy 1 (ix := 337) (t_X6_isSheet l d x _) (by omega) (by decide) xyX6_isSheet xiX6_isSheet (Or.inl (lw_gt_of (List.mem_of_getElem? (i := 1212) (by decide +kernel)) rfl)) rfl (rest := []) rfl (Nat.le_of_ble_eq_true rfl) rfl (fun z1 h2 => ?_) (fun z1 h2 => ?_)
  · skip
    have h2 : 0 ≤ x.toInt ∧ x.toInt ≤ 3 := h2
    obtain ⟨s, hs, rfl⟩ := sNN (x := x) (n := 4) h2.1 (by omega)
    refine ww_br xCC okX6_copy 2 (P := 1 = 0) (t1 := 14) (t2 := 7) (r := []) rfl (fun q => absurd q (by decide)) (fun _ => ?_)
    refine ww_blk xCC okX6_copy 3 1 (ps := []) (pc' := 8) (lv' := [(0, .ref 0), (1, .int (nI s)), (2, .int y), (3, .int u), (4, .int v), (5, .int w)]) (st' := [.int u]) (z' := z) rfl trivial ?_
    refine ww_callSNz xCC okX6_copy 4 (ix := 337) (t_X6_isSheet l d u _) (by omega) (by decide) xyX6_isSheet xiX6_isSheet (Or.inl (lw_gt_of (List.mem_of_getElem? (i := 1212) (by decide +kernel)) rfl)) rfl (rest := []) rfl (Nat.le_of_ble_eq_true rfl) rfl (fun z4 h5 => ?_) (fun z4 h5 => ?_)
    · skip
      have h5 : 0 ≤ u.toInt ∧ u.toInt ≤ 3 := h5
      obtain ⟨t, ht, rfl⟩ := sNN (x := u) (n := 4) h5.1 (by omega)
      refine ww_br xCC okX6_copy 5 (P := 1 = 0) (t1 := 14) (t2 := 17) (r := []) rfl (fun q => absurd q (by decide)) (fun _ => ?_)
      refine ww_blk xCC okX6_copy 8 4 (ps := [vp_in (nI s) 4]) (pc' := 23) (lv' := [(0, .ref 0), (1, .int (nI s)), (2, .int y), (3, .int (nI t)), (4, .int v), (5, .int w)]) (st' := [.int (z.1 14 (nI s).toNatClampNeg)]) (z' := z) rfl (vp_in_nI (by omega) (by decide)) ?_
      rw [sCL (n := s) (by omega)]
      refine ww_br xCC okX6_copy 12 (P := (z.1 14 s) = 0) (t1 := 35) (t2 := 26) (r := []) rfl (fun c7 => ?_) (fun c7 => ?_)
      · skip
        have hm := SM_0 hT (s := s) (by omega) c7
        refine ww_blk xCC okX6_copy 18 1 (ps := []) (pc' := 37) (lv' := [(0, .ref 0), (1, .int (nI s)), (2, .int y), (3, .int (nI t)), (4, .int v), (5, .int w)]) (st' := [.int (-11)]) (z' := z) rfl trivial ?_
        subst xhQ
        exact ww_iret xCC okX6_copy 19 xhr rfl rfl ⟨_, rfl, (by rw [sCopy_m (by omega) (by omega) (by first | exact Or.inl hm | exact Or.inr hmt)]; exact ⟨rfl, hT, KH_rf z⟩)⟩
      · skip
        obtain ⟨n, k, it, hTs, hk, hn, h14, h15, h16, hit⟩ := SM_1 hT (s := s) (by omega) c7
        refine ww_blk xCC okX6_copy 13 4 (ps := [vp_in (nI t) 4]) (pc' := 32) (lv' := [(0, .ref 0), (1, .int (nI s)), (2, .int y), (3, .int (nI t)), (4, .int v), (5, .int w)]) (st' := [.int (z.1 14 (nI t).toNatClampNeg)]) (z' := z) rfl (vp_in_nI (by omega) (by decide)) ?_
        rw [sCL (n := t) (by omega)]
        refine ww_br xCC okX6_copy 17 (P := (z.1 14 t) = 0) (t1 := 35) (t2 := 38) (r := []) rfl (fun c8 => ?_) (fun c8 => ?_)
        · skip
          have hmt := SM_0 hT (s := t) (by omega) c8
          refine ww_blk xCC okX6_copy 18 1 (ps := []) (pc' := 37) (lv' := [(0, .ref 0), (1, .int (nI s)), (2, .int y), (3, .int (nI t)), (4, .int v), (5, .int w)]) (st' := [.int (-11)]) (z' := z) rfl trivial ?_
          subst xhQ
          exact ww_iret xCC okX6_copy 19 xhr rfl rfl ⟨_, rfl, (by rw [sCopy_m (by omega) (by omega) (by first | exact Or.inl hm | exact Or.inr hmt)]; exact ⟨rfl, hT, KH_rf z⟩)⟩
        · skip
          obtain ⟨nt, kt, itt, hTst, hkt, hnt, h14t, h15t, h16t, hitt⟩ := SM_1 hT (s := t) (by omega) c8
          refine ww_blk xCC okX6_copy 20 8 (ps := [vp_in (nI s) 4, vp_in (nI t) 4]) (pc' := 50) (lv' := [(0, .ref 0), (1, .int (nI s)), (2, .int y), (3, .int (nI t)), (4, .int v), (5, .int w)]) (st' := [.int (z.1 15 (nI t).toNatClampNeg), .int (z.1 15 (nI s).toNatClampNeg)]) (z' := z) rfl ⟨(vp_in_nI (by omega) (by decide)), (vp_in_nI (by omega) (by decide))⟩ ?_
          rw [sCL (n := t) (by omega)]
          rw [h15t]
          rw [sCL (n := s) (by omega)]
          rw [h15]
          refine ww_br xCC okX6_copy 28 (P := (nI k) = (nI kt)) (t1 := 56) (t2 := 53) (r := []) rfl (fun c9 => ?_) (fun c9 => ?_)
          · skip
            replace c9 : k = kt := (sEQ (a := k) (b := kt) (by omega) (by omega)).mp c9
            refine ww_blk xCC okX6_copy 31 1 (ps := []) (pc' := 58) (lv' := [(0, .ref 0), (1, .int (nI s)), (2, .int y), (3, .int (nI t)), (4, .int v), (5, .int w)]) (st' := [.int w]) (z' := z) rfl trivial ?_
            refine ww_br xCC okX6_copy 32 (P := w < 0) (t1 := 97) (t2 := 61) (r := []) rfl (fun c10 => ?_) (fun c10 => ?_)
            · skip
              have hn0 : w.toInt < 0 := sL0.mp c10
              refine ww_blk xCC okX6_copy 53 1 (ps := []) (pc' := 99) (lv' := [(0, .ref 0), (1, .int (nI s)), (2, .int y), (3, .int (nI t)), (4, .int v), (5, .int w)]) (st' := [.int (-12)]) (z' := z) rfl trivial ?_
              subst xhQ
              exact ww_iret xCC okX6_copy 54 xhr rfl rfl ⟨_, rfl, (by rw [sCopy_o (by omega) (by omega) hTs hTst (by omega) (by first | omega | (simp only [sTI, *]; omega))]; exact ⟨rfl, hT, KH_rf z⟩)⟩
            · skip
              have hn0 : ¬ w.toInt < 0 := fun q => c10 (sL0.mpr q)
              obtain ⟨m, hm31, rfl⟩ := sNN31 hn0
              refine ww_blk xCC okX6_copy 33 1 (ps := []) (pc' := 62) (lv' := [(0, .ref 0), (1, .int (nI s)), (2, .int y), (3, .int (nI t)), (4, .int v), (5, .int (nI m))]) (st' := [.int y]) (z' := z) rfl trivial ?_
              refine ww_br xCC okX6_copy 34 (P := y < 0) (t1 := 97) (t2 := 65) (r := []) rfl (fun c11 => ?_) (fun c11 => ?_)
              · skip
                have hi0 : y.toInt < 0 := sL0.mp c11
                refine ww_blk xCC okX6_copy 53 1 (ps := []) (pc' := 99) (lv' := [(0, .ref 0), (1, .int (nI s)), (2, .int y), (3, .int (nI t)), (4, .int v), (5, .int (nI m))]) (st' := [.int (-12)]) (z' := z) rfl trivial ?_
                subst xhQ
                exact ww_iret xCC okX6_copy 54 xhr rfl rfl ⟨_, rfl, (by rw [sCopy_o (by omega) (by omega) hTs hTst (by omega) (by rw [sTI (k := m) (by omega)]; first | omega | (simp only [sTI, *]; omega))]; exact ⟨rfl, hT, KH_rf z⟩)⟩
              · skip
                have hi0 : ¬ y.toInt < 0 := fun q => c11 (sL0.mpr q)
                obtain ⟨i, hi31, rfl⟩ := sNN31 hi0
                refine ww_blk xCC okX6_copy 35 1 (ps := []) (pc' := 67) (lv' := [(0, .ref 0), (1, .int (nI s)), (2, .int (nI i)), (3, .int (nI t)), (4, .int v), (5, .int (nI m))]) (st' := [.int v]) (z' := z) rfl trivial ?_
                refine ww_br xCC okX6_copy 36 (P := v < 0) (t1 := 97) (t2 := 70) (r := []) rfl (fun c12 => ?_) (fun c12 => ?_)
                · skip
                  have hj0 : v.toInt < 0 := sL0.mp c12
                  refine ww_blk xCC okX6_copy 53 1 (ps := []) (pc' := 99) (lv' := [(0, .ref 0), (1, .int (nI s)), (2, .int (nI i)), (3, .int (nI t)), (4, .int v), (5, .int (nI m))]) (st' := [.int (-12)]) (z' := z) rfl trivial ?_
                  subst xhQ
                  exact ww_iret xCC okX6_copy 54 xhr rfl rfl ⟨_, rfl, (by rw [sCopy_o (by omega) (by omega) hTs hTst (by omega) (by rw [sTI (k := m) (by omega)]; rw [sTI (k := i) (by omega)]; first | omega | (simp only [sTI, *]; omega))]; exact ⟨rfl, hT, KH_rf z⟩)⟩
                · skip
                  have hj0 : ¬ v.toInt < 0 := fun q => c12 (sL0.mpr q)
                  obtain ⟨j, hj31, rfl⟩ := sNN31 hj0
                  refine ww_blk xCC okX6_copy 37 7 (ps := [vp_in (nI s) 4]) (pc' := 80) (lv' := [(0, .ref 0), (1, .int (nI s)), (2, .int (nI i)), (3, .int (nI t)), (4, .int (nI j)), (5, .int (nI m))]) (st' := [.int ((z.1 16 (nI s).toNatClampNeg) - (nI m)), .int (nI i)]) (z' := z) rfl (vp_in_nI (by omega) (by decide)) ?_
                  rw [sCL (n := s) (by omega)]
                  rw [h16]
                  refine ww_br xCC okX6_copy 44 (P := ((nI n) - (nI m)) < (nI i)) (t1 := 97) (t2 := 83) (r := []) rfl (fun c13 => ?_) (fun c13 => ?_)
                  · skip
                    have hc1 : ¬ i + m ≤ n := fun q => absurd c13 (sSubG (by omega) (by omega) (by omega) q)
                    refine ww_blk xCC okX6_copy 53 1 (ps := []) (pc' := 99) (lv' := [(0, .ref 0), (1, .int (nI s)), (2, .int (nI i)), (3, .int (nI t)), (4, .int (nI j)), (5, .int (nI m))]) (st' := [.int (-12)]) (z' := z) rfl trivial ?_
                    subst xhQ
                    exact ww_iret xCC okX6_copy 54 xhr rfl rfl ⟨_, rfl, (by rw [sCopy_o (by omega) (by omega) hTs hTst (by omega) (by rw [sTI (k := m) (by omega)]; rw [sTI (k := i) (by omega)]; rw [sTI (k := j) (by omega)]; first | omega | (simp only [sTI, *]; omega))]; exact ⟨rfl, hT, KH_rf z⟩)⟩
                  · skip
                    have hc1 := sSubL (by omega) (by omega) (by omega) c13
                    refine ww_blk xCC okX6_copy 45 7 (ps := [vp_in (nI t) 4]) (pc' := 94) (lv' := [(0, .ref 0), (1, .int (nI s)), (2, .int (nI i)), (3, .int (nI t)), (4, .int (nI j)), (5, .int (nI m))]) (st' := [.int ((z.1 16 (nI t).toNatClampNeg) - (nI m)), .int (nI j)]) (z' := z) rfl (vp_in_nI (by omega) (by decide)) ?_
                    rw [sCL (n := t) (by omega)]
                    rw [h16t]
                    refine ww_br xCC okX6_copy 52 (P := (nI j) ≤ ((nI nt) - (nI m))) (t1 := 100) (t2 := 97) (r := []) rfl (fun c14 => ?_) (fun c14 => ?_)
                    · skip
                      have hc2 := sSubL2 (by omega) (by omega) (by omega) c14
                      refine ww_blk xCC okX6_copy 55 2 (ps := []) (pc' := 102) (lv' := [(0, .ref 0), (1, .int (nI s)), (2, .int (nI i)), (3, .int (nI t)), (4, .int (nI j)), (5, .int (nI m))]) (st' := [.int (nI t), .int (nI s)]) (z' := z) rfl trivial ?_
                      refine ww_br xCC okX6_copy 57 (P := (nI s) = (nI t)) (t1 := 105) (t2 := 115) (r := []) rfl (fun c15 => ?_) (fun c15 => ?_)
                      · skip
                        replace c15 : s = t := (sEQ (a := s) (b := t) (by omega) (by omega)).mp c15
                        refine ww_blk xCC okX6_copy 58 2 (ps := []) (pc' := 108) (lv' := [(0, .ref 0), (1, .int (nI s)), (2, .int (nI i)), (3, .int (nI t)), (4, .int (nI j)), (5, .int (nI m))]) (st' := [.int (nI j), .int (nI i)]) (z' := z) rfl trivial ?_
                        refine ww_br xCC okX6_copy 60 (P := (nI j) ≤ (nI i)) (t1 := 115) (t2 := 111) (r := []) rfl (fun c16 => ?_) (fun c16 => ?_)
                        · skip
                          replace c16 : j ≤ i := (sLE (a := j) (b := i) (by omega) (by omega)).mp c16
                          refine ww_blk xCC okX6_copy 63 4 (ps := []) (pc' := 121) (lv' := [(7, .int 0), (6, .int 0), (0, .ref 0), (1, .int (nI s)), (2, .int (nI i)), (3, .int (nI t)), (4, .int (nI j)), (5, .int (nI m))]) (st' := []) (z' := z) rfl trivial ?_
                          have L121 : ∀ (n121 : Nat) (c : Nat) (up : Nat) (zL : xMem), m - c < n121 → (c ≤ m) → (up ≤ 1) → (up = 1 → s = t ∧ i < j) → (up = 0 → s ≠ t ∨ j ≤ i) → (CY z zL (40 * s + i) (40 * t + j) (if up = 1 then m - c else 0) (if up = 1 then m else c)) → ww xp l xe (xRm (d + 2)) xs xm xar xbl xme xc 9 xD xcs xad shM xAA xQ 121 [(7, .int (nI c)), (6, .int (nI up)), (0, .ref 0), (1, .int (nI s)), (2, .int (nI i)), (3, .int (nI t)), (4, .int (nI j)), (5, .int (nI m))] [] zL := by
                            intro n121
                            induction n121 with
                            | zero =>
                              intro c up zL hmu121
                              exact absurd hmu121 (Nat.not_lt_zero _)
                            | succ n121 ih121 =>
                              intro c up zL hmu121 e121_0 e121_1 e121_2 e121_3 e121_4
                              refine ww_blk xCC okX6_copy 67 2 (ps := []) (pc' := 125) (lv' := [(7, .int (nI c)), (6, .int (nI up)), (0, .ref 0), (1, .int (nI s)), (2, .int (nI i)), (3, .int (nI t)), (4, .int (nI j)), (5, .int (nI m))]) (st' := [.int (nI m), .int (nI c)]) (z' := zL) rfl trivial ?_
                              refine ww_br xCC okX6_copy 69 (P := (nI m) ≤ (nI c)) (t1 := 182) (t2 := 128) (r := []) rfl (fun c17 => ?_) (fun c17 => ?_)
                              · skip
                                replace c17 : m ≤ c := (sLE (a := m) (b := c) (by omega) (by omega)).mp c17
                                refine ww_blk xCC okX6_copy 102 1 (ps := []) (pc' := 184) (lv' := [(7, .int (nI c)), (6, .int (nI up)), (0, .ref 0), (1, .int (nI s)), (2, .int (nI i)), (3, .int (nI t)), (4, .int (nI j)), (5, .int (nI m))]) (st' := [.int (nI m)]) (z' := zL) rfl trivial ?_
                                subst xhQ
                                exact ww_iret xCC okX6_copy 103 xhr rfl rfl ⟨_, rfl, (by rw [sCopy_y (by omega) (by omega) hTs hTst (by omega) (by omega) hc1 hc2]; exact ⟨rfl, SM_copy hT (by omega) (by omega) hTs hTst hc1 hc2 e121_4 (by split <;> omega) (by split <;> omega), KH_CY e121_4⟩)⟩
                              · skip
                                replace c17 : ¬ m ≤ c := fun q => c17 ((sLE (a := m) (b := c) (by omega) (by omega)).mpr q)
                                refine ww_blk xCC okX6_copy 70 1 (ps := []) (pc' := 130) (lv' := [(7, .int (nI c)), (6, .int (nI up)), (0, .ref 0), (1, .int (nI s)), (2, .int (nI i)), (3, .int (nI t)), (4, .int (nI j)), (5, .int (nI m))]) (st' := [.int (nI up)]) (z' := zL) rfl trivial ?_
                                refine ww_br xCC okX6_copy 71 (P := (nI up) = 0) (t1 := 143) (t2 := 133) (r := []) rfl (fun c18 => ?_) (fun c18 => ?_)
                                · skip
                                  replace c18 : up = 0 := (sEQ (a := up) (b := 0) (by omega) (by omega)).mp c18
                                  refine ww_blk xCC okX6_copy 78 24 (ps := [vp_in (((40 * (nI s)) + (nI i)) + (nI c)) 160, vp_in (((40 * (nI t)) + (nI j)) + (nI c)) 160]) (pc' := 121) (lv' := [(7, .int ((nI c) + 1)), (8, .int (nI c)), (6, .int (nI up)), (0, .ref 0), (1, .int (nI s)), (2, .int (nI i)), (3, .int (nI t)), (4, .int (nI j)), (5, .int (nI m))]) (st' := []) (z' := (mPut zL 17 (((40 * (nI t)) + (nI j)) + (nI c)).toNatClampNeg (zL.1 17 (((40 * (nI s)) + (nI i)) + (nI c)).toNatClampNeg))) rfl ⟨(vp_403 (by omega) (by omega)), (vp_403 (by omega) (by omega))⟩ ?_
                                  rw [show nI c + (1 : Int32) = nI (c + 1) from nI_add c 1]
                                  rw [show (40 : Int32) * nI t = nI (40 * t) from pk_mul 40 t]
                                  rw [show (40 : Int32) * nI s = nI (40 * s) from pk_mul 40 s]
                                  rw [nI_add (40 * t) j]
                                  rw [nI_add ((40 * t) + j) c]
                                  rw [sCL (n := (((40 * t) + j) + c)) (by omega)]
                                  rw [nI_add (40 * s) i]
                                  rw [nI_add ((40 * s) + i) c]
                                  rw [sCL (n := (((40 * s) + i) + c)) (by omega)]
                                  exact ww_cut [0, 2, 3, 4, 5, 6, 7, 8] (xlc rfl (xlc rfl (xlc rfl (xlc rfl (xlc rfl (xlc rfl (xlc rfl (xlc rfl rfl)))))))) rfl rfl (ih121 (c + 1) up (mPut zL 17 (((40 * t) + j) + c) (zL.1 17 (((40 * s) + i) + c))) (by omega) (by omega) (by omega) (by omega) (by omega) (CY_d e121_4 (by omega) (by omega)))
                                · skip
                                  replace c18 : ¬ up = 0 := fun q => c18 ((sEQ (a := up) (b := 0) (by omega) (by omega)).mpr q)
                                  refine ww_blk xCC okX6_copy 72 6 (ps := []) (pc' := 145) (lv' := [(7, .int (nI c)), (6, .int (nI up)), (0, .ref 0), (1, .int (nI s)), (2, .int (nI i)), (3, .int (nI t)), (4, .int (nI j)), (5, .int (nI m))]) (st' := [.int (((nI m) - 1) - (nI c))]) (z' := zL) rfl trivial ?_
                                  rw [show nI m - 1 - nI c = nI (m - 1 - c) from sSubS (by omega)]
                                  refine ww_blk xCC okX6_copy 79 23 (ps := [vp_in (((40 * (nI s)) + (nI i)) + (nI (m - 1 - c))) 160, vp_in (((40 * (nI t)) + (nI j)) + (nI (m - 1 - c))) 160]) (pc' := 121) (lv' := [(7, .int ((nI c) + 1)), (8, .int (nI (m - 1 - c))), (6, .int (nI up)), (0, .ref 0), (1, .int (nI s)), (2, .int (nI i)), (3, .int (nI t)), (4, .int (nI j)), (5, .int (nI m))]) (st' := []) (z' := (mPut zL 17 (((40 * (nI t)) + (nI j)) + (nI (m - 1 - c))).toNatClampNeg (zL.1 17 (((40 * (nI s)) + (nI i)) + (nI (m - 1 - c))).toNatClampNeg))) rfl ⟨(vp_403 (by omega) (by omega)), (vp_403 (by omega) (by omega))⟩ ?_
                                  rw [show nI c + (1 : Int32) = nI (c + 1) from nI_add c 1]
                                  rw [show (40 : Int32) * nI t = nI (40 * t) from pk_mul 40 t]
                                  rw [show (40 : Int32) * nI s = nI (40 * s) from pk_mul 40 s]
                                  rw [nI_add (40 * t) j]
                                  rw [nI_add ((40 * t) + j) (m - 1 - c)]
                                  rw [sCL (n := (((40 * t) + j) + (m - 1 - c))) (by omega)]
                                  rw [nI_add (40 * s) i]
                                  rw [nI_add ((40 * s) + i) (m - 1 - c)]
                                  rw [sCL (n := (((40 * s) + i) + (m - 1 - c))) (by omega)]
                                  exact ww_cut [0, 2, 3, 4, 5, 6, 7, 8] (xlc rfl (xlc rfl (xlc rfl (xlc rfl (xlc rfl (xlc rfl (xlc rfl (xlc rfl rfl)))))))) rfl rfl (ih121 (c + 1) up (mPut zL 17 (((40 * t) + j) + (m - 1 - c)) (zL.1 17 (((40 * s) + i) + (m - 1 - c)))) (by omega) (by omega) (by omega) (by omega) (by omega) (CY_u e121_4 (by omega) (by omega) (by omega)))
                          exact ww_cut [0, 1, 2, 3, 4, 5, 6, 7] (xlc (congrArg Value.int (show (0 : Int32) = nI 0 from rfl)) (xlc (congrArg Value.int (show (0 : Int32) = nI 0 from rfl)) (xlc rfl (xlc rfl (xlc rfl (xlc rfl (xlc rfl (xlc rfl rfl)))))))) rfl rfl (L121 (m - 0 + 1) 0 0 z (Nat.lt_succ_self _) (by omega) (by omega) (by omega) (by omega) (CY_0 z))
                        · skip
                          replace c16 : ¬ j ≤ i := fun q => c16 ((sLE (a := j) (b := i) (by omega) (by omega)).mpr q)
                          refine ww_blk xCC okX6_copy 61 2 (ps := []) (pc' := 116) (lv' := [(0, .ref 0), (1, .int (nI s)), (2, .int (nI i)), (3, .int (nI t)), (4, .int (nI j)), (5, .int (nI m))]) (st' := [.int 1]) (z' := z) rfl trivial ?_
                          refine ww_blk xCC okX6_copy 64 3 (ps := []) (pc' := 121) (lv' := [(7, .int 0), (6, .int 1), (0, .ref 0), (1, .int (nI s)), (2, .int (nI i)), (3, .int (nI t)), (4, .int (nI j)), (5, .int (nI m))]) (st' := []) (z' := z) rfl trivial ?_
                          have L121 : ∀ (n121 : Nat) (c : Nat) (up : Nat) (zL : xMem), m - c < n121 → (c ≤ m) → (up ≤ 1) → (up = 1 → s = t ∧ i < j) → (up = 0 → s ≠ t ∨ j ≤ i) → (CY z zL (40 * s + i) (40 * t + j) (if up = 1 then m - c else 0) (if up = 1 then m else c)) → ww xp l xe (xRm (d + 2)) xs xm xar xbl xme xc 9 xD xcs xad shM xAA xQ 121 [(7, .int (nI c)), (6, .int (nI up)), (0, .ref 0), (1, .int (nI s)), (2, .int (nI i)), (3, .int (nI t)), (4, .int (nI j)), (5, .int (nI m))] [] zL := by
                            intro n121
                            induction n121 with
                            | zero =>
                              intro c up zL hmu121
                              exact absurd hmu121 (Nat.not_lt_zero _)
                            | succ n121 ih121 =>
                              intro c up zL hmu121 e121_0 e121_1 e121_2 e121_3 e121_4
                              refine ww_blk xCC okX6_copy 67 2 (ps := []) (pc' := 125) (lv' := [(7, .int (nI c)), (6, .int (nI up)), (0, .ref 0), (1, .int (nI s)), (2, .int (nI i)), (3, .int (nI t)), (4, .int (nI j)), (5, .int (nI m))]) (st' := [.int (nI m), .int (nI c)]) (z' := zL) rfl trivial ?_
                              refine ww_br xCC okX6_copy 69 (P := (nI m) ≤ (nI c)) (t1 := 182) (t2 := 128) (r := []) rfl (fun c19 => ?_) (fun c19 => ?_)
                              · skip
                                replace c19 : m ≤ c := (sLE (a := m) (b := c) (by omega) (by omega)).mp c19
                                refine ww_blk xCC okX6_copy 102 1 (ps := []) (pc' := 184) (lv' := [(7, .int (nI c)), (6, .int (nI up)), (0, .ref 0), (1, .int (nI s)), (2, .int (nI i)), (3, .int (nI t)), (4, .int (nI j)), (5, .int (nI m))]) (st' := [.int (nI m)]) (z' := zL) rfl trivial ?_
                                subst xhQ
                                exact ww_iret xCC okX6_copy 103 xhr rfl rfl ⟨_, rfl, (by rw [sCopy_y (by omega) (by omega) hTs hTst (by omega) (by omega) hc1 hc2]; exact ⟨rfl, SM_copy hT (by omega) (by omega) hTs hTst hc1 hc2 e121_4 (by split <;> omega) (by split <;> omega), KH_CY e121_4⟩)⟩
                              · skip
                                replace c19 : ¬ m ≤ c := fun q => c19 ((sLE (a := m) (b := c) (by omega) (by omega)).mpr q)
                                refine ww_blk xCC okX6_copy 70 1 (ps := []) (pc' := 130) (lv' := [(7, .int (nI c)), (6, .int (nI up)), (0, .ref 0), (1, .int (nI s)), (2, .int (nI i)), (3, .int (nI t)), (4, .int (nI j)), (5, .int (nI m))]) (st' := [.int (nI up)]) (z' := zL) rfl trivial ?_
                                refine ww_br xCC okX6_copy 71 (P := (nI up) = 0) (t1 := 143) (t2 := 133) (r := []) rfl (fun c20 => ?_) (fun c20 => ?_)
                                · skip
                                  replace c20 : up = 0 := (sEQ (a := up) (b := 0) (by omega) (by omega)).mp c20
                                  refine ww_blk xCC okX6_copy 78 24 (ps := [vp_in (((40 * (nI s)) + (nI i)) + (nI c)) 160, vp_in (((40 * (nI t)) + (nI j)) + (nI c)) 160]) (pc' := 121) (lv' := [(7, .int ((nI c) + 1)), (8, .int (nI c)), (6, .int (nI up)), (0, .ref 0), (1, .int (nI s)), (2, .int (nI i)), (3, .int (nI t)), (4, .int (nI j)), (5, .int (nI m))]) (st' := []) (z' := (mPut zL 17 (((40 * (nI t)) + (nI j)) + (nI c)).toNatClampNeg (zL.1 17 (((40 * (nI s)) + (nI i)) + (nI c)).toNatClampNeg))) rfl ⟨(vp_403 (by omega) (by omega)), (vp_403 (by omega) (by omega))⟩ ?_
                                  rw [show nI c + (1 : Int32) = nI (c + 1) from nI_add c 1]
                                  rw [show (40 : Int32) * nI t = nI (40 * t) from pk_mul 40 t]
                                  rw [show (40 : Int32) * nI s = nI (40 * s) from pk_mul 40 s]
                                  rw [nI_add (40 * t) j]
                                  rw [nI_add ((40 * t) + j) c]
                                  rw [sCL (n := (((40 * t) + j) + c)) (by omega)]
                                  rw [nI_add (40 * s) i]
                                  rw [nI_add ((40 * s) + i) c]
                                  rw [sCL (n := (((40 * s) + i) + c)) (by omega)]
                                  exact ww_cut [0, 2, 3, 4, 5, 6, 7, 8] (xlc rfl (xlc rfl (xlc rfl (xlc rfl (xlc rfl (xlc rfl (xlc rfl (xlc rfl rfl)))))))) rfl rfl (ih121 (c + 1) up (mPut zL 17 (((40 * t) + j) + c) (zL.1 17 (((40 * s) + i) + c))) (by omega) (by omega) (by omega) (by omega) (by omega) (CY_d e121_4 (by omega) (by omega)))
                                · skip
                                  replace c20 : ¬ up = 0 := fun q => c20 ((sEQ (a := up) (b := 0) (by omega) (by omega)).mpr q)
                                  refine ww_blk xCC okX6_copy 72 6 (ps := []) (pc' := 145) (lv' := [(7, .int (nI c)), (6, .int (nI up)), (0, .ref 0), (1, .int (nI s)), (2, .int (nI i)), (3, .int (nI t)), (4, .int (nI j)), (5, .int (nI m))]) (st' := [.int (((nI m) - 1) - (nI c))]) (z' := zL) rfl trivial ?_
                                  rw [show nI m - 1 - nI c = nI (m - 1 - c) from sSubS (by omega)]
                                  refine ww_blk xCC okX6_copy 79 23 (ps := [vp_in (((40 * (nI s)) + (nI i)) + (nI (m - 1 - c))) 160, vp_in (((40 * (nI t)) + (nI j)) + (nI (m - 1 - c))) 160]) (pc' := 121) (lv' := [(7, .int ((nI c) + 1)), (8, .int (nI (m - 1 - c))), (6, .int (nI up)), (0, .ref 0), (1, .int (nI s)), (2, .int (nI i)), (3, .int (nI t)), (4, .int (nI j)), (5, .int (nI m))]) (st' := []) (z' := (mPut zL 17 (((40 * (nI t)) + (nI j)) + (nI (m - 1 - c))).toNatClampNeg (zL.1 17 (((40 * (nI s)) + (nI i)) + (nI (m - 1 - c))).toNatClampNeg))) rfl ⟨(vp_403 (by omega) (by omega)), (vp_403 (by omega) (by omega))⟩ ?_
                                  rw [show nI c + (1 : Int32) = nI (c + 1) from nI_add c 1]
                                  rw [show (40 : Int32) * nI t = nI (40 * t) from pk_mul 40 t]
                                  rw [show (40 : Int32) * nI s = nI (40 * s) from pk_mul 40 s]
                                  rw [nI_add (40 * t) j]
                                  rw [nI_add ((40 * t) + j) (m - 1 - c)]
                                  rw [sCL (n := (((40 * t) + j) + (m - 1 - c))) (by omega)]
                                  rw [nI_add (40 * s) i]
                                  rw [nI_add ((40 * s) + i) (m - 1 - c)]
                                  rw [sCL (n := (((40 * s) + i) + (m - 1 - c))) (by omega)]
                                  exact ww_cut [0, 2, 3, 4, 5, 6, 7, 8] (xlc rfl (xlc rfl (xlc rfl (xlc rfl (xlc rfl (xlc rfl (xlc rfl (xlc rfl rfl)))))))) rfl rfl (ih121 (c + 1) up (mPut zL 17 (((40 * t) + j) + (m - 1 - c)) (zL.1 17 (((40 * s) + i) + (m - 1 - c)))) (by omega) (by omega) (by omega) (by omega) (by omega) (CY_u e121_4 (by omega) (by omega) (by omega)))
                          exact ww_cut [0, 1, 2, 3, 4, 5, 6, 7] (xlc (congrArg Value.int (show (0 : Int32) = nI 0 from rfl)) (xlc (congrArg Value.int (show (1 : Int32) = nI 1 from rfl)) (xlc rfl (xlc rfl (xlc rfl (xlc rfl (xlc rfl (xlc rfl rfl)))))))) rfl rfl (L121 (m - 0 + 1) 0 1 z (Nat.lt_succ_self _) (by omega) (by omega) (by omega) (by omega) (CY_0 z))
                      · skip
                        replace c15 : ¬ s = t := fun q => c15 ((sEQ (a := s) (b := t) (by omega) (by omega)).mpr q)
                        refine ww_blk xCC okX6_copy 63 4 (ps := []) (pc' := 121) (lv' := [(7, .int 0), (6, .int 0), (0, .ref 0), (1, .int (nI s)), (2, .int (nI i)), (3, .int (nI t)), (4, .int (nI j)), (5, .int (nI m))]) (st' := []) (z' := z) rfl trivial ?_
                        have L121 : ∀ (n121 : Nat) (c : Nat) (up : Nat) (zL : xMem), m - c < n121 → (c ≤ m) → (up ≤ 1) → (up = 1 → s = t ∧ i < j) → (up = 0 → s ≠ t ∨ j ≤ i) → (CY z zL (40 * s + i) (40 * t + j) (if up = 1 then m - c else 0) (if up = 1 then m else c)) → ww xp l xe (xRm (d + 2)) xs xm xar xbl xme xc 9 xD xcs xad shM xAA xQ 121 [(7, .int (nI c)), (6, .int (nI up)), (0, .ref 0), (1, .int (nI s)), (2, .int (nI i)), (3, .int (nI t)), (4, .int (nI j)), (5, .int (nI m))] [] zL := by
                          intro n121
                          induction n121 with
                          | zero =>
                            intro c up zL hmu121
                            exact absurd hmu121 (Nat.not_lt_zero _)
                          | succ n121 ih121 =>
                            intro c up zL hmu121 e121_0 e121_1 e121_2 e121_3 e121_4
                            refine ww_blk xCC okX6_copy 67 2 (ps := []) (pc' := 125) (lv' := [(7, .int (nI c)), (6, .int (nI up)), (0, .ref 0), (1, .int (nI s)), (2, .int (nI i)), (3, .int (nI t)), (4, .int (nI j)), (5, .int (nI m))]) (st' := [.int (nI m), .int (nI c)]) (z' := zL) rfl trivial ?_
                            refine ww_br xCC okX6_copy 69 (P := (nI m) ≤ (nI c)) (t1 := 182) (t2 := 128) (r := []) rfl (fun c21 => ?_) (fun c21 => ?_)
                            · skip
                              replace c21 : m ≤ c := (sLE (a := m) (b := c) (by omega) (by omega)).mp c21
                              refine ww_blk xCC okX6_copy 102 1 (ps := []) (pc' := 184) (lv' := [(7, .int (nI c)), (6, .int (nI up)), (0, .ref 0), (1, .int (nI s)), (2, .int (nI i)), (3, .int (nI t)), (4, .int (nI j)), (5, .int (nI m))]) (st' := [.int (nI m)]) (z' := zL) rfl trivial ?_
                              subst xhQ
                              exact ww_iret xCC okX6_copy 103 xhr rfl rfl ⟨_, rfl, (by rw [sCopy_y (by omega) (by omega) hTs hTst (by omega) (by omega) hc1 hc2]; exact ⟨rfl, SM_copy hT (by omega) (by omega) hTs hTst hc1 hc2 e121_4 (by split <;> omega) (by split <;> omega), KH_CY e121_4⟩)⟩
                            · skip
                              replace c21 : ¬ m ≤ c := fun q => c21 ((sLE (a := m) (b := c) (by omega) (by omega)).mpr q)
                              refine ww_blk xCC okX6_copy 70 1 (ps := []) (pc' := 130) (lv' := [(7, .int (nI c)), (6, .int (nI up)), (0, .ref 0), (1, .int (nI s)), (2, .int (nI i)), (3, .int (nI t)), (4, .int (nI j)), (5, .int (nI m))]) (st' := [.int (nI up)]) (z' := zL) rfl trivial ?_
                              refine ww_br xCC okX6_copy 71 (P := (nI up) = 0) (t1 := 143) (t2 := 133) (r := []) rfl (fun c22 => ?_) (fun c22 => ?_)
                              · skip
                                replace c22 : up = 0 := (sEQ (a := up) (b := 0) (by omega) (by omega)).mp c22
                                refine ww_blk xCC okX6_copy 78 24 (ps := [vp_in (((40 * (nI s)) + (nI i)) + (nI c)) 160, vp_in (((40 * (nI t)) + (nI j)) + (nI c)) 160]) (pc' := 121) (lv' := [(7, .int ((nI c) + 1)), (8, .int (nI c)), (6, .int (nI up)), (0, .ref 0), (1, .int (nI s)), (2, .int (nI i)), (3, .int (nI t)), (4, .int (nI j)), (5, .int (nI m))]) (st' := []) (z' := (mPut zL 17 (((40 * (nI t)) + (nI j)) + (nI c)).toNatClampNeg (zL.1 17 (((40 * (nI s)) + (nI i)) + (nI c)).toNatClampNeg))) rfl ⟨(vp_403 (by omega) (by omega)), (vp_403 (by omega) (by omega))⟩ ?_
                                rw [show nI c + (1 : Int32) = nI (c + 1) from nI_add c 1]
                                rw [show (40 : Int32) * nI t = nI (40 * t) from pk_mul 40 t]
                                rw [show (40 : Int32) * nI s = nI (40 * s) from pk_mul 40 s]
                                rw [nI_add (40 * t) j]
                                rw [nI_add ((40 * t) + j) c]
                                rw [sCL (n := (((40 * t) + j) + c)) (by omega)]
                                rw [nI_add (40 * s) i]
                                rw [nI_add ((40 * s) + i) c]
                                rw [sCL (n := (((40 * s) + i) + c)) (by omega)]
                                exact ww_cut [0, 2, 3, 4, 5, 6, 7, 8] (xlc rfl (xlc rfl (xlc rfl (xlc rfl (xlc rfl (xlc rfl (xlc rfl (xlc rfl rfl)))))))) rfl rfl (ih121 (c + 1) up (mPut zL 17 (((40 * t) + j) + c) (zL.1 17 (((40 * s) + i) + c))) (by omega) (by omega) (by omega) (by omega) (by omega) (CY_d e121_4 (by omega) (by omega)))
                              · skip
                                replace c22 : ¬ up = 0 := fun q => c22 ((sEQ (a := up) (b := 0) (by omega) (by omega)).mpr q)
                                refine ww_blk xCC okX6_copy 72 6 (ps := []) (pc' := 145) (lv' := [(7, .int (nI c)), (6, .int (nI up)), (0, .ref 0), (1, .int (nI s)), (2, .int (nI i)), (3, .int (nI t)), (4, .int (nI j)), (5, .int (nI m))]) (st' := [.int (((nI m) - 1) - (nI c))]) (z' := zL) rfl trivial ?_
                                rw [show nI m - 1 - nI c = nI (m - 1 - c) from sSubS (by omega)]
                                refine ww_blk xCC okX6_copy 79 23 (ps := [vp_in (((40 * (nI s)) + (nI i)) + (nI (m - 1 - c))) 160, vp_in (((40 * (nI t)) + (nI j)) + (nI (m - 1 - c))) 160]) (pc' := 121) (lv' := [(7, .int ((nI c) + 1)), (8, .int (nI (m - 1 - c))), (6, .int (nI up)), (0, .ref 0), (1, .int (nI s)), (2, .int (nI i)), (3, .int (nI t)), (4, .int (nI j)), (5, .int (nI m))]) (st' := []) (z' := (mPut zL 17 (((40 * (nI t)) + (nI j)) + (nI (m - 1 - c))).toNatClampNeg (zL.1 17 (((40 * (nI s)) + (nI i)) + (nI (m - 1 - c))).toNatClampNeg))) rfl ⟨(vp_403 (by omega) (by omega)), (vp_403 (by omega) (by omega))⟩ ?_
                                rw [show nI c + (1 : Int32) = nI (c + 1) from nI_add c 1]
                                rw [show (40 : Int32) * nI t = nI (40 * t) from pk_mul 40 t]
                                rw [show (40 : Int32) * nI s = nI (40 * s) from pk_mul 40 s]
                                rw [nI_add (40 * t) j]
                                rw [nI_add ((40 * t) + j) (m - 1 - c)]
                                rw [sCL (n := (((40 * t) + j) + (m - 1 - c))) (by omega)]
                                rw [nI_add (40 * s) i]
                                rw [nI_add ((40 * s) + i) (m - 1 - c)]
                                rw [sCL (n := (((40 * s) + i) + (m - 1 - c))) (by omega)]
                                exact ww_cut [0, 2, 3, 4, 5, 6, 7, 8] (xlc rfl (xlc rfl (xlc rfl (xlc rfl (xlc rfl (xlc rfl (xlc rfl (xlc rfl rfl)))))))) rfl rfl (ih121 (c + 1) up (mPut zL 17 (((40 * t) + j) + (m - 1 - c)) (zL.1 17 (((40 * s) + i) + (m - 1 - c)))) (by omega) (by omega) (by omega) (by omega) (by omega) (CY_u e121_4 (by omega) (by omega) (by omega)))
                        exact ww_cut [0, 1, 2, 3, 4, 5, 6, 7] (xlc (congrArg Value.int (show (0 : Int32) = nI 0 from rfl)) (xlc (congrArg Value.int (show (0 : Int32) = nI 0 from rfl)) (xlc rfl (xlc rfl (xlc rfl (xlc rfl (xlc rfl (xlc rfl rfl)))))))) rfl rfl (L121 (m - 0 + 1) 0 0 z (Nat.lt_succ_self _) (by omega) (by omega) (by omega) (by omega) (CY_0 z))
                    · skip
                      have hc2 : ¬ j + m ≤ nt := fun q => c14 (sSubG2 (by omega) (by omega) (by omega) q)
                      refine ww_blk xCC okX6_copy 53 1 (ps := []) (pc' := 99) (lv' := [(0, .ref 0), (1, .int (nI s)), (2, .int (nI i)), (3, .int (nI t)), (4, .int (nI j)), (5, .int (nI m))]) (st' := [.int (-12)]) (z' := z) rfl trivial ?_
                      subst xhQ
                      exact ww_iret xCC okX6_copy 54 xhr rfl rfl ⟨_, rfl, (by rw [sCopy_o (by omega) (by omega) hTs hTst (by omega) (by rw [sTI (k := m) (by omega)]; rw [sTI (k := i) (by omega)]; rw [sTI (k := j) (by omega)]; first | omega | (simp only [sTI, *]; omega))]; exact ⟨rfl, hT, KH_rf z⟩)⟩
          · skip
            replace c9 : ¬ k = kt := fun q => c9 ((sEQ (a := k) (b := kt) (by omega) (by omega)).mpr q)
            refine ww_blk xCC okX6_copy 29 1 (ps := []) (pc' := 55) (lv' := [(0, .ref 0), (1, .int (nI s)), (2, .int y), (3, .int (nI t)), (4, .int v), (5, .int w)]) (st' := [.int (-13)]) (z' := z) rfl trivial ?_
            subst xhQ
            exact ww_iret xCC okX6_copy 30 xhr rfl rfl ⟨_, rfl, (by rw [sCopy_k (by omega) (by omega) hTs hTst (by omega)]; exact ⟨rfl, hT, KH_rf z⟩)⟩
    · skip
      have h5 : ¬ (0 ≤ u.toInt ∧ u.toInt ≤ 3) := h5
      refine ww_br xCC okX6_copy 5 (P := 0 = 0) (t1 := 14) (t2 := 17) (r := []) rfl (fun _ => ?_) (fun q => absurd (by decide) q)
      refine ww_blk xCC okX6_copy 6 1 (ps := []) (pc' := 16) (lv' := [(0, .ref 0), (1, .int (nI s)), (2, .int y), (3, .int u), (4, .int v), (5, .int w)]) (st' := [.int (-2)]) (z' := z) rfl trivial ?_
      subst xhQ
      exact ww_iret xCC okX6_copy 7 xhr rfl rfl ⟨_, rfl, (by rw [sCopy_b (by omega)]; exact ⟨rfl, hT, KH_rf z⟩)⟩
  · skip
    have h2 : ¬ (0 ≤ x.toInt ∧ x.toInt ≤ 3) := h2
    refine ww_br xCC okX6_copy 2 (P := 0 = 0) (t1 := 14) (t2 := 7) (r := []) rfl (fun _ => ?_) (fun q => absurd (by decide) q)
    refine ww_blk xCC okX6_copy 6 1 (ps := []) (pc' := 16) (lv' := [(0, .ref 0), (1, .int x), (2, .int y), (3, .int u), (4, .int v), (5, .int w)]) (st' := [.int (-2)]) (z' := z) rfl trivial ?_
    subst xhQ
    exact ww_iret xCC okX6_copy 7 xhr rfl rfl ⟨_, rfl, (by rw [sCopy_b (by omega)]; exact ⟨rfl, hT, KH_rf z⟩)⟩
