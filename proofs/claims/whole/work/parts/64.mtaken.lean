/-! the model's person, over, taken, count, image, back -/
def sPer (r : sR) (p k n : Nat) : sR := fun q j => if q = 3 ∧ j = p then k else if q = 4 ∧ j = p then n else if q = 5 ∧ j = p then 0 else if q = 6 ∧ j = p then 0 else if q = 7 ∧ j = 4 then p + 1 else r q j
def sPerson (r : sR) (x y : Int32) : Int32 × sR := if 0 ≤ x.toInt ∧ x.toInt ≤ 5 ∧ 0 ≤ y.toInt ∧ y.toInt ≤ 9 then (if r 7 4 = 4 then (-4, r) else (nI (r 7 4), sPer r (r 7 4) x.toInt.toNat y.toInt.toNat)) else (-2, r)
theorem sPerson_n {r : sR} {x y : Int32} (h : ¬ (0 ≤ x.toInt ∧ x.toInt ≤ 5 ∧ 0 ≤ y.toInt ∧ y.toInt ≤ 9)) : sPerson r x y = (-2, r) := by rw [sPerson, if_neg h]
theorem sPerson_f {r : sR} {k n : Nat} (hk : k ≤ 5) (hn : n ≤ 9) (h : r 7 4 = 4) : sPerson r (nI k) (nI n) = (-4, r) := by rw [sPerson, sTI (k := k) (by omega), sTI (k := n) (by omega), if_pos (by omega), if_pos h]
theorem sPerson_y {r : sR} {k n : Nat} (hk : k ≤ 5) (hn : n ≤ 9) (h : ¬ r 7 4 = 4) : sPerson r (nI k) (nI n) = (nI (r 7 4), sPer r (r 7 4) k n) := by rw [sPerson, sTI (k := k) (by omega), sTI (k := n) (by omega), if_pos (by omega), if_neg h]; rfl
theorem RM_per {z : xMem} {r : sR} {p k n : Nat} (hr : RM z r) (hp : p = r 7 4) : RM (mPut (mPut (mPut (mPut (mPut z 7 (4 * p) (nI n)) 7 (4 * p + 1) 0) 7 (4 * p + 2) 0) 7 (4 * p + 3) (nI k)) 0 15 (nI (p + 1))) (sPer r p k n) := by
  clear hp
  obtain ⟨a1, a2, a3, a4, a5, a6, a7, b1, b2, b3, b4, b5, b6⟩ := hr
  refine ⟨fun j => ?_, fun j => ?_, fun j => ?_, fun j => ?_, fun j => ?_, fun j => ?_, fun j => ?_, ?_, ?_, ?_, ?_, ?_, ?_⟩
  · simp [mPut_rd, sPer, a1]
  · simp [mPut_rd, sPer, a2]
  · simp [mPut_rd, sPer, a3]
  · by_cases q : j = p
    · subst q; simp [mPut_rd, sPer, a4, nI_0]
    · have n0 : ¬ 4 * j + 0 = 4 * p := by omega
      have n1 : ¬ 4 * j + 0 = 4 * p + 1 := by omega
      have n2 : ¬ 4 * j + 0 = 4 * p + 2 := by omega
      have n3 : ¬ 4 * j + 0 = 4 * p + 3 := by omega
      have m0 : ¬ 4 * j = 4 * p := by omega
      have m1 : ¬ 4 * j = 4 * p + 1 := by omega
      have m2 : ¬ 4 * j = 4 * p + 2 := by omega
      have m3 : ¬ 4 * j = 4 * p + 3 := by omega
      simp [mPut_rd, sPer, a4, q, n0, n1, n2, n3, m0, m1, m2, m3]
  · by_cases q : j = p
    · subst q; simp [mPut_rd, sPer, a5, nI_0]
    · have n0 : ¬ 4 * j + 1 = 4 * p := by omega
      have n1 : ¬ 4 * j + 1 = 4 * p + 1 := by omega
      have n2 : ¬ 4 * j + 1 = 4 * p + 2 := by omega
      have n3 : ¬ 4 * j + 1 = 4 * p + 3 := by omega
      have m0 : ¬ 4 * j = 4 * p := by omega
      have m1 : ¬ 4 * j = 4 * p + 1 := by omega
      have m2 : ¬ 4 * j = 4 * p + 2 := by omega
      have m3 : ¬ 4 * j = 4 * p + 3 := by omega
      simp [mPut_rd, sPer, a5, q, n0, n1, n2, n3, m0, m1, m2, m3]
  · by_cases q : j = p
    · subst q; simp [mPut_rd, sPer, a6, nI_0]
    · have n0 : ¬ 4 * j + 2 = 4 * p := by omega
      have n1 : ¬ 4 * j + 2 = 4 * p + 1 := by omega
      have n2 : ¬ 4 * j + 2 = 4 * p + 2 := by omega
      have n3 : ¬ 4 * j + 2 = 4 * p + 3 := by omega
      have m0 : ¬ 4 * j = 4 * p := by omega
      have m1 : ¬ 4 * j = 4 * p + 1 := by omega
      have m2 : ¬ 4 * j = 4 * p + 2 := by omega
      have m3 : ¬ 4 * j = 4 * p + 3 := by omega
      simp [mPut_rd, sPer, a6, q, n0, n1, n2, n3, m0, m1, m2, m3]
  · by_cases q : j = p
    · subst q; simp [mPut_rd, sPer, a7, nI_0]
    · have n0 : ¬ 4 * j + 3 = 4 * p := by omega
      have n1 : ¬ 4 * j + 3 = 4 * p + 1 := by omega
      have n2 : ¬ 4 * j + 3 = 4 * p + 2 := by omega
      have n3 : ¬ 4 * j + 3 = 4 * p + 3 := by omega
      have m0 : ¬ 4 * j = 4 * p := by omega
      have m1 : ¬ 4 * j = 4 * p + 1 := by omega
      have m2 : ¬ 4 * j = 4 * p + 2 := by omega
      have m3 : ¬ 4 * j = 4 * p + 3 := by omega
      simp [mPut_rd, sPer, a7, q, n0, n1, n2, n3, m0, m1, m2, m3]
  · simp [mPut_rd, sPer, b1]
  · simp [mPut_rd, sPer, b2]
  · simp [mPut_rd, sPer, b3]
  · simp [mPut_rd, sPer, b4]
  · simp [mPut_rd, sPer, b5]
  · simp [mPut_rd, sPer, b6]
theorem KW_per {z : xMem} {i1 i2 i3 i4 : Nat} {x1 x2 x3 x4 x5 : Int32} : KW z (mPut (mPut (mPut (mPut (mPut z 7 i1 x1) 7 i2 x2) 7 i3 x3) 7 i4 x4) 0 15 x5) := by
  refine ⟨fun q hq => ?_, fun j hj => ?_⟩
  · rw [mPut_nq (by omega), mPut_nq (by omega), mPut_nq (by omega), mPut_nq (by omega), mPut_nq (by omega)]
  · rw [mPut_nj (by omega), mPut_nq (by omega), mPut_nq (by omega), mPut_nq (by omega), mPut_nq (by omega)]
def sOv (k : Nat) : Nat := if k = 0 then 0 else if k = 3 then 2 else if k = 4 then 3 else 1
theorem sOv_lt (k : Nat) (h : k < 6) : sOv k < 7 := by
  unfold sOv
  repeat' split
  all_goals omega
def sUnd (a k : Nat) : Bool := a == k || k == 0 || (a == 3 && k == 1) || (a == 4 && k == 2)
def sUx (a k : Nat) : Bool := a != 0 && sUnd (a - 1) k
def sUm (a : Nat) : Nat := if a = 0 then 0 else if a = 1 then 1 else if a = 4 ∨ a = 5 then 3 else 2
theorem sUx_s : ∀ a, a < 7 → ∀ k, k < 6 → a ≠ 0 → a ≠ k + 1 → sUx a k = sUx (sOv (a - 1)) k := by decide
theorem sUm_s : ∀ a, a < 7 → a ≠ 0 → sUm (sOv (a - 1)) < sUm a := by decide
def sTaken (r : sR) (x y : Int32) : Int32 := if 0 ≤ y.toInt ∧ y.toInt ≤ 5 then (if 0 ≤ x.toInt ∧ x.toInt < r 7 4 then (if sUnd (r 3 x.toInt.toNat) y.toInt.toNat = true then nI (r 4 x.toInt.toNat) else -13) else -11) else -2
theorem sTaken_y {r : sR} {p k : Nat} (hp : p < r 7 4) (hk : k ≤ 5) (hm : r 7 4 ≤ 4) : sTaken r (nI p) (nI k) = if sUnd (r 3 p) k = true then nI (r 4 p) else -13 := by
  unfold sTaken
  rw [sTN (k := p) (by omega), sTN (k := k) (by omega), sTI (k := p) (by omega), sTI (k := k) (by omega), if_pos (by omega), if_pos (by omega)]
theorem sUx_y {a b k : Nat} (h : b = k + 1) (e : sUx (a + 1) k = sUx b k) : sUnd a k = true := by
  subst h
  have h1 : sUx (k + 1) k = true := by simp [sUx, sUnd]
  rw [h1] at e
  simpa [sUx] using e
theorem sUx_n {a b k : Nat} (h0 : b = 0 ∨ b = k + 1) (h : ¬ b = k + 1) (e : sUx (a + 1) k = sUx b k) : ¬ sUnd a k = true := by
  have h1 : b = 0 := h0.resolve_right h
  subst h1
  have h2 : sUx 0 k = false := rfl
  rw [h2] at e
  have h3 : sUnd a k = false := by simpa [sUx] using e
  rw [h3]; decide
def sCount (r : sR) (cnt tn : Nat) (w : Int32) : Int32 := if 0 ≤ w.toInt ∧ w.toInt ≤ 5 then (if w.toInt.toNat = 0 then nI (r 7 4) else if w.toInt.toNat = 1 then nI (sPop (sAl (r 0) 8)) else if w.toInt.toNat = 2 then nI (r 7 2) else if w.toInt.toNat = 3 then nI cnt else if w.toInt.toNat = 4 then nI tn else nI (r 7 5)) else -2
theorem sCount_y {r : sR} {cnt tn u : Nat} (hu : u ≤ 5) : sCount r cnt tn (nI u) = if u = 0 then nI (r 7 4) else if u = 1 then nI (sPop (sAl (r 0) 8)) else if u = 2 then nI (r 7 2) else if u = 3 then nI cnt else if u = 4 then nI tn else nI (r 7 5) := by
  unfold sCount
  rw [sTN (k := u) (by omega), sTI (k := u) (by omega), if_pos (by omega)]
/-- a row copied so far; two rows -/
def CP (z z' : xMem) (s d i : Nat) : Prop := (∀ q, q ≠ d → z'.1 q = z.1 q) ∧ ∀ j, z'.1 d j = if j < i then z.1 s j else z.1 d j
theorem CP_0 {z : xMem} (s d : Nat) : CP z z s d 0 := ⟨fun _ _ => rfl, fun j => by rw [if_neg (Nat.not_lt_zero j)]⟩
theorem CP_1 {z b : xMem} {s d i : Nat} (hsd : s ≠ d) (h : CP z b s d i) : CP z (mPut b d i (b.1 s i)) s d (i + 1) := by
  refine ⟨fun q hq => (mPut_nq hq).trans (h.1 q hq), fun j => ?_⟩
  rw [mPut_rd, if_pos rfl, h.1 s hsd, h.2 j]
  by_cases e : j = i
  · rw [if_pos e, if_pos (by omega), e]
  · rw [if_neg e]
    by_cases e2 : j < i
    · rw [if_pos e2, if_pos (by omega)]
    · rw [if_neg e2, if_neg (by omega)]
def CQ (z z' : xMem) (s1 d1 s2 d2 i : Nat) : Prop := (∀ q, q ≠ d1 → q ≠ d2 → z'.1 q = z.1 q) ∧ (∀ j, z'.1 d1 j = if j < i then z.1 s1 j else z.1 d1 j) ∧ ∀ j, z'.1 d2 j = if j < i then z.1 s2 j else z.1 d2 j
theorem CQ_0 (z : xMem) (s1 d1 s2 d2 : Nat) : CQ z z s1 d1 s2 d2 0 := ⟨fun _ _ _ => rfl, fun j => by rw [if_neg (Nat.not_lt_zero j)], fun j => by rw [if_neg (Nat.not_lt_zero j)]⟩
theorem CQ_1 {z b : xMem} {s1 d1 s2 d2 i : Nat} (hd : s1 ≠ d1 ∧ s1 ≠ d2 ∧ s2 ≠ d1 ∧ s2 ≠ d2 ∧ d1 ≠ d2) (h : CQ z b s1 d1 s2 d2 i) : CQ z (mPut (mPut b d1 i (b.1 s1 i)) d2 i (b.1 s2 i)) s1 d1 s2 d2 (i + 1) := by
  obtain ⟨n1, n2, n3, n4, n5⟩ := hd
  refine ⟨fun q h1 h2 => (mPut_nq h2).trans ((mPut_nq h1).trans (h.1 q h1 h2)), fun j => ?_, fun j => ?_⟩
  · rw [mPut_nq n5, mPut_rd, if_pos rfl, h.1 s1 n1 n2, h.2.1 j]
    by_cases e : j = i
    · rw [if_pos e, if_pos (by omega), e]
    · rw [if_neg e]
      by_cases e2 : j < i
      · rw [if_pos e2, if_pos (by omega)]
      · rw [if_neg e2, if_neg (by omega)]
  · rw [mPut_rd, if_pos rfl, h.1 s2 n3 n4, mPut_nq (Ne.symm n5), h.2.2 j]
    by_cases e : j = i
    · rw [if_pos e, if_pos (by omega), e]
    · rw [if_neg e]
      by_cases e2 : j < i
      · rw [if_pos e2, if_pos (by omega)]
      · rw [if_neg e2, if_neg (by omega)]
/-- the image holds that republic -/
def KpR (z : xMem) (r : sR) : Prop := (∀ p, p < 4 → z.1 10 (4 * p) = nI (r 4 p) ∧ z.1 10 (4 * p + 1) = nI (r 5 p) ∧ z.1 10 (4 * p + 2) = nI (r 6 p) ∧ z.1 10 (4 * p + 3) = nI (r 3 p)) ∧ (∀ j, j < 8 → z.1 11 j = nI (r 0 j)) ∧ (∀ j, j < 10 → z.1 12 j = nI (r 1 j) ∧ z.1 13 j = nI (r 2 j)) ∧ z.1 0 40 = nI (r 7 4) ∧ z.1 0 41 = nI (r 7 1) ∧ z.1 0 42 = nI (r 7 2) ∧ z.1 0 43 = nI (r 7 0) ∧ z.1 0 44 = nI (r 7 3) ∧ z.1 0 45 = nI (r 7 5)
def KP (z : xMem) (k : Nat) (r : sR) : Prop := (k = 0 ∧ z.1 0 40 = -1) ∨ (k = 1 ∧ r 7 4 ≤ 4 ∧ KpR z r)
/-- nothing changed but the image -/
def KI (z z' : xMem) : Prop := (∀ q, q ≠ 0 → ¬ (10 ≤ q ∧ q ≤ 13) → z'.1 q = z.1 q) ∧ ∀ j, (j < 40 ∨ 45 < j) → z'.1 0 j = z.1 0 j
theorem KP_0 {z : xMem} {k : Nat} {r : sR} (h : KP z k r) (c : z.1 0 40 = -1) : k = 0 := by
  rcases h with h | h
  · exact h.1
  · rw [h.2.2.2.2.2.1] at c
    exact absurd c (nI_m1 (by have := h.2.1; omega))
theorem KP_1 {z : xMem} {k : Nat} {r : sR} (h : KP z k r) (c : ¬ z.1 0 40 = -1) : k = 1 ∧ KpR z r := by
  rcases h with h | h
  · exact absurd h.2 c
  · exact ⟨h.1, h.2.2⟩
theorem im_of {z z1 z2 z3 : xMem} {r : sR} {i1 i2 i3 : Nat} (hr : RM z r) (h1 : CP z z1 7 10 i1) (g1 : 16 ≤ i1) (h2 : CP z1 z2 4 11 i2) (g2 : 8 ≤ i2) (h3 : CQ z2 z3 5 12 6 13 i3) (g3 : 10 ≤ i3) : z3.1 0 15 = nI (r 7 4) ∧ KpR (mPut (mPut (mPut (mPut (mPut (mPut z3 0 40 (z3.1 0 15)) 0 41 (z3.1 0 7)) 0 42 (z3.1 0 8)) 0 43 (z3.1 0 9)) 0 44 (z3.1 0 10)) 0 45 (z3.1 0 4)) r ∧ KI z (mPut (mPut (mPut (mPut (mPut (mPut z3 0 40 (z3.1 0 15)) 0 41 (z3.1 0 7)) 0 42 (z3.1 0 8)) 0 43 (z3.1 0 9)) 0 44 (z3.1 0 10)) 0 45 (z3.1 0 4)) := by
  have e0 : ∀ j, z3.1 0 j = z.1 0 j := fun j => by rw [h3.1 0 (by decide) (by decide), h2.1 0 (by decide), h1.1 0 (by decide)]
  have e10 : ∀ j, j < 16 → z3.1 10 j = z.1 7 j := fun j hj => by rw [h3.1 10 (by decide) (by decide), h2.1 10 (by decide), h1.2 j, if_pos (by omega)]
  have e11 : ∀ j, j < 8 → z3.1 11 j = z.1 4 j := fun j hj => by rw [h3.1 11 (by decide) (by decide), h2.2 j, if_pos (by omega), h1.1 4 (by decide)]
  have e12 : ∀ j, j < 10 → z3.1 12 j = z.1 5 j := fun j hj => by rw [h3.2.1 j, if_pos (by omega), h2.1 5 (by decide), h1.1 5 (by decide)]
  have e13 : ∀ j, j < 10 → z3.1 13 j = z.1 6 j := fun j hj => by rw [h3.2.2 j, if_pos (by omega), h2.1 6 (by decide), h1.1 6 (by decide)]
  obtain ⟨a1, a2, a3, a4, a5, a6, a7, b1, b2, b3, b4, b5, b6⟩ := hr
  refine ⟨by rw [e0]; exact b5, ⟨fun p hp => ?_, fun j hj => ?_, fun j hj => ?_, ?_, ?_, ?_, ?_, ?_, ?_⟩, fun q h0 hq => ?_, fun j hj => ?_⟩
  · simp only [mPut_rd, if_neg (show ¬ (10 : Nat) = 0 by decide)]
    exact ⟨by rw [e10 _ (by omega)]; exact a4 p, by rw [e10 _ (by omega)]; exact a5 p, by rw [e10 _ (by omega)]; exact a6 p, by rw [e10 _ (by omega)]; exact a7 p⟩
  · simp only [mPut_rd, if_neg (show ¬ (11 : Nat) = 0 by decide)]
    rw [e11 j hj]; exact a1 j
  · simp only [mPut_rd, if_neg (show ¬ (12 : Nat) = 0 by decide), if_neg (show ¬ (13 : Nat) = 0 by decide)]
    exact ⟨by rw [e12 j hj]; exact a2 j, by rw [e13 j hj]; exact a3 j⟩
  · simp [mPut_rd, e0, b5]
  · simp [mPut_rd, e0, b2]
  · simp [mPut_rd, e0, b3]
  · simp [mPut_rd, e0, b1]
  · simp [mPut_rd, e0, b4]
  · simp [mPut_rd, e0, b6]
  · rw [mPut_nq h0, mPut_nq h0, mPut_nq h0, mPut_nq h0, mPut_nq h0, mPut_nq h0, h3.1 q (by omega) (by omega), h2.1 q (by omega), h1.1 q (by omega)]
  · rw [mPut_nj (by omega), mPut_nj (by omega), mPut_nj (by omega), mPut_nj (by omega), mPut_nj (by omega), mPut_nj (by omega), e0]
/-- the republic as it was kept -/
def sBk (r rk : sR) : sR := fun q j => if (q = 0 ∧ j < 8) ∨ ((q = 1 ∨ q = 2) ∧ j < 10) ∨ ((3 ≤ q ∧ q ≤ 6) ∧ j < 4) ∨ (q = 7 ∧ j < 6) then rk q j else r q j
theorem bk_of {z z1 z2 z3 : xMem} {r rk : sR} {i1 i2 i3 : Nat} (hr : RM z r) (hk : KpR z rk) (h1 : CP z z1 10 7 i1) (g1 : i1 = 16) (h2 : CP z1 z2 11 4 i2) (g2 : i2 = 8) (h3 : CQ z2 z3 12 5 13 6 i3) (g3 : i3 = 10) : z3.1 0 40 = nI (rk 7 4) ∧ RM (mPut (mPut (mPut (mPut (mPut (mPut z3 0 15 (z3.1 0 40)) 0 7 (z3.1 0 41)) 0 8 (z3.1 0 42)) 0 9 (z3.1 0 43)) 0 10 (z3.1 0 44)) 0 4 (z3.1 0 45)) (sBk r rk) ∧ KW z (mPut (mPut (mPut (mPut (mPut (mPut z3 0 15 (z3.1 0 40)) 0 7 (z3.1 0 41)) 0 8 (z3.1 0 42)) 0 9 (z3.1 0 43)) 0 10 (z3.1 0 44)) 0 4 (z3.1 0 45)) := by
  subst g1 g2 g3
  have e0 : ∀ j, z3.1 0 j = z.1 0 j := fun j => by rw [h3.1 0 (by decide) (by decide), h2.1 0 (by decide), h1.1 0 (by decide)]
  have e7 : ∀ j, z3.1 7 j = if j < 16 then z.1 10 j else z.1 7 j := fun j => by rw [h3.1 7 (by decide) (by decide), h2.1 7 (by decide), h1.2 j]
  have e4 : ∀ j, z3.1 4 j = if j < 8 then z.1 11 j else z.1 4 j := fun j => by rw [h3.1 4 (by decide) (by decide), h2.2 j, h1.1 11 (by decide), h1.1 4 (by decide)]
  have e5 : ∀ j, z3.1 5 j = if j < 10 then z.1 12 j else z.1 5 j := fun j => by rw [h3.2.1 j, h2.1 12 (by decide), h1.1 12 (by decide), h2.1 5 (by decide), h1.1 5 (by decide)]
  have e6 : ∀ j, z3.1 6 j = if j < 10 then z.1 13 j else z.1 6 j := fun j => by rw [h3.2.2 j, h2.1 13 (by decide), h1.1 13 (by decide), h2.1 6 (by decide), h1.1 6 (by decide)]
  obtain ⟨a1, a2, a3, a4, a5, a6, a7, b1, b2, b3, b4, b5, b6⟩ := hr
  obtain ⟨k1, k2, k3, k4, k5, k6, k7, k8, k9⟩ := hk
  have r7 : ∀ p, (sBk r rk) 4 p = (if p < 4 then rk 4 p else r 4 p) ∧ (sBk r rk) 5 p = (if p < 4 then rk 5 p else r 5 p) ∧ (sBk r rk) 6 p = (if p < 4 then rk 6 p else r 6 p) ∧ (sBk r rk) 3 p = (if p < 4 then rk 3 p else r 3 p) := fun p => by simp [sBk]
  refine ⟨by rw [e0]; exact k4, ⟨fun j => ?_, fun j => ?_, fun j => ?_, fun p => ?_, fun p => ?_, fun p => ?_, fun p => ?_, ?_, ?_, ?_, ?_, ?_, ?_⟩, fun q hq => ?_, fun j hj => ?_⟩
  · simp only [mPut_rd, if_neg (show ¬ (4 : Nat) = 0 by decide)]
    rw [e4 j]
    by_cases q : j < 8
    · simp [sBk, q, k2 j q]
    · simp [sBk, q, a1 j]
  · simp only [mPut_rd, if_neg (show ¬ (5 : Nat) = 0 by decide)]
    rw [e5 j]
    by_cases q : j < 10
    · simp [sBk, q, (k3 j q).1]
    · simp [sBk, q, a2 j]
  · simp only [mPut_rd, if_neg (show ¬ (6 : Nat) = 0 by decide)]
    rw [e6 j]
    by_cases q : j < 10
    · simp [sBk, q, (k3 j q).2]
    · simp [sBk, q, a3 j]
  · simp only [mPut_rd, if_neg (show ¬ (7 : Nat) = 0 by decide)]
    rw [e7, (r7 p).1]
    by_cases q : p < 4
    · rw [if_pos (by omega), if_pos q]; exact (k1 p q).1
    · rw [if_neg (by omega), if_neg q]; exact a4 p
  · simp only [mPut_rd, if_neg (show ¬ (7 : Nat) = 0 by decide)]
    rw [e7, (r7 p).2.1]
    by_cases q : p < 4
    · rw [if_pos (by omega), if_pos q]; exact (k1 p q).2.1
    · rw [if_neg (by omega), if_neg q]; exact a5 p
  · simp only [mPut_rd, if_neg (show ¬ (7 : Nat) = 0 by decide)]
    rw [e7, (r7 p).2.2.1]
    by_cases q : p < 4
    · rw [if_pos (by omega), if_pos q]; exact (k1 p q).2.2.1
    · rw [if_neg (by omega), if_neg q]; exact a6 p
  · simp only [mPut_rd, if_neg (show ¬ (7 : Nat) = 0 by decide)]
    rw [e7, (r7 p).2.2.2]
    by_cases q : p < 4
    · rw [if_pos (by omega), if_pos q]; exact (k1 p q).2.2.2
    · rw [if_neg (by omega), if_neg q]; exact a7 p
  · simp [mPut_rd, e0, k7, sBk]
  · simp [mPut_rd, e0, k5, sBk]
  · simp [mPut_rd, e0, k6, sBk]
  · simp [mPut_rd, e0, k8, sBk]
  · simp [mPut_rd, e0, k4, sBk]
  · simp [mPut_rd, e0, k9, sBk]
  · rw [mPut_nq (by omega), mPut_nq (by omega), mPut_nq (by omega), mPut_nq (by omega), mPut_nq (by omega), mPut_nq (by omega), h3.1 q (by omega) (by omega), h2.1 q (by omega), h1.1 q (by omega)]
  · rw [mPut_nj (by omega), mPut_nj (by omega), mPut_nj (by omega), mPut_nj (by omega), mPut_nj (by omega), mPut_nj (by omega), e0]
set_option maxHeartbeats 4000000 in
set_option maxRecDepth 20000 in
theorem t_X6_person (l : Launch) (d : Nat) (x y : Int32) (z : xMem) (r : sR) (hr : RM z r) (h74 : r 7 4 ≤ 4) : XMi l (d + 1) yX6_person cX6_person 3 (some .int) shM [.ref 0, .int x, .int y] z (fun v z' => v = (sPerson r x y).1 ∧ RM z' (sPerson r x y).2 ∧ KW z z') := by
  refine XM.of (by decide) (Nat.le_of_ble_eq_true rfl) (fun xp xe xs xm xar xbl xme xc xD xcs xad xAA xCC xhr => ?_)
  generalize xhQ : MQ xbl _ xar xs 0 0 xAA = xQ
  show ww xp l xe (xRm (d + 1)) xs xm xar xbl xme xc 3 xD xcs xad shM xAA xQ 0 [(0, .ref 0), (1, .int x), (2, .int y)] [] z
  obtain ⟨p, hp⟩ : ∃ p, p = r 7 4 := ⟨_, rfl⟩
  have h15 : z.1 0 15 = nI p := by rw [hp]; exact hr.2.2.2.2.2.2.2.2.2.2.2.1
  refine ww_blk xCC okX6_person 0 4 (ps := []) (pc' := 6) (lv' := [(0, .ref 0), (1, .int x), (2, .int y)]) (st' := [.long 5, .long 0, .long x.toInt64]) (z' := z) rfl trivial ?_
  refine ww_callSNz xCC okX6_person 4 (ix := 82) (t_X6_in l d x.toInt64 0 5 x.toInt 0 5 (Int32.toInt_toInt64 _) rfl rfl  _) (by omega) (by decide) xyX6_in xiX6_in (Or.inl (lw_gt_of (List.mem_of_getElem? (i := 962) (by decide +kernel)) rfl)) rfl (rest := []) rfl (Nat.le_of_ble_eq_true rfl) rfl (fun z1 h2 => ?_) (fun z1 h2 => ?_)
  · skip
    have h2 : 0 ≤ x.toInt ∧ x.toInt ≤ 5 := h2
    obtain ⟨k, hk, rfl⟩ := sNN (x := x) (n := 6) (by omega) (by omega)
    refine ww_br xCC okX6_person 5 (P := 1 = 0) (t1 := 24) (t2 := 12) (r := []) rfl (fun q => absurd q (by decide)) (fun _ => ?_)
    refine ww_blk xCC okX6_person 6 4 (ps := []) (pc' := 18) (lv' := [(0, .ref 0), (1, .int (nI k)), (2, .int y)]) (st' := [.long 9, .long 0, .long y.toInt64]) (z' := z) rfl trivial ?_
    refine ww_callSNz xCC okX6_person 10 (ix := 82) (t_X6_in l d y.toInt64 0 9 y.toInt 0 9 (Int32.toInt_toInt64 _) rfl rfl  _) (by omega) (by decide) xyX6_in xiX6_in (Or.inl (lw_gt_of (List.mem_of_getElem? (i := 962) (by decide +kernel)) rfl)) rfl (rest := []) rfl (Nat.le_of_ble_eq_true rfl) rfl (fun z4 h5 => ?_) (fun z4 h5 => ?_)
    · skip
      have h5 : 0 ≤ y.toInt ∧ y.toInt ≤ 9 := h5
      obtain ⟨n, hn, rfl⟩ := sNN (x := y) (n := 10) (by omega) (by omega)
      refine ww_br xCC okX6_person 11 (P := 1 = 0) (t1 := 24) (t2 := 27) (r := []) rfl (fun q => absurd q (by decide)) (fun _ => ?_)
      refine ww_blk xCC okX6_person 14 3 (ps := []) (pc' := 32) (lv' := [(0, .ref 0), (1, .int (nI k)), (2, .int (nI n))]) (st' := [.int 4, .int (z.1 0 15)]) (z' := z) rfl trivial ?_
      rw [h15]
      refine ww_br xCC okX6_person 17 (P := (nI p) = 4) (t1 := 35) (t2 := 38) (r := []) rfl (fun c7 => ?_) (fun c7 => ?_)
      · skip
        replace c7 : p = 4 := (sEQ (a := p) (b := 4) (by omega) (by omega)).mp c7
        refine ww_blk xCC okX6_person 18 1 (ps := []) (pc' := 37) (lv' := [(0, .ref 0), (1, .int (nI k)), (2, .int (nI n))]) (st' := [.int (-4)]) (z' := z) rfl trivial ?_
        subst xhQ
        exact ww_iret xCC okX6_person 19 xhr rfl rfl ⟨_, rfl, (by rw [sPerson_f (by omega) (by omega) (by omega)]; exact ⟨rfl, hr, KW_rf z⟩)⟩
      · skip
        replace c7 : ¬ p = 4 := fun q => c7 ((sEQ (a := p) (b := 4) (by omega) (by omega)).mpr q)
        refine ww_blk xCC okX6_person 20 48 (ps := [vp_in (4 * (z.1 0 15)) 16, vp_in ((4 * (z.1 0 15)) + 1) 16, vp_in ((4 * (z.1 0 15)) + 2) 16, vp_in ((4 * (z.1 0 15)) + 3) 16]) (pc' := 108) (lv' := [(0, .ref 0), (1, .int (nI k)), (2, .int (nI n))]) (st' := [.int (((z.1 0 15) + 1) - 1)]) (z' := (mPut (mPut (mPut (mPut (mPut z 7 (4 * (z.1 0 15)).toNatClampNeg (nI n)) 7 ((4 * (z.1 0 15)) + 1).toNatClampNeg 0) 7 ((4 * (z.1 0 15)) + 2).toNatClampNeg 0) 7 ((4 * (z.1 0 15)) + 3).toNatClampNeg (nI k)) 0 15 ((z.1 0 15) + 1))) rfl ⟨(by rw [h15]; exact vp_4 (by omega)), (by rw [h15]; exact vp_41 (by omega)), (by rw [h15]; exact vp_42 (by omega)), (by rw [h15]; exact vp_43 (by omega))⟩ ?_
        rw [h15]
        rw [show nI p + (1 : Int32) = nI (p + 1) from nI_add p 1]
        rw [nI_pred p]
        rw [show (4 : Int32) * nI p = nI (4 * p) from pk_mul 4 p]
        rw [sCL (n := (4 * p)) (by omega)]
        rw [show nI (4 * p) + 1 = nI (4 * p + 1) from nI_add (4 * p) 1]
        rw [sCL (n := (4 * p + 1)) (by omega)]
        rw [show nI (4 * p) + 2 = nI (4 * p + 2) from nI_add (4 * p) 2]
        rw [sCL (n := (4 * p + 2)) (by omega)]
        rw [show nI (4 * p) + 3 = nI (4 * p + 3) from nI_add (4 * p) 3]
        rw [sCL (n := (4 * p + 3)) (by omega)]
        subst xhQ
        exact ww_iret xCC okX6_person 68 xhr rfl rfl ⟨_, rfl, (by rw [sPerson_y (by omega) (by omega) (by omega), ← hp]; exact ⟨rfl, RM_per hr hp, KW_per⟩)⟩
    · skip
      have h5 : ¬ (0 ≤ y.toInt ∧ y.toInt ≤ 9) := h5
      refine ww_br xCC okX6_person 11 (P := 0 = 0) (t1 := 24) (t2 := 27) (r := []) rfl (fun _ => ?_) (fun q => absurd (by decide) q)
      refine ww_blk xCC okX6_person 12 1 (ps := []) (pc' := 26) (lv' := [(0, .ref 0), (1, .int (nI k)), (2, .int y)]) (st' := [.int (-2)]) (z' := z) rfl trivial ?_
      subst xhQ
      exact ww_iret xCC okX6_person 13 xhr rfl rfl ⟨_, rfl, (by rw [sPerson_n (by omega)]; exact ⟨rfl, hr, KW_rf z⟩)⟩
  · skip
    have h2 : ¬ (0 ≤ x.toInt ∧ x.toInt ≤ 5) := h2
    refine ww_br xCC okX6_person 5 (P := 0 = 0) (t1 := 24) (t2 := 12) (r := []) rfl (fun _ => ?_) (fun q => absurd (by decide) q)
    refine ww_blk xCC okX6_person 12 1 (ps := []) (pc' := 26) (lv' := [(0, .ref 0), (1, .int x), (2, .int y)]) (st' := [.int (-2)]) (z' := z) rfl trivial ?_
    subst xhQ
    exact ww_iret xCC okX6_person 13 xhr rfl rfl ⟨_, rfl, (by rw [sPerson_n (by omega)]; exact ⟨rfl, hr, KW_rf z⟩)⟩

set_option maxHeartbeats 4000000 in
set_option maxRecDepth 20000 in
theorem t_X6_over (l : Launch) (d : Nat) (k : Nat) (hk : k < 6) (z : xMem) : XMi l d yX6_over cX6_over 1 (some .int) [] [.int (nI k)] z (fun v _ => v = cI (sOv k)) := by
  refine XM.of (by decide) (Nat.le_of_ble_eq_true rfl) (fun xp xe xs xm xar xbl xme xc xD xcs xad xAA xCC xhr => ?_)
  generalize xhQ : MQ xbl _ xar xs 0 0 xAA = xQ
  show ww xp l xe (xRm d) xs xm xar xbl xme xc 1 xD xcs xad [] xAA xQ 0 [(0, .int (nI k))] [] z
  refine ww_blk xCC okX6_over 0 1 (ps := []) (pc' := 1) (lv' := [(0, .int (nI k))]) (st' := [.int (nI k)]) (z' := z) rfl trivial ?_
  refine ww_br xCC okX6_over 1 (P := (nI k) = 0) (t1 := 4) (t2 := 8) (r := []) rfl (fun c1 => ?_) (fun c1 => ?_)
  · skip
    replace c1 : k = 0 := (sEQ (a := k) (b := 0) (by omega) (by omega)).mp c1
    refine ww_blk xCC okX6_over 2 2 (ps := []) (pc' := 27) (lv' := [(0, .int (nI k))]) (st' := [.int (-1)]) (z' := z) rfl trivial ?_
    subst xhQ
    exact ww_iret xCC okX6_over 15 xhr rfl rfl ⟨_, rfl, (by unfold sOv; first | (rw [if_pos (by omega)]; rfl) | (rw [if_neg (by omega), if_pos (by omega)]; rfl) | (rw [if_neg (by omega), if_neg (by omega), if_pos (by omega)]; rfl) | (rw [if_neg (by omega), if_neg (by omega), if_neg (by omega)]; rfl))⟩
  · skip
    replace c1 : ¬ k = 0 := fun q => c1 ((sEQ (a := k) (b := 0) (by omega) (by omega)).mpr q)
    refine ww_blk xCC okX6_over 4 2 (ps := []) (pc' := 10) (lv' := [(0, .int (nI k))]) (st' := [.int 3, .int (nI k)]) (z' := z) rfl trivial ?_
    refine ww_br xCC okX6_over 6 (P := (nI k) = 3) (t1 := 13) (t2 := 17) (r := []) rfl (fun c2 => ?_) (fun c2 => ?_)
    · skip
      replace c2 : k = 3 := (sEQ (a := k) (b := 3) (by omega) (by omega)).mp c2
      refine ww_blk xCC okX6_over 7 2 (ps := []) (pc' := 27) (lv' := [(0, .int (nI k))]) (st' := [.int 1]) (z' := z) rfl trivial ?_
      subst xhQ
      exact ww_iret xCC okX6_over 15 xhr rfl rfl ⟨_, rfl, (by unfold sOv; first | (rw [if_pos (by omega)]; rfl) | (rw [if_neg (by omega), if_pos (by omega)]; rfl) | (rw [if_neg (by omega), if_neg (by omega), if_pos (by omega)]; rfl) | (rw [if_neg (by omega), if_neg (by omega), if_neg (by omega)]; rfl))⟩
    · skip
      replace c2 : ¬ k = 3 := fun q => c2 ((sEQ (a := k) (b := 3) (by omega) (by omega)).mpr q)
      refine ww_blk xCC okX6_over 9 2 (ps := []) (pc' := 19) (lv' := [(0, .int (nI k))]) (st' := [.int 4, .int (nI k)]) (z' := z) rfl trivial ?_
      refine ww_br xCC okX6_over 11 (P := (nI k) = 4) (t1 := 22) (t2 := 26) (r := []) rfl (fun c3 => ?_) (fun c3 => ?_)
      · skip
        replace c3 : k = 4 := (sEQ (a := k) (b := 4) (by omega) (by omega)).mp c3
        refine ww_blk xCC okX6_over 12 2 (ps := []) (pc' := 27) (lv' := [(0, .int (nI k))]) (st' := [.int 2]) (z' := z) rfl trivial ?_
        subst xhQ
        exact ww_iret xCC okX6_over 15 xhr rfl rfl ⟨_, rfl, (by unfold sOv; first | (rw [if_pos (by omega)]; rfl) | (rw [if_neg (by omega), if_pos (by omega)]; rfl) | (rw [if_neg (by omega), if_neg (by omega), if_pos (by omega)]; rfl) | (rw [if_neg (by omega), if_neg (by omega), if_neg (by omega)]; rfl))⟩
      · skip
        replace c3 : ¬ k = 4 := fun q => c3 ((sEQ (a := k) (b := 4) (by omega) (by omega)).mpr q)
        refine ww_blk xCC okX6_over 14 1 (ps := []) (pc' := 27) (lv' := [(0, .int (nI k))]) (st' := [.int 0]) (z' := z) rfl trivial ?_
        subst xhQ
        exact ww_iret xCC okX6_over 15 xhr rfl rfl ⟨_, rfl, (by unfold sOv; first | (rw [if_pos (by omega)]; rfl) | (rw [if_neg (by omega), if_pos (by omega)]; rfl) | (rw [if_neg (by omega), if_neg (by omega), if_pos (by omega)]; rfl) | (rw [if_neg (by omega), if_neg (by omega), if_neg (by omega)]; rfl))⟩

set_option maxHeartbeats 4000000 in
set_option maxRecDepth 20000 in
theorem t_X6_taken (l : Launch) (d : Nat) (x y : Int32) (z : xMem) (r : sR) (cnt : Nat) (hr : RM z r) (hw : sW r cnt) : XMi l (d + 2) yX6_taken cX6_taken 4 (some .int) shM [.ref 0, .int x, .int y] z (fun v z' => v = sTaken r x y ∧ z' = z) := by
  refine XM.of (by decide) (Nat.le_of_ble_eq_true rfl) (fun xp xe xs xm xar xbl xme xc xD xcs xad xAA xCC xhr => ?_)
  generalize xhQ : MQ xbl _ xar xs 0 0 xAA = xQ
  show ww xp l xe (xRm (d + 2)) xs xm xar xbl xme xc 4 xD xcs xad shM xAA xQ 0 [(0, .ref 0), (1, .int x), (2, .int y)] [] z
  have hb := hw.1
  have h74 : r 7 4 ≤ 4 := hw.2.2.2.2.2.2.1
  refine ww_blk xCC okX6_taken 0 4 (ps := []) (pc' := 6) (lv' := [(0, .ref 0), (1, .int x), (2, .int y)]) (st' := [.long 5, .long 0, .long y.toInt64]) (z' := z) rfl trivial ?_
  refine ww_callSNz xCC okX6_taken 4 (ix := 82) (t_X6_in l d y.toInt64 0 5 y.toInt 0 5 (Int32.toInt_toInt64 _) rfl rfl  _) (by omega) (by decide) xyX6_in xiX6_in (Or.inl (lw_gt_of (List.mem_of_getElem? (i := 962) (by decide +kernel)) rfl)) rfl (rest := []) rfl (Nat.le_of_ble_eq_true rfl) rfl (fun z1 h2 => ?_) (fun z1 h2 => ?_)
  · skip
    have h2 : 0 ≤ y.toInt ∧ y.toInt ≤ 5 := h2
    obtain ⟨k, hk, rfl⟩ := sNN (x := y) (n := 6) (by omega) (by omega)
    refine ww_br xCC okX6_taken 5 (P := 1 = 0) (t1 := 12) (t2 := 15) (r := []) rfl (fun q => absurd q (by decide)) (fun _ => ?_)
    refine ww_blk xCC okX6_taken 8 2 (ps := []) (pc' := 17) (lv' := [(0, .ref 0), (1, .int x), (2, .int (nI k))]) (st' := [.int x, .ref 0]) (z' := z) rfl trivial ?_
    refine ww_callVIz xCC okX6_taken 10 (ix := 97) (t_X6_isOne l d x z (r 7 4) hr.2.2.2.2.2.2.2.2.2.2.2.1 h74) (by omega) (by decide) xyX6_isOne xiX6_isOne (Or.inl (lw_gt_of (List.mem_of_getElem? (i := 976) (by decide +kernel)) rfl)) rfl rfl rfl (rest := []) rfl (Nat.le_of_ble_eq_true rfl) rfl (fun zO hO => ?_) (fun zO hO => ?_)
    · skip
      rw [hO.2]
      obtain ⟨⟨hOa, hOb⟩, -⟩ := hO
      obtain ⟨p, hp, rfl⟩ := sNN (x := x) (n := r 7 4) hOa (by omega)
      have h3 := (hb p).2.2.2.1
      refine ww_br xCC okX6_taken 11 (P := 1 = 0) (t1 := 23) (t2 := 26) (r := []) rfl (fun q => absurd q (by decide)) (fun _ => ?_)
      refine ww_blk xCC okX6_taken 14 9 (ps := [vp_in ((4 * (nI p)) + 3) 16]) (pc' := 37) (lv' := [(3, .int (z.1 7 ((4 * (nI p)) + 3).toNatClampNeg)), (0, .ref 0), (1, .int (nI p)), (2, .int (nI k))]) (st' := []) (z' := z) rfl (vp_43 (by omega)) ?_
      rw [show (4 : Int32) * nI p = nI (4 * p) from pk_mul 4 p]
      rw [show nI (4 * p) + 3 = nI (4 * p + 3) from nI_add (4 * p) 3]
      rw [sCL (n := (4 * p + 3)) (by omega)]
      rw [hr.2.2.2.2.2.2.1 p]
      have L37 : ∀ (n37 : Nat) (a : Nat), sUm a < n37 → (sUx (r 3 p + 1) k = sUx a k) → (a < 7) → ww xp l xe (xRm (d + 2)) xs xm xar xbl xme xc 4 xD xcs xad shM xAA xQ 37 [(3, .int (cI a)), (0, .ref 0), (1, .int (nI p)), (2, .int (nI k))] [] z := by
        intro n37
        induction n37 with
        | zero =>
          intro a hmu37
          exact absurd hmu37 (Nat.not_lt_zero _)
        | succ n37 ih37 =>
          intro a hmu37 e37_0 e37_1
          refine ww_blk xCC okX6_taken 23 2 (ps := []) (pc' := 39) (lv' := [(3, .int (cI a)), (0, .ref 0), (1, .int (nI p)), (2, .int (nI k))]) (st' := [.int (-1), .int (cI a)]) (z' := z) rfl trivial ?_
          refine ww_br xCC okX6_taken 25 (P := (cI a) = (-1)) (t1 := 55) (t2 := 42) (r := []) rfl (fun c5 => ?_) (fun c5 => ?_)
          · skip
            have ha0 : a = 0 := cI_m (by omega) c5
            refine ww_blk xCC okX6_taken 33 2 (ps := []) (pc' := 57) (lv' := [(3, .int (cI a)), (0, .ref 0), (1, .int (nI p)), (2, .int (nI k))]) (st' := [.int (nI k), .int (cI a)]) (z' := z) rfl trivial ?_
            refine ww_br xCC okX6_taken 35 (P := (cI a) = (nI k)) (t1 := 60) (t2 := 71) (r := []) rfl (fun c6 => ?_) (fun c6 => ?_)
            · skip
              have hae := (cI_eq (m := a) (n := k) (by omega) (by omega)).mp c6.symm
              refine ww_blk xCC okX6_taken 36 7 (ps := [vp_in (4 * (nI p)) 16]) (pc' := 73) (lv' := [(3, .int (cI a)), (0, .ref 0), (1, .int (nI p)), (2, .int (nI k))]) (st' := [.int (z.1 7 (4 * (nI p)).toNatClampNeg)]) (z' := z) rfl (vp_4 (by omega)) ?_
              rw [show (4 : Int32) * nI p = nI (4 * p) from pk_mul 4 p]
              rw [sCL (n := (4 * p)) (by omega)]
              rw [hr.2.2.2.1 p]
              subst xhQ
              exact ww_iret xCC okX6_taken 44 xhr rfl rfl ⟨_, rfl, ⟨(by rw [sTaken_y hp (by omega) h74, if_pos (sUx_y hae e37_0)]), rfl⟩⟩
            · skip
              have hae := fun q => c6 ((cI_eq (m := a) (n := k) (by omega) (by omega)).mpr q).symm
              refine ww_blk xCC okX6_taken 43 1 (ps := []) (pc' := 73) (lv' := [(3, .int (cI a)), (0, .ref 0), (1, .int (nI p)), (2, .int (nI k))]) (st' := [.int (-13)]) (z' := z) rfl trivial ?_
              subst xhQ
              exact ww_iret xCC okX6_taken 44 xhr rfl rfl ⟨_, rfl, ⟨(by rw [sTaken_y hp (by omega) h74, if_neg (sUx_n (by omega) hae e37_0)]), rfl⟩⟩
          · skip
            have ha0 : ¬ a = 0 := cI_nm c5
            refine ww_blk xCC okX6_taken 26 2 (ps := []) (pc' := 44) (lv' := [(3, .int (cI a)), (0, .ref 0), (1, .int (nI p)), (2, .int (nI k))]) (st' := [.int (nI k), .int (cI a)]) (z' := z) rfl trivial ?_
            refine ww_br xCC okX6_taken 28 (P := (cI a) = (nI k)) (t1 := 55) (t2 := 47) (r := []) rfl (fun c7 => ?_) (fun c7 => ?_)
            · skip
              have hak := (cI_eq (m := a) (n := k) (by omega) (by omega)).mp c7.symm
              refine ww_blk xCC okX6_taken 33 2 (ps := []) (pc' := 57) (lv' := [(3, .int (cI a)), (0, .ref 0), (1, .int (nI p)), (2, .int (nI k))]) (st' := [.int (nI k), .int (cI a)]) (z' := z) rfl trivial ?_
              refine ww_br xCC okX6_taken 35 (P := (cI a) = (nI k)) (t1 := 60) (t2 := 71) (r := []) rfl (fun c8 => ?_) (fun c8 => ?_)
              · skip
                have hae := (cI_eq (m := a) (n := k) (by omega) (by omega)).mp c8.symm
                refine ww_blk xCC okX6_taken 36 7 (ps := [vp_in (4 * (nI p)) 16]) (pc' := 73) (lv' := [(3, .int (cI a)), (0, .ref 0), (1, .int (nI p)), (2, .int (nI k))]) (st' := [.int (z.1 7 (4 * (nI p)).toNatClampNeg)]) (z' := z) rfl (vp_4 (by omega)) ?_
                rw [show (4 : Int32) * nI p = nI (4 * p) from pk_mul 4 p]
                rw [sCL (n := (4 * p)) (by omega)]
                rw [hr.2.2.2.1 p]
                subst xhQ
                exact ww_iret xCC okX6_taken 44 xhr rfl rfl ⟨_, rfl, ⟨(by rw [sTaken_y hp (by omega) h74, if_pos (sUx_y hae e37_0)]), rfl⟩⟩
              · skip
                have hae := fun q => c8 ((cI_eq (m := a) (n := k) (by omega) (by omega)).mpr q).symm
                refine ww_blk xCC okX6_taken 43 1 (ps := []) (pc' := 73) (lv' := [(3, .int (cI a)), (0, .ref 0), (1, .int (nI p)), (2, .int (nI k))]) (st' := [.int (-13)]) (z' := z) rfl trivial ?_
                subst xhQ
                exact ww_iret xCC okX6_taken 44 xhr rfl rfl ⟨_, rfl, ⟨(by rw [sTaken_y hp (by omega) h74, if_neg (sUx_n (by omega) hae e37_0)]), rfl⟩⟩
            · skip
              have hak := fun q => c7 ((cI_eq (m := a) (n := k) (by omega) (by omega)).mpr q).symm
              obtain ⟨b, rfl⟩ : ∃ b, a = b + 1 := ⟨a - 1, by omega⟩
              rw [← cI_s b]
              refine ww_blk xCC okX6_taken 29 1 (ps := []) (pc' := 48) (lv' := [(3, .int (nI b)), (0, .ref 0), (1, .int (nI p)), (2, .int (nI k))]) (st' := [.int (nI b)]) (z' := z) rfl trivial ?_
              refine ww_callSNi xCC okX6_taken 30 (ix := 374) (t_X6_over l d b (by omega) _) (by omega) (by decide) xyX6_over xiX6_over (Or.inl (lw_gt_of (List.mem_of_getElem? (i := 1277) (by decide +kernel)) rfl)) rfl (rest := []) rfl (Nat.le_of_ble_eq_true rfl) rfl (fun v11 z9 h10 => ?_)
              subst h10
              refine ww_blk xCC okX6_taken 31 2 (ps := []) (pc' := 37) (lv' := [(3, .int (cI (sOv b))), (0, .ref 0), (1, .int (nI p)), (2, .int (nI k))]) (st' := []) (z' := z) rfl trivial ?_
              exact ww_cut [0, 1, 2, 3] (xlc rfl (xlc rfl (xlc rfl (xlc rfl rfl)))) rfl rfl (ih37 (sOv b) (by have := sUm_s (b + 1) (by omega) (by omega); rw [show b + 1 - 1 = b from rfl] at this; omega) (e37_0.trans (sUx_s (b + 1) (by omega) k (by omega) (by omega) (by omega))) (sOv_lt b (by omega)))
      exact ww_cut [0, 1, 2, 3] (xlc (congrArg Value.int (show (nI (r 3 p) : Int32) = cI (r 3 p + 1) from (cI_s _))) (xlc rfl (xlc rfl (xlc rfl rfl)))) rfl rfl (L37 (sUm (r 3 p + 1) + 1) (r 3 p + 1) (Nat.lt_succ_self _) (by unfold sUx; rfl) (by omega))
    · skip
      rw [hO.2]
      replace hO := hO.1
      refine ww_br xCC okX6_taken 11 (P := 0 = 0) (t1 := 23) (t2 := 26) (r := []) rfl (fun _ => ?_) (fun q => absurd (by decide) q)
      refine ww_blk xCC okX6_taken 12 1 (ps := []) (pc' := 25) (lv' := [(0, .ref 0), (1, .int x), (2, .int (nI k))]) (st' := [.int (-11)]) (z' := z) rfl trivial ?_
      subst xhQ
      exact ww_iret xCC okX6_taken 13 xhr rfl rfl ⟨_, rfl, ⟨(by unfold sTaken; rw [if_pos (by omega), if_neg (by omega)]), rfl⟩⟩
  · skip
    have h2 : ¬ (0 ≤ y.toInt ∧ y.toInt ≤ 5) := h2
    refine ww_br xCC okX6_taken 5 (P := 0 = 0) (t1 := 12) (t2 := 15) (r := []) rfl (fun _ => ?_) (fun q => absurd (by decide) q)
    refine ww_blk xCC okX6_taken 6 1 (ps := []) (pc' := 14) (lv' := [(0, .ref 0), (1, .int x), (2, .int y)]) (st' := [.int (-2)]) (z' := z) rfl trivial ?_
    subst xhQ
    exact ww_iret xCC okX6_taken 7 xhr rfl rfl ⟨_, rfl, ⟨(by unfold sTaken; rw [if_neg (by omega)]), rfl⟩⟩

set_option maxHeartbeats 4000000 in
set_option maxRecDepth 20000 in
theorem t_X6_count (l : Launch) (d : Nat) (w : Int32) (z : xMem) (r : sR) (cnt tn : Nat) (hr : RM z r) (h3 : z.1 0 3 = nI cnt) (h6 : z.1 0 6 = nI tn) (hb : ∀ j, r 0 j ≤ 9) : XMi l (d + 1) yX6_count cX6_count 2 (some .int) shM [.ref 0, .int w] z (fun v z' => v = sCount r cnt tn w ∧ z' = z) := by
  refine XM.of (by decide) (Nat.le_of_ble_eq_true rfl) (fun xp xe xs xm xar xbl xme xc xD xcs xad xAA xCC xhr => ?_)
  generalize xhQ : MQ xbl _ xar xs 0 0 xAA = xQ
  show ww xp l xe (xRm (d + 1)) xs xm xar xbl xme xc 2 xD xcs xad shM xAA xQ 0 [(0, .ref 0), (1, .int w)] [] z
  refine ww_blk xCC okX6_count 0 4 (ps := []) (pc' := 6) (lv' := [(0, .ref 0), (1, .int w)]) (st' := [.long 5, .long 0, .long w.toInt64]) (z' := z) rfl trivial ?_
  refine ww_callSNz xCC okX6_count 4 (ix := 82) (t_X6_in l d w.toInt64 0 5 w.toInt 0 5 (Int32.toInt_toInt64 _) rfl rfl  _) (by omega) (by decide) xyX6_in xiX6_in (Or.inl (lw_gt_of (List.mem_of_getElem? (i := 962) (by decide +kernel)) rfl)) rfl (rest := []) rfl (Nat.le_of_ble_eq_true rfl) rfl (fun z1 h2 => ?_) (fun z1 h2 => ?_)
  · skip
    have h2 : 0 ≤ w.toInt ∧ w.toInt ≤ 5 := h2
    obtain ⟨u, hu, rfl⟩ := sNN (x := w) (n := 6) (by omega) (by omega)
    refine ww_br xCC okX6_count 5 (P := 1 = 0) (t1 := 12) (t2 := 15) (r := []) rfl (fun q => absurd q (by decide)) (fun _ => ?_)
    refine ww_blk xCC okX6_count 8 1 (ps := []) (pc' := 16) (lv' := [(0, .ref 0), (1, .int (nI u))]) (st' := [.int (nI u)]) (z' := z) rfl trivial ?_
    refine ww_br xCC okX6_count 9 (P := (nI u) = 0) (t1 := 19) (t2 := 26) (r := []) rfl (fun c4 => ?_) (fun c4 => ?_)
    · skip
      replace c4 : u = 0 := (sEQ (a := u) (b := 0) (by omega) (by omega)).mp c4
      refine ww_blk xCC okX6_count 10 3 (ps := []) (pc' := 81) (lv' := [(0, .ref 0), (1, .int (nI u))]) (st' := [.int (z.1 0 15)]) (z' := z) rfl trivial ?_
      rw [hr.2.2.2.2.2.2.2.2.2.2.2.1]
      subst xhQ
      exact ww_iret xCC okX6_count 40 xhr rfl rfl ⟨_, rfl, ⟨(by rw [sCount_y (by omega)]; grind), rfl⟩⟩
    · skip
      replace c4 : ¬ u = 0 := fun q => c4 ((sEQ (a := u) (b := 0) (by omega) (by omega)).mpr q)
      refine ww_blk xCC okX6_count 13 2 (ps := []) (pc' := 28) (lv' := [(0, .ref 0), (1, .int (nI u))]) (st' := [.int 1, .int (nI u)]) (z' := z) rfl trivial ?_
      refine ww_br xCC okX6_count 15 (P := (nI u) = 1) (t1 := 31) (t2 := 41) (r := []) rfl (fun c5 => ?_) (fun c5 => ?_)
      · skip
        replace c5 : u = 1 := (sEQ (a := u) (b := 1) (by omega) (by omega)).mp c5
        refine ww_blk xCC okX6_count 16 1 (ps := []) (pc' := 32) (lv' := [(0, .ref 0), (1, .int (nI u))]) (st' := [.ref 0]) (z' := z) rfl trivial ?_
        refine ww_callVIi xCC okX6_count 17 (ix := 119) (t_X6_alive l d z (r 0) hr.1 (fun j => Nat.lt_of_le_of_lt (hb j) (by decide))) (by omega) (by decide) xyX6_alive xiX6_alive (Or.inl (lw_gt_of (List.mem_of_getElem? (i := 1007) (by decide +kernel)) rfl)) rfl rfl rfl (rest := []) rfl (Nat.le_of_ble_eq_true rfl) rfl (fun v8 z6 h7 => ?_)
        rw [h7.1, h7.2]
        refine ww_callSNi xCC okX6_count 18 (ix := 255) (t_X6_bitsOf l d (sAl (r 0) 8) (Nat.lt_of_lt_of_le (sAl_lt _ 8) (by decide)) _) (by omega) (by decide) xyX6_bitsOf xiX6_bitsOf (Or.inl (lw_gt_of (List.mem_of_getElem? (i := 1004) (by decide +kernel)) rfl)) rfl (rest := []) rfl (Nat.le_of_ble_eq_true rfl) rfl (fun v11 z9 h10 => ?_)
        rw [h10]
        refine ww_blk xCC okX6_count 19 1 (ps := []) (pc' := 81) (lv' := [(0, .ref 0), (1, .int (nI u))]) (st' := [.int (nI (sPop (sAl (r 0) 8)))]) (z' := z) rfl trivial ?_
        subst xhQ
        exact ww_iret xCC okX6_count 40 xhr rfl rfl ⟨_, rfl, ⟨(by rw [sCount_y (by omega)]; grind), rfl⟩⟩
      · skip
        replace c5 : ¬ u = 1 := fun q => c5 ((sEQ (a := u) (b := 1) (by omega) (by omega)).mpr q)
        refine ww_blk xCC okX6_count 20 2 (ps := []) (pc' := 43) (lv' := [(0, .ref 0), (1, .int (nI u))]) (st' := [.int 2, .int (nI u)]) (z' := z) rfl trivial ?_
        refine ww_br xCC okX6_count 22 (P := (nI u) = 2) (t1 := 46) (t2 := 53) (r := []) rfl (fun c12 => ?_) (fun c12 => ?_)
        · skip
          replace c12 : u = 2 := (sEQ (a := u) (b := 2) (by omega) (by omega)).mp c12
          refine ww_blk xCC okX6_count 23 3 (ps := []) (pc' := 81) (lv' := [(0, .ref 0), (1, .int (nI u))]) (st' := [.int (z.1 0 8)]) (z' := z) rfl trivial ?_
          rw [hr.2.2.2.2.2.2.2.2.2.1]
          subst xhQ
          exact ww_iret xCC okX6_count 40 xhr rfl rfl ⟨_, rfl, ⟨(by rw [sCount_y (by omega)]; grind), rfl⟩⟩
        · skip
          replace c12 : ¬ u = 2 := fun q => c12 ((sEQ (a := u) (b := 2) (by omega) (by omega)).mpr q)
          refine ww_blk xCC okX6_count 26 2 (ps := []) (pc' := 55) (lv' := [(0, .ref 0), (1, .int (nI u))]) (st' := [.int 3, .int (nI u)]) (z' := z) rfl trivial ?_
          refine ww_br xCC okX6_count 28 (P := (nI u) = 3) (t1 := 58) (t2 := 65) (r := []) rfl (fun c13 => ?_) (fun c13 => ?_)
          · skip
            replace c13 : u = 3 := (sEQ (a := u) (b := 3) (by omega) (by omega)).mp c13
            refine ww_blk xCC okX6_count 29 3 (ps := []) (pc' := 81) (lv' := [(0, .ref 0), (1, .int (nI u))]) (st' := [.int (z.1 0 3)]) (z' := z) rfl trivial ?_
            rw [h3]
            subst xhQ
            exact ww_iret xCC okX6_count 40 xhr rfl rfl ⟨_, rfl, ⟨(by rw [sCount_y (by omega)]; grind), rfl⟩⟩
          · skip
            replace c13 : ¬ u = 3 := fun q => c13 ((sEQ (a := u) (b := 3) (by omega) (by omega)).mpr q)
            refine ww_blk xCC okX6_count 32 2 (ps := []) (pc' := 67) (lv' := [(0, .ref 0), (1, .int (nI u))]) (st' := [.int 4, .int (nI u)]) (z' := z) rfl trivial ?_
            refine ww_br xCC okX6_count 34 (P := (nI u) = 4) (t1 := 70) (t2 := 77) (r := []) rfl (fun c14 => ?_) (fun c14 => ?_)
            · skip
              replace c14 : u = 4 := (sEQ (a := u) (b := 4) (by omega) (by omega)).mp c14
              refine ww_blk xCC okX6_count 35 3 (ps := []) (pc' := 81) (lv' := [(0, .ref 0), (1, .int (nI u))]) (st' := [.int (z.1 0 6)]) (z' := z) rfl trivial ?_
              rw [h6]
              subst xhQ
              exact ww_iret xCC okX6_count 40 xhr rfl rfl ⟨_, rfl, ⟨(by rw [sCount_y (by omega)]; grind), rfl⟩⟩
            · skip
              replace c14 : ¬ u = 4 := fun q => c14 ((sEQ (a := u) (b := 4) (by omega) (by omega)).mpr q)
              refine ww_blk xCC okX6_count 38 2 (ps := []) (pc' := 81) (lv' := [(0, .ref 0), (1, .int (nI u))]) (st' := [.int (z.1 0 4)]) (z' := z) rfl trivial ?_
              rw [hr.2.2.2.2.2.2.2.2.2.2.2.2]
              subst xhQ
              exact ww_iret xCC okX6_count 40 xhr rfl rfl ⟨_, rfl, ⟨(by rw [sCount_y (by omega)]; grind), rfl⟩⟩
  · skip
    have h2 : ¬ (0 ≤ w.toInt ∧ w.toInt ≤ 5) := h2
    refine ww_br xCC okX6_count 5 (P := 0 = 0) (t1 := 12) (t2 := 15) (r := []) rfl (fun _ => ?_) (fun q => absurd (by decide) q)
    refine ww_blk xCC okX6_count 6 1 (ps := []) (pc' := 14) (lv' := [(0, .ref 0), (1, .int w)]) (st' := [.int (-2)]) (z' := z) rfl trivial ?_
    subst xhQ
    exact ww_iret xCC okX6_count 7 xhr rfl rfl ⟨_, rfl, ⟨(by unfold sCount; rw [if_neg (by omega)]), rfl⟩⟩

set_option maxHeartbeats 4000000 in
set_option maxRecDepth 20000 in
theorem t_X6_image (l : Launch) (d : Nat) (z : xMem) (r : sR) (hr : RM z r) : XMi l d yX6_image cX6_image 2 (some .int) shM [.ref 0] z (fun v z' => v = nI (r 7 4) ∧ KpR z' r ∧ KI z z') := by
  refine XM.of (by decide) (Nat.le_of_ble_eq_true rfl) (fun xp xe xs xm xar xbl xme xc xD xcs xad xAA xCC xhr => ?_)
  generalize xhQ : MQ xbl _ xar xs 0 0 xAA = xQ
  show ww xp l xe (xRm d) xs xm xar xbl xme xc 2 xD xcs xad shM xAA xQ 0 [(0, .ref 0)] [] z
  refine ww_blk xCC okX6_image 0 2 (ps := []) (pc' := 2) (lv' := [(1, .int 0), (0, .ref 0)]) (st' := []) (z' := z) rfl trivial ?_
  have L2 : ∀ (n2 : Nat) (i2 : Nat) (z1 : xMem), 16 - i2 < n2 → (i2 ≤ 16) → (CP z z1 7 10 i2) → ww xp l xe (xRm d) xs xm xar xbl xme xc 2 xD xcs xad shM xAA xQ 2 [(1, .int (nI i2)), (0, .ref 0)] [] z1 := by
    intro n2
    induction n2 with
    | zero =>
      intro i2 z1 hmu2
      exact absurd hmu2 (Nat.not_lt_zero _)
    | succ n2 ih2 =>
      intro i2 z1 hmu2 e2_0 e2_1
      refine ww_blk xCC okX6_image 2 2 (ps := []) (pc' := 5) (lv' := [(1, .int (nI i2)), (0, .ref 0)]) (st' := [.int 16, .int (nI i2)]) (z' := z1) rfl trivial ?_
      refine ww_br xCC okX6_image 4 (P := 16 ≤ (nI i2)) (t1 := 26) (t2 := 8) (r := []) rfl (fun c1 => ?_) (fun c1 => ?_)
      · skip
        replace c1 : 16 ≤ i2 := (sLE (a := 16) (b := i2) (by omega) (by omega)).mp c1
        refine ww_blk xCC okX6_image 15 2 (ps := []) (pc' := 28) (lv' := [(1, .int 0), (0, .ref 0)]) (st' := []) (z' := z1) rfl trivial ?_
        have L28 : ∀ (n28 : Nat) (i28 : Nat) (z2 : xMem), 8 - i28 < n28 → (i28 ≤ 8) → (CP z1 z2 4 11 i28) → ww xp l xe (xRm d) xs xm xar xbl xme xc 2 xD xcs xad shM xAA xQ 28 [(1, .int (nI i28)), (0, .ref 0)] [] z2 := by
          intro n28
          induction n28 with
          | zero =>
            intro i28 z2 hmu28
            exact absurd hmu28 (Nat.not_lt_zero _)
          | succ n28 ih28 =>
            intro i28 z2 hmu28 e28_0 e28_1
            refine ww_blk xCC okX6_image 17 2 (ps := []) (pc' := 31) (lv' := [(1, .int (nI i28)), (0, .ref 0)]) (st' := [.int 8, .int (nI i28)]) (z' := z2) rfl trivial ?_
            refine ww_br xCC okX6_image 19 (P := 8 ≤ (nI i28)) (t1 := 52) (t2 := 34) (r := []) rfl (fun c2 => ?_) (fun c2 => ?_)
            · skip
              replace c2 : 8 ≤ i28 := (sLE (a := 8) (b := i28) (by omega) (by omega)).mp c2
              refine ww_blk xCC okX6_image 30 2 (ps := []) (pc' := 54) (lv' := [(1, .int 0), (0, .ref 0)]) (st' := []) (z' := z2) rfl trivial ?_
              have L54 : ∀ (n54 : Nat) (i54 : Nat) (z3 : xMem), 10 - i54 < n54 → (i54 ≤ 10) → (CQ z2 z3 5 12 6 13 i54) → ww xp l xe (xRm d) xs xm xar xbl xme xc 2 xD xcs xad shM xAA xQ 54 [(1, .int (nI i54)), (0, .ref 0)] [] z3 := by
                intro n54
                induction n54 with
                | zero =>
                  intro i54 z3 hmu54
                  exact absurd hmu54 (Nat.not_lt_zero _)
                | succ n54 ih54 =>
                  intro i54 z3 hmu54 e54_0 e54_1
                  refine ww_blk xCC okX6_image 32 2 (ps := []) (pc' := 57) (lv' := [(1, .int (nI i54)), (0, .ref 0)]) (st' := [.int 10, .int (nI i54)]) (z' := z3) rfl trivial ?_
                  refine ww_br xCC okX6_image 34 (P := 10 ≤ (nI i54)) (t1 := 90) (t2 := 60) (r := []) rfl (fun c3 => ?_) (fun c3 => ?_)
                  · skip
                    replace c3 : 10 ≤ i54 := (sLE (a := 10) (b := i54) (by omega) (by omega)).mp c3
                    refine ww_blk xCC okX6_image 53 26 (ps := []) (pc' := 142) (lv' := [(1, .int (nI i54)), (0, .ref 0)]) (st' := [.int (z3.1 0 15)]) (z' := (mPut (mPut (mPut (mPut (mPut (mPut z3 0 40 (z3.1 0 15)) 0 41 (z3.1 0 7)) 0 42 (z3.1 0 8)) 0 43 (z3.1 0 9)) 0 44 (z3.1 0 10)) 0 45 (z3.1 0 4))) rfl trivial ?_
                    subst xhQ
                    exact ww_iret xCC okX6_image 79 xhr rfl rfl ⟨_, rfl, (im_of hr e2_1 (by omega) e28_1 (by omega) e54_1 (by omega))⟩
                  · skip
                    replace c3 : ¬ 10 ≤ i54 := fun q => c3 ((sLE (a := 10) (b := i54) (by omega) (by omega)).mpr q)
                    refine ww_blk xCC okX6_image 35 18 (ps := [vp_in (nI i54) 10, vp_in (nI i54) 10, vp_in (nI i54) 10, vp_in (nI i54) 10]) (pc' := 54) (lv' := [(1, .int ((nI i54) + 1)), (0, .ref 0)]) (st' := []) (z' := (mPut (mPut z3 12 (nI i54).toNatClampNeg (z3.1 5 (nI i54).toNatClampNeg)) 13 (nI i54).toNatClampNeg (z3.1 6 (nI i54).toNatClampNeg))) rfl ⟨(vp_in_nI (by omega) (by decide)), (vp_in_nI (by omega) (by decide)), (vp_in_nI (by omega) (by decide)), (vp_in_nI (by omega) (by decide))⟩ ?_
                    rw [show nI i54 + (1 : Int32) = nI (i54 + 1) from nI_add i54 1]
                    rw [sCL (n := i54) (by omega)]
                    exact ww_cut [0, 1] (xlc rfl (xlc rfl rfl)) rfl rfl (ih54 (i54 + 1) (mPut (mPut z3 12 i54 (z3.1 5 i54)) 13 i54 (z3.1 6 i54)) (by omega) (by omega) (CQ_1 (by decide) e54_1))
              exact ww_cut [0, 1] (xlc (congrArg Value.int (show (0 : Int32) = nI 0 from rfl)) (xlc rfl rfl)) rfl rfl (L54 (10 - 0 + 1) 0 z2 (Nat.lt_succ_self _) (by omega) (CQ_0 _ _ _ _ _))
            · skip
              replace c2 : ¬ 8 ≤ i28 := fun q => c2 ((sLE (a := 8) (b := i28) (by omega) (by omega)).mpr q)
              refine ww_blk xCC okX6_image 20 10 (ps := [vp_in (nI i28) 8, vp_in (nI i28) 8]) (pc' := 28) (lv' := [(1, .int ((nI i28) + 1)), (0, .ref 0)]) (st' := []) (z' := (mPut z2 11 (nI i28).toNatClampNeg (z2.1 4 (nI i28).toNatClampNeg))) rfl ⟨(vp_in_nI (by omega) (by decide)), (vp_in_nI (by omega) (by decide))⟩ ?_
              rw [show nI i28 + (1 : Int32) = nI (i28 + 1) from nI_add i28 1]
              rw [sCL (n := i28) (by omega)]
              exact ww_cut [0, 1] (xlc rfl (xlc rfl rfl)) rfl rfl (ih28 (i28 + 1) (mPut z2 11 i28 (z2.1 4 i28)) (by omega) (by omega) (CP_1 (by decide) e28_1))
        exact ww_cut [0, 1] (xlc (congrArg Value.int (show (0 : Int32) = nI 0 from rfl)) (xlc rfl rfl)) rfl rfl (L28 (8 - 0 + 1) 0 z1 (Nat.lt_succ_self _) (by omega) (CP_0 _ _))
      · skip
        replace c1 : ¬ 16 ≤ i2 := fun q => c1 ((sLE (a := 16) (b := i2) (by omega) (by omega)).mpr q)
        refine ww_blk xCC okX6_image 5 10 (ps := [vp_in (nI i2) 16, vp_in (nI i2) 16]) (pc' := 2) (lv' := [(1, .int ((nI i2) + 1)), (0, .ref 0)]) (st' := []) (z' := (mPut z1 10 (nI i2).toNatClampNeg (z1.1 7 (nI i2).toNatClampNeg))) rfl ⟨(vp_in_nI (by omega) (by decide)), (vp_in_nI (by omega) (by decide))⟩ ?_
        rw [show nI i2 + (1 : Int32) = nI (i2 + 1) from nI_add i2 1]
        rw [sCL (n := i2) (by omega)]
        exact ww_cut [0, 1] (xlc rfl (xlc rfl rfl)) rfl rfl (ih2 (i2 + 1) (mPut z1 10 i2 (z1.1 7 i2)) (by omega) (by omega) (CP_1 (by decide) e2_1))
  exact ww_cut [0, 1] (xlc (congrArg Value.int (show (0 : Int32) = nI 0 from rfl)) (xlc rfl rfl)) rfl rfl (L2 (16 - 0 + 1) 0 z (Nat.lt_succ_self _) (by omega) (CP_0 _ _))

set_option maxHeartbeats 4000000 in
set_option maxRecDepth 20000 in
theorem t_X6_back (l : Launch) (d : Nat) (z : xMem) (r rk : sR) (kk : Nat) (hr : RM z r) (hk : KP z kk rk) : XMi l d yX6_back cX6_back 2 (some .int) shM [.ref 0] z (fun v z' => (kk = 0 ∧ v = -3 ∧ z' = z) ∨ (kk = 1 ∧ v = nI (rk 7 4) ∧ RM z' (sBk r rk) ∧ KW z z')) := by
  refine XM.of (by decide) (Nat.le_of_ble_eq_true rfl) (fun xp xe xs xm xar xbl xme xc xD xcs xad xAA xCC xhr => ?_)
  generalize xhQ : MQ xbl _ xar xs 0 0 xAA = xQ
  show ww xp l xe (xRm d) xs xm xar xbl xme xc 2 xD xcs xad shM xAA xQ 0 [(0, .ref 0)] [] z
  refine ww_blk xCC okX6_back 0 3 (ps := []) (pc' := 5) (lv' := [(0, .ref 0)]) (st' := [.int (-1), .int (z.1 0 40)]) (z' := z) rfl trivial ?_
  refine ww_br xCC okX6_back 3 (P := (z.1 0 40) = (-1)) (t1 := 8) (t2 := 11) (r := []) rfl (fun c1 => ?_) (fun c1 => ?_)
  · skip
    have hk0 := KP_0 hk c1
    refine ww_blk xCC okX6_back 4 1 (ps := []) (pc' := 10) (lv' := [(0, .ref 0)]) (st' := [.int (-3)]) (z' := z) rfl trivial ?_
    subst xhQ
    exact ww_iret xCC okX6_back 5 xhr rfl rfl ⟨_, rfl, (Or.inl ⟨hk0, rfl, rfl⟩)⟩
  · skip
    have hk1 := KP_1 hk c1
    refine ww_blk xCC okX6_back 6 2 (ps := []) (pc' := 13) (lv' := [(1, .int 0), (0, .ref 0)]) (st' := []) (z' := z) rfl trivial ?_
    have L13 : ∀ (n13 : Nat) (i13 : Nat) (z1 : xMem), 16 - i13 < n13 → (i13 ≤ 16) → (CP z z1 10 7 i13) → ww xp l xe (xRm d) xs xm xar xbl xme xc 2 xD xcs xad shM xAA xQ 13 [(1, .int (nI i13)), (0, .ref 0)] [] z1 := by
      intro n13
      induction n13 with
      | zero =>
        intro i13 z1 hmu13
        exact absurd hmu13 (Nat.not_lt_zero _)
      | succ n13 ih13 =>
        intro i13 z1 hmu13 e13_0 e13_1
        refine ww_blk xCC okX6_back 8 2 (ps := []) (pc' := 16) (lv' := [(1, .int (nI i13)), (0, .ref 0)]) (st' := [.int 16, .int (nI i13)]) (z' := z1) rfl trivial ?_
        refine ww_br xCC okX6_back 10 (P := 16 ≤ (nI i13)) (t1 := 37) (t2 := 19) (r := []) rfl (fun c2 => ?_) (fun c2 => ?_)
        · skip
          replace c2 : 16 ≤ i13 := (sLE (a := 16) (b := i13) (by omega) (by omega)).mp c2
          refine ww_blk xCC okX6_back 21 2 (ps := []) (pc' := 39) (lv' := [(1, .int 0), (0, .ref 0)]) (st' := []) (z' := z1) rfl trivial ?_
          have L39 : ∀ (n39 : Nat) (i39 : Nat) (z2 : xMem), 8 - i39 < n39 → (i39 ≤ 8) → (CP z1 z2 11 4 i39) → ww xp l xe (xRm d) xs xm xar xbl xme xc 2 xD xcs xad shM xAA xQ 39 [(1, .int (nI i39)), (0, .ref 0)] [] z2 := by
            intro n39
            induction n39 with
            | zero =>
              intro i39 z2 hmu39
              exact absurd hmu39 (Nat.not_lt_zero _)
            | succ n39 ih39 =>
              intro i39 z2 hmu39 e39_0 e39_1
              refine ww_blk xCC okX6_back 23 2 (ps := []) (pc' := 42) (lv' := [(1, .int (nI i39)), (0, .ref 0)]) (st' := [.int 8, .int (nI i39)]) (z' := z2) rfl trivial ?_
              refine ww_br xCC okX6_back 25 (P := 8 ≤ (nI i39)) (t1 := 63) (t2 := 45) (r := []) rfl (fun c3 => ?_) (fun c3 => ?_)
              · skip
                replace c3 : 8 ≤ i39 := (sLE (a := 8) (b := i39) (by omega) (by omega)).mp c3
                refine ww_blk xCC okX6_back 36 2 (ps := []) (pc' := 65) (lv' := [(1, .int 0), (0, .ref 0)]) (st' := []) (z' := z2) rfl trivial ?_
                have L65 : ∀ (n65 : Nat) (i65 : Nat) (z3 : xMem), 10 - i65 < n65 → (i65 ≤ 10) → (CQ z2 z3 12 5 13 6 i65) → ww xp l xe (xRm d) xs xm xar xbl xme xc 2 xD xcs xad shM xAA xQ 65 [(1, .int (nI i65)), (0, .ref 0)] [] z3 := by
                  intro n65
                  induction n65 with
                  | zero =>
                    intro i65 z3 hmu65
                    exact absurd hmu65 (Nat.not_lt_zero _)
                  | succ n65 ih65 =>
                    intro i65 z3 hmu65 e65_0 e65_1
                    refine ww_blk xCC okX6_back 38 2 (ps := []) (pc' := 68) (lv' := [(1, .int (nI i65)), (0, .ref 0)]) (st' := [.int 10, .int (nI i65)]) (z' := z3) rfl trivial ?_
                    refine ww_br xCC okX6_back 40 (P := 10 ≤ (nI i65)) (t1 := 101) (t2 := 71) (r := []) rfl (fun c4 => ?_) (fun c4 => ?_)
                    · skip
                      replace c4 : 10 ≤ i65 := (sLE (a := 10) (b := i65) (by omega) (by omega)).mp c4
                      refine ww_blk xCC okX6_back 59 26 (ps := []) (pc' := 153) (lv' := [(1, .int (nI i65)), (0, .ref 0)]) (st' := [.int (z3.1 0 40)]) (z' := (mPut (mPut (mPut (mPut (mPut (mPut z3 0 15 (z3.1 0 40)) 0 7 (z3.1 0 41)) 0 8 (z3.1 0 42)) 0 9 (z3.1 0 43)) 0 10 (z3.1 0 44)) 0 4 (z3.1 0 45))) rfl trivial ?_
                      subst xhQ
                      exact ww_iret xCC okX6_back 85 xhr rfl rfl ⟨_, rfl, (Or.inr ⟨hk1.1, bk_of hr hk1.2 e13_1 (by omega) e39_1 (by omega) e65_1 (by omega)⟩)⟩
                    · skip
                      replace c4 : ¬ 10 ≤ i65 := fun q => c4 ((sLE (a := 10) (b := i65) (by omega) (by omega)).mpr q)
                      refine ww_blk xCC okX6_back 41 18 (ps := [vp_in (nI i65) 10, vp_in (nI i65) 10, vp_in (nI i65) 10, vp_in (nI i65) 10]) (pc' := 65) (lv' := [(1, .int ((nI i65) + 1)), (0, .ref 0)]) (st' := []) (z' := (mPut (mPut z3 5 (nI i65).toNatClampNeg (z3.1 12 (nI i65).toNatClampNeg)) 6 (nI i65).toNatClampNeg (z3.1 13 (nI i65).toNatClampNeg))) rfl ⟨(vp_in_nI (by omega) (by decide)), (vp_in_nI (by omega) (by decide)), (vp_in_nI (by omega) (by decide)), (vp_in_nI (by omega) (by decide))⟩ ?_
                      rw [show nI i65 + (1 : Int32) = nI (i65 + 1) from nI_add i65 1]
                      rw [sCL (n := i65) (by omega)]
                      exact ww_cut [0, 1] (xlc rfl (xlc rfl rfl)) rfl rfl (ih65 (i65 + 1) (mPut (mPut z3 5 i65 (z3.1 12 i65)) 6 i65 (z3.1 13 i65)) (by omega) (by omega) (CQ_1 (by decide) e65_1))
                exact ww_cut [0, 1] (xlc (congrArg Value.int (show (0 : Int32) = nI 0 from rfl)) (xlc rfl rfl)) rfl rfl (L65 (10 - 0 + 1) 0 z2 (Nat.lt_succ_self _) (by omega) (CQ_0 _ _ _ _ _))
              · skip
                replace c3 : ¬ 8 ≤ i39 := fun q => c3 ((sLE (a := 8) (b := i39) (by omega) (by omega)).mpr q)
                refine ww_blk xCC okX6_back 26 10 (ps := [vp_in (nI i39) 8, vp_in (nI i39) 8]) (pc' := 39) (lv' := [(1, .int ((nI i39) + 1)), (0, .ref 0)]) (st' := []) (z' := (mPut z2 4 (nI i39).toNatClampNeg (z2.1 11 (nI i39).toNatClampNeg))) rfl ⟨(vp_in_nI (by omega) (by decide)), (vp_in_nI (by omega) (by decide))⟩ ?_
                rw [show nI i39 + (1 : Int32) = nI (i39 + 1) from nI_add i39 1]
                rw [sCL (n := i39) (by omega)]
                exact ww_cut [0, 1] (xlc rfl (xlc rfl rfl)) rfl rfl (ih39 (i39 + 1) (mPut z2 4 i39 (z2.1 11 i39)) (by omega) (by omega) (CP_1 (by decide) e39_1))
          exact ww_cut [0, 1] (xlc (congrArg Value.int (show (0 : Int32) = nI 0 from rfl)) (xlc rfl rfl)) rfl rfl (L39 (8 - 0 + 1) 0 z1 (Nat.lt_succ_self _) (by omega) (CP_0 _ _))
        · skip
          replace c2 : ¬ 16 ≤ i13 := fun q => c2 ((sLE (a := 16) (b := i13) (by omega) (by omega)).mpr q)
          refine ww_blk xCC okX6_back 11 10 (ps := [vp_in (nI i13) 16, vp_in (nI i13) 16]) (pc' := 13) (lv' := [(1, .int ((nI i13) + 1)), (0, .ref 0)]) (st' := []) (z' := (mPut z1 7 (nI i13).toNatClampNeg (z1.1 10 (nI i13).toNatClampNeg))) rfl ⟨(vp_in_nI (by omega) (by decide)), (vp_in_nI (by omega) (by decide))⟩ ?_
          rw [show nI i13 + (1 : Int32) = nI (i13 + 1) from nI_add i13 1]
          rw [sCL (n := i13) (by omega)]
          exact ww_cut [0, 1] (xlc rfl (xlc rfl rfl)) rfl rfl (ih13 (i13 + 1) (mPut z1 7 i13 (z1.1 10 i13)) (by omega) (by omega) (CP_1 (by decide) e13_1))
    exact ww_cut [0, 1] (xlc (congrArg Value.int (show (0 : Int32) = nI 0 from rfl)) (xlc rfl rfl)) rfl rfl (L13 (16 - 0 + 1) 0 z (Nat.lt_succ_self _) (by omega) (CP_0 _ _))
