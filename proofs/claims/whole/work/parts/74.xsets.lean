/-! the class's sets of deeds; values laid; a republic taken over; what is told -/
theorem sUn_k {r : sR} {m i : Nat} (h : m.testBit i = false) : nI (sUn r m i) = nI (sUn r m (i + 1)) := by rw [sUn, if_neg (by rw [h]; decide), Nat.or_zero]
theorem sHm_k {r : sR} {m i : Nat} (h : m.testBit i = false) : nI (sHm r m i) = nI (sHm r m (i + 1)) := by rw [sHm, if_neg (by rw [h]; decide), Nat.add_zero]
theorem sLs_le (r : sR) (a : Nat) : ∀ e, sLs r a e ≤ 1000
  | 0 => Nat.le_refl _
  | e + 1 => by
    have h := sLs_le r a e
    rw [sLs]
    split <;> omega
theorem sLs_sk {r : sR} {a e : Nat} (h : (r 1 e).testBit a = false) : nI (sLs r a e) = nI (sLs r a (e + 1)) := by rw [sLs_n rfl (Or.inl h)]
theorem sLs_min {r : sR} {a e : Nat} (h : (r 1 e).testBit a = true) (h1 : sLs r a e < 2 ^ 31) (h2 : r 2 e < 2 ^ 31) : (if nI (r 2 e) < nI (sLs r a e) then nI (r 2 e) else nI (sLs r a e)) = nI (sLs r a (e + 1)) := by
  by_cases q : r 2 e < sLs r a e
  · rw [if_pos ((sLT h2 h1).mpr q), sLs_y rfl h q]
  · rw [if_neg (fun w => q ((sLT h2 h1).mp w)), sLs_n rfl (Or.inr q)]
/-- nothing outside the rows -/
def sZ (r : sR) : Prop := ∀ j, (8 ≤ j → r 0 j = 0) ∧ (10 ≤ j → r 1 j = 0 ∧ r 2 j = 0) ∧ (4 ≤ j → r 3 j = 0 ∧ r 4 j = 0 ∧ r 5 j = 0 ∧ r 6 j = 0)
theorem mCpy_rd (z : xMem) (q0 q1 n : Nat) (k : Int32) (hk : k.toNatClampNeg = n) (q j : Nat) : (mCpy z q0 q1 0 0 k).1 q j = if q = q1 then (if j < n then z.1 q0 j else z.1 q1 j) else z.1 q j := by
  show (xUp z.1 q1 (va_cpy (z.1 q0) (z.1 q1) (0 : Int32).toNatClampNeg (0 : Int32).toNatClampNeg k.toNatClampNeg)) q j = _
  rw [hk, show (0 : Int32).toNatClampNeg = 0 from rfl]
  by_cases h : q = q1
  · subst h
    rw [xUp_eq, if_pos rfl]
    by_cases h2 : j < n
    · rw [if_pos h2, pk_cpy_in (by omega) (by omega)]
      show z.1 q0 (0 + (j - 0)) = z.1 q0 j
      rw [Nat.zero_add, Nat.sub_zero]
    · rw [if_neg h2, pk_cpy_out (by omega)]
  · rw [xUp_ne h, if_neg h]
theorem RX_pull {z : xMem} {es : List Nat} {b : Nat} {r : sR} (h : ∀ k, k < 8 → xEs es (0 + k) = b + k) (hr : RX z b r) : RX (xPull es z) 0 r := RX_of (fun k hk => congrArg z.1 (h k hk)) hr
theorem TX_pull {z : xMem} {es : List Nat} {t cnt : Nat} {tc : Nat → sTc} (h : ∀ k, k < 15 → xEs es (8 + k) = t + k) (ht : TX z t cnt tc) : TX (xPull es z) 8 cnt tc := TX_of (fun k hk => congrArg z.1 (h k hk)) ht
theorem xBack_at {es : List Nat} {rw : Bool} {z zn : xMem} {q i : Nat} (h : xIx es q 0 = some i) : (xBack es rw z zn).1 q = zn.1 i := by
  simp only [xBack, h]
theorem xBack_no {es : List Nat} {rw : Bool} {z zn : xMem} {q : Nat} (h : xIx es q 0 = none) : (xBack es rw z zn).1 q = z.1 q := by
  simp only [xBack, h]
theorem xBack_keep {es : List Nat} {rw : Bool} {z zn : xMem} {q : Nat} (hk : ∀ i, xIx es q 0 = some i → zn.1 i = (xPull es z).1 i) : (xBack es rw z zn).1 q = z.1 q := by
  cases h : xIx es q 0 with
  | none => exact xBack_no h
  | some i =>
    rw [xBack_at h, hk i h]
    show z.1 (xEs es i) = z.1 q
    have e := (xIx_some es i 0 q h).2
    rw [Nat.sub_zero] at e
    rw [xEs_at e]
theorem RX_back {es : List Nat} {rw : Bool} {z zn : xMem} {b : Nat} {r : sR} (h : ∀ k, k < 8 → xIx es (b + k) 0 = some (0 + k)) (hr : RX zn 0 r) : RX (xBack es rw z zn) b r := RX_of (fun k hk => xBack_at (h k hk)) hr
def esRS : List Nat := [0, 1, 2, 3, 4, 5, 6, 7, 8, 9, 10, 11, 12, 13, 14, 15, 16, 17, 18, 19, 20, 21, 22, 23]
theorem KN_back {rw : Bool} {z zn : xMem} (h : KN (xPull esRS z) zn) : KN z (xBack esRS rw z zn) := by
  intro q hq
  refine xBack_keep (fun i hi => h i (fun e => hq ?_))
  have := (xIx_some esRS i 0 q hi).2
  rw [e] at this
  exact (Option.some.inj this).symm
theorem RX_p1 {z : xMem} {r : sR} {o v : Nat} (hr : RX z 0 r) : RX (mPut z 0 4 (nI v)) 0 (sLay r 1 o v) := by
  have e0 : sLay r 1 o v 0 = r 0 := by funext j; simp [sLay]
  obtain ⟨a1, a2, a3, a4, a5, a6, a7, c1, c2, c3, c4, c5, c6, c7⟩ := hr
  refine ⟨fun j => ?_, fun j => ?_, fun j => ?_, fun j => ?_, fun j => ?_, fun j => ?_, fun j => ?_, ?_, ?_, ?_, ?_, ?_, ?_, ?_⟩
  all_goals simp only [Nat.zero_add] at a1 a2 a3 a4 a5 a6 a7 ⊢
  · simp [mPut_rd, sLay, a1]
  · simp [mPut_rd, sLay, a2]
  · simp [mPut_rd, sLay, a3]
  · simp [mPut_rd, sLay, a4]
  · simp [mPut_rd, sLay, a5]
  · simp [mPut_rd, sLay, a6]
  · simp [mPut_rd, sLay, a7]
  · rw [e0]; simp [mPut_rd, c1]
  · simp [mPut_rd, sLay, c2]
  · simp [mPut_rd, sLay, c3]
  · simp [mPut_rd, sLay, c4]
  · simp [mPut_rd, sLay, c5]
  · simp [mPut_rd, sLay, c6]
  · simp [mPut_rd, sLay, c7]
theorem RX_p2 {z : xMem} {r : sR} {o v : Nat} (hr : RX z 0 r) : RX (mPut z 0 5 (nI v)) 0 (sLay r 2 o v) := by
  have e0 : sLay r 2 o v 0 = r 0 := by funext j; simp [sLay]
  obtain ⟨a1, a2, a3, a4, a5, a6, a7, c1, c2, c3, c4, c5, c6, c7⟩ := hr
  refine ⟨fun j => ?_, fun j => ?_, fun j => ?_, fun j => ?_, fun j => ?_, fun j => ?_, fun j => ?_, ?_, ?_, ?_, ?_, ?_, ?_, ?_⟩
  all_goals simp only [Nat.zero_add] at a1 a2 a3 a4 a5 a6 a7 ⊢
  · simp [mPut_rd, sLay, a1]
  · simp [mPut_rd, sLay, a2]
  · simp [mPut_rd, sLay, a3]
  · simp [mPut_rd, sLay, a4]
  · simp [mPut_rd, sLay, a5]
  · simp [mPut_rd, sLay, a6]
  · simp [mPut_rd, sLay, a7]
  · rw [e0]; simp [mPut_rd, c1]
  · simp [mPut_rd, sLay, c2]
  · simp [mPut_rd, sLay, c3]
  · simp [mPut_rd, sLay, c4]
  · simp [mPut_rd, sLay, c5]
  · simp [mPut_rd, sLay, c6]
  · simp [mPut_rd, sLay, c7]
theorem RX_p3 {z : xMem} {r : sR} {o v : Nat} (hr : RX z 0 r) : RX (mPut z 2 o (nI v)) 0 (sLay r 3 o v) := by
  have e0 : sLay r 3 o v 0 = r 0 := by funext j; simp [sLay]
  obtain ⟨a1, a2, a3, a4, a5, a6, a7, c1, c2, c3, c4, c5, c6, c7⟩ := hr
  refine ⟨fun j => ?_, fun j => ?_, fun j => ?_, fun j => ?_, fun j => ?_, fun j => ?_, fun j => ?_, ?_, ?_, ?_, ?_, ?_, ?_, ?_⟩
  all_goals simp only [Nat.zero_add] at a1 a2 a3 a4 a5 a6 a7 ⊢
  · simp [mPut_rd, sLay, a1]
  · by_cases q : j = o <;> simp [mPut_rd, sLay, a2, q]
  · simp [mPut_rd, sLay, a3]
  · simp [mPut_rd, sLay, a4]
  · simp [mPut_rd, sLay, a5]
  · simp [mPut_rd, sLay, a6]
  · simp [mPut_rd, sLay, a7]
  · rw [e0]; simp [mPut_rd, c1]
  · simp [mPut_rd, sLay, c2]
  · simp [mPut_rd, sLay, c3]
  · simp [mPut_rd, sLay, c4]
  · simp [mPut_rd, sLay, c5]
  · simp [mPut_rd, sLay, c6]
  · simp [mPut_rd, sLay, c7]
theorem RX_p4 {z : xMem} {r : sR} {o v : Nat} (hr : RX z 0 r) : RX (mPut z 3 o (nI v)) 0 (sLay r 4 o v) := by
  have e0 : sLay r 4 o v 0 = r 0 := by funext j; simp [sLay]
  obtain ⟨a1, a2, a3, a4, a5, a6, a7, c1, c2, c3, c4, c5, c6, c7⟩ := hr
  refine ⟨fun j => ?_, fun j => ?_, fun j => ?_, fun j => ?_, fun j => ?_, fun j => ?_, fun j => ?_, ?_, ?_, ?_, ?_, ?_, ?_, ?_⟩
  all_goals simp only [Nat.zero_add] at a1 a2 a3 a4 a5 a6 a7 ⊢
  · simp [mPut_rd, sLay, a1]
  · simp [mPut_rd, sLay, a2]
  · by_cases q : j = o <;> simp [mPut_rd, sLay, a3, q]
  · simp [mPut_rd, sLay, a4]
  · simp [mPut_rd, sLay, a5]
  · simp [mPut_rd, sLay, a6]
  · simp [mPut_rd, sLay, a7]
  · rw [e0]; simp [mPut_rd, c1]
  · simp [mPut_rd, sLay, c2]
  · simp [mPut_rd, sLay, c3]
  · simp [mPut_rd, sLay, c4]
  · simp [mPut_rd, sLay, c5]
  · simp [mPut_rd, sLay, c6]
  · simp [mPut_rd, sLay, c7]
theorem RX_p5 {z : xMem} {r : sR} {o v : Nat} (hr : RX z 0 r) : RX (mPut z 5 o (nI v)) 0 (sLay r 5 o v) := by
  have e0 : sLay r 5 o v 0 = r 0 := by funext j; simp [sLay]
  obtain ⟨a1, a2, a3, a4, a5, a6, a7, c1, c2, c3, c4, c5, c6, c7⟩ := hr
  refine ⟨fun j => ?_, fun j => ?_, fun j => ?_, fun j => ?_, fun j => ?_, fun j => ?_, fun j => ?_, ?_, ?_, ?_, ?_, ?_, ?_, ?_⟩
  all_goals simp only [Nat.zero_add] at a1 a2 a3 a4 a5 a6 a7 ⊢
  · simp [mPut_rd, sLay, a1]
  · simp [mPut_rd, sLay, a2]
  · simp [mPut_rd, sLay, a3]
  · simp [mPut_rd, sLay, a4]
  · by_cases q : j = o <;> simp [mPut_rd, sLay, a5, q]
  · simp [mPut_rd, sLay, a6]
  · simp [mPut_rd, sLay, a7]
  · rw [e0]; simp [mPut_rd, c1]
  · simp [mPut_rd, sLay, c2]
  · simp [mPut_rd, sLay, c3]
  · simp [mPut_rd, sLay, c4]
  · simp [mPut_rd, sLay, c5]
  · simp [mPut_rd, sLay, c6]
  · simp [mPut_rd, sLay, c7]
theorem RX_p6 {z : xMem} {r : sR} {o v : Nat} (hr : RX z 0 r) : RX (mPut z 6 o (nI v)) 0 (sLay r 6 o v) := by
  have e0 : sLay r 6 o v 0 = r 0 := by funext j; simp [sLay]
  obtain ⟨a1, a2, a3, a4, a5, a6, a7, c1, c2, c3, c4, c5, c6, c7⟩ := hr
  refine ⟨fun j => ?_, fun j => ?_, fun j => ?_, fun j => ?_, fun j => ?_, fun j => ?_, fun j => ?_, ?_, ?_, ?_, ?_, ?_, ?_, ?_⟩
  all_goals simp only [Nat.zero_add] at a1 a2 a3 a4 a5 a6 a7 ⊢
  · simp [mPut_rd, sLay, a1]
  · simp [mPut_rd, sLay, a2]
  · simp [mPut_rd, sLay, a3]
  · simp [mPut_rd, sLay, a4]
  · simp [mPut_rd, sLay, a5]
  · by_cases q : j = o <;> simp [mPut_rd, sLay, a6, q]
  · simp [mPut_rd, sLay, a7]
  · rw [e0]; simp [mPut_rd, c1]
  · simp [mPut_rd, sLay, c2]
  · simp [mPut_rd, sLay, c3]
  · simp [mPut_rd, sLay, c4]
  · simp [mPut_rd, sLay, c5]
  · simp [mPut_rd, sLay, c6]
  · simp [mPut_rd, sLay, c7]
theorem RX_p7 {z : xMem} {r : sR} {o v : Nat} (hr : RX z 0 r) : RX (mPut z 7 o (nI v)) 0 (sLay r 7 o v) := by
  have e0 : sLay r 7 o v 0 = r 0 := by funext j; simp [sLay]
  obtain ⟨a1, a2, a3, a4, a5, a6, a7, c1, c2, c3, c4, c5, c6, c7⟩ := hr
  refine ⟨fun j => ?_, fun j => ?_, fun j => ?_, fun j => ?_, fun j => ?_, fun j => ?_, fun j => ?_, ?_, ?_, ?_, ?_, ?_, ?_, ?_⟩
  all_goals simp only [Nat.zero_add] at a1 a2 a3 a4 a5 a6 a7 ⊢
  · simp [mPut_rd, sLay, a1]
  · simp [mPut_rd, sLay, a2]
  · simp [mPut_rd, sLay, a3]
  · simp [mPut_rd, sLay, a4]
  · simp [mPut_rd, sLay, a5]
  · simp [mPut_rd, sLay, a6]
  · by_cases q : j = o <;> simp [mPut_rd, sLay, a7, q]
  · rw [e0]; simp [mPut_rd, c1]
  · simp [mPut_rd, sLay, c2]
  · simp [mPut_rd, sLay, c3]
  · simp [mPut_rd, sLay, c4]
  · simp [mPut_rd, sLay, c5]
  · simp [mPut_rd, sLay, c6]
  · simp [mPut_rd, sLay, c7]
theorem RX_p8 {z : xMem} {r : sR} {o v : Nat} (hr : RX z 0 r) : RX (mPut z 4 o (nI v)) 0 (sLay r 8 o v) := by
  have e0 : sLay r 8 o v 0 = r 0 := by funext j; simp [sLay]
  obtain ⟨a1, a2, a3, a4, a5, a6, a7, c1, c2, c3, c4, c5, c6, c7⟩ := hr
  refine ⟨fun j => ?_, fun j => ?_, fun j => ?_, fun j => ?_, fun j => ?_, fun j => ?_, fun j => ?_, ?_, ?_, ?_, ?_, ?_, ?_, ?_⟩
  all_goals simp only [Nat.zero_add] at a1 a2 a3 a4 a5 a6 a7 ⊢
  · simp [mPut_rd, sLay, a1]
  · simp [mPut_rd, sLay, a2]
  · simp [mPut_rd, sLay, a3]
  · by_cases q : j = o <;> simp [mPut_rd, sLay, a4, q]
  · simp [mPut_rd, sLay, a5]
  · simp [mPut_rd, sLay, a6]
  · simp [mPut_rd, sLay, a7]
  · rw [e0]; simp [mPut_rd, c1]
  · simp [mPut_rd, sLay, c2]
  · simp [mPut_rd, sLay, c3]
  · simp [mPut_rd, sLay, c4]
  · simp [mPut_rd, sLay, c5]
  · simp [mPut_rd, sLay, c6]
  · simp [mPut_rd, sLay, c7]
theorem RX_p9 {z : xMem} {r : sR} {o v : Nat} (hr : RX z 0 r) : RX (mPut z 0 14 (nI v)) 0 (sLay r 9 o v) := by
  have e0 : sLay r 9 o v 0 = r 0 := by funext j; simp [sLay]
  obtain ⟨a1, a2, a3, a4, a5, a6, a7, c1, c2, c3, c4, c5, c6, c7⟩ := hr
  refine ⟨fun j => ?_, fun j => ?_, fun j => ?_, fun j => ?_, fun j => ?_, fun j => ?_, fun j => ?_, ?_, ?_, ?_, ?_, ?_, ?_, ?_⟩
  all_goals simp only [Nat.zero_add] at a1 a2 a3 a4 a5 a6 a7 ⊢
  · simp [mPut_rd, sLay, a1]
  · simp [mPut_rd, sLay, a2]
  · simp [mPut_rd, sLay, a3]
  · simp [mPut_rd, sLay, a4]
  · simp [mPut_rd, sLay, a5]
  · simp [mPut_rd, sLay, a6]
  · simp [mPut_rd, sLay, a7]
  · rw [e0]; simp [mPut_rd, c1]
  · simp [mPut_rd, sLay, c2]
  · simp [mPut_rd, sLay, c3]
  · simp [mPut_rd, sLay, c4]
  · simp [mPut_rd, sLay, c5]
  · simp [mPut_rd, sLay, c6]
  · simp [mPut_rd, sLay, c7]
theorem RX_per {z : xMem} {r : sR} {p k n : Nat} (hr : RX z 0 r) (hp : p = r 7 4) : RX (mPut (mPut (mPut (mPut (mPut z 4 p (nI k)) 5 p (nI n)) 6 p 0) 7 p 0) 0 9 (nI (p + 1))) 0 (sPer r p k n) := by
  clear hp
  have e0 : sPer r p k n 0 = r 0 := by funext j; simp [sPer]
  obtain ⟨a1, a2, a3, a4, a5, a6, a7, c1, c2, c3, c4, c5, c6, c7⟩ := hr
  refine ⟨fun j => ?_, fun j => ?_, fun j => ?_, fun j => ?_, fun j => ?_, fun j => ?_, fun j => ?_, ?_, ?_, ?_, ?_, ?_, ?_, ?_⟩
  all_goals simp only [Nat.zero_add] at a1 a2 a3 a4 a5 a6 a7 ⊢
  · simp [mPut_rd, sPer, a1]
  · simp [mPut_rd, sPer, a2]
  · simp [mPut_rd, sPer, a3]
  · by_cases q : j = p <;> simp [mPut_rd, sPer, a4, q]
  · by_cases q : j = p <;> simp [mPut_rd, sPer, a5, q]
  · by_cases q : j = p <;> simp [mPut_rd, sPer, a6, q, nI_0]
  · by_cases q : j = p <;> simp [mPut_rd, sPer, a7, q, nI_0]
  · rw [e0]; simp [mPut_rd, c1]
  · simp [mPut_rd, sPer, c2]
  · simp [mPut_rd, sPer, c3]
  · simp [mPut_rd, sPer, c4]
  · simp [mPut_rd, sPer, c5]
  · simp [mPut_rd, sPer, c6]
  · simp [mPut_rd, sPer, c7]
theorem tk_of {z : xMem} {r1 r2 : sR} (h1 : RX z 0 r1) (h2 : RX z 8 r2) (hz1 : sZ r1) (hz2 : sZ r2) : RX (mPut (mCpy (mCpy (mCpy (mCpy (mPut (mCpy (mCpy (mPut (mPut (mPut (mPut (mPut (mCpy z 9 1 0 0 8) 0 2 (z.1 8 2)) 0 3 (z.1 8 3)) 0 4 (z.1 8 4)) 0 5 (z.1 8 5)) 0 6 (z.1 8 6)) 10 2 0 0 10) 11 3 0 0 10) 0 9 (z.1 8 9)) 12 4 0 0 4) 13 5 0 0 4) 14 6 0 0 4) 15 7 0 0 4) 0 14 (z.1 8 14)) 0 r2 ∧ ∀ q, 8 ≤ q → ((mPut (mCpy (mCpy (mCpy (mCpy (mPut (mCpy (mCpy (mPut (mPut (mPut (mPut (mPut (mCpy z 9 1 0 0 8) 0 2 (z.1 8 2)) 0 3 (z.1 8 3)) 0 4 (z.1 8 4)) 0 5 (z.1 8 5)) 0 6 (z.1 8 6)) 10 2 0 0 10) 11 3 0 0 10) 0 9 (z.1 8 9)) 12 4 0 0 4) 13 5 0 0 4) 14 6 0 0 4) 15 7 0 0 4) 0 14 (z.1 8 14)) : xMem).1 q = z.1 q := by
  obtain ⟨a1, a2, a3, a4, a5, a6, a7, -⟩ := h1
  obtain ⟨b1, b2, b3, b4, b5, b6, b7, c1, c2, c3, c4, c5, c6, c7⟩ := h2
  have k8 := fun z q0 q1 q j => mCpy_rd z q0 q1 8 8 rfl q j
  have k10 := fun z q0 q1 q j => mCpy_rd z q0 q1 10 10 rfl q j
  have k4 := fun z q0 q1 q j => mCpy_rd z q0 q1 4 4 rfl q j
  simp only [Nat.zero_add, Nat.reduceAdd] at a1 a2 a3 a4 a5 a6 a7 b1 b2 b3 b4 b5 b6 b7
  refine ⟨⟨fun j => ?_, fun j => ?_, fun j => ?_, fun j => ?_, fun j => ?_, fun j => ?_, fun j => ?_, ?_, ?_, ?_, ?_, ?_, ?_, ?_⟩, fun q hq => ?_⟩
  · by_cases h : j < 8
    · simp [mPut_rd, k8, k10, k4, h, b1]
    · simp [mPut_rd, k8, k10, k4, h, a1, (hz1 j).1 (by omega), (hz2 j).1 (by omega)]
  · by_cases h : j < 10
    · simp [mPut_rd, k8, k10, k4, h, b2]
    · simp [mPut_rd, k8, k10, k4, h, a2, (hz1 j).2.1 (by omega), (hz2 j).2.1 (by omega)]
  · by_cases h : j < 10
    · simp [mPut_rd, k8, k10, k4, h, b3]
    · simp [mPut_rd, k8, k10, k4, h, a3, (hz1 j).2.1 (by omega), (hz2 j).2.1 (by omega)]
  · by_cases h : j < 4
    · simp [mPut_rd, k8, k10, k4, h, b4]
    · simp [mPut_rd, k8, k10, k4, h, a4, (hz1 j).2.2 (by omega), (hz2 j).2.2 (by omega)]
  · by_cases h : j < 4
    · simp [mPut_rd, k8, k10, k4, h, b5]
    · simp [mPut_rd, k8, k10, k4, h, a5, (hz1 j).2.2 (by omega), (hz2 j).2.2 (by omega)]
  · by_cases h : j < 4
    · simp [mPut_rd, k8, k10, k4, h, b6]
    · simp [mPut_rd, k8, k10, k4, h, a6, (hz1 j).2.2 (by omega), (hz2 j).2.2 (by omega)]
  · by_cases h : j < 4
    · simp [mPut_rd, k8, k10, k4, h, b7]
    · simp [mPut_rd, k8, k10, k4, h, a7, (hz1 j).2.2 (by omega), (hz2 j).2.2 (by omega)]
  · simp [mPut_rd, k8, k10, k4, c1]
  · simp [mPut_rd, k8, k10, k4, c2]
  · simp [mPut_rd, k8, k10, k4, c3]
  · simp [mPut_rd, k8, k10, k4, c4]
  · simp [mPut_rd, k8, k10, k4, c5]
  · simp [mPut_rd, k8, k10, k4, c6]
  · simp [mPut_rd, k8, k10, k4, c7]
  · have n0 : ¬ q = 0 := by omega
    have n1 : ¬ q = 1 := by omega
    have n2 : ¬ q = 2 := by omega
    have n3 : ¬ q = 3 := by omega
    have n4 : ¬ q = 4 := by omega
    have n5 : ¬ q = 5 := by omega
    have n6 : ¬ q = 6 := by omega
    have n7 : ¬ q = 7 := by omega
    funext j
    simp [mPut_rd, k8, k10, k4, n0, n1, n2, n3, n4, n5, n6, n7]
set_option maxHeartbeats 4000000 in
set_option maxRecDepth 20000 in
theorem t_X0_harmOf (l : Launch) (d : Nat) (m : Nat) (z : xMem) (r : sR) (hr : RX z 0 r) (hm : m < 1024) : XMi l d yX0_harmOf cX0_harmOf 4 (some .int) shR [.ref 0, .int (nI m)] z (fun v z' => v = nI (sHm r m 10) ∧ z' = z) := by
  refine XM.of (by decide) (Nat.le_of_ble_eq_true rfl) (fun xp xe xs xm xar xbl xme xc xD xcs xad xAA xCC xhr => ?_)
  generalize xhQ : MQ xbl _ xar xs 0 0 xAA = xQ
  show ww xp l xe (xRm d) xs xm xar xbl xme xc 4 xD xcs xad shR xAA xQ 0 [(0, .ref 0), (1, .int (nI m))] [] z
  refine ww_blk xCC okX0_harmOf 0 4 (ps := []) (pc' := 4) (lv' := [(3, .int 0), (2, .int 0), (0, .ref 0), (1, .int (nI m))]) (st' := []) (z' := z) rfl trivial ?_
  have L4 : ∀ (n4 : Nat) (i : Nat), 10 - i < n4 → (i ≤ 10) → ww xp l xe (xRm d) xs xm xar xbl xme xc 4 xD xcs xad shR xAA xQ 4 [(3, .int (nI i)), (2, .int (nI (sHm r m i))), (0, .ref 0), (1, .int (nI m))] [] z := by
    intro n4
    induction n4 with
    | zero =>
      intro i hmu4
      exact absurd hmu4 (Nat.not_lt_zero _)
    | succ n4 ih4 =>
      intro i hmu4 e4_0
      refine ww_blk xCC okX0_harmOf 4 2 (ps := []) (pc' := 7) (lv' := [(3, .int (nI i)), (2, .int (nI (sHm r m i))), (0, .ref 0), (1, .int (nI m))]) (st' := [.int 10, .int (nI i)]) (z' := z) rfl trivial ?_
      refine ww_br xCC okX0_harmOf 6 (P := 10 ≤ (nI i)) (t1 := 33) (t2 := 10) (r := []) rfl (fun c1 => ?_) (fun c1 => ?_)
      · skip
        replace c1 : 10 ≤ i := (sLE (a := 10) (b := i) (by omega) (by omega)).mp c1
        refine ww_blk xCC okX0_harmOf 22 1 (ps := []) (pc' := 34) (lv' := [(3, .int (nI i)), (2, .int (nI (sHm r m i))), (0, .ref 0), (1, .int (nI m))]) (st' := [.int (nI (sHm r m i))]) (z' := z) rfl trivial ?_
        subst xhQ
        exact ww_iret xCC okX0_harmOf 23 xhr rfl rfl ⟨_, rfl, ⟨(by rw [show i = 10 by omega]), rfl⟩⟩
      · skip
        replace c1 : ¬ 10 ≤ i := fun q => c1 ((sLE (a := 10) (b := i) (by omega) (by omega)).mpr q)
        refine ww_blk xCC okX0_harmOf 7 5 (ps := []) (pc' := 15) (lv' := [(3, .int (nI i)), (2, .int (nI (sHm r m i))), (0, .ref 0), (1, .int (nI m))]) (st' := [.int ((nI m) &&& (1 <<< ((nI i) &&& 31)))]) (z' := z) rfl trivial ?_
        refine ww_br xCC okX0_harmOf 12 (P := ((nI m) &&& (1 <<< ((nI i) &&& 31))) = 0) (t1 := 27) (t2 := 18) (r := []) rfl (fun c2 => ?_) (fun c2 => ?_)
        · skip
          have h15 : (m).testBit i = false := (sAnd1 i (by omega) m hm).mp c2
          refine ww_blk xCC okX0_harmOf 20 2 (ps := []) (pc' := 4) (lv' := [(3, .int ((nI i) + 1)), (2, .int (nI (sHm r m i))), (0, .ref 0), (1, .int (nI m))]) (st' := []) (z' := z) rfl trivial ?_
          rw [show nI i + (1 : Int32) = nI (i + 1) from nI_add i 1]
          exact ww_cut [0, 1, 2, 3] (xlc rfl (xlc (congrArg Value.int (show (nI (sHm r m i) : Int32) = nI (sHm r m (i + 1)) from (sHm_k h15))) (xlc rfl (xlc rfl rfl)))) rfl rfl (ih4 (i + 1) (by omega) (by omega))
        · skip
          have h15 : (m).testBit i = true := (Bool.eq_false_or_eq_true _).resolve_right (fun q => c2 ((sAnd1 i (by omega) m hm).mpr q))
          refine ww_blk xCC okX0_harmOf 13 9 (ps := [vp_in (nI i) 10]) (pc' := 4) (lv' := [(3, .int ((nI i) + 1)), (2, .int ((nI (sHm r m i)) + (z.1 3 (nI i).toNatClampNeg))), (0, .ref 0), (1, .int (nI m))]) (st' := []) (z' := z) rfl (vp_in_nI (by omega) (by decide)) ?_
          rw [show nI i + (1 : Int32) = nI (i + 1) from nI_add i 1]
          rw [sCL (n := i) (by omega)]
          rw [show z.1 3 i = nI (r 2 i) from hr.2.2.1 i]
          exact ww_cut [0, 1, 2, 3] (xlc rfl (xlc (congrArg Value.int (show ((nI (sHm r m i)) + (nI (r 2 i)) : Int32) = nI (sHm r m (i + 1)) from (sHm_y h15))) (xlc rfl (xlc rfl rfl)))) rfl rfl (ih4 (i + 1) (by omega) (by omega))
  exact ww_cut [0, 1, 2, 3] (xlc (congrArg Value.int (show (0 : Int32) = nI 0 from rfl)) (xlc (congrArg Value.int (show (0 : Int32) = nI (sHm r m 0) from rfl)) (xlc rfl (xlc rfl rfl)))) rfl rfl (L4 (10 - 0 + 1) 0 (Nat.lt_succ_self _) (by omega))

set_option maxHeartbeats 4000000 in
set_option maxRecDepth 20000 in
theorem t_X0_brokenBy (l : Launch) (d : Nat) (m : Nat) (z : xMem) (r : sR) (hr : RX z 0 r) (hm : m < 1024) : XMi l d yX0_brokenBy cX0_brokenBy 4 (some .int) shR [.ref 0, .int (nI m)] z (fun v z' => v = nI (sUn r m 10) ∧ z' = z) := by
  refine XM.of (by decide) (Nat.le_of_ble_eq_true rfl) (fun xp xe xs xm xar xbl xme xc xD xcs xad xAA xCC xhr => ?_)
  generalize xhQ : MQ xbl _ xar xs 0 0 xAA = xQ
  show ww xp l xe (xRm d) xs xm xar xbl xme xc 4 xD xcs xad shR xAA xQ 0 [(0, .ref 0), (1, .int (nI m))] [] z
  refine ww_blk xCC okX0_brokenBy 0 4 (ps := []) (pc' := 4) (lv' := [(3, .int 0), (2, .int 0), (0, .ref 0), (1, .int (nI m))]) (st' := []) (z' := z) rfl trivial ?_
  have L4 : ∀ (n4 : Nat) (i : Nat), 10 - i < n4 → (i ≤ 10) → ww xp l xe (xRm d) xs xm xar xbl xme xc 4 xD xcs xad shR xAA xQ 4 [(3, .int (nI i)), (2, .int (nI (sUn r m i))), (0, .ref 0), (1, .int (nI m))] [] z := by
    intro n4
    induction n4 with
    | zero =>
      intro i hmu4
      exact absurd hmu4 (Nat.not_lt_zero _)
    | succ n4 ih4 =>
      intro i hmu4 e4_0
      refine ww_blk xCC okX0_brokenBy 4 2 (ps := []) (pc' := 7) (lv' := [(3, .int (nI i)), (2, .int (nI (sUn r m i))), (0, .ref 0), (1, .int (nI m))]) (st' := [.int 10, .int (nI i)]) (z' := z) rfl trivial ?_
      refine ww_br xCC okX0_brokenBy 6 (P := 10 ≤ (nI i)) (t1 := 33) (t2 := 10) (r := []) rfl (fun c1 => ?_) (fun c1 => ?_)
      · skip
        replace c1 : 10 ≤ i := (sLE (a := 10) (b := i) (by omega) (by omega)).mp c1
        refine ww_blk xCC okX0_brokenBy 22 1 (ps := []) (pc' := 34) (lv' := [(3, .int (nI i)), (2, .int (nI (sUn r m i))), (0, .ref 0), (1, .int (nI m))]) (st' := [.int (nI (sUn r m i))]) (z' := z) rfl trivial ?_
        subst xhQ
        exact ww_iret xCC okX0_brokenBy 23 xhr rfl rfl ⟨_, rfl, ⟨(by rw [show i = 10 by omega]), rfl⟩⟩
      · skip
        replace c1 : ¬ 10 ≤ i := fun q => c1 ((sLE (a := 10) (b := i) (by omega) (by omega)).mpr q)
        refine ww_blk xCC okX0_brokenBy 7 5 (ps := []) (pc' := 15) (lv' := [(3, .int (nI i)), (2, .int (nI (sUn r m i))), (0, .ref 0), (1, .int (nI m))]) (st' := [.int ((nI m) &&& (1 <<< ((nI i) &&& 31)))]) (z' := z) rfl trivial ?_
        refine ww_br xCC okX0_brokenBy 12 (P := ((nI m) &&& (1 <<< ((nI i) &&& 31))) = 0) (t1 := 27) (t2 := 18) (r := []) rfl (fun c2 => ?_) (fun c2 => ?_)
        · skip
          have h15 : (m).testBit i = false := (sAnd1 i (by omega) m hm).mp c2
          refine ww_blk xCC okX0_brokenBy 20 2 (ps := []) (pc' := 4) (lv' := [(3, .int ((nI i) + 1)), (2, .int (nI (sUn r m i))), (0, .ref 0), (1, .int (nI m))]) (st' := []) (z' := z) rfl trivial ?_
          rw [show nI i + (1 : Int32) = nI (i + 1) from nI_add i 1]
          exact ww_cut [0, 1, 2, 3] (xlc rfl (xlc (congrArg Value.int (show (nI (sUn r m i) : Int32) = nI (sUn r m (i + 1)) from (sUn_k h15))) (xlc rfl (xlc rfl rfl)))) rfl rfl (ih4 (i + 1) (by omega) (by omega))
        · skip
          have h15 : (m).testBit i = true := (Bool.eq_false_or_eq_true _).resolve_right (fun q => c2 ((sAnd1 i (by omega) m hm).mpr q))
          refine ww_blk xCC okX0_brokenBy 13 9 (ps := [vp_in (nI i) 10]) (pc' := 4) (lv' := [(3, .int ((nI i) + 1)), (2, .int ((nI (sUn r m i)) ||| (z.1 2 (nI i).toNatClampNeg))), (0, .ref 0), (1, .int (nI m))]) (st' := []) (z' := z) rfl (vp_in_nI (by omega) (by decide)) ?_
          rw [show nI i + (1 : Int32) = nI (i + 1) from nI_add i 1]
          rw [sCL (n := i) (by omega)]
          rw [show z.1 2 i = nI (r 1 i) from hr.2.1 i]
          exact ww_cut [0, 1, 2, 3] (xlc rfl (xlc (congrArg Value.int (show ((nI (sUn r m i)) ||| (nI (r 1 i)) : Int32) = nI (sUn r m (i + 1)) from (sUn_y h15))) (xlc rfl (xlc rfl rfl)))) rfl rfl (ih4 (i + 1) (by omega) (by omega))
  exact ww_cut [0, 1, 2, 3] (xlc (congrArg Value.int (show (0 : Int32) = nI 0 from rfl)) (xlc (congrArg Value.int (show (0 : Int32) = nI (sUn r m 0) from rfl)) (xlc rfl (xlc rfl rfl)))) rfl rfl (L4 (10 - 0 + 1) 0 (Nat.lt_succ_self _) (by omega))

set_option maxHeartbeats 4000000 in
set_option maxRecDepth 20000 in
theorem t_X0_leastCover (l : Launch) (d : Nat) (a y : Nat) (z : xMem) (r : sR) (cnt : Nat) (hr : RX z 0 r) (hw : sW r cnt) (hy : y ≤ 1) : XMi l (d + 1) yX0_leastCover cX0_leastCover 8 (some .int) shR [.ref 0, .int (nI a), .int (nI y)] z (fun v z' => v = cI (sCv r a (decide (y = 1)) 1024).1 ∧ z' = z) := by
  refine XM.of (by decide) (Nat.le_of_ble_eq_true rfl) (fun xp xe xs xm xar xbl xme xc xD xcs xad xAA xCC xhr => ?_)
  generalize xhQ : MQ xbl _ xar xs 0 0 xAA = xQ
  show ww xp l xe (xRm (d + 1)) xs xm xar xbl xme xc 8 xD xcs xad shR xAA xQ 0 [(0, .ref 0), (1, .int (nI a)), (2, .int (nI y))] [] z
  refine ww_blk xCC okX0_leastCover 0 6 (ps := []) (pc' := 8) (lv' := [(5, .int 0), (4, .int 0), (3, .int (-1)), (0, .ref 0), (1, .int (nI a)), (2, .int (nI y))]) (st' := []) (z' := z) rfl trivial ?_
  have L8 : ∀ (n8 : Nat) (k : Nat) (f : Nat) (le : Nat), 1024 - k < n8 → (sCv r a (decide (y = 1)) k = (f, le)) → (f ≤ k ∧ k ≤ 1024) → (le < 1000000) → ww xp l xe (xRm (d + 1)) xs xm xar xbl xme xc 8 xD xcs xad shR xAA xQ 8 [(5, .int (nI k)), (4, .int (nI le)), (3, .int (cI f)), (0, .ref 0), (1, .int (nI a)), (2, .int (nI y))] [] z := by
    intro n8
    induction n8 with
    | zero =>
      intro k f le hmu8
      exact absurd hmu8 (Nat.not_lt_zero _)
    | succ n8 ih8 =>
      intro k f le hmu8 e8_0 e8_1 e8_2
      have hHm := sHm_bd hw k 10
      have hPo : k < 1024 → sPop k ≤ 10 := sPop_le k
      refine ww_blk xCC okX0_leastCover 6 2 (ps := []) (pc' := 13) (lv' := [(5, .int (nI k)), (4, .int (nI le)), (3, .int (cI f)), (0, .ref 0), (1, .int (nI a)), (2, .int (nI y))]) (st' := [.int 1024, .int (nI k)]) (z' := z) rfl trivial ?_
      refine ww_br xCC okX0_leastCover 8 (P := 1024 ≤ (nI k)) (t1 := 99) (t2 := 16) (r := []) rfl (fun c1 => ?_) (fun c1 => ?_)
      · skip
        replace c1 : 1024 ≤ k := (sLE (a := 1024) (b := k) (by omega) (by omega)).mp c1
        refine ww_blk xCC okX0_leastCover 51 1 (ps := []) (pc' := 100) (lv' := [(5, .int (nI k)), (4, .int (nI le)), (3, .int (cI f)), (0, .ref 0), (1, .int (nI a)), (2, .int (nI y))]) (st' := [.int (cI f)]) (z' := z) rfl trivial ?_
        subst xhQ
        exact ww_iret xCC okX0_leastCover 52 xhr rfl rfl ⟨_, rfl, ⟨(by rw [show k = 1024 by omega] at e8_0; rw [e8_0]), rfl⟩⟩
      · skip
        replace c1 : ¬ 1024 ≤ k := fun q => c1 ((sLE (a := 1024) (b := k) (by omega) (by omega)).mpr q)
        refine ww_blk xCC okX0_leastCover 9 3 (ps := []) (pc' := 20) (lv' := [(5, .int (nI k)), (4, .int (nI le)), (3, .int (cI f)), (0, .ref 0), (1, .int (nI a)), (2, .int (nI y))]) (st' := [.int (nI k), .ref 0, .int (nI a)]) (z' := z) rfl trivial ?_
        refine ww_callVIi xCC okX0_leastCover 12 (ix := 143) (t_X0_brokenBy l d k z r hr (by omega)) (by omega) (by decide) xyX0_brokenBy xiX0_brokenBy (Or.inl (lw_gt_of (List.mem_of_getElem? (i := 632) (by decide +kernel)) rfl)) rfl rfl rfl (rest := [.int (nI a)]) rfl (Nat.le_of_ble_eq_true rfl) rfl (fun v4 z2 h3 => ?_)
        rw [h3.1, h3.2]
        refine ww_blk xCC okX0_leastCover 13 3 (ps := []) (pc' := 26) (lv' := [(5, .int (nI k)), (4, .int (nI le)), (3, .int (cI f)), (0, .ref 0), (1, .int (nI a)), (2, .int (nI y))]) (st' := [.int ((nI a) &&& ((nI (sUn r k 10)) ^^^ (-1)))]) (z' := z) rfl trivial ?_
        refine ww_br xCC okX0_leastCover 16 (P := ((nI a) &&& ((nI (sUn r k 10)) ^^^ (-1))) = 0) (t1 := 32) (t2 := 29) (r := []) rfl (fun c5 => ?_) (fun c5 => ?_)
        · skip
          have h26 := c5
          refine ww_blk xCC okX0_leastCover 18 1 (ps := []) (pc' := 34) (lv' := [(5, .int (nI k)), (4, .int (nI le)), (3, .int (cI f)), (0, .ref 0), (1, .int (nI a)), (2, .int (nI y))]) (st' := [.int (nI k)]) (z' := z) rfl trivial ?_
          refine ww_callSNi xCC okX0_leastCover 19 (ix := 93) (t_J6_bitCount_0f7a4 l d k (by omega) _) (by omega) (by decide) xyJ6_bitCount_0f7a4 xiJ6_bitCount_0f7a4 (Or.inl (lw_gt_of (List.mem_of_getElem? (i := 426) (by decide +kernel)) rfl)) rfl (rest := []) rfl (Nat.le_of_ble_eq_true rfl) rfl (fun v8 z6 h7 => ?_)
          rw [h7]
          refine ww_blk xCC okX0_leastCover 20 2 (ps := []) (pc' := 40) (lv' := [(6, .int (nI (sPop k))), (5, .int (nI k)), (4, .int (nI le)), (3, .int (cI f)), (0, .ref 0), (1, .int (nI a)), (2, .int (nI y))]) (st' := [.int (nI y)]) (z' := z) rfl trivial ?_
          refine ww_br xCC okX0_leastCover 22 (P := (nI y) = 0) (t1 := 59) (t2 := 43) (r := []) rfl (fun c9 => ?_) (fun c9 => ?_)
          · skip
            replace c9 : y = 0 := (sEQ (a := y) (b := 0) (by omega) (by omega)).mp c9
            have hwt : sPop k * 1000 + sHm r k 10 = sWt r (decide (y = 1)) k := by unfold sWt; rw [decide_eq_false (show ¬ y = 1 by omega), if_neg (by decide)]; omega
            refine ww_blk xCC okX0_leastCover 31 5 (ps := []) (pc' := 68) (lv' := [(6, .int (nI (sPop k))), (5, .int (nI k)), (4, .int (nI le)), (3, .int (cI f)), (0, .ref 0), (1, .int (nI a)), (2, .int (nI y))]) (st' := [.int (nI k), .ref 0, .int ((nI (sPop k)) * 1000)]) (z' := z) rfl trivial ?_
            rw [show nI (sPop k) * (1000 : Int32) = nI ((sPop k) * 1000) from pk_mul (sPop k) 1000]
            refine ww_callVIi xCC okX0_leastCover 36 (ix := 146) (t_X0_harmOf l d k z r hr (by omega)) (by omega) (by decide) xyX0_harmOf xiX0_harmOf (Or.inl (lw_gt_of (List.mem_of_getElem? (i := 636) (by decide +kernel)) rfl)) rfl rfl rfl (rest := [.int (nI ((sPop k) * 1000))]) rfl (Nat.le_of_ble_eq_true rfl) rfl (fun v12 z10 h11 => ?_)
            rw [h11.1, h11.2]
            refine ww_blk xCC okX0_leastCover 37 4 (ps := []) (pc' := 76) (lv' := [(7, .int ((nI ((sPop k) * 1000)) + (nI (sHm r k 10)))), (6, .int (nI (sPop k))), (5, .int (nI k)), (4, .int (nI le)), (3, .int (cI f)), (0, .ref 0), (1, .int (nI a)), (2, .int (nI y))]) (st' := [.int (-1), .int (cI f)]) (z' := z) rfl trivial ?_
            rw [nI_add ((sPop k) * 1000) (sHm r k 10)]
            refine ww_br xCC okX0_leastCover 41 (P := (cI f) = (-1)) (t1 := 86) (t2 := 79) (r := []) rfl (fun c13 => ?_) (fun c13 => ?_)
            · skip
              replace c13 := cI_m (by omega) c13
              have h76 := c13
              refine ww_blk xCC okX0_leastCover 45 6 (ps := []) (pc' := 8) (lv' := [(5, .int ((nI k) + 1)), (4, .int (nI (((sPop k) * 1000) + (sHm r k 10)))), (3, .int (nI k)), (7, .int (nI (((sPop k) * 1000) + (sHm r k 10)))), (6, .int (nI (sPop k))), (0, .ref 0), (1, .int (nI a)), (2, .int (nI y))]) (st' := []) (z' := z) rfl trivial ?_
              rw [show nI k + (1 : Int32) = nI (k + 1) from nI_add k 1]
              exact ww_cut [0, 1, 2, 5, 6, 7] (xlc rfl (xlc rfl (xlc (congrArg Value.int (show (nI k : Int32) = cI (k + 1) from (cI_s k))) (xlc rfl (xlc rfl (xlc rfl rfl)))))) rfl rfl (ih8 (k + 1) (k + 1) (((sPop k) * 1000) + (sHm r k 10)) (by omega) (by first | exact sCv_y e8_0 h26 (Or.inl h76) hwt | exact sCv_y e8_0 h26 (Or.inr (by omega)) hwt) (by omega) (by omega))
            · skip
              replace c13 := cI_nm c13
              have h76 := c13
              refine ww_blk xCC okX0_leastCover 42 2 (ps := []) (pc' := 83) (lv' := [(7, .int (nI (((sPop k) * 1000) + (sHm r k 10)))), (6, .int (nI (sPop k))), (5, .int (nI k)), (4, .int (nI le)), (3, .int (cI f)), (0, .ref 0), (1, .int (nI a)), (2, .int (nI y))]) (st' := [.int (nI le), .int (nI (((sPop k) * 1000) + (sHm r k 10)))]) (z' := z) rfl trivial ?_
              refine ww_br xCC okX0_leastCover 44 (P := (nI le) ≤ (nI (((sPop k) * 1000) + (sHm r k 10)))) (t1 := 93) (t2 := 86) (r := []) rfl (fun c14 => ?_) (fun c14 => ?_)
              · skip
                replace c14 : le ≤ (((sPop k) * 1000) + (sHm r k 10)) := (sLE (a := le) (b := (((sPop k) * 1000) + (sHm r k 10))) (by omega) (by omega)).mp c14
                refine ww_blk xCC okX0_leastCover 49 2 (ps := []) (pc' := 8) (lv' := [(5, .int ((nI k) + 1)), (7, .int (nI (((sPop k) * 1000) + (sHm r k 10)))), (6, .int (nI (sPop k))), (4, .int (nI le)), (3, .int (cI f)), (0, .ref 0), (1, .int (nI a)), (2, .int (nI y))]) (st' := []) (z' := z) rfl trivial ?_
                rw [show nI k + (1 : Int32) = nI (k + 1) from nI_add k 1]
                exact ww_cut [0, 3, 4, 5, 6, 7] (xlc rfl (xlc rfl (xlc rfl (xlc rfl (xlc rfl (xlc rfl rfl)))))) rfl rfl (ih8 (k + 1) f le (by omega) (by first | exact sCv_n e8_0 h26 | exact sCv_o e8_0 h26 h76 (by omega) hwt) (by omega) (by omega))
              · skip
                replace c14 : ¬ le ≤ (((sPop k) * 1000) + (sHm r k 10)) := fun q => c14 ((sLE (a := le) (b := (((sPop k) * 1000) + (sHm r k 10))) (by omega) (by omega)).mpr q)
                refine ww_blk xCC okX0_leastCover 45 6 (ps := []) (pc' := 8) (lv' := [(5, .int ((nI k) + 1)), (4, .int (nI (((sPop k) * 1000) + (sHm r k 10)))), (3, .int (nI k)), (7, .int (nI (((sPop k) * 1000) + (sHm r k 10)))), (6, .int (nI (sPop k))), (0, .ref 0), (1, .int (nI a)), (2, .int (nI y))]) (st' := []) (z' := z) rfl trivial ?_
                rw [show nI k + (1 : Int32) = nI (k + 1) from nI_add k 1]
                exact ww_cut [0, 1, 2, 5, 6, 7] (xlc rfl (xlc rfl (xlc (congrArg Value.int (show (nI k : Int32) = cI (k + 1) from (cI_s k))) (xlc rfl (xlc rfl (xlc rfl rfl)))))) rfl rfl (ih8 (k + 1) (k + 1) (((sPop k) * 1000) + (sHm r k 10)) (by omega) (by first | exact sCv_y e8_0 h26 (Or.inl h76) hwt | exact sCv_y e8_0 h26 (Or.inr (by omega)) hwt) (by omega) (by omega))
          · skip
            replace c9 : ¬ y = 0 := fun q => c9 ((sEQ (a := y) (b := 0) (by omega) (by omega)).mpr q)
            have hwt : sHm r k 10 * 1000 + sPop k = sWt r (decide (y = 1)) k := by unfold sWt; rw [decide_eq_true (show y = 1 by omega), if_pos rfl]; omega
            refine ww_blk xCC okX0_leastCover 23 2 (ps := []) (pc' := 46) (lv' := [(6, .int (nI (sPop k))), (5, .int (nI k)), (4, .int (nI le)), (3, .int (cI f)), (0, .ref 0), (1, .int (nI a)), (2, .int (nI y))]) (st' := [.int (nI k), .ref 0]) (z' := z) rfl trivial ?_
            refine ww_callVIi xCC okX0_leastCover 25 (ix := 146) (t_X0_harmOf l d k z r hr (by omega)) (by omega) (by decide) xyX0_harmOf xiX0_harmOf (Or.inl (lw_gt_of (List.mem_of_getElem? (i := 636) (by decide +kernel)) rfl)) rfl rfl rfl (rest := []) rfl (Nat.le_of_ble_eq_true rfl) rfl (fun v17 z15 h16 => ?_)
            rw [h16.1, h16.2]
            refine ww_blk xCC okX0_leastCover 26 5 (ps := []) (pc' := 72) (lv' := [(6, .int (nI (sPop k))), (5, .int (nI k)), (4, .int (nI le)), (3, .int (cI f)), (0, .ref 0), (1, .int (nI a)), (2, .int (nI y))]) (st' := [.int (((nI (sHm r k 10)) * 1000) + (nI (sPop k)))]) (z' := z) rfl trivial ?_
            rw [show nI (sHm r k 10) * (1000 : Int32) = nI ((sHm r k 10) * 1000) from pk_mul (sHm r k 10) 1000]
            rw [nI_add ((sHm r k 10) * 1000) (sPop k)]
            refine ww_blk xCC okX0_leastCover 38 3 (ps := []) (pc' := 76) (lv' := [(7, .int (nI (((sHm r k 10) * 1000) + (sPop k)))), (6, .int (nI (sPop k))), (5, .int (nI k)), (4, .int (nI le)), (3, .int (cI f)), (0, .ref 0), (1, .int (nI a)), (2, .int (nI y))]) (st' := [.int (-1), .int (cI f)]) (z' := z) rfl trivial ?_
            refine ww_br xCC okX0_leastCover 41 (P := (cI f) = (-1)) (t1 := 86) (t2 := 79) (r := []) rfl (fun c18 => ?_) (fun c18 => ?_)
            · skip
              replace c18 := cI_m (by omega) c18
              have h76 := c18
              refine ww_blk xCC okX0_leastCover 45 6 (ps := []) (pc' := 8) (lv' := [(5, .int ((nI k) + 1)), (4, .int (nI (((sHm r k 10) * 1000) + (sPop k)))), (3, .int (nI k)), (7, .int (nI (((sHm r k 10) * 1000) + (sPop k)))), (6, .int (nI (sPop k))), (0, .ref 0), (1, .int (nI a)), (2, .int (nI y))]) (st' := []) (z' := z) rfl trivial ?_
              rw [show nI k + (1 : Int32) = nI (k + 1) from nI_add k 1]
              exact ww_cut [0, 1, 2, 5, 6, 7] (xlc rfl (xlc rfl (xlc (congrArg Value.int (show (nI k : Int32) = cI (k + 1) from (cI_s k))) (xlc rfl (xlc rfl (xlc rfl rfl)))))) rfl rfl (ih8 (k + 1) (k + 1) (((sHm r k 10) * 1000) + (sPop k)) (by omega) (by first | exact sCv_y e8_0 h26 (Or.inl h76) hwt | exact sCv_y e8_0 h26 (Or.inr (by omega)) hwt) (by omega) (by omega))
            · skip
              replace c18 := cI_nm c18
              have h76 := c18
              refine ww_blk xCC okX0_leastCover 42 2 (ps := []) (pc' := 83) (lv' := [(7, .int (nI (((sHm r k 10) * 1000) + (sPop k)))), (6, .int (nI (sPop k))), (5, .int (nI k)), (4, .int (nI le)), (3, .int (cI f)), (0, .ref 0), (1, .int (nI a)), (2, .int (nI y))]) (st' := [.int (nI le), .int (nI (((sHm r k 10) * 1000) + (sPop k)))]) (z' := z) rfl trivial ?_
              refine ww_br xCC okX0_leastCover 44 (P := (nI le) ≤ (nI (((sHm r k 10) * 1000) + (sPop k)))) (t1 := 93) (t2 := 86) (r := []) rfl (fun c19 => ?_) (fun c19 => ?_)
              · skip
                replace c19 : le ≤ (((sHm r k 10) * 1000) + (sPop k)) := (sLE (a := le) (b := (((sHm r k 10) * 1000) + (sPop k))) (by omega) (by omega)).mp c19
                refine ww_blk xCC okX0_leastCover 49 2 (ps := []) (pc' := 8) (lv' := [(5, .int ((nI k) + 1)), (7, .int (nI (((sHm r k 10) * 1000) + (sPop k)))), (6, .int (nI (sPop k))), (4, .int (nI le)), (3, .int (cI f)), (0, .ref 0), (1, .int (nI a)), (2, .int (nI y))]) (st' := []) (z' := z) rfl trivial ?_
                rw [show nI k + (1 : Int32) = nI (k + 1) from nI_add k 1]
                exact ww_cut [0, 3, 4, 5, 6, 7] (xlc rfl (xlc rfl (xlc rfl (xlc rfl (xlc rfl (xlc rfl rfl)))))) rfl rfl (ih8 (k + 1) f le (by omega) (by first | exact sCv_n e8_0 h26 | exact sCv_o e8_0 h26 h76 (by omega) hwt) (by omega) (by omega))
              · skip
                replace c19 : ¬ le ≤ (((sHm r k 10) * 1000) + (sPop k)) := fun q => c19 ((sLE (a := le) (b := (((sHm r k 10) * 1000) + (sPop k))) (by omega) (by omega)).mpr q)
                refine ww_blk xCC okX0_leastCover 45 6 (ps := []) (pc' := 8) (lv' := [(5, .int ((nI k) + 1)), (4, .int (nI (((sHm r k 10) * 1000) + (sPop k)))), (3, .int (nI k)), (7, .int (nI (((sHm r k 10) * 1000) + (sPop k)))), (6, .int (nI (sPop k))), (0, .ref 0), (1, .int (nI a)), (2, .int (nI y))]) (st' := []) (z' := z) rfl trivial ?_
                rw [show nI k + (1 : Int32) = nI (k + 1) from nI_add k 1]
                exact ww_cut [0, 1, 2, 5, 6, 7] (xlc rfl (xlc rfl (xlc (congrArg Value.int (show (nI k : Int32) = cI (k + 1) from (cI_s k))) (xlc rfl (xlc rfl (xlc rfl rfl)))))) rfl rfl (ih8 (k + 1) (k + 1) (((sHm r k 10) * 1000) + (sPop k)) (by omega) (by first | exact sCv_y e8_0 h26 (Or.inl h76) hwt | exact sCv_y e8_0 h26 (Or.inr (by omega)) hwt) (by omega) (by omega))
        · skip
          have h26 := c5
          refine ww_blk xCC okX0_leastCover 17 1 (ps := []) (pc' := 93) (lv' := [(5, .int (nI k)), (4, .int (nI le)), (3, .int (cI f)), (0, .ref 0), (1, .int (nI a)), (2, .int (nI y))]) (st' := []) (z' := z) rfl trivial ?_
          refine ww_blk xCC okX0_leastCover 49 2 (ps := []) (pc' := 8) (lv' := [(5, .int ((nI k) + 1)), (4, .int (nI le)), (3, .int (cI f)), (0, .ref 0), (1, .int (nI a)), (2, .int (nI y))]) (st' := []) (z' := z) rfl trivial ?_
          rw [show nI k + (1 : Int32) = nI (k + 1) from nI_add k 1]
          exact ww_cut [0, 1, 2, 3, 4, 5] (xlc rfl (xlc rfl (xlc rfl (xlc rfl (xlc rfl (xlc rfl rfl)))))) rfl rfl (ih8 (k + 1) f le (by omega) (by first | exact sCv_n e8_0 h26 | exact sCv_o e8_0 h26 h76 (by omega) hwt) (by omega) (by omega))
  exact ww_cut [0, 1, 2, 3, 4, 5] (xlc (congrArg Value.int (show (0 : Int32) = nI 0 from rfl)) (xlc (congrArg Value.int (show (0 : Int32) = nI 0 from rfl)) (xlc (congrArg Value.int (show ((-1) : Int32) = cI 0 from rfl)) (xlc rfl (xlc rfl (xlc rfl rfl)))))) rfl rfl (L8 (1024 - 0 + 1) 0 0 0 (Nat.lt_succ_self _) rfl (by omega) (by omega))

set_option maxHeartbeats 4000000 in
set_option maxRecDepth 20000 in
theorem t_X0_leastHarm (l : Launch) (d : Nat) (a : Nat) (z : xMem) (r : sR) (cnt : Nat) (hr : RX z 0 r) (hw : sW r cnt) (ha : a < 8) : XMi l d yX0_leastHarm cX0_leastHarm 4 (some .int) shR [.ref 0, .int (nI a)] z (fun v z' => v = nI (sLs r a 10) ∧ z' = z) := by
  refine XM.of (by decide) (Nat.le_of_ble_eq_true rfl) (fun xp xe xs xm xar xbl xme xc xD xcs xad xAA xCC xhr => ?_)
  generalize xhQ : MQ xbl _ xar xs 0 0 xAA = xQ
  show ww xp l xe (xRm d) xs xm xar xbl xme xc 4 xD xcs xad shR xAA xQ 0 [(0, .ref 0), (1, .int (nI a))] [] z
  have hb := hw.1
  refine ww_blk xCC okX0_leastHarm 0 4 (ps := []) (pc' := 6) (lv' := [(3, .int 0), (2, .int 1000), (0, .ref 0), (1, .int (nI a))]) (st' := []) (z' := z) rfl trivial ?_
  have L6 : ∀ (n6 : Nat) (e : Nat), 10 - e < n6 → (e ≤ 10) → ww xp l xe (xRm d) xs xm xar xbl xme xc 4 xD xcs xad shR xAA xQ 6 [(3, .int (nI e)), (2, .int (nI (sLs r a e))), (0, .ref 0), (1, .int (nI a))] [] z := by
    intro n6
    induction n6 with
    | zero =>
      intro e hmu6
      exact absurd hmu6 (Nat.not_lt_zero _)
    | succ n6 ih6 =>
      intro e hmu6 e6_0
      have hbe := hb e
      refine ww_blk xCC okX0_leastHarm 4 2 (ps := []) (pc' := 9) (lv' := [(3, .int (nI e)), (2, .int (nI (sLs r a e))), (0, .ref 0), (1, .int (nI a))]) (st' := [.int 10, .int (nI e)]) (z' := z) rfl trivial ?_
      refine ww_br xCC okX0_leastHarm 6 (P := 10 ≤ (nI e)) (t1 := 42) (t2 := 12) (r := []) rfl (fun c1 => ?_) (fun c1 => ?_)
      · skip
        replace c1 : 10 ≤ e := (sLE (a := 10) (b := e) (by omega) (by omega)).mp c1
        refine ww_blk xCC okX0_leastHarm 25 1 (ps := []) (pc' := 43) (lv' := [(3, .int (nI e)), (2, .int (nI (sLs r a e))), (0, .ref 0), (1, .int (nI a))]) (st' := [.int (nI (sLs r a e))]) (z' := z) rfl trivial ?_
        subst xhQ
        exact ww_iret xCC okX0_leastHarm 26 xhr rfl rfl ⟨_, rfl, ⟨(by rw [show e = 10 by omega]), rfl⟩⟩
      · skip
        replace c1 : ¬ 10 ≤ e := fun q => c1 ((sLE (a := 10) (b := e) (by omega) (by omega)).mpr q)
        refine ww_blk xCC okX0_leastHarm 7 8 (ps := [vp_in (nI e) 10]) (pc' := 22) (lv' := [(3, .int (nI e)), (2, .int (nI (sLs r a e))), (0, .ref 0), (1, .int (nI a))]) (st' := [.int ((z.1 2 (nI e).toNatClampNeg) &&& (1 <<< ((nI a) &&& 31)))]) (z' := z) rfl (vp_in_nI (by omega) (by decide)) ?_
        rw [sCL (n := e) (by omega)]
        rw [show z.1 2 e = nI (r 1 e) from hr.2.1 e]
        refine ww_br xCC okX0_leastHarm 15 (P := ((nI (r 1 e)) &&& (1 <<< ((nI a) &&& 31))) = 0) (t1 := 36) (t2 := 25) (r := []) rfl (fun c2 => ?_) (fun c2 => ?_)
        · skip
          have h22 : ((r 1 e)).testBit a = false := (sAnd1 a (by omega) (r 1 e) (by omega)).mp c2
          refine ww_blk xCC okX0_leastHarm 23 2 (ps := []) (pc' := 6) (lv' := [(3, .int ((nI e) + 1)), (2, .int (nI (sLs r a e))), (0, .ref 0), (1, .int (nI a))]) (st' := []) (z' := z) rfl trivial ?_
          rw [show nI e + (1 : Int32) = nI (e + 1) from nI_add e 1]
          exact ww_cut [0, 1, 2, 3] (xlc rfl (xlc (congrArg Value.int (show (nI (sLs r a e) : Int32) = nI (sLs r a (e + 1)) from (sLs_sk h22))) (xlc rfl (xlc rfl rfl)))) rfl rfl (ih6 (e + 1) (by omega) (by omega))
        · skip
          have h22 : ((r 1 e)).testBit a = true := (Bool.eq_false_or_eq_true _).resolve_right (fun q => c2 ((sAnd1 a (by omega) (r 1 e) (by omega)).mpr q))
          refine ww_blk xCC okX0_leastHarm 16 9 (ps := [vp_in (nI e) 10]) (pc' := 6) (lv' := [(3, .int ((nI e) + 1)), (2, .int (if (z.1 3 (nI e).toNatClampNeg) < (nI (sLs r a e)) then (z.1 3 (nI e).toNatClampNeg) else (nI (sLs r a e)))), (0, .ref 0), (1, .int (nI a))]) (st' := []) (z' := z) rfl (vp_in_nI (by omega) (by decide)) ?_
          rw [show nI e + (1 : Int32) = nI (e + 1) from nI_add e 1]
          rw [sCL (n := e) (by omega)]
          rw [show z.1 3 e = nI (r 2 e) from hr.2.2.1 e]
          exact ww_cut [0, 1, 2, 3] (xlc rfl (xlc (congrArg Value.int (show (if (nI (r 2 e)) < (nI (sLs r a e)) then (nI (r 2 e)) else (nI (sLs r a e)) : Int32) = nI (sLs r a (e + 1)) from (sLs_min h22 (by have := sLs_le r a e; omega) (by omega)))) (xlc rfl (xlc rfl rfl)))) rfl rfl (ih6 (e + 1) (by omega) (by omega))
  exact ww_cut [0, 1, 2, 3] (xlc (congrArg Value.int (show (0 : Int32) = nI 0 from rfl)) (xlc (congrArg Value.int (show (1000 : Int32) = nI (sLs r a 0) from rfl)) (xlc rfl (xlc rfl rfl)))) rfl rfl (L6 (10 - 0 + 1) 0 (Nat.lt_succ_self _) (by omega))

set_option maxHeartbeats 4000000 in
set_option maxRecDepth 20000 in
theorem t_X0_valueOf (l : Launch) (d : Nat) (u : Nat) (x : Int32) (z : xMem) (r : sR) (cnt : Nat) (tc : Nat → sTc) (hr : RX z 0 r) (hw : sW r cnt) (ht : TX z 8 cnt tc) (hu : u ≤ 12) (hI : sIs (r 7 4) x u) : XMi l (d + 6) yX0_valueOf cX0_valueOf 3 (some .int) shR [.ref 0, .int x, .int (nI u)] z (fun v z' => v = sTld tc r x u ∧ KN z z') := by
  refine XM.of (by decide) (Nat.le_of_ble_eq_true rfl) (fun xp xe xs xm xar xbl xme xc xD xcs xad xAA xCC xhr => ?_)
  generalize xhQ : MQ xbl _ xar xs 0 0 xAA = xQ
  show ww xp l xe (xRm (d + 6)) xs xm xar xbl xme xc 3 xD xcs xad shR xAA xQ 0 [(0, .ref 0), (1, .int x), (2, .int (nI u))] [] z
  have hb := hw.1
  have h74 : r 7 4 ≤ 4 := hw.2.2.2.2.2.2.1
  refine ww_blk xCC okX0_valueOf 0 1 (ps := []) (pc' := 1) (lv' := [(0, .ref 0), (1, .int x), (2, .int (nI u))]) (st' := [.int (nI u)]) (z' := z) rfl trivial ?_
  refine ww_sw xCC okX0_valueOf 1 (x := (nI u)) (L := [(0, 68), (1, 75), (2, 80), (3, 85), (4, 92), (5, 99), (6, 106), (7, 113), (8, 120), (9, 127), (10, 133), (11, 138), (12, 143)]) (P := (nI u).toInt < 0 ∨ 12 < (nI u).toInt) (t0 := 148) (r := []) rfl (fun c1 => ?_) (And.intro (fun c1 => ?_) (And.intro (fun c1 => ?_) (And.intro (fun c1 => ?_) (And.intro (fun c1 => ?_) (And.intro (fun c1 => ?_) (And.intro (fun c1 => ?_) (And.intro (fun c1 => ?_) (And.intro (fun c1 => ?_) (And.intro (fun c1 => ?_) (And.intro (fun c1 => ?_) (And.intro (fun c1 => ?_) (And.intro (fun c1 => ?_) ((fun c1 => ?_))))))))))))))
  · skip
    rw [sTI (k := u) (by omega)] at c1
    refine ww_blk xCC okX0_valueOf 56 1 (ps := []) (pc' := 151) (lv' := [(0, .ref 0), (1, .int x), (2, .int (nI u))]) (st' := [.int (-1000)]) (z' := z) rfl trivial ?_
    subst xhQ
    exact ww_iret xCC okX0_valueOf 57 xhr rfl rfl ⟨_, rfl, ⟨(by exfalso; omega), KN_rf z⟩⟩
  · have c1 : (nI u) = 0 := c1
    replace c1 : u = 0 := (sEQ (a := u) (b := 0) (by omega) (by omega)).mp c1
    show ww xp l xe (xRm (d + 6)) xs xm xar xbl xme xc 3 xD xcs xad shR xAA xQ 68 [(0, .ref 0), (1, .int x), (2, .int (nI u))] [] z
    obtain ⟨o, ho, rfl⟩ := sNN (x := x) (n := 8) (by unfold sIs at hI; omega) (by unfold sIs at hI; omega)
    refine ww_blk xCC okX0_valueOf 2 4 (ps := [vp_in (nI o) 8]) (pc' := 74) (lv' := [(0, .ref 0), (1, .int (nI o)), (2, .int (nI u))]) (st' := [.int (z.1 1 (nI o).toNatClampNeg)]) (z' := z) rfl (vp_in_nI (by omega) (by decide)) ?_
    rw [sCL (n := o) (by omega)]
    rw [show z.1 1 o = nI (r 0 o) from hr.1 o]
    subst xhQ
    exact ww_iret xCC okX0_valueOf 6 xhr rfl rfl ⟨_, rfl, ⟨(by rw [show u = 0 by omega]; unfold sTld; rw [sTN (by omega)]; rfl), (KN_rf z)⟩⟩
  · have c1 : (nI u) = 1 := c1
    replace c1 : u = 1 := (sEQ (a := u) (b := 1) (by omega) (by omega)).mp c1
    show ww xp l xe (xRm (d + 6)) xs xm xar xbl xme xc 3 xD xcs xad shR xAA xQ 75 [(0, .ref 0), (1, .int x), (2, .int (nI u))] [] z
    refine ww_blk xCC okX0_valueOf 7 2 (ps := []) (pc' := 79) (lv' := [(0, .ref 0), (1, .int x), (2, .int (nI u))]) (st' := [.int (z.1 0 4)]) (z' := z) rfl trivial ?_
    rw [show z.1 0 4 = nI (r 7 1) from hr.2.2.2.2.2.2.2.2.2.1]
    subst xhQ
    exact ww_iret xCC okX0_valueOf 9 xhr rfl rfl ⟨_, rfl, ⟨(by rw [show u = 1 by omega]; unfold sTld; rfl), (KN_rf z)⟩⟩
  · have c1 : (nI u) = 2 := c1
    replace c1 : u = 2 := (sEQ (a := u) (b := 2) (by omega) (by omega)).mp c1
    show ww xp l xe (xRm (d + 6)) xs xm xar xbl xme xc 3 xD xcs xad shR xAA xQ 80 [(0, .ref 0), (1, .int x), (2, .int (nI u))] [] z
    refine ww_blk xCC okX0_valueOf 10 2 (ps := []) (pc' := 84) (lv' := [(0, .ref 0), (1, .int x), (2, .int (nI u))]) (st' := [.int (z.1 0 5)]) (z' := z) rfl trivial ?_
    rw [show z.1 0 5 = nI (r 7 2) from hr.2.2.2.2.2.2.2.2.2.2.1]
    subst xhQ
    exact ww_iret xCC okX0_valueOf 12 xhr rfl rfl ⟨_, rfl, ⟨(by rw [show u = 2 by omega]; unfold sTld; rfl), (KN_rf z)⟩⟩
  · have c1 : (nI u) = 3 := c1
    replace c1 : u = 3 := (sEQ (a := u) (b := 3) (by omega) (by omega)).mp c1
    show ww xp l xe (xRm (d + 6)) xs xm xar xbl xme xc 3 xD xcs xad shR xAA xQ 85 [(0, .ref 0), (1, .int x), (2, .int (nI u))] [] z
    obtain ⟨o, ho, rfl⟩ := sNN (x := x) (n := 10) (by unfold sIs at hI; omega) (by unfold sIs at hI; omega)
    refine ww_blk xCC okX0_valueOf 13 4 (ps := [vp_in (nI o) 10]) (pc' := 91) (lv' := [(0, .ref 0), (1, .int (nI o)), (2, .int (nI u))]) (st' := [.int (z.1 2 (nI o).toNatClampNeg)]) (z' := z) rfl (vp_in_nI (by omega) (by decide)) ?_
    rw [sCL (n := o) (by omega)]
    rw [show z.1 2 o = nI (r 1 o) from hr.2.1 o]
    subst xhQ
    exact ww_iret xCC okX0_valueOf 17 xhr rfl rfl ⟨_, rfl, ⟨(by rw [show u = 3 by omega]; unfold sTld; rw [sTN (by omega)]; rfl), (KN_rf z)⟩⟩
  · have c1 : (nI u) = 4 := c1
    replace c1 : u = 4 := (sEQ (a := u) (b := 4) (by omega) (by omega)).mp c1
    show ww xp l xe (xRm (d + 6)) xs xm xar xbl xme xc 3 xD xcs xad shR xAA xQ 92 [(0, .ref 0), (1, .int x), (2, .int (nI u))] [] z
    obtain ⟨o, ho, rfl⟩ := sNN (x := x) (n := 10) (by unfold sIs at hI; omega) (by unfold sIs at hI; omega)
    refine ww_blk xCC okX0_valueOf 18 4 (ps := [vp_in (nI o) 10]) (pc' := 98) (lv' := [(0, .ref 0), (1, .int (nI o)), (2, .int (nI u))]) (st' := [.int (z.1 3 (nI o).toNatClampNeg)]) (z' := z) rfl (vp_in_nI (by omega) (by decide)) ?_
    rw [sCL (n := o) (by omega)]
    rw [show z.1 3 o = nI (r 2 o) from hr.2.2.1 o]
    subst xhQ
    exact ww_iret xCC okX0_valueOf 22 xhr rfl rfl ⟨_, rfl, ⟨(by rw [show u = 4 by omega]; unfold sTld; rw [sTN (by omega)]; rfl), (KN_rf z)⟩⟩
  · have c1 : (nI u) = 5 := c1
    replace c1 : u = 5 := (sEQ (a := u) (b := 5) (by omega) (by omega)).mp c1
    show ww xp l xe (xRm (d + 6)) xs xm xar xbl xme xc 3 xD xcs xad shR xAA xQ 99 [(0, .ref 0), (1, .int x), (2, .int (nI u))] [] z
    obtain ⟨o, ho, rfl⟩ := sNN (x := x) (n := 4) (by unfold sIs at hI; omega) (by unfold sIs at hI; omega)
    refine ww_blk xCC okX0_valueOf 23 4 (ps := [vp_in (nI o) 4]) (pc' := 105) (lv' := [(0, .ref 0), (1, .int (nI o)), (2, .int (nI u))]) (st' := [.int (z.1 5 (nI o).toNatClampNeg)]) (z' := z) rfl (vp_in_nI (by omega) (by decide)) ?_
    rw [sCL (n := o) (by omega)]
    rw [show z.1 5 o = nI (r 4 o) from hr.2.2.2.2.1 o]
    subst xhQ
    exact ww_iret xCC okX0_valueOf 27 xhr rfl rfl ⟨_, rfl, ⟨(by rw [show u = 5 by omega]; unfold sTld; rw [sTN (by omega)]; rfl), (KN_rf z)⟩⟩
  · have c1 : (nI u) = 6 := c1
    replace c1 : u = 6 := (sEQ (a := u) (b := 6) (by omega) (by omega)).mp c1
    show ww xp l xe (xRm (d + 6)) xs xm xar xbl xme xc 3 xD xcs xad shR xAA xQ 106 [(0, .ref 0), (1, .int x), (2, .int (nI u))] [] z
    obtain ⟨o, ho, rfl⟩ := sNN (x := x) (n := 4) (by unfold sIs at hI; omega) (by unfold sIs at hI; omega)
    refine ww_blk xCC okX0_valueOf 28 4 (ps := [vp_in (nI o) 4]) (pc' := 112) (lv' := [(0, .ref 0), (1, .int (nI o)), (2, .int (nI u))]) (st' := [.int (z.1 6 (nI o).toNatClampNeg)]) (z' := z) rfl (vp_in_nI (by omega) (by decide)) ?_
    rw [sCL (n := o) (by omega)]
    rw [show z.1 6 o = nI (r 5 o) from hr.2.2.2.2.2.1 o]
    subst xhQ
    exact ww_iret xCC okX0_valueOf 32 xhr rfl rfl ⟨_, rfl, ⟨(by rw [show u = 6 by omega]; unfold sTld; rw [sTN (by omega)]; rfl), (KN_rf z)⟩⟩
  · have c1 : (nI u) = 7 := c1
    replace c1 : u = 7 := (sEQ (a := u) (b := 7) (by omega) (by omega)).mp c1
    show ww xp l xe (xRm (d + 6)) xs xm xar xbl xme xc 3 xD xcs xad shR xAA xQ 113 [(0, .ref 0), (1, .int x), (2, .int (nI u))] [] z
    obtain ⟨o, ho, rfl⟩ := sNN (x := x) (n := 4) (by unfold sIs at hI; omega) (by unfold sIs at hI; omega)
    refine ww_blk xCC okX0_valueOf 33 4 (ps := [vp_in (nI o) 4]) (pc' := 119) (lv' := [(0, .ref 0), (1, .int (nI o)), (2, .int (nI u))]) (st' := [.int (z.1 7 (nI o).toNatClampNeg)]) (z' := z) rfl (vp_in_nI (by omega) (by decide)) ?_
    rw [sCL (n := o) (by omega)]
    rw [show z.1 7 o = nI (r 6 o) from hr.2.2.2.2.2.2.1 o]
    subst xhQ
    exact ww_iret xCC okX0_valueOf 37 xhr rfl rfl ⟨_, rfl, ⟨(by rw [show u = 7 by omega]; unfold sTld; rw [sTN (by omega)]; rfl), (KN_rf z)⟩⟩
  · have c1 : (nI u) = 8 := c1
    replace c1 : u = 8 := (sEQ (a := u) (b := 8) (by omega) (by omega)).mp c1
    show ww xp l xe (xRm (d + 6)) xs xm xar xbl xme xc 3 xD xcs xad shR xAA xQ 120 [(0, .ref 0), (1, .int x), (2, .int (nI u))] [] z
    obtain ⟨o, ho, rfl⟩ := sNN (x := x) (n := 4) (by unfold sIs at hI; omega) (by unfold sIs at hI; omega)
    refine ww_blk xCC okX0_valueOf 38 4 (ps := [vp_in (nI o) 4]) (pc' := 126) (lv' := [(0, .ref 0), (1, .int (nI o)), (2, .int (nI u))]) (st' := [.int (z.1 4 (nI o).toNatClampNeg)]) (z' := z) rfl (vp_in_nI (by omega) (by decide)) ?_
    rw [sCL (n := o) (by omega)]
    rw [show z.1 4 o = nI (r 3 o) from hr.2.2.2.1 o]
    subst xhQ
    exact ww_iret xCC okX0_valueOf 42 xhr rfl rfl ⟨_, rfl, ⟨(by rw [show u = 8 by omega]; unfold sTld; rw [sTN (by omega)]; rfl), (KN_rf z)⟩⟩
  · have c1 : (nI u) = 9 := c1
    replace c1 : u = 9 := (sEQ (a := u) (b := 9) (by omega) (by omega)).mp c1
    show ww xp l xe (xRm (d + 6)) xs xm xar xbl xme xc 3 xD xcs xad shR xAA xQ 127 [(0, .ref 0), (1, .int x), (2, .int (nI u))] [] z
    obtain ⟨o, ho, rfl⟩ := sNN (x := x) (n := r 7 4) (by unfold sIs at hI; omega) (by unfold sIs at hI; omega)
    refine ww_blk xCC okX0_valueOf 43 2 (ps := []) (pc' := 129) (lv' := [(0, .ref 0), (1, .int (nI o)), (2, .int (nI u))]) (st' := [.int (nI o), .ref 0]) (z' := z) rfl trivial ?_
    refine ww_callVIi xCC okX0_valueOf 45 (ix := 65) (t_X0_deedsFor l d o z r cnt tc hr hw ht (by omega)) (by omega) (by decide) xyX0_deedsFor xiX0_deedsFor (Or.inl (lw_gt_of (List.mem_of_getElem? (i := 352) (by decide +kernel)) rfl)) rfl rfl rfl (rest := []) rfl (Nat.le_of_ble_eq_true rfl) rfl (fun v3 zS2 hS2 => ?_)
    have hrS2 := RX_N hS2.2 hr
    have htS2 := TX_N hS2.2 ht
    have hKS2 := KN_tr (KN_rf z) hS2.2
    rw [hS2.1]
    subst xhQ
    exact ww_iret xCC okX0_valueOf 46 xhr rfl rfl ⟨_, rfl, ⟨(by rw [show u = 9 by omega]; unfold sTld; rw [sTN (by omega)]; rfl), hKS2⟩⟩
  · have c1 : (nI u) = 10 := c1
    replace c1 : u = 10 := (sEQ (a := u) (b := 10) (by omega) (by omega)).mp c1
    show ww xp l xe (xRm (d + 6)) xs xm xar xbl xme xc 3 xD xcs xad shR xAA xQ 133 [(0, .ref 0), (1, .int x), (2, .int (nI u))] [] z
    refine ww_blk xCC okX0_valueOf 47 2 (ps := []) (pc' := 137) (lv' := [(0, .ref 0), (1, .int x), (2, .int (nI u))]) (st' := [.int (z.1 0 2)]) (z' := z) rfl trivial ?_
    rw [show z.1 0 2 = nI (sAl (r 0) 8) from hr.2.2.2.2.2.2.2.1]
    subst xhQ
    exact ww_iret xCC okX0_valueOf 49 xhr rfl rfl ⟨_, rfl, ⟨(by rw [show u = 10 by omega]; unfold sTld; rfl), (KN_rf z)⟩⟩
  · have c1 : (nI u) = 11 := c1
    replace c1 : u = 11 := (sEQ (a := u) (b := 11) (by omega) (by omega)).mp c1
    show ww xp l xe (xRm (d + 6)) xs xm xar xbl xme xc 3 xD xcs xad shR xAA xQ 138 [(0, .ref 0), (1, .int x), (2, .int (nI u))] [] z
    refine ww_blk xCC okX0_valueOf 50 2 (ps := []) (pc' := 142) (lv' := [(0, .ref 0), (1, .int x), (2, .int (nI u))]) (st' := [.int (z.1 0 3)]) (z' := z) rfl trivial ?_
    rw [show z.1 0 3 = nI (r 7 0) from hr.2.2.2.2.2.2.2.2.1]
    subst xhQ
    exact ww_iret xCC okX0_valueOf 52 xhr rfl rfl ⟨_, rfl, ⟨(by rw [show u = 11 by omega]; unfold sTld; rfl), (KN_rf z)⟩⟩
  · have c1 : (nI u) = 12 := c1
    replace c1 : u = 12 := (sEQ (a := u) (b := 12) (by omega) (by omega)).mp c1
    show ww xp l xe (xRm (d + 6)) xs xm xar xbl xme xc 3 xD xcs xad shR xAA xQ 143 [(0, .ref 0), (1, .int x), (2, .int (nI u))] [] z
    refine ww_blk xCC okX0_valueOf 53 2 (ps := []) (pc' := 147) (lv' := [(0, .ref 0), (1, .int x), (2, .int (nI u))]) (st' := [.int (z.1 0 6)]) (z' := z) rfl trivial ?_
    rw [show z.1 0 6 = nI (r 7 3) from hr.2.2.2.2.2.2.2.2.2.2.2.1]
    subst xhQ
    exact ww_iret xCC okX0_valueOf 55 xhr rfl rfl ⟨_, rfl, ⟨(by rw [show u = 12 by omega]; unfold sTld; rfl), (KN_rf z)⟩⟩

set_option maxHeartbeats 4000000 in
set_option maxRecDepth 20000 in
theorem t_X0_put (l : Launch) (d : Nat) (u v : Nat) (x : Int32) (z : xMem) (r : sR) (cnt : Nat) (hr : RX z 0 r) (hw : sW r cnt) (hS : sSub r) (hv : v < 2 ^ 30) (hu : u ≤ 8 ∨ u = 13) (hI : u = 13 ∨ sIs (r 7 4) x u) : XMv l (d + 1) yX0_put cX0_put 4 none shR [.ref 0, .int x, .int (nI u), .int (nI v)] z (fun z' => RX z' 0 (sLay r (if u = 13 then 9 else u) x.toInt.toNat v) ∧ KQ z z') := by
  refine XM.of (by decide) (Nat.le_of_ble_eq_true rfl) (fun xp xe xs xm xar xbl xme xc xD xcs xad xAA xCC xhr => ?_)
  generalize xhQ : MQ xbl _ xar xs 0 0 xAA = xQ
  show ww xp l xe (xRm (d + 1)) xs xm xar xbl xme xc 4 xD xcs xad shR xAA xQ 0 [(0, .ref 0), (1, .int x), (2, .int (nI u)), (3, .int (nI v))] [] z
  have h70 := hw.2.1
  have h74 : r 7 4 ≤ 4 := hw.2.2.2.2.2.2.1
  refine ww_blk xCC okX0_put 0 1 (ps := []) (pc' := 1) (lv' := [(0, .ref 0), (1, .int x), (2, .int (nI u)), (3, .int (nI v))]) (st' := [.int (nI u)]) (z' := z) rfl trivial ?_
  refine ww_sw xCC okX0_put 1 (x := (nI u)) (L := [(0, 72), (1, 81), (2, 89), (3, 97), (4, 107), (5, 117), (6, 127), (7, 137), (8, 147), (9, 165), (10, 165), (11, 165), (12, 165), (13, 157)]) (P := (nI u).toInt < 0 ∨ 13 < (nI u).toInt) (t0 := 165) (r := []) rfl (fun c1 => ?_) (And.intro (fun c1 => ?_) (And.intro (fun c1 => ?_) (And.intro (fun c1 => ?_) (And.intro (fun c1 => ?_) (And.intro (fun c1 => ?_) (And.intro (fun c1 => ?_) (And.intro (fun c1 => ?_) (And.intro (fun c1 => ?_) (And.intro (fun c1 => ?_) (And.intro (fun c1 => ?_) (And.intro (fun c1 => ?_) (And.intro (fun c1 => ?_) (And.intro (fun c1 => ?_) ((fun c1 => ?_)))))))))))))))
  · skip
    rw [sTI (k := u) (by omega)] at c1
    subst xhQ
    exact ww_vret xCC okX0_put 55 xhr rfl ⟨rfl, (by exfalso; omega)⟩
  · have c1 : (nI u) = 0 := c1
    replace c1 : u = 0 := (sEQ (a := u) (b := 0) (by omega) (by omega)).mp c1
    show ww xp l xe (xRm (d + 1)) xs xm xar xbl xme xc 4 xD xcs xad shR xAA xQ 72 [(0, .ref 0), (1, .int x), (2, .int (nI u)), (3, .int (nI v))] [] z
    obtain ⟨o, ho, rfl⟩ := sNN (x := x) (n := 8) (by unfold sIs at hI; omega) (by unfold sIs at hI; omega)
    refine ww_blk xCC okX0_put 2 3 (ps := []) (pc' := 75) (lv' := [(0, .ref 0), (1, .int (nI o)), (2, .int (nI u)), (3, .int (nI v))]) (st' := [.int (nI v), .int (nI o), .ref 0]) (z' := z) rfl trivial ?_
    refine ww_callVIv xCC okX0_put 5 (ix := 69) (t_X0_putLeft l d o v z r hr hS (by omega) hv h70) (by omega) (by decide) xyX0_putLeft xiX0_putLeft (Or.inl (lw_gt_of (List.mem_of_getElem? (i := 400) (by decide +kernel)) rfl)) rfl rfl rfl (rest := []) rfl (Nat.le_of_ble_eq_true rfl) rfl (fun zP hP => ?_)
    refine ww_blk xCC okX0_put 6 1 (ps := []) (pc' := 165) (lv' := [(0, .ref 0), (1, .int (nI o)), (2, .int (nI u)), (3, .int (nI v))]) (st' := []) (z' := zP) rfl trivial ?_
    subst xhQ
    exact ww_vret xCC okX0_put 55 xhr rfl ⟨rfl, (by rw [show u = 0 by omega, if_neg (by decide)]; rw [sTN (by omega)]; exact hP)⟩
  · have c1 : (nI u) = 1 := c1
    replace c1 : u = 1 := (sEQ (a := u) (b := 1) (by omega) (by omega)).mp c1
    show ww xp l xe (xRm (d + 1)) xs xm xar xbl xme xc 4 xD xcs xad shR xAA xQ 81 [(0, .ref 0), (1, .int x), (2, .int (nI u)), (3, .int (nI v))] [] z
    refine ww_blk xCC okX0_put 7 4 (ps := []) (pc' := 165) (lv' := [(0, .ref 0), (1, .int x), (2, .int (nI u)), (3, .int (nI v))]) (st' := []) (z' := (mPut z 0 4 (nI v))) rfl trivial ?_
    subst xhQ
    exact ww_vret xCC okX0_put 55 xhr rfl ⟨rfl, (by rw [show u = 1 by omega, if_neg (by decide)]; exact ⟨RX_p1 hr, KQ_q (by decide) (KQ_rf z)⟩)⟩
  · have c1 : (nI u) = 2 := c1
    replace c1 : u = 2 := (sEQ (a := u) (b := 2) (by omega) (by omega)).mp c1
    show ww xp l xe (xRm (d + 1)) xs xm xar xbl xme xc 4 xD xcs xad shR xAA xQ 89 [(0, .ref 0), (1, .int x), (2, .int (nI u)), (3, .int (nI v))] [] z
    refine ww_blk xCC okX0_put 11 4 (ps := []) (pc' := 165) (lv' := [(0, .ref 0), (1, .int x), (2, .int (nI u)), (3, .int (nI v))]) (st' := []) (z' := (mPut z 0 5 (nI v))) rfl trivial ?_
    subst xhQ
    exact ww_vret xCC okX0_put 55 xhr rfl ⟨rfl, (by rw [show u = 2 by omega, if_neg (by decide)]; exact ⟨RX_p2 hr, KQ_q (by decide) (KQ_rf z)⟩)⟩
  · have c1 : (nI u) = 3 := c1
    replace c1 : u = 3 := (sEQ (a := u) (b := 3) (by omega) (by omega)).mp c1
    show ww xp l xe (xRm (d + 1)) xs xm xar xbl xme xc 4 xD xcs xad shR xAA xQ 97 [(0, .ref 0), (1, .int x), (2, .int (nI u)), (3, .int (nI v))] [] z
    obtain ⟨o, ho, rfl⟩ := sNN (x := x) (n := 10) (by unfold sIs at hI; omega) (by unfold sIs at hI; omega)
    refine ww_blk xCC okX0_put 15 6 (ps := [vp_in (nI o) 10]) (pc' := 165) (lv' := [(0, .ref 0), (1, .int (nI o)), (2, .int (nI u)), (3, .int (nI v))]) (st' := []) (z' := (mPut z 2 (nI o).toNatClampNeg (nI v))) rfl (vp_in_nI (by omega) (by decide)) ?_
    rw [sCL (n := o) (by omega)]
    subst xhQ
    exact ww_vret xCC okX0_put 55 xhr rfl ⟨rfl, (by rw [show u = 3 by omega, if_neg (by decide)]; rw [sTN (by omega)]; exact ⟨RX_p3 hr, KQ_q (by decide) (KQ_rf z)⟩)⟩
  · have c1 : (nI u) = 4 := c1
    replace c1 : u = 4 := (sEQ (a := u) (b := 4) (by omega) (by omega)).mp c1
    show ww xp l xe (xRm (d + 1)) xs xm xar xbl xme xc 4 xD xcs xad shR xAA xQ 107 [(0, .ref 0), (1, .int x), (2, .int (nI u)), (3, .int (nI v))] [] z
    obtain ⟨o, ho, rfl⟩ := sNN (x := x) (n := 10) (by unfold sIs at hI; omega) (by unfold sIs at hI; omega)
    refine ww_blk xCC okX0_put 21 6 (ps := [vp_in (nI o) 10]) (pc' := 165) (lv' := [(0, .ref 0), (1, .int (nI o)), (2, .int (nI u)), (3, .int (nI v))]) (st' := []) (z' := (mPut z 3 (nI o).toNatClampNeg (nI v))) rfl (vp_in_nI (by omega) (by decide)) ?_
    rw [sCL (n := o) (by omega)]
    subst xhQ
    exact ww_vret xCC okX0_put 55 xhr rfl ⟨rfl, (by rw [show u = 4 by omega, if_neg (by decide)]; rw [sTN (by omega)]; exact ⟨RX_p4 hr, KQ_q (by decide) (KQ_rf z)⟩)⟩
  · have c1 : (nI u) = 5 := c1
    replace c1 : u = 5 := (sEQ (a := u) (b := 5) (by omega) (by omega)).mp c1
    show ww xp l xe (xRm (d + 1)) xs xm xar xbl xme xc 4 xD xcs xad shR xAA xQ 117 [(0, .ref 0), (1, .int x), (2, .int (nI u)), (3, .int (nI v))] [] z
    obtain ⟨o, ho, rfl⟩ := sNN (x := x) (n := 4) (by unfold sIs at hI; omega) (by unfold sIs at hI; omega)
    refine ww_blk xCC okX0_put 27 6 (ps := [vp_in (nI o) 4]) (pc' := 165) (lv' := [(0, .ref 0), (1, .int (nI o)), (2, .int (nI u)), (3, .int (nI v))]) (st' := []) (z' := (mPut z 5 (nI o).toNatClampNeg (nI v))) rfl (vp_in_nI (by omega) (by decide)) ?_
    rw [sCL (n := o) (by omega)]
    subst xhQ
    exact ww_vret xCC okX0_put 55 xhr rfl ⟨rfl, (by rw [show u = 5 by omega, if_neg (by decide)]; rw [sTN (by omega)]; exact ⟨RX_p5 hr, KQ_q (by decide) (KQ_rf z)⟩)⟩
  · have c1 : (nI u) = 6 := c1
    replace c1 : u = 6 := (sEQ (a := u) (b := 6) (by omega) (by omega)).mp c1
    show ww xp l xe (xRm (d + 1)) xs xm xar xbl xme xc 4 xD xcs xad shR xAA xQ 127 [(0, .ref 0), (1, .int x), (2, .int (nI u)), (3, .int (nI v))] [] z
    obtain ⟨o, ho, rfl⟩ := sNN (x := x) (n := 4) (by unfold sIs at hI; omega) (by unfold sIs at hI; omega)
    refine ww_blk xCC okX0_put 33 6 (ps := [vp_in (nI o) 4]) (pc' := 165) (lv' := [(0, .ref 0), (1, .int (nI o)), (2, .int (nI u)), (3, .int (nI v))]) (st' := []) (z' := (mPut z 6 (nI o).toNatClampNeg (nI v))) rfl (vp_in_nI (by omega) (by decide)) ?_
    rw [sCL (n := o) (by omega)]
    subst xhQ
    exact ww_vret xCC okX0_put 55 xhr rfl ⟨rfl, (by rw [show u = 6 by omega, if_neg (by decide)]; rw [sTN (by omega)]; exact ⟨RX_p6 hr, KQ_q (by decide) (KQ_rf z)⟩)⟩
  · have c1 : (nI u) = 7 := c1
    replace c1 : u = 7 := (sEQ (a := u) (b := 7) (by omega) (by omega)).mp c1
    show ww xp l xe (xRm (d + 1)) xs xm xar xbl xme xc 4 xD xcs xad shR xAA xQ 137 [(0, .ref 0), (1, .int x), (2, .int (nI u)), (3, .int (nI v))] [] z
    obtain ⟨o, ho, rfl⟩ := sNN (x := x) (n := 4) (by unfold sIs at hI; omega) (by unfold sIs at hI; omega)
    refine ww_blk xCC okX0_put 39 6 (ps := [vp_in (nI o) 4]) (pc' := 165) (lv' := [(0, .ref 0), (1, .int (nI o)), (2, .int (nI u)), (3, .int (nI v))]) (st' := []) (z' := (mPut z 7 (nI o).toNatClampNeg (nI v))) rfl (vp_in_nI (by omega) (by decide)) ?_
    rw [sCL (n := o) (by omega)]
    subst xhQ
    exact ww_vret xCC okX0_put 55 xhr rfl ⟨rfl, (by rw [show u = 7 by omega, if_neg (by decide)]; rw [sTN (by omega)]; exact ⟨RX_p7 hr, KQ_q (by decide) (KQ_rf z)⟩)⟩
  · have c1 : (nI u) = 8 := c1
    replace c1 : u = 8 := (sEQ (a := u) (b := 8) (by omega) (by omega)).mp c1
    show ww xp l xe (xRm (d + 1)) xs xm xar xbl xme xc 4 xD xcs xad shR xAA xQ 147 [(0, .ref 0), (1, .int x), (2, .int (nI u)), (3, .int (nI v))] [] z
    obtain ⟨o, ho, rfl⟩ := sNN (x := x) (n := 4) (by unfold sIs at hI; omega) (by unfold sIs at hI; omega)
    refine ww_blk xCC okX0_put 45 6 (ps := [vp_in (nI o) 4]) (pc' := 165) (lv' := [(0, .ref 0), (1, .int (nI o)), (2, .int (nI u)), (3, .int (nI v))]) (st' := []) (z' := (mPut z 4 (nI o).toNatClampNeg (nI v))) rfl (vp_in_nI (by omega) (by decide)) ?_
    rw [sCL (n := o) (by omega)]
    subst xhQ
    exact ww_vret xCC okX0_put 55 xhr rfl ⟨rfl, (by rw [show u = 8 by omega, if_neg (by decide)]; rw [sTN (by omega)]; exact ⟨RX_p8 hr, KQ_q (by decide) (KQ_rf z)⟩)⟩
  · have c1 : (nI u) = 9 := c1
    replace c1 : u = 9 := (sEQ (a := u) (b := 9) (by omega) (by omega)).mp c1
    show ww xp l xe (xRm (d + 1)) xs xm xar xbl xme xc 4 xD xcs xad shR xAA xQ 165 [(0, .ref 0), (1, .int x), (2, .int (nI u)), (3, .int (nI v))] [] z
    subst xhQ
    exact ww_vret xCC okX0_put 55 xhr rfl ⟨rfl, (by exfalso; omega)⟩
  · have c1 : (nI u) = 10 := c1
    replace c1 : u = 10 := (sEQ (a := u) (b := 10) (by omega) (by omega)).mp c1
    show ww xp l xe (xRm (d + 1)) xs xm xar xbl xme xc 4 xD xcs xad shR xAA xQ 165 [(0, .ref 0), (1, .int x), (2, .int (nI u)), (3, .int (nI v))] [] z
    subst xhQ
    exact ww_vret xCC okX0_put 55 xhr rfl ⟨rfl, (by exfalso; omega)⟩
  · have c1 : (nI u) = 11 := c1
    replace c1 : u = 11 := (sEQ (a := u) (b := 11) (by omega) (by omega)).mp c1
    show ww xp l xe (xRm (d + 1)) xs xm xar xbl xme xc 4 xD xcs xad shR xAA xQ 165 [(0, .ref 0), (1, .int x), (2, .int (nI u)), (3, .int (nI v))] [] z
    subst xhQ
    exact ww_vret xCC okX0_put 55 xhr rfl ⟨rfl, (by exfalso; omega)⟩
  · have c1 : (nI u) = 12 := c1
    replace c1 : u = 12 := (sEQ (a := u) (b := 12) (by omega) (by omega)).mp c1
    show ww xp l xe (xRm (d + 1)) xs xm xar xbl xme xc 4 xD xcs xad shR xAA xQ 165 [(0, .ref 0), (1, .int x), (2, .int (nI u)), (3, .int (nI v))] [] z
    subst xhQ
    exact ww_vret xCC okX0_put 55 xhr rfl ⟨rfl, (by exfalso; omega)⟩
  · have c1 : (nI u) = 13 := c1
    replace c1 : u = 13 := (sEQ (a := u) (b := 13) (by omega) (by omega)).mp c1
    show ww xp l xe (xRm (d + 1)) xs xm xar xbl xme xc 4 xD xcs xad shR xAA xQ 157 [(0, .ref 0), (1, .int x), (2, .int (nI u)), (3, .int (nI v))] [] z
    refine ww_blk xCC okX0_put 51 4 (ps := []) (pc' := 165) (lv' := [(0, .ref 0), (1, .int x), (2, .int (nI u)), (3, .int (nI v))]) (st' := []) (z' := (mPut z 0 14 (nI v))) rfl trivial ?_
    subst xhQ
    exact ww_vret xCC okX0_put 55 xhr rfl ⟨rfl, (by rw [show u = 13 by omega, if_pos rfl]; exact ⟨RX_p9 hr, KQ_q (by decide) (KQ_rf z)⟩)⟩

set_option maxHeartbeats 4000000 in
set_option maxRecDepth 20000 in
theorem t_X0_add (l : Launch) (d : Nat) (k n : Nat) (z : xMem) (r : sR) (hr : RX z 0 r) (h74 : r 7 4 < 4) : XMi l d yX0_add cX0_add 4 (some .int) shR [.ref 0, .int (nI k), .int (nI n)] z (fun v z' => v = nI (r 7 4) ∧ RX z' 0 (sPer r (r 7 4) k n) ∧ KQ z z') := by
  refine XM.of (by decide) (Nat.le_of_ble_eq_true rfl) (fun xp xe xs xm xar xbl xme xc xD xcs xad xAA xCC xhr => ?_)
  generalize xhQ : MQ xbl _ xar xs 0 0 xAA = xQ
  show ww xp l xe (xRm d) xs xm xar xbl xme xc 4 xD xcs xad shR xAA xQ 0 [(0, .ref 0), (1, .int (nI k)), (2, .int (nI n))] [] z
  obtain ⟨p, hp⟩ : ∃ p, p = r 7 4 := ⟨_, rfl⟩
  have h9 : z.1 0 9 = nI p := by rw [hp]; exact hr.2.2.2.2.2.2.2.2.2.2.2.2.1
  refine ww_blk xCC okX0_add 0 30 (ps := [vp_in (z.1 0 9) 4, vp_in (z.1 0 9) 4, vp_in (z.1 0 9) 4, vp_in (z.1 0 9) 4]) (pc' := 44) (lv' := [(3, .int (z.1 0 9)), (0, .ref 0), (1, .int (nI k)), (2, .int (nI n))]) (st' := [.int (z.1 0 9)]) (z' := (mPut (mPut (mPut (mPut (mPut z 4 (z.1 0 9).toNatClampNeg (nI k)) 5 (z.1 0 9).toNatClampNeg (nI n)) 6 (z.1 0 9).toNatClampNeg 0) 7 (z.1 0 9).toNatClampNeg 0) 0 9 ((z.1 0 9) + 1))) rfl ⟨(by rw [h9]; exact vp_in_nI (by omega) (by decide)), (by rw [h9]; exact vp_in_nI (by omega) (by decide)), (by rw [h9]; exact vp_in_nI (by omega) (by decide)), (by rw [h9]; exact vp_in_nI (by omega) (by decide))⟩ ?_
  rw [h9]
  rw [sCL (n := p) (by omega)]
  rw [show nI p + (1 : Int32) = nI (p + 1) from nI_add p 1]
  subst xhQ
  exact ww_iret xCC okX0_add 30 xhr rfl rfl ⟨_, rfl, (by rw [← hp]; exact ⟨rfl, RX_per hr hp, KQ_q (by decide) (KQ_q (by decide) (KQ_q (by decide) (KQ_q (by decide) (KQ_q (by decide) (KQ_rf z)))))⟩)⟩

set_option maxHeartbeats 4000000 in
set_option maxRecDepth 20000 in
theorem t_X0_takeFrom (l : Launch) (d : Nat) (z : xMem) (r1 r2 : sR) (h1 : RX z 0 r1) (h2 : RX z 8 r2) (hz1 : sZ r1) (hz2 : sZ r2) : XMv l d yX0_takeFrom cX0_takeFrom 2 none shRR [.ref 0, .ref 8] z (fun z' => RX z' 0 r2 ∧ ∀ q, 8 ≤ q → z'.1 q = z.1 q) := by
  refine XM.of (by decide) (Nat.le_of_ble_eq_true rfl) (fun xp xe xs xm xar xbl xme xc xD xcs xad xAA xCC xhr => ?_)
  generalize xhQ : MQ xbl _ xar xs 0 0 xAA = xQ
  show ww xp l xe (xRm d) xs xm xar xbl xme xc 2 xD xcs xad shRR xAA xQ 0 [(0, .ref 0), (1, .ref 8)] [] z
  refine ww_blk xCC okX0_takeFrom 0 84 (ps := [¬ (0 : Int32) < 0, ¬ (0 : Int32) < 0, ¬ (8 : Int32) < 0, (0 : Int32).toNatClampNeg + (8 : Int32).toNatClampNeg ≤ 8, (0 : Int32).toNatClampNeg + (8 : Int32).toNatClampNeg ≤ 8, ¬ (0 : Int32) < 0, ¬ (0 : Int32) < 0, ¬ (10 : Int32) < 0, (0 : Int32).toNatClampNeg + (10 : Int32).toNatClampNeg ≤ 10, (0 : Int32).toNatClampNeg + (10 : Int32).toNatClampNeg ≤ 10, ¬ (0 : Int32) < 0, ¬ (0 : Int32) < 0, ¬ (10 : Int32) < 0, (0 : Int32).toNatClampNeg + (10 : Int32).toNatClampNeg ≤ 10, (0 : Int32).toNatClampNeg + (10 : Int32).toNatClampNeg ≤ 10, ¬ (0 : Int32) < 0, ¬ (0 : Int32) < 0, ¬ (4 : Int32) < 0, (0 : Int32).toNatClampNeg + (4 : Int32).toNatClampNeg ≤ 4, (0 : Int32).toNatClampNeg + (4 : Int32).toNatClampNeg ≤ 4, ¬ (0 : Int32) < 0, ¬ (0 : Int32) < 0, ¬ (4 : Int32) < 0, (0 : Int32).toNatClampNeg + (4 : Int32).toNatClampNeg ≤ 4, (0 : Int32).toNatClampNeg + (4 : Int32).toNatClampNeg ≤ 4, ¬ (0 : Int32) < 0, ¬ (0 : Int32) < 0, ¬ (4 : Int32) < 0, (0 : Int32).toNatClampNeg + (4 : Int32).toNatClampNeg ≤ 4, (0 : Int32).toNatClampNeg + (4 : Int32).toNatClampNeg ≤ 4, ¬ (0 : Int32) < 0, ¬ (0 : Int32) < 0, ¬ (4 : Int32) < 0, (0 : Int32).toNatClampNeg + (4 : Int32).toNatClampNeg ≤ 4, (0 : Int32).toNatClampNeg + (4 : Int32).toNatClampNeg ≤ 4]) (pc' := 157) (lv' := [(0, .ref 0), (1, .ref 8)]) (st' := []) (z' := (mPut (mCpy (mCpy (mCpy (mCpy (mPut (mCpy (mCpy (mPut (mPut (mPut (mPut (mPut (mCpy z 9 1 0 0 8) 0 2 (z.1 8 2)) 0 3 (z.1 8 3)) 0 4 (z.1 8 4)) 0 5 (z.1 8 5)) 0 6 (z.1 8 6)) 10 2 0 0 10) 11 3 0 0 10) 0 9 (z.1 8 9)) 12 4 0 0 4) 13 5 0 0 4) 14 6 0 0 4) 15 7 0 0 4) 0 14 (z.1 8 14))) rfl ⟨(show ¬ (0 : Int32) < 0 by decide), (show ¬ (0 : Int32) < 0 by decide), (show ¬ (8 : Int32) < 0 by decide), (show (0 : Int32).toNatClampNeg + (8 : Int32).toNatClampNeg ≤ 8 by decide), (show (0 : Int32).toNatClampNeg + (8 : Int32).toNatClampNeg ≤ 8 by decide), (show ¬ (0 : Int32) < 0 by decide), (show ¬ (0 : Int32) < 0 by decide), (show ¬ (10 : Int32) < 0 by decide), (show (0 : Int32).toNatClampNeg + (10 : Int32).toNatClampNeg ≤ 10 by decide), (show (0 : Int32).toNatClampNeg + (10 : Int32).toNatClampNeg ≤ 10 by decide), (show ¬ (0 : Int32) < 0 by decide), (show ¬ (0 : Int32) < 0 by decide), (show ¬ (10 : Int32) < 0 by decide), (show (0 : Int32).toNatClampNeg + (10 : Int32).toNatClampNeg ≤ 10 by decide), (show (0 : Int32).toNatClampNeg + (10 : Int32).toNatClampNeg ≤ 10 by decide), (show ¬ (0 : Int32) < 0 by decide), (show ¬ (0 : Int32) < 0 by decide), (show ¬ (4 : Int32) < 0 by decide), (show (0 : Int32).toNatClampNeg + (4 : Int32).toNatClampNeg ≤ 4 by decide), (show (0 : Int32).toNatClampNeg + (4 : Int32).toNatClampNeg ≤ 4 by decide), (show ¬ (0 : Int32) < 0 by decide), (show ¬ (0 : Int32) < 0 by decide), (show ¬ (4 : Int32) < 0 by decide), (show (0 : Int32).toNatClampNeg + (4 : Int32).toNatClampNeg ≤ 4 by decide), (show (0 : Int32).toNatClampNeg + (4 : Int32).toNatClampNeg ≤ 4 by decide), (show ¬ (0 : Int32) < 0 by decide), (show ¬ (0 : Int32) < 0 by decide), (show ¬ (4 : Int32) < 0 by decide), (show (0 : Int32).toNatClampNeg + (4 : Int32).toNatClampNeg ≤ 4 by decide), (show (0 : Int32).toNatClampNeg + (4 : Int32).toNatClampNeg ≤ 4 by decide), (show ¬ (0 : Int32) < 0 by decide), (show ¬ (0 : Int32) < 0 by decide), (show ¬ (4 : Int32) < 0 by decide), (show (0 : Int32).toNatClampNeg + (4 : Int32).toNatClampNeg ≤ 4 by decide), (show (0 : Int32).toNatClampNeg + (4 : Int32).toNatClampNeg ≤ 4 by decide)⟩ ?_
  subst xhQ
  exact ww_vret xCC okX0_takeFrom 84 xhr rfl ⟨rfl, (tk_of h1 h2 hz1 hz2)⟩

set_option maxHeartbeats 4000000 in
set_option maxRecDepth 20000 in
theorem t_X0_firstOtherwise (l : Launch) (d : Nat) (p : Nat) (z : xMem) (r : sR) (cnt : Nat) (tc : Nat → sTc) (hr : RX z 0 r) (hw : sW r cnt) (ht : TX z 8 cnt tc) (n : Nat) (it : Nat → Int32) (hn : n ≤ 10) (h24 : z.1 24 1 = nI n) (hit : ∀ i, i < n → z.1 25 i = it i) (hp : p < 4) : XMi l (d + 5) yX0_firstOtherwise cX0_firstOtherwise 4 (some .int) shRS [.ref 0, .ref 24, .int (nI p)] z (fun v z' => v = cI (sF1 (sOt tc r p it) n) ∧ KN z z') := by
  refine XM.of (by decide) (Nat.le_of_ble_eq_true rfl) (fun xp xe xs xm xar xbl xme xc xD xcs xad xAA xCC xhr => ?_)
  generalize xhQ : MQ xbl _ xar xs 0 0 xAA = xQ
  show ww xp l xe (xRm (d + 5)) xs xm xar xbl xme xc 4 xD xcs xad shRS xAA xQ 0 [(0, .ref 0), (1, .ref 24), (2, .int (nI p))] [] z
  refine ww_blk xCC okX0_firstOtherwise 0 2 (ps := []) (pc' := 2) (lv' := [(3, .int 0), (0, .ref 0), (1, .ref 24), (2, .int (nI p))]) (st' := []) (z' := z) rfl trivial ?_
  have L2 : ∀ (n2 : Nat) (i : Nat) (zL : xMem), n - i < n2 → (i ≤ n) → (KN z zL) → (sF1 (sOt tc r p it) i = 0) → ww xp l xe (xRm (d + 5)) xs xm xar xbl xme xc 4 xD xcs xad shRS xAA xQ 2 [(3, .int (nI i)), (0, .ref 0), (1, .ref 24), (2, .int (nI p))] [] zL := by
    intro n2
    induction n2 with
    | zero =>
      intro i zL hmu2
      exact absurd hmu2 (Nat.not_lt_zero _)
    | succ n2 ih2 =>
      intro i zL hmu2 e2_0 e2_1 e2_2
      have hrL := RX_N e2_1 hr
      have htL := TX_N e2_1 ht
      refine ww_blk xCC okX0_firstOtherwise 2 3 (ps := []) (pc' := 7) (lv' := [(3, .int (nI i)), (0, .ref 0), (1, .ref 24), (2, .int (nI p))]) (st' := [.int (zL.1 24 1), .int (nI i)]) (z' := zL) rfl trivial ?_
      rw [show zL.1 24 1 = nI n from (congrFun (e2_1 24 (by decide)) 1).trans h24]
      refine ww_br xCC okX0_firstOtherwise 5 (P := (nI n) ≤ (nI i)) (t1 := 39) (t2 := 10) (r := []) rfl (fun c1 => ?_) (fun c1 => ?_)
      · skip
        replace c1 : n ≤ i := (sLE (a := n) (b := i) (by omega) (by omega)).mp c1
        refine ww_blk xCC okX0_firstOtherwise 22 1 (ps := []) (pc' := 40) (lv' := [(3, .int (nI i)), (0, .ref 0), (1, .ref 24), (2, .int (nI p))]) (st' := [.int (-1)]) (z' := zL) rfl trivial ?_
        subst xhQ
        exact ww_iret xCC okX0_firstOtherwise 23 xhr rfl rfl ⟨_, rfl, ⟨(by rw [show n = i by omega, e2_2]; rfl), e2_1⟩⟩
      · skip
        replace c1 : ¬ n ≤ i := fun q => c1 ((sLE (a := n) (b := i) (by omega) (by omega)).mpr q)
        refine ww_blk xCC okX0_firstOtherwise 6 2 (ps := []) (pc' := 13) (lv' := [(3, .int (nI i)), (0, .ref 0), (1, .ref 24), (2, .int (nI p))]) (st' := [.int 10, .int (nI i)]) (z' := zL) rfl trivial ?_
        refine ww_br xCC okX0_firstOtherwise 8 (P := 10 ≤ (nI i)) (t1 := 39) (t2 := 16) (r := []) rfl (fun c2 => ?_) (fun c2 => ?_)
        · skip
          replace c2 : 10 ≤ i := (sLE (a := 10) (b := i) (by omega) (by omega)).mp c2
          refine ww_blk xCC okX0_firstOtherwise 22 1 (ps := []) (pc' := 40) (lv' := [(3, .int (nI i)), (0, .ref 0), (1, .ref 24), (2, .int (nI p))]) (st' := [.int (-1)]) (z' := zL) rfl trivial ?_
          subst xhQ
          exact ww_iret xCC okX0_firstOtherwise 23 xhr rfl rfl ⟨_, rfl, ⟨(by rw [show n = i by omega, e2_2]; rfl), e2_1⟩⟩
        · skip
          replace c2 : ¬ 10 ≤ i := fun q => c2 ((sLE (a := 10) (b := i) (by omega) (by omega)).mpr q)
          refine ww_blk xCC okX0_firstOtherwise 9 7 (ps := [vp_in (nI i) 40]) (pc' := 25) (lv' := [(3, .int (nI i)), (0, .ref 0), (1, .ref 24), (2, .int (nI p))]) (st' := [.int (nI i), .int (nI p), .ref 0, .int (zL.1 25 (nI i).toNatClampNeg)]) (z' := zL) rfl (vp_in_nI (by omega) (by decide)) ?_
          rw [sCL (n := i) (by omega)]
          rw [show zL.1 25 i = it i from (congrFun (e2_1 25 (by decide)) i).trans (hit i (by omega))]
          refine ww_callVEi xCC okX0_firstOtherwise 16 (ix := 115) (t_X0_costsOrNone l d p i (xPull esRS zL) r cnt tc (RX_pull (by decide) hrL) hw (TX_pull (by decide) htL) hp (by omega)) (by omega) (by decide) xyX0_costsOrNone xiX0_costsOrNone (Or.inl (lw_gt_of (List.mem_of_getElem? (i := 700) (by decide +kernel)) rfl)) (by decide +kernel) (by decide) (fun q => by cases q) (q0 := 0) rfl rfl rfl rfl (rest := [.int (it i)]) rfl (Nat.le_of_ble_eq_true rfl) rfl (fun vC zC hC => ?_)
          rw [hC.1]
          have hKC := KN_back (rw := xHasRaw shR) hC.2
          refine ww_br xCC okX0_firstOtherwise 17 (P := (it i) = (sCn tc r p i)) (t1 := 33) (t2 := 31) (r := []) rfl (fun c3 => ?_) (fun c3 => ?_)
          · skip
            have h28 := c3
            refine ww_blk xCC okX0_firstOtherwise 20 2 (ps := []) (pc' := 2) (lv' := [(3, .int ((nI i) + 1)), (0, .ref 0), (1, .ref 24), (2, .int (nI p))]) (st' := []) (z' := (xBack esRS (xHasRaw shR) zL zC)) rfl trivial ?_
            rw [show nI i + (1 : Int32) = nI (i + 1) from nI_add i 1]
            exact ww_cut [0, 1, 2, 3] (xlc rfl (xlc rfl (xlc rfl (xlc rfl rfl)))) rfl rfl (ih2 (i + 1) (xBack esRS (xHasRaw shR) zL zC) (by omega) (by omega) (KN_tr e2_1 hKC) (sF1_n e2_2 (by unfold sOt; rw [decide_eq_true h28.symm]; rfl)))
          · skip
            have h28 := c3
            refine ww_blk xCC okX0_firstOtherwise 18 1 (ps := []) (pc' := 32) (lv' := [(3, .int (nI i)), (0, .ref 0), (1, .ref 24), (2, .int (nI p))]) (st' := [.int (nI i)]) (z' := (xBack esRS (xHasRaw shR) zL zC)) rfl trivial ?_
            subst xhQ
            exact ww_iret xCC okX0_firstOtherwise 19 xhr rfl rfl ⟨_, rfl, ⟨(by rw [sF1_at e2_2 (show i < n by omega) (by unfold sOt; rw [decide_eq_false (fun q => h28 q.symm)]; rfl)]; exact cI_s i), KN_tr e2_1 hKC⟩⟩
  exact ww_cut [0, 1, 2, 3] (xlc (congrArg Value.int (show (0 : Int32) = nI 0 from rfl)) (xlc rfl (xlc rfl (xlc rfl rfl)))) rfl rfl (L2 (n - 0 + 1) 0 z (Nat.lt_succ_self _) (by omega) (KN_rf z) rfl)
