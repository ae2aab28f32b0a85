/-! the class's years -/
theorem sAl_tb (f : Nat → Nat) : ∀ k i, (sAl f k).testBit i = (decide (i < k) && decide (0 < f i))
  | 0, i => by simp [sAl]
  | k + 1, i => by
    rw [sAl]
    by_cases h : 0 < f k
    · rw [if_pos h, sOr2 (sAl_lt f k), Nat.testBit_or, Nat.testBit_two_pow, sAl_tb f k i]
      by_cases e : k = i
      · subst e; simp [h]
      · have e1 : (i < k + 1) ↔ (i < k) := by omega
        simp [e, e1]
    · rw [if_neg h, sAl_tb f k i]
      by_cases e : k = i
      · subst e; simp [h]
      · have e1 : (i < k + 1) ↔ (i < k) := by omega
        simp [e1]
/-- what is broken is alive -/
def sSub (r : sR) : Prop := ∀ i, (r 7 0).testBit i = true → i < 8 ∧ 0 < r 0 i
theorem sSub_and {r : sR} {f : Nat → Nat} (h : ∀ i, (r 7 0).testBit i = true → i < 8 ∧ 0 < f i) : r 7 0 &&& sAl f 8 = r 7 0 := by
  apply Nat.eq_of_testBit_eq
  intro i
  rw [Nat.testBit_and, sAl_tb]
  by_cases e : (r 7 0).testBit i = true
  · obtain ⟨h1, h2⟩ := h i e
    simp [e, h1, h2]
  · simp only [Bool.not_eq_true] at e
    rw [e]; rfl
theorem sAl_up {f : Nat → Nat} {o v : Nat} (ho : o < 8) (hv : 0 < v) : sAl (fun i => if i = o then v else f i) 8 = sAl f 8 ||| 2 ^ o := by
  apply Nat.eq_of_testBit_eq
  intro i
  rw [Nat.testBit_or, Nat.testBit_two_pow, sAl_tb, sAl_tb]
  by_cases e : i = o
  · subst e; simp [ho, hv]
  · have e2 : ¬ o = i := fun q => e q.symm
    simp [e, e2]
theorem sAl_dn {f : Nat → Nat} {o v : Nat} (ho : o < 8) (hv : v = 0) : sAl (fun i => if i = o then v else f i) 8 = sAl f 8 &&& (2 ^ o ^^^ 1023) := by
  apply Nat.eq_of_testBit_eq
  intro i
  rw [Nat.testBit_and, Nat.testBit_xor, Nat.testBit_two_pow, sAl_tb, sAl_tb]
  have h1 : ∀ i, i < 8 → Nat.testBit 1023 i = true := by decide
  by_cases h8 : i < 8
  · by_cases e : i = o
    · subst e; simp [hv, h1 i h8]
    · have e2 : ¬ o = i := fun q => e q.symm
      simp [e, e2, h1 i h8]
  · simp [h8]
/-- nothing changed but the republic itself, and the stack -/
def KQ (z z' : xMem) : Prop := ∀ q, 8 ≤ q → q ≠ 23 → z'.1 q = z.1 q
theorem KQ_rf (z : xMem) : KQ z z := fun _ _ _ => rfl
theorem KQ_tr {a b c : xMem} (h1 : KQ a b) (h2 : KQ b c) : KQ a c := fun q h h' => (h2 q h h').trans (h1 q h h')
theorem KQ_N {a b : xMem} (h : KN a b) : KQ a b := fun q _ h' => h q h'
theorem KQ_q {a b : xMem} {q0 j : Nat} {x : Int32} (h0 : q0 < 8) (h : KQ a b) : KQ a (mPut b q0 j x) := fun q h1 h2 => (mPut_nq (by omega)).trans (h q h1 h2)
theorem KQ_0 {a b : xMem} {j : Nat} {x : Int32} (h : KQ a b) : KQ a (mPut b 0 j x) := KQ_q (by decide) h
theorem KQ_1 {a b : xMem} {j : Nat} {x : Int32} (h : KQ a b) : KQ a (mPut b 1 j x) := KQ_q (by decide) h
theorem KQ_6 {a b : xMem} {j : Nat} {x : Int32} (h : KQ a b) : KQ a (mPut b 6 j x) := KQ_q (by decide) h
theorem KQ_7 {a b : xMem} {j : Nat} {x : Int32} (h : KQ a b) : KQ a (mPut b 7 j x) := KQ_q (by decide) h
theorem TX_Q {z z' : xMem} {cnt : Nat} {tc : Nat → sTc} (h : KQ z z') (ht : TX z 8 cnt tc) : TX z' 8 cnt tc := TX_of (fun k hk => h _ (by omega) (by omega)) ht
theorem RX_pl1 {z : xMem} {r : sR} {o v : Nat} (hr : RX z 0 r) (ho : o < 8) (hv : 0 < v) (hS : sSub r) : RX (mPut (mPut z 1 o (nI v)) 0 2 (nI (sAl (r 0) 8 ||| 2 ^ o))) 0 (sLay r 0 o v) := by
  have e0 : sLay r 0 o v 0 = fun i => if i = o then v else r 0 i := by funext i; simp [sLay]
  have eS : r 7 0 &&& sAl (fun i => if i = o then v else r 0 i) 8 = r 7 0 := sSub_and (fun i hi => ⟨(hS i hi).1, by have q := (hS i hi).2; show 0 < (if i = o then v else r 0 i); split <;> omega⟩)
  obtain ⟨a1, a2, a3, a4, a5, a6, a7, c1, c2, c3, c4, c5, c6, c7⟩ := hr
  refine ⟨fun j => ?_, fun j => ?_, fun j => ?_, fun j => ?_, fun j => ?_, fun j => ?_, fun j => ?_, ?_, ?_, ?_, ?_, ?_, ?_, ?_⟩
  all_goals simp only [Nat.zero_add] at a1 a2 a3 a4 a5 a6 a7 ⊢
  · by_cases q : j = o <;> simp [mPut_rd, sLay, a1, q]
  · simp [mPut_rd, sLay, a2]
  · simp [mPut_rd, sLay, a3]
  · simp [mPut_rd, sLay, a4]
  · simp [mPut_rd, sLay, a5]
  · simp [mPut_rd, sLay, a6]
  · simp [mPut_rd, sLay, a7]
  · rw [e0, sAl_up ho hv]; simp [mPut_rd]
  · simp [mPut_rd, sLay, eS, c2]
  · simp [mPut_rd, sLay, c3]
  · simp [mPut_rd, sLay, c4]
  · simp [mPut_rd, sLay, c5]
  · simp [mPut_rd, sLay, c6]
  · simp [mPut_rd, sLay, c7]
theorem RX_pl0 {z : xMem} {r : sR} {o v : Nat} (hr : RX z 0 r) (ho : o < 8) (hv : v = 0) : RX (mPut (mPut (mPut z 1 o (nI v)) 0 2 (nI (sAl (r 0) 8 &&& (2 ^ o ^^^ 1023)))) 0 3 (nI (r 7 0 &&& (sAl (r 0) 8 &&& (2 ^ o ^^^ 1023))))) 0 (sLay r 0 o v) := by
  have e0 : sLay r 0 o v 0 = fun i => if i = o then v else r 0 i := by funext i; simp [sLay]
  obtain ⟨a1, a2, a3, a4, a5, a6, a7, c1, c2, c3, c4, c5, c6, c7⟩ := hr
  refine ⟨fun j => ?_, fun j => ?_, fun j => ?_, fun j => ?_, fun j => ?_, fun j => ?_, fun j => ?_, ?_, ?_, ?_, ?_, ?_, ?_, ?_⟩
  all_goals simp only [Nat.zero_add] at a1 a2 a3 a4 a5 a6 a7 ⊢
  · by_cases q : j = o <;> simp [mPut_rd, sLay, a1, q]
  · simp [mPut_rd, sLay, a2]
  · simp [mPut_rd, sLay, a3]
  · simp [mPut_rd, sLay, a4]
  · simp [mPut_rd, sLay, a5]
  · simp [mPut_rd, sLay, a6]
  · simp [mPut_rd, sLay, a7]
  · rw [e0, sAl_dn ho hv]; simp [mPut_rd]
  · rw [← sAl_dn (f := r 0) ho hv]; simp [mPut_rd, sLay]
  · simp [mPut_rd, sLay, c3]
  · simp [mPut_rd, sLay, c4]
  · simp [mPut_rd, sLay, c5]
  · simp [mPut_rd, sLay, c6]
  · simp [mPut_rd, sLay, c7]
theorem sE1_row {r : sR} {k j : Nat} : sE1 r k 0 j = if j < k then sEl r j else r 0 j := by simp [sE1]
theorem sSub_e1 {r : sR} {cnt : Nat} (hS : sSub r) (hw : sW r cnt) (k : Nat) : sSub (sE1 r k) := by
  intro i hi
  have e7 : sE1 r k 7 0 = r 7 0 := by simp [sE1]
  rw [e7] at hi
  obtain ⟨h1, h2⟩ := hS i hi
  have h3 := hw.2.2.1
  refine ⟨h1, ?_⟩
  rw [sE1_row]
  split
  · unfold sEl
    rw [if_neg (by omega), if_pos hi]; omega
  · exact h2
theorem sE1_lay {r : sR} {i v : Nat} (hv : v = sEl r i) (hb : r 7 0 &&& sAl (sE1 r (i + 1) 0) 8 = r 7 0) : sLay (sE1 r i) 0 i v = sE1 r (i + 1) := by
  have e0 : (fun j => if j = i then v else sE1 r i 0 j) = sE1 r (i + 1) 0 := by
    funext j
    rw [sE1_row, sE1_row, hv]
    by_cases e : j = i
    · rw [if_pos e, if_pos (by omega), e]
    · rw [if_neg e]
      by_cases e2 : j < i
      · rw [if_pos e2, if_pos (by omega)]
      · rw [if_neg e2, if_neg (by omega)]
  funext q j
  unfold sLay
  rw [if_pos rfl]
  by_cases h1 : q = 0
  · subst h1
    by_cases h2 : j = i
    · rw [if_pos ⟨rfl, h2⟩, sE1_row, if_pos (by omega), hv, h2]
    · rw [if_neg (fun w => h2 w.2), if_neg (fun w => absurd w.1 (by decide)), sE1_row, sE1_row]
      by_cases e2 : j < i
      · rw [if_pos e2, if_pos (by omega)]
      · rw [if_neg e2, if_neg (by omega)]
  · rw [if_neg (fun w => h1 w.1)]
    by_cases h2 : q = 7 ∧ j = 0
    · rw [if_pos h2, e0, h2.1, h2.2, show sE1 r i 7 0 = r 7 0 by simp [sE1], hb]
      simp [sE1]
    · rw [if_neg h2]
      simp [sE1, h1]
theorem sE1_pt {r s : sR} {cnt i : Nat} (hS : sSub r) (hw : sW r cnt) (hi : i < 8) (h : (sE1 r i 7 0).testBit i = true) (hs : s = sE1 r i) : sLay s 0 i (s 7 1) = sE1 r (i + 1) := by
  subst hs
  have e7 : sE1 r i 7 0 = r 7 0 := by simp [sE1]
  have e71 : sE1 r i 7 1 = r 7 1 := by simp [sE1]
  rw [e7] at h
  have h2 := (hS i h).2
  refine sE1_lay ?_ (sSub_and (fun j hj => ?_))
  · rw [e71]; unfold sEl; rw [if_neg (by omega), if_pos h]
  · have := sSub_e1 hS hw (i + 1) j (by rw [show sE1 r (i + 1) 7 0 = r 7 0 by simp [sE1]]; exact hj)
    exact this
theorem sE1_pf {r s : sR} {cnt i : Nat} (hS : sSub r) (hw : sW r cnt) (hi : i < 8) (h : (sE1 r i 7 0).testBit i = false) (hs : s = sE1 r i) (h0 : ¬ s 0 i = 0) : sLay s 0 i (s 0 i - 1) = sE1 r (i + 1) := by
  subst hs
  have e7 : sE1 r i 7 0 = r 7 0 := by simp [sE1]
  have e0 : sE1 r i 0 i = r 0 i := by simp [sE1]
  rw [e7] at h
  rw [e0] at h0 ⊢
  refine sE1_lay ?_ (sSub_and (fun j hj => ?_))
  · unfold sEl; rw [if_neg h0, if_neg (by rw [h]; decide)]
  · have := sSub_e1 hS hw (i + 1) j (by rw [show sE1 r (i + 1) 7 0 = r 7 0 by simp [sE1]]; exact hj)
    exact this
theorem sE1_no {r : sR} {i : Nat} (h : r 0 i = 0) : sE1 r (i + 1) = sE1 r i := by
  funext q j
  by_cases h1 : q = 0
  · subst h1
    rw [sE1_row, sE1_row]
    by_cases e : j = i
    · subst e
      rw [if_pos (by omega), if_neg (by omega)]
      unfold sEl
      rw [if_pos h, h]
    · by_cases e2 : j < i
      · rw [if_pos e2, if_pos (by omega)]
      · rw [if_neg e2, if_neg (by omega)]
  · simp [sE1, h1]
def sE4 (r : sR) (k : Nat) : sR := fun q j => if q = 7 ∧ j = 0 then 0 else if q = 5 ∧ j < k then r 5 j - 1 else sE1 r 8 q j
theorem sE4_0 {r : sR} {i : Nat} (hi : i = 8) : sE4 r 0 = fun q j => if q = 7 ∧ j = 0 then 0 else sE1 r i q j := by
  subst hi
  funext q j
  simp [sE4]
theorem sE4_no {r : sR} {k : Nat} (h : r 5 k = 0) : sE4 r (k + 1) = sE4 r k := by
  funext q j
  by_cases e : q = 5 ∧ j = k
  · obtain ⟨rfl, rfl⟩ := e
    simp [sE4, sE1, h]
  · have e2 : (q = 5 ∧ j < k + 1) ↔ (q = 5 ∧ j < k) := by omega
    simp only [sE4, e2]
theorem sE4_s {r u : sR} {k : Nat} (hu : u = sE4 r k) : sE4 r (k + 1) = fun q j => if q = 5 ∧ j = k then u 5 k - 1 else u q j := by
  subst hu
  funext q j
  by_cases e : q = 5 ∧ j = k
  · obtain ⟨rfl, rfl⟩ := e
    simp [sE4, sE1]
  · have e2 : (q = 5 ∧ j < k + 1) ↔ (q = 5 ∧ j < k) := by omega
    rw [if_neg e]
    simp only [sE4, e2]
theorem sE4_row0 {r : sR} {k : Nat} : sE4 r k 0 = sE1 r 8 0 := by funext j; simp [sE4]
theorem sEnd_row0 {r : sR} : sEnd r 0 = sE1 r 8 0 := by funext j; simp [sEnd, sE2]
theorem sEnd_4 {r : sR} {k : Nat} (hk : k = r 7 4) : sEnd r = fun q j => if q = 7 ∧ j = 2 then sE4 r k 7 2 + 1 else sE4 r k q j := by
  subst hk
  funext q j
  by_cases e : q = 7 ∧ j = 2
  · obtain ⟨rfl, rfl⟩ := e
    simp [sEnd, sE4, sE1]
  · rw [if_neg e]
    by_cases e2 : q = 7 ∧ j = 0
    · obtain ⟨rfl, rfl⟩ := e2
      simp [sEnd, sE4]
    · simp only [sEnd, sE4, sE2, if_neg e, if_neg e2]
theorem sSub_end (r : sR) : sSub (sEnd r) := by
  intro i hi
  rw [show sEnd r 7 0 = 0 by simp [sEnd]] at hi
  simp at hi
theorem sSub_done {tc : Nat → sTc} {r : sR} {p e : Nat} (h : sSub r) : sSub (sDone tc r p e) := by
  intro i hi
  rw [show sDone tc r p e 7 0 = r 7 0 ||| (r 1 e &&& sAl (r 0) 8) by simp [sDone], Nat.testBit_or, Nat.testBit_and, sAl_tb] at hi
  show i < 8 ∧ 0 < r 0 i
  simp only [Bool.or_eq_true, Bool.and_eq_true, decide_eq_true_eq] at hi
  rcases hi with hi | hi
  · exact h i hi
  · exact hi.2
theorem sCan_no {tc : Nat → sTc} {r : sR} {p e : Nat} (h : sDares tc r p e = false) : sCan tc r p e = false := by simp [sCan, h]
theorem sCan_yes {tc : Nat → sTc} {r : sR} {p e : Nat} (h0 : r 5 p = 0) (h : sDares tc r p e = true) : sCan tc r p e = true := by simp [sCan, h, h0]
theorem sFi_none {f : Nat → Bool} (h : ∀ e, f e = false) : ∀ k, sFi f k = 10
  | 0 => rfl
  | k + 1 => by rw [sFi, sFi_none h k, if_neg (by decide), if_neg (by rw [h]; decide)]
theorem sFi_sit {tc : Nat → sTc} {r : sR} {p : Nat} (h : ¬ r 5 p = 0) : -1 = fI (sFi (sWill tc r p) 10) := by
  rw [sFi_none (fun e => sWill_b (by simp [sCan, h]))]
  rfl
theorem sFi_at {f : Nat → Bool} {i : Nat} (h : fI (sFi f i) = -1) (hi : i < 10) (hf : f i = true) : nI i = fI (sFi f 10) := by
  have e1 := sFi_y h hi hf
  have e2 : sFi f (i + 1) = i := by
    have := fI_m h
    rw [sFi, if_neg this, if_pos hf]
  have e3 := sFi_st (f := f) (i := i + 1) (by rw [e2]; exact hi) (10 - (i + 1))
  rw [show i + 1 + (10 - (i + 1)) = 10 by omega] at e3
  rw [e3]
  exact e1
theorem RX_b0 {z : xMem} {r : sR} (hr : RX z 0 r) : RX (mPut z 0 3 0) 0 (fun q j => if q = 7 ∧ j = 0 then 0 else r q j) := by
  obtain ⟨a1, a2, a3, a4, a5, a6, a7, c1, c2, c3, c4, c5, c6, c7⟩ := hr
  refine ⟨fun j => ?_, fun j => ?_, fun j => ?_, fun j => ?_, fun j => ?_, fun j => ?_, fun j => ?_, ?_, ?_, ?_, ?_, ?_, ?_, ?_⟩
  all_goals simp only [Nat.zero_add] at a1 a2 a3 a4 a5 a6 a7 ⊢
  · simp [mPut_rd, nI_0, a1]
  · simp [mPut_rd, nI_0, a2]
  · simp [mPut_rd, nI_0, a3]
  · simp [mPut_rd, nI_0, a4]
  · simp [mPut_rd, nI_0, a5]
  · simp [mPut_rd, nI_0, a6]
  · simp [mPut_rd, nI_0, a7]
  · simp [mPut_rd, nI_0, c1]
  · simp [mPut_rd, nI_0, c2]
  · simp [mPut_rd, nI_0, c3]
  · simp [mPut_rd, nI_0, c4]
  · simp [mPut_rd, nI_0, c5]
  · simp [mPut_rd, nI_0, c6]
  · simp [mPut_rd, nI_0, c7]
theorem RX_6 {z : xMem} {s u : sR} {k : Nat} (hr : RX z 0 s) (hu : u = s) : RX (mPut z 6 k (nI (u 5 k - 1))) 0 (fun q j => if q = 5 ∧ j = k then u 5 k - 1 else u q j) := by
  subst hu
  obtain ⟨a1, a2, a3, a4, a5, a6, a7, c1, c2, c3, c4, c5, c6, c7⟩ := hr
  refine ⟨fun j => ?_, fun j => ?_, fun j => ?_, fun j => ?_, fun j => ?_, fun j => ?_, fun j => ?_, ?_, ?_, ?_, ?_, ?_, ?_, ?_⟩
  all_goals simp only [Nat.zero_add] at a1 a2 a3 a4 a5 a6 a7 ⊢
  · simp [mPut_rd, a1]
  · simp [mPut_rd, a2]
  · simp [mPut_rd, a3]
  · simp [mPut_rd, a4]
  · simp [mPut_rd, a5]
  · by_cases q : j = k <;> simp [mPut_rd, a6, q]
  · simp [mPut_rd, a7]
  · simp [mPut_rd, c1]
  · simp [mPut_rd, c2]
  · simp [mPut_rd, c3]
  · simp [mPut_rd, c4]
  · simp [mPut_rd, c5]
  · simp [mPut_rd, c6]
  · simp [mPut_rd, c7]
theorem RX_yr {z : xMem} {r : sR} (hr : RX z 0 r) : RX (mPut z 0 5 (nI (r 7 2 + 1))) 0 (fun q j => if q = 7 ∧ j = 2 then r 7 2 + 1 else r q j) := by
  obtain ⟨a1, a2, a3, a4, a5, a6, a7, c1, c2, c3, c4, c5, c6, c7⟩ := hr
  refine ⟨fun j => ?_, fun j => ?_, fun j => ?_, fun j => ?_, fun j => ?_, fun j => ?_, fun j => ?_, ?_, ?_, ?_, ?_, ?_, ?_, ?_⟩
  all_goals simp only [Nat.zero_add] at a1 a2 a3 a4 a5 a6 a7 ⊢
  · simp [mPut_rd, nI_0, a1]
  · simp [mPut_rd, nI_0, a2]
  · simp [mPut_rd, nI_0, a3]
  · simp [mPut_rd, nI_0, a4]
  · simp [mPut_rd, nI_0, a5]
  · simp [mPut_rd, nI_0, a6]
  · simp [mPut_rd, nI_0, a7]
  · simp [mPut_rd, nI_0, c1]
  · simp [mPut_rd, nI_0, c2]
  · simp [mPut_rd, nI_0, c3]
  · simp [mPut_rd, nI_0, c4]
  · simp [mPut_rd, nI_0, c5]
  · simp [mPut_rd, nI_0, c6]
  · simp [mPut_rd, nI_0, c7]
theorem RX_brk {z : xMem} {r : sR} {a : Nat} (hr : RX z 0 r) : RX (mPut z 0 3 (nI (r 7 0 ||| (a &&& sAl (r 0) 8)))) 0 (sBrk r a) := by
  have e0 : sBrk r a 0 = r 0 := by funext j; simp [sBrk]
  obtain ⟨a1, a2, a3, a4, a5, a6, a7, c1, c2, c3, c4, c5, c6, c7⟩ := hr
  refine ⟨fun j => ?_, fun j => ?_, fun j => ?_, fun j => ?_, fun j => ?_, fun j => ?_, fun j => ?_, ?_, ?_, ?_, ?_, ?_, ?_, ?_⟩
  all_goals simp only [Nat.zero_add] at a1 a2 a3 a4 a5 a6 a7 ⊢
  · simp [mPut_rd, sBrk, a1]
  · simp [mPut_rd, sBrk, a2]
  · simp [mPut_rd, sBrk, a3]
  · simp [mPut_rd, sBrk, a4]
  · simp [mPut_rd, sBrk, a5]
  · simp [mPut_rd, sBrk, a6]
  · simp [mPut_rd, sBrk, a7]
  · rw [e0]; simp [mPut_rd, c1]
  · simp [mPut_rd, sBrk, c2]
  · simp [mPut_rd, sBrk, c3]
  · simp [mPut_rd, sBrk, c4]
  · simp [mPut_rd, sBrk, c5]
  · simp [mPut_rd, sBrk, c6]
  · simp [mPut_rd, sBrk, c7]
theorem sAp_74 (tc : Nat → sTc) (r : sR) : ∀ k, (sAp tc r k).1 7 4 = r 7 4
  | 0 => rfl
  | k + 1 => by
    have h := sAp_74 tc r k
    rw [sAp]
    split
    · exact h
    · exact h
theorem sTn_N {x : Nat} (h : x < 2 ^ 31) : sTn (nI x) = x := by unfold sTn; exact sTN h
theorem RX_done {z : xMem} {tc : Nat → sTc} {r : sR} {p e : Nat} (hr : RX z 0 (sBrk r (r 1 e))) (h1 : r 7 3 ≤ 99999) (h2 : cN tc r p e ≤ 999) (h3 : r 6 p ≤ 99 ∧ 0 ≤ 1) : RX (mPut (mPut (mPut z 0 6 (nI (min 99999 (r 7 3 + cN tc r p e)))) 6 p (sSits tc r p e)) 7 p (nI (min 99 (r 6 p + 1)))) 0 (sDone tc r p e) := by
  have e1 : sTn (sWi (nI (r 7 3) + sCosts tc r p e) 0 99999) = min 99999 (r 7 3 + cN tc r p e) := by rw [cN_eq, nI_add, show (99999 : Int32) = nI 99999 from rfl, sWi_N (by omega) (by decide), sTn_N (by omega)]
  have e2 : sTn (sWi (nI (r 6 p) + 1) 0 99) = min 99 (r 6 p + 1) := by rw [show nI (r 6 p) + 1 = nI (r 6 p + 1) from nI_add _ 1, show (99 : Int32) = nI 99 from rfl, sWi_N (by omega) (by decide), sTn_N (by omega)]
  have e3 : sSits tc r p e = nI (sTn (sSits tc r p e)) := sSits_n tc r p e
  have e4 : sDone tc r p e 0 = sBrk r (r 1 e) 0 := by funext j; simp [sDone, sBrk]
  obtain ⟨a1, a2, a3, a4, a5, a6, a7, c1, c2, c3, c4, c5, c6, c7⟩ := hr
  refine ⟨fun j => ?_, fun j => ?_, fun j => ?_, fun j => ?_, fun j => ?_, fun j => ?_, fun j => ?_, ?_, ?_, ?_, ?_, ?_, ?_, ?_⟩
  all_goals simp only [Nat.zero_add] at a1 a2 a3 a4 a5 a6 a7 ⊢
  · simp [mPut_rd, sDone, sBrk, a1]
  · simp [mPut_rd, sDone, sBrk, a2]
  · simp [mPut_rd, sDone, sBrk, a3]
  · simp [mPut_rd, sDone, sBrk, a4]
  · simp [mPut_rd, sDone, sBrk, a5]
  · by_cases q : j = p
    · subst q; simp [mPut_rd, sDone]; exact e3
    · simp [mPut_rd, sDone, sBrk, a6, q]
  · by_cases q : j = p
    · subst q; simp [mPut_rd, sDone, e2]
    · simp [mPut_rd, sDone, sBrk, a7, q]
  · rw [e4]; simp [mPut_rd, c1]
  · simp [mPut_rd, sDone, c2]; simp [sBrk]
  · simp [mPut_rd, sDone, sBrk, c3]
  · simp [mPut_rd, sDone, sBrk, c4]
  · simp [mPut_rd, sDone, e1]
  · simp [mPut_rd, sDone, sBrk, c6]
  · simp [mPut_rd, sDone, sBrk, c7]
set_option maxHeartbeats 4000000 in
set_option maxRecDepth 20000 in
theorem t_X0_putLeft (l : Launch) (d : Nat) (o v : Nat) (z : xMem) (r : sR) (hr : RX z 0 r) (hS : sSub r) (ho : o < 8) (hv : v < 2 ^ 30) (h70 : r 7 0 < 256) : XMv l d yX0_putLeft cX0_putLeft 3 none shR [.ref 0, .int (nI o), .int (nI v)] z (fun z' => RX z' 0 (sLay r 0 o v) ∧ KQ z z') := by
  refine XM.of (by decide) (Nat.le_of_ble_eq_true rfl) (fun xp xe xs xm xar xbl xme xc xD xcs xad xAA xCC xhr => ?_)
  generalize xhQ : MQ xbl _ xar xs 0 0 xAA = xQ
  show ww xp l xe (xRm d) xs xm xar xbl xme xc 3 xD xcs xad shR xAA xQ 0 [(0, .ref 0), (1, .int (nI o)), (2, .int (nI v))] [] z
  have hA8 := sAl_lt (r 0) 8
  refine ww_blk xCC okX0_putLeft 0 6 (ps := [vp_in (nI o) 8]) (pc' := 8) (lv' := [(0, .ref 0), (1, .int (nI o)), (2, .int (nI v))]) (st' := [.int (nI v)]) (z' := (mPut z 1 (nI o).toNatClampNeg (nI v))) rfl (vp_in_nI (by omega) (by decide)) ?_
  rw [sCL (n := o) (by omega)]
  refine ww_br xCC okX0_putLeft 6 (P := (nI v) ≤ 0) (t1 := 26) (t2 := 11) (r := []) rfl (fun c1 => ?_) (fun c1 => ?_)
  · skip
    replace c1 : v ≤ 0 := (sLE (a := v) (b := 0) (by omega) (by omega)).mp c1
    refine ww_blk xCC okX0_putLeft 16 17 (ps := []) (pc' := 53) (lv' := [(0, .ref 0), (1, .int (nI o)), (2, .int (nI v))]) (st' := []) (z' := (mPut (mPut (mPut z 1 o (nI v)) 0 2 ((z.1 0 2) &&& ((1 <<< ((nI o) &&& 31)) ^^^ (-1)))) 0 3 ((z.1 0 3) &&& ((z.1 0 2) &&& ((1 <<< ((nI o) &&& 31)) ^^^ (-1)))))) rfl trivial ?_
    rw [sSh1 o (by omega)]
    rw [show z.1 0 2 = nI (sAl (r 0) 8) from hr.2.2.2.2.2.2.2.1]
    rw [show z.1 0 3 = nI (r 7 0) from hr.2.2.2.2.2.2.2.2.1]
    rw [fa_andn (a := (sAl (r 0) 8)) (b := (2 ^ o)) (by omega)]
    rw [fa_and (r 7 0) ((sAl (r 0) 8) &&& ((2 ^ o) ^^^ 1023))]
    subst xhQ
    exact ww_vret xCC okX0_putLeft 33 xhr rfl ⟨rfl, ⟨RX_pl0 (v := v) hr ho (by omega), KQ_0 (KQ_0 (KQ_1 (KQ_rf z)))⟩⟩
  · skip
    replace c1 : ¬ v ≤ 0 := fun q => c1 ((sLE (a := v) (b := 0) (by omega) (by omega)).mpr q)
    refine ww_blk xCC okX0_putLeft 7 9 (ps := []) (pc' := 53) (lv' := [(0, .ref 0), (1, .int (nI o)), (2, .int (nI v))]) (st' := []) (z' := (mPut (mPut z 1 o (nI v)) 0 2 ((z.1 0 2) ||| (1 <<< ((nI o) &&& 31))))) rfl trivial ?_
    rw [sSh1 o (by omega)]
    rw [show z.1 0 2 = nI (sAl (r 0) 8) from hr.2.2.2.2.2.2.2.1]
    rw [fa_or (sAl (r 0) 8) (2 ^ o)]
    subst xhQ
    exact ww_vret xCC okX0_putLeft 33 xhr rfl ⟨rfl, ⟨RX_pl1 (v := v) hr ho (by omega) hS, KQ_0 (KQ_1 (KQ_rf z))⟩⟩

set_option maxHeartbeats 4000000 in
set_option maxRecDepth 20000 in
theorem t_X0_endYear (l : Launch) (d : Nat) (z : xMem) (r : sR) (cnt : Nat) (hr : RX z 0 r) (hw : sW r cnt) (hS : sSub r) : XMi l (d + 1) yX0_endYear cX0_endYear 3 (some .int) shR [.ref 0] z (fun v z' => v = sEv r ∧ RX z' 0 (sEnd r) ∧ KQ z z') := by
  refine XM.of (by decide) (Nat.le_of_ble_eq_true rfl) (fun xp xe xs xm xar xbl xme xc xD xcs xad xAA xCC xhr => ?_)
  generalize xhQ : MQ xbl _ xar xs 0 0 xAA = xQ
  show ww xp l xe (xRm (d + 1)) xs xm xar xbl xme xc 3 xD xcs xad shR xAA xQ 0 [(0, .ref 0)] [] z
  have hb := hw.1
  have h70 := hw.2.1
  have h71 := hw.2.2.1
  have h719 := hw.2.2.2.1
  have h74 : r 7 4 ≤ 4 := hw.2.2.2.2.2.2.1
  have hY := hw.2.2.2.2.1
  refine ww_blk xCC okX0_endYear 0 5 (ps := []) (pc' := 7) (lv' := [(2, .int 0), (1, .int (z.1 0 2)), (0, .ref 0)]) (st' := []) (z' := z) rfl trivial ?_
  rw [show z.1 0 2 = nI (sAl (r 0) 8) from hr.2.2.2.2.2.2.2.1]
  have L7 : ∀ (n7 : Nat) (i : Nat) (zL : xMem), 8 - i < n7 → (i ≤ 8) → (RX zL 0 (sE1 r i)) → (KQ z zL) → ww xp l xe (xRm (d + 1)) xs xm xar xbl xme xc 3 xD xcs xad shR xAA xQ 7 [(2, .int (nI i)), (1, .int (nI (sAl (r 0) 8))), (0, .ref 0)] [] zL := by
    intro n7
    induction n7 with
    | zero =>
      intro i zL hmu7
      exact absurd hmu7 (Nat.not_lt_zero _)
    | succ n7 ih7 =>
      intro i zL hmu7 e7_0 e7_1 e7_2
      obtain ⟨s, hs⟩ : ∃ s, s = sE1 r i := ⟨_, rfl⟩
      have hrL : RX zL 0 s := hs ▸ e7_1
      have h7s : s 7 0 = r 7 0 ∧ s 7 1 = r 7 1 := by rw [hs]; exact ⟨by simp [sE1], by simp [sE1]⟩
      have hs0 : s 0 i = r 0 i := by rw [hs]; simp [sE1]
      have hsub : sSub s := hs ▸ sSub_e1 hS hw i
      have hbi := hb i
      refine ww_blk xCC okX0_endYear 5 2 (ps := []) (pc' := 10) (lv' := [(2, .int (nI i)), (1, .int (nI (sAl (r 0) 8))), (0, .ref 0)]) (st' := [.int 8, .int (nI i)]) (z' := zL) rfl trivial ?_
      refine ww_br xCC okX0_endYear 7 (P := 8 ≤ (nI i)) (t1 := 64) (t2 := 13) (r := []) rfl (fun c1 => ?_) (fun c1 => ?_)
      · skip
        replace c1 : 8 ≤ i := (sLE (a := 8) (b := i) (by omega) (by omega)).mp c1
        refine ww_blk xCC okX0_endYear 37 5 (ps := []) (pc' := 71) (lv' := [(2, .int 0), (1, .int (nI (sAl (r 0) 8))), (0, .ref 0)]) (st' := []) (z' := (mPut zL 0 3 0)) rfl trivial ?_
        have L71 : ∀ (n71 : Nat) (k : Nat) (zM : xMem), r 7 4 - k < n71 → (k ≤ r 7 4) → (RX zM 0 (sE4 r k)) → (KQ z zM) → ww xp l xe (xRm (d + 1)) xs xm xar xbl xme xc 3 xD xcs xad shR xAA xQ 71 [(2, .int (nI k)), (1, .int (nI (sAl (r 0) 8))), (0, .ref 0)] [] zM := by
          intro n71
          induction n71 with
          | zero =>
            intro k zM hmu71
            exact absurd hmu71 (Nat.not_lt_zero _)
          | succ n71 ih71 =>
            intro k zM hmu71 e71_0 e71_1 e71_2
            obtain ⟨u, hu⟩ : ∃ u, u = sE4 r k := ⟨_, rfl⟩
            have hrM : RX zM 0 u := hu ▸ e71_1
            have h7u : u 7 4 = r 7 4 ∧ u 7 2 = r 7 2 := by rw [hu]; exact ⟨by simp [sE4, sE1], by simp [sE4, sE1]⟩
            have hu5 : u 5 k = r 5 k := by rw [hu]; simp [sE4, sE1]
            have hbk := hb k
            skip
            refine ww_blk xCC okX0_endYear 42 3 (ps := []) (pc' := 76) (lv' := [(2, .int (nI k)), (1, .int (nI (sAl (r 0) 8))), (0, .ref 0)]) (st' := [.int (zM.1 0 9), .int (nI k)]) (z' := zM) rfl trivial ?_
            rw [show zM.1 0 9 = nI (u 7 4) from hrM.2.2.2.2.2.2.2.2.2.2.2.2.1]
            refine ww_br xCC okX0_endYear 45 (P := (nI (u 7 4)) ≤ (nI k)) (t1 := 104) (t2 := 79) (r := []) rfl (fun c2 => ?_) (fun c2 => ?_)
            · skip
              replace c2 : (u 7 4) ≤ k := (sLE (a := (u 7 4)) (b := k) (by omega) (by omega)).mp c2
              refine ww_blk xCC okX0_endYear 61 12 (ps := []) (pc' := 122) (lv' := [(2, .int (nI k)), (1, .int (nI (sAl (r 0) 8))), (0, .ref 0)]) (st' := [.int ((nI (sAl (r 0) 8)) &&& ((zM.1 0 2) ^^^ (-1)))]) (z' := (mPut zM 0 5 ((zM.1 0 5) + 1))) rfl trivial ?_
              rw [show zM.1 0 2 = nI (sAl (u 0) 8) from hrM.2.2.2.2.2.2.2.1]
              rw [show zM.1 0 5 = nI (u 7 2) from hrM.2.2.2.2.2.2.2.2.2.2.1]
              rw [show nI (u 7 2) + (1 : Int32) = nI ((u 7 2) + 1) from nI_add (u 7 2) 1]
              subst xhQ
              exact ww_iret xCC okX0_endYear 73 xhr rfl rfl ⟨_, rfl, ⟨(by unfold sEv; rw [sEnd_row0, hu, sE4_row0]), (by rw [sEnd_4 (show k = r 7 4 by omega), ← hu]; exact RX_yr hrM), KQ_0 e71_2⟩⟩
            · skip
              replace c2 : ¬ (u 7 4) ≤ k := fun q => c2 ((sLE (a := (u 7 4)) (b := k) (by omega) (by omega)).mpr q)
              refine ww_blk xCC okX0_endYear 46 4 (ps := [vp_in (nI k) 4]) (pc' := 85) (lv' := [(2, .int (nI k)), (1, .int (nI (sAl (r 0) 8))), (0, .ref 0)]) (st' := [.int (zM.1 6 (nI k).toNatClampNeg)]) (z' := zM) rfl (vp_in_nI (by omega) (by decide)) ?_
              rw [sCL (n := k) (by omega)]
              rw [show zM.1 6 k = nI (u 5 k) from hrM.2.2.2.2.2.1 k]
              refine ww_br xCC okX0_endYear 50 (P := (nI (u 5 k)) ≤ 0) (t1 := 98) (t2 := 88) (r := []) rfl (fun c3 => ?_) (fun c3 => ?_)
              · skip
                replace c3 : (u 5 k) ≤ 0 := (sLE (a := (u 5 k)) (b := 0) (by omega) (by omega)).mp c3
                have hc85 : u 5 k = 0 := by omega
                refine ww_blk xCC okX0_endYear 59 2 (ps := []) (pc' := 71) (lv' := [(2, .int ((nI k) + 1)), (1, .int (nI (sAl (r 0) 8))), (0, .ref 0)]) (st' := []) (z' := zM) rfl trivial ?_
                rw [show nI k + (1 : Int32) = nI (k + 1) from nI_add k 1]
                exact ww_cut [0, 1, 2] (xlc rfl (xlc rfl (xlc rfl rfl))) rfl rfl (ih71 (k + 1) zM (by omega) (by omega) (by rw [sE4_no (show r 5 k = 0 by rw [hu] at hc85; simpa [sE4, sE1] using hc85)]; exact e71_1) e71_2)
              · skip
                replace c3 : ¬ (u 5 k) ≤ 0 := fun q => c3 ((sLE (a := (u 5 k)) (b := 0) (by omega) (by omega)).mpr q)
                refine ww_blk xCC okX0_endYear 51 10 (ps := [vp_in (nI k) 4, vp_in (nI k) 4]) (pc' := 71) (lv' := [(2, .int ((nI k) + 1)), (1, .int (nI (sAl (r 0) 8))), (0, .ref 0)]) (st' := []) (z' := (mPut zM 6 (nI k).toNatClampNeg ((zM.1 6 (nI k).toNatClampNeg) - 1))) rfl ⟨(vp_in_nI (by omega) (by decide)), (vp_in_nI (by omega) (by decide))⟩ ?_
                rw [show nI k + (1 : Int32) = nI (k + 1) from nI_add k 1]
                rw [sCL (n := k) (by omega)]
                rw [show zM.1 6 k = nI (u 5 k) from hrM.2.2.2.2.2.1 k]
                rw [show nI (u 5 k) - 1 = nI ((u 5 k) - 1) from pk_sub (a := (u 5 k)) (b := 1) (by omega)]
                exact ww_cut [0, 1, 2] (xlc rfl (xlc rfl (xlc rfl rfl))) rfl rfl (ih71 (k + 1) (mPut zM 6 k (nI ((u 5 k) - 1))) (by omega) (by omega) (by rw [sE4_s hu]; exact RX_6 e71_1 hu) (KQ_6 e71_2))
        exact ww_cut [0, 1, 2] (xlc (congrArg Value.int (show (0 : Int32) = nI 0 from rfl)) (xlc rfl (xlc rfl rfl))) rfl rfl (L71 (r 7 4 - 0 + 1) 0 (mPut zL 0 3 0) (Nat.lt_succ_self _) (by omega) (by rw [sE4_0 (show i = 8 by omega)]; exact RX_b0 e7_1) (KQ_0 e7_2))
      · skip
        replace c1 : ¬ 8 ≤ i := fun q => c1 ((sLE (a := 8) (b := i) (by omega) (by omega)).mpr q)
        refine ww_blk xCC okX0_endYear 8 6 (ps := []) (pc' := 21) (lv' := [(2, .int (nI i)), (1, .int (nI (sAl (r 0) 8))), (0, .ref 0)]) (st' := [.int ((zL.1 0 3) &&& (1 <<< ((nI i) &&& 31)))]) (z' := zL) rfl trivial ?_
        rw [show zL.1 0 3 = nI (s 7 0) from hrL.2.2.2.2.2.2.2.2.1]
        refine ww_br xCC okX0_endYear 14 (P := ((nI (s 7 0)) &&& (1 <<< ((nI i) &&& 31))) = 0) (t1 := 36) (t2 := 24) (r := []) rfl (fun c4 => ?_) (fun c4 => ?_)
        · skip
          have h21 : ((s 7 0)).testBit i = false := (sAnd1 i (by omega) (s 7 0) (by omega)).mp c4
          refine ww_blk xCC okX0_endYear 21 4 (ps := [vp_in (nI i) 8]) (pc' := 42) (lv' := [(2, .int (nI i)), (1, .int (nI (sAl (r 0) 8))), (0, .ref 0)]) (st' := [.int (zL.1 1 (nI i).toNatClampNeg)]) (z' := zL) rfl (vp_in_nI (by omega) (by decide)) ?_
          rw [sCL (n := i) (by omega)]
          rw [show zL.1 1 i = nI (s 0 i) from hrL.1 i]
          refine ww_br xCC okX0_endYear 25 (P := (nI (s 0 i)) ≤ 0) (t1 := 58) (t2 := 45) (r := []) rfl (fun c5 => ?_) (fun c5 => ?_)
          · skip
            replace c5 : (s 0 i) ≤ 0 := (sLE (a := (s 0 i)) (b := 0) (by omega) (by omega)).mp c5
            have hc42 : s 0 i = 0 := by omega
            refine ww_blk xCC okX0_endYear 35 2 (ps := []) (pc' := 7) (lv' := [(2, .int ((nI i) + 1)), (1, .int (nI (sAl (r 0) 8))), (0, .ref 0)]) (st' := []) (z' := zL) rfl trivial ?_
            rw [show nI i + (1 : Int32) = nI (i + 1) from nI_add i 1]
            exact ww_cut [0, 1, 2] (xlc rfl (xlc rfl (xlc rfl rfl))) rfl rfl (ih7 (i + 1) zL (by omega) (by omega) (by rw [sE1_no (show r 0 i = 0 by rw [hs] at hc42; simpa [sE1] using hc42)]; exact e7_1) e7_2)
          · skip
            replace c5 : ¬ (s 0 i) ≤ 0 := fun q => c5 ((sLE (a := (s 0 i)) (b := 0) (by omega) (by omega)).mpr q)
            refine ww_blk xCC okX0_endYear 26 8 (ps := [vp_in (nI i) 8]) (pc' := 55) (lv' := [(2, .int (nI i)), (1, .int (nI (sAl (r 0) 8))), (0, .ref 0)]) (st' := [.int ((zL.1 1 (nI i).toNatClampNeg) - 1), .int (nI i), .ref 0]) (z' := zL) rfl (vp_in_nI (by omega) (by decide)) ?_
            rw [sCL (n := i) (by omega)]
            rw [show zL.1 1 i = nI (s 0 i) from hrL.1 i]
            rw [show nI (s 0 i) - 1 = nI ((s 0 i) - 1) from pk_sub (a := (s 0 i)) (b := 1) (by omega)]
            refine ww_callVIv xCC okX0_endYear 34 (ix := 69) (t_X0_putLeft l d i (s 0 i - 1) zL s hrL hsub (by omega) (by omega) (by omega)) (by omega) (by decide) xyX0_putLeft xiX0_putLeft (Or.inl (lw_gt_of (List.mem_of_getElem? (i := 400) (by decide +kernel)) rfl)) rfl rfl rfl (rest := []) rfl (Nat.le_of_ble_eq_true rfl) rfl (fun zP hP => ?_)
            refine ww_blk xCC okX0_endYear 35 2 (ps := []) (pc' := 7) (lv' := [(2, .int ((nI i) + 1)), (1, .int (nI (sAl (r 0) 8))), (0, .ref 0)]) (st' := []) (z' := zP) rfl trivial ?_
            rw [show nI i + (1 : Int32) = nI (i + 1) from nI_add i 1]
            exact ww_cut [0, 1, 2] (xlc rfl (xlc rfl (xlc rfl rfl))) rfl rfl (ih7 (i + 1) zP (by omega) (by omega) (by rw [← sE1_pf hS hw (by omega) (hs ▸ h21) hs (by omega)]; exact hP.1) (KQ_tr e7_2 hP.2))
        · skip
          have h21 : ((s 7 0)).testBit i = true := (Bool.eq_false_or_eq_true _).resolve_right (fun q => c4 ((sAnd1 i (by omega) (s 7 0) (by omega)).mpr q))
          refine ww_blk xCC okX0_endYear 15 4 (ps := []) (pc' := 30) (lv' := [(2, .int (nI i)), (1, .int (nI (sAl (r 0) 8))), (0, .ref 0)]) (st' := [.int (zL.1 0 4), .int (nI i), .ref 0]) (z' := zL) rfl trivial ?_
          rw [show zL.1 0 4 = nI (s 7 1) from hrL.2.2.2.2.2.2.2.2.2.1]
          refine ww_callVIv xCC okX0_endYear 19 (ix := 69) (t_X0_putLeft l d i (s 7 1) zL s hrL hsub (by omega) (by omega) (by omega)) (by omega) (by decide) xyX0_putLeft xiX0_putLeft (Or.inl (lw_gt_of (List.mem_of_getElem? (i := 400) (by decide +kernel)) rfl)) rfl rfl rfl (rest := []) rfl (Nat.le_of_ble_eq_true rfl) rfl (fun zP hP => ?_)
          refine ww_blk xCC okX0_endYear 20 1 (ps := []) (pc' := 58) (lv' := [(2, .int (nI i)), (1, .int (nI (sAl (r 0) 8))), (0, .ref 0)]) (st' := []) (z' := zP) rfl trivial ?_
          refine ww_blk xCC okX0_endYear 35 2 (ps := []) (pc' := 7) (lv' := [(2, .int ((nI i) + 1)), (1, .int (nI (sAl (r 0) 8))), (0, .ref 0)]) (st' := []) (z' := zP) rfl trivial ?_
          rw [show nI i + (1 : Int32) = nI (i + 1) from nI_add i 1]
          exact ww_cut [0, 1, 2] (xlc rfl (xlc rfl (xlc rfl rfl))) rfl rfl (ih7 (i + 1) zP (by omega) (by omega) (by rw [← sE1_pt hS hw (by omega) (hs ▸ h21) hs]; exact hP.1) (KQ_tr e7_2 hP.2))
  exact ww_cut [0, 1, 2] (xlc (congrArg Value.int (show (0 : Int32) = nI 0 from rfl)) (xlc rfl (xlc rfl rfl))) rfl rfl (L7 (8 - 0 + 1) 0 z (Nat.lt_succ_self _) (by omega) (by rw [sE1_0]; exact hr) (KQ_rf z))

set_option maxHeartbeats 4000000 in
set_option maxRecDepth 20000 in
theorem t_X0_breakBy (l : Launch) (d : Nat) (e : Nat) (z : xMem) (r : sR) (cnt : Nat) (hr : RX z 0 r) (hw : sW r cnt) (he : e < 10) : XMv l d yX0_breakBy cX0_breakBy 2 none shR [.ref 0, .int (nI e)] z (fun z' => RX z' 0 (sBrk r (r 1 e)) ∧ KQ z z') := by
  refine XM.of (by decide) (Nat.le_of_ble_eq_true rfl) (fun xp xe xs xm xar xbl xme xc xD xcs xad xAA xCC xhr => ?_)
  generalize xhQ : MQ xbl _ xar xs 0 0 xAA = xQ
  show ww xp l xe (xRm d) xs xm xar xbl xme xc 2 xD xcs xad shR xAA xQ 0 [(0, .ref 0), (1, .int (nI e))] [] z
  refine ww_blk xCC okX0_breakBy 0 12 (ps := [vp_in (nI e) 10]) (pc' := 20) (lv' := [(0, .ref 0), (1, .int (nI e))]) (st' := []) (z' := (mPut z 0 3 ((z.1 0 3) ||| ((z.1 2 (nI e).toNatClampNeg) &&& (z.1 0 2))))) rfl (vp_in_nI (by omega) (by decide)) ?_
  rw [sCL (n := e) (by omega)]
  rw [show z.1 2 e = nI (r 1 e) from hr.2.1 e]
  rw [show z.1 0 2 = nI (sAl (r 0) 8) from hr.2.2.2.2.2.2.2.1]
  rw [show z.1 0 3 = nI (r 7 0) from hr.2.2.2.2.2.2.2.2.1]
  rw [fa_and (r 1 e) (sAl (r 0) 8)]
  rw [fa_or (r 7 0) ((r 1 e) &&& (sAl (r 0) 8))]
  subst xhQ
  exact ww_vret xCC okX0_breakBy 12 xhr rfl ⟨rfl, ⟨RX_brk hr, KQ_0 (KQ_rf z)⟩⟩

set_option maxHeartbeats 4000000 in
set_option maxRecDepth 20000 in
theorem t_X0_commit (l : Launch) (d : Nat) (p e : Nat) (z : xMem) (r : sR) (cnt : Nat) (tc : Nat → sTc) (hr : RX z 0 r) (hw : sW r cnt) (ht : TX z 8 cnt tc) (hp : p < 4) (he : e < 10) : XMv l (d + 4) yX0_commit cX0_commit 5 none shR [.ref 0, .int (nI p), .int (nI e)] z (fun z' => RX z' 0 (sDone tc r p e) ∧ KQ z z') := by
  refine XM.of (by decide) (Nat.le_of_ble_eq_true rfl) (fun xp xe xs xm xar xbl xme xc xD xcs xad xAA xCC xhr => ?_)
  generalize xhQ : MQ xbl _ xar xs 0 0 xAA = xQ
  show ww xp l xe (xRm (d + 4)) xs xm xar xbl xme xc 5 xD xcs xad shR xAA xQ 0 [(0, .ref 0), (1, .int (nI p)), (2, .int (nI e))] [] z
  have hb := hw.1
  have hbe := hb e
  have hbp := hb p
  have hcn := cN_bd tc r p e
  have h73 := hw.2.2.2.2.2.1
  refine ww_blk xCC okX0_commit 0 3 (ps := []) (pc' := 3) (lv' := [(0, .ref 0), (1, .int (nI p)), (2, .int (nI e))]) (st' := [.int (nI e), .int (nI p), .ref 0]) (z' := z) rfl trivial ?_
  refine ww_callVIi xCC okX0_commit 3 (ix := 104) (t_X0_costs l d p e z r cnt tc hr hw ht (by omega) (by omega)) (by omega) (by decide) xyX0_costs xiX0_costs (Or.inl (lw_gt_of (List.mem_of_getElem? (i := 584) (by decide +kernel)) rfl)) rfl rfl rfl (rest := []) rfl (Nat.le_of_ble_eq_true rfl) rfl (fun v2 zS1 hS1 => ?_)
  have hrS1 := RX_N hS1.2 hr
  have htS1 := TX_N hS1.2 ht
  have hKS1 := KN_tr (KN_rf z) hS1.2
  rw [hS1.1]
  refine ww_blk xCC okX0_commit 4 4 (ps := []) (pc' := 10) (lv' := [(3, .int (sCosts tc r p e)), (0, .ref 0), (1, .int (nI p)), (2, .int (nI e))]) (st' := [.int (nI e), .int (nI p), .ref 0]) (z' := zS1) rfl trivial ?_
  rw [cN_eq]
  refine ww_callVIi xCC okX0_commit 8 (ix := 121) (t_X0_yearsFor l d p e zS1 r cnt tc hrS1 hw htS1 (by omega) (by omega)) (by omega) (by decide) xyX0_yearsFor xiX0_yearsFor (Or.inl (lw_gt_of (List.mem_of_getElem? (i := 585) (by decide +kernel)) rfl)) rfl rfl rfl (rest := []) rfl (Nat.le_of_ble_eq_true rfl) rfl (fun v4 zS3 hS3 => ?_)
  have hrS3 := RX_N hS3.2 hrS1
  have htS3 := TX_N hS3.2 htS1
  have hKS3 := KN_tr hKS1 hS3.2
  rw [hS3.1]
  refine ww_blk xCC okX0_commit 9 3 (ps := []) (pc' := 17) (lv' := [(4, .int (sSits tc r p e)), (3, .int (nI (cN tc r p e))), (0, .ref 0), (1, .int (nI p)), (2, .int (nI e))]) (st' := [.int (nI e), .ref 0]) (z' := zS3) rfl trivial ?_
  refine ww_callVIv xCC okX0_commit 12 (ix := 124) (t_X0_breakBy l d e zS3 r cnt hrS3 hw he) (by omega) (by decide) xyX0_breakBy xiX0_breakBy (Or.inl (lw_gt_of (List.mem_of_getElem? (i := 586) (by decide +kernel)) rfl)) rfl rfl rfl (rest := []) rfl (Nat.le_of_ble_eq_true rfl) rfl (fun zB hB => ?_)
  refine ww_blk xCC okX0_commit 13 25 (ps := [vp_in (nI p) 4, vp_in (nI p) 4, vp_in (nI p) 4]) (pc' := 62) (lv' := [(4, .int (sSits tc r p e)), (3, .int (nI (cN tc r p e))), (0, .ref 0), (1, .int (nI p)), (2, .int (nI e))]) (st' := []) (z' := (mPut (mPut (mPut zB 0 6 (if ((zB.1 0 6) + (nI (cN tc r p e))) < 99999 then ((zB.1 0 6) + (nI (cN tc r p e))) else 99999)) 6 (nI p).toNatClampNeg (sSits tc r p e)) 7 (nI p).toNatClampNeg (if ((zB.1 7 (nI p).toNatClampNeg) + 1) < 99 then ((zB.1 7 (nI p).toNatClampNeg) + 1) else 99))) rfl ⟨(vp_in_nI (by omega) (by decide)), (vp_in_nI (by omega) (by decide)), (vp_in_nI (by omega) (by decide))⟩ ?_
  rw [sCL (n := p) (by omega)]
  rw [show zB.1 0 6 = nI (r 7 3) from hB.1.2.2.2.2.2.2.2.2.2.2.2.1]
  rw [show zB.1 7 p = nI (r 6 p) from hB.1.2.2.2.2.2.2.1 p]
  rw [nI_add (r 7 3) (cN tc r p e)]
  rw [show nI (r 6 p) + (1 : Int32) = nI ((r 6 p) + 1) from nI_add (r 6 p) 1]
  rw [show (if nI ((r 7 3) + (cN tc r p e)) < 99999 then nI ((r 7 3) + (cN tc r p e)) else (99999 : Int32)) = nI (min 99999 ((r 7 3) + (cN tc r p e))) from sMinN (x := ((r 7 3) + (cN tc r p e))) (b := 99999) (by omega) (by decide)]
  rw [show (if nI ((r 6 p) + 1) < 99 then nI ((r 6 p) + 1) else (99 : Int32)) = nI (min 99 ((r 6 p) + 1)) from sMinN (x := ((r 6 p) + 1)) (b := 99) (by omega) (by decide)]
  subst xhQ
  exact ww_vret xCC okX0_commit 38 xhr rfl ⟨rfl, ⟨RX_done hB.1 (by omega) (by omega) (by omega), KQ_7 (KQ_6 (KQ_0 (KQ_tr (KQ_N hKS3) hB.2)))⟩⟩

set_option maxHeartbeats 4000000 in
set_option maxRecDepth 20000 in
theorem t_X0_firstOfUse (l : Launch) (d : Nat) (p : Nat) (z : xMem) (r : sR) (cnt : Nat) (tc : Nat → sTc) (hr : RX z 0 r) (hw : sW r cnt) (ht : TX z 8 cnt tc) (hp : p < 4) : XMi l (d + 4) yX0_firstOfUse cX0_firstOfUse 3 (some .int) shR [.ref 0, .int (nI p)] z (fun v z' => v = fI (sFi (sWill tc r p) 10) ∧ KN z z') := by
  refine XM.of (by decide) (Nat.le_of_ble_eq_true rfl) (fun xp xe xs xm xar xbl xme xc xD xcs xad xAA xCC xhr => ?_)
  generalize xhQ : MQ xbl _ xar xs 0 0 xAA = xQ
  show ww xp l xe (xRm (d + 4)) xs xm xar xbl xme xc 3 xD xcs xad shR xAA xQ 0 [(0, .ref 0), (1, .int (nI p))] [] z
  have hb := hw.1
  have hbp := hb p
  refine ww_blk xCC okX0_firstOfUse 0 4 (ps := [vp_in (nI p) 4]) (pc' := 6) (lv' := [(0, .ref 0), (1, .int (nI p))]) (st' := [.int (z.1 6 (nI p).toNatClampNeg)]) (z' := z) rfl (vp_in_nI (by omega) (by decide)) ?_
  rw [sCL (n := p) (by omega)]
  rw [show z.1 6 p = nI (r 5 p) from hr.2.2.2.2.2.1 p]
  refine ww_br xCC okX0_firstOfUse 4 (P := (nI (r 5 p)) ≤ 0) (t1 := 11) (t2 := 9) (r := []) rfl (fun c1 => ?_) (fun c1 => ?_)
  · skip
    replace c1 : (r 5 p) ≤ 0 := (sLE (a := (r 5 p)) (b := 0) (by omega) (by omega)).mp c1
    refine ww_blk xCC okX0_firstOfUse 7 2 (ps := []) (pc' := 13) (lv' := [(2, .int 0), (0, .ref 0), (1, .int (nI p))]) (st' := []) (z' := z) rfl trivial ?_
    have L13 : ∀ (n13 : Nat) (i : Nat) (zL : xMem), 10 - i < n13 → (i ≤ 10) → (KN z zL) → (fI (sFi (sWill tc r p) i) = -1) → ww xp l xe (xRm (d + 4)) xs xm xar xbl xme xc 3 xD xcs xad shR xAA xQ 13 [(2, .int (nI i)), (0, .ref 0), (1, .int (nI p))] [] zL := by
      intro n13
      induction n13 with
      | zero =>
        intro i zL hmu13
        exact absurd hmu13 (Nat.not_lt_zero _)
      | succ n13 ih13 =>
        intro i zL hmu13 e13_0 e13_1 e13_2
        have hrL := RX_N e13_1 hr
        have htL := TX_N e13_1 ht
        refine ww_blk xCC okX0_firstOfUse 9 2 (ps := []) (pc' := 16) (lv' := [(2, .int (nI i)), (0, .ref 0), (1, .int (nI p))]) (st' := [.int 10, .int (nI i)]) (z' := zL) rfl trivial ?_
        refine ww_br xCC okX0_firstOfUse 11 (P := 10 ≤ (nI i)) (t1 := 57) (t2 := 19) (r := []) rfl (fun c2 => ?_) (fun c2 => ?_)
        · skip
          replace c2 : 10 ≤ i := (sLE (a := 10) (b := i) (by omega) (by omega)).mp c2
          refine ww_blk xCC okX0_firstOfUse 34 1 (ps := []) (pc' := 58) (lv' := [(2, .int (nI i)), (0, .ref 0), (1, .int (nI p))]) (st' := [.int (-1)]) (z' := zL) rfl trivial ?_
          subst xhQ
          exact ww_iret xCC okX0_firstOfUse 35 xhr rfl rfl ⟨_, rfl, ⟨(by rw [show 10 = i by omega]; exact e13_2.symm), e13_1⟩⟩
        · skip
          replace c2 : ¬ 10 ≤ i := fun q => c2 ((sLE (a := 10) (b := i) (by omega) (by omega)).mpr q)
          refine ww_blk xCC okX0_firstOfUse 12 12 (ps := [vp_in (nI i) 10]) (pc' := 37) (lv' := [(2, .int (nI i)), (0, .ref 0), (1, .int (nI p))]) (st' := [.int (((zL.1 2 (nI i).toNatClampNeg) &&& (zL.1 0 2)) &&& ((zL.1 0 3) ^^^ (-1)))]) (z' := zL) rfl (vp_in_nI (by omega) (by decide)) ?_
          rw [sCL (n := i) (by omega)]
          rw [show zL.1 2 i = nI (r 1 i) from hrL.2.1 i]
          rw [show zL.1 0 2 = nI (sAl (r 0) 8) from hrL.2.2.2.2.2.2.2.1]
          rw [show zL.1 0 3 = nI (r 7 0) from hrL.2.2.2.2.2.2.2.2.1]
          rw [fa_and (r 1 i) (sAl (r 0) 8)]
          refine ww_br xCC okX0_firstOfUse 24 (P := ((nI ((r 1 i) &&& (sAl (r 0) 8))) &&& ((nI (r 7 0)) ^^^ (-1))) = 0) (t1 := 51) (t2 := 40) (r := []) rfl (fun c3 => ?_) (fun c3 => ?_)
          · skip
            have h37 := c3
            refine ww_blk xCC okX0_firstOfUse 32 2 (ps := []) (pc' := 13) (lv' := [(2, .int ((nI i) + 1)), (0, .ref 0), (1, .int (nI p))]) (st' := []) (z' := zL) rfl trivial ?_
            rw [show nI i + (1 : Int32) = nI (i + 1) from nI_add i 1]
            exact ww_cut [0, 1, 2] (xlc rfl (xlc rfl (xlc rfl rfl))) rfl rfl (ih13 (i + 1) zL (by omega) (by omega) e13_1 (sFi_n e13_2 (sWill_a h37)).symm)
          · skip
            have h37 := c3
            refine ww_blk xCC okX0_firstOfUse 25 3 (ps := []) (pc' := 43) (lv' := [(2, .int (nI i)), (0, .ref 0), (1, .int (nI p))]) (st' := [.int (nI i), .int (nI p), .ref 0]) (z' := zL) rfl trivial ?_
            refine ww_callVIz xCC okX0_firstOfUse 28 (ix := 101) (t_X0_dares l d p i zL r cnt tc hrL hw htL (by omega) (by omega)) (by omega) (by decide) xyX0_dares xiX0_dares (Or.inl (lw_gt_of (List.mem_of_getElem? (i := 360) (by decide +kernel)) rfl)) rfl rfl rfl (rest := []) rfl (Nat.le_of_ble_eq_true rfl) rfl (fun zS4 hS4 => ?_) (fun zS4 hS4 => ?_)
            · skip
              have hrS4 := RX_N hS4.2 hrL
              have htS4 := TX_N hS4.2 htL
              have hKS4 := KN_tr e13_1 hS4.2
              have hdr := hS4.1
              refine ww_br xCC okX0_firstOfUse 29 (P := 1 = 0) (t1 := 51) (t2 := 49) (r := []) rfl (fun q => absurd q (by decide)) (fun _ => ?_)
              refine ww_blk xCC okX0_firstOfUse 30 1 (ps := []) (pc' := 50) (lv' := [(2, .int (nI i)), (0, .ref 0), (1, .int (nI p))]) (st' := [.int (nI i)]) (z' := zS4) rfl trivial ?_
              subst xhQ
              exact ww_iret xCC okX0_firstOfUse 31 xhr rfl rfl ⟨_, rfl, ⟨(sFi_at e13_2 (show i < 10 by omega) (sWill_c h37 (sCan_yes (by omega) hdr))), hKS4⟩⟩
            · skip
              have hrS4 := RX_N hS4.2 hrL
              have htS4 := TX_N hS4.2 htL
              have hKS4 := KN_tr e13_1 hS4.2
              have hdr := hS4.1
              refine ww_br xCC okX0_firstOfUse 29 (P := 0 = 0) (t1 := 51) (t2 := 49) (r := []) rfl (fun _ => ?_) (fun q => absurd (by decide) q)
              refine ww_blk xCC okX0_firstOfUse 32 2 (ps := []) (pc' := 13) (lv' := [(2, .int ((nI i) + 1)), (0, .ref 0), (1, .int (nI p))]) (st' := []) (z' := zS4) rfl trivial ?_
              rw [show nI i + (1 : Int32) = nI (i + 1) from nI_add i 1]
              exact ww_cut [0, 1, 2] (xlc rfl (xlc rfl (xlc rfl rfl))) rfl rfl (ih13 (i + 1) zS4 (by omega) (by omega) hKS4 (sFi_n e13_2 (sWill_b (sCan_no hdr))).symm)
    exact ww_cut [0, 1, 2] (xlc (congrArg Value.int (show (0 : Int32) = nI 0 from rfl)) (xlc rfl (xlc rfl rfl))) rfl rfl (L13 (10 - 0 + 1) 0 z (Nat.lt_succ_self _) (by omega) (KN_rf z) rfl)
  · skip
    replace c1 : ¬ (r 5 p) ≤ 0 := fun q => c1 ((sLE (a := (r 5 p)) (b := 0) (by omega) (by omega)).mpr q)
    refine ww_blk xCC okX0_firstOfUse 5 1 (ps := []) (pc' := 10) (lv' := [(0, .ref 0), (1, .int (nI p))]) (st' := [.int (-1)]) (z' := z) rfl trivial ?_
    subst xhQ
    exact ww_iret xCC okX0_firstOfUse 6 xhr rfl rfl ⟨_, rfl, ⟨(sFi_sit (by omega)), KN_rf z⟩⟩

set_option maxHeartbeats 4000000 in
set_option maxRecDepth 20000 in
theorem t_X0_passYears (l : Launch) (d : Nat) (m : Nat) (z : xMem) (r0 : sR) (cnt : Nat) (tc : Nat → sTc) (hr : RX z 0 r0) (hw0 : sW r0 cnt) (ht : TX z 8 cnt tc) (hS : sSub r0) (hm : m ≤ 1000) (hY : r0 7 2 + m ≤ 100000) : XMi l (d + 5) yX0_passYears cX0_passYears 6 (some .int) shR [.ref 0, .int (nI m)] z (fun v z' => v = nI (sGo tc r0 m).2 ∧ RX z' 0 (sGo tc r0 m).1 ∧ KQ z z') := by
  refine XM.of (by decide) (Nat.le_of_ble_eq_true rfl) (fun xp xe xs xm xar xbl xme xc xD xcs xad xAA xCC xhr => ?_)
  generalize xhQ : MQ xbl _ xar xs 0 0 xAA = xQ
  show ww xp l xe (xRm (d + 5)) xs xm xar xbl xme xc 6 xD xcs xad shR xAA xQ 0 [(0, .ref 0), (1, .int (nI m))] [] z
  refine ww_blk xCC okX0_passYears 0 4 (ps := []) (pc' := 4) (lv' := [(3, .int 0), (2, .int 0), (0, .ref 0), (1, .int (nI m))]) (st' := []) (z' := z) rfl trivial ?_
  have L4 : ∀ (n4 : Nat) (t : Nat) (r : sR) (k : Nat) (zL : xMem), m - t < n4 → (sGo tc r0 t = (r, k)) → (RX zL 0 r) → (sW r cnt) → (KQ z zL) → (t ≤ m) → (r 7 2 = r0 7 2 + t) → (sSub r) → ww xp l xe (xRm (d + 5)) xs xm xar xbl xme xc 6 xD xcs xad shR xAA xQ 4 [(3, .int (nI t)), (2, .int (nI k)), (0, .ref 0), (1, .int (nI m))] [] zL := by
    intro n4
    induction n4 with
    | zero =>
      intro t r k zL hmu4
      exact absurd hmu4 (Nat.not_lt_zero _)
    | succ n4 ih4 =>
      intro t r k zL hmu4 e4_0 e4_1 e4_2 e4_3 e4_4 e4_5 e4_6
      refine ww_blk xCC okX0_passYears 4 2 (ps := []) (pc' := 6) (lv' := [(3, .int (nI t)), (2, .int (nI k)), (0, .ref 0), (1, .int (nI m))]) (st' := [.int (nI m), .int (nI t)]) (z' := zL) rfl trivial ?_
      refine ww_br xCC okX0_passYears 6 (P := (nI m) ≤ (nI t)) (t1 := 63) (t2 := 9) (r := []) rfl (fun c1 => ?_) (fun c1 => ?_)
      · skip
        replace c1 : m ≤ t := (sLE (a := m) (b := t) (by omega) (by omega)).mp c1
        refine ww_blk xCC okX0_passYears 32 1 (ps := []) (pc' := 64) (lv' := [(3, .int (nI t)), (2, .int (nI k)), (0, .ref 0), (1, .int (nI m))]) (st' := [.int (nI k)]) (z' := zL) rfl trivial ?_
        subst xhQ
        exact ww_iret xCC okX0_passYears 33 xhr rfl rfl ⟨_, rfl, (by rw [show m = t by omega, e4_0]; exact ⟨rfl, e4_1, e4_3⟩)⟩
      · skip
        replace c1 : ¬ m ≤ t := fun q => c1 ((sLE (a := m) (b := t) (by omega) (by omega)).mpr q)
        refine ww_blk xCC okX0_passYears 7 2 (ps := []) (pc' := 12) (lv' := [(4, .int 0), (3, .int (nI t)), (2, .int (nI k)), (0, .ref 0), (1, .int (nI m))]) (st' := []) (z' := zL) rfl trivial ?_
        have L12 : ∀ (n12 : Nat) (p : Nat) (r2 : sR) (n : Nat) (zI : xMem), r2 7 4 - p < n12 → (sAp tc r p = (r2, n)) → (RX zI 0 r2) → (sW r2 cnt) → (sSub r2) → (KQ z zI) → (p ≤ r2 7 4) → (r 7 2 = r0 7 2 + t) → ww xp l xe (xRm (d + 5)) xs xm xar xbl xme xc 6 xD xcs xad shR xAA xQ 12 [(4, .int (nI p)), (3, .int (nI t)), (2, .int (nI (k + n))), (0, .ref 0), (1, .int (nI m))] [] zI := by
          intro n12
          induction n12 with
          | zero =>
            intro p r2 n zI hmu12
            exact absurd hmu12 (Nat.not_lt_zero _)
          | succ n12 ih12 =>
            intro p r2 n zI hmu12 e12_0 e12_1 e12_2 e12_3 e12_4 e12_5 e12_6
            have hrI := e12_1
            have hwI := e12_2
            have htI := TX_Q e12_4 ht
            have h74 : r2 7 4 ≤ 4 := hwI.2.2.2.2.2.2.1
            refine ww_blk xCC okX0_passYears 9 3 (ps := []) (pc' := 18) (lv' := [(4, .int (nI p)), (3, .int (nI t)), (2, .int (nI (k + n))), (0, .ref 0), (1, .int (nI m))]) (st' := [.int (zI.1 0 9), .int (nI p)]) (z' := zI) rfl trivial ?_
            rw [show zI.1 0 9 = nI (r2 7 4) from hrI.2.2.2.2.2.2.2.2.2.2.2.2.1]
            refine ww_br xCC okX0_passYears 12 (P := (nI (r2 7 4)) ≤ (nI p)) (t1 := 52) (t2 := 21) (r := []) rfl (fun c2 => ?_) (fun c2 => ?_)
            · skip
              replace c2 : (r2 7 4) ≤ p := (sLE (a := (r2 7 4)) (b := p) (by omega) (by omega)).mp c2
              refine ww_blk xCC okX0_passYears 27 1 (ps := []) (pc' := 53) (lv' := [(4, .int (nI p)), (3, .int (nI t)), (2, .int (nI (k + n))), (0, .ref 0), (1, .int (nI m))]) (st' := [.ref 0]) (z' := zI) rfl trivial ?_
              refine ww_callVIi xCC okX0_passYears 28 (ix := 135) (t_X0_endYear l (d + 3) zI r2 cnt hrI hwI e12_3) (by omega) (by decide) xyX0_endYear xiX0_endYear (Or.inl (lw_gt_of (List.mem_of_getElem? (i := 619) (by decide +kernel)) rfl)) rfl rfl rfl (rest := []) rfl (Nat.le_of_ble_eq_true rfl) rfl (fun vE zE hE => ?_)
              refine ww_blk xCC okX0_passYears 29 3 (ps := []) (pc' := 4) (lv' := [(3, .int ((nI t) + 1)), (4, .int (nI p)), (2, .int (nI (k + n))), (0, .ref 0), (1, .int (nI m))]) (st' := []) (z' := zE) rfl trivial ?_
              rw [show nI t + (1 : Int32) = nI (t + 1) from nI_add t 1]
              exact ww_cut [0, 2, 3, 4] (xlc rfl (xlc rfl (xlc rfl (xlc rfl rfl)))) rfl rfl (ih4 (t + 1) (sEnd r2) (k + n) zE (by omega) (by rw [sGo_s e4_0, sAll_of (tc := tc) e12_0 (by have q := sAp_74 tc r p; rw [e12_0] at q; have q2 : r2 7 4 = r 7 4 := q; omega)]) hE.2.1 (sW_end hwI (by have q := sAp_yr tc r p; rw [e12_0] at q; have q2 : r2 7 2 = r 7 2 := q; omega)) (KQ_tr e12_4 hE.2.2) (by omega) (by have q := sAp_yr tc r p; rw [e12_0] at q; have q2 : r2 7 2 = r 7 2 := q; rw [sEnd_y]; omega) (sSub_end r2))
            · skip
              replace c2 : ¬ (r2 7 4) ≤ p := fun q => c2 ((sLE (a := (r2 7 4)) (b := p) (by omega) (by omega)).mpr q)
              refine ww_blk xCC okX0_passYears 13 2 (ps := []) (pc' := 24) (lv' := [(4, .int (nI p)), (3, .int (nI t)), (2, .int (nI (k + n))), (0, .ref 0), (1, .int (nI m))]) (st' := [.int (nI p), .ref 0]) (z' := zI) rfl trivial ?_
              refine ww_callVIi xCC okX0_passYears 15 (ix := 129) (t_X0_firstOfUse l d p zI r2 cnt tc hrI hwI htI (by omega)) (by omega) (by decide) xyX0_firstOfUse xiX0_firstOfUse (Or.inl (lw_gt_of (List.mem_of_getElem? (i := 614) (by decide +kernel)) rfl)) rfl rfl rfl (rest := []) rfl (Nat.le_of_ble_eq_true rfl) rfl (fun vF zF hF => ?_)
              rw [hF.1]
              have hrF := RX_N hF.2 hrI
              have htF := TX_N hF.2 htI
              refine ww_blk xCC okX0_passYears 16 1 (ps := []) (pc' := 29) (lv' := [(5, .int (fI (sFi (sWill tc r2 p) 10))), (4, .int (nI p)), (3, .int (nI t)), (2, .int (nI (k + n))), (0, .ref 0), (1, .int (nI m))]) (st' := []) (z' := zF) rfl trivial ?_
              rcases Nat.lt_or_ge (sFi (sWill tc r2 p) 10) 10 with hq | hq
              · skip
                rw [fI_y hq]
                refine ww_blk xCC okX0_passYears 17 2 (ps := []) (pc' := 32) (lv' := [(5, .int (nI (sFi (sWill tc r2 p) 10))), (4, .int (nI p)), (3, .int (nI t)), (2, .int (nI (k + n))), (0, .ref 0), (1, .int (nI m))]) (st' := [.int (-1), .int (nI (sFi (sWill tc r2 p) 10))]) (z' := zF) rfl trivial ?_
                refine ww_br xCC okX0_passYears 19 (P := (nI (sFi (sWill tc r2 p) 10)) = (-1)) (t1 := 46) (t2 := 35) (r := []) rfl (fun c3 => absurd c3 (sNm1 _ hq)) (fun c3 => ?_)
                refine ww_blk xCC okX0_passYears 20 3 (ps := []) (pc' := 40) (lv' := [(5, .int (nI (sFi (sWill tc r2 p) 10))), (4, .int (nI p)), (3, .int (nI t)), (2, .int (nI (k + n))), (0, .ref 0), (1, .int (nI m))]) (st' := [.int (nI (sFi (sWill tc r2 p) 10)), .int (nI p), .ref 0]) (z' := zF) rfl trivial ?_
                refine ww_callVIv xCC okX0_passYears 23 (ix := 132) (t_X0_commit l d p (sFi (sWill tc r2 p) 10) zF r2 cnt tc hrF hwI htF (by omega) hq) (by omega) (by decide) xyX0_commit xiX0_commit (Or.inl (lw_gt_of (List.mem_of_getElem? (i := 618) (by decide +kernel)) rfl)) rfl rfl rfl (rest := []) rfl (Nat.le_of_ble_eq_true rfl) rfl (fun zC hC => ?_)
                refine ww_blk xCC okX0_passYears 24 3 (ps := []) (pc' := 12) (lv' := [(4, .int ((nI p) + 1)), (2, .int ((nI (k + n)) + 1)), (5, .int (nI (sFi (sWill tc r2 p) 10))), (3, .int (nI t)), (0, .ref 0), (1, .int (nI m))]) (st' := []) (z' := zC) rfl trivial ?_
                rw [show nI p + (1 : Int32) = nI (p + 1) from nI_add p 1]
                rw [show nI (k + n) + (1 : Int32) = nI ((k + n) + 1) from nI_add (k + n) 1]
                exact ww_cut [0, 3, 1, 4, 5] (xlc rfl (xlc rfl (xlc (congrArg Value.int (show (nI ((k + n) + 1) : Int32) = nI (k + (n + 1)) from rfl)) (xlc rfl (xlc rfl rfl))))) rfl rfl (ih12 (p + 1) (sDone tc r2 p (sFi (sWill tc r2 p) 10)) (n + 1) zC (show r2 7 4 - (p + 1) < n12 by omega) (sAp_y e12_0 (Nat.le_refl 10) hq) hC.1 (sW_done hwI p _) (sSub_done e12_3) (KQ_tr e12_4 (KQ_tr (KQ_N hF.2) hC.2)) (by show p + 1 ≤ r2 7 4; omega) e12_6)
              · skip
                rw [fI_n hq]
                refine ww_blk xCC okX0_passYears 17 2 (ps := []) (pc' := 32) (lv' := [(5, .int (-1)), (4, .int (nI p)), (3, .int (nI t)), (2, .int (nI (k + n))), (0, .ref 0), (1, .int (nI m))]) (st' := [.int (-1), .int (-1)]) (z' := zF) rfl trivial ?_
                refine ww_br xCC okX0_passYears 19 (P := (-1) = (-1)) (t1 := 46) (t2 := 35) (r := []) rfl (fun _ => ?_) (fun q => absurd (by decide) q)
                refine ww_blk xCC okX0_passYears 25 2 (ps := []) (pc' := 12) (lv' := [(4, .int ((nI p) + 1)), (5, .int (-1)), (3, .int (nI t)), (2, .int (nI (k + n))), (0, .ref 0), (1, .int (nI m))]) (st' := []) (z' := zF) rfl trivial ?_
                rw [show nI p + (1 : Int32) = nI (p + 1) from nI_add p 1]
                exact ww_cut [0, 2, 3, 4, 5] (xlc rfl (xlc rfl (xlc rfl (xlc rfl (xlc rfl rfl))))) rfl rfl (ih12 (p + 1) r2 n zF (by omega) (sAp_n e12_0 (Nat.le_refl 10) (Nat.le_refl 10) hq) hrF hwI e12_3 (KQ_tr e12_4 (KQ_N hF.2)) (by omega) e12_6)
        exact ww_cut [0, 1, 2, 3, 4] (xlc (congrArg Value.int (show (0 : Int32) = nI 0 from rfl)) (xlc rfl (xlc (congrArg Value.int (show (nI k : Int32) = nI (k + 0) from rfl)) (xlc rfl (xlc rfl rfl))))) rfl rfl (L12 (r 7 4 - 0 + 1) 0 r 0 zL (Nat.lt_succ_self _) rfl e4_1 e4_2 e4_6 e4_3 (by omega) e4_5)
  exact ww_cut [0, 1, 2, 3] (xlc (congrArg Value.int (show (0 : Int32) = nI 0 from rfl)) (xlc (congrArg Value.int (show (0 : Int32) = nI 0 from rfl)) (xlc rfl (xlc rfl rfl)))) rfl rfl (L4 (m - 0 + 1) 0 r0 0 z (Nat.lt_succ_self _) rfl hr hw0 (KQ_rf z) (by omega) rfl hS)

set_option maxHeartbeats 4000000 in
set_option maxRecDepth 20000 in
theorem t_X0_next (l : Launch) (d : Nat) (w : Int32) (z : xMem) : XMi l d yX0_next cX0_next 1 (some .int) [] [.int w] z (fun v _ => v = sNx w) := by
  refine XM.of (by decide) (Nat.le_of_ble_eq_true rfl) (fun xp xe xs xm xar xbl xme xc xD xcs xad xAA xCC xhr => ?_)
  generalize xhQ : MQ xbl _ xar xs 0 0 xAA = xQ
  show ww xp l xe (xRm d) xs xm xar xbl xme xc 1 xD xcs xad [] xAA xQ 0 [(0, .int w)] [] z
  refine ww_blk xCC okX0_next 0 5 (ps := []) (pc' := 8) (lv' := [(0, .int w)]) (st' := [.int ((w * 1103515245) + 12345)]) (z' := z) rfl trivial ?_
  subst xhQ
  exact ww_iret xCC okX0_next 5 xhr rfl rfl ⟨_, rfl, rfl⟩

set_option maxHeartbeats 4000000 in
set_option maxRecDepth 20000 in
theorem t_X0_drawYears (l : Launch) (d : Nat) (sd : Int32) (m : Nat) (z : xMem) (r0 : sR) (cnt : Nat) (tc : Nat → sTc) (hr : RX z 0 r0) (hw0 : sW r0 cnt) (ht : TX z 8 cnt tc) (hS : sSub r0) (hY : r0 7 2 ≤ 999) (hm : m ≤ 20) : XMv l (d + 5) yX0_drawYears cX0_drawYears 7 none shR [.ref 0, .int sd, .int (nI m)] z (fun z' => RX z' 0 (sDw tc r0 sd m).2 ∧ KQ z z') := by
  refine XM.of (by decide) (Nat.le_of_ble_eq_true rfl) (fun xp xe xs xm xar xbl xme xc xD xcs xad xAA xCC xhr => ?_)
  generalize xhQ : MQ xbl _ xar xs 0 0 xAA = xQ
  show ww xp l xe (xRm (d + 5)) xs xm xar xbl xme xc 7 xD xcs xad shR xAA xQ 0 [(0, .ref 0), (1, .int sd), (2, .int (nI m))] [] z
  refine ww_blk xCC okX0_drawYears 0 4 (ps := []) (pc' := 5) (lv' := [(4, .int 0), (3, .int sd), (0, .ref 0), (1, .int sd), (2, .int (nI m))]) (st' := []) (z' := z) rfl trivial ?_
  have L5 : ∀ (n5 : Nat) (t : Nat) (w : Int32) (r : sR) (zL : xMem), m - t < n5 → (sDw tc r0 sd t = (w, r)) → (t ≤ m) → (RX zL 0 r) → (sW r cnt) → (KQ z zL) → (r 7 2 = r0 7 2 + t) → (sSub r) → ww xp l xe (xRm (d + 5)) xs xm xar xbl xme xc 7 xD xcs xad shR xAA xQ 5 [(4, .int (nI t)), (3, .int w), (0, .ref 0), (2, .int (nI m))] [] zL := by
    intro n5
    induction n5 with
    | zero =>
      intro t w r zL hmu5
      exact absurd hmu5 (Nat.not_lt_zero _)
    | succ n5 ih5 =>
      intro t w r zL hmu5 e5_0 e5_1 e5_2 e5_3 e5_4 e5_5 e5_6
      have hrL := e5_2
      have hw := e5_3
      have htL := TX_Q e5_4 ht
      have h74 : r 7 4 ≤ 4 := hw.2.2.2.2.2.2.1
      refine ww_blk xCC okX0_drawYears 4 2 (ps := []) (pc' := 8) (lv' := [(4, .int (nI t)), (3, .int w), (0, .ref 0), (2, .int (nI m))]) (st' := [.int (nI m), .int (nI t)]) (z' := zL) rfl trivial ?_
      refine ww_br xCC okX0_drawYears 6 (P := (nI m) ≤ (nI t)) (t1 := 78) (t2 := 11) (r := []) rfl (fun c1 => ?_) (fun c1 => ?_)
      · skip
        replace c1 : m ≤ t := (sLE (a := m) (b := t) (by omega) (by omega)).mp c1
        subst xhQ
        exact ww_vret xCC okX0_drawYears 43 xhr rfl ⟨rfl, (by rw [show m = t by omega, e5_0]; exact ⟨e5_2, e5_4⟩)⟩
      · skip
        replace c1 : ¬ m ≤ t := fun q => c1 ((sLE (a := m) (b := t) (by omega) (by omega)).mpr q)
        refine ww_blk xCC okX0_drawYears 7 1 (ps := []) (pc' := 12) (lv' := [(4, .int (nI t)), (3, .int w), (0, .ref 0), (2, .int (nI m))]) (st' := [.int w]) (z' := zL) rfl trivial ?_
        refine ww_callSNi xCC okX0_drawYears 8 (ix := 139) (t_X0_next l d w _) (by omega) (by decide) xyX0_next xiX0_next (Or.inl (lw_gt_of (List.mem_of_getElem? (i := 751) (by decide +kernel)) rfl)) rfl (rest := []) rfl (Nat.le_of_ble_eq_true rfl) rfl (fun v4 z2 h3 => ?_)
        rw [h3]
        refine ww_blk xCC okX0_drawYears 9 8 (ps := [¬ 8 = 0]) (pc' := 26) (lv' := [(5, .int ((((sNx w).toUInt32 >>> ((9 : Int32).toUInt32 &&& Int32.toUInt32 31)).toInt32) - (((sNx w).toUInt32 >>> ((9 : Int32).toUInt32 &&& Int32.toUInt32 31)).toInt32) / 8 * 8)), (3, .int (sNx w)), (4, .int (nI t)), (0, .ref 0), (2, .int (nI m))]) (st' := [.int (sNx w)]) (z' := zL) rfl (show ¬ (8 : Int32) = 0 by decide) ?_
        rw [sU_eq (sNx w)]
        rw [show nI (sU (sNx w)) - nI (sU (sNx w)) / 8 * 8 = nI (sU (sNx w) % 8) from pk_rem (sU_lt _) (by decide) (by decide)]
        refine ww_callSNi xCC okX0_drawYears 17 (ix := 139) (t_X0_next l d (sNx w) _) (by omega) (by decide) xyX0_next xiX0_next (Or.inl (lw_gt_of (List.mem_of_getElem? (i := 751) (by decide +kernel)) rfl)) rfl (rest := []) rfl (Nat.le_of_ble_eq_true rfl) rfl (fun v7 z5 h6 => ?_)
        rw [h6]
        refine ww_blk xCC okX0_drawYears 18 10 (ps := [¬ 10 = 0]) (pc' := 45) (lv' := [(6, .int ((((sNx (sNx w)).toUInt32 >>> ((9 : Int32).toUInt32 &&& Int32.toUInt32 31)).toInt32) - (((sNx (sNx w)).toUInt32 >>> ((9 : Int32).toUInt32 &&& Int32.toUInt32 31)).toInt32) / 10 * 10)), (3, .int (sNx (sNx w))), (5, .int (nI (sU (sNx w) % 8))), (4, .int (nI t)), (0, .ref 0), (2, .int (nI m))]) (st' := [.int (zL.1 0 9), .int (nI (sU (sNx w) % 8))]) (z' := zL) rfl (show ¬ (10 : Int32) = 0 by decide) ?_
        rw [sU_eq (sNx (sNx w))]
        rw [show nI (sU (sNx (sNx w))) - nI (sU (sNx (sNx w))) / 10 * 10 = nI (sU (sNx (sNx w)) % 10) from pk_rem (sU_lt _) (by decide) (by decide)]
        rw [show zL.1 0 9 = nI (r 7 4) from hrL.2.2.2.2.2.2.2.2.2.2.2.2.1]
        refine ww_br xCC okX0_drawYears 28 (P := (nI (r 7 4)) ≤ (nI (sU (sNx w) % 8))) (t1 := 67) (t2 := 48) (r := []) rfl (fun c8 => ?_) (fun c8 => ?_)
        · skip
          replace c8 : (r 7 4) ≤ (sU (sNx w) % 8) := (sLE (a := (r 7 4)) (b := (sU (sNx w) % 8)) (by omega) (by omega)).mp c8
          have hn9 : ¬ (sU (sNx w) % 8) < r 7 4 := by omega
          refine ww_blk xCC okX0_drawYears 38 1 (ps := []) (pc' := 68) (lv' := [(6, .int (nI (sU (sNx (sNx w)) % 10))), (3, .int (sNx (sNx w))), (5, .int (nI (sU (sNx w) % 8))), (4, .int (nI t)), (0, .ref 0), (2, .int (nI m))]) (st' := [.ref 0]) (z' := zL) rfl trivial ?_
          refine ww_callVIi xCC okX0_drawYears 39 (ix := 135) (t_X0_endYear l (d + 3) zL r cnt hrL hw e5_6) (by omega) (by decide) xyX0_endYear xiX0_endYear (Or.inl (lw_gt_of (List.mem_of_getElem? (i := 619) (by decide +kernel)) rfl)) rfl rfl rfl (rest := []) rfl (Nat.le_of_ble_eq_true rfl) rfl (fun vB zB hB => ?_)
          refine ww_blk xCC okX0_drawYears 40 3 (ps := []) (pc' := 5) (lv' := [(4, .int ((nI t) + 1)), (6, .int (nI (sU (sNx (sNx w)) % 10))), (3, .int (sNx (sNx w))), (5, .int (nI (sU (sNx w) % 8))), (0, .ref 0), (2, .int (nI m))]) (st' := []) (z' := zB) rfl trivial ?_
          rw [show nI t + (1 : Int32) = nI (t + 1) from nI_add t 1]
          exact ww_cut [0, 2, 4, 5] (xlc rfl (xlc rfl (xlc rfl (xlc rfl rfl)))) rfl rfl (ih5 (t + 1) (sNx (sNx w)) (sEnd r) zB (by omega) (sDw_n e5_0 (Or.inl hn9)) (by omega) hB.2.1 (sW_end hw (by show r 7 2 < 100000; omega)) (KQ_tr e5_4 (KQ_tr (KQ_rf zL) hB.2.2)) (sEnd_y.trans (by show (r 7 2) + 1 = r0 7 2 + (t + 1); omega)) (sSub_end _))
        · skip
          replace c8 : ¬ (r 7 4) ≤ (sU (sNx w) % 8) := fun q => c8 ((sLE (a := (r 7 4)) (b := (sU (sNx w) % 8)) (by omega) (by omega)).mpr q)
          have hp9 : (sU (sNx w) % 8) < r 7 4 := by omega
          refine ww_blk xCC okX0_drawYears 29 3 (ps := []) (pc' := 53) (lv' := [(6, .int (nI (sU (sNx (sNx w)) % 10))), (3, .int (sNx (sNx w))), (5, .int (nI (sU (sNx w) % 8))), (4, .int (nI t)), (0, .ref 0), (2, .int (nI m))]) (st' := [.int (nI (sU (sNx (sNx w)) % 10)), .int (nI (sU (sNx w) % 8)), .ref 0]) (z' := zL) rfl trivial ?_
          refine ww_callVIz xCC okX0_drawYears 32 (ix := 118) (t_X0_can l d (sU (sNx w) % 8) (sU (sNx (sNx w)) % 10) zL r cnt tc hrL hw htL (by omega) (by omega)) (by omega) (by decide) xyX0_can xiX0_can (Or.inl (lw_gt_of (List.mem_of_getElem? (i := 356) (by decide +kernel)) rfl)) rfl rfl rfl (rest := []) rfl (Nat.le_of_ble_eq_true rfl) rfl (fun zK hK9 => ?_) (fun zK hK9 => ?_)
          · skip
            have hrK := RX_N hK9.2 hrL
            have htK := TX_N hK9.2 htL
            refine ww_br xCC okX0_drawYears 33 (P := 1 = 0) (t1 := 67) (t2 := 59) (r := []) rfl (fun q => absurd q (by decide)) (fun _ => ?_)
            refine ww_blk xCC okX0_drawYears 34 3 (ps := []) (pc' := 64) (lv' := [(6, .int (nI (sU (sNx (sNx w)) % 10))), (3, .int (sNx (sNx w))), (5, .int (nI (sU (sNx w) % 8))), (4, .int (nI t)), (0, .ref 0), (2, .int (nI m))]) (st' := [.int (nI (sU (sNx (sNx w)) % 10)), .int (nI (sU (sNx w) % 8)), .ref 0]) (z' := zK) rfl trivial ?_
            refine ww_callVIv xCC okX0_drawYears 37 (ix := 132) (t_X0_commit l d (sU (sNx w) % 8) (sU (sNx (sNx w)) % 10) zK r cnt tc hrK hw htK (by omega) (by omega)) (by omega) (by decide) xyX0_commit xiX0_commit (Or.inl (lw_gt_of (List.mem_of_getElem? (i := 618) (by decide +kernel)) rfl)) rfl rfl rfl (rest := []) rfl (Nat.le_of_ble_eq_true rfl) rfl (fun zD hD => ?_)
            refine ww_blk xCC okX0_drawYears 38 1 (ps := []) (pc' := 68) (lv' := [(6, .int (nI (sU (sNx (sNx w)) % 10))), (3, .int (sNx (sNx w))), (5, .int (nI (sU (sNx w) % 8))), (4, .int (nI t)), (0, .ref 0), (2, .int (nI m))]) (st' := [.ref 0]) (z' := zD) rfl trivial ?_
            refine ww_callVIi xCC okX0_drawYears 39 (ix := 135) (t_X0_endYear l (d + 3) zD (sDone tc r (sU (sNx w) % 8) (sU (sNx (sNx w)) % 10)) cnt hD.1 (sW_done hw _ _) (sSub_done e5_6)) (by omega) (by decide) xyX0_endYear xiX0_endYear (Or.inl (lw_gt_of (List.mem_of_getElem? (i := 619) (by decide +kernel)) rfl)) rfl rfl rfl (rest := []) rfl (Nat.le_of_ble_eq_true rfl) rfl (fun vB zB hB => ?_)
            refine ww_blk xCC okX0_drawYears 40 3 (ps := []) (pc' := 5) (lv' := [(4, .int ((nI t) + 1)), (6, .int (nI (sU (sNx (sNx w)) % 10))), (3, .int (sNx (sNx w))), (5, .int (nI (sU (sNx w) % 8))), (0, .ref 0), (2, .int (nI m))]) (st' := []) (z' := zB) rfl trivial ?_
            rw [show nI t + (1 : Int32) = nI (t + 1) from nI_add t 1]
            exact ww_cut [0, 2, 4, 5] (xlc rfl (xlc rfl (xlc rfl (xlc rfl rfl)))) rfl rfl (ih5 (t + 1) (sNx (sNx w)) (sEnd (sDone tc r (sU (sNx w) % 8) (sU (sNx (sNx w)) % 10))) zB (by omega) (sDw_y e5_0 hp9 hK9.1) (by omega) hB.2.1 (sW_end (sW_done hw _ _) (by show (sDone tc r (sU (sNx w) % 8) (sU (sNx (sNx w)) % 10)) 7 2 < 100000; rw [show sDone tc r (sU (sNx w) % 8) (sU (sNx (sNx w)) % 10) 7 2 = r 7 2 from rfl]; omega)) (KQ_tr e5_4 (KQ_tr (KQ_tr (KQ_N hK9.2) hD.2) hB.2.2)) (sEnd_y.trans (by show ((sDone tc r (sU (sNx w) % 8) (sU (sNx (sNx w)) % 10)) 7 2) + 1 = r0 7 2 + (t + 1); rw [show sDone tc r (sU (sNx w) % 8) (sU (sNx (sNx w)) % 10) 7 2 = r 7 2 from rfl]; omega)) (sSub_end _))
          · skip
            have hrK := RX_N hK9.2 hrL
            have htK := TX_N hK9.2 htL
            refine ww_br xCC okX0_drawYears 33 (P := 0 = 0) (t1 := 67) (t2 := 59) (r := []) rfl (fun _ => ?_) (fun q => absurd (by decide) q)
            refine ww_blk xCC okX0_drawYears 38 1 (ps := []) (pc' := 68) (lv' := [(6, .int (nI (sU (sNx (sNx w)) % 10))), (3, .int (sNx (sNx w))), (5, .int (nI (sU (sNx w) % 8))), (4, .int (nI t)), (0, .ref 0), (2, .int (nI m))]) (st' := [.ref 0]) (z' := zK) rfl trivial ?_
            refine ww_callVIi xCC okX0_drawYears 39 (ix := 135) (t_X0_endYear l (d + 3) zK r cnt hrK hw e5_6) (by omega) (by decide) xyX0_endYear xiX0_endYear (Or.inl (lw_gt_of (List.mem_of_getElem? (i := 619) (by decide +kernel)) rfl)) rfl rfl rfl (rest := []) rfl (Nat.le_of_ble_eq_true rfl) rfl (fun vB zB hB => ?_)
            refine ww_blk xCC okX0_drawYears 40 3 (ps := []) (pc' := 5) (lv' := [(4, .int ((nI t) + 1)), (6, .int (nI (sU (sNx (sNx w)) % 10))), (3, .int (sNx (sNx w))), (5, .int (nI (sU (sNx w) % 8))), (0, .ref 0), (2, .int (nI m))]) (st' := []) (z' := zB) rfl trivial ?_
            rw [show nI t + (1 : Int32) = nI (t + 1) from nI_add t 1]
            exact ww_cut [0, 2, 4, 5] (xlc rfl (xlc rfl (xlc rfl (xlc rfl rfl)))) rfl rfl (ih5 (t + 1) (sNx (sNx w)) (sEnd r) zB (by omega) (sDw_n e5_0 (Or.inr hK9.1)) (by omega) hB.2.1 (sW_end hw (by show r 7 2 < 100000; omega)) (KQ_tr e5_4 (KQ_tr (KQ_N hK9.2) hB.2.2)) (sEnd_y.trans (by show (r 7 2) + 1 = r0 7 2 + (t + 1); omega)) (sSub_end _))
  exact ww_cut [0, 1, 2, 4] (xlc (congrArg Value.int (show (0 : Int32) = nI 0 from rfl)) (xlc rfl (xlc rfl (xlc rfl rfl)))) rfl rfl (L5 (m - 0 + 1) 0 sd r0 z (Nat.lt_succ_self _) rfl (by omega) hr hw0 (KQ_rf z) rfl hS)
