/-! the model's reading: what its scratch fields hold -/
/-- text at hand: bytes bt of length n from fr on -/
def pM (z : xMem) (bt : Nat → Nat) (n fr : Nat) : Prop := z.1 0 22 = nI fr ∧ z.1 0 23 = nI n ∧ (∀ i, i < n → z.1 1 (fr + i) = nI (bt i)) ∧ (∀ i, bt i < 256) ∧ fr + n ≤ 960 ∧ n ≤ 160
/-- nothing changed but what reading uses -/
def pK (z z' : xMem) : Prop := (∀ q, q ≠ 0 → z'.1 q = z.1 q) ∧ (∀ j, (j < 24 ∨ 30 < j) → z'.1 0 j = z.1 0 j)
theorem pK_rf (z : xMem) : pK z z := ⟨fun _ _ => rfl, fun _ _ => rfl⟩
theorem pK_tr {a b c : xMem} (h1 : pK a b) (h2 : pK b c) : pK a c := ⟨fun q h => (h2.1 q h).trans (h1.1 q h), fun j h => (h2.2 j h).trans (h1.2 j h)⟩
theorem pK_put {a b : xMem} (h : pK a b) {j : Nat} (x : Int32) (hj : 24 ≤ j ∧ j ≤ 30) : pK a (mPut b 0 j x) := by
  refine ⟨fun q hq => ?_, fun i hi => ?_⟩
  · show (xUp b.1 0 (upd (b.1 0) j x)) q = _
    rw [xUp_ne hq]
    exact h.1 q hq
  · show (xUp b.1 0 (upd (b.1 0) j x)) 0 i = _
    rw [xUp_eq]
    show (if i = j then x else b.1 0 i) = _
    rw [if_neg (by omega)]
    exact h.2 i hi
theorem pK_putL {a b : xMem} (h : pK a b) {j : Nat} (x : Int64) : pK a (mPutL b 0 j x) := h
theorem pM_K {z z' : xMem} {bt : Nat → Nat} {n fr : Nat} (hk : pK z z') (h : pM z bt n fr) : pM z' bt n fr := by
  obtain ⟨h1, h2, h3, h4⟩ := h
  exact ⟨(hk.2 22 (by omega)).trans h1, (hk.2 23 (by omega)).trans h2, fun i hi => by rw [hk.1 1 (by omega)]; exact h3 i hi, h4⟩
/-- the byte at a place, -1 behind the end -/
def pB (bt : Nat → Nat) (n i : Nat) : Int32 := if i < n then nI (bt i) else -1
theorem pB_in {bt : Nat → Nat} {n i : Nat} (h : i < n) : pB bt n i = nI (bt i) := if_pos h
theorem pB_out {bt : Nat → Nat} {n i : Nat} (h : ¬ i < n) : pB bt n i = -1 := if_neg h
theorem pB_rng {bt : Nat → Nat} {n i : Nat} (hb : ∀ i, bt i < 256) (lo hi : Nat) (h1 : hi < 256) : ((lo : Int) ≤ (pB bt n i).toInt ∧ (pB bt n i).toInt ≤ hi) ↔ (i < n ∧ lo ≤ bt i ∧ bt i ≤ hi) := by
  have := hb i
  by_cases h : i < n
  · rw [pB_in h, sTI (by omega)]
    omega
  · rw [pB_out h]
    have : (-1 : Int32).toInt = -1 := by decide
    omega
theorem pB_eq {bt : Nat → Nat} {n i : Nat} (hb : ∀ i, bt i < 256) (c : Nat) (hc : c < 256) : pB bt n i = nI c ↔ (i < n ∧ bt i = c) := by
  have := hb i
  by_cases h : i < n
  · rw [pB_in h, sEQ (by omega) (by omega)]
    omega
  · rw [pB_out h]
    have h2 : ∀ c, c < 256 → ¬ (-1 : Int32) = nI c := by decide +kernel
    exact ⟨fun q => absurd q (h2 c hc), fun q => absurd q.1 h⟩
/-- nothing changed but the token at hand -/
def pK4 (z z' : xMem) : Prop := (∀ q, q ≠ 0 → z'.1 q = z.1 q) ∧ (∀ j, (j < 24 ∨ 26 < j) → z'.1 0 j = z.1 0 j)
theorem pK4_rf (z : xMem) : pK4 z z := ⟨fun _ _ => rfl, fun _ _ => rfl⟩
theorem pK4_put {a b : xMem} (h : pK4 a b) {j : Nat} (x : Int32) (hj : 24 ≤ j ∧ j ≤ 26) : pK4 a (mPut b 0 j x) := by
  refine ⟨fun q hq => ?_, fun i hi => ?_⟩
  · show (xUp b.1 0 (upd (b.1 0) j x)) q = _
    rw [xUp_ne hq]
    exact h.1 q hq
  · show (xUp b.1 0 (upd (b.1 0) j x)) 0 i = _
    rw [xUp_eq]
    show (if i = j then x else b.1 0 i) = _
    rw [if_neg (by omega)]
    exact h.2 i hi
theorem pK4_putL {a b : xMem} (h : pK4 a b) {j : Nat} (x : Int64) : pK4 a (mPutL b 0 j x) := h
theorem pK4_K {a b : xMem} (h : pK4 a b) : pK a b := ⟨h.1, fun j hj => h.2 j (by omega)⟩
/-- the token at hand is that from pos on -/
def tkM (z : xMem) (bt : Nat → Nat) (n pos : Nat) : Prop :=
  z.1 0 26 = nI (pTok bt n pos).2.1 ∧ ((n ≤ (pTok bt n pos).2.1 ∧ z.1 0 25 = 0 ∧ z.1 0 24 = nI (pTok bt n pos).2.2) ∨
  ((pTok bt n pos).2.1 < n ∧ pLe (bt (pTok bt n pos).2.1) = true ∧ z.1 0 25 = 1 ∧ z.1 0 24 = nI (pTok bt n pos).2.2) ∨
  ((pTok bt n pos).2.1 < n ∧ pLe (bt (pTok bt n pos).2.1) = false ∧ pDi (bt (pTok bt n pos).2.1) = true ∧ (((pTok bt n pos).1 < 10000 ∧ z.1 0 25 = 2 ∧ z.2.1 0 27 = lN (pTok bt n pos).1) ∨ ((pTok bt n pos).1 = 10022 ∧ z.1 0 25 = 4)) ∧ z.1 0 24 = nI (pTok bt n pos).2.2) ∨
  ((pTok bt n pos).2.1 < n ∧ pLe (bt (pTok bt n pos).2.1) = false ∧ pDi (bt (pTok bt n pos).2.1) = false ∧ (((pTok bt n pos).1 ≠ 10022 ∧ z.1 0 25 = 3 ∧ z.2.1 0 27 = lN (bt (pTok bt n pos).2.1) ∧ z.1 0 24 = nI (pTok bt n pos).2.2) ∨ ((pTok bt n pos).1 = 10022 ∧ z.1 0 25 = 4))))
theorem pTok_a (bt : Nat → Nat) (n pos : Nat) : (pTok bt n pos).2.1 = pRun pBl bt n pos := by
  simp only [pTok]
  split
  · rfl
  · split
    · rfl
    · split <;> rfl
theorem pTok_end {bt : Nat → Nat} {n pos : Nat} (h : n ≤ pRun pBl bt n pos) : pTok bt n pos = (10021, pRun pBl bt n pos, pRun pBl bt n pos) := by
  simp only [pTok, if_pos h]
theorem pTok_word {bt : Nat → Nat} {n pos a : Nat} (ha : pRun pBl bt n pos = a) (h : a < n) (hl : pLe (bt a) = true) : pTok bt n pos = (pWd bt a (pRun pLe bt n a) pWords, a, pRun pLe bt n a) := by
  simp only [pTok, ha]
  rw [if_neg (by omega), if_pos hl]
theorem pTok_dig {bt : Nat → Nat} {n pos a : Nat} (ha : pRun pBl bt n pos = a) (h : a < n) (hl : pLe (bt a) = false) (hd : pDi (bt a) = true) : pTok bt n pos = (if 4 < pRun pDi bt n a - a then 10022 else pVal bt a (pRun pDi bt n a - a), a, pRun pDi bt n a) := by
  simp only [pTok, ha]
  rw [if_neg (by omega), if_neg (by simp [hl]), if_pos hd]
theorem pTok_sig {bt : Nat → Nat} {n pos a : Nat} (ha : pRun pBl bt n pos = a) (h : a < n) (hl : pLe (bt a) = false) (hd : pDi (bt a) = false) : pTok bt n pos = (pSg (bt a), a, a + 1) := by
  simp only [pTok, ha]
  rw [if_neg (by omega), if_neg (by simp [hl]), if_neg (by simp [hd])]
theorem pVal_lt (bt : Nat → Nat) (a : Nat) : ∀ k, (∀ i, i < k → bt (a + i) ≤ 57) → pVal bt a k < 10 ^ k
  | 0, _ => Nat.one_pos
  | k + 1, hd => by
    have h := pVal_lt bt a k (fun i hi => hd i (by omega))
    have := hd k (by omega)
    simp only [pVal]
    rw [Nat.pow_succ]
    omega
theorem pLe_iff {c : Nat} : pLe c = true ↔ 97 ≤ c ∧ c ≤ 122 := by simp [pLe]
theorem pDi_iff {c : Nat} : pDi c = true ↔ 48 ≤ c ∧ c ≤ 57 := by simp [pDi]
theorem pLe_no {c : Nat} : pLe c = false ↔ ¬ (97 ≤ c ∧ c ≤ 122) := by
  rw [← pLe_iff]; simp
theorem pDi_no {c : Nat} : pDi c = false ↔ ¬ (48 ≤ c ∧ c ≤ 57) := by
  rw [← pDi_iff]; simp
theorem pBl_iff {c : Nat} : pBl c = true ↔ c = 32 ∨ c = 10 := by simp [pBl]
/-- all of a run holds P -/
theorem pRun_all {P : Nat → Bool} {bt : Nat → Nat} {n : Nat} : ∀ (k a : Nat), n - a ≤ k → ∀ i, a ≤ i → i < pRun P bt n a → P (bt i) = true
  | 0, a, h, i, h1, h2 => by
    rw [pRun_end (by omega)] at h2
    omega
  | k + 1, a, h, i, h1, h2 => by
    by_cases hc : a < n ∧ P (bt a) = true
    · rw [pRun_go hc.1 hc.2] at h2
      by_cases hi : i = a
      · rw [hi]; exact hc.2
      · exact pRun_all k (a + 1) (by omega) i (by omega) h2
    · rw [pRun_end hc] at h2
      omega
