/-! the republic as numbers: rows 0 left, 1 breaks, 2 harm, 3 kind, 4 number, 5 sits, 6 served, 7 (broken, term, year, cost, people, rule) -/
abbrev sR : Type := Nat → Nat → Nat
def sAl (f : Nat → Nat) : Nat → Nat
  | 0 => 0
  | k + 1 => if 0 < f k then sAl f k + 2 ^ k else sAl f k
theorem sAl_lt (f : Nat → Nat) : ∀ k, sAl f k < 2 ^ k
  | 0 => Nat.one_pos
  | k + 1 => by
    have h := sAl_lt f k
    simp only [sAl]
    rw [Nat.pow_succ]
    split <;> omega
theorem sOr_bit : ∀ i, i < 10 → ∀ a, a < 2 ^ i → (nI a ||| ((1 : Int32) <<< (nI i &&& 31))) = nI (a + 2 ^ i) := by decide +kernel
theorem sOr_no : ∀ i, i < 10 → ∀ a, a < 2 ^ i → (nI a ||| ((0 : Int32) <<< (nI i &&& 31))) = nI a := by decide +kernel
theorem sNN {x : Int32} {n : Nat} (h0 : 0 ≤ x.toInt) (h1 : x.toInt < n) : ∃ j : Nat, j < n ∧ x = nI j := by
  refine ⟨x.toInt.toNat, by omega, ?_⟩
  rw [← Int32.toInt_inj, nI_toInt]
  · omega
  · have := x.toInt_lt
    omega
theorem sSub1 {k : Nat} (h : k < 2 ^ 30) : (nI k - 1).toInt = (k : Int) - 1 := by
  have := pk_sub_toInt (a := k) (b := 1) h (by decide)
  exact this
theorem sTI {k : Nat} (h : k < 2 ^ 31) : (nI k).toInt = (k : Int) := nI_toInt h
theorem sLE {a b : Nat} (ha : a < 2 ^ 31) (hb : b < 2 ^ 31) : nI a ≤ nI b ↔ a ≤ b := nI_leI ha hb
theorem sLT {a b : Nat} (ha : a < 2 ^ 31) (hb : b < 2 ^ 31) : nI a < nI b ↔ a < b := nI_ltI ha hb
theorem sEQ {a b : Nat} (ha : a < 2 ^ 31) (hb : b < 2 ^ 31) : nI a = nI b ↔ a = b := nI_eq ha hb
theorem sCL {n : Nat} (h : n < 2 ^ 31) : (nI n).toNatClampNeg = n := nI_clamp h
