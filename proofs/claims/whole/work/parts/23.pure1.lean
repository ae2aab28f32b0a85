/-! plain facts of ints -/
def sWi (v a b : Int32) : Int32 := if v < a then a else if b < v then b else v
def sPop (n : Nat) : Nat := n % 2 + n / 2 % 2 + n / 4 % 2 + n / 8 % 2 + n / 16 % 2 + n / 32 % 2 + n / 64 % 2 + n / 128 % 2 + n / 256 % 2 + n / 512 % 2
theorem sPop_step0 : ∀ n, n < 1024 → n ≠ 0 → (nI n &&& (nI n - 1)) = nI (n &&& (n - 1)) ∧ n &&& (n - 1) < n ∧ sPop n = sPop (n &&& (n - 1)) + 1 := by decide +kernel
theorem sPop_0 : sPop 0 = 0 := by decide
theorem sPop_le : ∀ n, n < 1024 → sPop n ≤ 10 := by decide +kernel
