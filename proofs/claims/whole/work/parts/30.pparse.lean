/-! reading a text, as numbers: bytes bt 0 .. n - 1; tokens as the class's numbers; a postfix row of codes, or the place of a fault -/
def pBl (c : Nat) : Bool := c == 32 || c == 10
def pLe (c : Nat) : Bool := decide (97 ≤ c ∧ c ≤ 122)
def pDi (c : Nat) : Bool := decide (48 ≤ c ∧ c ≤ 57)
/-- the first place from a on where P doesn't hold, or the end; k: fuel -/
def pWh (P : Nat → Bool) (bt : Nat → Nat) (n : Nat) : Nat → Nat → Nat
  | 0, a => a
  | k + 1, a => if a < n ∧ P (bt a) = true then pWh P bt n k (a + 1) else a
def pRun (P : Nat → Bool) (bt : Nat → Nat) (n a : Nat) : Nat := pWh P bt n (n - a) a
theorem pRun_go {P : Nat → Bool} {bt : Nat → Nat} {n a : Nat} (h : a < n) (hp : P (bt a) = true) : pRun P bt n a = pRun P bt n (a + 1) := by
  unfold pRun
  obtain ⟨k, hk⟩ : ∃ k, n - a = k + 1 := ⟨n - a - 1, by omega⟩
  rw [hk, show n - (a + 1) = k by omega]
  simp only [pWh]
  rw [if_pos ⟨h, hp⟩]
theorem pRun_end {P : Nat → Bool} {bt : Nat → Nat} {n a : Nat} (h : ¬ (a < n ∧ P (bt a) = true)) : pRun P bt n a = a := by
  unfold pRun
  cases hk : n - a with
  | zero => rfl
  | succ k =>
    simp only [pWh]
    rw [if_neg h]
theorem pWh_ge (P : Nat → Bool) (bt : Nat → Nat) (n : Nat) : ∀ k a, a ≤ pWh P bt n k a
  | 0, a => Nat.le_refl a
  | k + 1, a => by
    simp only [pWh]
    split
    · exact Nat.le_trans (Nat.le_succ a) (pWh_ge P bt n k (a + 1))
    · exact Nat.le_refl a
theorem pWh_le (P : Nat → Bool) (bt : Nat → Nat) (n : Nat) : ∀ k a, a ≤ n → pWh P bt n k a ≤ n
  | 0, a, h => h
  | k + 1, a, h => by
    simp only [pWh]
    split
    · exact pWh_le P bt n k (a + 1) (by omega)
    · exact h
theorem pRun_ge (P : Nat → Bool) (bt : Nat → Nat) (n a : Nat) : a ≤ pRun P bt n a := pWh_ge P bt n _ a
theorem pRun_le (P : Nat → Bool) (bt : Nat → Nat) (n a : Nat) (h : a ≤ n) : pRun P bt n a ≤ n := pWh_le P bt n _ a h
/-- the worth of k digits from a on -/
def pVal (bt : Nat → Nat) (a : Nat) : Nat → Nat
  | 0 => 0
  | k + 1 => 10 * pVal bt a k + (bt (a + k) - 48)
def pWords : List (List Nat × Nat) := [([104, 97, 114, 109], 10000), ([108, 97, 119, 115], 10001), ([110, 117, 109, 98, 101, 114], 10002), ([121, 101, 97, 114], 10003), ([115, 101, 114, 118, 101, 100], 10004), ([97, 108, 105, 118, 101], 10005), ([100, 97, 114, 101, 115], 10015), ([104, 97, 114, 109, 115], 10016), ([115, 105, 116, 115], 10017), ([111, 114], 10006), ([97, 110, 100], 10007), ([110, 111, 116], 10013)]
/-- whether the bytes from a to b spell that word -/
def pSp (w : List Nat) (bt : Nat → Nat) (a b : Nat) : Bool := decide (b - a = w.length) && (List.range w.length).all (fun i => decide (bt (a + i) = w.getD i 0))
def pWd (bt : Nat → Nat) (a b : Nat) : List (List Nat × Nat) → Nat
  | [] => 10022
  | (w, c) :: l => if pSp w bt a b = true then c else pWd bt a b l
def pSg (c : Nat) : Nat := if c = 40 then 10018 else if c = 41 then 10019 else if c = 59 then 10020 else if c = 43 then 10010 else if c = 45 then 10011 else if c = 42 then 10012 else if c = 60 then 10008 else if c = 61 then 10009 else 10022
/-- the token from a place on: its code, its first byte's place, the place behind it -/
def pTok (bt : Nat → Nat) (n pos : Nat) : Nat × Nat × Nat :=
  let a := pRun pBl bt n pos
  if n ≤ a then (10021, a, a)
  else if pLe (bt a) = true then (pWd bt a (pRun pLe bt n a) pWords, a, pRun pLe bt n a)
  else if pDi (bt a) = true then (if 4 < pRun pDi bt n a - a then 10022 else pVal bt a (pRun pDi bt n a - a), a, pRun pDi bt n a)
  else (pSg (bt a), a, a + 1)
/-- reading by the grammar: fuel, what is read, how many are open, from which place: (1, codes, place behind) or (2, _, the fault's place); 0: no fuel.
0 E, 1 AND, 2 NOT, 3 a comparison, 4 SUM, 5 TERM, 6 ONE with its -, 7 ONE; 10, 11, 14, 15: what may follow in 0, 1, 4, 5 -/
def pG (bt : Nat → Nat) (n : Nat) : Nat → Nat → Nat → Nat → Nat × List Nat × Nat
  | 0, _, _, _ => (0, [], 0)
  | f + 1, m, o, pos =>
    let t := pTok bt n pos
    let chain := fun (sub rest : Nat) => match pG bt n f sub o pos with
      | (1, cs, p1) => match pG bt n f rest o p1 with
        | (1, cs2, p2) => (1, cs ++ cs2, p2)
        | r => r
      | r => r
    let more := fun (sub rest : Nat) (is : Nat → Bool) => if is t.1 = true then match pG bt n f sub o t.2.2 with
        | (1, cs, p1) => match pG bt n f rest o p1 with
          | (1, cs2, p2) => (1, cs ++ t.1 :: cs2, p2)
          | r => r
        | r => r
      else (1, [], pos)
    match m with
    | 0 => chain 1 10
    | 10 => more 1 10 (fun c => c == 10006)
    | 1 => chain 2 11
    | 11 => more 2 11 (fun c => c == 10007)
    | 2 => if t.1 = 10013 then (if 5 ≤ o then (2, [], t.2.1) else match pG bt n f 2 (o + 1) t.2.2 with
        | (1, cs, p1) => (1, cs ++ [10013], p1)
        | r => r)
      else pG bt n f 3 o pos
    | 3 => match pG bt n f 4 o pos with
      | (1, cs, p1) =>
        let t1 := pTok bt n p1
        if t1.1 = 10008 ∨ t1.1 = 10009 then match pG bt n f 4 o t1.2.2 with
          | (1, cs2, p2) => (1, cs ++ (cs2 ++ [t1.1]), p2)
          | r => r
        else (1, cs, p1)
      | r => r
    | 4 => chain 5 14
    | 14 => more 5 14 (fun c => c == 10010 || c == 10011)
    | 5 => chain 6 15
    | 15 => more 6 15 (fun c => c == 10012)
    | 6 => if t.1 = 10011 then (if 5 ≤ o then (2, [], t.2.1) else match pG bt n f 6 (o + 1) t.2.2 with
        | (1, cs, p1) => (1, cs ++ [10014], p1)
        | r => r)
      else pG bt n f 7 o pos
    | 7 => if t.1 ≤ 10005 then (1, [t.1], t.2.2)
      else if t.1 = 10018 then (if 5 ≤ o then (2, [], t.2.1) else match pG bt n f 0 (o + 1) t.2.2 with
        | (1, cs, p1) =>
          let t1 := pTok bt n p1
          if t1.1 = 10019 then (1, cs, t1.2.2) else (2, [], t1.2.1)
        | r => r)
      else (2, [], t.2.1)
    | _ => (0, [], 0)
/-- one code on a stack; the facts of a code 10000 .. 10005 -/
def pJoin (c : Nat) (a b : Int32) : Int32 :=
  if c = 10006 then (if a ≠ 0 ∨ b ≠ 0 then 1 else 0) else if c = 10007 then (if a ≠ 0 ∧ b ≠ 0 then 1 else 0) else if c = 10008 then (if a < b then 1 else 0) else if c = 10009 then (if a = b then 1 else 0) else if c = 10010 then a + b else if c = 10011 then a - b else a * b
def pStep (fa : Nat → Int32) (c : Nat) (st : List Int32) : List Int32 :=
  if c ≤ 10005 then (if c < 10000 then nI c else fa c) :: st
  else if c = 10013 then (match st with | x :: r => (if x = 0 then 1 else 0) :: r | [] => [])
  else if c = 10014 then (match st with | x :: r => (-x) :: r | [] => [])
  else (match st with | y :: x :: r => pJoin c x y :: r | _ => [])
def pEv (fa : Nat → Int32) : List Nat → List Int32 → List Int32
  | [], st => st
  | c :: l, st => pEv fa l (pStep fa c st)
theorem pEv_app (fa : Nat → Int32) : ∀ (a b : List Nat) (st : List Int32), pEv fa (a ++ b) st = pEv fa b (pEv fa a st)
  | [], _, _ => rfl
  | c :: a, b, st => by
    simp only [List.cons_append, pEv]
    exact pEv_app fa a b _
