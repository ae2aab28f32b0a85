/-! reading a text, as numbers: bytes bt 0 .. n - 1; tokens as the class's numbers; a postfix row of codes, or the place of a fault -/
def pBl (c : Nat) : Bool := c == 32 || c == 10
def pLe (c : Nat) : Bool := decide (97 ≤ c ∧ c ≤ 122)
def pDi (c : Nat) : Bool := decide (48 ≤ c ∧ c ≤ 57)
/-- the first place from a on where P doesn't hold, or the end; k: fuel -/
def pWh (P : Nat → Bool) (bt : Nat → Nat) (n : Nat) : Nat → Nat → Nat
  | 0, a => a
  | k + 1, a => if a < n ∧ P (bt a) = true then pWh P bt n k (a + 1) else a
def pRun (P : Nat → Bool) (bt : Nat → Nat) (n a : Nat) : Nat := pWh P bt n (n - a) a
theorem pRun_go {P : Nat → Bool} {bt : Nat → Nat} {n a : Nat} (h : a < n) (hp : P (bt a) = true) : pRun P bt n a = pRun P bt n (a + 1) := by
  unfold pRun
  obtain ⟨k, hk⟩ : ∃ k, n - a = k + 1 := ⟨n - a - 1, by omega⟩
  rw [hk, show n - (a + 1) = k by omega]
  simp only [pWh]
  rw [if_pos ⟨h, hp⟩]
theorem pRun_end {P : Nat → Bool} {bt : Nat → Nat} {n a : Nat} (h : ¬ (a < n ∧ P (bt a) = true)) : pRun P bt n a = a := by
  unfold pRun
  cases hk : n - a with
  | zero => rfl
  | succ k =>
    simp only [pWh]
    rw [if_neg h]
theorem pWh_ge (P : Nat → Bool) (bt : Nat → Nat) (n : Nat) : ∀ k a, a ≤ pWh P bt n k a
  | 0, a => Nat.le_refl a
  | k + 1, a => by
    simp only [pWh]
    split
    · exact Nat.le_trans (Nat.le_succ a) (pWh_ge P bt n k (a + 1))
    · exact Nat.le_refl a
theorem pWh_le (P : Nat → Bool) (bt : Nat → Nat) (n : Nat) : ∀ k a, a ≤ n → pWh P bt n k a ≤ n
  | 0, a, h => h
  | k + 1, a, h => by
    simp only [pWh]
    split
    · exact pWh_le P bt n k (a + 1) (by omega)
    · exact h
theorem pRun_ge (P : Nat → Bool) (bt : Nat → Nat) (n a : Nat) : a ≤ pRun P bt n a := pWh_ge P bt n _ a
theorem pRun_le (P : Nat → Bool) (bt : Nat → Nat) (n a : Nat) (h : a ≤ n) : pRun P bt n a ≤ n := pWh_le P bt n _ a h
/-- the worth of k digits from a on -/
def pVal (bt : Nat → Nat) (a : Nat) : Nat → Nat
  | 0 => 0
  | k + 1 => 10 * pVal bt a k + (bt (a + k) - 48)
def pWords : List (List Nat × Nat) := [([104, 97, 114, 109], 10000), ([108, 97, 119, 115], 10001), ([110, 117, 109, 98, 101, 114], 10002), ([121, 101, 97, 114], 10003), ([115, 101, 114, 118, 101, 100], 10004), ([97, 108, 105, 118, 101], 10005), ([100, 97, 114, 101, 115], 10015), ([104, 97, 114, 109, 115], 10016), ([115, 105, 116, 115], 10017), ([111, 114], 10006), ([97, 110, 100], 10007), ([110, 111, 116], 10013)]
/-- whether the bytes from a to b spell that word -/
def pSp (w : List Nat) (bt : Nat → Nat) (a b : Nat) : Bool := decide (b - a = w.length) && (List.range w.length).all (fun i => decide (bt (a + i) = w.getD i 0))
def pWd (bt : Nat → Nat) (a b : Nat) : List (List Nat × Nat) → Nat
  | [] => 10022
  | (w, c) :: l => if pSp w bt a b = true then c else pWd bt a b l
def pSg (c : Nat) : Nat := if c = 40 then 10018 else if c = 41 then 10019 else if c = 59 then 10020 else if c = 43 then 10010 else if c = 45 then 10011 else if c = 42 then 10012 else if c = 60 then 10008 else if c = 61 then 10009 else 10022
/-- the token from a place on: its code, its first byte's place, the place behind it -/
def pTok (bt : Nat → Nat) (n pos : Nat) : Nat × Nat × Nat :=
  let a := pRun pBl bt n pos
  if n ≤ a then (10021, a, a)
  else if pLe (bt a) = true then (pWd bt a (pRun pLe bt n a) pWords, a, pRun pLe bt n a)
  else if pDi (bt a) = true then (if 4 < pRun pDi bt n a - a then 10022 else pVal bt a (pRun pDi bt n a - a), a, pRun pDi bt n a)
  else (pSg (bt a), a, a + 1)
abbrev pRes : Type := Nat × List Nat × Nat
/-- on with what was read, unless it has a fault -/
def pSeq (r : pRes) (k : List Nat → Nat → pRes) : pRes := if r.1 = 1 then k r.2.1 r.2.2 else r
def pMore (r : Nat → Nat → pRes) (t : Nat × Nat × Nat) (pos sub rest : Nat) (is : Nat → Bool) : pRes := if is t.1 = true then pSeq (r sub t.2.2) (fun cs p1 => pSeq (r rest p1) (fun cs2 p2 => (1, cs ++ t.1 :: cs2, p2))) else (1, [], pos)
def pChain (r : Nat → Nat → pRes) (pos sub rest : Nat) : pRes := pSeq (r sub pos) (fun cs p1 => pSeq (r rest p1) (fun cs2 p2 => (1, cs ++ cs2, p2)))
def pOp (m : Nat) (c : Nat) : Bool := if m = 10 then c == 10006 else if m = 11 then c == 10007 else if m = 14 then c == 10010 || c == 10011 else c == 10012
/-- reading by the grammar: fuel, what is read, how many are open, from which place: (1, codes, place behind) or (2, _, the fault's place); 0: no fuel.
0 E, 1 AND, 2 NOT, 3 a comparison, 4 SUM, 5 TERM, 6 ONE with its -, 7 ONE; 10, 11, 14, 15: what may follow in 0, 1, 4, 5 -/
def pG (bt : Nat → Nat) (n : Nat) : Nat → Nat → Nat → Nat → pRes
  | 0, _, _, _ => (0, [], 0)
  | f + 1, m, o, pos =>
    let t := pTok bt n pos
    let r := fun s p => pG bt n f s o p
    let r1 := fun s p => pG bt n f s (o + 1) p
    match m with
    | 0 => pChain r pos 1 10
    | 10 => pMore r t pos 1 10 (pOp 10)
    | 1 => pChain r pos 2 11
    | 11 => pMore r t pos 2 11 (pOp 11)
    | 2 => if t.1 = 10013 then (if 5 ≤ o then (2, [], t.2.1) else pSeq (r1 2 t.2.2) (fun cs p1 => (1, cs ++ [10013], p1))) else r 3 pos
    | 3 => pSeq (r 4 pos) (fun cs p1 => if (pTok bt n p1).1 = 10008 ∨ (pTok bt n p1).1 = 10009 then pSeq (r 4 (pTok bt n p1).2.2) (fun cs2 p2 => (1, cs ++ (cs2 ++ [(pTok bt n p1).1]), p2)) else (1, cs, p1))
    | 4 => pChain r pos 5 14
    | 14 => pMore r t pos 5 14 (pOp 14)
    | 5 => pChain r pos 6 15
    | 15 => pMore r t pos 6 15 (pOp 15)
    | 6 => if t.1 = 10011 then (if 5 ≤ o then (2, [], t.2.1) else pSeq (r1 6 t.2.2) (fun cs p1 => (1, cs ++ [10014], p1))) else r 7 pos
    | 7 => if t.1 ≤ 10005 then (1, [t.1], t.2.2)
      else if t.1 = 10018 then (if 5 ≤ o then (2, [], t.2.1) else pSeq (r1 0 t.2.2) (fun cs p1 => if (pTok bt n p1).1 = 10019 then (1, cs, (pTok bt n p1).2.2) else (2, [], (pTok bt n p1).2.1)))
      else (2, [], t.2.1)
    | _ => (0, [], 0)
def pOk (r : pRes) : Prop := r.1 = 0 ∨ r.1 = 1 ∨ r.1 = 2
theorem pSeq_ok {r : pRes} {k : List Nat → Nat → pRes} (h : pOk r) (hk : ∀ cs p, pOk (k cs p)) : pOk (pSeq r k) := by
  unfold pSeq
  split
  · exact hk _ _
  · exact h
theorem pG_ok (bt : Nat → Nat) (n : Nat) : ∀ f m o pos, pOk (pG bt n f m o pos)
  | 0, _, _, _ => Or.inl rfl
  | f + 1, m, o, pos => by
    have ih := pG_ok bt n f
    have hc : ∀ sub rest, pOk (pChain (fun s p => pG bt n f s o p) pos sub rest) := fun sub rest => pSeq_ok (ih _ _ _) (fun _ _ => pSeq_ok (ih _ _ _) (fun _ _ => Or.inr (Or.inl rfl)))
    have hm : ∀ t sub rest is, pOk (pMore (fun s p => pG bt n f s o p) t pos sub rest is) := fun t sub rest is => by
      unfold pMore
      split
      · exact pSeq_ok (ih _ _ _) (fun _ _ => pSeq_ok (ih _ _ _) (fun _ _ => Or.inr (Or.inl rfl)))
      · exact Or.inr (Or.inl rfl)
    unfold pG
    dsimp only
    split
    · exact hc _ _
    · exact hm _ _ _ _
    · exact hc _ _
    · exact hm _ _ _ _
    · split
      · split
        · exact Or.inr (Or.inr rfl)
        · exact pSeq_ok (ih _ _ _) (fun _ _ => Or.inr (Or.inl rfl))
      · exact ih _ _ _
    · refine pSeq_ok (ih _ _ _) (fun _ _ => ?_)
      split
      · exact pSeq_ok (ih _ _ _) (fun _ _ => Or.inr (Or.inl rfl))
      · exact Or.inr (Or.inl rfl)
    · exact hc _ _
    · exact hm _ _ _ _
    · exact hc _ _
    · exact hm _ _ _ _
    · split
      · split
        · exact Or.inr (Or.inr rfl)
        · exact pSeq_ok (ih _ _ _) (fun _ _ => Or.inr (Or.inl rfl))
      · exact ih _ _ _
    · split
      · exact Or.inr (Or.inl rfl)
      · split
        · split
          · exact Or.inr (Or.inr rfl)
          · refine pSeq_ok (ih _ _ _) (fun _ _ => ?_)
            split
            · exact Or.inr (Or.inl rfl)
            · exact Or.inr (Or.inr rfl)
        · exact Or.inr (Or.inr rfl)
    · exact Or.inl rfl
/-- a sequence that has fuel: its first part has a fault, or not -/
theorem pSeq_of {r : pRes} {k : List Nat → Nat → pRes} {tag : Nat} {cs : List Nat} {p : Nat} (hr : pOk r) (h : pSeq r k = (tag, cs, p)) (ht : tag ≠ 0) : (r.1 = 2 ∧ tag = 2 ∧ p = r.2.2) ∨ (r.1 = 1 ∧ k r.2.1 r.2.2 = (tag, cs, p)) := by
  unfold pSeq at h
  split at h
  · rename_i h1
    exact Or.inr ⟨h1, h⟩
  · rename_i h1
    refine Or.inl ?_
    rw [h] at hr h1 ⊢
    rcases hr with q | q | q
    · exact absurd q ht
    · exact absurd q h1
    · exact ⟨q, q, rfl⟩
/-- one code on a stack; the facts of a code 10000 .. 10005 -/
def pJoin (c : Nat) (a b : Int32) : Int32 :=
  if c = 10006 then (if a ≠ 0 ∨ b ≠ 0 then 1 else 0) else if c = 10007 then (if a ≠ 0 ∧ b ≠ 0 then 1 else 0) else if c = 10008 then (if a < b then 1 else 0) else if c = 10009 then (if a = b then 1 else 0) else if c = 10010 then a + b else if c = 10011 then a - b else a * b
def pStep (fa : Nat → Int32) (c : Nat) (st : List Int32) : List Int32 :=
  if c ≤ 10005 then (if c < 10000 then nI c else fa c) :: st
  else if c = 10013 then (match st with | x :: r => (if x = 0 then 1 else 0) :: r | [] => [])
  else if c = 10014 then (match st with | x :: r => (-x) :: r | [] => [])
  else (match st with | y :: x :: r => pJoin c x y :: r | _ => [])
def pEv (fa : Nat → Int32) : List Nat → List Int32 → List Int32
  | [], st => st
  | c :: l, st => pEv fa l (pStep fa c st)
theorem pEv_app (fa : Nat → Int32) : ∀ (a b : List Nat) (st : List Int32), pEv fa (a ++ b) st = pEv fa b (pEv fa a st)
  | [], _, _ => rfl
  | c :: a, b, st => by
    simp only [List.cons_append, pEv]
    exact pEv_app fa a b _
