/-! the grammar's other steps -/
theorem pG_not {bt : Nat → Nat} {n f o pos tag : Nat} {cs : List Nat} {p : Nat} (h : pG bt n f 2 o pos = (tag, cs, p)) (ht : tag ≠ 0) : ∃ g, f = g + 1 ∧ (((pTok bt n pos).1 = 10013 ∧ ((5 ≤ o ∧ tag = 2 ∧ p = (pTok bt n pos).2.1) ∨ (o < 5 ∧ ∃ t1 x1 p1, pG bt n g 2 (o + 1) (pTok bt n pos).2.2 = (t1, x1, p1) ∧ t1 ≠ 0 ∧ ((t1 = 2 ∧ tag = 2 ∧ p = p1) ∨ (t1 = 1 ∧ tag = 1 ∧ cs = x1 ++ [10013] ∧ p = p1))))) ∨ ((pTok bt n pos).1 ≠ 10013 ∧ pG bt n g 3 o pos = (tag, cs, p))) := by
  cases f with
  | zero => simp only [pG, Prod.mk.injEq] at h; exact absurd h.1.symm ht
  | succ g =>
    refine ⟨g, rfl, ?_⟩
    simp only [pG] at h
    split at h
    · rename_i h1
      refine Or.inl ⟨h1, ?_⟩
      split at h
      · rename_i h2
        simp only [Prod.mk.injEq] at h
        exact Or.inl ⟨h2, h.1.symm, h.2.2.symm⟩
      · rename_i h2
        refine Or.inr ⟨by omega, _, _, _, rfl, ?_⟩
        rcases pSeq_of (pG_ok bt n g 2 (o + 1) _) h ht with ⟨k1, k2, k3⟩ | ⟨k1, k2⟩
        · exact ⟨by omega, Or.inl ⟨k1, k2, k3⟩⟩
        · simp only [Prod.mk.injEq] at k2
          exact ⟨by omega, Or.inr ⟨k1, k2.1.symm, k2.2.1.symm, k2.2.2.symm⟩⟩
    · rename_i h1
      exact Or.inr ⟨h1, h⟩
theorem pG_cmp {bt : Nat → Nat} {n f o pos tag : Nat} {cs : List Nat} {p : Nat} (h : pG bt n f 3 o pos = (tag, cs, p)) (ht : tag ≠ 0) : ∃ g t1 x1 p1, f = g + 1 ∧ pG bt n g 4 o pos = (t1, x1, p1) ∧ t1 ≠ 0 ∧ ((t1 = 2 ∧ tag = 2 ∧ p = p1) ∨ (t1 = 1 ∧ (((pTok bt n p1).1 ≠ 10008 ∧ (pTok bt n p1).1 ≠ 10009 ∧ tag = 1 ∧ cs = x1 ∧ p = p1) ∨ (((pTok bt n p1).1 = 10008 ∨ (pTok bt n p1).1 = 10009) ∧ ∃ t2 x2 p2, pG bt n g 4 o (pTok bt n p1).2.2 = (t2, x2, p2) ∧ t2 ≠ 0 ∧ ((t2 = 2 ∧ tag = 2 ∧ p = p2) ∨ (t2 = 1 ∧ tag = 1 ∧ cs = x1 ++ (x2 ++ [(pTok bt n p1).1]) ∧ p = p2)))))) := by
  cases f with
  | zero => simp only [pG, Prod.mk.injEq] at h; exact absurd h.1.symm ht
  | succ g =>
    refine ⟨g, (pG bt n g 4 o pos).1, (pG bt n g 4 o pos).2.1, (pG bt n g 4 o pos).2.2, rfl, rfl, ?_⟩
    simp only [pG] at h
    rcases pSeq_of (pG_ok bt n g 4 o pos) h ht with ⟨k1, k2, k3⟩ | ⟨k1, k2⟩
    · exact ⟨by omega, Or.inl ⟨k1, k2, k3⟩⟩
    · refine ⟨by omega, Or.inr ⟨k1, ?_⟩⟩
      split at k2
      · rename_i h1
        refine Or.inr ⟨h1, _, _, _, rfl, ?_⟩
        rcases pSeq_of (pG_ok bt n g 4 o _) k2 ht with ⟨j1, j2, j3⟩ | ⟨j1, j2⟩
        · exact ⟨by omega, Or.inl ⟨j1, j2, j3⟩⟩
        · simp only [Prod.mk.injEq] at j2
          exact ⟨by omega, Or.inr ⟨j1, j2.1.symm, j2.2.1.symm, j2.2.2.symm⟩⟩
      · rename_i h1
        simp only [Prod.mk.injEq] at k2
        exact Or.inl ⟨fun q => h1 (Or.inl q), fun q => h1 (Or.inr q), k2.1.symm, k2.2.1.symm, k2.2.2.symm⟩
theorem pG_min {bt : Nat → Nat} {n f o pos tag : Nat} {cs : List Nat} {p : Nat} (h : pG bt n f 6 o pos = (tag, cs, p)) (ht : tag ≠ 0) : ∃ g, f = g + 1 ∧ (((pTok bt n pos).1 = 10011 ∧ ((5 ≤ o ∧ tag = 2 ∧ p = (pTok bt n pos).2.1) ∨ (o < 5 ∧ ∃ t1 x1 p1, pG bt n g 6 (o + 1) (pTok bt n pos).2.2 = (t1, x1, p1) ∧ t1 ≠ 0 ∧ ((t1 = 2 ∧ tag = 2 ∧ p = p1) ∨ (t1 = 1 ∧ tag = 1 ∧ cs = x1 ++ [10014] ∧ p = p1))))) ∨ ((pTok bt n pos).1 ≠ 10011 ∧ pG bt n g 7 o pos = (tag, cs, p))) := by
  cases f with
  | zero => simp only [pG, Prod.mk.injEq] at h; exact absurd h.1.symm ht
  | succ g =>
    refine ⟨g, rfl, ?_⟩
    simp only [pG] at h
    split at h
    · rename_i h1
      refine Or.inl ⟨h1, ?_⟩
      split at h
      · rename_i h2
        simp only [Prod.mk.injEq] at h
        exact Or.inl ⟨h2, h.1.symm, h.2.2.symm⟩
      · rename_i h2
        refine Or.inr ⟨by omega, _, _, _, rfl, ?_⟩
        rcases pSeq_of (pG_ok bt n g 6 (o + 1) _) h ht with ⟨k1, k2, k3⟩ | ⟨k1, k2⟩
        · exact ⟨by omega, Or.inl ⟨k1, k2, k3⟩⟩
        · simp only [Prod.mk.injEq] at k2
          exact ⟨by omega, Or.inr ⟨k1, k2.1.symm, k2.2.1.symm, k2.2.2.symm⟩⟩
    · rename_i h1
      exact Or.inr ⟨h1, h⟩
theorem pG_one {bt : Nat → Nat} {n f o pos tag : Nat} {cs : List Nat} {p : Nat} (h : pG bt n f 7 o pos = (tag, cs, p)) (ht : tag ≠ 0) : ∃ g, f = g + 1 ∧ (((pTok bt n pos).1 ≤ 10005 ∧ tag = 1 ∧ cs = [(pTok bt n pos).1] ∧ p = (pTok bt n pos).2.2) ∨ ((pTok bt n pos).1 = 10018 ∧ ((5 ≤ o ∧ tag = 2 ∧ p = (pTok bt n pos).2.1) ∨ (o < 5 ∧ ∃ t1 x1 p1, pG bt n g 0 (o + 1) (pTok bt n pos).2.2 = (t1, x1, p1) ∧ t1 ≠ 0 ∧ ((t1 = 2 ∧ tag = 2 ∧ p = p1) ∨ (t1 = 1 ∧ (((pTok bt n p1).1 = 10019 ∧ tag = 1 ∧ cs = x1 ∧ p = (pTok bt n p1).2.2) ∨ ((pTok bt n p1).1 ≠ 10019 ∧ tag = 2 ∧ p = (pTok bt n p1).2.1))))))) ∨ (10005 < (pTok bt n pos).1 ∧ (pTok bt n pos).1 ≠ 10018 ∧ tag = 2 ∧ p = (pTok bt n pos).2.1)) := by
  cases f with
  | zero => simp only [pG, Prod.mk.injEq] at h; exact absurd h.1.symm ht
  | succ g =>
    refine ⟨g, rfl, ?_⟩
    simp only [pG] at h
    split at h
    · rename_i h1
      simp only [Prod.mk.injEq] at h
      exact Or.inl ⟨h1, h.1.symm, h.2.1.symm, h.2.2.symm⟩
    · rename_i h1
      split at h
      · rename_i h2
        refine Or.inr (Or.inl ⟨h2, ?_⟩)
        split at h
        · rename_i h3
          simp only [Prod.mk.injEq] at h
          exact Or.inl ⟨h3, h.1.symm, h.2.2.symm⟩
        · rename_i h3
          refine Or.inr ⟨by omega, _, _, _, rfl, ?_⟩
          rcases pSeq_of (pG_ok bt n g 0 (o + 1) _) h ht with ⟨k1, k2, k3⟩ | ⟨k1, k2⟩
          · exact ⟨by omega, Or.inl ⟨k1, k2, k3⟩⟩
          · refine ⟨by omega, Or.inr ⟨k1, ?_⟩⟩
            split at k2
            · rename_i h4
              simp only [Prod.mk.injEq] at k2
              exact Or.inl ⟨h4, k2.1.symm, k2.2.1.symm, k2.2.2.symm⟩
            · rename_i h4
              simp only [Prod.mk.injEq] at k2
              exact Or.inr ⟨h4, k2.1.symm, k2.2.2.symm⟩
      · rename_i h2
        simp only [Prod.mk.injEq] at h
        exact Or.inr (Or.inr ⟨by omega, h2, h.1.symm, h.2.2.symm⟩)
/-- a number at hand, a word at hand, or neither -/
theorem tkM_num {z : xMem} {bt : Nat → Nat} {n pos : Nat} (h : tkM z bt n pos) (h1 : z.1 0 25 = 2) : (pTok bt n pos).1 < 10000 ∧ z.2.1 0 27 = lN (pTok bt n pos).1 := by
  rcases h.2 with q | q | q | q
  · rw [h1] at q; exact absurd q.2.1 (by decide)
  · rw [h1] at q; exact absurd q.2.2.1 (by decide)
  · rcases q.2.2.2.1 with r | r
    · exact ⟨r.1, r.2.2⟩
    · rw [h1] at r; exact absurd r.2 (by decide)
  · rcases q.2.2.2 with r | r
    · rw [h1] at r; exact absurd r.2.1 (by decide)
    · rw [h1] at r; exact absurd r.2 (by decide)
theorem tkM_wd {z : xMem} {bt : Nat → Nat} {n pos : Nat} (hpos : pos ≤ n) (h : tkM z bt n pos) (h1 : z.1 0 25 = 1) : 10000 ≤ (pTok bt n pos).1 ∧ (pTok bt n pos).1 ≠ 10018 := by
  obtain ⟨a, b, -, -, -, -, -, -, hc⟩ := tkM_word hpos h h1
  rw [hc]
  have := pWd_rng bt a b
  omega
theorem tkM_non {z : xMem} {bt : Nat → Nat} {n pos : Nat} (h : tkM z bt n pos) (h1 : ¬ z.1 0 25 = 1) (h2 : ¬ z.1 0 25 = 2) : 10005 < (pTok bt n pos).1 := by
  rcases h.2 with q | q | q | q
  · rw [pTok_end (by rw [← pTok_a]; exact q.1)]
    show 10005 < 10021
    decide
  · exact absurd q.2.2.1 h1
  · rcases q.2.2.2.1 with r | r
    · exact absurd r.2.1 h2
    · omega
  · have e2 := pTok_sig (pTok_a bt n pos).symm q.1 q.2.1 q.2.2.1
    have hr : ∀ k, 10005 < pSg k := by
      intro k
      simp only [pSg]
      repeat' split
      all_goals omega
    rw [e2]
    exact hr _
