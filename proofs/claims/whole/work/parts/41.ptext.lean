/-! a whole text -/
def pPt (bt : Nat → Nat) (n F key pos : Nat) : pRes := if (pTok bt n pos).1 = key then pSeq (pG bt n F 0 0 (pTok bt n pos).2.2) (fun cs p1 => if (pTok bt n p1).1 = 10020 then (1, cs, (pTok bt n p1).2.2) else (2, [], (pTok bt n p1).2.1)) else (2, [], (pTok bt n pos).2.1)
theorem pPt_ok (bt : Nat → Nat) (n F key pos : Nat) : pOk (pPt bt n F key pos) := by
  unfold pPt
  split
  · refine pSeq_ok (pG_ok bt n F 0 0 _) (fun _ _ => ?_)
    split
    · exact Or.inr (Or.inl rfl)
    · exact Or.inr (Or.inr rfl)
  · exact Or.inr (Or.inr rfl)
theorem pPt_key {bt : Nat → Nat} {n F key pos tag : Nat} {cs : List Nat} {p : Nat} (h : pPt bt n F key pos = (tag, cs, p)) (ht : tag ≠ 0) (hk : (pTok bt n pos).1 = key) : ∃ t1 x1 p1, pG bt n F 0 0 (pTok bt n pos).2.2 = (t1, x1, p1) ∧ t1 ≠ 0 ∧ ((t1 = 2 ∧ tag = 2 ∧ p = p1) ∨ (t1 = 1 ∧ (((pTok bt n p1).1 = 10020 ∧ tag = 1 ∧ cs = x1 ∧ p = (pTok bt n p1).2.2) ∨ ((pTok bt n p1).1 ≠ 10020 ∧ tag = 2 ∧ p = (pTok bt n p1).2.1)))) := by
  unfold pPt at h
  rw [if_pos hk] at h
  refine ⟨_, _, _, rfl, ?_⟩
  rcases pSeq_of (pG_ok bt n F 0 0 _) h ht with ⟨k1, k2, k3⟩ | ⟨k1, k2⟩
  · exact ⟨by omega, Or.inl ⟨k1, k2, k3⟩⟩
  · refine ⟨by omega, Or.inr ⟨k1, ?_⟩⟩
    split at k2
    · rename_i h4
      simp only [Prod.mk.injEq] at k2
      exact Or.inl ⟨h4, k2.1.symm, k2.2.1.symm, k2.2.2.symm⟩
    · rename_i h4
      simp only [Prod.mk.injEq] at k2
      exact Or.inr ⟨h4, k2.1.symm, k2.2.2.symm⟩
theorem pPt_no {bt : Nat → Nat} {n F key pos tag : Nat} {cs : List Nat} {p : Nat} (h : pPt bt n F key pos = (tag, cs, p)) (hk : (pTok bt n pos).1 ≠ key) : tag = 2 ∧ p = (pTok bt n pos).2.1 := by
  unfold pPt at h
  rw [if_neg hk] at h
  simp only [Prod.mk.injEq] at h
  exact ⟨h.1.symm, h.2.2.symm⟩
/-- a text: (1, the three parts' codes, _) or (2, _, the fault's place) -/
def pTx (bt : Nat → Nat) (n F : Nat) : Nat × (List Nat × List Nat × List Nat) × Nat :=
  if (pPt bt n F 10015 0).1 = 1 then (if (pPt bt n F 10016 (pPt bt n F 10015 0).2.2).1 = 1 then (if (pPt bt n F 10017 (pPt bt n F 10016 (pPt bt n F 10015 0).2.2).2.2).1 = 1 then
      (if (pTok bt n (pPt bt n F 10017 (pPt bt n F 10016 (pPt bt n F 10015 0).2.2).2.2).2.2).1 = 10021 then (1, ((pPt bt n F 10015 0).2.1, (pPt bt n F 10016 (pPt bt n F 10015 0).2.2).2.1, (pPt bt n F 10017 (pPt bt n F 10016 (pPt bt n F 10015 0).2.2).2.2).2.1), 0) else (2, ([], [], []), (pTok bt n (pPt bt n F 10017 (pPt bt n F 10016 (pPt bt n F 10015 0).2.2).2.2).2.2).2.1))
    else ((pPt bt n F 10017 (pPt bt n F 10016 (pPt bt n F 10015 0).2.2).2.2).1, ([], [], []), (pPt bt n F 10017 (pPt bt n F 10016 (pPt bt n F 10015 0).2.2).2.2).2.2))
    else ((pPt bt n F 10016 (pPt bt n F 10015 0).2.2).1, ([], [], []), (pPt bt n F 10016 (pPt bt n F 10015 0).2.2).2.2))
  else ((pPt bt n F 10015 0).1, ([], [], []), (pPt bt n F 10015 0).2.2)
theorem pTx_of {bt : Nat → Nat} {n F tag : Nat} {c1 c2 c3 : List Nat} {p : Nat} (h : pTx bt n F = (tag, (c1, c2, c3), p)) (ht : tag ≠ 0) : ∃ t1 x1 p1, pPt bt n F 10015 0 = (t1, x1, p1) ∧ t1 ≠ 0 ∧ ((t1 = 2 ∧ tag = 2 ∧ p = p1) ∨ (t1 = 1 ∧ ∃ t2 x2 p2, pPt bt n F 10016 p1 = (t2, x2, p2) ∧ t2 ≠ 0 ∧ ((t2 = 2 ∧ tag = 2 ∧ p = p2) ∨ (t2 = 1 ∧ ∃ t3 x3 p3, pPt bt n F 10017 p2 = (t3, x3, p3) ∧ t3 ≠ 0 ∧ ((t3 = 2 ∧ tag = 2 ∧ p = p3) ∨ (t3 = 1 ∧ (((pTok bt n p3).1 = 10021 ∧ tag = 1 ∧ c1 = x1 ∧ c2 = x2 ∧ c3 = x3) ∨ ((pTok bt n p3).1 ≠ 10021 ∧ tag = 2 ∧ p = (pTok bt n p3).2.1)))))))) := by
  unfold pTx at h
  have o1 := pPt_ok bt n F 10015 0
  obtain ⟨t1, x1, p1, h1⟩ : ∃ t1 x1 p1, pPt bt n F 10015 0 = (t1, x1, p1) := ⟨_, _, _, rfl⟩
  rw [h1] at h o1
  dsimp only at h
  have o2 := pPt_ok bt n F 10016 p1
  obtain ⟨t2, x2, p2, h2⟩ : ∃ t2 x2 p2, pPt bt n F 10016 p1 = (t2, x2, p2) := ⟨_, _, _, rfl⟩
  rw [h2] at h o2
  dsimp only at h
  have o3 := pPt_ok bt n F 10017 p2
  obtain ⟨t3, x3, p3, h3⟩ : ∃ t3 x3 p3, pPt bt n F 10017 p2 = (t3, x3, p3) := ⟨_, _, _, rfl⟩
  rw [h3] at h o3
  dsimp only at h
  have o1 : t1 = 0 ∨ t1 = 1 ∨ t1 = 2 := o1
  have o2 : t2 = 0 ∨ t2 = 1 ∨ t2 = 2 := o2
  have o3 : t3 = 0 ∨ t3 = 1 ∨ t3 = 2 := o3
  refine ⟨t1, x1, p1, h1, ?_⟩
  split at h
  · rename_i e1
    refine ⟨by omega, Or.inr ⟨e1, t2, x2, p2, h2, ?_⟩⟩
    split at h
    · rename_i e2
      refine ⟨by omega, Or.inr ⟨e2, t3, x3, p3, h3, ?_⟩⟩
      split at h
      · rename_i e3
        refine ⟨by omega, Or.inr ⟨e3, ?_⟩⟩
        split at h
        · rename_i h4
          simp only [Prod.mk.injEq] at h
          exact Or.inl ⟨h4, h.1.symm, h.2.1.1.symm, h.2.1.2.1.symm, h.2.1.2.2.symm⟩
        · rename_i h4
          simp only [Prod.mk.injEq] at h
          exact Or.inr ⟨h4, h.1.symm, h.2.2.symm⟩
      · rename_i e3
        simp only [Prod.mk.injEq] at h
        exact ⟨by omega, Or.inl ⟨by omega, by omega, h.2.2.symm⟩⟩
    · rename_i e2
      simp only [Prod.mk.injEq] at h
      exact ⟨by omega, Or.inl ⟨by omega, by omega, h.2.2.symm⟩⟩
  · rename_i e1
    simp only [Prod.mk.injEq] at h
    exact ⟨by omega, Or.inl ⟨by omega, by omega, h.2.2.symm⟩⟩
/-- nothing changed but what reading a text uses -/
def pK2 (z z' : xMem) : Prop := (∀ q, q ≠ 0 → z'.1 q = z.1 q) ∧ (∀ j, (j < 22 ∨ 30 < j) → z'.1 0 j = z.1 0 j)
theorem pK2_rf (z : xMem) : pK2 z z := ⟨fun _ _ => rfl, fun _ _ => rfl⟩
theorem pK2_put {a b : xMem} (h : pK2 a b) {j : Nat} (x : Int32) (hj : 22 ≤ j ∧ j ≤ 30) : pK2 a (mPut b 0 j x) := by
  refine ⟨fun q hq => ?_, fun i hi => ?_⟩
  · show (xUp b.1 0 (upd (b.1 0) j x)) q = _
    rw [xUp_ne hq]
    exact h.1 q hq
  · show (xUp b.1 0 (upd (b.1 0) j x)) 0 i = _
    rw [xUp_eq]
    show (if i = j then x else b.1 0 i) = _
    rw [if_neg (by omega)]
    exact h.2 i hi
theorem pK2_K {a b c : xMem} (h : pK2 a b) (h2 : pK b c) : pK2 a c := ⟨fun q hq => (h2.1 q hq).trans (h.1 q hq), fun j hj => (h2.2 j (by omega)).trans (h.2 j hj)⟩
theorem pF_K2 {z z' : xMem} (h : pK2 z z') : ∀ c, c ≤ 10005 → pF z' c = pF z c := fun c hc => h.2 _ (by omega)
theorem pStep_K2 {z z' : xMem} (h : pK2 z z') (c : Nat) (st : List Int32) : pStep (pF z') c st = pStep (pF z) c st := by
  unfold pStep
  split
  · split
    · rfl
    · rw [pF_K2 h _ (by omega)]
  · rfl
theorem pEv_K2 {z z' : xMem} (h : pK2 z z') : ∀ (cs : List Nat) (st : List Int32), pEv (pF z') cs st = pEv (pF z) cs st
  | [], st => rfl
  | c :: cs, st => by
    simp only [pEv]
    rw [pStep_K2 h, pEv_K2 h cs]
theorem tkM_end {z : xMem} {bt : Nat → Nat} {n pos : Nat} (h : tkM z bt n pos) : z.1 0 25 = 0 ↔ (pTok bt n pos).1 = 10021 := by
  rcases h.2 with q | q | q | q
  · rw [pTok_end (by rw [← pTok_a]; exact q.1)]
    exact ⟨fun _ => rfl, fun _ => q.2.1⟩
  · rw [q.2.2.1, pTok_word (pTok_a bt n pos).symm q.1 q.2.1]
    have := pWd_rng bt (pTok bt n pos).2.1 (pRun pLe bt n (pTok bt n pos).2.1)
    exact ⟨fun w => absurd w (by decide), fun w => by
      have w2 : pWd bt (pTok bt n pos).2.1 (pRun pLe bt n (pTok bt n pos).2.1) pWords = 10021 := w
      omega⟩
  · rcases q.2.2.2.1 with r | r
    · rw [r.2.1]
      exact ⟨fun w => absurd w (by decide), fun w => by omega⟩
    · rw [r.2]
      exact ⟨fun w => absurd w (by decide), fun w => by omega⟩
  · rcases q.2.2.2 with r | r
    · rw [r.2.1]
      have e2 := pTok_sig (pTok_a bt n pos).symm q.1 q.2.1 q.2.2.1
      have hr : ∀ k, pSg k ≠ 10021 := by
        intro k
        simp only [pSg]
        repeat' split
        all_goals omega
      exact ⟨fun w => absurd w (by decide), fun w => by rw [e2] at w; exact absurd w (hr _)⟩
    · rw [r.2]
      exact ⟨fun w => absurd w (by decide), fun w => by omega⟩
