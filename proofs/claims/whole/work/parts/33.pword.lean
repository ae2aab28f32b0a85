/-! words and signs as the model asks for them -/
theorem tkM_K {z z' : xMem} {bt : Nat → Nat} {n pos : Nat} (h : tkM z bt n pos) (h4 : z'.1 0 24 = z.1 0 24) (h5 : z'.1 0 25 = z.1 0 25) (h6 : z'.1 0 26 = z.1 0 26) (h7 : z'.2.1 0 27 = z.2.1 0 27) : tkM z' bt n pos := by
  unfold tkM at h ⊢
  rw [h4, h5, h6, h7]
  exact h
theorem pTok_le {bt : Nat → Nat} {n pos : Nat} (h : pos ≤ n) : (pTok bt n pos).2.2 ≤ n ∧ pos ≤ (pTok bt n pos).2.1 ∧ (pTok bt n pos).2.1 ≤ n := by
  have h1 := pRun_ge pBl bt n pos
  have h2 := pRun_le pBl bt n pos h
  simp only [pTok]
  split
  · exact ⟨h2, h1, h2⟩
  · split
    · exact ⟨pRun_le pLe bt n _ h2, h1, h2⟩
    · split
      · exact ⟨pRun_le pDi bt n _ h2, h1, h2⟩
      · exact ⟨by show _ + 1 ≤ n; omega, h1, h2⟩
theorem pSg_iff : ∀ c, c < 256 → (pSg c = 10022 ∨ (10008 ≤ pSg c ∧ pSg c ≤ 10012) ∨ (10018 ≤ pSg c ∧ pSg c ≤ 10020)) := by decide +kernel
theorem pSg_inj : ∀ c, c < 256 → ∀ k, k ∈ [40, 41, 59, 43, 45, 42, 60, 61] → (pSg c = pSg k ↔ c = k) := by decide +kernel
theorem pSg_ne : ∀ k, k ∈ [40, 41, 59, 43, 45, 42, 60, 61] → (10008 ≤ pSg k ∧ pSg k ≤ 10012) ∨ (10018 ≤ pSg k ∧ pSg k ≤ 10020) := by decide
theorem pWd_mem : ∀ (l : List (List Nat × Nat)) (bt : Nat → Nat) (a b : Nat), pWd bt a b l = 10022 ∨ ∃ q ∈ l, pWd bt a b l = q.2 ∧ pSp q.1 bt a b = true
  | [], _, _, _ => Or.inl rfl
  | (w, c) :: l, bt, a, b => by
    simp only [pWd]
    split
    · rename_i h
      exact Or.inr ⟨(w, c), List.mem_cons_self, rfl, h⟩
    · rcases pWd_mem l bt a b with h | ⟨q, h1, h2⟩
      · exact Or.inl h
      · exact Or.inr ⟨q, List.mem_cons_of_mem _ h1, h2⟩
theorem pWords_code : ∀ q ∈ pWords, q.2 ≠ 10022 ∧ (q.2 ≤ 10007 ∧ 10000 ≤ q.2 ∨ 10015 ≤ q.2 ∧ q.2 ≤ 10017 ∨ q.2 = 10013) := by decide
theorem pWords_inj : ∀ q ∈ pWords, ∀ r ∈ pWords, q.2 = r.2 → q = r := by decide
/-- the code of a word token among the codes -/
theorem pWd_rng (bt : Nat → Nat) (a b : Nat) : pWd bt a b pWords = 10022 ∨ (pWd bt a b pWords ≤ 10007 ∧ 10000 ≤ pWd bt a b pWords ∨ 10015 ≤ pWd bt a b pWords ∧ pWd bt a b pWords ≤ 10017 ∨ pWd bt a b pWords = 10013) := by
  rcases pWd_mem pWords bt a b with h | ⟨q, h1, h2, -⟩
  · exact Or.inl h
  · rw [h2]
    exact Or.inr (pWords_code q h1).2
theorem pSp_iff {w : List Nat} {bt : Nat → Nat} {a b : Nat} : pSp w bt a b = true ↔ b - a = w.length ∧ ∀ i, i < w.length → bt (a + i) = w.getD i 0 := by
  simp only [pSp, Bool.and_eq_true, decide_eq_true_eq, List.all_eq_true, List.mem_range]
theorem pSp_two {w w' : List Nat} {bt : Nat → Nat} {a b : Nat} (h : pSp w bt a b = true) (h' : pSp w' bt a b = true) : w = w' := by
  rw [pSp_iff] at h h'
  apply List.ext_getElem
  · omega
  · intro i h1 h2
    have e1 := h.2 i h1
    have e2 := h'.2 i h2
    rw [e1] at e2
    simpa [List.getD, h1, h2] using e2
theorem pWd_of {w : List Nat} {c : Nat} (hw : (w, c) ∈ pWords) {bt : Nat → Nat} {a b : Nat} : pWd bt a b pWords = c ↔ pSp w bt a b = true := by
  constructor
  · intro h
    rcases pWd_mem pWords bt a b with h1 | ⟨q, h1, h2, h3⟩
    · rw [h1] at h
      exact absurd h.symm (pWords_code _ hw).1
    · have e := pWords_inj q h1 (w, c) hw (h2.symm.trans h)
      rw [e] at h3
      exact h3
  · intro h
    have key : ∀ l : List (List Nat × Nat), (∀ q ∈ l, q ∈ pWords) → (w, c) ∈ l → pWd bt a b l = c := by
      intro l
      induction l with
      | nil => intro _ hm; cases hm
      | cons q l ih =>
        intro hs hm
        obtain ⟨w1, c1⟩ := q
        simp only [pWd]
        split
        · rename_i h1
          have e := pSp_two h1 h
          subst e
          rcases List.mem_cons.mp hm with e2 | e2
          · cases e2; rfl
          · have : ∀ q ∈ pWords, ∀ r ∈ pWords, q.1 = r.1 → q.2 = r.2 := by decide
            exact this (w1, c1) (hs _ List.mem_cons_self) (w1, c) hw rfl
        · rename_i h1
          rcases List.mem_cons.mp hm with e2 | e2
          · cases e2; exact absurd h h1
          · exact ih (fun q hq => hs q (List.mem_cons_of_mem _ hq)) e2
    exact key pWords (fun _ h => h) hw
/-- what the model asks of a letter of the word at hand -/
def pL (bt : Nat → Nat) (a b i c : Nat) : Prop := (a + i < b ∧ bt (a + i) = c) ∨ (¬ a + i < b ∧ c = 0)
theorem pWords_ok : ∀ q ∈ pWords, q.1.length ≤ 6 ∧ ∀ i, i < 8 → (i < q.1.length → 97 ≤ q.1.getD i 0 ∧ q.1.getD i 0 < 256) ∧ (q.1.length ≤ i → q.1.getD i 0 = 0) := by decide
theorem pL_all {w : List Nat} {c : Nat} (hw : (w, c) ∈ pWords) {bt : Nat → Nat} {a b : Nat} (hab : a ≤ b) (hl : ∀ i, a ≤ i → i < b → 97 ≤ bt i) : (b ≤ a + 8 ∧ ∀ i, i < 8 → pL bt a b i (w.getD i 0)) ↔ pSp w bt a b = true := by
  obtain ⟨hlen, hk⟩ := pWords_ok _ hw
  dsimp only at hlen hk
  rw [pSp_iff]
  constructor
  · rintro ⟨hb, h⟩
    have h0 : ∀ i, i < w.length → a + i < b ∧ bt (a + i) = w.getD i 0 := by
      intro i hi
      have h1 := (hk i (by omega)).1 hi
      rcases h i (by omega) with q | q
      · exact q
      · omega
    have h1 : b ≤ a + w.length := by
      rcases Nat.lt_or_ge (a + w.length) b with q | q
      · have h2 := h w.length (by omega)
        have h3 := (hk w.length (by omega)).2 (Nat.le_refl _)
        have h4 := hl (a + w.length) (by omega) q
        rcases h2 with q2 | q2
        · omega
        · omega
      · exact q
    refine ⟨?_, fun i hi => (h0 i hi).2⟩
    cases hwl : w.length with
    | zero => omega
    | succ k =>
      have := (h0 k (by omega)).1
      omega
  · rintro ⟨h1, h2⟩
    refine ⟨by omega, fun i hi => ?_⟩
    by_cases hc : i < w.length
    · exact Or.inl ⟨by omega, h2 i hc⟩
    · exact Or.inr ⟨by omega, (hk i hi).2 (by omega)⟩
/-- the token at hand, where its place behind is known -/
theorem tkM_here {z : xMem} {bt : Nat → Nat} {n pos : Nat} (h : tkM z bt n pos) (hne : (pTok bt n pos).1 ≠ 10022) : z.1 0 24 = nI (pTok bt n pos).2.2 := by
  rcases h.2 with q | q | q | q
  · exact q.2.2
  · exact q.2.2.2
  · exact q.2.2.2.2
  · rcases q.2.2.2 with q | q
    · exact q.2.2.2
    · exact absurd q.1 hne
theorem tkM_sign1 {z : xMem} {bt : Nat → Nat} {n pos c : Nat} (hbt : ∀ i, bt i < 256) (h : tkM z bt n pos) (hc : c ∈ [40, 41, 59, 43, 45, 42, 60, 61]) (h3 : z.1 0 25 = 3) (hw : lg_cmp (z.2.1 0 27) (nI c).toInt64 = 0) : (pTok bt n pos).1 = pSg c := by
  have hck : ∀ k, k ∈ [40, 41, 59, 43, 45, 42, 60, 61] → k < 256 := by decide
  have hc2 := hck c hc
  rw [lg_cmp_eq, nI_l (by omega)] at hw
  rcases h.2 with q | q | q | q
  · rw [h3] at q; exact absurd q.2.1 (by decide)
  · rw [h3] at q; exact absurd q.2.2.1 (by decide)
  · rw [h3] at q
    rcases q.2.2.2.1 with q | q
    · exact absurd q.2.1 (by decide)
    · exact absurd q.2 (by decide)
  · rcases q.2.2.2 with r | r
    · have e : bt (pTok bt n pos).2.1 = c := by
        have := r.2.2.1.symm.trans hw
        have hb := hbt (pTok bt n pos).2.1
        exact (lN_eq (by omega) (by omega)).mp this
      have e2 := pTok_sig (pTok_a bt n pos).symm q.1 q.2.1 q.2.2.1
      rw [e2]
      show pSg (bt (pTok bt n pos).2.1) = _
      rw [e]
    · rw [h3] at r; exact absurd r.2 (by decide)
theorem tkM_sign0 {z : xMem} {bt : Nat → Nat} {n pos c : Nat} (hbt : ∀ i, bt i < 256) (h : tkM z bt n pos) (hc : c ∈ [40, 41, 59, 43, 45, 42, 60, 61]) (hn : ¬ z.1 0 25 = 3 ∨ (z.1 0 25 = 3 ∧ ¬ lg_cmp (z.2.1 0 27) (nI c).toInt64 = 0)) : (pTok bt n pos).1 ≠ pSg c := by
  have hck : ∀ k, k ∈ [40, 41, 59, 43, 45, 42, 60, 61] → k < 256 := by decide
  have hc2 := hck c hc
  have hs := pSg_ne c hc
  intro he
  rcases h.2 with q | q | q | q
  · rw [pTok_end (by rw [← pTok_a]; exact q.1)] at he
    have : (10021 : Nat) = pSg c := he
    omega
  · rw [pTok_word (pTok_a bt n pos).symm q.1 q.2.1] at he
    have : pWd bt (pTok bt n pos).2.1 (pRun pLe bt n (pTok bt n pos).2.1) pWords = pSg c := he
    have := pWd_rng bt (pTok bt n pos).2.1 (pRun pLe bt n (pTok bt n pos).2.1)
    omega
  · rcases q.2.2.2.1 with r | r
    · omega
    · omega
  · have e2 := pTok_sig (pTok_a bt n pos).symm q.1 q.2.1 q.2.2.1
    rcases q.2.2.2 with r | r
    · have e3 : pSg (bt (pTok bt n pos).2.1) = pSg c := by rw [e2] at he; exact he
      have e4 := (pSg_inj _ (hbt _) c hc).mp e3
      rcases hn with hn | hn
      · exact hn r.2.1
      · apply hn.2
        rw [lg_cmp_eq, nI_l (by omega), r.2.2.1, e4]
    · omega
theorem pW_lt {w : List Nat} {c : Nat} (hw : (w, c) ∈ pWords) (i : Nat) : w.getD i 0 < 256 := by
  obtain ⟨hlen, hk⟩ := pWords_ok _ hw
  dsimp only at hlen hk
  by_cases h : i < w.length
  · exact ((hk i (by omega)).1 h).2
  · simp [List.getD, List.getElem?_eq_none (by omega : w.length ≤ i)]
theorem tkM_word {z : xMem} {bt : Nat → Nat} {n pos : Nat} (hpos : pos ≤ n) (h : tkM z bt n pos) (h1 : z.1 0 25 = 1) : ∃ a b : Nat, z.1 0 26 = nI a ∧ z.1 0 24 = nI b ∧ a ≤ b ∧ a ≤ n ∧ b ≤ n ∧ (∀ i, a ≤ i → i < b → 97 ≤ bt i) ∧ (pTok bt n pos).1 = pWd bt a b pWords := by
  rcases h.2 with q | q | q | q
  · rw [h1] at q; exact absurd q.2.1 (by decide)
  · have e := pTok_word (pTok_a bt n pos).symm q.1 q.2.1
    refine ⟨(pTok bt n pos).2.1, (pTok bt n pos).2.2, h.1, q.2.2.2, ?_, Nat.le_of_lt q.1, (pTok_le hpos).1, ?_, ?_⟩
    · rw [e]; exact pRun_ge pLe bt n _
    · intro i hi hi2
      have e3 : (pTok bt n pos).2.2 = pRun pLe bt n (pTok bt n pos).2.1 := by rw [e]
      rw [e3] at hi2
      exact (pLe_iff.mp (pRun_all (P := pLe) (bt := bt) (n := n) (n - (pTok bt n pos).2.1) _ (Nat.le_refl _) i hi hi2)).1
    · have e3 : (pTok bt n pos).2.2 = pRun pLe bt n (pTok bt n pos).2.1 := by rw [e]
      rw [e3, e]
  · rw [h1] at q
    rcases q.2.2.2.1 with q | q
    · exact absurd q.2.1 (by decide)
    · exact absurd q.2 (by decide)
  · rw [h1] at q
    rcases q.2.2.2 with q | q
    · exact absurd q.2.1 (by decide)
    · exact absurd q.2 (by decide)
theorem tkM_noword {w : List Nat} {c : Nat} (hw : (w, c) ∈ pWords) {z : xMem} {bt : Nat → Nat} {n pos : Nat} (h : tkM z bt n pos) (h1 : ¬ z.1 0 25 = 1) : (pTok bt n pos).1 ≠ c := by
  have hc := pWords_code _ hw
  dsimp only at hc
  intro he
  rcases h.2 with q | q | q | q
  · rw [pTok_end (by rw [← pTok_a]; exact q.1)] at he
    have : (10021 : Nat) = c := he
    omega
  · exact h1 q.2.2.1
  · rcases q.2.2.2.1 with r | r
    · omega
    · omega
  · have e2 := pTok_sig (pTok_a bt n pos).symm q.1 q.2.1 q.2.2.1
    have e3 : pSg (bt (pTok bt n pos).2.1) = c := by rw [e2] at he; exact he
    have hr : ∀ k, pSg k = 10022 ∨ (10008 ≤ pSg k ∧ pSg k ≤ 10012) ∨ (10018 ≤ pSg k ∧ pSg k ≤ 10020) := by
      intro k
      simp only [pSg]
      repeat' split
      all_goals omega
    have := hr (bt (pTok bt n pos).2.1)
    omega
