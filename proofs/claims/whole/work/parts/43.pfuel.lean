/-! fuel enough; reading goes on; no more codes than bytes -/
def pGd (n pos s : Nat) (r : pRes) : Prop := r.1 ≠ 0 ∧ (r.1 = 1 → r.2.2 ≤ n ∧ pos + s ≤ r.2.2 ∧ r.2.1.length + pos ≤ r.2.2)
theorem pGd_ok {n pos s p : Nat} {cs : List Nat} (h1 : p ≤ n) (h2 : pos + s ≤ p) (h3 : cs.length + pos ≤ p) : pGd n pos s (1, cs, p) := ⟨Nat.one_ne_zero, fun _ => ⟨h1, h2, h3⟩⟩
theorem pGd_no {n pos s p : Nat} {cs : List Nat} : pGd n pos s (2, cs, p) := ⟨(by decide : (2 : Nat) ≠ 0), fun q => absurd q (by show ¬ (2 : Nat) = 1; decide)⟩
theorem pSeq_gd {n pos s : Nat} {r : pRes} {k : List Nat → Nat → pRes} (h : r.1 ≠ 0) (hk : r.1 = 1 → pGd n pos s (k r.2.1 r.2.2)) : pGd n pos s (pSeq r k) := by
  unfold pSeq
  split
  · rename_i h1
    exact hk h1
  · rename_i h1
    exact ⟨h, fun q => absurd q h1⟩
theorem pTok_gt {bt : Nat → Nat} {n pos : Nat} (hp : pos ≤ n) (h : (pTok bt n pos).1 ≠ 10021) : pos + 1 ≤ (pTok bt n pos).2.2 ∧ (pTok bt n pos).2.2 ≤ n := by
  refine ⟨?_, (pTok_le hp).1⟩
  have h1 := pRun_ge pBl bt n pos
  by_cases hn : n ≤ pRun pBl bt n pos
  · rw [pTok_end hn] at h
    exact absurd rfl h
  · by_cases hl : pLe (bt (pRun pBl bt n pos)) = true
    · rw [pTok_word rfl (by omega) hl, pRun_go (by omega) hl]
      have := pRun_ge pLe bt n (pRun pBl bt n pos + 1)
      show _ ≤ pRun pLe bt n (pRun pBl bt n pos + 1)
      omega
    · by_cases hd : pDi (bt (pRun pBl bt n pos)) = true
      · rw [pTok_dig rfl (by omega) (by simpa using hl) hd, pRun_go (by omega) hd]
        have := pRun_ge pDi bt n (pRun pBl bt n pos + 1)
        show _ ≤ pRun pDi bt n (pRun pBl bt n pos + 1)
        omega
      · rw [pTok_sig rfl (by omega) (by simpa using hl) (by simpa using hd)]
        show _ ≤ pRun pBl bt n pos + 1
        omega
theorem pChain_gd {n pos sub rest : Nat} {r : Nat → Nat → pRes} (h1 : pGd n pos 1 (r sub pos)) (h2 : ∀ p1, pos + 1 ≤ p1 → p1 ≤ n → pGd n p1 0 (r rest p1)) : pGd n pos 1 (pChain r pos sub rest) := by
  refine pSeq_gd h1.1 (fun q => ?_)
  obtain ⟨a1, a2, a3⟩ := h1.2 q
  have g := h2 _ a2 a1
  refine pSeq_gd g.1 (fun q2 => ?_)
  obtain ⟨b1, b2, b3⟩ := g.2 q2
  exact pGd_ok b1 (by omega) (by rw [List.length_append]; omega)
theorem pMore_gd {bt : Nat → Nat} {n pos sub rest : Nat} {r : Nat → Nat → pRes} {is : Nat → Bool} (hp : pos ≤ n) (his : ∀ c, is c = true → c ≠ 10021) (h1 : ∀ p1, pos + 1 ≤ p1 → p1 ≤ n → pGd n p1 1 (r sub p1)) (h2 : ∀ p1, pos + 1 ≤ p1 → p1 ≤ n → pGd n p1 0 (r rest p1)) : pGd n pos 0 (pMore r (pTok bt n pos) pos sub rest is) := by
  unfold pMore
  split
  · rename_i hi
    have ht := pTok_gt hp (his _ hi)
    have g1 := h1 _ ht.1 ht.2
    refine pSeq_gd g1.1 (fun q => ?_)
    obtain ⟨a1, a2, a3⟩ := g1.2 q
    have g := h2 _ (by omega) a1
    refine pSeq_gd g.1 (fun q2 => ?_)
    obtain ⟨b1, b2, b3⟩ := g.2 q2
    refine pGd_ok b1 (by omega) ?_
    rw [List.length_append, List.length_cons]
    omega
  · exact pGd_ok hp (Nat.le_refl _) (by rw [List.length_nil]; omega)
def pLv (m : Nat) : Nat := match m with | 0 => 9 | 10 => 9 | 1 => 8 | 11 => 8 | 2 => 7 | 3 => 6 | 4 => 5 | 14 => 5 | 5 => 4 | 15 => 4 | 6 => 3 | _ => 2
theorem pOp_ne : ∀ m c, pOp m c = true → c ≠ 10021 := by
  intro m c h e
  subst e
  simp only [pOp] at h
  revert h
  repeat' split
  all_goals decide
theorem pG_gd (bt : Nat → Nat) (n : Nat) : ∀ f m o pos, m ∈ [0, 1, 2, 3, 4, 5, 6, 7, 10, 11, 14, 15] → pos ≤ n → o ≤ 5 → (n - pos) + 10 * (5 - o) + pLv m < f → pGd n pos (if m < 10 then 1 else 0) (pG bt n f m o pos)
  | 0, _, _, _, _, _, _, h => absurd h (Nat.not_lt_zero _)
  | f + 1, m, o, pos, hm, hp, ho, hf => by
    have ih := pG_gd bt n f
    have hch : ∀ sub rest, m < 10 → sub ∈ [0, 1, 2, 3, 4, 5, 6, 7, 10, 11, 14, 15] → rest ∈ [0, 1, 2, 3, 4, 5, 6, 7, 10, 11, 14, 15] → sub < 10 → ¬ rest < 10 → pLv sub < pLv m → pLv rest ≤ pLv m → pGd n pos (if m < 10 then 1 else 0) (pChain (fun s p => pG bt n f s o p) pos sub rest) := by
      intro sub rest h1 h2 h3 h4 h5 h6 h7
      rw [if_pos h1]
      refine pChain_gd ?_ (fun p1 q1 q2 => ?_)
      · have := ih sub o pos h2 hp ho (by omega)
        rw [if_pos h4] at this
        exact this
      · have := ih rest o p1 h3 q2 ho (by omega)
        rw [if_neg h5] at this
        exact this
    have hmo : ∀ sub rest is, ¬ m < 10 → (∀ c, is c = true → c ≠ 10021) → sub ∈ [0, 1, 2, 3, 4, 5, 6, 7, 10, 11, 14, 15] → rest ∈ [0, 1, 2, 3, 4, 5, 6, 7, 10, 11, 14, 15] → sub < 10 → ¬ rest < 10 → pLv sub ≤ pLv m → pLv rest ≤ pLv m → pGd n pos (if m < 10 then 1 else 0) (pMore (fun s p => pG bt n f s o p) (pTok bt n pos) pos sub rest is) := by
      intro sub rest is h1 hi h2 h3 h4 h5 h6 h7
      rw [if_neg h1]
      refine pMore_gd hp hi (fun p1 q1 q2 => ?_) (fun p1 q1 q2 => ?_)
      · have := ih sub o p1 h2 q2 ho (by omega)
        rw [if_pos h4] at this
        exact this
      · have := ih rest o p1 h3 q2 ho (by omega)
        rw [if_neg h5] at this
        exact this
    have htk : ∀ c, (pTok bt n pos).1 = c → c ≠ 10021 → pos + 1 ≤ (pTok bt n pos).2.2 ∧ (pTok bt n pos).2.2 ≤ n := fun c hc hn => pTok_gt hp (by rw [hc]; exact hn)
    simp only [List.mem_cons, List.not_mem_nil, or_false] at hm
    rcases hm with rfl | rfl | rfl | rfl | rfl | rfl | rfl | rfl | rfl | rfl | rfl | rfl
    · exact hch 1 10 (by decide) (by decide) (by decide) (by decide) (by decide) (by decide) (by decide)
    · exact hch 2 11 (by decide) (by decide) (by decide) (by decide) (by decide) (by decide) (by decide)
    · rw [if_pos (by decide)]
      simp only [pG]
      split
      · rename_i h1
        have ht := htk _ h1 (by decide)
        split
        · exact pGd_no
        · rename_i h2
          have g := ih 2 (o + 1) (pTok bt n pos).2.2 (by decide) ht.2 (by omega) (by simp only [pLv] at hf ⊢; omega)
          rw [if_pos (by decide)] at g
          refine pSeq_gd g.1 (fun q => ?_)
          obtain ⟨a1, a2, a3⟩ := g.2 q
          exact pGd_ok a1 (by omega) (by rw [List.length_append, List.length_singleton]; omega)
      · have g := ih 3 o pos (by decide) hp ho (by simp only [pLv] at hf ⊢; omega)
        rw [if_pos (by decide)] at g
        exact g
    · rw [if_pos (by decide)]
      simp only [pG]
      have g := ih 4 o pos (by decide) hp ho (by simp only [pLv] at hf ⊢; omega)
      rw [if_pos (by decide)] at g
      refine pSeq_gd g.1 (fun q => ?_)
      obtain ⟨a1, a2, a3⟩ := g.2 q
      split
      · rename_i h1
        have ht := pTok_gt (bt := bt) a1 (by rcases h1 with h1 | h1 <;> rw [h1] <;> decide)
        have g2 := ih 4 o _ (by decide) ht.2 ho (by simp only [pLv] at hf ⊢; omega)
        rw [if_pos (by decide)] at g2
        refine pSeq_gd g2.1 (fun q2 => ?_)
        obtain ⟨b1, b2, b3⟩ := g2.2 q2
        exact pGd_ok b1 (by omega) (by rw [List.length_append, List.length_append, List.length_singleton]; omega)
      · exact pGd_ok a1 (by omega) a3
    · exact hch 5 14 (by decide) (by decide) (by decide) (by decide) (by decide) (by decide) (by decide)
    · exact hch 6 15 (by decide) (by decide) (by decide) (by decide) (by decide) (by decide) (by decide)
    · rw [if_pos (by decide)]
      simp only [pG]
      split
      · rename_i h1
        have ht := htk _ h1 (by decide)
        split
        · exact pGd_no
        · rename_i h2
          have g := ih 6 (o + 1) (pTok bt n pos).2.2 (by decide) ht.2 (by omega) (by simp only [pLv] at hf ⊢; omega)
          rw [if_pos (by decide)] at g
          refine pSeq_gd g.1 (fun q => ?_)
          obtain ⟨a1, a2, a3⟩ := g.2 q
          exact pGd_ok a1 (by omega) (by rw [List.length_append, List.length_singleton]; omega)
      · have g := ih 7 o pos (by decide) hp ho (by simp only [pLv] at hf ⊢; omega)
        rw [if_pos (by decide)] at g
        exact g
    · rw [if_pos (by decide)]
      simp only [pG]
      split
      · rename_i h1
        have ht := pTok_gt (bt := bt) hp (by omega)
        exact pGd_ok ht.2 ht.1 (by rw [List.length_singleton]; omega)
      · split
        · rename_i h1
          have ht := htk _ h1 (by decide)
          split
          · exact pGd_no
          · rename_i h2
            have g := ih 0 (o + 1) (pTok bt n pos).2.2 (by decide) ht.2 (by omega) (by simp only [pLv] at hf ⊢; omega)
            rw [if_pos (by decide)] at g
            refine pSeq_gd g.1 (fun q => ?_)
            obtain ⟨a1, a2, a3⟩ := g.2 q
            split
            · rename_i h3
              have ht2 := pTok_gt (bt := bt) a1 (by rw [h3]; decide)
              exact pGd_ok ht2.2 (by omega) (by omega)
            · exact pGd_no
        · exact pGd_no
    · exact hmo 1 10 _ (by decide) (pOp_ne 10) (by decide) (by decide) (by decide) (by decide) (by decide) (by decide)
    · exact hmo 2 11 _ (by decide) (pOp_ne 11) (by decide) (by decide) (by decide) (by decide) (by decide) (by decide)
    · exact hmo 5 14 _ (by decide) (pOp_ne 14) (by decide) (by decide) (by decide) (by decide) (by decide) (by decide)
    · exact hmo 6 15 _ (by decide) (pOp_ne 15) (by decide) (by decide) (by decide) (by decide) (by decide) (by decide)
