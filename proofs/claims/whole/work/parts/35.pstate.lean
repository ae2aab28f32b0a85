/-! the model's reader: good and bad states, and the grammar's steps -/
def gS (z : xMem) (bt : Nat → Nat) (n fr pos o : Nat) : Prop := pM z bt n fr ∧ z.1 0 29 = 0 ∧ z.1 0 28 = nI o ∧ tkM z bt n pos ∧ pos ≤ n ∧ o ≤ 5
def bS (z : xMem) (f : Nat) : Prop := z.1 0 29 = 1 ∧ z.1 0 30 = nI f
def pF (z : xMem) : Nat → Int32 := fun c => z.1 0 (16 + (c - 10000))
def mR (z z' : xMem) (bt : Nat → Nat) (n fr o tag : Nat) (cs : List Nat) (p : Nat) (v : Int32) : Prop := pK z z' ∧ ((tag = 1 ∧ gS z' bt n fr p o ∧ ∀ st, pEv (pF z) cs st = v :: st) ∨ (tag = 2 ∧ bS z' p))
/-- a reading method of the model, at a fuel -/
def MC (l : Launch) (bt : Nat → Nat) (n fr : Nat) (y : MethodName) (cy : ByteArray) (maxL m f : Nat) : Prop := ∀ (d : Nat) (z : xMem) (o pos tag : Nat) (cs : List Nat) (p : Nat), gS z bt n fr pos o → pG bt n f m o pos = (tag, cs, p) → tag ≠ 0 → XMi l (d + f + 5) y cy maxL (some .int) shM [.ref 0] z (fun v z' => mR z z' bt n fr o tag cs p v)
theorem gS_nx {z z' : xMem} {bt : Nat → Nat} {n fr p o : Nat} (h1 : pM z bt n fr) (h2 : z.1 0 29 = 0) (h3 : z.1 0 28 = nI o) (h4 : pK4 z z') (h5 : tkM z' bt n p) (hp : p ≤ n) (ho : o ≤ 5) : gS z' bt n fr p o :=
  ⟨pM_K (pK4_K h4) h1, (h4.2 29 (by omega)).trans h2, (h4.2 28 (by omega)).trans h3, h5, hp, ho⟩
theorem pF_K {z z' : xMem} (h : pK z z') {c : Nat} (hc : 10000 ≤ c) (hc2 : c ≤ 10005) : pF z' c = pF z c := h.2 _ (by omega)
theorem pStep_K {z z' : xMem} (h : pK z z') (c : Nat) (st : List Int32) : pStep (pF z') c st = pStep (pF z) c st := by
  unfold pStep
  split
  · split
    · rfl
    · rw [pF_K h (by omega) (by omega)]
  · rfl
theorem pEv_K {z z' : xMem} (h : pK z z') : ∀ (cs : List Nat) (st : List Int32), pEv (pF z') cs st = pEv (pF z) cs st
  | [], st => rfl
  | c :: cs, st => by
    simp only [pEv]
    rw [pStep_K h, pEv_K h cs]
/-- a chain: what is first, what may follow -/
theorem pG_ch {bt : Nat → Nat} {n f m sub rest o pos tag : Nat} {cs : List Nat} {p : Nat} (hm : (m, sub, rest) ∈ [(0, 1, 10), (1, 2, 11), (4, 5, 14), (5, 6, 15)]) (h : pG bt n f m o pos = (tag, cs, p)) (ht : tag ≠ 0) : ∃ g t1 c1 p1, f = g + 1 ∧ pG bt n g sub o pos = (t1, c1, p1) ∧ t1 ≠ 0 ∧ ((t1 = 2 ∧ tag = 2 ∧ p = p1) ∨ (t1 = 1 ∧ ∃ c2, pG bt n g rest o p1 = (tag, c2, p) ∧ (tag = 1 → cs = c1 ++ c2))) := by
  cases f with
  | zero => simp only [pG, Prod.mk.injEq] at h; exact absurd h.1.symm ht
  | succ g =>
    have key : pChain (fun s p => pG bt n g s o p) pos sub rest = (tag, cs, p) := by
      simp only [List.mem_cons, Prod.mk.injEq, List.not_mem_nil, or_false] at hm
      rcases hm with ⟨rfl, rfl, rfl⟩ | ⟨rfl, rfl, rfl⟩ | ⟨rfl, rfl, rfl⟩ | ⟨rfl, rfl, rfl⟩ <;> exact h
    refine ⟨g, (pG bt n g sub o pos).1, (pG bt n g sub o pos).2.1, (pG bt n g sub o pos).2.2, rfl, rfl, ?_⟩
    rcases pSeq_of (pG_ok bt n g sub o pos) key ht with ⟨h1, h2, h3⟩ | ⟨h1, h2⟩
    · exact ⟨by omega, Or.inl ⟨h1, h2, h3⟩⟩
    · refine ⟨by omega, Or.inr ⟨h1, ?_⟩⟩
      rcases pSeq_of (pG_ok bt n g rest o _) h2 ht with ⟨k1, k2, k3⟩ | ⟨k1, k2⟩
      · exact ⟨(pG bt n g rest o (pG bt n g sub o pos).2.2).2.1, Prod.ext (k1.trans k2.symm) (Prod.ext rfl k3.symm), fun q => by omega⟩
      · simp only [Prod.mk.injEq] at k2
        exact ⟨(pG bt n g rest o (pG bt n g sub o pos).2.2).2.1, Prod.ext (k1.trans k2.1) (Prod.ext rfl k2.2.2), fun _ => k2.2.1.symm⟩
/-- what may follow: an operator and one more, or nothing -/
theorem pG_mo {bt : Nat → Nat} {n f m sub o pos tag : Nat} {cs : List Nat} {p : Nat} (hm : (m, sub) ∈ [(10, 1), (11, 2), (14, 5), (15, 6)]) (h : pG bt n f m o pos = (tag, cs, p)) (ht : tag ≠ 0) : ∃ g, f = g + 1 ∧ ((pOp m (pTok bt n pos).1 = false ∧ tag = 1 ∧ cs = [] ∧ p = pos) ∨ (pOp m (pTok bt n pos).1 = true ∧ ∃ t1 c1 p1, pG bt n g sub o (pTok bt n pos).2.2 = (t1, c1, p1) ∧ t1 ≠ 0 ∧ ((t1 = 2 ∧ tag = 2 ∧ p = p1) ∨ (t1 = 1 ∧ ∃ c2, pG bt n g m o p1 = (tag, c2, p) ∧ (tag = 1 → cs = c1 ++ (pTok bt n pos).1 :: c2))))) := by
  cases f with
  | zero => simp only [pG, Prod.mk.injEq] at h; exact absurd h.1.symm ht
  | succ g =>
    have key : pMore (fun s p => pG bt n g s o p) (pTok bt n pos) pos sub m (pOp m) = (tag, cs, p) := by
      simp only [List.mem_cons, Prod.mk.injEq, List.not_mem_nil, or_false] at hm
      rcases hm with ⟨rfl, rfl⟩ | ⟨rfl, rfl⟩ | ⟨rfl, rfl⟩ | ⟨rfl, rfl⟩ <;> exact h
    refine ⟨g, rfl, ?_⟩
    unfold pMore at key
    split at key
    · rename_i hop
      refine Or.inr ⟨hop, (pG bt n g sub o (pTok bt n pos).2.2).1, (pG bt n g sub o (pTok bt n pos).2.2).2.1, (pG bt n g sub o (pTok bt n pos).2.2).2.2, rfl, ?_⟩
      rcases pSeq_of (pG_ok bt n g sub o _) key ht with ⟨h1, h2, h3⟩ | ⟨h1, h2⟩
      · exact ⟨by omega, Or.inl ⟨h1, h2, h3⟩⟩
      · refine ⟨by omega, Or.inr ⟨h1, ?_⟩⟩
        rcases pSeq_of (pG_ok bt n g m o _) h2 ht with ⟨k1, k2, k3⟩ | ⟨k1, k2⟩
        · exact ⟨(pG bt n g m o (pG bt n g sub o (pTok bt n pos).2.2).2.2).2.1, Prod.ext (k1.trans k2.symm) (Prod.ext rfl k3.symm), fun q => by omega⟩
        · simp only [Prod.mk.injEq] at k2
          exact ⟨(pG bt n g m o (pG bt n g sub o (pTok bt n pos).2.2).2.2).2.1, Prod.ext (k1.trans k2.1) (Prod.ext rfl k2.2.2), fun _ => k2.2.1.symm⟩
    · rename_i hop
      simp only [Prod.mk.injEq] at key
      exact Or.inl ⟨by simpa using hop, key.1.symm, key.2.1.symm, key.2.2.symm⟩
/-- the worth of a sign at hand -/
theorem tkM_worth {z : xMem} {bt : Nat → Nat} {n pos c : Nat} (h : tkM z bt n pos) (hbt : ∀ i, bt i < 256) (hc : c ∈ [40, 41, 59, 43, 45, 42, 60, 61]) (he : (pTok bt n pos).1 = pSg c) : z.2.1 0 27 = (nI c).toInt64 := by
  have hck : ∀ k, k ∈ [40, 41, 59, 43, 45, 42, 60, 61] → k < 256 := by decide
  have hc2 := hck c hc
  have hs := pSg_ne c hc
  rw [nI_l (by omega)]
  rcases h.2 with q | q | q | q
  · rw [pTok_end (by rw [← pTok_a]; exact q.1)] at he
    have : (10021 : Nat) = pSg c := he
    omega
  · rw [pTok_word (pTok_a bt n pos).symm q.1 q.2.1] at he
    have : pWd bt (pTok bt n pos).2.1 (pRun pLe bt n (pTok bt n pos).2.1) pWords = pSg c := he
    have := pWd_rng bt (pTok bt n pos).2.1 (pRun pLe bt n (pTok bt n pos).2.1)
    omega
  · rcases q.2.2.2.1 with r | r
    · omega
    · omega
  · have e2 := pTok_sig (pTok_a bt n pos).symm q.1 q.2.1 q.2.2.1
    rcases q.2.2.2 with r | r
    · have e3 : pSg (bt (pTok bt n pos).2.1) = pSg c := by rw [e2] at he; exact he
      have e4 := (pSg_inj _ (hbt _) c hc).mp e3
      rw [r.2.2.1, e4]
    · omega
