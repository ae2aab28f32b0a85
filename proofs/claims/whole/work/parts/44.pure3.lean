/-! texts as codes; the republic's relation to the model's memory -/
theorem pPt_gd {bt : Nat → Nat} {n F key pos : Nat} (hp : pos ≤ n) (hn : n ≤ 160) (hF : 300 ≤ F) (hk : key ≠ 10021) : pGd n pos 1 (pPt bt n F key pos) := by
  unfold pPt
  split
  · rename_i h1
    have ht := pTok_gt (bt := bt) hp (by rw [h1]; exact hk)
    have g := pG_gd bt n F 0 0 (pTok bt n pos).2.2 (by decide) ht.2 (by decide) (by simp only [pLv]; omega)
    rw [if_pos (by decide)] at g
    refine pSeq_gd g.1 (fun q => ?_)
    obtain ⟨a1, a2, a3⟩ := g.2 q
    split
    · rename_i h2
      have ht2 := pTok_gt (bt := bt) a1 (by rw [h2]; decide)
      exact pGd_ok ht2.2 (by omega) (by omega)
    · exact pGd_no
  · exact pGd_no
theorem pTx_ne {bt : Nat → Nat} {n : Nat} (hn : n ≤ 160) : (pTx bt n 300).1 ≠ 0 := by
  have g1 := pPt_gd (bt := bt) (key := 10015) (Nat.zero_le n) hn (Nat.le_refl 300) (by decide)
  unfold pTx
  split
  · rename_i h1
    have g2 := pPt_gd (bt := bt) (key := 10016) (g1.2 h1).1 hn (Nat.le_refl 300) (by decide)
    split
    · rename_i h2
      have g3 := pPt_gd (bt := bt) (key := 10017) (g2.2 h2).1 hn (Nat.le_refl 300) (by decide)
      split
      · split
        · exact Nat.one_ne_zero
        · exact (by decide : (2 : Nat) ≠ 0)
      · exact g3.1
    · exact g2.1
  · exact g1.1
abbrev sTc : Type := List Nat × List Nat × List Nat
def sPart (w : Nat) (t : sTc) : List Nat := if w = 0 then t.1 else if w = 1 then t.2.1 else t.2.2
/-- what codes say -/
def tV (fa : Nat → Int32) (cs : List Nat) : Int32 := (pEv fa cs []).headD 0
theorem pEv_cong {fa fb : Nat → Int32} (h : ∀ c, 10000 ≤ c → c ≤ 10005 → fa c = fb c) : ∀ (cs : List Nat) (st : List Int32), pEv fa cs st = pEv fb cs st
  | [], _ => rfl
  | c :: cs, st => by
    simp only [pEv]
    have e : pStep fa c st = pStep fb c st := by
      unfold pStep
      split
      · split
        · rfl
        · rw [h c (by omega) (by omega)]
      · rfl
    rw [e, pEv_cong h cs]
/-- the facts that names tell -/
def sF (r : sR) (p d : Nat) : Nat → Int32 := fun c => nI (if c = 10000 then r 2 d else if c = 10001 then sPop (r 1 d) else if c = 10002 then r 4 p else if c = 10003 then r 7 2 else if c = 10004 then r 6 p else sPop (sAl (r 0) 8))
def sSays (tc : Nat → sTc) (r : sR) (w p d : Nat) : Int32 := sWi (tV (sF r p d) (sPart w (tc (r 7 5)))) 0 (if w = 2 then 99 else 999)
/-- the bounds -/
def sW (r : sR) (cnt : Nat) : Prop := (∀ j, r 0 j ≤ 9 ∧ r 1 j < 256 ∧ r 2 j ≤ 99 ∧ r 3 j ≤ 5 ∧ r 4 j ≤ 9 ∧ r 5 j ≤ 99 ∧ r 6 j ≤ 99) ∧ r 7 0 < 256 ∧ 1 ≤ r 7 1 ∧ r 7 1 ≤ 9 ∧ r 7 2 ≤ 100000 ∧ r 7 3 ≤ 99999 ∧ r 7 4 ≤ 4 ∧ r 7 5 < cnt
/-- the model's memory holds the republic r -/
def RM (z : xMem) (r : sR) : Prop := (∀ j, z.1 4 j = nI (r 0 j)) ∧ (∀ j, z.1 5 j = nI (r 1 j)) ∧ (∀ j, z.1 6 j = nI (r 2 j)) ∧ (∀ p, z.1 7 (4 * p) = nI (r 4 p)) ∧ (∀ p, z.1 7 (4 * p + 1) = nI (r 5 p)) ∧ (∀ p, z.1 7 (4 * p + 2) = nI (r 6 p)) ∧ (∀ p, z.1 7 (4 * p + 3) = nI (r 3 p)) ∧ z.1 0 9 = nI (r 7 0) ∧ z.1 0 7 = nI (r 7 1) ∧ z.1 0 8 = nI (r 7 2) ∧ z.1 0 10 = nI (r 7 3) ∧ z.1 0 15 = nI (r 7 4) ∧ z.1 0 4 = nI (r 7 5)
/-- .. and the texts tc -/
def TM (z : xMem) (cnt : Nat) (tc : Nat → sTc) : Prop := z.1 0 3 = nI cnt ∧ 1 ≤ cnt ∧ cnt ≤ 6 ∧ ∀ t, t < cnt → ∃ (bt : Nat → Nat) (n p : Nat), z.1 2 t = nI n ∧ n ≤ 160 ∧ (∀ i, i < n → z.1 1 (160 * t + i) = nI (bt i)) ∧ (∀ i, bt i < 256) ∧ pTx bt n 300 = (1, tc t, p)
/-- nothing changed but the model's scratch of saying -/
def KM (z z' : xMem) : Prop := (∀ q, q ≠ 0 → z'.1 q = z.1 q) ∧ (∀ j, (j < 16 ∨ 30 < j) → z'.1 0 j = z.1 0 j)
theorem KM_rf (z : xMem) : KM z z := ⟨fun _ _ => rfl, fun _ _ => rfl⟩
theorem KM_tr {a b c : xMem} (h1 : KM a b) (h2 : KM b c) : KM a c := ⟨fun q h => (h2.1 q h).trans (h1.1 q h), fun j h => (h2.2 j h).trans (h1.2 j h)⟩
theorem KM_put {a b : xMem} (h : KM a b) {j : Nat} (x : Int32) (hj : 16 ≤ j ∧ j ≤ 30) : KM a (mPut b 0 j x) := by
  refine ⟨fun q hq => ?_, fun i hi => ?_⟩
  · show (xUp b.1 0 (upd (b.1 0) j x)) q = _
    rw [xUp_ne hq]
    exact h.1 q hq
  · show (xUp b.1 0 (upd (b.1 0) j x)) 0 i = _
    rw [xUp_eq]
    show (if i = j then x else b.1 0 i) = _
    rw [if_neg (by omega)]
    exact h.2 i hi
theorem KM_2 {a b c : xMem} (h : KM a b) (h2 : pK2 b c) : KM a c := ⟨fun q hq => (h2.1 q hq).trans (h.1 q hq), fun j hj => (h2.2 j (by omega)).trans (h.2 j hj)⟩
theorem RM_K {z z' : xMem} {r : sR} (h : KM z z') (hr : RM z r) : RM z' r := by
  obtain ⟨a1, a2, a3, a4, a5, a6, a7, b1, b2, b3, b4, b5, b6⟩ := hr
  refine ⟨fun j => ?_, fun j => ?_, fun j => ?_, fun j => ?_, fun j => ?_, fun j => ?_, fun j => ?_, ?_, ?_, ?_, ?_, ?_, ?_⟩
  · rw [h.1 4 (by decide)]; exact a1 j
  · rw [h.1 5 (by decide)]; exact a2 j
  · rw [h.1 6 (by decide)]; exact a3 j
  · rw [h.1 7 (by decide)]; exact a4 j
  · rw [h.1 7 (by decide)]; exact a5 j
  · rw [h.1 7 (by decide)]; exact a6 j
  · rw [h.1 7 (by decide)]; exact a7 j
  · rw [h.2 9 (by omega)]; exact b1
  · rw [h.2 7 (by omega)]; exact b2
  · rw [h.2 8 (by omega)]; exact b3
  · rw [h.2 10 (by omega)]; exact b4
  · rw [h.2 15 (by omega)]; exact b5
  · rw [h.2 4 (by omega)]; exact b6
theorem TM_K {z z' : xMem} {cnt : Nat} {tc : Nat → sTc} (h : KM z z') (ht : TM z cnt tc) : TM z' cnt tc := by
  obtain ⟨h1, h2, h3, h4⟩ := ht
  refine ⟨(h.2 3 (by omega)).trans h1, h2, h3, fun t hl => ?_⟩
  obtain ⟨bt, n, p, a1, a2, a3, a4, a5⟩ := h4 t hl
  exact ⟨bt, n, p, by rw [h.1 2 (by decide)]; exact a1, a2, fun i hi => by rw [h.1 1 (by decide)]; exact a3 i hi, a4, a5⟩
theorem says_v {fa : Nat → Int32} {tc : Nat → sTc} {r : sR} {w p d : Nat} {v x : Int32} (h : pEv fa (if w = 0 then (tc (r 7 5)).1 else if w = 1 then (tc (r 7 5)).2.1 else (tc (r 7 5)).2.2) [] = [v]) (hx : (if w = 2 then (99 : Int32) else 999) = x) (hf : ∀ c, 10000 ≤ c → c ≤ 10005 → fa c = sF r p d c) : sWi v 0 x = sSays tc r w p d := by
  unfold sSays tV sPart
  rw [← pEv_cong hf, h, hx]
  rfl
theorem vp_4 {p : Nat} (h : p < 4) : vp_in (4 * nI p) 16 := by
  rw [show (4 : Int32) * nI p = nI (4 * p) from pk_mul 4 p]
  exact vp_in_nI (by omega) (by decide)
theorem vp_41 {p : Nat} (h : p < 4) : vp_in (4 * nI p + 1) 16 := by
  rw [show (4 : Int32) * nI p = nI (4 * p) from pk_mul 4 p, show nI (4 * p) + 1 = nI (4 * p + 1) from nI_add _ 1]
  exact vp_in_nI (by omega) (by decide)
theorem vp_42 {p : Nat} (h : p < 4) : vp_in (4 * nI p + 2) 16 := by
  rw [show (4 : Int32) * nI p = nI (4 * p) from pk_mul 4 p, show nI (4 * p) + 2 = nI (4 * p + 2) from nI_add _ 2]
  exact vp_in_nI (by omega) (by decide)
theorem vp_43 {p : Nat} (h : p < 4) : vp_in (4 * nI p + 3) 16 := by
  rw [show (4 : Int32) * nI p = nI (4 * p) from pk_mul 4 p, show nI (4 * p) + 3 = nI (4 * p + 3) from nI_add _ 3]
  exact vp_in_nI (by omega) (by decide)
