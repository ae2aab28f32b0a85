/-! the model's gives -/
theorem sSh1 : ∀ i, i < 10 → (1 : Int32) <<< (nI i &&& 31) = nI (2 ^ i) := by decide
theorem fa_andn {a b : Nat} (ha : a < 1024) : nI a &&& (nI b ^^^ (-1)) = nI (a &&& (b ^^^ 1023)) := by
  apply Int32.toBitVec_inj.1
  show BitVec.ofNat 32 a &&& (BitVec.ofNat 32 b ^^^ BitVec.allOnes 32) = BitVec.ofNat 32 (a &&& (b ^^^ 1023))
  apply BitVec.eq_of_getLsbD_eq
  intro i hi
  by_cases h : i < 10
  · have h1 : ∀ i, i < 10 → Nat.testBit 1023 i = true := by decide
    simp only [BitVec.getLsbD_and, BitVec.getLsbD_xor, BitVec.getLsbD_ofNat, BitVec.getLsbD_allOnes, Nat.testBit_and, Nat.testBit_xor, hi, h1 i h, decide_true, Bool.true_and]
  · have h2 : a.testBit i = false := Nat.testBit_lt_two_pow (Nat.lt_of_lt_of_le ha (show 2 ^ 10 ≤ 2 ^ i from Nat.pow_le_pow_right (by decide) (by omega)))
    simp only [BitVec.getLsbD_and, BitVec.getLsbD_xor, BitVec.getLsbD_ofNat, BitVec.getLsbD_allOnes, Nat.testBit_and, Nat.testBit_xor, hi, h2, decide_true, Bool.true_and, Bool.false_and]
theorem sAnd_lt {a b : Nat} (ha : a < 1024) : a &&& b < 1024 := Nat.lt_of_le_of_lt Nat.and_le_left ha
theorem sFree {a u i : Nat} (ha : a < 1024) (hu : u < 1024) (hi : i < 10) : ((((nI a &&& (nI u ^^^ (-1))) >>> (nI i &&& 31)) &&& 1 = 1) ↔ (a &&& (u ^^^ 1023)).testBit i = true) := by
  rw [fa_andn ha]
  exact sBitK i hi _ (sAnd_lt ha)
theorem sOr1 {u i : Nat} (hu : u < 1024) (hi : i < 10) : u ||| 2 ^ i < 1024 := Nat.or_lt_two_pow (n := 10) hu (Nat.pow_lt_pow_right (by decide) hi)
theorem sOr8 {s a b : Nat} (hs : s < 256) (ha : a < 256) : s ||| (a &&& b) < 256 := Nat.or_lt_two_pow (n := 8) hs (Nat.lt_of_le_of_lt Nat.and_le_left ha)
theorem cI_T {m : Nat} (h : m < 2 ^ 31) : (cI m).toInt = (m : Int) - 1 := by
  unfold cI
  by_cases q : m = 0
  · rw [if_pos q, q]; decide
  · rw [if_neg q, nI_toInt (by omega)]; omega
theorem cI_lt {m n : Nat} (h : m < 2 ^ 30) (h2 : n < 2 ^ 30) : cI m < nI n ↔ m < n + 1 := by
  rw [Int32.lt_iff_toInt_lt, cI_T (by omega), nI_toInt (by omega)]; omega
theorem cI_eq {m n : Nat} (h : m < 2 ^ 30) (h2 : n < 2 ^ 30) : nI n = cI m ↔ m = n + 1 := by
  rw [← Int32.toInt_inj, cI_T (by omega), nI_toInt (by omega)]; omega
def cN (tc : Nat → sTc) (r : sR) (p e : Nat) : Nat := sTn (sCosts tc r p e)
theorem cN_eq {tc : Nat → sTc} {r : sR} {p e : Nat} : sCosts tc r p e = nI (cN tc r p e) := sWi_n _ (by decide)
theorem cN_bd (tc : Nat → sTc) (r : sR) (p e : Nat) : cN tc r p e ≤ 999 := by
  have h := sWi_bd (b := 999) (if r 3 p = 1 then sSays tc r 1 p e / 2 else if r 3 p = 3 then sSays tc r 1 p e / 2 + 5 else if r 3 p = 2 then sWi (sSays tc r 1 p e - nI (r 4 p)) 0 999 else if r 3 p = 4 then sWi (sSays tc r 1 p e - nI (r 4 p)) 0 999 + nI (sPop (r 1 e)) else if r 3 p = 5 then 2 * sSays tc r 1 p e else sSays tc r 1 p e) (by decide)
  have e9 : (999 : Int32).toInt = 999 := rfl
  unfold cN sTn sCosts
  omega
/-- nothing changed but scratch and the best way -/
def KG (z z' : xMem) : Prop := (∀ q, q ≠ 0 → z'.1 q = z.1 q) ∧ (∀ j, (j < 16 ∨ 34 < j) → z'.1 0 j = z.1 0 j)
theorem KG_rf (z : xMem) : KG z z := ⟨fun _ _ => rfl, fun _ _ => rfl⟩
theorem KG_tr {a b c : xMem} (h1 : KG a b) (h2 : KG b c) : KG a c := ⟨fun q h => (h2.1 q h).trans (h1.1 q h), fun j h => (h2.2 j h).trans (h1.2 j h)⟩
theorem KG_of {a b : xMem} (h : KM a b) : KG a b := ⟨h.1, fun j hj => h.2 j (by omega)⟩
def Kb (z z' : xMem) : Prop := (∀ q, 1 ≤ q → q ≤ 7 → z'.1 q = z.1 q) ∧ ∀ j, j < 16 → z'.1 0 j = z.1 0 j
theorem Kb_KG {a b : xMem} (h : KG a b) : Kb a b := ⟨fun q h1 _ => h.1 q (by omega), fun j hj => h.2 j (by omega)⟩
theorem RM_Kb {z z' : xMem} {r : sR} (h : Kb z z') (hr : RM z r) : RM z' r := by
  obtain ⟨a1, a2, a3, a4, a5, a6, a7, b1, b2, b3, b4, b5, b6⟩ := hr
  refine ⟨fun j => ?_, fun j => ?_, fun j => ?_, fun j => ?_, fun j => ?_, fun j => ?_, fun j => ?_, ?_, ?_, ?_, ?_, ?_, ?_⟩
  · rw [h.1 4 (by decide) (by decide)]; exact a1 j
  · rw [h.1 5 (by decide) (by decide)]; exact a2 j
  · rw [h.1 6 (by decide) (by decide)]; exact a3 j
  · rw [h.1 7 (by decide) (by decide)]; exact a4 j
  · rw [h.1 7 (by decide) (by decide)]; exact a5 j
  · rw [h.1 7 (by decide) (by decide)]; exact a6 j
  · rw [h.1 7 (by decide) (by decide)]; exact a7 j
  · rw [h.2 9 (by omega)]; exact b1
  · rw [h.2 7 (by omega)]; exact b2
  · rw [h.2 8 (by omega)]; exact b3
  · rw [h.2 10 (by omega)]; exact b4
  · rw [h.2 15 (by omega)]; exact b5
  · rw [h.2 4 (by omega)]; exact b6
theorem TM_Kb {z z' : xMem} {cnt : Nat} {tc : Nat → sTc} (h : Kb z z') (ht : TM z cnt tc) : TM z' cnt tc := by
  obtain ⟨h1, h2, h3, h4⟩ := ht
  refine ⟨(h.2 3 (by omega)).trans h1, h2, h3, fun t hl => ?_⟩
  obtain ⟨bt, n, p, a1, a2, a3, a4, a5⟩ := h4 t hl
  exact ⟨bt, n, p, by rw [h.1 2 (by decide) (by decide)]; exact a1, a2, fun i hi => by rw [h.1 1 (by decide) (by decide)]; exact a3 i hi, a4, a5⟩
/-- the best way so far: the way, 1 more than the laws, the costs -/
abbrev sBt : Type := Nat × Nat × Nat
def Bm (z : xMem) (b : sBt) : Prop := z.1 0 33 = cI b.2.1 ∧ b.2.1 ≤ 11 ∧ (b.2.1 = 0 ∨ (z.1 0 32 = nI b.1 ∧ z.1 0 34 = nI b.2.2 ∧ b.2.2 ≤ 4000))
def sWg (b : sBt) (w n c : Nat) : sBt := if b.2.1 < n + 1 ∨ (b.2.1 = n + 1 ∧ c < b.2.2) then (w, n + 1, c) else b
def sGl (f : Nat → sBt → sBt) (fr : Nat) : Nat → sBt → sBt
  | 0, b => b
  | i + 1, b => if fr.testBit i = true then f i (sGl f fr i b) else sGl f fr i b
def sGv (ab br : Nat → Nat) (co : Nat → Nat → Nat) : Nat → Nat → Nat → Nat → Nat → Nat → sBt → sBt
  | 0, _, _, w, s, c, b => sWg b w (sPop s) c
  | k + 1, p, u, w, s, c, b => sGl (fun i b => sGv ab br co k (p + 1) (u ||| 2 ^ i) (11 * w + i + 1) (s ||| br i) (c + co p i) b) (ab p &&& (u ^^^ 1023)) 10 (sGv ab br co k (p + 1) u (11 * w) s c b)
theorem sGv_s {ab br : Nat → Nat} {co : Nat → Nat → Nat} {k p u w s c : Nat} {b : sBt} : sGv ab br co (k + 1) p u w s c b = sGl (fun i b => sGv ab br co k (p + 1) (u ||| 2 ^ i) (11 * w + i + 1) (s ||| br i) (c + co p i) b) (ab p &&& (u ^^^ 1023)) 10 (sGv ab br co k (p + 1) u (11 * w) s c b) := rfl
theorem sGl_y {f : Nat → sBt → sBt} {fr i x1 x2 x3 : Nat} {b : sBt} (e : sGl f fr i b = (x1, x2, x3)) (h : fr.testBit i = true) : sGl f fr (i + 1) b = ((f i (x1, x2, x3)).1, (f i (x1, x2, x3)).2.1, (f i (x1, x2, x3)).2.2) := by rw [sGl, if_pos h, e]
theorem sGl_n {f : Nat → sBt → sBt} {fr i x1 x2 x3 : Nat} {b : sBt} (e : sGl f fr i b = (x1, x2, x3)) (h : ¬ fr.testBit i = true) : sGl f fr (i + 1) b = (x1, x2, x3) := by rw [sGl, if_neg h, e]
theorem Bm_K {z z' : xMem} {b : sBt} (h : KM z z') (hB : Bm z b) : Bm z' b := by
  obtain ⟨h1, h2, h3⟩ := hB
  refine ⟨(h.2 33 (by omega)).trans h1, h2, h3.imp id (fun q => ⟨(h.2 32 (by omega)).trans q.1, (h.2 34 (by omega)).trans q.2.1, q.2.2⟩)⟩
theorem Bm_w {z : xMem} {ab br : Nat → Nat} {co : Nat → Nat → Nat} {p u w s c b1 b2 b3 : Nat} (hc : c ≤ 4000) (h : b2 < sPop s + 1 ∨ (b2 = sPop s + 1 ∧ c < b3)) (hp : sPop s ≤ 10) : Bm (mPut (mPut (mPut z 0 32 (nI w)) 0 33 (nI (sPop s))) 0 34 (nI c)) (sGv ab br co 0 p u w s c (b1, b2, b3)) := by
  show Bm _ (sWg (b1, b2, b3) w (sPop s) c)
  unfold sWg
  rw [if_pos h]
  refine ⟨?_, ?_, Or.inr ⟨?_, ?_, hc⟩⟩
  · simp [mPut_rd]; rfl
  · show sPop s + 1 ≤ 11; omega
  · simp [mPut_rd]
  · simp [mPut_rd]
theorem Bm_n {z : xMem} {ab br : Nat → Nat} {co : Nat → Nat → Nat} {p u w s c b1 b2 b3 : Nat} (hB : Bm z (b1, b2, b3)) (h : ¬ b2 < sPop s + 1) (h2 : (¬ b2 = sPop s + 1) ∨ ¬ c < b3) : Bm z (sGv ab br co 0 p u w s c (b1, b2, b3)) := by
  show Bm _ (sWg (b1, b2, b3) w (sPop s) c)
  unfold sWg
  rw [if_neg (fun q => q.elim h (fun q => h2.elim (fun w => w q.1) (fun w => w q.2)))]
  exact hB
theorem KG_w {z : xMem} {x y v : Int32} : KG z (mPut (mPut (mPut z 0 32 x) 0 33 y) 0 34 v) := by
  refine ⟨fun q hq => ?_, fun j hj => ?_⟩
  · funext k
    rw [mPut_rd, if_neg hq, mPut_rd, if_neg hq, mPut_rd, if_neg hq]
  · rw [mPut_rd, if_pos rfl, if_neg (by omega), mPut_rd, if_pos rfl, if_neg (by omega), mPut_rd, if_pos rfl, if_neg (by omega)]
/-- gives, with so many people left -/
def GC (l : Launch) (tc : Nat → sTc) (r : sR) (cnt : Nat) (ab : Nat → Nat) (k : Nat) : Prop := ∀ (d p u w s c b1 b2 b3 : Nat) (z : xMem), RM z r → TM z cnt tc → (∀ q, q < r 7 4 → z.1 9 q = nI (ab q)) → Bm z (b1, b2, b3) → p + k = r 7 4 → u < 1024 → s < 256 → c ≤ 999 * p → XMv l (d + k + 310) yX6_gives cX6_gives 7 none shM [.ref 0, .int (nI p), .int (nI u), .int (nI w), .int (nI s), .int (nI c)] z (fun z' => Bm z' (sGv ab (fun j => r 1 j &&& sAl (r 0) 8) (cN tc r) k p u w s c (b1, b2, b3)) ∧ KG z z')
set_option maxHeartbeats 4000000 in
set_option maxRecDepth 20000 in
theorem t_X6_gives_s (l : Launch) (d : Nat) (r : sR) (cnt : Nat) (tc : Nat → sTc) (ab : Nat → Nat) (hw : sW r cnt) (hA9 : ∀ q, ab q < 1024) (k : Nat) (ih : ∀ k2, k = k2 + 1 → GC l tc r cnt ab k2) (p u w s c b1 b2 b3 : Nat) (z : xMem) (hr : RM z r) (ht : TM z cnt tc) (hab : ∀ q, q < r 7 4 → z.1 9 q = nI (ab q)) (hB : Bm z (b1, b2, b3)) (hpk : p + k = r 7 4) (hu : u < 1024) (hs : s < 256) (hc : c ≤ 999 * p) : XMv l (d + k + 310) yX6_gives cX6_gives 7 none shM [.ref 0, .int (nI p), .int (nI u), .int (nI w), .int (nI s), .int (nI c)] z (fun z' => Bm z' (sGv ab (fun j => r 1 j &&& sAl (r 0) 8) (cN tc r) k p u w s c (b1, b2, b3)) ∧ KG z z') := by
  refine XM.of (by decide) (Nat.le_of_ble_eq_true rfl) (fun xp xe xs xm xar xbl xme xc xD xcs xad xAA xCC xhr => ?_)
  generalize xhQ : MQ xbl _ xar xs 0 0 xAA = xQ
  show ww xp l xe (xRm (d + k + 310)) xs xm xar xbl xme xc 7 xD xcs xad shM xAA xQ 0 [(0, .ref 0), (1, .int (nI p)), (2, .int (nI u)), (3, .int (nI w)), (4, .int (nI s)), (5, .int (nI c))] [] z
  have hb := hw.1
  have h74 : r 7 4 ≤ 4 := hw.2.2.2.2.2.2.1
  have hb2 : b2 ≤ 11 := hB.2.1
  have hPs := sPop_le s (by omega)
  have hc4 : c ≤ 4000 := by omega
  refine ww_blk xCC okX6_gives 0 3 (ps := []) (pc' := 5) (lv' := [(0, .ref 0), (1, .int (nI p)), (2, .int (nI u)), (3, .int (nI w)), (4, .int (nI s)), (5, .int (nI c))]) (st' := [.int (z.1 0 15), .int (nI p)]) (z' := z) rfl trivial ?_
  rw [hr.2.2.2.2.2.2.2.2.2.2.2.1]
  refine ww_br xCC okX6_gives 3 (P := (nI p) = (nI (r 7 4))) (t1 := 8) (t2 := 60) (r := []) rfl (fun c1 => ?_) (fun c1 => ?_)
  · skip
    replace c1 : p = (r 7 4) := (sEQ (a := p) (b := (r 7 4)) (by omega) (by omega)).mp c1
    have hk0 : k = 0 := by omega
    refine ww_blk xCC okX6_gives 4 1 (ps := []) (pc' := 10) (lv' := [(0, .ref 0), (1, .int (nI p)), (2, .int (nI u)), (3, .int (nI w)), (4, .int (nI s)), (5, .int (nI c))]) (st' := [.int (nI s)]) (z' := z) rfl trivial ?_
    refine ww_callSNi xCC okX6_gives 5 (ix := 255) (t_X6_bitsOf l d s (by omega) _) (by omega) (by decide) xyX6_bitsOf xiX6_bitsOf (Or.inl (lw_gt_of (List.mem_of_getElem? (i := 1004) (by decide +kernel)) rfl)) rfl (rest := []) rfl (Nat.le_of_ble_eq_true rfl) rfl (fun v4 z2 h3 => ?_)
    rw [h3]
    refine ww_blk xCC okX6_gives 6 4 (ps := []) (pc' := 21) (lv' := [(6, .int (nI (sPop s))), (0, .ref 0), (1, .int (nI p)), (2, .int (nI u)), (3, .int (nI w)), (4, .int (nI s)), (5, .int (nI c))]) (st' := [.int (z.1 0 33), .int (nI (sPop s))]) (z' := z) rfl trivial ?_
    rw [hB.1]
    refine ww_br xCC okX6_gives 10 (P := (cI b2) < (nI (sPop s))) (t1 := 42) (t2 := 24) (r := []) rfl (fun c5 => ?_) (fun c5 => ?_)
    · skip
      have h21 := (cI_lt (m := b2) (n := sPop s) (by omega) (by omega)).mp c5
      refine ww_blk xCC okX6_gives 19 9 (ps := []) (pc' := 59) (lv' := [(6, .int (nI (sPop s))), (0, .ref 0), (1, .int (nI p)), (2, .int (nI u)), (3, .int (nI w)), (4, .int (nI s)), (5, .int (nI c))]) (st' := []) (z' := (mPut (mPut (mPut z 0 32 (nI w)) 0 33 (nI (sPop s))) 0 34 (nI c))) rfl trivial ?_
      subst xhQ
      exact ww_vret xCC okX6_gives 28 xhr rfl ⟨rfl, (by rw [hk0]; exact ⟨Bm_w hc4 (by first | exact Or.inl h21 | exact Or.inr ⟨h30, by omega⟩) (by omega), KG_w⟩)⟩
    · skip
      have h21 := fun q => c5 ((cI_lt (m := b2) (n := sPop s) (by omega) (by omega)).mpr q)
      refine ww_blk xCC okX6_gives 11 3 (ps := []) (pc' := 30) (lv' := [(6, .int (nI (sPop s))), (0, .ref 0), (1, .int (nI p)), (2, .int (nI u)), (3, .int (nI w)), (4, .int (nI s)), (5, .int (nI c))]) (st' := [.int (z.1 0 33), .int (nI (sPop s))]) (z' := z) rfl trivial ?_
      rw [hB.1]
      refine ww_br xCC okX6_gives 14 (P := (nI (sPop s)) = (cI b2)) (t1 := 33) (t2 := 59) (r := []) rfl (fun c6 => ?_) (fun c6 => ?_)
      · skip
        have h30 := (cI_eq (m := b2) (n := sPop s) (by omega) (by omega)).mp c6
        have h34 := hB.2.2.resolve_left (fun q => by simp at q; omega)
        have hb34 : z.1 0 34 = nI b3 := h34.2.1
        have hb3 : b3 ≤ 4000 := h34.2.2
        refine ww_blk xCC okX6_gives 15 3 (ps := []) (pc' := 39) (lv' := [(6, .int (nI (sPop s))), (0, .ref 0), (1, .int (nI p)), (2, .int (nI u)), (3, .int (nI w)), (4, .int (nI s)), (5, .int (nI c))]) (st' := [.int (z.1 0 34), .int (nI c)]) (z' := z) rfl trivial ?_
        rw [hb34]
        refine ww_br xCC okX6_gives 18 (P := (nI b3) ≤ (nI c)) (t1 := 59) (t2 := 42) (r := []) rfl (fun c7 => ?_) (fun c7 => ?_)
        · skip
          replace c7 : b3 ≤ c := (sLE (a := b3) (b := c) (by omega) (by omega)).mp c7
          subst xhQ
          exact ww_vret xCC okX6_gives 28 xhr rfl ⟨rfl, (by rw [hk0]; exact ⟨Bm_n hB h21 (by first | exact Or.inl h30 | exact Or.inr (by omega)), KG_rf z⟩)⟩
        · skip
          replace c7 : ¬ b3 ≤ c := fun q => c7 ((sLE (a := b3) (b := c) (by omega) (by omega)).mpr q)
          refine ww_blk xCC okX6_gives 19 9 (ps := []) (pc' := 59) (lv' := [(6, .int (nI (sPop s))), (0, .ref 0), (1, .int (nI p)), (2, .int (nI u)), (3, .int (nI w)), (4, .int (nI s)), (5, .int (nI c))]) (st' := []) (z' := (mPut (mPut (mPut z 0 32 (nI w)) 0 33 (nI (sPop s))) 0 34 (nI c))) rfl trivial ?_
          subst xhQ
          exact ww_vret xCC okX6_gives 28 xhr rfl ⟨rfl, (by rw [hk0]; exact ⟨Bm_w hc4 (by first | exact Or.inl h21 | exact Or.inr ⟨h30, by omega⟩) (by omega), KG_w⟩)⟩
      · skip
        have h30 := fun q => c6 ((cI_eq (m := b2) (n := sPop s) (by omega) (by omega)).mpr q)
        subst xhQ
        exact ww_vret xCC okX6_gives 28 xhr rfl ⟨rfl, (by rw [hk0]; exact ⟨Bm_n hB h21 (by first | exact Or.inl h30 | exact Or.inr (by omega)), KG_rf z⟩)⟩
  · skip
    replace c1 : ¬ p = (r 7 4) := fun q => c1 ((sEQ (a := p) (b := (r 7 4)) (by omega) (by omega)).mpr q)
    obtain ⟨k2, hk⟩ : ∃ k2, k = k2 + 1 := ⟨k - 1, by omega⟩
    have ih2 := ih k2 hk
    refine ww_blk xCC okX6_gives 29 10 (ps := []) (pc' := 73) (lv' := [(0, .ref 0), (1, .int (nI p)), (2, .int (nI u)), (3, .int (nI w)), (4, .int (nI s)), (5, .int (nI c))]) (st' := [.int (nI c), .int (nI s), .int (11 * (nI w)), .int (nI u), .int ((nI p) + 1), .ref 0]) (z' := z) rfl trivial ?_
    rw [show (11 : Int32) * nI w = nI (11 * w) from pk_mul 11 w]
    rw [show nI p + (1 : Int32) = nI (p + 1) from nI_add p 1]
    refine ww_callVIv xCC okX6_gives 39 (ix := 321) (ih2 d (p + 1) u (11 * w) s c b1 b2 b3 z hr ht hab hB (by omega) hu hs (by omega)) (by omega) (by decide) xyX6_gives xiX6_gives (Or.inl (lw_gt_of (List.mem_of_getElem? (i := 1184) (by decide +kernel)) rfl)) rfl rfl rfl (rest := []) rfl (Nat.le_of_ble_eq_true rfl) rfl (fun zA hA => ?_)
    refine ww_blk xCC okX6_gives 40 2 (ps := []) (pc' := 79) (lv' := [(6, .int 0), (0, .ref 0), (1, .int (nI p)), (2, .int (nI u)), (3, .int (nI w)), (4, .int (nI s)), (5, .int (nI c))]) (st' := []) (z' := zA) rfl trivial ?_
    have L79 : ∀ (n79 : Nat) (i : Nat) (x1 : Nat) (x2 : Nat) (x3 : Nat) (zL : xMem), 10 - i < n79 → (i ≤ 10) → (sGl (fun i b => sGv ab (fun j => r 1 j &&& sAl (r 0) 8) (cN tc r) k2 (p + 1) (u ||| 2 ^ i) (11 * w + i + 1) (s ||| (r 1 i &&& sAl (r 0) 8)) (c + cN tc r p i) b) (ab p &&& (u ^^^ 1023)) i (sGv ab (fun j => r 1 j &&& sAl (r 0) 8) (cN tc r) k2 (p + 1) u (11 * w) s c (b1, b2, b3)) = (x1, x2, x3)) → (Bm zL (x1, x2, x3)) → (KG z zL) → ww xp l xe (xRm (d + k + 310)) xs xm xar xbl xme xc 7 xD xcs xad shM xAA xQ 79 [(6, .int (nI i)), (0, .ref 0), (1, .int (nI p)), (2, .int (nI u)), (3, .int (nI w)), (4, .int (nI s)), (5, .int (nI c))] [] zL := by
      intro n79
      induction n79 with
      | zero =>
        intro i x1 x2 x3 zL hmu79
        exact absurd hmu79 (Nat.not_lt_zero _)
      | succ n79 ih79 =>
        intro i x1 x2 x3 zL hmu79 e79_0 e79_1 e79_2 e79_3
        have hrL := RM_Kb (Kb_KG e79_3) hr
        have htL := TM_Kb (Kb_KG e79_3) ht
        have habL : ∀ q, q < r 7 4 → zL.1 9 q = nI (ab q) := fun q hq => (congrFun (e79_3.1 9 (by decide)) q).trans (hab q hq)
        refine ww_blk xCC okX6_gives 42 2 (ps := []) (pc' := 83) (lv' := [(6, .int (nI i)), (0, .ref 0), (1, .int (nI p)), (2, .int (nI u)), (3, .int (nI w)), (4, .int (nI s)), (5, .int (nI c))]) (st' := [.int 10, .int (nI i)]) (z' := zL) rfl trivial ?_
        refine ww_br xCC okX6_gives 44 (P := 10 ≤ (nI i)) (t1 := 158) (t2 := 86) (r := []) rfl (fun c9 => ?_) (fun c9 => ?_)
        · skip
          replace c9 : 10 ≤ i := (sLE (a := 10) (b := i) (by omega) (by omega)).mp c9
          subst xhQ
          exact ww_vret xCC okX6_gives 93 xhr rfl ⟨rfl, (by rw [hk, sGv_s, show (10 : Nat) = i by omega, e79_1]; exact ⟨e79_2, e79_3⟩)⟩
        · skip
          replace c9 : ¬ 10 ≤ i := fun q => c9 ((sLE (a := 10) (b := i) (by omega) (by omega)).mpr q)
          refine ww_blk xCC okX6_gives 45 13 (ps := [vp_in (nI p) 4]) (pc' := 102) (lv' := [(6, .int (nI i)), (0, .ref 0), (1, .int (nI p)), (2, .int (nI u)), (3, .int (nI w)), (4, .int (nI s)), (5, .int (nI c))]) (st' := [.int 1, .int ((((zL.1 9 (nI p).toNatClampNeg) &&& ((nI u) ^^^ (-1))) >>> ((nI i) &&& 31)) &&& 1)]) (z' := zL) rfl (vp_in_nI (by omega) (by decide)) ?_
          rw [sCL (n := p) (by omega)]
          rw [habL p (by omega)]
          refine ww_br xCC okX6_gives 58 (P := ((((nI (ab p)) &&& ((nI u) ^^^ (-1))) >>> ((nI i) &&& 31)) &&& 1) = 1) (t1 := 105) (t2 := 152) (r := []) rfl (fun c10 => ?_) (fun c10 => ?_)
          · skip
            have h102 := (sFree (hA9 p) hu (show i < 10 by omega)).mp c10
            refine ww_blk xCC okX6_gives 59 22 (ps := [vp_in (nI i) 10]) (pc' := 134) (lv' := [(6, .int (nI i)), (0, .ref 0), (1, .int (nI p)), (2, .int (nI u)), (3, .int (nI w)), (4, .int (nI s)), (5, .int (nI c))]) (st' := [.ref 0, .int (zL.1 5 (nI i).toNatClampNeg), .int (nI s), .int (((11 * (nI w)) + (nI i)) + 1), .int ((nI u) ||| (1 <<< ((nI i) &&& 31))), .int ((nI p) + 1), .ref 0]) (z' := zL) rfl (vp_in_nI (by omega) (by decide)) ?_
            rw [sCL (n := i) (by omega)]
            rw [hrL.2.1 i]
            rw [show (11 : Int32) * nI w = nI (11 * w) from pk_mul 11 w]
            rw [nI_add (11 * w) i]
            rw [show nI ((11 * w) + i) + (1 : Int32) = nI (((11 * w) + i) + 1) from nI_add ((11 * w) + i) 1]
            rw [sSh1 i (by omega)]
            rw [fa_or u (2 ^ i)]
            rw [show nI p + (1 : Int32) = nI (p + 1) from nI_add p 1]
            refine ww_callVIi xCC okX6_gives 81 (ix := 119) (t_X6_alive l d zL (r 0) hrL.1 (fun j => Nat.lt_of_le_of_lt (hb j).1 (by decide))) (by omega) (by decide) xyX6_alive xiX6_alive (Or.inl (lw_gt_of (List.mem_of_getElem? (i := 1007) (by decide +kernel)) rfl)) rfl rfl rfl (rest := [.int (nI (r 1 i)), .int (nI s), .int (nI (((11 * w) + i) + 1)), .int (nI (u ||| (2 ^ i))), .int (nI (p + 1)), .ref 0]) rfl (Nat.le_of_ble_eq_true rfl) rfl (fun v13 z11 h12 => ?_)
            rw [h12.1, h12.2]
            refine ww_blk xCC okX6_gives 82 6 (ps := []) (pc' := 145) (lv' := [(6, .int (nI i)), (0, .ref 0), (1, .int (nI p)), (2, .int (nI u)), (3, .int (nI w)), (4, .int (nI s)), (5, .int (nI c))]) (st' := [.int (nI i), .int (nI p), .ref 0, .int (nI c), .int ((nI s) ||| ((nI (r 1 i)) &&& (nI (sAl (r 0) 8)))), .int (nI (((11 * w) + i) + 1)), .int (nI (u ||| (2 ^ i))), .int (nI (p + 1)), .ref 0]) (z' := zL) rfl trivial ?_
            rw [fa_and (r 1 i) (sAl (r 0) 8)]
            rw [fa_or s ((r 1 i) &&& (sAl (r 0) 8))]
            refine ww_callVIi xCC okX6_gives 88 (ix := 273) (t_X6_costsOf l d p i zL r cnt tc hrL hw htL (by omega) (by omega)) (by omega) (by decide) xyX6_costsOf xiX6_costsOf (Or.inl (lw_gt_of (List.mem_of_getElem? (i := 1117) (by decide +kernel)) rfl)) rfl rfl rfl (rest := [.int (nI c), .int (nI (s ||| ((r 1 i) &&& (sAl (r 0) 8)))), .int (nI (((11 * w) + i) + 1)), .int (nI (u ||| (2 ^ i))), .int (nI (p + 1)), .ref 0]) rfl (Nat.le_of_ble_eq_true rfl) rfl (fun v15 zS14 hS14 => ?_)
            have hrS14 := RM_K hS14.2 hrL
            have htS14 := TM_K hS14.2 htL
            have hKS14 := KM_tr (KM_rf zL) hS14.2
            rw [hS14.1]
            refine ww_blk xCC okX6_gives 89 1 (ps := []) (pc' := 149) (lv' := [(6, .int (nI i)), (0, .ref 0), (1, .int (nI p)), (2, .int (nI u)), (3, .int (nI w)), (4, .int (nI s)), (5, .int (nI c))]) (st' := [.int ((nI c) + (sCosts tc r p i)), .int (nI (s ||| ((r 1 i) &&& (sAl (r 0) 8)))), .int (nI (((11 * w) + i) + 1)), .int (nI (u ||| (2 ^ i))), .int (nI (p + 1)), .ref 0]) (z' := zS14) rfl trivial ?_
            rw [cN_eq]
            rw [nI_add c (cN tc r p i)]
            refine ww_callVIv xCC okX6_gives 90 (ix := 321) (ih2 d (p + 1) (u ||| 2 ^ i) (11 * w + i + 1) (s ||| (r 1 i &&& sAl (r 0) 8)) (c + cN tc r p i) x1 x2 x3 zS14 hrS14 htS14 (fun q hq => (congrFun (hKS14.1 9 (by decide)) q).trans (habL q hq)) (Bm_K hKS14 e79_2) (by omega) (sOr1 hu (by omega)) (sOr8 hs (hb i).2.1) (by have := cN_bd tc r p i; omega)) (by omega) (by decide) xyX6_gives xiX6_gives (Or.inl (lw_gt_of (List.mem_of_getElem? (i := 1184) (by decide +kernel)) rfl)) rfl rfl rfl (rest := []) rfl (Nat.le_of_ble_eq_true rfl) rfl (fun zC hC => ?_)
            refine ww_blk xCC okX6_gives 91 2 (ps := []) (pc' := 79) (lv' := [(6, .int ((nI i) + 1)), (0, .ref 0), (1, .int (nI p)), (2, .int (nI u)), (3, .int (nI w)), (4, .int (nI s)), (5, .int (nI c))]) (st' := []) (z' := zC) rfl trivial ?_
            rw [show nI i + (1 : Int32) = nI (i + 1) from nI_add i 1]
            exact ww_cut [0, 1, 2, 3, 4, 5, 6] (xlc rfl (xlc rfl (xlc rfl (xlc rfl (xlc rfl (xlc rfl (xlc rfl rfl))))))) rfl rfl (ih79 (i + 1) ((sGv ab (fun j => r 1 j &&& sAl (r 0) 8) (cN tc r) k2 (p + 1) (u ||| 2 ^ i) (11 * w + i + 1) (s ||| (r 1 i &&& sAl (r 0) 8)) (c + cN tc r p i) (x1, x2, x3)).1) ((sGv ab (fun j => r 1 j &&& sAl (r 0) 8) (cN tc r) k2 (p + 1) (u ||| 2 ^ i) (11 * w + i + 1) (s ||| (r 1 i &&& sAl (r 0) 8)) (c + cN tc r p i) (x1, x2, x3)).2.1) ((sGv ab (fun j => r 1 j &&& sAl (r 0) 8) (cN tc r) k2 (p + 1) (u ||| 2 ^ i) (11 * w + i + 1) (s ||| (r 1 i &&& sAl (r 0) 8)) (c + cN tc r p i) (x1, x2, x3)).2.2) zC (by omega) (by omega) (sGl_y e79_1 h102) hC.1 (KG_tr e79_3 (KG_tr (KG_of hKS14) hC.2)))
          · skip
            have h102 := fun q => c10 ((sFree (hA9 p) hu (show i < 10 by omega)).mpr q)
            refine ww_blk xCC okX6_gives 91 2 (ps := []) (pc' := 79) (lv' := [(6, .int ((nI i) + 1)), (0, .ref 0), (1, .int (nI p)), (2, .int (nI u)), (3, .int (nI w)), (4, .int (nI s)), (5, .int (nI c))]) (st' := []) (z' := zL) rfl trivial ?_
            rw [show nI i + (1 : Int32) = nI (i + 1) from nI_add i 1]
            exact ww_cut [0, 1, 2, 3, 4, 5, 6] (xlc rfl (xlc rfl (xlc rfl (xlc rfl (xlc rfl (xlc rfl (xlc rfl rfl))))))) rfl rfl (ih79 (i + 1) x1 x2 x3 zL (by omega) (by omega) (sGl_n e79_1 h102) e79_2 e79_3)
    exact ww_cut [0, 1, 2, 3, 4, 5, 6] (xlc (congrArg Value.int (show (0 : Int32) = nI 0 from rfl)) (xlc rfl (xlc rfl (xlc rfl (xlc rfl (xlc rfl (xlc rfl rfl))))))) rfl rfl (L79 (10 - 0 + 1) 0 ((sGv ab (fun j => r 1 j &&& sAl (r 0) 8) (cN tc r) k2 (p + 1) u (11 * w) s c (b1, b2, b3)).1) ((sGv ab (fun j => r 1 j &&& sAl (r 0) 8) (cN tc r) k2 (p + 1) u (11 * w) s c (b1, b2, b3)).2.1) ((sGv ab (fun j => r 1 j &&& sAl (r 0) 8) (cN tc r) k2 (p + 1) u (11 * w) s c (b1, b2, b3)).2.2) zA (Nat.lt_succ_self _) (by omega) rfl hA.1 hA.2)
theorem g_all (l : Launch) (r : sR) (cnt : Nat) (tc : Nat → sTc) (ab : Nat → Nat) (hw : sW r cnt) (hA9 : ∀ q, ab q < 1024) : ∀ k, GC l tc r cnt ab k
  | 0 => fun d p u w s c b1 b2 b3 z hr ht hab hB hpk hu hs hc => t_X6_gives_s l d r cnt tc ab hw hA9 0 (fun k2 h => absurd h (by omega)) p u w s c b1 b2 b3 z hr ht hab hB hpk hu hs hc
  | k + 1 => fun d p u w s c b1 b2 b3 z hr ht hab hB hpk hu hs hc => t_X6_gives_s l d r cnt tc ab hw hA9 (k + 1) (fun k2 h => (show k = k2 from by omega) ▸ g_all l r cnt tc ab hw hA9 k) p u w s c b1 b2 b3 z hr ht hab hB hpk hu hs hc
/-- nothing changed but scratch, the best way, who can what -/
def KR (z z' : xMem) : Prop := (∀ q, q ≠ 0 → q ≠ 9 → z'.1 q = z.1 q) ∧ (∀ j, (j < 16 ∨ 34 < j) → z'.1 0 j = z.1 0 j)
theorem KR_rf (z : xMem) : KR z z := ⟨fun _ _ _ => rfl, fun _ _ => rfl⟩
theorem KR_tr {a b c : xMem} (h1 : KR a b) (h2 : KR b c) : KR a c := ⟨fun q h h9 => (h2.1 q h h9).trans (h1.1 q h h9), fun j h => (h2.2 j h).trans (h1.2 j h)⟩
theorem KR_of {a b : xMem} (h : KG a b) : KR a b := ⟨fun q h0 _ => h.1 q h0, h.2⟩
theorem Kb_KR {a b : xMem} (h : KR a b) : Kb a b := ⟨fun q h1 h2 => h.1 q (by omega) (by omega), fun j hj => h.2 j (by omega)⟩
theorem Kb_33 {z : xMem} {x : Int32} : Kb z (mPut z 0 33 x) := ⟨fun q h1 _ => mPut_nq (by omega), fun j hj => mPut_nj (by omega)⟩
theorem KR_33 {z : xMem} {x : Int32} : KR z (mPut z 0 33 x) := ⟨fun q h1 _ => mPut_nq h1, fun j hj => mPut_nj (by omega)⟩
theorem KR_9 {a b : xMem} {j : Nat} {x : Int32} (h : KR a b) : KR a (mPut b 9 j x) := ⟨fun q h0 h9 => (mPut_nq h9).trans (h.1 q h0 h9), fun j hj => (congrFun (mPut_nq (by decide)) j).trans (h.2 j hj)⟩
theorem Bm_0 (z : xMem) : Bm (mPut z 0 33 (-1)) (0, 0, 0) := ⟨mPut_at, Nat.zero_le _, Or.inl rfl⟩
theorem hab9 {z : xMem} {f : Nat → Int32} {p : Nat} (h : ∀ q, q < p → z.1 9 q = f q) : ∀ q, q < p + 1 → (mPut z 9 p (f p)).1 9 q = f q := fun q hq => by
  by_cases e : q = p
  · rw [e]; exact mPut_at
  · rw [mPut_nj e]; exact h q (by omega)
theorem sWg_ne {b : sBt} {w n c : Nat} : (sWg b w n c).2.1 ≠ 0 := by
  unfold sWg
  split
  · exact Nat.succ_ne_zero n
  · rename_i h
    intro q
    exact h (Or.inl (by omega))
theorem sGl_ne {f : Nat → sBt → sBt} {fr : Nat} (hf : ∀ i b, (f i b).2.1 ≠ 0) {b : sBt} (hb : b.2.1 ≠ 0) : ∀ k, (sGl f fr k b).2.1 ≠ 0
  | 0 => hb
  | k + 1 => by
    rw [sGl]
    split
    · exact hf _ _
    · exact sGl_ne hf hb k
theorem sGv_ne {ab br : Nat → Nat} {co : Nat → Nat → Nat} : ∀ k p u w s c b, (sGv ab br co k p u w s c b).2.1 ≠ 0
  | 0, _, _, _, _, _, _ => sWg_ne
  | k + 1, p, u, w, s, c, b => sGl_ne (fun i b => sGv_ne k _ _ _ _ _ b) (sGv_ne k _ _ _ _ _ b) 10
def sRB (tc : Nat → sTc) (r : sR) : sBt := sGv (fun q => sAl (sCf tc r q) 10) (fun j => r 1 j &&& sAl (r 0) 8) (cN tc r) (r 7 4) 0 0 0 (r 7 0) 0 (0, 0, 0)
theorem sRB_ne {tc : Nat → sTc} {r : sR} : ¬ (sRB tc r).2.1 = 0 := sGv_ne _ _ _ _ _ _ _
def sRota (tc : Nat → sTc) (r : sR) (w : Int32) : Int32 := if 0 ≤ w.toInt ∧ w.toInt ≤ 2 then (if w.toInt.toNat = 0 then nI (sRB tc r).1 else if w.toInt.toNat = 1 then cI (sRB tc r).2.1 else nI (sRB tc r).2.2) else -2
theorem sRota_y {tc : Nat → sTc} {r : sR} {u : Nat} (hu : u < 3) : sRota tc r (nI u) = if u = 0 then nI (sRB tc r).1 else if u = 1 then cI (sRB tc r).2.1 else nI (sRB tc r).2.2 := by
  unfold sRota
  rw [sTI (k := u) (by omega), if_pos (by omega)]
  rfl
set_option maxHeartbeats 4000000 in
set_option maxRecDepth 20000 in
theorem t_X6_rota (l : Launch) (d : Nat) (w : Int32) (z : xMem) (r : sR) (cnt : Nat) (tc : Nat → sTc) (hr : RM z r) (hw : sW r cnt) (ht : TM z cnt tc) : XMi l (d + 316) yX6_rota cX6_rota 3 (some .int) shM [.ref 0, .int w] z (fun v z' => v = sRota tc r w ∧ KR z z') := by
  refine XM.of (by decide) (Nat.le_of_ble_eq_true rfl) (fun xp xe xs xm xar xbl xme xc xD xcs xad xAA xCC xhr => ?_)
  generalize xhQ : MQ xbl _ xar xs 0 0 xAA = xQ
  show ww xp l xe (xRm (d + 316)) xs xm xar xbl xme xc 3 xD xcs xad shM xAA xQ 0 [(0, .ref 0), (1, .int w)] [] z
  have hb := hw.1
  have h74 : r 7 4 ≤ 4 := hw.2.2.2.2.2.2.1
  refine ww_blk xCC okX6_rota 0 4 (ps := []) (pc' := 6) (lv' := [(0, .ref 0), (1, .int w)]) (st' := [.long 2, .long 0, .long w.toInt64]) (z' := z) rfl trivial ?_
  refine ww_callSNz xCC okX6_rota 4 (ix := 82) (t_X6_in l d w.toInt64 0 2 w.toInt 0 2 (Int32.toInt_toInt64 _) rfl rfl  _) (by omega) (by decide) xyX6_in xiX6_in (Or.inl (lw_gt_of (List.mem_of_getElem? (i := 962) (by decide +kernel)) rfl)) rfl (rest := []) rfl (Nat.le_of_ble_eq_true rfl) rfl (fun z1 h2 => ?_) (fun z1 h2 => ?_)
  · skip
    have h2 : 0 ≤ w.toInt ∧ w.toInt ≤ 2 := h2
    obtain ⟨u, hu, rfl⟩ := sNN (x := w) (n := 3) h2.1 (by omega)
    refine ww_br xCC okX6_rota 5 (P := 1 = 0) (t1 := 12) (t2 := 15) (r := []) rfl (fun q => absurd q (by decide)) (fun _ => ?_)
    refine ww_blk xCC okX6_rota 8 2 (ps := []) (pc' := 17) (lv' := [(2, .int 0), (0, .ref 0), (1, .int (nI u))]) (st' := []) (z' := z) rfl trivial ?_
    have L17 : ∀ (n17 : Nat) (p : Nat) (zL : xMem), r 7 4 - p < n17 → (p ≤ r 7 4) → (KR z zL) → (∀ q, q < p → zL.1 9 q = nI (sAl (sCf tc r q) 10)) → ww xp l xe (xRm (d + 316)) xs xm xar xbl xme xc 3 xD xcs xad shM xAA xQ 17 [(2, .int (nI p)), (0, .ref 0), (1, .int (nI u))] [] zL := by
      intro n17
      induction n17 with
      | zero =>
        intro p zL hmu17
        exact absurd hmu17 (Nat.not_lt_zero _)
      | succ n17 ih17 =>
        intro p zL hmu17 e17_0 e17_1 e17_2
        have hrL := RM_Kb (Kb_KR e17_1) hr
        have htL := TM_Kb (Kb_KR e17_1) ht
        refine ww_blk xCC okX6_rota 10 3 (ps := []) (pc' := 22) (lv' := [(2, .int (nI p)), (0, .ref 0), (1, .int (nI u))]) (st' := [.int (zL.1 0 15), .int (nI p)]) (z' := zL) rfl trivial ?_
        rw [hrL.2.2.2.2.2.2.2.2.2.2.2.1]
        refine ww_br xCC okX6_rota 13 (P := (nI (r 7 4)) ≤ (nI p)) (t1 := 42) (t2 := 25) (r := []) rfl (fun c4 => ?_) (fun c4 => ?_)
        · skip
          replace c4 : (r 7 4) ≤ p := (sLE (a := (r 7 4)) (b := p) (by omega) (by omega)).mp c4
          refine ww_blk xCC okX6_rota 23 10 (ps := []) (pc' := 56) (lv' := [(2, .int (nI p)), (0, .ref 0), (1, .int (nI u))]) (st' := [.int 0, .int (zL.1 0 9), .int 0, .int 0, .int 0, .ref 0]) (z' := (mPut zL 0 33 (-1))) rfl trivial ?_
          rw [hrL.2.2.2.2.2.2.2.1]
          refine ww_callVIv xCC okX6_rota 33 (ix := 321) (g_all l r cnt tc (fun q => sAl (sCf tc r q) 10) hw (fun q => sAl_lt _ 10) (r 7 4) d 0 0 0 (r 7 0) 0 0 0 0 (mPut zL 0 33 (-1)) (RM_Kb Kb_33 hrL) (TM_Kb Kb_33 htL) (fun q hq => (congrFun (mPut_nq (by decide)) q).trans (e17_2 q (by omega))) (Bm_0 zL) (by omega) (by decide) hw.2.1 (by omega)) (by omega) (by decide) xyX6_gives xiX6_gives (Or.inl (lw_gt_of (List.mem_of_getElem? (i := 1184) (by decide +kernel)) rfl)) rfl rfl rfl (rest := []) rfl (Nat.le_of_ble_eq_true rfl) rfl (fun zC hC => ?_)
          have hF := hC.1.2.2.resolve_left (sRB_ne (tc := tc) (r := r))
          have hKC := KR_tr e17_1 (KR_tr KR_33 (KR_of hC.2))
          refine ww_blk xCC okX6_rota 34 1 (ps := []) (pc' := 60) (lv' := [(2, .int (nI p)), (0, .ref 0), (1, .int (nI u))]) (st' := [.int (nI u)]) (z' := zC) rfl trivial ?_
          refine ww_br xCC okX6_rota 35 (P := (nI u) = 0) (t1 := 63) (t2 := 70) (r := []) rfl (fun c6 => ?_) (fun c6 => ?_)
          · skip
            replace c6 : u = 0 := (sEQ (a := u) (b := 0) (by omega) (by omega)).mp c6
            refine ww_blk xCC okX6_rota 36 3 (ps := []) (pc' := 86) (lv' := [(2, .int (nI p)), (0, .ref 0), (1, .int (nI u))]) (st' := [.int (zC.1 0 32)]) (z' := zC) rfl trivial ?_
            rw [show zC.1 0 32 = nI (sRB tc r).1 from hF.1]
            subst xhQ
            exact ww_iret xCC okX6_rota 47 xhr rfl rfl ⟨_, rfl, ⟨(by rw [sRota_y (by omega)]; grind), hKC⟩⟩
          · skip
            replace c6 : ¬ u = 0 := fun q => c6 ((sEQ (a := u) (b := 0) (by omega) (by omega)).mpr q)
            refine ww_blk xCC okX6_rota 39 2 (ps := []) (pc' := 72) (lv' := [(2, .int (nI p)), (0, .ref 0), (1, .int (nI u))]) (st' := [.int 1, .int (nI u)]) (z' := zC) rfl trivial ?_
            refine ww_br xCC okX6_rota 41 (P := (nI u) = 1) (t1 := 75) (t2 := 82) (r := []) rfl (fun c7 => ?_) (fun c7 => ?_)
            · skip
              replace c7 : u = 1 := (sEQ (a := u) (b := 1) (by omega) (by omega)).mp c7
              refine ww_blk xCC okX6_rota 42 3 (ps := []) (pc' := 86) (lv' := [(2, .int (nI p)), (0, .ref 0), (1, .int (nI u))]) (st' := [.int (zC.1 0 33)]) (z' := zC) rfl trivial ?_
              rw [show zC.1 0 33 = cI (sRB tc r).2.1 from hC.1.1]
              subst xhQ
              exact ww_iret xCC okX6_rota 47 xhr rfl rfl ⟨_, rfl, ⟨(by rw [sRota_y (by omega)]; grind), hKC⟩⟩
            · skip
              replace c7 : ¬ u = 1 := fun q => c7 ((sEQ (a := u) (b := 1) (by omega) (by omega)).mpr q)
              refine ww_blk xCC okX6_rota 45 2 (ps := []) (pc' := 86) (lv' := [(2, .int (nI p)), (0, .ref 0), (1, .int (nI u))]) (st' := [.int (zC.1 0 34)]) (z' := zC) rfl trivial ?_
              rw [show zC.1 0 34 = nI (sRB tc r).2.2 from hF.2.1]
              subst xhQ
              exact ww_iret xCC okX6_rota 47 xhr rfl rfl ⟨_, rfl, ⟨(by rw [sRota_y (by omega)]; grind), hKC⟩⟩
        · skip
          replace c4 : ¬ (r 7 4) ≤ p := fun q => c4 ((sLE (a := (r 7 4)) (b := p) (by omega) (by omega)).mpr q)
          refine ww_blk xCC okX6_rota 14 5 (ps := []) (pc' := 32) (lv' := [(2, .int (nI p)), (0, .ref 0), (1, .int (nI u))]) (st' := [.int (nI p), .ref 0, .int (nI p), .ref 9]) (z' := zL) rfl trivial ?_
          refine ww_callVIi xCC okX6_rota 19 (ix := 133) (t_X6_canSet l d p zL r cnt tc hrL hw htL (by omega)) (by omega) (by decide) xyX6_canSet xiX6_canSet (Or.inl (lw_gt_of (List.mem_of_getElem? (i := 988) (by decide +kernel)) rfl)) rfl rfl rfl (rest := [.int (nI p), .ref 9]) rfl (Nat.le_of_ble_eq_true rfl) rfl (fun v9 zS8 hS8 => ?_)
          have hrS8 := RM_K hS8.2 hrL
          have htS8 := TM_K hS8.2 htL
          have hKS8 := KM_tr (KM_rf zL) hS8.2
          rw [hS8.1]
          refine ww_blk xCC okX6_rota 20 3 (ps := [vp_in (nI p) 4]) (pc' := 17) (lv' := [(2, .int ((nI p) + 1)), (0, .ref 0), (1, .int (nI u))]) (st' := []) (z' := (mPut zS8 9 (nI p).toNatClampNeg (nI (sAl (sCf tc r p) 10)))) rfl (vp_in_nI (by omega) (by decide)) ?_
          rw [show nI p + (1 : Int32) = nI (p + 1) from nI_add p 1]
          rw [sCL (n := p) (by omega)]
          exact ww_cut [0, 1, 2] (xlc rfl (xlc rfl (xlc rfl rfl))) rfl rfl (ih17 (p + 1) (mPut zS8 9 p (nI (sAl (sCf tc r p) 10))) (by omega) (by omega) (KR_9 (KR_tr e17_1 (KR_of (KG_of hKS8)))) (hab9 (fun q hq => (congrFun (hKS8.1 9 (by decide)) q).trans (e17_2 q hq))))
    exact ww_cut [0, 1, 2] (xlc (congrArg Value.int (show (0 : Int32) = nI 0 from rfl)) (xlc rfl (xlc rfl rfl))) rfl rfl (L17 (r 7 4 - 0 + 1) 0 z (Nat.lt_succ_self _) (by omega) (KR_rf z) (fun q hq => absurd hq (Nat.not_lt_zero q)))
  · skip
    have h2 : ¬ (0 ≤ w.toInt ∧ w.toInt ≤ 2) := h2
    refine ww_br xCC okX6_rota 5 (P := 0 = 0) (t1 := 12) (t2 := 15) (r := []) rfl (fun _ => ?_) (fun q => absurd (by decide) q)
    refine ww_blk xCC okX6_rota 6 1 (ps := []) (pc' := 14) (lv' := [(0, .ref 0), (1, .int w)]) (st' := [.int (-2)]) (z' := z) rfl trivial ?_
    subst xhQ
    exact ww_iret xCC okX6_rota 7 xhr rfl rfl ⟨_, rfl, ⟨(by unfold sRota; rw [if_neg (by omega)]), KR_rf z⟩⟩
