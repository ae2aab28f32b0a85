/-! the class's dares, costs, sentence .. -/
theorem sAnd1 : ∀ i, i < 10 → ∀ a, a < 1024 → ((nI a &&& ((1 : Int32) <<< (nI i &&& 31)) = 0) ↔ a.testBit i = false) := by decide +kernel
theorem sTb8 {a i : Nat} (ha : a < 256) (hi : 8 ≤ i) : a.testBit i = false := Nat.testBit_lt_two_pow (Nat.lt_of_lt_of_le ha (show 2 ^ 8 ≤ 2 ^ i from Nat.pow_le_pow_right (by decide) hi))
/-- all laws so far that a deed breaks have 1 year left -/
def sOl (r : sR) (e : Nat) : Nat → Bool
  | 0 => true
  | k + 1 => sOl r e k && (!((r 1 e).testBit k) || r 0 k == 1)
theorem sOl_s {r : sR} {e i : Nat} (h : sOl r e i = true) (h2 : (r 1 e).testBit i = false ∨ r 0 i = 1) : sOl r e (i + 1) = true := by
  rw [sOl, h]
  rcases h2 with h2 | h2 <;> simp [h2]
theorem sLa_eq (r : sR) (e : Nat) : ∀ k, sLa r e k = (r 1 e != 0 && sOl r e k)
  | 0 => by simp [sLa, sOl]
  | k + 1 => by rw [sLa, sLa_eq r e k, sOl, Bool.and_assoc]
theorem sLa_yes {r : sR} {e i : Nat} (h : sOl r e i = true) (h2 : ¬ r 1 e = 0) : sLa r e i = true := by
  rw [sLa_eq, h]; simp [h2]
theorem sLa_no1 {r : sR} {e i : Nat} (h2 : r 1 e = 0) : sLa r e i = false := by
  rw [sLa_eq]; simp [h2]
theorem sOl_no {r : sR} {e i : Nat} (h : sOl r e i = false) : ∀ k, sOl r e (i + k) = false
  | 0 => h
  | k + 1 => by
    show sOl r e (i + k + 1) = false
    rw [sOl, sOl_no h k]
    rfl
theorem sLa_no2 {r : sR} {e i : Nat} (hi : i < 8) (h : (r 1 e).testBit i = true) (h2 : ¬ r 0 i = 1) : sLa r e 8 = false := by
  have e1 : sOl r e (i + 1) = false := by
    rw [sOl, h]
    simp [h2]
  have e2 := sOl_no e1 (8 - (i + 1))
  rw [show i + 1 + (8 - (i + 1)) = 8 by omega] at e2
  rw [sLa_eq, e2, Bool.and_false]
/-- what a text says, in its bounds, as a number -/
def aN (tc : Nat → sTc) (r : sR) (w p e : Nat) : Nat := sTn (sSays tc r w p e)
theorem aN_eq (tc : Nat → sTc) (r : sR) (w p e : Nat) : sSays tc r w p e = nI (aN tc r w p e) := sWi_n _ (by split <;> decide)
theorem aN_le (tc : Nat → sTc) (r : sR) (w p e : Nat) : aN tc r w p e ≤ if w = 2 then 99 else 999 := by
  unfold aN sTn sSays
  by_cases h : w = 2
  · rw [if_pos h, if_pos h]
    have := sWi_bd (b := 99) (tV (sF r p e) (sPart w (tc (r 7 5)))) (by decide)
    have e9 : (99 : Int32).toInt = 99 := rfl
    omega
  · rw [if_neg h, if_neg h]
    have := sWi_bd (b := 999) (tV (sF r p e) (sPart w (tc (r 7 5)))) (by decide)
    have e9 : (999 : Int32).toInt = 999 := rfl
    omega
theorem sSays0 (tc : Nat → sTc) (r : sR) (p e : Nat) : (sSays tc r 0 p e != 0) = (aN tc r 0 p e != 0) := by
  have ha : aN tc r 0 p e ≤ 999 := aN_le tc r 0 p e
  rw [aN_eq]
  by_cases h : aN tc r 0 p e = 0
  · rw [h]; rfl
  · have h2 : ¬ nI (aN tc r 0 p e) = 0 := fun q => h ((sEQ (b := 0) (by omega) (by decide)).mp q)
    rw [show (nI (aN tc r 0 p e) != 0) = true from bne_iff_ne.mpr h2]
    exact (bne_iff_ne.mpr h).symm
theorem sMx {a b : Nat} (ha : a ≤ 999) (hb : b ≤ 9) : (if 0 < nI a - nI b then nI a - nI b else 0) = nI (a - b) := by
  by_cases h : b < a
  · rw [pk_sub (by omega), if_pos (show (0 : Int32) < nI (a - b) from nI_lt (a := 0) (b := a - b) (by omega) (by omega))]
  · rw [if_neg (fun q => by rw [Int32.lt_iff_toInt_lt, pk_sub_toInt (by omega) (by omega), show (0 : Int32).toInt = 0 from rfl] at q; omega), show a - b = 0 by omega]
    rfl
theorem sMinN {x b : Nat} (hx : x < 2 ^ 31) (hb : b < 2 ^ 31) : (if nI x < nI b then nI x else nI b) = nI (min b x) := by
  by_cases h : x < b
  · rw [if_pos ((sLT hx hb).mpr h), Nat.min_eq_right (by omega)]
  · rw [if_neg (fun q => h ((sLT hx hb).mp q)), Nat.min_eq_left (by omega)]
theorem sWi_N {x b : Nat} (hx : x < 2 ^ 31) (hb : b < 2 ^ 31) : sWi (nI x) 0 (nI b) = nI (min b x) := by
  unfold sWi
  rw [if_neg (nI_pos hx)]
  by_cases h : b < x
  · rw [if_pos ((sLT hb hx).mpr h), Nat.min_eq_left (by omega)]
  · rw [if_neg (fun q => h ((sLT hb hx).mp q)), Nat.min_eq_right (by omega)]
theorem sWi_S {a n : Nat} (ha : a ≤ 999) (hn : n ≤ 9) : sWi (nI a - nI n) 0 999 = nI (a - n) := by
  by_cases h : n ≤ a
  · rw [pk_sub h, show (999 : Int32) = nI 999 from rfl, sWi_N (by omega) (by decide), Nat.min_eq_right (by omega)]
  · unfold sWi
    rw [if_pos (by rw [Int32.lt_iff_toInt_lt, pk_sub_toInt (by omega) (by omega), show (0 : Int32).toInt = 0 from rfl]; omega), show a - n = 0 by omega]
    rfl
def cCo (k a n b : Nat) : Nat := if k = 1 then a / 2 else if k = 2 then a - n else if k = 3 then a / 2 + 5 else if k = 4 then min 999 (a - n + b) else if k = 5 then min 999 (2 * a) else a
theorem sCosts_c {tc : Nat → sTc} {r : sR} {p e : Nat} (hn : r 4 p ≤ 9) : sCosts tc r p e = nI (cCo (r 3 p) (aN tc r 1 p e) (r 4 p) (sPop (r 1 e))) := by
  have ha : aN tc r 1 p e ≤ 999 := aN_le tc r 1 p e
  have hp : sPop (r 1 e) ≤ 10 := by unfold sPop; omega
  unfold sCosts cCo
  rw [aN_eq tc r 1 p e, sWi_S ha hn]
  have h9 : (999 : Int32) = nI 999 := rfl
  have hd : nI (aN tc r 1 p e) / 2 = nI (aN tc r 1 p e / 2) := pk_div (d := 2) (by omega) (by decide) (by decide)
  rw [hd, h9]
  by_cases h1 : r 3 p = 1
  · rw [if_pos h1, if_pos h1, sWi_N (by omega) (by decide), Nat.min_eq_right (by omega)]
  · rw [if_neg h1, if_neg h1]
    by_cases h2 : r 3 p = 2
    · rw [if_neg (by omega), if_pos h2, if_pos h2, sWi_N (by omega) (by decide), Nat.min_eq_right (by omega)]
    · rw [if_neg h2, if_neg h2]
      by_cases h3 : r 3 p = 3
      · rw [if_pos h3, if_pos h3, show nI (aN tc r 1 p e / 2) + 5 = nI (aN tc r 1 p e / 2 + 5) from nI_add _ 5, sWi_N (by omega) (by decide), Nat.min_eq_right (by omega)]
      · rw [if_neg h3, if_neg h3]
        by_cases h4 : r 3 p = 4
        · rw [if_pos h4, if_pos h4, nI_add, sWi_N (by omega) (by decide)]
        · rw [if_neg h4, if_neg h4]
          by_cases h5 : r 3 p = 5
          · rw [if_pos h5, if_pos h5, show (2 : Int32) * nI (aN tc r 1 p e) = nI (2 * aN tc r 1 p e) from pk_mul 2 _, sWi_N (by omega) (by decide)]
          · rw [if_neg h5, if_neg h5, sWi_N (by omega) (by decide), Nat.min_eq_right (by omega)]
def cSi (k a n s : Nat) : Nat := if k = 1 then 0 else if k = 2 then min 3 a else if k = 3 then (if n < 5 then 1 else 0) else if k = 4 then 2 * min 3 a else if k = 5 then min 99 (1 + s) else a
theorem sSits_c {tc : Nat → sTc} {r : sR} {p e : Nat} (hs : r 6 p ≤ 99) : sSits tc r p e = nI (cSi (r 3 p) (aN tc r 2 p e) (r 4 p) (r 6 p)) := by
  have ha : aN tc r 2 p e ≤ 99 := aN_le tc r 2 p e
  unfold sSits cSi
  rw [aN_eq tc r 2 p e]
  have h9 : (99 : Int32) = nI 99 := rfl
  have hm : (if nI (aN tc r 2 p e) < 3 then nI (aN tc r 2 p e) else 3) = nI (min 3 (aN tc r 2 p e)) := sMinN (b := 3) (by omega) (by decide)
  rw [hm, h9]
  by_cases h1 : r 3 p = 1
  · rw [if_pos h1, if_pos h1]; rfl
  · rw [if_neg h1, if_neg h1]
    by_cases h2 : r 3 p = 2
    · rw [if_neg (by omega), if_pos h2, if_pos h2, sWi_N (by omega) (by decide), Nat.min_eq_right (by omega)]
    · rw [if_neg h2, if_neg h2]
      by_cases h3 : r 3 p = 3
      · rw [if_pos h3, if_pos h3]
        split <;> rfl
      · rw [if_neg h3, if_neg h3]
        by_cases h4 : r 3 p = 4
        · rw [if_pos h4, if_pos h4, show (2 : Int32) * nI (min 3 (aN tc r 2 p e)) = nI (2 * min 3 (aN tc r 2 p e)) from pk_mul 2 _, sWi_N (by omega) (by decide), Nat.min_eq_right (by omega)]
        · rw [if_neg h4, if_neg h4]
          by_cases h5 : r 3 p = 5
          · rw [if_pos h5, if_pos h5, show (1 : Int32) + nI (r 6 p) = nI (1 + r 6 p) from nI_add 1 _, sWi_N (by omega) (by decide)]
          · rw [if_neg h5, if_neg h5, sWi_N (by omega) (by decide), Nat.min_eq_right (by omega)]
set_option maxHeartbeats 4000000 in
set_option maxRecDepth 20000 in
theorem t_X0_breaksNumber (l : Launch) (d : Nat) (p e : Nat) (z : xMem) (r : sR) (cnt : Nat) (hr : RX z 0 r) (hw : sW r cnt) (hp : p < 4) (he : e < 10) : XMz l d yX0_breaksNumber cX0_breaksNumber 4 (some .boolean) shR [.ref 0, .int (nI p), .int (nI e)] z (fun z' => (r 1 e).testBit (r 4 p) = true ∧ z' = z) (fun z' => (r 1 e).testBit (r 4 p) = false ∧ z' = z) := by
  refine XM.of (by decide) (Nat.le_of_ble_eq_true rfl) (fun xp xe xs xm xar xbl xme xc xD xcs xad xAA xCC xhr => ?_)
  generalize xhQ : MQ xbl _ xar xs 0 0 xAA = xQ
  show ww xp l xe (xRm d) xs xm xar xbl xme xc 4 xD xcs xad shR xAA xQ 0 [(0, .ref 0), (1, .int (nI p)), (2, .int (nI e))] [] z
  have hb := hw.1
  have hbe := hb e
  have hbp := hb p
  refine ww_blk xCC okX0_breaksNumber 0 7 (ps := [vp_in (nI p) 4]) (pc' := 10) (lv' := [(3, .int (z.1 5 (nI p).toNatClampNeg)), (0, .ref 0), (1, .int (nI p)), (2, .int (nI e))]) (st' := [.int 8, .int (z.1 5 (nI p).toNatClampNeg)]) (z' := z) rfl (vp_in_nI (by omega) (by decide)) ?_
  rw [sCL (n := p) (by omega)]
  rw [show z.1 5 p = nI (r 4 p) from hr.2.2.2.2.1 p]
  refine ww_br xCC okX0_breaksNumber 7 (P := 8 ≤ (nI (r 4 p))) (t1 := 30) (t2 := 13) (r := []) rfl (fun c1 => ?_) (fun c1 => ?_)
  · skip
    replace c1 : 8 ≤ (r 4 p) := (sLE (a := 8) (b := (r 4 p)) (by omega) (by omega)).mp c1
    refine ww_blk xCC okX0_breaksNumber 19 1 (ps := []) (pc' := 31) (lv' := [(3, .int (nI (r 4 p))), (0, .ref 0), (1, .int (nI p)), (2, .int (nI e))]) (st' := [.int 0]) (z' := z) rfl trivial ?_
    subst xhQ
    exact ww_iret xCC okX0_breaksNumber 20 xhr rfl (by decide) (Or.inr ⟨rfl, ⟨(by first | exact h23 | exact sTb8 (by omega) (by omega)), rfl⟩⟩)
  · skip
    replace c1 : ¬ 8 ≤ (r 4 p) := fun q => c1 ((sLE (a := 8) (b := (r 4 p)) (by omega) (by omega)).mpr q)
    refine ww_blk xCC okX0_breaksNumber 8 8 (ps := [vp_in (nI e) 10]) (pc' := 23) (lv' := [(3, .int (nI (r 4 p))), (0, .ref 0), (1, .int (nI p)), (2, .int (nI e))]) (st' := [.int ((z.1 2 (nI e).toNatClampNeg) &&& (1 <<< ((nI (r 4 p)) &&& 31)))]) (z' := z) rfl (vp_in_nI (by omega) (by decide)) ?_
    rw [sCL (n := e) (by omega)]
    rw [show z.1 2 e = nI (r 1 e) from hr.2.1 e]
    refine ww_br xCC okX0_breaksNumber 16 (P := ((nI (r 1 e)) &&& (1 <<< ((nI (r 4 p)) &&& 31))) = 0) (t1 := 30) (t2 := 26) (r := []) rfl (fun c2 => ?_) (fun c2 => ?_)
    · skip
      have h23 : ((r 1 e)).testBit (r 4 p) = false := (sAnd1 (r 4 p) (by omega) (r 1 e) (by omega)).mp c2
      refine ww_blk xCC okX0_breaksNumber 19 1 (ps := []) (pc' := 31) (lv' := [(3, .int (nI (r 4 p))), (0, .ref 0), (1, .int (nI p)), (2, .int (nI e))]) (st' := [.int 0]) (z' := z) rfl trivial ?_
      subst xhQ
      exact ww_iret xCC okX0_breaksNumber 20 xhr rfl (by decide) (Or.inr ⟨rfl, ⟨(by first | exact h23 | exact sTb8 (by omega) (by omega)), rfl⟩⟩)
    · skip
      have h23 : ((r 1 e)).testBit (r 4 p) = true := (Bool.eq_false_or_eq_true _).resolve_right (fun q => c2 ((sAnd1 (r 4 p) (by omega) (r 1 e) (by omega)).mpr q))
      refine ww_blk xCC okX0_breaksNumber 17 2 (ps := []) (pc' := 31) (lv' := [(3, .int (nI (r 4 p))), (0, .ref 0), (1, .int (nI p)), (2, .int (nI e))]) (st' := [.int 1]) (z' := z) rfl trivial ?_
      subst xhQ
      exact ww_iret xCC okX0_breaksNumber 20 xhr rfl (by decide) (Or.inl ⟨rfl, ⟨h23, rfl⟩⟩)

set_option maxHeartbeats 4000000 in
set_option maxRecDepth 20000 in
theorem t_X0_breaksOnlyLast (l : Launch) (d : Nat) (e : Nat) (z : xMem) (r : sR) (cnt : Nat) (hr : RX z 0 r) (hw : sW r cnt) (he : e < 10) : XMz l d yX0_breaksOnlyLast cX0_breaksOnlyLast 3 (some .boolean) shR [.ref 0, .int (nI e)] z (fun z' => sLa r e 8 = true ∧ z' = z) (fun z' => sLa r e 8 = false ∧ z' = z) := by
  refine XM.of (by decide) (Nat.le_of_ble_eq_true rfl) (fun xp xe xs xm xar xbl xme xc xD xcs xad xAA xCC xhr => ?_)
  generalize xhQ : MQ xbl _ xar xs 0 0 xAA = xQ
  show ww xp l xe (xRm d) xs xm xar xbl xme xc 3 xD xcs xad shR xAA xQ 0 [(0, .ref 0), (1, .int (nI e))] [] z
  have hb := hw.1
  have hbe := hb e
  refine ww_blk xCC okX0_breaksOnlyLast 0 2 (ps := []) (pc' := 2) (lv' := [(2, .int 0), (0, .ref 0), (1, .int (nI e))]) (st' := []) (z' := z) rfl trivial ?_
  have L2 : ∀ (n2 : Nat) (i : Nat), 8 - i < n2 → (i ≤ 8) → (sOl r e i = true) → ww xp l xe (xRm d) xs xm xar xbl xme xc 3 xD xcs xad shR xAA xQ 2 [(2, .int (nI i)), (0, .ref 0), (1, .int (nI e))] [] z := by
    intro n2
    induction n2 with
    | zero =>
      intro i hmu2
      exact absurd hmu2 (Nat.not_lt_zero _)
    | succ n2 ih2 =>
      intro i hmu2 e2_0 e2_1
      have hbi := hb i
      refine ww_blk xCC okX0_breaksOnlyLast 2 2 (ps := []) (pc' := 5) (lv' := [(2, .int (nI i)), (0, .ref 0), (1, .int (nI e))]) (st' := [.int 8, .int (nI i)]) (z' := z) rfl trivial ?_
      refine ww_br xCC okX0_breaksOnlyLast 4 (P := 8 ≤ (nI i)) (t1 := 39) (t2 := 8) (r := []) rfl (fun c1 => ?_) (fun c1 => ?_)
      · skip
        replace c1 : 8 ≤ i := (sLE (a := 8) (b := i) (by omega) (by omega)).mp c1
        refine ww_blk xCC okX0_breaksOnlyLast 24 4 (ps := [vp_in (nI e) 10]) (pc' := 45) (lv' := [(2, .int (nI i)), (0, .ref 0), (1, .int (nI e))]) (st' := [.int (z.1 2 (nI e).toNatClampNeg)]) (z' := z) rfl (vp_in_nI (by omega) (by decide)) ?_
        rw [sCL (n := e) (by omega)]
        rw [show z.1 2 e = nI (r 1 e) from hr.2.1 e]
        refine ww_br xCC okX0_breaksOnlyLast 28 (P := (nI (r 1 e)) = 0) (t1 := 52) (t2 := 48) (r := []) rfl (fun c2 => ?_) (fun c2 => ?_)
        · skip
          replace c2 : (r 1 e) = 0 := (sEQ (a := (r 1 e)) (b := 0) (by omega) (by omega)).mp c2
          refine ww_blk xCC okX0_breaksOnlyLast 31 1 (ps := []) (pc' := 53) (lv' := [(2, .int (nI i)), (0, .ref 0), (1, .int (nI e))]) (st' := [.int 0]) (z' := z) rfl trivial ?_
          subst xhQ
          exact ww_iret xCC okX0_breaksOnlyLast 32 xhr rfl (by decide) (Or.inr ⟨rfl, ⟨(sLa_no1 (by omega)), rfl⟩⟩)
        · skip
          replace c2 : ¬ (r 1 e) = 0 := fun q => c2 ((sEQ (a := (r 1 e)) (b := 0) (by omega) (by omega)).mpr q)
          refine ww_blk xCC okX0_breaksOnlyLast 29 2 (ps := []) (pc' := 53) (lv' := [(2, .int (nI i)), (0, .ref 0), (1, .int (nI e))]) (st' := [.int 1]) (z' := z) rfl trivial ?_
          subst xhQ
          exact ww_iret xCC okX0_breaksOnlyLast 32 xhr rfl (by decide) (Or.inl ⟨rfl, ⟨(by rw [show 8 = i by omega]; exact sLa_yes e2_1 (by omega)), rfl⟩⟩)
      · skip
        replace c1 : ¬ 8 ≤ i := fun q => c1 ((sLE (a := 8) (b := i) (by omega) (by omega)).mpr q)
        refine ww_blk xCC okX0_breaksOnlyLast 5 8 (ps := [vp_in (nI e) 10]) (pc' := 18) (lv' := [(2, .int (nI i)), (0, .ref 0), (1, .int (nI e))]) (st' := [.int ((z.1 2 (nI e).toNatClampNeg) &&& (1 <<< ((nI i) &&& 31)))]) (z' := z) rfl (vp_in_nI (by omega) (by decide)) ?_
        rw [sCL (n := e) (by omega)]
        rw [show z.1 2 e = nI (r 1 e) from hr.2.1 e]
        refine ww_br xCC okX0_breaksOnlyLast 13 (P := ((nI (r 1 e)) &&& (1 <<< ((nI i) &&& 31))) = 0) (t1 := 33) (t2 := 21) (r := []) rfl (fun c3 => ?_) (fun c3 => ?_)
        · skip
          have h18 : ((r 1 e)).testBit i = false := (sAnd1 i (by omega) (r 1 e) (by omega)).mp c3
          refine ww_blk xCC okX0_breaksOnlyLast 22 2 (ps := []) (pc' := 2) (lv' := [(2, .int ((nI i) + 1)), (0, .ref 0), (1, .int (nI e))]) (st' := []) (z' := z) rfl trivial ?_
          rw [show nI i + (1 : Int32) = nI (i + 1) from nI_add i 1]
          exact ww_cut [0, 1, 2] (xlc rfl (xlc rfl (xlc rfl rfl))) rfl rfl (ih2 (i + 1) (by omega) (by omega) (sOl_s e2_1 (by first | exact Or.inl h18 | exact Or.inr (by omega))))
        · skip
          have h18 : ((r 1 e)).testBit i = true := (Bool.eq_false_or_eq_true _).resolve_right (fun q => c3 ((sAnd1 i (by omega) (r 1 e) (by omega)).mpr q))
          refine ww_blk xCC okX0_breaksOnlyLast 14 5 (ps := [vp_in (nI i) 8]) (pc' := 28) (lv' := [(2, .int (nI i)), (0, .ref 0), (1, .int (nI e))]) (st' := [.int 1, .int (z.1 1 (nI i).toNatClampNeg)]) (z' := z) rfl (vp_in_nI (by omega) (by decide)) ?_
          rw [sCL (n := i) (by omega)]
          rw [show z.1 1 i = nI (r 0 i) from hr.1 i]
          refine ww_br xCC okX0_breaksOnlyLast 19 (P := (nI (r 0 i)) = 1) (t1 := 33) (t2 := 31) (r := []) rfl (fun c4 => ?_) (fun c4 => ?_)
          · skip
            replace c4 : (r 0 i) = 1 := (sEQ (a := (r 0 i)) (b := 1) (by omega) (by omega)).mp c4
            refine ww_blk xCC okX0_breaksOnlyLast 22 2 (ps := []) (pc' := 2) (lv' := [(2, .int ((nI i) + 1)), (0, .ref 0), (1, .int (nI e))]) (st' := []) (z' := z) rfl trivial ?_
            rw [show nI i + (1 : Int32) = nI (i + 1) from nI_add i 1]
            exact ww_cut [0, 1, 2] (xlc rfl (xlc rfl (xlc rfl rfl))) rfl rfl (ih2 (i + 1) (by omega) (by omega) (sOl_s e2_1 (by first | exact Or.inl h18 | exact Or.inr (by omega))))
          · skip
            replace c4 : ¬ (r 0 i) = 1 := fun q => c4 ((sEQ (a := (r 0 i)) (b := 1) (by omega) (by omega)).mpr q)
            refine ww_blk xCC okX0_breaksOnlyLast 20 1 (ps := []) (pc' := 32) (lv' := [(2, .int (nI i)), (0, .ref 0), (1, .int (nI e))]) (st' := [.int 0]) (z' := z) rfl trivial ?_
            subst xhQ
            exact ww_iret xCC okX0_breaksOnlyLast 21 xhr rfl (by decide) (Or.inr ⟨rfl, ⟨(sLa_no2 (show i < 8 by omega) h18 (by omega)), rfl⟩⟩)
  exact ww_cut [0, 1, 2] (xlc (congrArg Value.int (show (0 : Int32) = nI 0 from rfl)) (xlc rfl (xlc rfl rfl))) rfl rfl (L2 (8 - 0 + 1) 0 (Nat.lt_succ_self _) (by omega) rfl)

set_option maxHeartbeats 4000000 in
set_option maxRecDepth 20000 in
theorem t_X0_dares (l : Launch) (d : Nat) (p e : Nat) (z : xMem) (r : sR) (cnt : Nat) (tc : Nat → sTc) (hr : RX z 0 r) (hw : sW r cnt) (ht : TX z 8 cnt tc) (hp : p < 4) (he : e < 10) : XMz l (d + 3) yX0_dares cX0_dares 4 (some .boolean) shR [.ref 0, .int (nI p), .int (nI e)] z (fun z' => sDares tc r p e = true ∧ KN z z') (fun z' => sDares tc r p e = false ∧ KN z z') := by
  refine XM.of (by decide) (Nat.le_of_ble_eq_true rfl) (fun xp xe xs xm xar xbl xme xc xD xcs xad xAA xCC xhr => ?_)
  generalize xhQ : MQ xbl _ xar xs 0 0 xAA = xQ
  show ww xp l xe (xRm (d + 3)) xs xm xar xbl xme xc 4 xD xcs xad shR xAA xQ 0 [(0, .ref 0), (1, .int (nI p)), (2, .int (nI e))] [] z
  have hb := hw.1
  have hbe := hb e
  have hbp := hb p
  have ha : aN tc r 0 p e ≤ 999 := aN_le tc r 0 p e
  have hy := hw.2.2.2.2.1
  have hand := Nat.and_le_left (n := r 1 e) (m := sAl (r 0) 8)
  refine ww_blk xCC okX0_dares 0 6 (ps := []) (pc' := 8) (lv' := [(0, .ref 0), (1, .int (nI p)), (2, .int (nI e))]) (st' := [.int (nI e), .int (nI p), .ref 0, .int 0, .ref 8]) (z' := z) rfl trivial ?_
  refine ww_callVIi xCC okX0_dares 6 (ix := 73) (t_X4_value l d 0 p e z r cnt tc hr hw ht (by decide) (by omega) (by omega)) (by omega) (by decide) xyX4_value xiX4_value (Or.inr (List.mem_of_getElem? (i := 364) (by decide +kernel))) rfl rfl rfl (rest := []) rfl (Nat.le_of_ble_eq_true rfl) rfl (fun v2 zS1 hS1 => ?_)
  have hrS1 := RX_N hS1.2 hr
  have htS1 := TX_N hS1.2 ht
  have hKS1 := KN_tr (KN_rf z) hS1.2
  rw [hS1.1, aN_eq]
  refine ww_br xCC okX0_dares 7 (P := (nI (aN tc r 0 p e)) = 0) (t1 := 18) (t2 := 14) (r := []) rfl (fun c3 => ?_) (fun c3 => ?_)
  · skip
    replace c3 : (aN tc r 0 p e) = 0 := (sEQ (a := (aN tc r 0 p e)) (b := 0) (by omega) (by omega)).mp c3
    refine ww_blk xCC okX0_dares 10 6 (ps := [vp_in (nI p) 4]) (pc' := 26) (lv' := [(3, .int 0), (0, .ref 0), (1, .int (nI p)), (2, .int (nI e))]) (st' := [.int (zS1.1 4 (nI p).toNatClampNeg)]) (z' := zS1) rfl (vp_in_nI (by omega) (by decide)) ?_
    rw [sCL (n := p) (by omega)]
    rw [show zS1.1 4 p = nI (r 3 p) from hrS1.2.2.2.1 p]
    refine ww_sw xCC okX0_dares 16 (x := (nI (r 3 p))) (L := [(1, 60), (2, 79), (3, 100), (4, 128), (5, 157)]) (P := (nI (r 3 p)).toInt < 1 ∨ 5 < (nI (r 3 p)).toInt) (t0 := 181) (r := []) rfl (fun c4 => ?_) (And.intro (fun c4 => ?_) (And.intro (fun c4 => ?_) (And.intro (fun c4 => ?_) (And.intro (fun c4 => ?_) ((fun c4 => ?_))))))
    · skip
      rw [sTI (k := (r 3 p)) (by omega)] at c4
      refine ww_blk xCC okX0_dares 86 1 (ps := []) (pc' := 182) (lv' := [(3, .int 0), (0, .ref 0), (1, .int (nI p)), (2, .int (nI e))]) (st' := [.int 0]) (z' := zS1) rfl trivial ?_
      subst xhQ
      exact ww_iret xCC okX0_dares 87 xhr rfl (by decide) (Or.inr ⟨rfl, ⟨(by unfold sDares; simp only [sSays0]; grind), hKS1⟩⟩)
    · have c4 : (nI (r 3 p)) = 1 := c4
      replace c4 : (r 3 p) = 1 := (sEQ (a := (r 3 p)) (b := 1) (by omega) (by omega)).mp c4
      show ww xp l xe (xRm (d + 3)) xs xm xar xbl xme xc 4 xD xcs xad shR xAA xQ 60 [(3, .int 0), (0, .ref 0), (1, .int (nI p)), (2, .int (nI e))] [] zS1
      refine ww_blk xCC okX0_dares 17 1 (ps := []) (pc' := 61) (lv' := [(3, .int 0), (0, .ref 0), (1, .int (nI p)), (2, .int (nI e))]) (st' := [.int 0]) (z' := zS1) rfl trivial ?_
      refine ww_br xCC okX0_dares 18 (P := 0 = 0) (t1 := 64) (t2 := 73) (r := []) rfl (fun _ => ?_) (fun q => absurd (by decide) q)
      refine ww_blk xCC okX0_dares 19 3 (ps := []) (pc' := 67) (lv' := [(3, .int 0), (0, .ref 0), (1, .int (nI p)), (2, .int (nI e))]) (st' := [.int (nI e), .int (nI p), .ref 0]) (z' := zS1) rfl trivial ?_
      refine ww_callVIz xCC okX0_dares 22 (ix := 79) (t_X0_breaksNumber l d p e zS1 r cnt hrS1 hw hp he) (by omega) (by decide) xyX0_breaksNumber xiX0_breaksNumber (Or.inl (lw_gt_of (List.mem_of_getElem? (i := 388) (by decide +kernel)) rfl)) rfl rfl rfl (rest := []) rfl (Nat.le_of_ble_eq_true rfl) rfl (fun z6 h7 => ?_) (fun z6 h7 => ?_)
      · skip
        rw [h7.2]
        have hbn := h7.1
        refine ww_br xCC okX0_dares 23 (P := 1 = 0) (t1 := 77) (t2 := 73) (r := []) rfl (fun q => absurd q (by decide)) (fun _ => ?_)
        refine ww_blk xCC okX0_dares 24 2 (ps := []) (pc' := 78) (lv' := [(3, .int 0), (0, .ref 0), (1, .int (nI p)), (2, .int (nI e))]) (st' := [.int 1]) (z' := zS1) rfl trivial ?_
        subst xhQ
        exact ww_iret xCC okX0_dares 27 xhr rfl (by decide) (Or.inl ⟨rfl, ⟨(by unfold sDares; simp only [sSays0]; grind), hKS1⟩⟩)
      · skip
        rw [h7.2]
        have hbn := h7.1
        refine ww_br xCC okX0_dares 23 (P := 0 = 0) (t1 := 77) (t2 := 73) (r := []) rfl (fun _ => ?_) (fun q => absurd (by decide) q)
        refine ww_blk xCC okX0_dares 26 1 (ps := []) (pc' := 78) (lv' := [(3, .int 0), (0, .ref 0), (1, .int (nI p)), (2, .int (nI e))]) (st' := [.int 0]) (z' := zS1) rfl trivial ?_
        subst xhQ
        exact ww_iret xCC okX0_dares 27 xhr rfl (by decide) (Or.inr ⟨rfl, ⟨(by unfold sDares; simp only [sSays0]; grind), hKS1⟩⟩)
    · have c4 : (nI (r 3 p)) = 2 := c4
      replace c4 : (r 3 p) = 2 := (sEQ (a := (r 3 p)) (b := 2) (by omega) (by omega)).mp c4
      show ww xp l xe (xRm (d + 3)) xs xm xar xbl xme xc 4 xD xcs xad shR xAA xQ 79 [(3, .int 0), (0, .ref 0), (1, .int (nI p)), (2, .int (nI e))] [] zS1
      refine ww_blk xCC okX0_dares 28 1 (ps := []) (pc' := 80) (lv' := [(3, .int 0), (0, .ref 0), (1, .int (nI p)), (2, .int (nI e))]) (st' := [.int 0]) (z' := zS1) rfl trivial ?_
      refine ww_br xCC okX0_dares 29 (P := 0 = 0) (t1 := 98) (t2 := 83) (r := []) rfl (fun _ => ?_) (fun q => absurd (by decide) q)
      refine ww_blk xCC okX0_dares 38 1 (ps := []) (pc' := 99) (lv' := [(3, .int 0), (0, .ref 0), (1, .int (nI p)), (2, .int (nI e))]) (st' := [.int 0]) (z' := zS1) rfl trivial ?_
      subst xhQ
      exact ww_iret xCC okX0_dares 39 xhr rfl (by decide) (Or.inr ⟨rfl, ⟨(by unfold sDares; simp only [sSays0]; grind), hKS1⟩⟩)
    · have c4 : (nI (r 3 p)) = 3 := c4
      replace c4 : (r 3 p) = 3 := (sEQ (a := (r 3 p)) (b := 3) (by omega) (by omega)).mp c4
      show ww xp l xe (xRm (d + 3)) xs xm xar xbl xme xc 4 xD xcs xad shR xAA xQ 100 [(3, .int 0), (0, .ref 0), (1, .int (nI p)), (2, .int (nI e))] [] zS1
      refine ww_blk xCC okX0_dares 40 1 (ps := []) (pc' := 101) (lv' := [(3, .int 0), (0, .ref 0), (1, .int (nI p)), (2, .int (nI e))]) (st' := [.int 0]) (z' := zS1) rfl trivial ?_
      refine ww_br xCC okX0_dares 41 (P := 0 = 0) (t1 := 104) (t2 := 122) (r := []) rfl (fun _ => ?_) (fun q => absurd (by decide) q)
      refine ww_blk xCC okX0_dares 42 4 (ps := [¬ 2 = 0]) (pc' := 110) (lv' := [(3, .int 0), (0, .ref 0), (1, .int (nI p)), (2, .int (nI e))]) (st' := [.int ((zS1.1 0 5) - (zS1.1 0 5) / 2 * 2)]) (z' := zS1) rfl (show ¬ (2 : Int32) = 0 by decide) ?_
      rw [show zS1.1 0 5 = nI (r 7 2) from hrS1.2.2.2.2.2.2.2.2.2.2.1]
      rw [show nI (r 7 2) - nI (r 7 2) / 2 * 2 = nI (r 7 2 % 2) from pk_rem (by omega) (by decide) (by decide)]
      refine ww_br xCC okX0_dares 46 (P := (nI (r 7 2 % 2)) = 0) (t1 := 126) (t2 := 113) (r := []) rfl (fun c12 => ?_) (fun c12 => ?_)
      · skip
        replace c12 : (r 7 2 % 2) = 0 := (sEQ (a := (r 7 2 % 2)) (b := 0) (by omega) (by omega)).mp c12
        refine ww_blk xCC okX0_dares 54 1 (ps := []) (pc' := 127) (lv' := [(3, .int 0), (0, .ref 0), (1, .int (nI p)), (2, .int (nI e))]) (st' := [.int 0]) (z' := zS1) rfl trivial ?_
        subst xhQ
        exact ww_iret xCC okX0_dares 55 xhr rfl (by decide) (Or.inr ⟨rfl, ⟨(by unfold sDares; simp only [sSays0]; grind), hKS1⟩⟩)
      · skip
        replace c12 : ¬ (r 7 2 % 2) = 0 := fun q => c12 ((sEQ (a := (r 7 2 % 2)) (b := 0) (by omega) (by omega)).mpr q)
        refine ww_blk xCC okX0_dares 47 3 (ps := []) (pc' := 116) (lv' := [(3, .int 0), (0, .ref 0), (1, .int (nI p)), (2, .int (nI e))]) (st' := [.int (nI e), .int (nI p), .ref 0]) (z' := zS1) rfl trivial ?_
        refine ww_callVIz xCC okX0_dares 50 (ix := 79) (t_X0_breaksNumber l d p e zS1 r cnt hrS1 hw hp he) (by omega) (by decide) xyX0_breaksNumber xiX0_breaksNumber (Or.inl (lw_gt_of (List.mem_of_getElem? (i := 388) (by decide +kernel)) rfl)) rfl rfl rfl (rest := []) rfl (Nat.le_of_ble_eq_true rfl) rfl (fun z13 h14 => ?_) (fun z13 h14 => ?_)
        · skip
          rw [h14.2]
          have hbn := h14.1
          refine ww_br xCC okX0_dares 51 (P := 1 = 0) (t1 := 126) (t2 := 122) (r := []) rfl (fun q => absurd q (by decide)) (fun _ => ?_)
          refine ww_blk xCC okX0_dares 52 2 (ps := []) (pc' := 127) (lv' := [(3, .int 0), (0, .ref 0), (1, .int (nI p)), (2, .int (nI e))]) (st' := [.int 1]) (z' := zS1) rfl trivial ?_
          subst xhQ
          exact ww_iret xCC okX0_dares 55 xhr rfl (by decide) (Or.inl ⟨rfl, ⟨(by unfold sDares; simp only [sSays0]; grind), hKS1⟩⟩)
        · skip
          rw [h14.2]
          have hbn := h14.1
          refine ww_br xCC okX0_dares 51 (P := 0 = 0) (t1 := 126) (t2 := 122) (r := []) rfl (fun _ => ?_) (fun q => absurd (by decide) q)
          refine ww_blk xCC okX0_dares 54 1 (ps := []) (pc' := 127) (lv' := [(3, .int 0), (0, .ref 0), (1, .int (nI p)), (2, .int (nI e))]) (st' := [.int 0]) (z' := zS1) rfl trivial ?_
          subst xhQ
          exact ww_iret xCC okX0_dares 55 xhr rfl (by decide) (Or.inr ⟨rfl, ⟨(by unfold sDares; simp only [sSays0]; grind), hKS1⟩⟩)
    · have c4 : (nI (r 3 p)) = 4 := c4
      replace c4 : (r 3 p) = 4 := (sEQ (a := (r 3 p)) (b := 4) (by omega) (by omega)).mp c4
      show ww xp l xe (xRm (d + 3)) xs xm xar xbl xme xc 4 xD xcs xad shR xAA xQ 128 [(3, .int 0), (0, .ref 0), (1, .int (nI p)), (2, .int (nI e))] [] zS1
      refine ww_blk xCC okX0_dares 56 1 (ps := []) (pc' := 129) (lv' := [(3, .int 0), (0, .ref 0), (1, .int (nI p)), (2, .int (nI e))]) (st' := [.int 0]) (z' := zS1) rfl trivial ?_
      refine ww_br xCC okX0_dares 57 (P := 0 = 0) (t1 := 143) (t2 := 132) (r := []) rfl (fun _ => ?_) (fun q => absurd (by decide) q)
      refine ww_blk xCC okX0_dares 64 2 (ps := []) (pc' := 145) (lv' := [(3, .int 0), (0, .ref 0), (1, .int (nI p)), (2, .int (nI e))]) (st' := [.int (nI e), .ref 0]) (z' := zS1) rfl trivial ?_
      refine ww_callVIz xCC okX0_dares 66 (ix := 83) (t_X0_breaksOnlyLast l d e zS1 r cnt hrS1 hw he) (by omega) (by decide) xyX0_breaksOnlyLast xiX0_breaksOnlyLast (Or.inl (lw_gt_of (List.mem_of_getElem? (i := 392) (by decide +kernel)) rfl)) rfl rfl rfl (rest := []) rfl (Nat.le_of_ble_eq_true rfl) rfl (fun z18 h19 => ?_) (fun z18 h19 => ?_)
      · skip
        rw [h19.2]
        have hol := h19.1
        refine ww_br xCC okX0_dares 67 (P := 1 = 0) (t1 := 155) (t2 := 151) (r := []) rfl (fun q => absurd q (by decide)) (fun _ => ?_)
        refine ww_blk xCC okX0_dares 68 2 (ps := []) (pc' := 156) (lv' := [(3, .int 0), (0, .ref 0), (1, .int (nI p)), (2, .int (nI e))]) (st' := [.int 1]) (z' := zS1) rfl trivial ?_
        subst xhQ
        exact ww_iret xCC okX0_dares 71 xhr rfl (by decide) (Or.inl ⟨rfl, ⟨(by unfold sDares; simp only [sSays0]; grind), hKS1⟩⟩)
      · skip
        rw [h19.2]
        have hol := h19.1
        refine ww_br xCC okX0_dares 67 (P := 0 = 0) (t1 := 155) (t2 := 151) (r := []) rfl (fun _ => ?_) (fun q => absurd (by decide) q)
        refine ww_blk xCC okX0_dares 70 1 (ps := []) (pc' := 156) (lv' := [(3, .int 0), (0, .ref 0), (1, .int (nI p)), (2, .int (nI e))]) (st' := [.int 0]) (z' := zS1) rfl trivial ?_
        subst xhQ
        exact ww_iret xCC okX0_dares 71 xhr rfl (by decide) (Or.inr ⟨rfl, ⟨(by unfold sDares; simp only [sSays0]; grind), hKS1⟩⟩)
    · have c4 : (nI (r 3 p)) = 5 := c4
      replace c4 : (r 3 p) = 5 := (sEQ (a := (r 3 p)) (b := 5) (by omega) (by omega)).mp c4
      show ww xp l xe (xRm (d + 3)) xs xm xar xbl xme xc 4 xD xcs xad shR xAA xQ 157 [(3, .int 0), (0, .ref 0), (1, .int (nI p)), (2, .int (nI e))] [] zS1
      refine ww_blk xCC okX0_dares 72 1 (ps := []) (pc' := 158) (lv' := [(3, .int 0), (0, .ref 0), (1, .int (nI p)), (2, .int (nI e))]) (st' := [.int 0]) (z' := zS1) rfl trivial ?_
      refine ww_br xCC okX0_dares 73 (P := 0 = 0) (t1 := 161) (t2 := 175) (r := []) rfl (fun _ => ?_) (fun q => absurd (by decide) q)
      refine ww_blk xCC okX0_dares 74 7 (ps := [vp_in (nI e) 10]) (pc' := 172) (lv' := [(3, .int 0), (0, .ref 0), (1, .int (nI p)), (2, .int (nI e))]) (st' := [.int ((zS1.1 2 (nI e).toNatClampNeg) &&& (zS1.1 0 2))]) (z' := zS1) rfl (vp_in_nI (by omega) (by decide)) ?_
      rw [sCL (n := e) (by omega)]
      rw [show zS1.1 2 e = nI (r 1 e) from hrS1.2.1 e]
      rw [show zS1.1 0 2 = nI (sAl (r 0) 8) from hrS1.2.2.2.2.2.2.2.1]
      rw [fa_and (r 1 e) (sAl (r 0) 8)]
      refine ww_br xCC okX0_dares 81 (P := (nI ((r 1 e) &&& (sAl (r 0) 8))) = 0) (t1 := 175) (t2 := 179) (r := []) rfl (fun c23 => ?_) (fun c23 => ?_)
      · skip
        replace c23 : ((r 1 e) &&& (sAl (r 0) 8)) = 0 := (sEQ (a := ((r 1 e) &&& (sAl (r 0) 8))) (b := 0) (by omega) (by omega)).mp c23
        refine ww_blk xCC okX0_dares 82 2 (ps := []) (pc' := 180) (lv' := [(3, .int 0), (0, .ref 0), (1, .int (nI p)), (2, .int (nI e))]) (st' := [.int 1]) (z' := zS1) rfl trivial ?_
        subst xhQ
        exact ww_iret xCC okX0_dares 85 xhr rfl (by decide) (Or.inl ⟨rfl, ⟨(by unfold sDares; simp only [sSays0]; grind), hKS1⟩⟩)
      · skip
        replace c23 : ¬ ((r 1 e) &&& (sAl (r 0) 8)) = 0 := fun q => c23 ((sEQ (a := ((r 1 e) &&& (sAl (r 0) 8))) (b := 0) (by omega) (by omega)).mpr q)
        refine ww_blk xCC okX0_dares 84 1 (ps := []) (pc' := 180) (lv' := [(3, .int 0), (0, .ref 0), (1, .int (nI p)), (2, .int (nI e))]) (st' := [.int 0]) (z' := zS1) rfl trivial ?_
        subst xhQ
        exact ww_iret xCC okX0_dares 85 xhr rfl (by decide) (Or.inr ⟨rfl, ⟨(by unfold sDares; simp only [sSays0]; grind), hKS1⟩⟩)
  · skip
    replace c3 : ¬ (aN tc r 0 p e) = 0 := fun q => c3 ((sEQ (a := (aN tc r 0 p e)) (b := 0) (by omega) (by omega)).mpr q)
    refine ww_blk xCC okX0_dares 8 2 (ps := []) (pc' := 19) (lv' := [(0, .ref 0), (1, .int (nI p)), (2, .int (nI e))]) (st' := [.int 1]) (z' := zS1) rfl trivial ?_
    refine ww_blk xCC okX0_dares 11 5 (ps := [vp_in (nI p) 4]) (pc' := 26) (lv' := [(3, .int 1), (0, .ref 0), (1, .int (nI p)), (2, .int (nI e))]) (st' := [.int (zS1.1 4 (nI p).toNatClampNeg)]) (z' := zS1) rfl (vp_in_nI (by omega) (by decide)) ?_
    rw [sCL (n := p) (by omega)]
    rw [show zS1.1 4 p = nI (r 3 p) from hrS1.2.2.2.1 p]
    refine ww_sw xCC okX0_dares 16 (x := (nI (r 3 p))) (L := [(1, 60), (2, 79), (3, 100), (4, 128), (5, 157)]) (P := (nI (r 3 p)).toInt < 1 ∨ 5 < (nI (r 3 p)).toInt) (t0 := 181) (r := []) rfl (fun c24 => ?_) (And.intro (fun c24 => ?_) (And.intro (fun c24 => ?_) (And.intro (fun c24 => ?_) (And.intro (fun c24 => ?_) ((fun c24 => ?_))))))
    · skip
      rw [sTI (k := (r 3 p)) (by omega)] at c24
      refine ww_blk xCC okX0_dares 86 1 (ps := []) (pc' := 182) (lv' := [(3, .int 1), (0, .ref 0), (1, .int (nI p)), (2, .int (nI e))]) (st' := [.int 1]) (z' := zS1) rfl trivial ?_
      subst xhQ
      exact ww_iret xCC okX0_dares 87 xhr rfl (by decide) (Or.inl ⟨rfl, ⟨(by unfold sDares; simp only [sSays0]; grind), hKS1⟩⟩)
    · have c24 : (nI (r 3 p)) = 1 := c24
      replace c24 : (r 3 p) = 1 := (sEQ (a := (r 3 p)) (b := 1) (by omega) (by omega)).mp c24
      show ww xp l xe (xRm (d + 3)) xs xm xar xbl xme xc 4 xD xcs xad shR xAA xQ 60 [(3, .int 1), (0, .ref 0), (1, .int (nI p)), (2, .int (nI e))] [] zS1
      refine ww_blk xCC okX0_dares 17 1 (ps := []) (pc' := 61) (lv' := [(3, .int 1), (0, .ref 0), (1, .int (nI p)), (2, .int (nI e))]) (st' := [.int 1]) (z' := zS1) rfl trivial ?_
      refine ww_br xCC okX0_dares 18 (P := 1 = 0) (t1 := 64) (t2 := 73) (r := []) rfl (fun q => absurd q (by decide)) (fun _ => ?_)
      refine ww_blk xCC okX0_dares 24 2 (ps := []) (pc' := 78) (lv' := [(3, .int 1), (0, .ref 0), (1, .int (nI p)), (2, .int (nI e))]) (st' := [.int 1]) (z' := zS1) rfl trivial ?_
      subst xhQ
      exact ww_iret xCC okX0_dares 27 xhr rfl (by decide) (Or.inl ⟨rfl, ⟨(by unfold sDares; simp only [sSays0]; grind), hKS1⟩⟩)
    · have c24 : (nI (r 3 p)) = 2 := c24
      replace c24 : (r 3 p) = 2 := (sEQ (a := (r 3 p)) (b := 2) (by omega) (by omega)).mp c24
      show ww xp l xe (xRm (d + 3)) xs xm xar xbl xme xc 4 xD xcs xad shR xAA xQ 79 [(3, .int 1), (0, .ref 0), (1, .int (nI p)), (2, .int (nI e))] [] zS1
      refine ww_blk xCC okX0_dares 28 1 (ps := []) (pc' := 80) (lv' := [(3, .int 1), (0, .ref 0), (1, .int (nI p)), (2, .int (nI e))]) (st' := [.int 1]) (z' := zS1) rfl trivial ?_
      refine ww_br xCC okX0_dares 29 (P := 1 = 0) (t1 := 98) (t2 := 83) (r := []) rfl (fun q => absurd q (by decide)) (fun _ => ?_)
      refine ww_blk xCC okX0_dares 30 5 (ps := [vp_in (nI e) 10]) (pc' := 91) (lv' := [(3, .int 1), (0, .ref 0), (1, .int (nI p)), (2, .int (nI e))]) (st' := [.int 20, .int (zS1.1 3 (nI e).toNatClampNeg)]) (z' := zS1) rfl (vp_in_nI (by omega) (by decide)) ?_
      rw [sCL (n := e) (by omega)]
      rw [show zS1.1 3 e = nI (r 2 e) from hrS1.2.2.1 e]
      refine ww_br xCC okX0_dares 35 (P := 20 ≤ (nI (r 2 e))) (t1 := 98) (t2 := 94) (r := []) rfl (fun c27 => ?_) (fun c27 => ?_)
      · skip
        replace c27 : 20 ≤ (r 2 e) := (sLE (a := 20) (b := (r 2 e)) (by omega) (by omega)).mp c27
        refine ww_blk xCC okX0_dares 38 1 (ps := []) (pc' := 99) (lv' := [(3, .int 1), (0, .ref 0), (1, .int (nI p)), (2, .int (nI e))]) (st' := [.int 0]) (z' := zS1) rfl trivial ?_
        subst xhQ
        exact ww_iret xCC okX0_dares 39 xhr rfl (by decide) (Or.inr ⟨rfl, ⟨(by unfold sDares; simp only [sSays0]; grind), hKS1⟩⟩)
      · skip
        replace c27 : ¬ 20 ≤ (r 2 e) := fun q => c27 ((sLE (a := 20) (b := (r 2 e)) (by omega) (by omega)).mpr q)
        refine ww_blk xCC okX0_dares 36 2 (ps := []) (pc' := 99) (lv' := [(3, .int 1), (0, .ref 0), (1, .int (nI p)), (2, .int (nI e))]) (st' := [.int 1]) (z' := zS1) rfl trivial ?_
        subst xhQ
        exact ww_iret xCC okX0_dares 39 xhr rfl (by decide) (Or.inl ⟨rfl, ⟨(by unfold sDares; simp only [sSays0]; grind), hKS1⟩⟩)
    · have c24 : (nI (r 3 p)) = 3 := c24
      replace c24 : (r 3 p) = 3 := (sEQ (a := (r 3 p)) (b := 3) (by omega) (by omega)).mp c24
      show ww xp l xe (xRm (d + 3)) xs xm xar xbl xme xc 4 xD xcs xad shR xAA xQ 100 [(3, .int 1), (0, .ref 0), (1, .int (nI p)), (2, .int (nI e))] [] zS1
      refine ww_blk xCC okX0_dares 40 1 (ps := []) (pc' := 101) (lv' := [(3, .int 1), (0, .ref 0), (1, .int (nI p)), (2, .int (nI e))]) (st' := [.int 1]) (z' := zS1) rfl trivial ?_
      refine ww_br xCC okX0_dares 41 (P := 1 = 0) (t1 := 104) (t2 := 122) (r := []) rfl (fun q => absurd q (by decide)) (fun _ => ?_)
      refine ww_blk xCC okX0_dares 52 2 (ps := []) (pc' := 127) (lv' := [(3, .int 1), (0, .ref 0), (1, .int (nI p)), (2, .int (nI e))]) (st' := [.int 1]) (z' := zS1) rfl trivial ?_
      subst xhQ
      exact ww_iret xCC okX0_dares 55 xhr rfl (by decide) (Or.inl ⟨rfl, ⟨(by unfold sDares; simp only [sSays0]; grind), hKS1⟩⟩)
    · have c24 : (nI (r 3 p)) = 4 := c24
      replace c24 : (r 3 p) = 4 := (sEQ (a := (r 3 p)) (b := 4) (by omega) (by omega)).mp c24
      show ww xp l xe (xRm (d + 3)) xs xm xar xbl xme xc 4 xD xcs xad shR xAA xQ 128 [(3, .int 1), (0, .ref 0), (1, .int (nI p)), (2, .int (nI e))] [] zS1
      refine ww_blk xCC okX0_dares 56 1 (ps := []) (pc' := 129) (lv' := [(3, .int 1), (0, .ref 0), (1, .int (nI p)), (2, .int (nI e))]) (st' := [.int 1]) (z' := zS1) rfl trivial ?_
      refine ww_br xCC okX0_dares 57 (P := 1 = 0) (t1 := 143) (t2 := 132) (r := []) rfl (fun q => absurd q (by decide)) (fun _ => ?_)
      refine ww_blk xCC okX0_dares 58 5 (ps := [vp_in (nI e) 10]) (pc' := 140) (lv' := [(3, .int 1), (0, .ref 0), (1, .int (nI p)), (2, .int (nI e))]) (st' := [.int 20, .int (zS1.1 3 (nI e).toNatClampNeg)]) (z' := zS1) rfl (vp_in_nI (by omega) (by decide)) ?_
      rw [sCL (n := e) (by omega)]
      rw [show zS1.1 3 e = nI (r 2 e) from hrS1.2.2.1 e]
      refine ww_br xCC okX0_dares 63 (P := (nI (r 2 e)) < 20) (t1 := 151) (t2 := 143) (r := []) rfl (fun c30 => ?_) (fun c30 => ?_)
      · skip
        replace c30 : (r 2 e) < 20 := (sLT (a := (r 2 e)) (b := 20) (by omega) (by omega)).mp c30
        refine ww_blk xCC okX0_dares 68 2 (ps := []) (pc' := 156) (lv' := [(3, .int 1), (0, .ref 0), (1, .int (nI p)), (2, .int (nI e))]) (st' := [.int 1]) (z' := zS1) rfl trivial ?_
        subst xhQ
        exact ww_iret xCC okX0_dares 71 xhr rfl (by decide) (Or.inl ⟨rfl, ⟨(by unfold sDares; simp only [sSays0]; grind), hKS1⟩⟩)
      · skip
        replace c30 : ¬ (r 2 e) < 20 := fun q => c30 ((sLT (a := (r 2 e)) (b := 20) (by omega) (by omega)).mpr q)
        refine ww_blk xCC okX0_dares 64 2 (ps := []) (pc' := 145) (lv' := [(3, .int 1), (0, .ref 0), (1, .int (nI p)), (2, .int (nI e))]) (st' := [.int (nI e), .ref 0]) (z' := zS1) rfl trivial ?_
        refine ww_callVIz xCC okX0_dares 66 (ix := 83) (t_X0_breaksOnlyLast l d e zS1 r cnt hrS1 hw he) (by omega) (by decide) xyX0_breaksOnlyLast xiX0_breaksOnlyLast (Or.inl (lw_gt_of (List.mem_of_getElem? (i := 392) (by decide +kernel)) rfl)) rfl rfl rfl (rest := []) rfl (Nat.le_of_ble_eq_true rfl) rfl (fun z31 h32 => ?_) (fun z31 h32 => ?_)
        · skip
          rw [h32.2]
          have hol := h32.1
          refine ww_br xCC okX0_dares 67 (P := 1 = 0) (t1 := 155) (t2 := 151) (r := []) rfl (fun q => absurd q (by decide)) (fun _ => ?_)
          refine ww_blk xCC okX0_dares 68 2 (ps := []) (pc' := 156) (lv' := [(3, .int 1), (0, .ref 0), (1, .int (nI p)), (2, .int (nI e))]) (st' := [.int 1]) (z' := zS1) rfl trivial ?_
          subst xhQ
          exact ww_iret xCC okX0_dares 71 xhr rfl (by decide) (Or.inl ⟨rfl, ⟨(by unfold sDares; simp only [sSays0]; grind), hKS1⟩⟩)
        · skip
          rw [h32.2]
          have hol := h32.1
          refine ww_br xCC okX0_dares 67 (P := 0 = 0) (t1 := 155) (t2 := 151) (r := []) rfl (fun _ => ?_) (fun q => absurd (by decide) q)
          refine ww_blk xCC okX0_dares 70 1 (ps := []) (pc' := 156) (lv' := [(3, .int 1), (0, .ref 0), (1, .int (nI p)), (2, .int (nI e))]) (st' := [.int 0]) (z' := zS1) rfl trivial ?_
          subst xhQ
          exact ww_iret xCC okX0_dares 71 xhr rfl (by decide) (Or.inr ⟨rfl, ⟨(by unfold sDares; simp only [sSays0]; grind), hKS1⟩⟩)
    · have c24 : (nI (r 3 p)) = 5 := c24
      replace c24 : (r 3 p) = 5 := (sEQ (a := (r 3 p)) (b := 5) (by omega) (by omega)).mp c24
      show ww xp l xe (xRm (d + 3)) xs xm xar xbl xme xc 4 xD xcs xad shR xAA xQ 157 [(3, .int 1), (0, .ref 0), (1, .int (nI p)), (2, .int (nI e))] [] zS1
      refine ww_blk xCC okX0_dares 72 1 (ps := []) (pc' := 158) (lv' := [(3, .int 1), (0, .ref 0), (1, .int (nI p)), (2, .int (nI e))]) (st' := [.int 1]) (z' := zS1) rfl trivial ?_
      refine ww_br xCC okX0_dares 73 (P := 1 = 0) (t1 := 161) (t2 := 175) (r := []) rfl (fun q => absurd q (by decide)) (fun _ => ?_)
      refine ww_blk xCC okX0_dares 82 2 (ps := []) (pc' := 180) (lv' := [(3, .int 1), (0, .ref 0), (1, .int (nI p)), (2, .int (nI e))]) (st' := [.int 1]) (z' := zS1) rfl trivial ?_
      subst xhQ
      exact ww_iret xCC okX0_dares 85 xhr rfl (by decide) (Or.inl ⟨rfl, ⟨(by unfold sDares; simp only [sSays0]; grind), hKS1⟩⟩)

set_option maxHeartbeats 4000000 in
set_option maxRecDepth 20000 in
theorem t_X0_costs (l : Launch) (d : Nat) (p e : Nat) (z : xMem) (r : sR) (cnt : Nat) (tc : Nat → sTc) (hr : RX z 0 r) (hw : sW r cnt) (ht : TX z 8 cnt tc) (hp : p < 4) (he : e < 10) : XMi l (d + 3) yX0_costs cX0_costs 5 (some .int) shR [.ref 0, .int (nI p), .int (nI e)] z (fun v z' => v = sCosts tc r p e ∧ KN z z') := by
  refine XM.of (by decide) (Nat.le_of_ble_eq_true rfl) (fun xp xe xs xm xar xbl xme xc xD xcs xad xAA xCC xhr => ?_)
  generalize xhQ : MQ xbl _ xar xs 0 0 xAA = xQ
  show ww xp l xe (xRm (d + 3)) xs xm xar xbl xme xc 5 xD xcs xad shR xAA xQ 0 [(0, .ref 0), (1, .int (nI p)), (2, .int (nI e))] [] z
  have hb := hw.1
  have hbe := hb e
  have hbp := hb p
  have ha : aN tc r 1 p e ≤ 999 := aN_le tc r 1 p e
  have hP := sPop_le (r 1 e) (by omega)
  refine ww_blk xCC okX0_costs 0 6 (ps := []) (pc' := 8) (lv' := [(0, .ref 0), (1, .int (nI p)), (2, .int (nI e))]) (st' := [.int (nI e), .int (nI p), .ref 0, .int 1, .ref 8]) (z' := z) rfl trivial ?_
  refine ww_callVIi xCC okX0_costs 6 (ix := 73) (t_X4_value l d 1 p e z r cnt tc hr hw ht (by decide) (by omega) (by omega)) (by omega) (by decide) xyX4_value xiX4_value (Or.inr (List.mem_of_getElem? (i := 364) (by decide +kernel))) rfl rfl rfl (rest := []) rfl (Nat.le_of_ble_eq_true rfl) rfl (fun v2 zS1 hS1 => ?_)
  have hrS1 := RX_N hS1.2 hr
  have htS1 := TX_N hS1.2 ht
  have hKS1 := KN_tr (KN_rf z) hS1.2
  rw [hS1.1, aN_eq]
  refine ww_blk xCC okX0_costs 7 14 (ps := [vp_in (nI p) 4, vp_in (nI p) 4]) (pc' := 32) (lv' := [(4, .int (if 0 < ((nI (aN tc r 1 p e)) - (zS1.1 5 (nI p).toNatClampNeg)) then ((nI (aN tc r 1 p e)) - (zS1.1 5 (nI p).toNatClampNeg)) else 0)), (3, .int (nI (aN tc r 1 p e))), (0, .ref 0), (1, .int (nI p)), (2, .int (nI e))]) (st' := [.int (zS1.1 4 (nI p).toNatClampNeg)]) (z' := zS1) rfl ⟨(vp_in_nI (by omega) (by decide)), (vp_in_nI (by omega) (by decide))⟩ ?_
  rw [sCL (n := p) (by omega)]
  rw [show zS1.1 5 p = nI (r 4 p) from hrS1.2.2.2.2.1 p]
  rw [sMx (a := aN tc r 1 p e) (b := r 4 p) (by omega) (by omega)]
  rw [show zS1.1 4 p = nI (r 3 p) from hrS1.2.2.2.1 p]
  refine ww_sw xCC okX0_costs 21 (x := (nI (r 3 p))) (L := [(1, 68), (2, 72), (3, 75), (4, 81), (5, 100)]) (P := (nI (r 3 p)).toInt < 1 ∨ 5 < (nI (r 3 p)).toInt) (t0 := 110) (r := []) rfl (fun c3 => ?_) (And.intro (fun c3 => ?_) (And.intro (fun c3 => ?_) (And.intro (fun c3 => ?_) (And.intro (fun c3 => ?_) ((fun c3 => ?_))))))
  · skip
    rw [sTI (k := (r 3 p)) (by omega)] at c3
    refine ww_blk xCC okX0_costs 50 1 (ps := []) (pc' := 111) (lv' := [(4, .int (nI (aN tc r 1 p e - r 4 p))), (3, .int (nI (aN tc r 1 p e))), (0, .ref 0), (1, .int (nI p)), (2, .int (nI e))]) (st' := [.int (nI (aN tc r 1 p e))]) (z' := zS1) rfl trivial ?_
    subst xhQ
    exact ww_iret xCC okX0_costs 51 xhr rfl rfl ⟨_, rfl, ⟨(by rw [sCosts_c (hbp.2.2.2.2.1)]; exact congrArg nI (by unfold cCo; (repeat' split) <;> first | rfl | (exfalso; omega))), hKS1⟩⟩
  · have c3 : (nI (r 3 p)) = 1 := c3
    replace c3 : (r 3 p) = 1 := (sEQ (a := (r 3 p)) (b := 1) (by omega) (by omega)).mp c3
    show ww xp l xe (xRm (d + 3)) xs xm xar xbl xme xc 5 xD xcs xad shR xAA xQ 68 [(4, .int (nI (aN tc r 1 p e - r 4 p))), (3, .int (nI (aN tc r 1 p e))), (0, .ref 0), (1, .int (nI p)), (2, .int (nI e))] [] zS1
    refine ww_blk xCC okX0_costs 22 3 (ps := [¬ 2 = 0]) (pc' := 71) (lv' := [(4, .int (nI (aN tc r 1 p e - r 4 p))), (3, .int (nI (aN tc r 1 p e))), (0, .ref 0), (1, .int (nI p)), (2, .int (nI e))]) (st' := [.int ((nI (aN tc r 1 p e)) / 2)]) (z' := zS1) rfl (show ¬ (2 : Int32) = 0 by decide) ?_
    rw [show nI (aN tc r 1 p e) / (2 : Int32) = nI ((aN tc r 1 p e) / 2) from pk_div (a := (aN tc r 1 p e)) (d := 2) (by omega) (by decide) (by decide)]
    subst xhQ
    exact ww_iret xCC okX0_costs 25 xhr rfl rfl ⟨_, rfl, ⟨(by rw [sCosts_c (hbp.2.2.2.2.1)]; exact congrArg nI (by unfold cCo; (repeat' split) <;> first | rfl | (exfalso; omega))), hKS1⟩⟩
  · have c3 : (nI (r 3 p)) = 2 := c3
    replace c3 : (r 3 p) = 2 := (sEQ (a := (r 3 p)) (b := 2) (by omega) (by omega)).mp c3
    show ww xp l xe (xRm (d + 3)) xs xm xar xbl xme xc 5 xD xcs xad shR xAA xQ 72 [(4, .int (nI (aN tc r 1 p e - r 4 p))), (3, .int (nI (aN tc r 1 p e))), (0, .ref 0), (1, .int (nI p)), (2, .int (nI e))] [] zS1
    refine ww_blk xCC okX0_costs 26 1 (ps := []) (pc' := 74) (lv' := [(4, .int (nI (aN tc r 1 p e - r 4 p))), (3, .int (nI (aN tc r 1 p e))), (0, .ref 0), (1, .int (nI p)), (2, .int (nI e))]) (st' := [.int (nI (aN tc r 1 p e - r 4 p))]) (z' := zS1) rfl trivial ?_
    subst xhQ
    exact ww_iret xCC okX0_costs 27 xhr rfl rfl ⟨_, rfl, ⟨(by rw [sCosts_c (hbp.2.2.2.2.1)]; exact congrArg nI (by unfold cCo; (repeat' split) <;> first | rfl | (exfalso; omega))), hKS1⟩⟩
  · have c3 : (nI (r 3 p)) = 3 := c3
    replace c3 : (r 3 p) = 3 := (sEQ (a := (r 3 p)) (b := 3) (by omega) (by omega)).mp c3
    show ww xp l xe (xRm (d + 3)) xs xm xar xbl xme xc 5 xD xcs xad shR xAA xQ 75 [(4, .int (nI (aN tc r 1 p e - r 4 p))), (3, .int (nI (aN tc r 1 p e))), (0, .ref 0), (1, .int (nI p)), (2, .int (nI e))] [] zS1
    refine ww_blk xCC okX0_costs 28 5 (ps := [¬ 2 = 0]) (pc' := 80) (lv' := [(4, .int (nI (aN tc r 1 p e - r 4 p))), (3, .int (nI (aN tc r 1 p e))), (0, .ref 0), (1, .int (nI p)), (2, .int (nI e))]) (st' := [.int (((nI (aN tc r 1 p e)) / 2) + 5)]) (z' := zS1) rfl (show ¬ (2 : Int32) = 0 by decide) ?_
    rw [show nI (aN tc r 1 p e) / (2 : Int32) = nI ((aN tc r 1 p e) / 2) from pk_div (a := (aN tc r 1 p e)) (d := 2) (by omega) (by decide) (by decide)]
    rw [show nI ((aN tc r 1 p e) / 2) + (5 : Int32) = nI (((aN tc r 1 p e) / 2) + 5) from nI_add ((aN tc r 1 p e) / 2) 5]
    subst xhQ
    exact ww_iret xCC okX0_costs 33 xhr rfl rfl ⟨_, rfl, ⟨(by rw [sCosts_c (hbp.2.2.2.2.1)]; exact congrArg nI (by unfold cCo; (repeat' split) <;> first | rfl | (exfalso; omega))), hKS1⟩⟩
  · have c3 : (nI (r 3 p)) = 4 := c3
    replace c3 : (r 3 p) = 4 := (sEQ (a := (r 3 p)) (b := 4) (by omega) (by omega)).mp c3
    show ww xp l xe (xRm (d + 3)) xs xm xar xbl xme xc 5 xD xcs xad shR xAA xQ 81 [(4, .int (nI (aN tc r 1 p e - r 4 p))), (3, .int (nI (aN tc r 1 p e))), (0, .ref 0), (1, .int (nI p)), (2, .int (nI e))] [] zS1
    refine ww_blk xCC okX0_costs 34 6 (ps := [vp_in (nI e) 10]) (pc' := 92) (lv' := [(4, .int (nI (aN tc r 1 p e - r 4 p))), (3, .int (nI (aN tc r 1 p e))), (0, .ref 0), (1, .int (nI p)), (2, .int (nI e))]) (st' := [.int (zS1.1 2 (nI e).toNatClampNeg), .int (nI (aN tc r 1 p e - r 4 p)), .int 999]) (z' := zS1) rfl (vp_in_nI (by omega) (by decide)) ?_
    rw [sCL (n := e) (by omega)]
    rw [show zS1.1 2 e = nI (r 1 e) from hrS1.2.1 e]
    refine ww_callSNi xCC okX0_costs 40 (ix := 93) (t_J6_bitCount_0f7a4 l d (r 1 e) (Nat.lt_trans (hb e).2.1 (by decide)) _) (by omega) (by decide) xyJ6_bitCount_0f7a4 xiJ6_bitCount_0f7a4 (Or.inl (lw_gt_of (List.mem_of_getElem? (i := 426) (by decide +kernel)) rfl)) rfl (rest := [.int (nI (aN tc r 1 p e - r 4 p)), .int 999]) rfl (Nat.le_of_ble_eq_true rfl) rfl (fun v6 z4 h5 => ?_)
    rw [h5]
    refine ww_blk xCC okX0_costs 41 2 (ps := []) (pc' := 99) (lv' := [(4, .int (nI (aN tc r 1 p e - r 4 p))), (3, .int (nI (aN tc r 1 p e))), (0, .ref 0), (1, .int (nI p)), (2, .int (nI e))]) (st' := [.int (if ((nI (aN tc r 1 p e - r 4 p)) + (nI (sPop (r 1 e)))) < 999 then ((nI (aN tc r 1 p e - r 4 p)) + (nI (sPop (r 1 e)))) else 999)]) (z' := zS1) rfl trivial ?_
    rw [nI_add (aN tc r 1 p e - r 4 p) (sPop (r 1 e))]
    rw [show (if nI ((aN tc r 1 p e - r 4 p) + (sPop (r 1 e))) < 999 then nI ((aN tc r 1 p e - r 4 p) + (sPop (r 1 e))) else (999 : Int32)) = nI (min 999 ((aN tc r 1 p e - r 4 p) + (sPop (r 1 e)))) from sMinN (x := ((aN tc r 1 p e - r 4 p) + (sPop (r 1 e)))) (b := 999) (by omega) (by decide)]
    subst xhQ
    exact ww_iret xCC okX0_costs 43 xhr rfl rfl ⟨_, rfl, ⟨(by rw [sCosts_c (hbp.2.2.2.2.1)]; exact congrArg nI (by unfold cCo; (repeat' split) <;> first | rfl | (exfalso; omega))), hKS1⟩⟩
  · have c3 : (nI (r 3 p)) = 5 := c3
    replace c3 : (r 3 p) = 5 := (sEQ (a := (r 3 p)) (b := 5) (by omega) (by omega)).mp c3
    show ww xp l xe (xRm (d + 3)) xs xm xar xbl xme xc 5 xD xcs xad shR xAA xQ 100 [(4, .int (nI (aN tc r 1 p e - r 4 p))), (3, .int (nI (aN tc r 1 p e))), (0, .ref 0), (1, .int (nI p)), (2, .int (nI e))] [] zS1
    refine ww_blk xCC okX0_costs 44 5 (ps := []) (pc' := 109) (lv' := [(4, .int (nI (aN tc r 1 p e - r 4 p))), (3, .int (nI (aN tc r 1 p e))), (0, .ref 0), (1, .int (nI p)), (2, .int (nI e))]) (st' := [.int (if (2 * (nI (aN tc r 1 p e))) < 999 then (2 * (nI (aN tc r 1 p e))) else 999)]) (z' := zS1) rfl trivial ?_
    rw [show (2 : Int32) * nI (aN tc r 1 p e) = nI (2 * (aN tc r 1 p e)) from pk_mul 2 (aN tc r 1 p e)]
    rw [show (if nI (2 * (aN tc r 1 p e)) < 999 then nI (2 * (aN tc r 1 p e)) else (999 : Int32)) = nI (min 999 (2 * (aN tc r 1 p e))) from sMinN (x := (2 * (aN tc r 1 p e))) (b := 999) (by omega) (by decide)]
    subst xhQ
    exact ww_iret xCC okX0_costs 49 xhr rfl rfl ⟨_, rfl, ⟨(by rw [sCosts_c (hbp.2.2.2.2.1)]; exact congrArg nI (by unfold cCo; (repeat' split) <;> first | rfl | (exfalso; omega))), hKS1⟩⟩

set_option maxHeartbeats 4000000 in
set_option maxRecDepth 20000 in
theorem t_X0_yearsFor (l : Launch) (d : Nat) (p e : Nat) (z : xMem) (r : sR) (cnt : Nat) (tc : Nat → sTc) (hr : RX z 0 r) (hw : sW r cnt) (ht : TX z 8 cnt tc) (hp : p < 4) (he : e < 10) : XMi l (d + 3) yX0_yearsFor cX0_yearsFor 4 (some .int) shR [.ref 0, .int (nI p), .int (nI e)] z (fun v z' => v = sSits tc r p e ∧ KN z z') := by
  refine XM.of (by decide) (Nat.le_of_ble_eq_true rfl) (fun xp xe xs xm xar xbl xme xc xD xcs xad xAA xCC xhr => ?_)
  generalize xhQ : MQ xbl _ xar xs 0 0 xAA = xQ
  show ww xp l xe (xRm (d + 3)) xs xm xar xbl xme xc 4 xD xcs xad shR xAA xQ 0 [(0, .ref 0), (1, .int (nI p)), (2, .int (nI e))] [] z
  have hb := hw.1
  have hbe := hb e
  have hbp := hb p
  have ha : aN tc r 2 p e ≤ 99 := aN_le tc r 2 p e
  refine ww_blk xCC okX0_yearsFor 0 6 (ps := []) (pc' := 8) (lv' := [(0, .ref 0), (1, .int (nI p)), (2, .int (nI e))]) (st' := [.int (nI e), .int (nI p), .ref 0, .int 2, .ref 8]) (z' := z) rfl trivial ?_
  refine ww_callVIi xCC okX0_yearsFor 6 (ix := 73) (t_X4_value l d 2 p e z r cnt tc hr hw ht (by decide) (by omega) (by omega)) (by omega) (by decide) xyX4_value xiX4_value (Or.inr (List.mem_of_getElem? (i := 364) (by decide +kernel))) rfl rfl rfl (rest := []) rfl (Nat.le_of_ble_eq_true rfl) rfl (fun v2 zS1 hS1 => ?_)
  have hrS1 := RX_N hS1.2 hr
  have htS1 := TX_N hS1.2 ht
  have hKS1 := KN_tr (KN_rf z) hS1.2
  rw [hS1.1, aN_eq]
  refine ww_blk xCC okX0_yearsFor 7 5 (ps := [vp_in (nI p) 4]) (pc' := 18) (lv' := [(3, .int (nI (aN tc r 2 p e))), (0, .ref 0), (1, .int (nI p)), (2, .int (nI e))]) (st' := [.int (zS1.1 4 (nI p).toNatClampNeg)]) (z' := zS1) rfl (vp_in_nI (by omega) (by decide)) ?_
  rw [sCL (n := p) (by omega)]
  rw [show zS1.1 4 p = nI (r 3 p) from hrS1.2.2.2.1 p]
  refine ww_sw xCC okX0_yearsFor 12 (x := (nI (r 3 p))) (L := [(1, 52), (2, 54), (3, 60), (4, 76), (5, 84)]) (P := (nI (r 3 p)).toInt < 1 ∨ 5 < (nI (r 3 p)).toInt) (t0 := 98) (r := []) rfl (fun c3 => ?_) (And.intro (fun c3 => ?_) (And.intro (fun c3 => ?_) (And.intro (fun c3 => ?_) (And.intro (fun c3 => ?_) ((fun c3 => ?_))))))
  · skip
    rw [sTI (k := (r 3 p)) (by omega)] at c3
    refine ww_blk xCC okX0_yearsFor 44 1 (ps := []) (pc' := 99) (lv' := [(3, .int (nI (aN tc r 2 p e))), (0, .ref 0), (1, .int (nI p)), (2, .int (nI e))]) (st' := [.int (nI (aN tc r 2 p e))]) (z' := zS1) rfl trivial ?_
    subst xhQ
    exact ww_iret xCC okX0_yearsFor 45 xhr rfl rfl ⟨_, rfl, ⟨(by rw [sSits_c (hbp.2.2.2.2.2.2)]; exact congrArg nI (by unfold cSi; (repeat' split) <;> first | rfl | (exfalso; omega))), hKS1⟩⟩
  · have c3 : (nI (r 3 p)) = 1 := c3
    replace c3 : (r 3 p) = 1 := (sEQ (a := (r 3 p)) (b := 1) (by omega) (by omega)).mp c3
    show ww xp l xe (xRm (d + 3)) xs xm xar xbl xme xc 4 xD xcs xad shR xAA xQ 52 [(3, .int (nI (aN tc r 2 p e))), (0, .ref 0), (1, .int (nI p)), (2, .int (nI e))] [] zS1
    refine ww_blk xCC okX0_yearsFor 13 1 (ps := []) (pc' := 53) (lv' := [(3, .int (nI (aN tc r 2 p e))), (0, .ref 0), (1, .int (nI p)), (2, .int (nI e))]) (st' := [.int 0]) (z' := zS1) rfl trivial ?_
    subst xhQ
    exact ww_iret xCC okX0_yearsFor 14 xhr rfl rfl ⟨_, rfl, ⟨(by rw [sSits_c (hbp.2.2.2.2.2.2)]; exact (congrArg nI (a₁ := 0) (by unfold cSi; (repeat' split) <;> first | rfl | (exfalso; omega)))), hKS1⟩⟩
  · have c3 : (nI (r 3 p)) = 2 := c3
    replace c3 : (r 3 p) = 2 := (sEQ (a := (r 3 p)) (b := 2) (by omega) (by omega)).mp c3
    show ww xp l xe (xRm (d + 3)) xs xm xar xbl xme xc 4 xD xcs xad shR xAA xQ 54 [(3, .int (nI (aN tc r 2 p e))), (0, .ref 0), (1, .int (nI p)), (2, .int (nI e))] [] zS1
    refine ww_blk xCC okX0_yearsFor 15 3 (ps := []) (pc' := 59) (lv' := [(3, .int (nI (aN tc r 2 p e))), (0, .ref 0), (1, .int (nI p)), (2, .int (nI e))]) (st' := [.int (if (nI (aN tc r 2 p e)) < 3 then (nI (aN tc r 2 p e)) else 3)]) (z' := zS1) rfl trivial ?_
    rw [show (if nI (aN tc r 2 p e) < 3 then nI (aN tc r 2 p e) else (3 : Int32)) = nI (min 3 (aN tc r 2 p e)) from sMinN (x := (aN tc r 2 p e)) (b := 3) (by omega) (by decide)]
    subst xhQ
    exact ww_iret xCC okX0_yearsFor 18 xhr rfl rfl ⟨_, rfl, ⟨(by rw [sSits_c (hbp.2.2.2.2.2.2)]; exact congrArg nI (by unfold cSi; (repeat' split) <;> first | rfl | (exfalso; omega))), hKS1⟩⟩
  · have c3 : (nI (r 3 p)) = 3 := c3
    replace c3 : (r 3 p) = 3 := (sEQ (a := (r 3 p)) (b := 3) (by omega) (by omega)).mp c3
    show ww xp l xe (xRm (d + 3)) xs xm xar xbl xme xc 4 xD xcs xad shR xAA xQ 60 [(3, .int (nI (aN tc r 2 p e))), (0, .ref 0), (1, .int (nI p)), (2, .int (nI e))] [] zS1
    refine ww_blk xCC okX0_yearsFor 19 5 (ps := [vp_in (nI p) 4]) (pc' := 67) (lv' := [(3, .int (nI (aN tc r 2 p e))), (0, .ref 0), (1, .int (nI p)), (2, .int (nI e))]) (st' := [.int 5, .int (zS1.1 5 (nI p).toNatClampNeg)]) (z' := zS1) rfl (vp_in_nI (by omega) (by decide)) ?_
    rw [sCL (n := p) (by omega)]
    rw [show zS1.1 5 p = nI (r 4 p) from hrS1.2.2.2.2.1 p]
    refine ww_br xCC okX0_yearsFor 24 (P := 5 ≤ (nI (r 4 p))) (t1 := 74) (t2 := 70) (r := []) rfl (fun c4 => ?_) (fun c4 => ?_)
    · skip
      replace c4 : 5 ≤ (r 4 p) := (sLE (a := 5) (b := (r 4 p)) (by omega) (by omega)).mp c4
      refine ww_blk xCC okX0_yearsFor 27 1 (ps := []) (pc' := 75) (lv' := [(3, .int (nI (aN tc r 2 p e))), (0, .ref 0), (1, .int (nI p)), (2, .int (nI e))]) (st' := [.int 0]) (z' := zS1) rfl trivial ?_
      subst xhQ
      exact ww_iret xCC okX0_yearsFor 28 xhr rfl rfl ⟨_, rfl, ⟨(by rw [sSits_c (hbp.2.2.2.2.2.2)]; exact (congrArg nI (a₁ := 0) (by unfold cSi; (repeat' split) <;> first | rfl | (exfalso; omega)))), hKS1⟩⟩
    · skip
      replace c4 : ¬ 5 ≤ (r 4 p) := fun q => c4 ((sLE (a := 5) (b := (r 4 p)) (by omega) (by omega)).mpr q)
      refine ww_blk xCC okX0_yearsFor 25 2 (ps := []) (pc' := 75) (lv' := [(3, .int (nI (aN tc r 2 p e))), (0, .ref 0), (1, .int (nI p)), (2, .int (nI e))]) (st' := [.int 1]) (z' := zS1) rfl trivial ?_
      subst xhQ
      exact ww_iret xCC okX0_yearsFor 28 xhr rfl rfl ⟨_, rfl, ⟨(by rw [sSits_c (hbp.2.2.2.2.2.2)]; exact (congrArg nI (a₁ := 1) (by unfold cSi; (repeat' split) <;> first | rfl | (exfalso; omega)))), hKS1⟩⟩
  · have c3 : (nI (r 3 p)) = 4 := c3
    replace c3 : (r 3 p) = 4 := (sEQ (a := (r 3 p)) (b := 4) (by omega) (by omega)).mp c3
    show ww xp l xe (xRm (d + 3)) xs xm xar xbl xme xc 4 xD xcs xad shR xAA xQ 76 [(3, .int (nI (aN tc r 2 p e))), (0, .ref 0), (1, .int (nI p)), (2, .int (nI e))] [] zS1
    refine ww_blk xCC okX0_yearsFor 29 5 (ps := []) (pc' := 83) (lv' := [(3, .int (nI (aN tc r 2 p e))), (0, .ref 0), (1, .int (nI p)), (2, .int (nI e))]) (st' := [.int (2 * (if (nI (aN tc r 2 p e)) < 3 then (nI (aN tc r 2 p e)) else 3))]) (z' := zS1) rfl trivial ?_
    rw [show (if nI (aN tc r 2 p e) < 3 then nI (aN tc r 2 p e) else (3 : Int32)) = nI (min 3 (aN tc r 2 p e)) from sMinN (x := (aN tc r 2 p e)) (b := 3) (by omega) (by decide)]
    rw [show (2 : Int32) * nI (min 3 (aN tc r 2 p e)) = nI (2 * (min 3 (aN tc r 2 p e))) from pk_mul 2 (min 3 (aN tc r 2 p e))]
    subst xhQ
    exact ww_iret xCC okX0_yearsFor 34 xhr rfl rfl ⟨_, rfl, ⟨(by rw [sSits_c (hbp.2.2.2.2.2.2)]; exact congrArg nI (by unfold cSi; (repeat' split) <;> first | rfl | (exfalso; omega))), hKS1⟩⟩
  · have c3 : (nI (r 3 p)) = 5 := c3
    replace c3 : (r 3 p) = 5 := (sEQ (a := (r 3 p)) (b := 5) (by omega) (by omega)).mp c3
    show ww xp l xe (xRm (d + 3)) xs xm xar xbl xme xc 4 xD xcs xad shR xAA xQ 84 [(3, .int (nI (aN tc r 2 p e))), (0, .ref 0), (1, .int (nI p)), (2, .int (nI e))] [] zS1
    refine ww_blk xCC okX0_yearsFor 35 8 (ps := [vp_in (nI p) 4]) (pc' := 97) (lv' := [(3, .int (nI (aN tc r 2 p e))), (0, .ref 0), (1, .int (nI p)), (2, .int (nI e))]) (st' := [.int (if (1 + (zS1.1 7 (nI p).toNatClampNeg)) < 99 then (1 + (zS1.1 7 (nI p).toNatClampNeg)) else 99)]) (z' := zS1) rfl (vp_in_nI (by omega) (by decide)) ?_
    rw [sCL (n := p) (by omega)]
    rw [show zS1.1 7 p = nI (r 6 p) from hrS1.2.2.2.2.2.2.1 p]
    rw [show (1 : Int32) + nI (r 6 p) = nI (1 + (r 6 p)) from nI_add 1 (r 6 p)]
    rw [show (if nI (1 + (r 6 p)) < 99 then nI (1 + (r 6 p)) else (99 : Int32)) = nI (min 99 (1 + (r 6 p))) from sMinN (x := (1 + (r 6 p))) (b := 99) (by omega) (by decide)]
    subst xhQ
    exact ww_iret xCC okX0_yearsFor 43 xhr rfl rfl ⟨_, rfl, ⟨(by rw [sSits_c (hbp.2.2.2.2.2.2)]; exact congrArg nI (by unfold cSi; (repeat' split) <;> first | rfl | (exfalso; omega))), hKS1⟩⟩

set_option maxHeartbeats 4000000 in
set_option maxRecDepth 20000 in
theorem t_X0_costsOrNone (l : Launch) (d : Nat) (p e : Nat) (z : xMem) (r : sR) (cnt : Nat) (tc : Nat → sTc) (hr : RX z 0 r) (hw : sW r cnt) (ht : TX z 8 cnt tc) (hp : p < 4) (he : e < 10) : XMi l (d + 4) yX0_costsOrNone cX0_costsOrNone 3 (some .int) shR [.ref 0, .int (nI p), .int (nI e)] z (fun v z' => v = sCn tc r p e ∧ KN z z') := by
  refine XM.of (by decide) (Nat.le_of_ble_eq_true rfl) (fun xp xe xs xm xar xbl xme xc xD xcs xad xAA xCC xhr => ?_)
  generalize xhQ : MQ xbl _ xar xs 0 0 xAA = xQ
  show ww xp l xe (xRm (d + 4)) xs xm xar xbl xme xc 3 xD xcs xad shR xAA xQ 0 [(0, .ref 0), (1, .int (nI p)), (2, .int (nI e))] [] z
  refine ww_blk xCC okX0_costsOrNone 0 3 (ps := []) (pc' := 3) (lv' := [(0, .ref 0), (1, .int (nI p)), (2, .int (nI e))]) (st' := [.int (nI e), .int (nI p), .ref 0]) (z' := z) rfl trivial ?_
  refine ww_callVIz xCC okX0_costsOrNone 3 (ix := 101) (t_X0_dares l d p e z r cnt tc hr hw ht (by omega) (by omega)) (by omega) (by decide) xyX0_dares xiX0_dares (Or.inl (lw_gt_of (List.mem_of_getElem? (i := 360) (by decide +kernel)) rfl)) rfl rfl rfl (rest := []) rfl (Nat.le_of_ble_eq_true rfl) rfl (fun zS1 hS1 => ?_) (fun zS1 hS1 => ?_)
  · skip
    have hrS1 := RX_N hS1.2 hr
    have htS1 := TX_N hS1.2 ht
    have hKS1 := KN_tr (KN_rf z) hS1.2
    have hdr := hS1.1
    refine ww_br xCC okX0_costsOrNone 4 (P := 1 = 0) (t1 := 18) (t2 := 9) (r := []) rfl (fun q => absurd q (by decide)) (fun _ => ?_)
    refine ww_blk xCC okX0_costsOrNone 5 3 (ps := []) (pc' := 12) (lv' := [(0, .ref 0), (1, .int (nI p)), (2, .int (nI e))]) (st' := [.int (nI e), .int (nI p), .ref 0]) (z' := zS1) rfl trivial ?_
    refine ww_callVIi xCC okX0_costsOrNone 8 (ix := 104) (t_X0_costs l d p e zS1 r cnt tc hrS1 hw htS1 (by omega) (by omega)) (by omega) (by decide) xyX0_costs xiX0_costs (Or.inl (lw_gt_of (List.mem_of_getElem? (i := 584) (by decide +kernel)) rfl)) rfl rfl rfl (rest := []) rfl (Nat.le_of_ble_eq_true rfl) rfl (fun v4 zS3 hS3 => ?_)
    have hrS3 := RX_N hS3.2 hrS1
    have htS3 := TX_N hS3.2 htS1
    have hKS3 := KN_tr hKS1 hS3.2
    rw [hS3.1]
    refine ww_blk xCC okX0_costsOrNone 9 1 (ps := []) (pc' := 19) (lv' := [(0, .ref 0), (1, .int (nI p)), (2, .int (nI e))]) (st' := [.int (sCosts tc r p e)]) (z' := zS3) rfl trivial ?_
    subst xhQ
    exact ww_iret xCC okX0_costsOrNone 11 xhr rfl rfl ⟨_, rfl, ⟨(by unfold sCn; rw [if_pos hdr]), hKS3⟩⟩
  · skip
    have hrS1 := RX_N hS1.2 hr
    have htS1 := TX_N hS1.2 ht
    have hKS1 := KN_tr (KN_rf z) hS1.2
    have hdr := hS1.1
    refine ww_br xCC okX0_costsOrNone 4 (P := 0 = 0) (t1 := 18) (t2 := 9) (r := []) rfl (fun _ => ?_) (fun q => absurd (by decide) q)
    refine ww_blk xCC okX0_costsOrNone 10 1 (ps := []) (pc' := 19) (lv' := [(0, .ref 0), (1, .int (nI p)), (2, .int (nI e))]) (st' := [.int (-1)]) (z' := zS1) rfl trivial ?_
    subst xhQ
    exact ww_iret xCC okX0_costsOrNone 11 xhr rfl rfl ⟨_, rfl, ⟨(by unfold sCn; rw [if_neg (by rw [hdr]; decide)]), hKS1⟩⟩

set_option maxHeartbeats 4000000 in
set_option maxRecDepth 20000 in
theorem t_X0_can (l : Launch) (d : Nat) (p e : Nat) (z : xMem) (r : sR) (cnt : Nat) (tc : Nat → sTc) (hr : RX z 0 r) (hw : sW r cnt) (ht : TX z 8 cnt tc) (hp : p < 4) (he : e < 10) : XMz l (d + 4) yX0_can cX0_can 3 (some .boolean) shR [.ref 0, .int (nI p), .int (nI e)] z (fun z' => sCan tc r p e = true ∧ KN z z') (fun z' => sCan tc r p e = false ∧ KN z z') := by
  refine XM.of (by decide) (Nat.le_of_ble_eq_true rfl) (fun xp xe xs xm xar xbl xme xc xD xcs xad xAA xCC xhr => ?_)
  generalize xhQ : MQ xbl _ xar xs 0 0 xAA = xQ
  show ww xp l xe (xRm (d + 4)) xs xm xar xbl xme xc 3 xD xcs xad shR xAA xQ 0 [(0, .ref 0), (1, .int (nI p)), (2, .int (nI e))] [] z
  have hb := hw.1
  have hbe := hb e
  have hbp := hb p
  refine ww_blk xCC okX0_can 0 4 (ps := [vp_in (nI p) 4]) (pc' := 6) (lv' := [(0, .ref 0), (1, .int (nI p)), (2, .int (nI e))]) (st' := [.int (z.1 6 (nI p).toNatClampNeg)]) (z' := z) rfl (vp_in_nI (by omega) (by decide)) ?_
  rw [sCL (n := p) (by omega)]
  rw [show z.1 6 p = nI (r 5 p) from hr.2.2.2.2.2.1 p]
  refine ww_br xCC okX0_can 4 (P := (nI (r 5 p)) = 0) (t1 := 9) (t2 := 22) (r := []) rfl (fun c1 => ?_) (fun c1 => ?_)
  · skip
    replace c1 : (r 5 p) = 0 := (sEQ (a := (r 5 p)) (b := 0) (by omega) (by omega)).mp c1
    refine ww_blk xCC okX0_can 5 3 (ps := []) (pc' := 12) (lv' := [(0, .ref 0), (1, .int (nI p)), (2, .int (nI e))]) (st' := [.int (nI e), .int (nI p), .ref 0]) (z' := z) rfl trivial ?_
    refine ww_callVIz xCC okX0_can 8 (ix := 101) (t_X0_dares l d p e z r cnt tc hr hw ht (by omega) (by omega)) (by omega) (by decide) xyX0_dares xiX0_dares (Or.inl (lw_gt_of (List.mem_of_getElem? (i := 360) (by decide +kernel)) rfl)) rfl rfl rfl (rest := []) rfl (Nat.le_of_ble_eq_true rfl) rfl (fun zS2 hS2 => ?_) (fun zS2 hS2 => ?_)
    · skip
      have hrS2 := RX_N hS2.2 hr
      have htS2 := TX_N hS2.2 ht
      have hKS2 := KN_tr (KN_rf z) hS2.2
      have hdr := hS2.1
      refine ww_br xCC okX0_can 9 (P := 1 = 0) (t1 := 22) (t2 := 18) (r := []) rfl (fun q => absurd q (by decide)) (fun _ => ?_)
      refine ww_blk xCC okX0_can 10 2 (ps := []) (pc' := 23) (lv' := [(0, .ref 0), (1, .int (nI p)), (2, .int (nI e))]) (st' := [.int 1]) (z' := zS2) rfl trivial ?_
      subst xhQ
      exact ww_iret xCC okX0_can 13 xhr rfl (by decide) (Or.inl ⟨rfl, ⟨(by unfold sCan; grind), hKS2⟩⟩)
    · skip
      have hrS2 := RX_N hS2.2 hr
      have htS2 := TX_N hS2.2 ht
      have hKS2 := KN_tr (KN_rf z) hS2.2
      have hdr := hS2.1
      refine ww_br xCC okX0_can 9 (P := 0 = 0) (t1 := 22) (t2 := 18) (r := []) rfl (fun _ => ?_) (fun q => absurd (by decide) q)
      refine ww_blk xCC okX0_can 12 1 (ps := []) (pc' := 23) (lv' := [(0, .ref 0), (1, .int (nI p)), (2, .int (nI e))]) (st' := [.int 0]) (z' := zS2) rfl trivial ?_
      subst xhQ
      exact ww_iret xCC okX0_can 13 xhr rfl (by decide) (Or.inr ⟨rfl, ⟨(by unfold sCan; grind), hKS2⟩⟩)
  · skip
    replace c1 : ¬ (r 5 p) = 0 := fun q => c1 ((sEQ (a := (r 5 p)) (b := 0) (by omega) (by omega)).mpr q)
    refine ww_blk xCC okX0_can 12 1 (ps := []) (pc' := 23) (lv' := [(0, .ref 0), (1, .int (nI p)), (2, .int (nI e))]) (st' := [.int 0]) (z' := z) rfl trivial ?_
    subst xhQ
    exact ww_iret xCC okX0_can 13 xhr rfl (by decide) (Or.inr ⟨rfl, ⟨(by unfold sCan; grind), (KN_rf z)⟩⟩)

set_option maxHeartbeats 4000000 in
set_option maxRecDepth 20000 in
theorem t_X0_deedsFor (l : Launch) (d : Nat) (p : Nat) (z : xMem) (r : sR) (cnt : Nat) (tc : Nat → sTc) (hr : RX z 0 r) (hw : sW r cnt) (ht : TX z 8 cnt tc) (hp : p < 4) : XMi l (d + 5) yX0_deedsFor cX0_deedsFor 4 (some .int) shR [.ref 0, .int (nI p)] z (fun v z' => v = nI (sAl (sCf tc r p) 10) ∧ KN z z') := by
  refine XM.of (by decide) (Nat.le_of_ble_eq_true rfl) (fun xp xe xs xm xar xbl xme xc xD xcs xad xAA xCC xhr => ?_)
  generalize xhQ : MQ xbl _ xar xs 0 0 xAA = xQ
  show ww xp l xe (xRm (d + 5)) xs xm xar xbl xme xc 4 xD xcs xad shR xAA xQ 0 [(0, .ref 0), (1, .int (nI p))] [] z
  refine ww_blk xCC okX0_deedsFor 0 4 (ps := []) (pc' := 4) (lv' := [(3, .int 0), (2, .int 0), (0, .ref 0), (1, .int (nI p))]) (st' := []) (z' := z) rfl trivial ?_
  have L4 : ∀ (n4 : Nat) (i : Nat) (zL : xMem), 10 - i < n4 → (i ≤ 10) → (KN z zL) → ww xp l xe (xRm (d + 5)) xs xm xar xbl xme xc 4 xD xcs xad shR xAA xQ 4 [(3, .int (nI i)), (2, .int (nI (sAl (sCf tc r p) i))), (0, .ref 0), (1, .int (nI p))] [] zL := by
    intro n4
    induction n4 with
    | zero =>
      intro i zL hmu4
      exact absurd hmu4 (Nat.not_lt_zero _)
    | succ n4 ih4 =>
      intro i zL hmu4 e4_0 e4_1
      have hrL := RX_N e4_1 hr
      have htL := TX_N e4_1 ht
      refine ww_blk xCC okX0_deedsFor 4 2 (ps := []) (pc' := 7) (lv' := [(3, .int (nI i)), (2, .int (nI (sAl (sCf tc r p) i))), (0, .ref 0), (1, .int (nI p))]) (st' := [.int 10, .int (nI i)]) (z' := zL) rfl trivial ?_
      refine ww_br xCC okX0_deedsFor 6 (P := 10 ≤ (nI i)) (t1 := 31) (t2 := 10) (r := []) rfl (fun c1 => ?_) (fun c1 => ?_)
      · skip
        replace c1 : 10 ≤ i := (sLE (a := 10) (b := i) (by omega) (by omega)).mp c1
        refine ww_blk xCC okX0_deedsFor 20 1 (ps := []) (pc' := 32) (lv' := [(3, .int (nI i)), (2, .int (nI (sAl (sCf tc r p) i))), (0, .ref 0), (1, .int (nI p))]) (st' := [.int (nI (sAl (sCf tc r p) i))]) (z' := zL) rfl trivial ?_
        subst xhQ
        exact ww_iret xCC okX0_deedsFor 21 xhr rfl rfl ⟨_, rfl, ⟨(by rw [show i = 10 by omega]), e4_1⟩⟩
      · skip
        replace c1 : ¬ 10 ≤ i := fun q => c1 ((sLE (a := 10) (b := i) (by omega) (by omega)).mpr q)
        refine ww_blk xCC okX0_deedsFor 7 3 (ps := []) (pc' := 13) (lv' := [(3, .int (nI i)), (2, .int (nI (sAl (sCf tc r p) i))), (0, .ref 0), (1, .int (nI p))]) (st' := [.int (nI i), .int (nI p), .ref 0]) (z' := zL) rfl trivial ?_
        refine ww_callVIz xCC okX0_deedsFor 10 (ix := 118) (t_X0_can l d p i zL r cnt tc hrL hw htL (by omega) (by omega)) (by omega) (by decide) xyX0_can xiX0_can (Or.inl (lw_gt_of (List.mem_of_getElem? (i := 356) (by decide +kernel)) rfl)) rfl rfl rfl (rest := []) rfl (Nat.le_of_ble_eq_true rfl) rfl (fun zS2 hS2 => ?_) (fun zS2 hS2 => ?_)
        · skip
          have hrS2 := RX_N hS2.2 hrL
          have htS2 := TX_N hS2.2 htL
          have hKS2 := KN_tr e4_1 hS2.2
          have hdr := hS2.1
          refine ww_br xCC okX0_deedsFor 11 (P := 1 = 0) (t1 := 25) (t2 := 19) (r := []) rfl (fun q => absurd q (by decide)) (fun _ => ?_)
          refine ww_blk xCC okX0_deedsFor 12 8 (ps := []) (pc' := 4) (lv' := [(3, .int ((nI i) + 1)), (2, .int ((nI (sAl (sCf tc r p) i)) ||| (1 <<< ((nI i) &&& 31)))), (0, .ref 0), (1, .int (nI p))]) (st' := []) (z' := zS2) rfl trivial ?_
          rw [show nI i + (1 : Int32) = nI (i + 1) from nI_add i 1]
          rw [sSh1 i (by omega)]
          rw [fa_or (sAl (sCf tc r p) i) (2 ^ i)]
          exact ww_cut [0, 1, 2, 3] (xlc rfl (xlc (congrArg Value.int (show (nI ((sAl (sCf tc r p) i) ||| (2 ^ i)) : Int32) = nI (sAl (sCf tc r p) (i + 1)) from (by rw [sAl, if_pos (by rw [sCf, if_pos hdr]; decide), sOr2 (sAl_lt _ i), Nat.or_comm]))) (xlc rfl (xlc rfl rfl)))) rfl rfl (ih4 (i + 1) zS2 (by omega) (by omega) hKS2)
        · skip
          have hrS2 := RX_N hS2.2 hrL
          have htS2 := TX_N hS2.2 htL
          have hKS2 := KN_tr e4_1 hS2.2
          have hdr := hS2.1
          refine ww_br xCC okX0_deedsFor 11 (P := 0 = 0) (t1 := 25) (t2 := 19) (r := []) rfl (fun _ => ?_) (fun q => absurd (by decide) q)
          refine ww_blk xCC okX0_deedsFor 18 2 (ps := []) (pc' := 4) (lv' := [(3, .int ((nI i) + 1)), (2, .int (nI (sAl (sCf tc r p) i))), (0, .ref 0), (1, .int (nI p))]) (st' := []) (z' := zS2) rfl trivial ?_
          rw [show nI i + (1 : Int32) = nI (i + 1) from nI_add i 1]
          exact ww_cut [0, 1, 2, 3] (xlc rfl (xlc (congrArg Value.int (show (nI (sAl (sCf tc r p) i) : Int32) = nI (sAl (sCf tc r p) (i + 1)) from (by rw [sAl, if_neg (by rw [sCf, if_neg (by rw [hdr]; decide)]; decide)]))) (xlc rfl (xlc rfl rfl)))) rfl rfl (ih4 (i + 1) zS2 (by omega) (by omega) hKS2)
  exact ww_cut [0, 1, 2, 3] (xlc (congrArg Value.int (show (0 : Int32) = nI 0 from rfl)) (xlc (congrArg Value.int (show (0 : Int32) = nI (sAl (sCf tc r p) 0) from rfl)) (xlc rfl (xlc rfl rfl)))) rfl rfl (L4 (10 - 0 + 1) 0 z (Nat.lt_succ_self _) (by omega) (KN_rf z))
