/-! the class's value: what a text says -/
/-- nothing changed but the stack -/
def KN (z z' : xMem) : Prop := ∀ q, q ≠ 23 → z'.1 q = z.1 q
theorem KN_rf (z : xMem) : KN z z := fun _ _ => rfl
theorem KN_tr {a b c : xMem} (h1 : KN a b) (h2 : KN b c) : KN a c := fun q h => (h2 q h).trans (h1 q h)
theorem KN_put {a b : xMem} {j : Nat} {x : Int32} (h : KN a b) : KN a (mPut b 23 j x) := fun q hq => (mPut_nq hq).trans (h q hq)
theorem RX_N {z z' : xMem} {r : sR} (h : KN z z') (hr : RX z 0 r) : RX z' 0 r := RX_of (fun k hk => h _ (by omega)) hr
theorem TX_N {z z' : xMem} {cnt : Nat} {tc : Nat → sTc} (h : KN z z') (ht : TX z 8 cnt tc) : TX z' 8 cnt tc := TX_of (fun k hk => h _ (by omega)) ht
def tW (tc : Nat → sTc) (r : sR) (w p e : Nat) : Int32 := tV (sF r p e) (sPart w (tc (r 7 5)))
theorem sMM (v b : Int32) (hb : 0 ≤ b.toInt) : (if 0 < (if v < b then v else b) then (if v < b then v else b) else 0) = sWi v 0 b := by
  unfold sWi
  simp only [Int32.lt_iff_toInt_lt]
  have h0 : (0 : Int32).toInt = 0 := rfl
  have hq : ∀ x y : Int32, x.toInt = y.toInt → x = y := fun x y h => Int32.toInt_inj.mp h
  repeat' split
  all_goals first | rfl | (exfalso; omega) | (apply hq; omega)
theorem xTab_3 : ∀ w, w < 3 → xTab 3 w = if w = 2 then 99 else 999 := by decide
theorem sSays_mm (tc : Nat → sTc) (r : sR) (p e : Nat) {w : Nat} (hw : w < 3) : (if 0 < (if tW tc r w p e < xTab 3 w then tW tc r w p e else xTab 3 w) then (if tW tc r w p e < xTab 3 w then tW tc r w p e else xTab 3 w) else 0) = sSays tc r w p e := by
  rw [xTab_3 w hw]
  exact sMM _ _ (by split <;> decide)
/-- the stack holds that list, its top first -/
def StkR (z : xMem) (st : List Int32) : Prop := ∀ j, j < st.length → z.1 23 j = st.getD (st.length - 1 - j) 0
theorem StkR_0 (z : xMem) : StkR z [] := fun j hj => absurd hj (Nat.not_lt_zero j)
theorem StkR_push {z : xMem} {st : List Int32} {x : Int32} (h : StkR z st) : StkR (mPut z 23 st.length x) (x :: st) := by
  intro j hj
  rw [List.length_cons] at hj
  rw [mPut_rd, if_pos rfl]
  by_cases e : j = st.length
  · rw [if_pos e, e, List.length_cons, show st.length + 1 - 1 - st.length = 0 by omega]
    rfl
  · rw [if_neg e, h j (by omega), List.length_cons, show st.length + 1 - 1 - j = (st.length - 1 - j) + 1 by omega, List.getD_cons_succ]
theorem StkR_1 {z : xMem} {st : List Int32} {x : Int32} (h : StkR z (x :: st)) : z.1 23 st.length = x := by
  rw [h st.length (by rw [List.length_cons]; omega), List.length_cons, show st.length + 1 - 1 - st.length = 0 by omega]
  rfl
theorem StkR_tl {z : xMem} {st : List Int32} {x : Int32} (h : StkR z (x :: st)) : StkR z st := by
  intro j hj
  rw [h j (by rw [List.length_cons]; omega), List.length_cons, show st.length + 1 - 1 - j = (st.length - 1 - j) + 1 by omega, List.getD_cons_succ]
theorem StkR_2 {z : xMem} {st : List Int32} {x y : Int32} (h : StkR z (y :: x :: st)) : z.1 23 st.length = x := StkR_1 (StkR_tl h)
theorem StkR_un {z : xMem} {st : List Int32} {x v : Int32} (h : StkR z (x :: st)) : StkR (mPut z 23 st.length v) (v :: st) := StkR_push (StkR_tl h)
theorem StkR_bin {z : xMem} {st : List Int32} {x y v : Int32} (h : StkR z (y :: x :: st)) : StkR (mPut z 23 st.length v) (v :: st) := StkR_push (StkR_tl (StkR_tl h))
theorem vp_top {n : Nat} (h : n + 1 ≤ 160) : vp_in (nI (n + 1) - 1) 160 := by
  rw [nI_pred]
  exact vp_in_nI (by omega) (by decide)
theorem vp_topm {n : Nat} (h : n + 1 ≤ 160) : vp_in (nI (n + 1) + (-1)) 160 := by
  rw [pk_m1]
  exact vp_in_nI (by omega) (by decide)
theorem pV_drop {cs : List Nat} {i c : Nat} (hc : c = cs.getD i 0) (hi : i < cs.length) : cs.drop i = c :: cs.drop (i + 1) := by
  rw [List.drop_eq_getElem_cons hi, hc, List.getD_eq_getElem?_getD, List.getElem?_eq_getElem hi]
  rfl
theorem pV_step {fa : Nat → Int32} {cs : List Nat} {i c : Nat} {st st' R : List Int32} (h : pEv fa (cs.drop i) st = R) (hd : cs.drop i = c :: cs.drop (i + 1)) (hs : pStep fa c st = st') : pEv fa (cs.drop (i + 1)) st' = R := by
  rw [hd] at h
  rw [← hs]
  exact h
theorem pV_push {fa : Nat → Int32} {cs : List Nat} {i c : Nat} {st st' R : List Int32} (h : pEv fa (cs.drop i) st = R) (hd : cs.drop i = c :: cs.drop (i + 1)) (hs : pStep fa c st = st') : pEv fa (cs.drop (i + 1)) st' = R := pV_step h hd hs
theorem pS_num {fa : Nat → Int32} {c : Nat} {st : List Int32} (h : ¬ 10005 < c) (h2 : c < 10000) : pStep fa c st = nI c :: st := by unfold pStep; rw [if_pos (by omega), if_pos h2]
theorem pS_fact {fa : Nat → Int32} {c : Nat} {st : List Int32} (h : ¬ 10005 < c) (h2 : 10000 ≤ c) : pStep fa c st = fa c :: st := by unfold pStep; rw [if_pos (by omega), if_neg (by omega)]
theorem pS_neg {fa : Nat → Int32} {c : Nat} {x : Int32} {rr : List Int32} (h : c = 10014) : pStep fa c (x :: rr) = (-x) :: rr := by subst h; rfl
theorem pS_not1 {fa : Nat → Int32} {c : Nat} {x : Int32} {rr : List Int32} (h : c = 10013) (hx : x = 0) : pStep fa c (x :: rr) = 1 :: rr := by subst h hx; rfl
theorem pS_not0 {fa : Nat → Int32} {c : Nat} {x : Int32} {rr : List Int32} (h : c = 10013) (hx : ¬ x = 0) : pStep fa c (x :: rr) = 0 :: rr := by
  subst h
  show (if x = 0 then (1 : Int32) else 0) :: rr = _
  rw [if_neg hx]
theorem pS_bin {fa : Nat → Int32} {c : Nat} {x y : Int32} {rr : List Int32} (h : 10005 < c) (h3 : ¬ c = 10013) (h4 : ¬ c = 10014) : pStep fa c (y :: x :: rr) = pJoin c x y :: rr := by
  unfold pStep
  rw [if_neg (by omega), if_neg h3, if_neg h4]
theorem pV_dpush {cs : List Nat} {i c : Nat} {st : List Int32} {x : Int32} (h : pDp (cs.drop i) st.length = some 1) (hd : cs.drop i = c :: cs.drop (i + 1)) (h62 : ¬ 10005 < c) : pDp (cs.drop (i + 1)) (x :: st).length = some 1 := by
  rw [hd, pDp, if_pos (by omega)] at h
  exact h
theorem pV_un1 {cs : List Nat} {i c n : Nat} (h : pDp (cs.drop i) n = some 1) (hd : cs.drop i = c :: cs.drop (i + 1)) (h62 : 10005 < c) (h1 : c = 10013 ∨ c = 10014) : 1 ≤ n := by
  rw [hd, pDp, if_neg (by omega), if_pos h1] at h
  split at h
  · assumption
  · cases h
theorem pV_bin2 {cs : List Nat} {i c n : Nat} (h : pDp (cs.drop i) n = some 1) (hd : cs.drop i = c :: cs.drop (i + 1)) (h62 : 10005 < c) (h1 : ¬ c = 10013) (h2 : ¬ c = 10014) : 2 ≤ n := by
  rw [hd, pDp, if_neg (by omega), if_neg (by omega)] at h
  split at h
  · assumption
  · cases h
theorem pV_dun {cs : List Nat} {i c : Nat} {st : List Int32} {x y : Int32} (h : pDp (cs.drop i) (x :: st).length = some 1) (hd : cs.drop i = c :: cs.drop (i + 1)) (h62 : 10005 < c) (h1 : c = 10013 ∨ c = 10014) : pDp (cs.drop (i + 1)) (y :: st).length = some 1 := by
  rw [hd, pDp, if_neg (by omega), if_pos h1, if_pos (by rw [List.length_cons]; omega)] at h
  exact h
theorem pV_dbin {cs : List Nat} {i c : Nat} {st : List Int32} {x y v : Int32} (h : pDp (cs.drop i) (y :: x :: st).length = some 1) (hd : cs.drop i = c :: cs.drop (i + 1)) (h62 : 10005 < c) (h1 : ¬ c = 10013) (h2 : ¬ c = 10014) : pDp (cs.drop (i + 1)) (v :: st).length = some 1 := by
  rw [hd, pDp, if_neg (by omega), if_neg (by omega), if_pos (by rw [List.length_cons, List.length_cons]; omega)] at h
  exact h
theorem pV_c1 {st : List Int32} (h : 1 ≤ st.length) : ∃ x rr, st = x :: rr := by
  cases st with
  | nil => exact absurd h (by decide)
  | cons x rr => exact ⟨x, rr, rfl⟩
theorem pV_c2 {st : List Int32} (h : 2 ≤ st.length) : ∃ y x rr, st = y :: (x :: rr) := by
  match st, h with
  | y :: x :: rr, _ => exact ⟨y, x, rr, rfl⟩
theorem pV_end {fa : Nat → Int32} {cs : List Nat} {i : Nat} {st : List Int32} {z : xMem} (h1 : pEv fa (cs.drop i) st = pEv fa cs []) (h2 : pDp (cs.drop i) st.length = some 1) (h3 : StkR z st) (hi : cs.length ≤ i) : z.1 23 0 = tV fa cs := by
  rw [List.drop_eq_nil_of_le hi] at h1 h2
  have e : st.length = 1 := by
    have : some st.length = some 1 := h2
    exact Option.some.inj this
  obtain ⟨x, rr, rfl⟩ := pV_c1 (st := st) (by omega)
  have e2 : rr = [] := List.eq_nil_of_length_eq_zero (by rw [List.length_cons] at e; omega)
  subst e2
  unfold tV
  rw [← h1]
  exact StkR_1 h3
set_option maxHeartbeats 4000000 in
set_option maxRecDepth 20000 in
theorem t_X4_value_0 (l : Launch) (d : Nat) (w p e : Nat) (z : xMem) (r : sR) (cnt : Nat) (tc : Nat → sTc) (hr : RX z 0 r) (hw : sW r cnt) (ht : TX z 8 cnt tc) (hw3 : w < 3) (hp : p < 4) (he : e < 10) (hk : r 7 5 = 0) : XMi l (d + 2) yX4_value cX4_value 11 (some .int) shR [.ref 8, .int (nI w), .ref 0, .int (nI p), .int (nI e)] z (fun v z' => v = sSays tc r w p e ∧ KN z z') := by
  refine XM.of (by decide) (Nat.le_of_ble_eq_true rfl) (fun xp xe xs xm xar xbl xme xc xD xcs xad xAA xCC xhr => ?_)
  generalize xhQ : MQ xbl _ xar xs 0 0 xAA = xQ
  show ww xp l xe (xRm (d + 2)) xs xm xar xbl xme xc 11 xD xcs xad shR xAA xQ 0 [(0, .ref 8), (1, .int (nI w)), (2, .ref 0), (3, .int (nI p)), (4, .int (nI e))] [] z
  have hkc : 0 < cnt := by have := hw.2.2.2.2.2.2.2; omega
  obtain ⟨s0, hs0, hB0, hBw, hsl, hA, hdp, hok⟩ := TXk_w (ht.2.2.2 0 hkc) hw3
  have hr5 : z.1 0 14 = 0 := by rw [show z.1 0 14 = nI (r 7 5) from hr.2.2.2.2.2.2.2.2.2.2.2.2.2, hk]; rfl
  replace hBw : z.1 17 w = nI (s0 + (sPart w (tc 0)).length) := hBw
  replace hA : ∀ i, i < (sPart w (tc 0)).length → z.1 11 (s0 + i) = nI ((sPart w (tc 0)).getD i 0) := hA
  have hB1 : w ≠ 0 → z.1 17 (w - 1) = nI s0 := hB0
  obtain ⟨cs, hcs⟩ : ∃ cs, cs = sPart w (tc 0) := ⟨_, rfl⟩
  rw [← hcs] at hBw hA hsl hdp hok
  have htW : tW tc r w p e = tV (sF r p e) cs := by unfold tW; rw [hk, hcs]
  refine ww_blk xCC okX4_value 0 4 (ps := []) (pc' := 8) (lv' := [(0, .ref 8), (1, .int (nI w)), (2, .ref 0), (3, .int (nI p)), (4, .int (nI e))]) (st' := [.int (z.1 0 14), .ref 9]) (z' := z) rfl trivial ?_
  rw [hr5]
  refine ww_blk xCC okX4_value 4 6 (ps := [vp_in 0 6]) (pc' := 19) (lv' := [(5, .ref 11), (0, .ref 8), (1, .int (nI w)), (2, .ref 0), (3, .int (nI p)), (4, .int (nI e))]) (st' := [.int (z.1 0 14), .ref 10]) (z' := z) rfl (show vp_in 0 6 from (by unfold vp_in; decide)) ?_
  rw [hr5]
  refine ww_blk xCC okX4_value 10 4 (ps := [vp_in 0 6]) (pc' := 25) (lv' := [(7, .int 0), (6, .ref 17), (5, .ref 11), (0, .ref 8), (1, .int (nI w)), (2, .ref 0), (3, .int (nI p)), (4, .int (nI e))]) (st' := []) (z' := z) rfl (show vp_in 0 6 from (by unfold vp_in; decide)) ?_
  have L41 : ∀ (n41 : Nat) (i : Nat) (st : List Int32) (zL : xMem), cs.length - i < n41 → (i ≤ cs.length) → (pEv (sF r p e) (cs.drop i) st = pEv (sF r p e) cs []) → (pDp (cs.drop i) st.length = some 1) → (KN z zL) → (StkR zL st) → (st.length ≤ i) → ww xp l xe (xRm (d + 2)) xs xm xar xbl xme xc 11 xD xcs xad shR xAA xQ 41 [(8, .int (nI (s0 + i))), (7, .int (nI (st.length))), (5, .ref 11), (6, .ref 17), (0, .ref 8), (1, .int (nI w)), (2, .ref 0), (3, .int (nI p)), (4, .int (nI e))] [] zL := by
    intro n41
    induction n41 with
    | zero =>
      intro i st zL hmu41
      exact absurd hmu41 (Nat.not_lt_zero _)
    | succ n41 ih41 =>
      intro i st zL hmu41 e41_0 e41_1 e41_2 e41_3 e41_4 e41_5
      refine ww_blk xCC okX4_value 24 4 (ps := [vp_in (nI w) 3]) (pc' := 47) (lv' := [(8, .int (nI (s0 + i))), (7, .int (nI (st.length))), (5, .ref 11), (6, .ref 17), (0, .ref 8), (1, .int (nI w)), (2, .ref 0), (3, .int (nI p)), (4, .int (nI e))]) (st' := [.int (zL.1 17 (nI w).toNatClampNeg), .int (nI (s0 + i))]) (z' := zL) rfl (vp_in_nI (by omega) (by decide)) ?_
      rw [sCL (n := w) (by omega)]
      rw [show zL.1 17 w = nI (s0 + cs.length) from (congrFun (e41_3 17 (by decide)) w).trans hBw]
      refine ww_br xCC okX4_value 28 (P := (nI (s0 + cs.length)) ≤ (nI (s0 + i))) (t1 := 230) (t2 := 50) (r := []) rfl (fun c1 => ?_) (fun c1 => ?_)
      · skip
        replace c1 : (s0 + cs.length) ≤ (s0 + i) := (sLE (a := (s0 + cs.length)) (b := (s0 + i)) (by omega) (by omega)).mp c1
        refine ww_blk xCC okX4_value 121 10 (ps := [vp_in (nI w) 3, vp_in 0 160]) (pc' := 248) (lv' := [(8, .int (nI (s0 + i))), (7, .int (nI (st.length))), (5, .ref 11), (6, .ref 17), (0, .ref 8), (1, .int (nI w)), (2, .ref 0), (3, .int (nI p)), (4, .int (nI e))]) (st' := [.int (if 0 < (if (zL.1 23 0) < (xTab 3 (nI w).toNatClampNeg) then (zL.1 23 0) else (xTab 3 (nI w).toNatClampNeg)) then (if (zL.1 23 0) < (xTab 3 (nI w).toNatClampNeg) then (zL.1 23 0) else (xTab 3 (nI w).toNatClampNeg)) else 0)]) (z' := zL) rfl ⟨(vp_in_nI (by omega) (by decide)), (show vp_in 0 160 from (by unfold vp_in; decide))⟩ ?_
        rw [sCL (n := w) (by omega)]
        subst xhQ
        exact ww_iret xCC okX4_value 131 xhr rfl rfl ⟨_, rfl, ⟨(by rw [show zL.1 23 0 = tW tc r w p e from (pV_end e41_1 e41_2 e41_4 (by omega)).trans htW.symm]; exact sSays_mm tc r p e hw3), e41_3⟩⟩
      · skip
        replace c1 : ¬ (s0 + cs.length) ≤ (s0 + i) := fun q => c1 ((sLE (a := (s0 + cs.length)) (b := (s0 + i)) (by omega) (by omega)).mpr q)
        obtain ⟨c, hc⟩ : ∃ c, c = cs.getD i 0 := ⟨_, rfl⟩
        have hrd : zL.1 11 (s0 + i) = nI c := by rw [hc, e41_3 11 (by decide)]; exact hA i (by omega)
        have hdrop := pV_drop hc (show i < cs.length by omega)
        have hcb : c ≤ 10014 := hok c (by rw [hc, List.getD_eq_getElem?_getD, List.getElem?_eq_getElem (show i < cs.length by omega)]; exact List.getElem_mem _)
        refine ww_blk xCC okX4_value 29 6 (ps := [vp_in (nI (s0 + i)) 160]) (pc' := 62) (lv' := [(9, .int (zL.1 11 (nI (s0 + i)).toNatClampNeg)), (8, .int (nI (s0 + i))), (7, .int (nI (st.length))), (5, .ref 11), (6, .ref 17), (0, .ref 8), (1, .int (nI w)), (2, .ref 0), (3, .int (nI p)), (4, .int (nI e))]) (st' := [.int 10005, .int (zL.1 11 (nI (s0 + i)).toNatClampNeg)]) (z' := zL) rfl (vp_in_nI (by omega) (by decide)) ?_
        rw [sCL (n := (s0 + i)) (by omega)]
        rw [hrd]
        refine ww_br xCC okX4_value 35 (P := 10005 < (nI c)) (t1 := 112) (t2 := 65) (r := []) rfl (fun c2 => ?_) (fun c2 => ?_)
        · skip
          replace c2 : 10005 < c := (sLT (a := 10005) (b := c) (by omega) (by omega)).mp c2
          have h62 := c2
          refine ww_blk xCC okX4_value 59 2 (ps := []) (pc' := 117) (lv' := [(9, .int (nI c)), (8, .int (nI (s0 + i))), (7, .int (nI (st.length))), (5, .ref 11), (6, .ref 17), (0, .ref 8), (1, .int (nI w)), (2, .ref 0), (3, .int (nI p)), (4, .int (nI e))]) (st' := [.int 10013, .int (nI c)]) (z' := zL) rfl trivial ?_
          refine ww_br xCC okX4_value 61 (P := (nI c) = 10013) (t1 := 128) (t2 := 120) (r := []) rfl (fun c3 => ?_) (fun c3 => ?_)
          · skip
            replace c3 : c = 10013 := (sEQ (a := c) (b := 10013) (by omega) (by omega)).mp c3
            have h129 : 1 ≤ st.length := pV_un1 e41_2 hdrop h62 (by omega)
            obtain ⟨x, rr, rfl⟩ := pV_c1 h129
            have hl1 : (x :: rr).length = rr.length + 1 := rfl
            have hx0 : zL.1 23 rr.length = x := StkR_1 e41_4
            refine ww_blk xCC okX4_value 65 2 (ps := []) (pc' := 131) (lv' := [(9, .int (nI c)), (8, .int (nI (s0 + i))), (7, .int (nI ((x :: rr).length))), (5, .ref 11), (6, .ref 17), (0, .ref 8), (1, .int (nI w)), (2, .ref 0), (3, .int (nI p)), (4, .int (nI e))]) (st' := [.int 1, .int (nI ((x :: rr).length))]) (z' := zL) rfl trivial ?_
            refine ww_br xCC okX4_value 67 (P := 1 ≤ (nI ((x :: rr).length))) (t1 := 136) (t2 := 134) (r := []) rfl (fun c4 => ?_) (fun c4 => absurd ((sLE (a := 1) (by decide) (by omega)).mpr (by rw [List.length_cons]; omega)) c4)
            refine ww_blk xCC okX4_value 70 14 (ps := [vp_in ((nI ((x :: rr).length)) - 1) 160]) (pc' := 160) (lv' := [(10, .int (zL.1 23 ((nI ((x :: rr).length)) - 1).toNatClampNeg)), (9, .int (nI c)), (8, .int (nI (s0 + i))), (7, .int (nI ((x :: rr).length))), (5, .ref 11), (6, .ref 17), (0, .ref 8), (1, .int (nI w)), (2, .ref 0), (3, .int (nI p)), (4, .int (nI e))]) (st' := [.int 10014, .int (nI c), .int ((nI ((x :: rr).length)) - 1), .ref 23]) (z' := zL) rfl (vp_top (by omega)) ?_
            rw [show nI ((x :: rr).length) - 1 = nI (rr.length) from nI_pred rr.length]
            rw [sCL (n := (rr.length)) (by omega)]
            rw [hx0]
            refine ww_br xCC okX4_value 84 (P := (nI c) = 10014) (t1 := 163) (t2 := 169) (r := [.int (nI (rr.length)), .ref 23]) rfl (fun c5 => ?_) (fun c5 => ?_)
            · skip
              replace c5 : c = 10014 := (sEQ (a := c) (b := 10014) (by omega) (by omega)).mp c5
              refine ww_blk xCC okX4_value 85 3 (ps := []) (pc' := 179) (lv' := [(10, .int x), (9, .int (nI c)), (8, .int (nI (s0 + i))), (7, .int (nI ((x :: rr).length))), (5, .ref 11), (6, .ref 17), (0, .ref 8), (1, .int (nI w)), (2, .ref 0), (3, .int (nI p)), (4, .int (nI e))]) (st' := [.int (-x), .int (nI (rr.length)), .ref 23]) (z' := zL) rfl trivial ?_
              refine ww_blk xCC okX4_value 93 2 (ps := [vp_in (nI (rr.length)) 160]) (pc' := 224) (lv' := [(10, .int x), (9, .int (nI c)), (8, .int (nI (s0 + i))), (7, .int (nI ((x :: rr).length))), (5, .ref 11), (6, .ref 17), (0, .ref 8), (1, .int (nI w)), (2, .ref 0), (3, .int (nI p)), (4, .int (nI e))]) (st' := []) (z' := (mPut zL 23 (nI (rr.length)).toNatClampNeg (-x))) rfl (vp_in_nI (by omega) (by decide)) ?_
              rw [sCL (n := (rr.length)) (by omega)]
              refine ww_blk xCC okX4_value 119 2 (ps := []) (pc' := 41) (lv' := [(8, .int ((nI (s0 + i)) + 1)), (10, .int x), (9, .int (nI c)), (7, .int (nI ((x :: rr).length))), (5, .ref 11), (6, .ref 17), (0, .ref 8), (1, .int (nI w)), (2, .ref 0), (3, .int (nI p)), (4, .int (nI e))]) (st' := []) (z' := (mPut zL 23 (rr.length) (-x))) rfl trivial ?_
              rw [show nI (s0 + i) + (1 : Int32) = nI ((s0 + i) + 1) from nI_add (s0 + i) 1]
              exact ww_cut [0, 3, 4, 5, 6, 7, 8, 9, 10] (xlc (congrArg Value.int (show (nI ((s0 + i) + 1) : Int32) = nI (s0 + (i + 1)) from rfl)) (xlc (congrArg Value.int (show (nI ((x :: rr).length) : Int32) = nI (((-x) :: rr).length) from rfl)) (xlc rfl (xlc rfl (xlc rfl (xlc rfl (xlc rfl (xlc rfl (xlc rfl rfl))))))))) rfl rfl (ih41 (i + 1) ((-x) :: rr) (mPut zL 23 (rr.length) (-x)) (by omega) (by omega) (pV_step e41_1 hdrop (pS_neg (by omega))) (pV_dun e41_2 hdrop h62 (by omega)) (KN_put e41_3) (StkR_un e41_4) (by rw [List.length_cons]; omega))
            · skip
              replace c5 : ¬ c = 10014 := fun q => c5 ((sEQ (a := c) (b := 10014) (by omega) (by omega)).mpr q)
              refine ww_blk xCC okX4_value 88 1 (ps := []) (pc' := 171) (lv' := [(10, .int x), (9, .int (nI c)), (8, .int (nI (s0 + i))), (7, .int (nI ((x :: rr).length))), (5, .ref 11), (6, .ref 17), (0, .ref 8), (1, .int (nI w)), (2, .ref 0), (3, .int (nI p)), (4, .int (nI e))]) (st' := [.int x, .int (nI (rr.length)), .ref 23]) (z' := zL) rfl trivial ?_
              refine ww_br xCC okX4_value 89 (P := x = 0) (t1 := 174) (t2 := 178) (r := [.int (nI (rr.length)), .ref 23]) rfl (fun c6 => ?_) (fun c6 => ?_)
              · skip
                have h171 := c6
                refine ww_blk xCC okX4_value 90 2 (ps := []) (pc' := 179) (lv' := [(10, .int x), (9, .int (nI c)), (8, .int (nI (s0 + i))), (7, .int (nI ((x :: rr).length))), (5, .ref 11), (6, .ref 17), (0, .ref 8), (1, .int (nI w)), (2, .ref 0), (3, .int (nI p)), (4, .int (nI e))]) (st' := [.int 1, .int (nI (rr.length)), .ref 23]) (z' := zL) rfl trivial ?_
                refine ww_blk xCC okX4_value 93 2 (ps := [vp_in (nI (rr.length)) 160]) (pc' := 224) (lv' := [(10, .int x), (9, .int (nI c)), (8, .int (nI (s0 + i))), (7, .int (nI ((x :: rr).length))), (5, .ref 11), (6, .ref 17), (0, .ref 8), (1, .int (nI w)), (2, .ref 0), (3, .int (nI p)), (4, .int (nI e))]) (st' := []) (z' := (mPut zL 23 (nI (rr.length)).toNatClampNeg 1)) rfl (vp_in_nI (by omega) (by decide)) ?_
                rw [sCL (n := (rr.length)) (by omega)]
                refine ww_blk xCC okX4_value 119 2 (ps := []) (pc' := 41) (lv' := [(8, .int ((nI (s0 + i)) + 1)), (10, .int x), (9, .int (nI c)), (7, .int (nI ((x :: rr).length))), (5, .ref 11), (6, .ref 17), (0, .ref 8), (1, .int (nI w)), (2, .ref 0), (3, .int (nI p)), (4, .int (nI e))]) (st' := []) (z' := (mPut zL 23 (rr.length) 1)) rfl trivial ?_
                rw [show nI (s0 + i) + (1 : Int32) = nI ((s0 + i) + 1) from nI_add (s0 + i) 1]
                exact ww_cut [0, 3, 4, 5, 6, 7, 8, 9, 10] (xlc (congrArg Value.int (show (nI ((s0 + i) + 1) : Int32) = nI (s0 + (i + 1)) from rfl)) (xlc (congrArg Value.int (show (nI ((x :: rr).length) : Int32) = nI ((1 :: rr).length) from rfl)) (xlc rfl (xlc rfl (xlc rfl (xlc rfl (xlc rfl (xlc rfl (xlc rfl rfl))))))))) rfl rfl (ih41 (i + 1) (1 :: rr) (mPut zL 23 (rr.length) 1) (by omega) (by omega) (pV_step e41_1 hdrop (pS_not1 (by omega) h171)) (pV_dun e41_2 hdrop h62 (by omega)) (KN_put e41_3) (StkR_un e41_4) (by rw [List.length_cons]; omega))
              · skip
                have h171 := c6
                refine ww_blk xCC okX4_value 92 3 (ps := [vp_in (nI (rr.length)) 160]) (pc' := 224) (lv' := [(10, .int x), (9, .int (nI c)), (8, .int (nI (s0 + i))), (7, .int (nI ((x :: rr).length))), (5, .ref 11), (6, .ref 17), (0, .ref 8), (1, .int (nI w)), (2, .ref 0), (3, .int (nI p)), (4, .int (nI e))]) (st' := []) (z' := (mPut zL 23 (nI (rr.length)).toNatClampNeg 0)) rfl (vp_in_nI (by omega) (by decide)) ?_
                rw [sCL (n := (rr.length)) (by omega)]
                refine ww_blk xCC okX4_value 119 2 (ps := []) (pc' := 41) (lv' := [(8, .int ((nI (s0 + i)) + 1)), (10, .int x), (9, .int (nI c)), (7, .int (nI ((x :: rr).length))), (5, .ref 11), (6, .ref 17), (0, .ref 8), (1, .int (nI w)), (2, .ref 0), (3, .int (nI p)), (4, .int (nI e))]) (st' := []) (z' := (mPut zL 23 (rr.length) 0)) rfl trivial ?_
                rw [show nI (s0 + i) + (1 : Int32) = nI ((s0 + i) + 1) from nI_add (s0 + i) 1]
                exact ww_cut [0, 3, 4, 5, 6, 7, 8, 9, 10] (xlc (congrArg Value.int (show (nI ((s0 + i) + 1) : Int32) = nI (s0 + (i + 1)) from rfl)) (xlc (congrArg Value.int (show (nI ((x :: rr).length) : Int32) = nI ((0 :: rr).length) from rfl)) (xlc rfl (xlc rfl (xlc rfl (xlc rfl (xlc rfl (xlc rfl (xlc rfl rfl))))))))) rfl rfl (ih41 (i + 1) (0 :: rr) (mPut zL 23 (rr.length) 0) (by omega) (by omega) (pV_step e41_1 hdrop (pS_not0 (by omega) h171)) (pV_dun e41_2 hdrop h62 (by omega)) (KN_put e41_3) (StkR_un e41_4) (by rw [List.length_cons]; omega))
          · skip
            replace c3 : ¬ c = 10013 := fun q => c3 ((sEQ (a := c) (b := 10013) (by omega) (by omega)).mpr q)
            refine ww_blk xCC okX4_value 62 2 (ps := []) (pc' := 125) (lv' := [(9, .int (nI c)), (8, .int (nI (s0 + i))), (7, .int (nI (st.length))), (5, .ref 11), (6, .ref 17), (0, .ref 8), (1, .int (nI w)), (2, .ref 0), (3, .int (nI p)), (4, .int (nI e))]) (st' := [.int 10014, .int (nI c)]) (z' := zL) rfl trivial ?_
            refine ww_br xCC okX4_value 64 (P := (nI c) = 10014) (t1 := 128) (t2 := 183) (r := []) rfl (fun c7 => ?_) (fun c7 => ?_)
            · skip
              replace c7 : c = 10014 := (sEQ (a := c) (b := 10014) (by omega) (by omega)).mp c7
              have h129 : 1 ≤ st.length := pV_un1 e41_2 hdrop h62 (by omega)
              obtain ⟨x, rr, rfl⟩ := pV_c1 h129
              have hl1 : (x :: rr).length = rr.length + 1 := rfl
              have hx0 : zL.1 23 rr.length = x := StkR_1 e41_4
              refine ww_blk xCC okX4_value 65 2 (ps := []) (pc' := 131) (lv' := [(9, .int (nI c)), (8, .int (nI (s0 + i))), (7, .int (nI ((x :: rr).length))), (5, .ref 11), (6, .ref 17), (0, .ref 8), (1, .int (nI w)), (2, .ref 0), (3, .int (nI p)), (4, .int (nI e))]) (st' := [.int 1, .int (nI ((x :: rr).length))]) (z' := zL) rfl trivial ?_
              refine ww_br xCC okX4_value 67 (P := 1 ≤ (nI ((x :: rr).length))) (t1 := 136) (t2 := 134) (r := []) rfl (fun c8 => ?_) (fun c8 => absurd ((sLE (a := 1) (by decide) (by omega)).mpr (by rw [List.length_cons]; omega)) c8)
              refine ww_blk xCC okX4_value 70 14 (ps := [vp_in ((nI ((x :: rr).length)) - 1) 160]) (pc' := 160) (lv' := [(10, .int (zL.1 23 ((nI ((x :: rr).length)) - 1).toNatClampNeg)), (9, .int (nI c)), (8, .int (nI (s0 + i))), (7, .int (nI ((x :: rr).length))), (5, .ref 11), (6, .ref 17), (0, .ref 8), (1, .int (nI w)), (2, .ref 0), (3, .int (nI p)), (4, .int (nI e))]) (st' := [.int 10014, .int (nI c), .int ((nI ((x :: rr).length)) - 1), .ref 23]) (z' := zL) rfl (vp_top (by omega)) ?_
              rw [show nI ((x :: rr).length) - 1 = nI (rr.length) from nI_pred rr.length]
              rw [sCL (n := (rr.length)) (by omega)]
              rw [hx0]
              refine ww_br xCC okX4_value 84 (P := (nI c) = 10014) (t1 := 163) (t2 := 169) (r := [.int (nI (rr.length)), .ref 23]) rfl (fun c9 => ?_) (fun c9 => ?_)
              · skip
                replace c9 : c = 10014 := (sEQ (a := c) (b := 10014) (by omega) (by omega)).mp c9
                refine ww_blk xCC okX4_value 85 3 (ps := []) (pc' := 179) (lv' := [(10, .int x), (9, .int (nI c)), (8, .int (nI (s0 + i))), (7, .int (nI ((x :: rr).length))), (5, .ref 11), (6, .ref 17), (0, .ref 8), (1, .int (nI w)), (2, .ref 0), (3, .int (nI p)), (4, .int (nI e))]) (st' := [.int (-x), .int (nI (rr.length)), .ref 23]) (z' := zL) rfl trivial ?_
                refine ww_blk xCC okX4_value 93 2 (ps := [vp_in (nI (rr.length)) 160]) (pc' := 224) (lv' := [(10, .int x), (9, .int (nI c)), (8, .int (nI (s0 + i))), (7, .int (nI ((x :: rr).length))), (5, .ref 11), (6, .ref 17), (0, .ref 8), (1, .int (nI w)), (2, .ref 0), (3, .int (nI p)), (4, .int (nI e))]) (st' := []) (z' := (mPut zL 23 (nI (rr.length)).toNatClampNeg (-x))) rfl (vp_in_nI (by omega) (by decide)) ?_
                rw [sCL (n := (rr.length)) (by omega)]
                refine ww_blk xCC okX4_value 119 2 (ps := []) (pc' := 41) (lv' := [(8, .int ((nI (s0 + i)) + 1)), (10, .int x), (9, .int (nI c)), (7, .int (nI ((x :: rr).length))), (5, .ref 11), (6, .ref 17), (0, .ref 8), (1, .int (nI w)), (2, .ref 0), (3, .int (nI p)), (4, .int (nI e))]) (st' := []) (z' := (mPut zL 23 (rr.length) (-x))) rfl trivial ?_
                rw [show nI (s0 + i) + (1 : Int32) = nI ((s0 + i) + 1) from nI_add (s0 + i) 1]
                exact ww_cut [0, 3, 4, 5, 6, 7, 8, 9, 10] (xlc (congrArg Value.int (show (nI ((s0 + i) + 1) : Int32) = nI (s0 + (i + 1)) from rfl)) (xlc (congrArg Value.int (show (nI ((x :: rr).length) : Int32) = nI (((-x) :: rr).length) from rfl)) (xlc rfl (xlc rfl (xlc rfl (xlc rfl (xlc rfl (xlc rfl (xlc rfl rfl))))))))) rfl rfl (ih41 (i + 1) ((-x) :: rr) (mPut zL 23 (rr.length) (-x)) (by omega) (by omega) (pV_step e41_1 hdrop (pS_neg (by omega))) (pV_dun e41_2 hdrop h62 (by omega)) (KN_put e41_3) (StkR_un e41_4) (by rw [List.length_cons]; omega))
              · skip
                replace c9 : ¬ c = 10014 := fun q => c9 ((sEQ (a := c) (b := 10014) (by omega) (by omega)).mpr q)
                refine ww_blk xCC okX4_value 88 1 (ps := []) (pc' := 171) (lv' := [(10, .int x), (9, .int (nI c)), (8, .int (nI (s0 + i))), (7, .int (nI ((x :: rr).length))), (5, .ref 11), (6, .ref 17), (0, .ref 8), (1, .int (nI w)), (2, .ref 0), (3, .int (nI p)), (4, .int (nI e))]) (st' := [.int x, .int (nI (rr.length)), .ref 23]) (z' := zL) rfl trivial ?_
                refine ww_br xCC okX4_value 89 (P := x = 0) (t1 := 174) (t2 := 178) (r := [.int (nI (rr.length)), .ref 23]) rfl (fun c10 => ?_) (fun c10 => ?_)
                · skip
                  have h171 := c10
                  refine ww_blk xCC okX4_value 90 2 (ps := []) (pc' := 179) (lv' := [(10, .int x), (9, .int (nI c)), (8, .int (nI (s0 + i))), (7, .int (nI ((x :: rr).length))), (5, .ref 11), (6, .ref 17), (0, .ref 8), (1, .int (nI w)), (2, .ref 0), (3, .int (nI p)), (4, .int (nI e))]) (st' := [.int 1, .int (nI (rr.length)), .ref 23]) (z' := zL) rfl trivial ?_
                  refine ww_blk xCC okX4_value 93 2 (ps := [vp_in (nI (rr.length)) 160]) (pc' := 224) (lv' := [(10, .int x), (9, .int (nI c)), (8, .int (nI (s0 + i))), (7, .int (nI ((x :: rr).length))), (5, .ref 11), (6, .ref 17), (0, .ref 8), (1, .int (nI w)), (2, .ref 0), (3, .int (nI p)), (4, .int (nI e))]) (st' := []) (z' := (mPut zL 23 (nI (rr.length)).toNatClampNeg 1)) rfl (vp_in_nI (by omega) (by decide)) ?_
                  rw [sCL (n := (rr.length)) (by omega)]
                  refine ww_blk xCC okX4_value 119 2 (ps := []) (pc' := 41) (lv' := [(8, .int ((nI (s0 + i)) + 1)), (10, .int x), (9, .int (nI c)), (7, .int (nI ((x :: rr).length))), (5, .ref 11), (6, .ref 17), (0, .ref 8), (1, .int (nI w)), (2, .ref 0), (3, .int (nI p)), (4, .int (nI e))]) (st' := []) (z' := (mPut zL 23 (rr.length) 1)) rfl trivial ?_
                  rw [show nI (s0 + i) + (1 : Int32) = nI ((s0 + i) + 1) from nI_add (s0 + i) 1]
                  exact ww_cut [0, 3, 4, 5, 6, 7, 8, 9, 10] (xlc (congrArg Value.int (show (nI ((s0 + i) + 1) : Int32) = nI (s0 + (i + 1)) from rfl)) (xlc (congrArg Value.int (show (nI ((x :: rr).length) : Int32) = nI ((1 :: rr).length) from rfl)) (xlc rfl (xlc rfl (xlc rfl (xlc rfl (xlc rfl (xlc rfl (xlc rfl rfl))))))))) rfl rfl (ih41 (i + 1) (1 :: rr) (mPut zL 23 (rr.length) 1) (by omega) (by omega) (pV_step e41_1 hdrop (pS_not1 (by omega) h171)) (pV_dun e41_2 hdrop h62 (by omega)) (KN_put e41_3) (StkR_un e41_4) (by rw [List.length_cons]; omega))
                · skip
                  have h171 := c10
                  refine ww_blk xCC okX4_value 92 3 (ps := [vp_in (nI (rr.length)) 160]) (pc' := 224) (lv' := [(10, .int x), (9, .int (nI c)), (8, .int (nI (s0 + i))), (7, .int (nI ((x :: rr).length))), (5, .ref 11), (6, .ref 17), (0, .ref 8), (1, .int (nI w)), (2, .ref 0), (3, .int (nI p)), (4, .int (nI e))]) (st' := []) (z' := (mPut zL 23 (nI (rr.length)).toNatClampNeg 0)) rfl (vp_in_nI (by omega) (by decide)) ?_
                  rw [sCL (n := (rr.length)) (by omega)]
                  refine ww_blk xCC okX4_value 119 2 (ps := []) (pc' := 41) (lv' := [(8, .int ((nI (s0 + i)) + 1)), (10, .int x), (9, .int (nI c)), (7, .int (nI ((x :: rr).length))), (5, .ref 11), (6, .ref 17), (0, .ref 8), (1, .int (nI w)), (2, .ref 0), (3, .int (nI p)), (4, .int (nI e))]) (st' := []) (z' := (mPut zL 23 (rr.length) 0)) rfl trivial ?_
                  rw [show nI (s0 + i) + (1 : Int32) = nI ((s0 + i) + 1) from nI_add (s0 + i) 1]
                  exact ww_cut [0, 3, 4, 5, 6, 7, 8, 9, 10] (xlc (congrArg Value.int (show (nI ((s0 + i) + 1) : Int32) = nI (s0 + (i + 1)) from rfl)) (xlc (congrArg Value.int (show (nI ((x :: rr).length) : Int32) = nI ((0 :: rr).length) from rfl)) (xlc rfl (xlc rfl (xlc rfl (xlc rfl (xlc rfl (xlc rfl (xlc rfl rfl))))))))) rfl rfl (ih41 (i + 1) (0 :: rr) (mPut zL 23 (rr.length) 0) (by omega) (by omega) (pV_step e41_1 hdrop (pS_not0 (by omega) h171)) (pV_dun e41_2 hdrop h62 (by omega)) (KN_put e41_3) (StkR_un e41_4) (by rw [List.length_cons]; omega))
            · skip
              replace c7 : ¬ c = 10014 := fun q => c7 ((sEQ (a := c) (b := 10014) (by omega) (by omega)).mpr q)
              have h129 : 2 ≤ st.length := pV_bin2 e41_2 hdrop h62 (by omega) (by omega)
              obtain ⟨y, x, rr, rfl⟩ := pV_c2 h129
              have hl1 : (x :: rr).length = rr.length + 1 := rfl
              have hl2 : (y :: (x :: rr)).length = rr.length + 2 := rfl
              have hy0 : zL.1 23 (x :: rr).length = y := StkR_1 e41_4
              have hx0 : zL.1 23 rr.length = x := StkR_2 e41_4
              refine ww_blk xCC okX4_value 95 2 (ps := []) (pc' := 186) (lv' := [(9, .int (nI c)), (8, .int (nI (s0 + i))), (7, .int (nI ((y :: (x :: rr)).length))), (5, .ref 11), (6, .ref 17), (0, .ref 8), (1, .int (nI w)), (2, .ref 0), (3, .int (nI p)), (4, .int (nI e))]) (st' := [.int 2, .int (nI ((y :: (x :: rr)).length))]) (z' := zL) rfl trivial ?_
              refine ww_br xCC okX4_value 97 (P := 2 ≤ (nI ((y :: (x :: rr)).length))) (t1 := 191) (t2 := 189) (r := []) rfl (fun c11 => ?_) (fun c11 => absurd ((sLE (a := 2) (by decide) (by omega)).mpr (by rw [List.length_cons, List.length_cons]; omega)) c11)
              refine ww_blk xCC okX4_value 100 17 (ps := [vp_in (((nI ((y :: (x :: rr)).length)) + (-1)) - 1) 160, vp_in ((nI ((y :: (x :: rr)).length)) + (-1)) 160]) (pc' := 220) (lv' := [(7, .int ((nI ((y :: (x :: rr)).length)) + (-1))), (9, .int (nI c)), (8, .int (nI (s0 + i))), (5, .ref 11), (6, .ref 17), (0, .ref 8), (1, .int (nI w)), (2, .ref 0), (3, .int (nI p)), (4, .int (nI e))]) (st' := [.int (zL.1 23 ((nI ((y :: (x :: rr)).length)) + (-1)).toNatClampNeg), .int (zL.1 23 (((nI ((y :: (x :: rr)).length)) + (-1)) - 1).toNatClampNeg), .int (nI c), .int (((nI ((y :: (x :: rr)).length)) + (-1)) - 1), .ref 23]) (z' := zL) rfl ⟨(by rw [show nI ((y :: (x :: rr)).length) + (-1) = nI ((x :: rr).length) from pk_m1 ((x :: rr).length)]; exact vp_top (by omega)), (vp_topm (by omega))⟩ ?_
              rw [show nI ((y :: (x :: rr)).length) + (-1) = nI ((x :: rr).length) from pk_m1 ((x :: rr).length)]
              rw [sCL (n := ((x :: rr).length)) (by omega)]
              rw [hy0]
              rw [show nI ((x :: rr).length) - 1 = nI (rr.length) from nI_pred rr.length]
              rw [sCL (n := (rr.length)) (by omega)]
              rw [hx0]
              refine ww_callSNi xCC okX4_value 117 (ix := 36) (t_X4_joined l d c x y _ (by omega)) (by omega) (by decide) xyX4_joined xiX4_joined (Or.inl (lw_gt_of (List.mem_of_getElem? (i := 377) (by decide +kernel)) rfl)) rfl (rest := [.int (nI (rr.length)), .ref 23]) rfl (Nat.le_of_ble_eq_true rfl) rfl (fun v14 z12 h13 => ?_)
              rw [h13]
              refine ww_blk xCC okX4_value 118 3 (ps := [vp_in (nI (rr.length)) 160]) (pc' := 41) (lv' := [(8, .int ((nI (s0 + i)) + 1)), (7, .int (nI ((x :: rr).length))), (9, .int (nI c)), (5, .ref 11), (6, .ref 17), (0, .ref 8), (1, .int (nI w)), (2, .ref 0), (3, .int (nI p)), (4, .int (nI e))]) (st' := []) (z' := (mPut zL 23 (nI (rr.length)).toNatClampNeg (pJoin c x y))) rfl (vp_in_nI (by omega) (by decide)) ?_
              rw [show nI (s0 + i) + (1 : Int32) = nI ((s0 + i) + 1) from nI_add (s0 + i) 1]
              rw [sCL (n := (rr.length)) (by omega)]
              exact ww_cut [0, 1, 3, 4, 5, 6, 7, 8, 9] (xlc (congrArg Value.int (show (nI ((s0 + i) + 1) : Int32) = nI (s0 + (i + 1)) from rfl)) (xlc (congrArg Value.int (show (nI ((x :: rr).length) : Int32) = nI (((pJoin c x y) :: rr).length) from rfl)) (xlc rfl (xlc rfl (xlc rfl (xlc rfl (xlc rfl (xlc rfl (xlc rfl rfl))))))))) rfl rfl (ih41 (i + 1) ((pJoin c x y) :: rr) (mPut zL 23 (rr.length) (pJoin c x y)) (by omega) (by omega) (pV_step e41_1 hdrop (pS_bin h62 (by omega) (by omega))) (pV_dbin e41_2 hdrop h62 (by omega) (by omega)) (KN_put e41_3) (StkR_bin e41_4) (by rw [List.length_cons]; omega))
        · skip
          replace c2 : ¬ 10005 < c := fun q => c2 ((sLT (a := 10005) (b := c) (by omega) (by omega)).mpr q)
          have h62 := c2
          refine ww_blk xCC okX4_value 36 4 (ps := []) (pc' := 72) (lv' := [(9, .int (nI c)), (8, .int (nI (s0 + i))), (7, .int (nI (st.length))), (5, .ref 11), (6, .ref 17), (0, .ref 8), (1, .int (nI w)), (2, .ref 0), (3, .int (nI p)), (4, .int (nI e))]) (st' := [.int 160, .int (nI (st.length))]) (z' := zL) rfl trivial ?_
          refine ww_br xCC okX4_value 40 (P := (nI (st.length)) < 160) (t1 := 77) (t2 := 75) (r := []) rfl (fun c15 => ?_) (fun c15 => absurd ((sLT (b := 160) (by omega) (by decide)).mpr (by omega)) c15)
          refine ww_blk xCC okX4_value 43 5 (ps := []) (pc' := 88) (lv' := [(9, .int (nI c)), (8, .int (nI (s0 + i))), (7, .int (nI (st.length))), (5, .ref 11), (6, .ref 17), (0, .ref 8), (1, .int (nI w)), (2, .ref 0), (3, .int (nI p)), (4, .int (nI e))]) (st' := [.int 10000, .int (nI c), .int (nI (st.length)), .ref 23]) (z' := zL) rfl trivial ?_
          refine ww_br xCC okX4_value 48 (P := 10000 ≤ (nI c)) (t1 := 96) (t2 := 91) (r := [.int (nI (st.length)), .ref 23]) rfl (fun c16 => ?_) (fun c16 => ?_)
          · skip
            replace c16 : 10000 ≤ c := (sLE (a := 10000) (b := c) (by omega) (by omega)).mp c16
            have h88 := c16
            refine ww_blk xCC okX4_value 51 4 (ps := []) (pc' := 102) (lv' := [(9, .int (nI c)), (8, .int (nI (s0 + i))), (7, .int (nI (st.length))), (5, .ref 11), (6, .ref 17), (0, .ref 8), (1, .int (nI w)), (2, .ref 0), (3, .int (nI p)), (4, .int (nI e))]) (st' := [.int (nI e), .int (nI p), .ref 0, .int (nI c), .int (nI (st.length)), .ref 23]) (z' := zL) rfl trivial ?_
            refine ww_callSIi xCC okX4_value 55 (ix := 32) (t_X4_fact l d c p e zL r cnt (RX_of (fun k9 h9 => e41_3 _ (by omega)) hr) hw (by omega) hp he) (by omega) (by decide) xyX4_fact xiX4_fact (Or.inl (lw_gt_of (List.mem_of_getElem? (i := 368) (by decide +kernel)) rfl)) rfl (rest := [.int (nI (st.length)), .ref 23]) rfl (Nat.le_of_ble_eq_true rfl) rfl (fun v19 z17 h18 => ?_)
            rw [h18.1, h18.2]
            refine ww_blk xCC okX4_value 56 3 (ps := [vp_in (nI (st.length)) 160]) (pc' := 224) (lv' := [(7, .int ((nI (st.length)) + 1)), (9, .int (nI c)), (8, .int (nI (s0 + i))), (5, .ref 11), (6, .ref 17), (0, .ref 8), (1, .int (nI w)), (2, .ref 0), (3, .int (nI p)), (4, .int (nI e))]) (st' := []) (z' := (mPut zL 23 (nI (st.length)).toNatClampNeg (sF r p e c))) rfl (vp_in_nI (by omega) (by decide)) ?_
            rw [show nI (st.length) + (1 : Int32) = nI ((st.length) + 1) from nI_add (st.length) 1]
            rw [sCL (n := (st.length)) (by omega)]
            refine ww_blk xCC okX4_value 119 2 (ps := []) (pc' := 41) (lv' := [(8, .int ((nI (s0 + i)) + 1)), (7, .int (nI ((st.length) + 1))), (9, .int (nI c)), (5, .ref 11), (6, .ref 17), (0, .ref 8), (1, .int (nI w)), (2, .ref 0), (3, .int (nI p)), (4, .int (nI e))]) (st' := []) (z' := (mPut zL 23 (st.length) (sF r p e c))) rfl trivial ?_
            rw [show nI (s0 + i) + (1 : Int32) = nI ((s0 + i) + 1) from nI_add (s0 + i) 1]
            exact ww_cut [0, 1, 3, 4, 5, 6, 7, 8, 9] (xlc (congrArg Value.int (show (nI ((s0 + i) + 1) : Int32) = nI (s0 + (i + 1)) from rfl)) (xlc (congrArg Value.int (show (nI ((st.length) + 1) : Int32) = nI (((sF r p e c) :: st).length) from rfl)) (xlc rfl (xlc rfl (xlc rfl (xlc rfl (xlc rfl (xlc rfl (xlc rfl rfl))))))))) rfl rfl (ih41 (i + 1) ((sF r p e c) :: st) (mPut zL 23 (st.length) (sF r p e c)) (by omega) (by omega) (pV_push e41_1 hdrop (pS_fact h62 h88)) (pV_dpush e41_2 hdrop h62) (KN_put e41_3) (StkR_push e41_4) (by rw [List.length_cons]; omega))
          · skip
            replace c16 : ¬ 10000 ≤ c := fun q => c16 ((sLE (a := 10000) (b := c) (by omega) (by omega)).mpr q)
            have h88 := c16
            refine ww_blk xCC okX4_value 49 2 (ps := []) (pc' := 105) (lv' := [(9, .int (nI c)), (8, .int (nI (s0 + i))), (7, .int (nI (st.length))), (5, .ref 11), (6, .ref 17), (0, .ref 8), (1, .int (nI w)), (2, .ref 0), (3, .int (nI p)), (4, .int (nI e))]) (st' := [.int (nI c), .int (nI (st.length)), .ref 23]) (z' := zL) rfl trivial ?_
            refine ww_blk xCC okX4_value 56 3 (ps := [vp_in (nI (st.length)) 160]) (pc' := 224) (lv' := [(7, .int ((nI (st.length)) + 1)), (9, .int (nI c)), (8, .int (nI (s0 + i))), (5, .ref 11), (6, .ref 17), (0, .ref 8), (1, .int (nI w)), (2, .ref 0), (3, .int (nI p)), (4, .int (nI e))]) (st' := []) (z' := (mPut zL 23 (nI (st.length)).toNatClampNeg (nI c))) rfl (vp_in_nI (by omega) (by decide)) ?_
            rw [show nI (st.length) + (1 : Int32) = nI ((st.length) + 1) from nI_add (st.length) 1]
            rw [sCL (n := (st.length)) (by omega)]
            refine ww_blk xCC okX4_value 119 2 (ps := []) (pc' := 41) (lv' := [(8, .int ((nI (s0 + i)) + 1)), (7, .int (nI ((st.length) + 1))), (9, .int (nI c)), (5, .ref 11), (6, .ref 17), (0, .ref 8), (1, .int (nI w)), (2, .ref 0), (3, .int (nI p)), (4, .int (nI e))]) (st' := []) (z' := (mPut zL 23 (st.length) (nI c))) rfl trivial ?_
            rw [show nI (s0 + i) + (1 : Int32) = nI ((s0 + i) + 1) from nI_add (s0 + i) 1]
            exact ww_cut [0, 1, 3, 4, 5, 6, 7, 8, 9] (xlc (congrArg Value.int (show (nI ((s0 + i) + 1) : Int32) = nI (s0 + (i + 1)) from rfl)) (xlc (congrArg Value.int (show (nI ((st.length) + 1) : Int32) = nI (((nI c) :: st).length) from rfl)) (xlc rfl (xlc rfl (xlc rfl (xlc rfl (xlc rfl (xlc rfl (xlc rfl rfl))))))))) rfl rfl (ih41 (i + 1) ((nI c) :: st) (mPut zL 23 (st.length) (nI c)) (by omega) (by omega) (pV_push e41_1 hdrop (pS_num h62 (by omega))) (pV_dpush e41_2 hdrop h62) (KN_put e41_3) (StkR_push e41_4) (by rw [List.length_cons]; omega))
  refine ww_blk xCC okX4_value 14 1 (ps := []) (pc' := 26) (lv' := [(7, .int 0), (6, .ref 17), (5, .ref 11), (0, .ref 8), (1, .int (nI w)), (2, .ref 0), (3, .int (nI p)), (4, .int (nI e))]) (st' := [.int (nI w)]) (z' := z) rfl trivial ?_
  refine ww_br xCC okX4_value 15 (P := (nI w) = 0) (t1 := 29) (t2 := 33) (r := []) rfl (fun c20 => ?_) (fun c20 => ?_)
  · skip
    replace c20 : w = 0 := (sEQ (a := w) (b := 0) (by omega) (by omega)).mp c20
    refine ww_blk xCC okX4_value 16 2 (ps := []) (pc' := 39) (lv' := [(7, .int 0), (6, .ref 17), (5, .ref 11), (0, .ref 8), (1, .int (nI w)), (2, .ref 0), (3, .int (nI p)), (4, .int (nI e))]) (st' := [.int 0]) (z' := z) rfl trivial ?_
    refine ww_blk xCC okX4_value 23 1 (ps := []) (pc' := 41) (lv' := [(8, .int 0), (7, .int 0), (6, .ref 17), (5, .ref 11), (0, .ref 8), (1, .int (nI w)), (2, .ref 0), (3, .int (nI p)), (4, .int (nI e))]) (st' := []) (z' := z) rfl trivial ?_
    exact ww_cut [0, 1, 3, 2, 4, 5, 6, 7, 8] (xlc (congrArg Value.int (show (0 : Int32) = nI (s0 + 0) from (by first | rfl | (rw [hs0 (by omega)]; rfl)))) (xlc (congrArg Value.int (show (0 : Int32) = nI (([]).length) from rfl)) (xlc rfl (xlc rfl (xlc rfl (xlc rfl (xlc rfl (xlc rfl (xlc rfl rfl))))))))) rfl rfl (L41 (cs.length - 0 + 1) 0 ([]) z (Nat.lt_succ_self _) (Nat.zero_le _) rfl hdp (KN_rf z) (StkR_0 z) (Nat.zero_le _))
  · skip
    replace c20 : ¬ w = 0 := fun q => c20 ((sEQ (a := w) (b := 0) (by omega) (by omega)).mpr q)
    replace hB1 := hB1 (by omega)
    refine ww_blk xCC okX4_value 18 6 (ps := [vp_in ((nI w) - 1) 3]) (pc' := 41) (lv' := [(8, .int (z.1 17 ((nI w) - 1).toNatClampNeg)), (7, .int 0), (6, .ref 17), (5, .ref 11), (0, .ref 8), (1, .int (nI w)), (2, .ref 0), (3, .int (nI p)), (4, .int (nI e))]) (st' := []) (z' := z) rfl (by rw [show nI w - (1 : Int32) = nI (w - 1) from pk_sub (b := 1) (by omega)]; exact vp_in_nI (by omega) (by decide)) ?_
    rw [show nI w - (1 : Int32) = nI (w - 1) from pk_sub (b := 1) (by omega)]
    rw [sCL (n := (w - 1)) (by omega)]
    rw [hB1]
    exact ww_cut [0, 1, 3, 2, 4, 5, 6, 7, 8] (xlc (congrArg Value.int (show (nI s0 : Int32) = nI (s0 + 0) from (by first | rfl | (rw [hs0 (by omega)]; rfl)))) (xlc (congrArg Value.int (show (0 : Int32) = nI (([]).length) from rfl)) (xlc rfl (xlc rfl (xlc rfl (xlc rfl (xlc rfl (xlc rfl (xlc rfl rfl))))))))) rfl rfl (L41 (cs.length - 0 + 1) 0 ([]) z (Nat.lt_succ_self _) (Nat.zero_le _) rfl hdp (KN_rf z) (StkR_0 z) (Nat.zero_le _))

set_option maxHeartbeats 4000000 in
set_option maxRecDepth 20000 in
theorem t_X4_value_1 (l : Launch) (d : Nat) (w p e : Nat) (z : xMem) (r : sR) (cnt : Nat) (tc : Nat → sTc) (hr : RX z 0 r) (hw : sW r cnt) (ht : TX z 8 cnt tc) (hw3 : w < 3) (hp : p < 4) (he : e < 10) (hk : r 7 5 = 1) : XMi l (d + 2) yX4_value cX4_value 11 (some .int) shR [.ref 8, .int (nI w), .ref 0, .int (nI p), .int (nI e)] z (fun v z' => v = sSays tc r w p e ∧ KN z z') := by
  refine XM.of (by decide) (Nat.le_of_ble_eq_true rfl) (fun xp xe xs xm xar xbl xme xc xD xcs xad xAA xCC xhr => ?_)
  generalize xhQ : MQ xbl _ xar xs 0 0 xAA = xQ
  show ww xp l xe (xRm (d + 2)) xs xm xar xbl xme xc 11 xD xcs xad shR xAA xQ 0 [(0, .ref 8), (1, .int (nI w)), (2, .ref 0), (3, .int (nI p)), (4, .int (nI e))] [] z
  have hkc : 1 < cnt := by have := hw.2.2.2.2.2.2.2; omega
  obtain ⟨s0, hs0, hB0, hBw, hsl, hA, hdp, hok⟩ := TXk_w (ht.2.2.2 1 hkc) hw3
  have hr5 : z.1 0 14 = 1 := by rw [show z.1 0 14 = nI (r 7 5) from hr.2.2.2.2.2.2.2.2.2.2.2.2.2, hk]; rfl
  replace hBw : z.1 18 w = nI (s0 + (sPart w (tc 1)).length) := hBw
  replace hA : ∀ i, i < (sPart w (tc 1)).length → z.1 12 (s0 + i) = nI ((sPart w (tc 1)).getD i 0) := hA
  have hB1 : w ≠ 0 → z.1 18 (w - 1) = nI s0 := hB0
  obtain ⟨cs, hcs⟩ : ∃ cs, cs = sPart w (tc 1) := ⟨_, rfl⟩
  rw [← hcs] at hBw hA hsl hdp hok
  have htW : tW tc r w p e = tV (sF r p e) cs := by unfold tW; rw [hk, hcs]
  refine ww_blk xCC okX4_value 0 4 (ps := []) (pc' := 8) (lv' := [(0, .ref 8), (1, .int (nI w)), (2, .ref 0), (3, .int (nI p)), (4, .int (nI e))]) (st' := [.int (z.1 0 14), .ref 9]) (z' := z) rfl trivial ?_
  rw [hr5]
  refine ww_blk xCC okX4_value 4 6 (ps := [vp_in 1 6]) (pc' := 19) (lv' := [(5, .ref 12), (0, .ref 8), (1, .int (nI w)), (2, .ref 0), (3, .int (nI p)), (4, .int (nI e))]) (st' := [.int (z.1 0 14), .ref 10]) (z' := z) rfl (show vp_in 1 6 from (by unfold vp_in; decide)) ?_
  rw [hr5]
  refine ww_blk xCC okX4_value 10 4 (ps := [vp_in 1 6]) (pc' := 25) (lv' := [(7, .int 0), (6, .ref 18), (5, .ref 12), (0, .ref 8), (1, .int (nI w)), (2, .ref 0), (3, .int (nI p)), (4, .int (nI e))]) (st' := []) (z' := z) rfl (show vp_in 1 6 from (by unfold vp_in; decide)) ?_
  have L41 : ∀ (n41 : Nat) (i : Nat) (st : List Int32) (zL : xMem), cs.length - i < n41 → (i ≤ cs.length) → (pEv (sF r p e) (cs.drop i) st = pEv (sF r p e) cs []) → (pDp (cs.drop i) st.length = some 1) → (KN z zL) → (StkR zL st) → (st.length ≤ i) → ww xp l xe (xRm (d + 2)) xs xm xar xbl xme xc 11 xD xcs xad shR xAA xQ 41 [(8, .int (nI (s0 + i))), (7, .int (nI (st.length))), (5, .ref 12), (6, .ref 18), (0, .ref 8), (1, .int (nI w)), (2, .ref 0), (3, .int (nI p)), (4, .int (nI e))] [] zL := by
    intro n41
    induction n41 with
    | zero =>
      intro i st zL hmu41
      exact absurd hmu41 (Nat.not_lt_zero _)
    | succ n41 ih41 =>
      intro i st zL hmu41 e41_0 e41_1 e41_2 e41_3 e41_4 e41_5
      refine ww_blk xCC okX4_value 24 4 (ps := [vp_in (nI w) 3]) (pc' := 47) (lv' := [(8, .int (nI (s0 + i))), (7, .int (nI (st.length))), (5, .ref 12), (6, .ref 18), (0, .ref 8), (1, .int (nI w)), (2, .ref 0), (3, .int (nI p)), (4, .int (nI e))]) (st' := [.int (zL.1 18 (nI w).toNatClampNeg), .int (nI (s0 + i))]) (z' := zL) rfl (vp_in_nI (by omega) (by decide)) ?_
      rw [sCL (n := w) (by omega)]
      rw [show zL.1 18 w = nI (s0 + cs.length) from (congrFun (e41_3 18 (by decide)) w).trans hBw]
      refine ww_br xCC okX4_value 28 (P := (nI (s0 + cs.length)) ≤ (nI (s0 + i))) (t1 := 230) (t2 := 50) (r := []) rfl (fun c1 => ?_) (fun c1 => ?_)
      · skip
        replace c1 : (s0 + cs.length) ≤ (s0 + i) := (sLE (a := (s0 + cs.length)) (b := (s0 + i)) (by omega) (by omega)).mp c1
        refine ww_blk xCC okX4_value 121 10 (ps := [vp_in (nI w) 3, vp_in 0 160]) (pc' := 248) (lv' := [(8, .int (nI (s0 + i))), (7, .int (nI (st.length))), (5, .ref 12), (6, .ref 18), (0, .ref 8), (1, .int (nI w)), (2, .ref 0), (3, .int (nI p)), (4, .int (nI e))]) (st' := [.int (if 0 < (if (zL.1 23 0) < (xTab 3 (nI w).toNatClampNeg) then (zL.1 23 0) else (xTab 3 (nI w).toNatClampNeg)) then (if (zL.1 23 0) < (xTab 3 (nI w).toNatClampNeg) then (zL.1 23 0) else (xTab 3 (nI w).toNatClampNeg)) else 0)]) (z' := zL) rfl ⟨(vp_in_nI (by omega) (by decide)), (show vp_in 0 160 from (by unfold vp_in; decide))⟩ ?_
        rw [sCL (n := w) (by omega)]
        subst xhQ
        exact ww_iret xCC okX4_value 131 xhr rfl rfl ⟨_, rfl, ⟨(by rw [show zL.1 23 0 = tW tc r w p e from (pV_end e41_1 e41_2 e41_4 (by omega)).trans htW.symm]; exact sSays_mm tc r p e hw3), e41_3⟩⟩
      · skip
        replace c1 : ¬ (s0 + cs.length) ≤ (s0 + i) := fun q => c1 ((sLE (a := (s0 + cs.length)) (b := (s0 + i)) (by omega) (by omega)).mpr q)
        obtain ⟨c, hc⟩ : ∃ c, c = cs.getD i 0 := ⟨_, rfl⟩
        have hrd : zL.1 12 (s0 + i) = nI c := by rw [hc, e41_3 12 (by decide)]; exact hA i (by omega)
        have hdrop := pV_drop hc (show i < cs.length by omega)
        have hcb : c ≤ 10014 := hok c (by rw [hc, List.getD_eq_getElem?_getD, List.getElem?_eq_getElem (show i < cs.length by omega)]; exact List.getElem_mem _)
        refine ww_blk xCC okX4_value 29 6 (ps := [vp_in (nI (s0 + i)) 160]) (pc' := 62) (lv' := [(9, .int (zL.1 12 (nI (s0 + i)).toNatClampNeg)), (8, .int (nI (s0 + i))), (7, .int (nI (st.length))), (5, .ref 12), (6, .ref 18), (0, .ref 8), (1, .int (nI w)), (2, .ref 0), (3, .int (nI p)), (4, .int (nI e))]) (st' := [.int 10005, .int (zL.1 12 (nI (s0 + i)).toNatClampNeg)]) (z' := zL) rfl (vp_in_nI (by omega) (by decide)) ?_
        rw [sCL (n := (s0 + i)) (by omega)]
        rw [hrd]
        refine ww_br xCC okX4_value 35 (P := 10005 < (nI c)) (t1 := 112) (t2 := 65) (r := []) rfl (fun c2 => ?_) (fun c2 => ?_)
        · skip
          replace c2 : 10005 < c := (sLT (a := 10005) (b := c) (by omega) (by omega)).mp c2
          have h62 := c2
          refine ww_blk xCC okX4_value 59 2 (ps := []) (pc' := 117) (lv' := [(9, .int (nI c)), (8, .int (nI (s0 + i))), (7, .int (nI (st.length))), (5, .ref 12), (6, .ref 18), (0, .ref 8), (1, .int (nI w)), (2, .ref 0), (3, .int (nI p)), (4, .int (nI e))]) (st' := [.int 10013, .int (nI c)]) (z' := zL) rfl trivial ?_
          refine ww_br xCC okX4_value 61 (P := (nI c) = 10013) (t1 := 128) (t2 := 120) (r := []) rfl (fun c3 => ?_) (fun c3 => ?_)
          · skip
            replace c3 : c = 10013 := (sEQ (a := c) (b := 10013) (by omega) (by omega)).mp c3
            have h129 : 1 ≤ st.length := pV_un1 e41_2 hdrop h62 (by omega)
            obtain ⟨x, rr, rfl⟩ := pV_c1 h129
            have hl1 : (x :: rr).length = rr.length + 1 := rfl
            have hx0 : zL.1 23 rr.length = x := StkR_1 e41_4
            refine ww_blk xCC okX4_value 65 2 (ps := []) (pc' := 131) (lv' := [(9, .int (nI c)), (8, .int (nI (s0 + i))), (7, .int (nI ((x :: rr).length))), (5, .ref 12), (6, .ref 18), (0, .ref 8), (1, .int (nI w)), (2, .ref 0), (3, .int (nI p)), (4, .int (nI e))]) (st' := [.int 1, .int (nI ((x :: rr).length))]) (z' := zL) rfl trivial ?_
            refine ww_br xCC okX4_value 67 (P := 1 ≤ (nI ((x :: rr).length))) (t1 := 136) (t2 := 134) (r := []) rfl (fun c4 => ?_) (fun c4 => absurd ((sLE (a := 1) (by decide) (by omega)).mpr (by rw [List.length_cons]; omega)) c4)
            refine ww_blk xCC okX4_value 70 14 (ps := [vp_in ((nI ((x :: rr).length)) - 1) 160]) (pc' := 160) (lv' := [(10, .int (zL.1 23 ((nI ((x :: rr).length)) - 1).toNatClampNeg)), (9, .int (nI c)), (8, .int (nI (s0 + i))), (7, .int (nI ((x :: rr).length))), (5, .ref 12), (6, .ref 18), (0, .ref 8), (1, .int (nI w)), (2, .ref 0), (3, .int (nI p)), (4, .int (nI e))]) (st' := [.int 10014, .int (nI c), .int ((nI ((x :: rr).length)) - 1), .ref 23]) (z' := zL) rfl (vp_top (by omega)) ?_
            rw [show nI ((x :: rr).length) - 1 = nI (rr.length) from nI_pred rr.length]
            rw [sCL (n := (rr.length)) (by omega)]
            rw [hx0]
            refine ww_br xCC okX4_value 84 (P := (nI c) = 10014) (t1 := 163) (t2 := 169) (r := [.int (nI (rr.length)), .ref 23]) rfl (fun c5 => ?_) (fun c5 => ?_)
            · skip
              replace c5 : c = 10014 := (sEQ (a := c) (b := 10014) (by omega) (by omega)).mp c5
              refine ww_blk xCC okX4_value 85 3 (ps := []) (pc' := 179) (lv' := [(10, .int x), (9, .int (nI c)), (8, .int (nI (s0 + i))), (7, .int (nI ((x :: rr).length))), (5, .ref 12), (6, .ref 18), (0, .ref 8), (1, .int (nI w)), (2, .ref 0), (3, .int (nI p)), (4, .int (nI e))]) (st' := [.int (-x), .int (nI (rr.length)), .ref 23]) (z' := zL) rfl trivial ?_
              refine ww_blk xCC okX4_value 93 2 (ps := [vp_in (nI (rr.length)) 160]) (pc' := 224) (lv' := [(10, .int x), (9, .int (nI c)), (8, .int (nI (s0 + i))), (7, .int (nI ((x :: rr).length))), (5, .ref 12), (6, .ref 18), (0, .ref 8), (1, .int (nI w)), (2, .ref 0), (3, .int (nI p)), (4, .int (nI e))]) (st' := []) (z' := (mPut zL 23 (nI (rr.length)).toNatClampNeg (-x))) rfl (vp_in_nI (by omega) (by decide)) ?_
              rw [sCL (n := (rr.length)) (by omega)]
              refine ww_blk xCC okX4_value 119 2 (ps := []) (pc' := 41) (lv' := [(8, .int ((nI (s0 + i)) + 1)), (10, .int x), (9, .int (nI c)), (7, .int (nI ((x :: rr).length))), (5, .ref 12), (6, .ref 18), (0, .ref 8), (1, .int (nI w)), (2, .ref 0), (3, .int (nI p)), (4, .int (nI e))]) (st' := []) (z' := (mPut zL 23 (rr.length) (-x))) rfl trivial ?_
              rw [show nI (s0 + i) + (1 : Int32) = nI ((s0 + i) + 1) from nI_add (s0 + i) 1]
              exact ww_cut [0, 3, 4, 5, 6, 7, 8, 9, 10] (xlc (congrArg Value.int (show (nI ((s0 + i) + 1) : Int32) = nI (s0 + (i + 1)) from rfl)) (xlc (congrArg Value.int (show (nI ((x :: rr).length) : Int32) = nI (((-x) :: rr).length) from rfl)) (xlc rfl (xlc rfl (xlc rfl (xlc rfl (xlc rfl (xlc rfl (xlc rfl rfl))))))))) rfl rfl (ih41 (i + 1) ((-x) :: rr) (mPut zL 23 (rr.length) (-x)) (by omega) (by omega) (pV_step e41_1 hdrop (pS_neg (by omega))) (pV_dun e41_2 hdrop h62 (by omega)) (KN_put e41_3) (StkR_un e41_4) (by rw [List.length_cons]; omega))
            · skip
              replace c5 : ¬ c = 10014 := fun q => c5 ((sEQ (a := c) (b := 10014) (by omega) (by omega)).mpr q)
              refine ww_blk xCC okX4_value 88 1 (ps := []) (pc' := 171) (lv' := [(10, .int x), (9, .int (nI c)), (8, .int (nI (s0 + i))), (7, .int (nI ((x :: rr).length))), (5, .ref 12), (6, .ref 18), (0, .ref 8), (1, .int (nI w)), (2, .ref 0), (3, .int (nI p)), (4, .int (nI e))]) (st' := [.int x, .int (nI (rr.length)), .ref 23]) (z' := zL) rfl trivial ?_
              refine ww_br xCC okX4_value 89 (P := x = 0) (t1 := 174) (t2 := 178) (r := [.int (nI (rr.length)), .ref 23]) rfl (fun c6 => ?_) (fun c6 => ?_)
              · skip
                have h171 := c6
                refine ww_blk xCC okX4_value 90 2 (ps := []) (pc' := 179) (lv' := [(10, .int x), (9, .int (nI c)), (8, .int (nI (s0 + i))), (7, .int (nI ((x :: rr).length))), (5, .ref 12), (6, .ref 18), (0, .ref 8), (1, .int (nI w)), (2, .ref 0), (3, .int (nI p)), (4, .int (nI e))]) (st' := [.int 1, .int (nI (rr.length)), .ref 23]) (z' := zL) rfl trivial ?_
                refine ww_blk xCC okX4_value 93 2 (ps := [vp_in (nI (rr.length)) 160]) (pc' := 224) (lv' := [(10, .int x), (9, .int (nI c)), (8, .int (nI (s0 + i))), (7, .int (nI ((x :: rr).length))), (5, .ref 12), (6, .ref 18), (0, .ref 8), (1, .int (nI w)), (2, .ref 0), (3, .int (nI p)), (4, .int (nI e))]) (st' := []) (z' := (mPut zL 23 (nI (rr.length)).toNatClampNeg 1)) rfl (vp_in_nI (by omega) (by decide)) ?_
                rw [sCL (n := (rr.length)) (by omega)]
                refine ww_blk xCC okX4_value 119 2 (ps := []) (pc' := 41) (lv' := [(8, .int ((nI (s0 + i)) + 1)), (10, .int x), (9, .int (nI c)), (7, .int (nI ((x :: rr).length))), (5, .ref 12), (6, .ref 18), (0, .ref 8), (1, .int (nI w)), (2, .ref 0), (3, .int (nI p)), (4, .int (nI e))]) (st' := []) (z' := (mPut zL 23 (rr.length) 1)) rfl trivial ?_
                rw [show nI (s0 + i) + (1 : Int32) = nI ((s0 + i) + 1) from nI_add (s0 + i) 1]
                exact ww_cut [0, 3, 4, 5, 6, 7, 8, 9, 10] (xlc (congrArg Value.int (show (nI ((s0 + i) + 1) : Int32) = nI (s0 + (i + 1)) from rfl)) (xlc (congrArg Value.int (show (nI ((x :: rr).length) : Int32) = nI ((1 :: rr).length) from rfl)) (xlc rfl (xlc rfl (xlc rfl (xlc rfl (xlc rfl (xlc rfl (xlc rfl rfl))))))))) rfl rfl (ih41 (i + 1) (1 :: rr) (mPut zL 23 (rr.length) 1) (by omega) (by omega) (pV_step e41_1 hdrop (pS_not1 (by omega) h171)) (pV_dun e41_2 hdrop h62 (by omega)) (KN_put e41_3) (StkR_un e41_4) (by rw [List.length_cons]; omega))
              · skip
                have h171 := c6
                refine ww_blk xCC okX4_value 92 3 (ps := [vp_in (nI (rr.length)) 160]) (pc' := 224) (lv' := [(10, .int x), (9, .int (nI c)), (8, .int (nI (s0 + i))), (7, .int (nI ((x :: rr).length))), (5, .ref 12), (6, .ref 18), (0, .ref 8), (1, .int (nI w)), (2, .ref 0), (3, .int (nI p)), (4, .int (nI e))]) (st' := []) (z' := (mPut zL 23 (nI (rr.length)).toNatClampNeg 0)) rfl (vp_in_nI (by omega) (by decide)) ?_
                rw [sCL (n := (rr.length)) (by omega)]
                refine ww_blk xCC okX4_value 119 2 (ps := []) (pc' := 41) (lv' := [(8, .int ((nI (s0 + i)) + 1)), (10, .int x), (9, .int (nI c)), (7, .int (nI ((x :: rr).length))), (5, .ref 12), (6, .ref 18), (0, .ref 8), (1, .int (nI w)), (2, .ref 0), (3, .int (nI p)), (4, .int (nI e))]) (st' := []) (z' := (mPut zL 23 (rr.length) 0)) rfl trivial ?_
                rw [show nI (s0 + i) + (1 : Int32) = nI ((s0 + i) + 1) from nI_add (s0 + i) 1]
                exact ww_cut [0, 3, 4, 5, 6, 7, 8, 9, 10] (xlc (congrArg Value.int (show (nI ((s0 + i) + 1) : Int32) = nI (s0 + (i + 1)) from rfl)) (xlc (congrArg Value.int (show (nI ((x :: rr).length) : Int32) = nI ((0 :: rr).length) from rfl)) (xlc rfl (xlc rfl (xlc rfl (xlc rfl (xlc rfl (xlc rfl (xlc rfl rfl))))))))) rfl rfl (ih41 (i + 1) (0 :: rr) (mPut zL 23 (rr.length) 0) (by omega) (by omega) (pV_step e41_1 hdrop (pS_not0 (by omega) h171)) (pV_dun e41_2 hdrop h62 (by omega)) (KN_put e41_3) (StkR_un e41_4) (by rw [List.length_cons]; omega))
          · skip
            replace c3 : ¬ c = 10013 := fun q => c3 ((sEQ (a := c) (b := 10013) (by omega) (by omega)).mpr q)
            refine ww_blk xCC okX4_value 62 2 (ps := []) (pc' := 125) (lv' := [(9, .int (nI c)), (8, .int (nI (s0 + i))), (7, .int (nI (st.length))), (5, .ref 12), (6, .ref 18), (0, .ref 8), (1, .int (nI w)), (2, .ref 0), (3, .int (nI p)), (4, .int (nI e))]) (st' := [.int 10014, .int (nI c)]) (z' := zL) rfl trivial ?_
            refine ww_br xCC okX4_value 64 (P := (nI c) = 10014) (t1 := 128) (t2 := 183) (r := []) rfl (fun c7 => ?_) (fun c7 => ?_)
            · skip
              replace c7 : c = 10014 := (sEQ (a := c) (b := 10014) (by omega) (by omega)).mp c7
              have h129 : 1 ≤ st.length := pV_un1 e41_2 hdrop h62 (by omega)
              obtain ⟨x, rr, rfl⟩ := pV_c1 h129
              have hl1 : (x :: rr).length = rr.length + 1 := rfl
              have hx0 : zL.1 23 rr.length = x := StkR_1 e41_4
              refine ww_blk xCC okX4_value 65 2 (ps := []) (pc' := 131) (lv' := [(9, .int (nI c)), (8, .int (nI (s0 + i))), (7, .int (nI ((x :: rr).length))), (5, .ref 12), (6, .ref 18), (0, .ref 8), (1, .int (nI w)), (2, .ref 0), (3, .int (nI p)), (4, .int (nI e))]) (st' := [.int 1, .int (nI ((x :: rr).length))]) (z' := zL) rfl trivial ?_
              refine ww_br xCC okX4_value 67 (P := 1 ≤ (nI ((x :: rr).length))) (t1 := 136) (t2 := 134) (r := []) rfl (fun c8 => ?_) (fun c8 => absurd ((sLE (a := 1) (by decide) (by omega)).mpr (by rw [List.length_cons]; omega)) c8)
              refine ww_blk xCC okX4_value 70 14 (ps := [vp_in ((nI ((x :: rr).length)) - 1) 160]) (pc' := 160) (lv' := [(10, .int (zL.1 23 ((nI ((x :: rr).length)) - 1).toNatClampNeg)), (9, .int (nI c)), (8, .int (nI (s0 + i))), (7, .int (nI ((x :: rr).length))), (5, .ref 12), (6, .ref 18), (0, .ref 8), (1, .int (nI w)), (2, .ref 0), (3, .int (nI p)), (4, .int (nI e))]) (st' := [.int 10014, .int (nI c), .int ((nI ((x :: rr).length)) - 1), .ref 23]) (z' := zL) rfl (vp_top (by omega)) ?_
              rw [show nI ((x :: rr).length) - 1 = nI (rr.length) from nI_pred rr.length]
              rw [sCL (n := (rr.length)) (by omega)]
              rw [hx0]
              refine ww_br xCC okX4_value 84 (P := (nI c) = 10014) (t1 := 163) (t2 := 169) (r := [.int (nI (rr.length)), .ref 23]) rfl (fun c9 => ?_) (fun c9 => ?_)
              · skip
                replace c9 : c = 10014 := (sEQ (a := c) (b := 10014) (by omega) (by omega)).mp c9
                refine ww_blk xCC okX4_value 85 3 (ps := []) (pc' := 179) (lv' := [(10, .int x), (9, .int (nI c)), (8, .int (nI (s0 + i))), (7, .int (nI ((x :: rr).length))), (5, .ref 12), (6, .ref 18), (0, .ref 8), (1, .int (nI w)), (2, .ref 0), (3, .int (nI p)), (4, .int (nI e))]) (st' := [.int (-x), .int (nI (rr.length)), .ref 23]) (z' := zL) rfl trivial ?_
                refine ww_blk xCC okX4_value 93 2 (ps := [vp_in (nI (rr.length)) 160]) (pc' := 224) (lv' := [(10, .int x), (9, .int (nI c)), (8, .int (nI (s0 + i))), (7, .int (nI ((x :: rr).length))), (5, .ref 12), (6, .ref 18), (0, .ref 8), (1, .int (nI w)), (2, .ref 0), (3, .int (nI p)), (4, .int (nI e))]) (st' := []) (z' := (mPut zL 23 (nI (rr.length)).toNatClampNeg (-x))) rfl (vp_in_nI (by omega) (by decide)) ?_
                rw [sCL (n := (rr.length)) (by omega)]
                refine ww_blk xCC okX4_value 119 2 (ps := []) (pc' := 41) (lv' := [(8, .int ((nI (s0 + i)) + 1)), (10, .int x), (9, .int (nI c)), (7, .int (nI ((x :: rr).length))), (5, .ref 12), (6, .ref 18), (0, .ref 8), (1, .int (nI w)), (2, .ref 0), (3, .int (nI p)), (4, .int (nI e))]) (st' := []) (z' := (mPut zL 23 (rr.length) (-x))) rfl trivial ?_
                rw [show nI (s0 + i) + (1 : Int32) = nI ((s0 + i) + 1) from nI_add (s0 + i) 1]
                exact ww_cut [0, 3, 4, 5, 6, 7, 8, 9, 10] (xlc (congrArg Value.int (show (nI ((s0 + i) + 1) : Int32) = nI (s0 + (i + 1)) from rfl)) (xlc (congrArg Value.int (show (nI ((x :: rr).length) : Int32) = nI (((-x) :: rr).length) from rfl)) (xlc rfl (xlc rfl (xlc rfl (xlc rfl (xlc rfl (xlc rfl (xlc rfl rfl))))))))) rfl rfl (ih41 (i + 1) ((-x) :: rr) (mPut zL 23 (rr.length) (-x)) (by omega) (by omega) (pV_step e41_1 hdrop (pS_neg (by omega))) (pV_dun e41_2 hdrop h62 (by omega)) (KN_put e41_3) (StkR_un e41_4) (by rw [List.length_cons]; omega))
              · skip
                replace c9 : ¬ c = 10014 := fun q => c9 ((sEQ (a := c) (b := 10014) (by omega) (by omega)).mpr q)
                refine ww_blk xCC okX4_value 88 1 (ps := []) (pc' := 171) (lv' := [(10, .int x), (9, .int (nI c)), (8, .int (nI (s0 + i))), (7, .int (nI ((x :: rr).length))), (5, .ref 12), (6, .ref 18), (0, .ref 8), (1, .int (nI w)), (2, .ref 0), (3, .int (nI p)), (4, .int (nI e))]) (st' := [.int x, .int (nI (rr.length)), .ref 23]) (z' := zL) rfl trivial ?_
                refine ww_br xCC okX4_value 89 (P := x = 0) (t1 := 174) (t2 := 178) (r := [.int (nI (rr.length)), .ref 23]) rfl (fun c10 => ?_) (fun c10 => ?_)
                · skip
                  have h171 := c10
                  refine ww_blk xCC okX4_value 90 2 (ps := []) (pc' := 179) (lv' := [(10, .int x), (9, .int (nI c)), (8, .int (nI (s0 + i))), (7, .int (nI ((x :: rr).length))), (5, .ref 12), (6, .ref 18), (0, .ref 8), (1, .int (nI w)), (2, .ref 0), (3, .int (nI p)), (4, .int (nI e))]) (st' := [.int 1, .int (nI (rr.length)), .ref 23]) (z' := zL) rfl trivial ?_
                  refine ww_blk xCC okX4_value 93 2 (ps := [vp_in (nI (rr.length)) 160]) (pc' := 224) (lv' := [(10, .int x), (9, .int (nI c)), (8, .int (nI (s0 + i))), (7, .int (nI ((x :: rr).length))), (5, .ref 12), (6, .ref 18), (0, .ref 8), (1, .int (nI w)), (2, .ref 0), (3, .int (nI p)), (4, .int (nI e))]) (st' := []) (z' := (mPut zL 23 (nI (rr.length)).toNatClampNeg 1)) rfl (vp_in_nI (by omega) (by decide)) ?_
                  rw [sCL (n := (rr.length)) (by omega)]
                  refine ww_blk xCC okX4_value 119 2 (ps := []) (pc' := 41) (lv' := [(8, .int ((nI (s0 + i)) + 1)), (10, .int x), (9, .int (nI c)), (7, .int (nI ((x :: rr).length))), (5, .ref 12), (6, .ref 18), (0, .ref 8), (1, .int (nI w)), (2, .ref 0), (3, .int (nI p)), (4, .int (nI e))]) (st' := []) (z' := (mPut zL 23 (rr.length) 1)) rfl trivial ?_
                  rw [show nI (s0 + i) + (1 : Int32) = nI ((s0 + i) + 1) from nI_add (s0 + i) 1]
                  exact ww_cut [0, 3, 4, 5, 6, 7, 8, 9, 10] (xlc (congrArg Value.int (show (nI ((s0 + i) + 1) : Int32) = nI (s0 + (i + 1)) from rfl)) (xlc (congrArg Value.int (show (nI ((x :: rr).length) : Int32) = nI ((1 :: rr).length) from rfl)) (xlc rfl (xlc rfl (xlc rfl (xlc rfl (xlc rfl (xlc rfl (xlc rfl rfl))))))))) rfl rfl (ih41 (i + 1) (1 :: rr) (mPut zL 23 (rr.length) 1) (by omega) (by omega) (pV_step e41_1 hdrop (pS_not1 (by omega) h171)) (pV_dun e41_2 hdrop h62 (by omega)) (KN_put e41_3) (StkR_un e41_4) (by rw [List.length_cons]; omega))
                · skip
                  have h171 := c10
                  refine ww_blk xCC okX4_value 92 3 (ps := [vp_in (nI (rr.length)) 160]) (pc' := 224) (lv' := [(10, .int x), (9, .int (nI c)), (8, .int (nI (s0 + i))), (7, .int (nI ((x :: rr).length))), (5, .ref 12), (6, .ref 18), (0, .ref 8), (1, .int (nI w)), (2, .ref 0), (3, .int (nI p)), (4, .int (nI e))]) (st' := []) (z' := (mPut zL 23 (nI (rr.length)).toNatClampNeg 0)) rfl (vp_in_nI (by omega) (by decide)) ?_
                  rw [sCL (n := (rr.length)) (by omega)]
                  refine ww_blk xCC okX4_value 119 2 (ps := []) (pc' := 41) (lv' := [(8, .int ((nI (s0 + i)) + 1)), (10, .int x), (9, .int (nI c)), (7, .int (nI ((x :: rr).length))), (5, .ref 12), (6, .ref 18), (0, .ref 8), (1, .int (nI w)), (2, .ref 0), (3, .int (nI p)), (4, .int (nI e))]) (st' := []) (z' := (mPut zL 23 (rr.length) 0)) rfl trivial ?_
                  rw [show nI (s0 + i) + (1 : Int32) = nI ((s0 + i) + 1) from nI_add (s0 + i) 1]
                  exact ww_cut [0, 3, 4, 5, 6, 7, 8, 9, 10] (xlc (congrArg Value.int (show (nI ((s0 + i) + 1) : Int32) = nI (s0 + (i + 1)) from rfl)) (xlc (congrArg Value.int (show (nI ((x :: rr).length) : Int32) = nI ((0 :: rr).length) from rfl)) (xlc rfl (xlc rfl (xlc rfl (xlc rfl (xlc rfl (xlc rfl (xlc rfl rfl))))))))) rfl rfl (ih41 (i + 1) (0 :: rr) (mPut zL 23 (rr.length) 0) (by omega) (by omega) (pV_step e41_1 hdrop (pS_not0 (by omega) h171)) (pV_dun e41_2 hdrop h62 (by omega)) (KN_put e41_3) (StkR_un e41_4) (by rw [List.length_cons]; omega))
            · skip
              replace c7 : ¬ c = 10014 := fun q => c7 ((sEQ (a := c) (b := 10014) (by omega) (by omega)).mpr q)
              have h129 : 2 ≤ st.length := pV_bin2 e41_2 hdrop h62 (by omega) (by omega)
              obtain ⟨y, x, rr, rfl⟩ := pV_c2 h129
              have hl1 : (x :: rr).length = rr.length + 1 := rfl
              have hl2 : (y :: (x :: rr)).length = rr.length + 2 := rfl
              have hy0 : zL.1 23 (x :: rr).length = y := StkR_1 e41_4
              have hx0 : zL.1 23 rr.length = x := StkR_2 e41_4
              refine ww_blk xCC okX4_value 95 2 (ps := []) (pc' := 186) (lv' := [(9, .int (nI c)), (8, .int (nI (s0 + i))), (7, .int (nI ((y :: (x :: rr)).length))), (5, .ref 12), (6, .ref 18), (0, .ref 8), (1, .int (nI w)), (2, .ref 0), (3, .int (nI p)), (4, .int (nI e))]) (st' := [.int 2, .int (nI ((y :: (x :: rr)).length))]) (z' := zL) rfl trivial ?_
              refine ww_br xCC okX4_value 97 (P := 2 ≤ (nI ((y :: (x :: rr)).length))) (t1 := 191) (t2 := 189) (r := []) rfl (fun c11 => ?_) (fun c11 => absurd ((sLE (a := 2) (by decide) (by omega)).mpr (by rw [List.length_cons, List.length_cons]; omega)) c11)
              refine ww_blk xCC okX4_value 100 17 (ps := [vp_in (((nI ((y :: (x :: rr)).length)) + (-1)) - 1) 160, vp_in ((nI ((y :: (x :: rr)).length)) + (-1)) 160]) (pc' := 220) (lv' := [(7, .int ((nI ((y :: (x :: rr)).length)) + (-1))), (9, .int (nI c)), (8, .int (nI (s0 + i))), (5, .ref 12), (6, .ref 18), (0, .ref 8), (1, .int (nI w)), (2, .ref 0), (3, .int (nI p)), (4, .int (nI e))]) (st' := [.int (zL.1 23 ((nI ((y :: (x :: rr)).length)) + (-1)).toNatClampNeg), .int (zL.1 23 (((nI ((y :: (x :: rr)).length)) + (-1)) - 1).toNatClampNeg), .int (nI c), .int (((nI ((y :: (x :: rr)).length)) + (-1)) - 1), .ref 23]) (z' := zL) rfl ⟨(by rw [show nI ((y :: (x :: rr)).length) + (-1) = nI ((x :: rr).length) from pk_m1 ((x :: rr).length)]; exact vp_top (by omega)), (vp_topm (by omega))⟩ ?_
              rw [show nI ((y :: (x :: rr)).length) + (-1) = nI ((x :: rr).length) from pk_m1 ((x :: rr).length)]
              rw [sCL (n := ((x :: rr).length)) (by omega)]
              rw [hy0]
              rw [show nI ((x :: rr).length) - 1 = nI (rr.length) from nI_pred rr.length]
              rw [sCL (n := (rr.length)) (by omega)]
              rw [hx0]
              refine ww_callSNi xCC okX4_value 117 (ix := 36) (t_X4_joined l d c x y _ (by omega)) (by omega) (by decide) xyX4_joined xiX4_joined (Or.inl (lw_gt_of (List.mem_of_getElem? (i := 377) (by decide +kernel)) rfl)) rfl (rest := [.int (nI (rr.length)), .ref 23]) rfl (Nat.le_of_ble_eq_true rfl) rfl (fun v14 z12 h13 => ?_)
              rw [h13]
              refine ww_blk xCC okX4_value 118 3 (ps := [vp_in (nI (rr.length)) 160]) (pc' := 41) (lv' := [(8, .int ((nI (s0 + i)) + 1)), (7, .int (nI ((x :: rr).length))), (9, .int (nI c)), (5, .ref 12), (6, .ref 18), (0, .ref 8), (1, .int (nI w)), (2, .ref 0), (3, .int (nI p)), (4, .int (nI e))]) (st' := []) (z' := (mPut zL 23 (nI (rr.length)).toNatClampNeg (pJoin c x y))) rfl (vp_in_nI (by omega) (by decide)) ?_
              rw [show nI (s0 + i) + (1 : Int32) = nI ((s0 + i) + 1) from nI_add (s0 + i) 1]
              rw [sCL (n := (rr.length)) (by omega)]
              exact ww_cut [0, 1, 3, 4, 5, 6, 7, 8, 9] (xlc (congrArg Value.int (show (nI ((s0 + i) + 1) : Int32) = nI (s0 + (i + 1)) from rfl)) (xlc (congrArg Value.int (show (nI ((x :: rr).length) : Int32) = nI (((pJoin c x y) :: rr).length) from rfl)) (xlc rfl (xlc rfl (xlc rfl (xlc rfl (xlc rfl (xlc rfl (xlc rfl rfl))))))))) rfl rfl (ih41 (i + 1) ((pJoin c x y) :: rr) (mPut zL 23 (rr.length) (pJoin c x y)) (by omega) (by omega) (pV_step e41_1 hdrop (pS_bin h62 (by omega) (by omega))) (pV_dbin e41_2 hdrop h62 (by omega) (by omega)) (KN_put e41_3) (StkR_bin e41_4) (by rw [List.length_cons]; omega))
        · skip
          replace c2 : ¬ 10005 < c := fun q => c2 ((sLT (a := 10005) (b := c) (by omega) (by omega)).mpr q)
          have h62 := c2
          refine ww_blk xCC okX4_value 36 4 (ps := []) (pc' := 72) (lv' := [(9, .int (nI c)), (8, .int (nI (s0 + i))), (7, .int (nI (st.length))), (5, .ref 12), (6, .ref 18), (0, .ref 8), (1, .int (nI w)), (2, .ref 0), (3, .int (nI p)), (4, .int (nI e))]) (st' := [.int 160, .int (nI (st.length))]) (z' := zL) rfl trivial ?_
          refine ww_br xCC okX4_value 40 (P := (nI (st.length)) < 160) (t1 := 77) (t2 := 75) (r := []) rfl (fun c15 => ?_) (fun c15 => absurd ((sLT (b := 160) (by omega) (by decide)).mpr (by omega)) c15)
          refine ww_blk xCC okX4_value 43 5 (ps := []) (pc' := 88) (lv' := [(9, .int (nI c)), (8, .int (nI (s0 + i))), (7, .int (nI (st.length))), (5, .ref 12), (6, .ref 18), (0, .ref 8), (1, .int (nI w)), (2, .ref 0), (3, .int (nI p)), (4, .int (nI e))]) (st' := [.int 10000, .int (nI c), .int (nI (st.length)), .ref 23]) (z' := zL) rfl trivial ?_
          refine ww_br xCC okX4_value 48 (P := 10000 ≤ (nI c)) (t1 := 96) (t2 := 91) (r := [.int (nI (st.length)), .ref 23]) rfl (fun c16 => ?_) (fun c16 => ?_)
          · skip
            replace c16 : 10000 ≤ c := (sLE (a := 10000) (b := c) (by omega) (by omega)).mp c16
            have h88 := c16
            refine ww_blk xCC okX4_value 51 4 (ps := []) (pc' := 102) (lv' := [(9, .int (nI c)), (8, .int (nI (s0 + i))), (7, .int (nI (st.length))), (5, .ref 12), (6, .ref 18), (0, .ref 8), (1, .int (nI w)), (2, .ref 0), (3, .int (nI p)), (4, .int (nI e))]) (st' := [.int (nI e), .int (nI p), .ref 0, .int (nI c), .int (nI (st.length)), .ref 23]) (z' := zL) rfl trivial ?_
            refine ww_callSIi xCC okX4_value 55 (ix := 32) (t_X4_fact l d c p e zL r cnt (RX_of (fun k9 h9 => e41_3 _ (by omega)) hr) hw (by omega) hp he) (by omega) (by decide) xyX4_fact xiX4_fact (Or.inl (lw_gt_of (List.mem_of_getElem? (i := 368) (by decide +kernel)) rfl)) rfl (rest := [.int (nI (st.length)), .ref 23]) rfl (Nat.le_of_ble_eq_true rfl) rfl (fun v19 z17 h18 => ?_)
            rw [h18.1, h18.2]
            refine ww_blk xCC okX4_value 56 3 (ps := [vp_in (nI (st.length)) 160]) (pc' := 224) (lv' := [(7, .int ((nI (st.length)) + 1)), (9, .int (nI c)), (8, .int (nI (s0 + i))), (5, .ref 12), (6, .ref 18), (0, .ref 8), (1, .int (nI w)), (2, .ref 0), (3, .int (nI p)), (4, .int (nI e))]) (st' := []) (z' := (mPut zL 23 (nI (st.length)).toNatClampNeg (sF r p e c))) rfl (vp_in_nI (by omega) (by decide)) ?_
            rw [show nI (st.length) + (1 : Int32) = nI ((st.length) + 1) from nI_add (st.length) 1]
            rw [sCL (n := (st.length)) (by omega)]
            refine ww_blk xCC okX4_value 119 2 (ps := []) (pc' := 41) (lv' := [(8, .int ((nI (s0 + i)) + 1)), (7, .int (nI ((st.length) + 1))), (9, .int (nI c)), (5, .ref 12), (6, .ref 18), (0, .ref 8), (1, .int (nI w)), (2, .ref 0), (3, .int (nI p)), (4, .int (nI e))]) (st' := []) (z' := (mPut zL 23 (st.length) (sF r p e c))) rfl trivial ?_
            rw [show nI (s0 + i) + (1 : Int32) = nI ((s0 + i) + 1) from nI_add (s0 + i) 1]
            exact ww_cut [0, 1, 3, 4, 5, 6, 7, 8, 9] (xlc (congrArg Value.int (show (nI ((s0 + i) + 1) : Int32) = nI (s0 + (i + 1)) from rfl)) (xlc (congrArg Value.int (show (nI ((st.length) + 1) : Int32) = nI (((sF r p e c) :: st).length) from rfl)) (xlc rfl (xlc rfl (xlc rfl (xlc rfl (xlc rfl (xlc rfl (xlc rfl rfl))))))))) rfl rfl (ih41 (i + 1) ((sF r p e c) :: st) (mPut zL 23 (st.length) (sF r p e c)) (by omega) (by omega) (pV_push e41_1 hdrop (pS_fact h62 h88)) (pV_dpush e41_2 hdrop h62) (KN_put e41_3) (StkR_push e41_4) (by rw [List.length_cons]; omega))
          · skip
            replace c16 : ¬ 10000 ≤ c := fun q => c16 ((sLE (a := 10000) (b := c) (by omega) (by omega)).mpr q)
            have h88 := c16
            refine ww_blk xCC okX4_value 49 2 (ps := []) (pc' := 105) (lv' := [(9, .int (nI c)), (8, .int (nI (s0 + i))), (7, .int (nI (st.length))), (5, .ref 12), (6, .ref 18), (0, .ref 8), (1, .int (nI w)), (2, .ref 0), (3, .int (nI p)), (4, .int (nI e))]) (st' := [.int (nI c), .int (nI (st.length)), .ref 23]) (z' := zL) rfl trivial ?_
            refine ww_blk xCC okX4_value 56 3 (ps := [vp_in (nI (st.length)) 160]) (pc' := 224) (lv' := [(7, .int ((nI (st.length)) + 1)), (9, .int (nI c)), (8, .int (nI (s0 + i))), (5, .ref 12), (6, .ref 18), (0, .ref 8), (1, .int (nI w)), (2, .ref 0), (3, .int (nI p)), (4, .int (nI e))]) (st' := []) (z' := (mPut zL 23 (nI (st.length)).toNatClampNeg (nI c))) rfl (vp_in_nI (by omega) (by decide)) ?_
            rw [show nI (st.length) + (1 : Int32) = nI ((st.length) + 1) from nI_add (st.length) 1]
            rw [sCL (n := (st.length)) (by omega)]
            refine ww_blk xCC okX4_value 119 2 (ps := []) (pc' := 41) (lv' := [(8, .int ((nI (s0 + i)) + 1)), (7, .int (nI ((st.length) + 1))), (9, .int (nI c)), (5, .ref 12), (6, .ref 18), (0, .ref 8), (1, .int (nI w)), (2, .ref 0), (3, .int (nI p)), (4, .int (nI e))]) (st' := []) (z' := (mPut zL 23 (st.length) (nI c))) rfl trivial ?_
            rw [show nI (s0 + i) + (1 : Int32) = nI ((s0 + i) + 1) from nI_add (s0 + i) 1]
            exact ww_cut [0, 1, 3, 4, 5, 6, 7, 8, 9] (xlc (congrArg Value.int (show (nI ((s0 + i) + 1) : Int32) = nI (s0 + (i + 1)) from rfl)) (xlc (congrArg Value.int (show (nI ((st.length) + 1) : Int32) = nI (((nI c) :: st).length) from rfl)) (xlc rfl (xlc rfl (xlc rfl (xlc rfl (xlc rfl (xlc rfl (xlc rfl rfl))))))))) rfl rfl (ih41 (i + 1) ((nI c) :: st) (mPut zL 23 (st.length) (nI c)) (by omega) (by omega) (pV_push e41_1 hdrop (pS_num h62 (by omega))) (pV_dpush e41_2 hdrop h62) (KN_put e41_3) (StkR_push e41_4) (by rw [List.length_cons]; omega))
  refine ww_blk xCC okX4_value 14 1 (ps := []) (pc' := 26) (lv' := [(7, .int 0), (6, .ref 18), (5, .ref 12), (0, .ref 8), (1, .int (nI w)), (2, .ref 0), (3, .int (nI p)), (4, .int (nI e))]) (st' := [.int (nI w)]) (z' := z) rfl trivial ?_
  refine ww_br xCC okX4_value 15 (P := (nI w) = 0) (t1 := 29) (t2 := 33) (r := []) rfl (fun c20 => ?_) (fun c20 => ?_)
  · skip
    replace c20 : w = 0 := (sEQ (a := w) (b := 0) (by omega) (by omega)).mp c20
    refine ww_blk xCC okX4_value 16 2 (ps := []) (pc' := 39) (lv' := [(7, .int 0), (6, .ref 18), (5, .ref 12), (0, .ref 8), (1, .int (nI w)), (2, .ref 0), (3, .int (nI p)), (4, .int (nI e))]) (st' := [.int 0]) (z' := z) rfl trivial ?_
    refine ww_blk xCC okX4_value 23 1 (ps := []) (pc' := 41) (lv' := [(8, .int 0), (7, .int 0), (6, .ref 18), (5, .ref 12), (0, .ref 8), (1, .int (nI w)), (2, .ref 0), (3, .int (nI p)), (4, .int (nI e))]) (st' := []) (z' := z) rfl trivial ?_
    exact ww_cut [0, 1, 3, 2, 4, 5, 6, 7, 8] (xlc (congrArg Value.int (show (0 : Int32) = nI (s0 + 0) from (by first | rfl | (rw [hs0 (by omega)]; rfl)))) (xlc (congrArg Value.int (show (0 : Int32) = nI (([]).length) from rfl)) (xlc rfl (xlc rfl (xlc rfl (xlc rfl (xlc rfl (xlc rfl (xlc rfl rfl))))))))) rfl rfl (L41 (cs.length - 0 + 1) 0 ([]) z (Nat.lt_succ_self _) (Nat.zero_le _) rfl hdp (KN_rf z) (StkR_0 z) (Nat.zero_le _))
  · skip
    replace c20 : ¬ w = 0 := fun q => c20 ((sEQ (a := w) (b := 0) (by omega) (by omega)).mpr q)
    replace hB1 := hB1 (by omega)
    refine ww_blk xCC okX4_value 18 6 (ps := [vp_in ((nI w) - 1) 3]) (pc' := 41) (lv' := [(8, .int (z.1 18 ((nI w) - 1).toNatClampNeg)), (7, .int 0), (6, .ref 18), (5, .ref 12), (0, .ref 8), (1, .int (nI w)), (2, .ref 0), (3, .int (nI p)), (4, .int (nI e))]) (st' := []) (z' := z) rfl (by rw [show nI w - (1 : Int32) = nI (w - 1) from pk_sub (b := 1) (by omega)]; exact vp_in_nI (by omega) (by decide)) ?_
    rw [show nI w - (1 : Int32) = nI (w - 1) from pk_sub (b := 1) (by omega)]
    rw [sCL (n := (w - 1)) (by omega)]
    rw [hB1]
    exact ww_cut [0, 1, 3, 2, 4, 5, 6, 7, 8] (xlc (congrArg Value.int (show (nI s0 : Int32) = nI (s0 + 0) from (by first | rfl | (rw [hs0 (by omega)]; rfl)))) (xlc (congrArg Value.int (show (0 : Int32) = nI (([]).length) from rfl)) (xlc rfl (xlc rfl (xlc rfl (xlc rfl (xlc rfl (xlc rfl (xlc rfl rfl))))))))) rfl rfl (L41 (cs.length - 0 + 1) 0 ([]) z (Nat.lt_succ_self _) (Nat.zero_le _) rfl hdp (KN_rf z) (StkR_0 z) (Nat.zero_le _))

set_option maxHeartbeats 4000000 in
set_option maxRecDepth 20000 in
theorem t_X4_value_2 (l : Launch) (d : Nat) (w p e : Nat) (z : xMem) (r : sR) (cnt : Nat) (tc : Nat → sTc) (hr : RX z 0 r) (hw : sW r cnt) (ht : TX z 8 cnt tc) (hw3 : w < 3) (hp : p < 4) (he : e < 10) (hk : r 7 5 = 2) : XMi l (d + 2) yX4_value cX4_value 11 (some .int) shR [.ref 8, .int (nI w), .ref 0, .int (nI p), .int (nI e)] z (fun v z' => v = sSays tc r w p e ∧ KN z z') := by
  refine XM.of (by decide) (Nat.le_of_ble_eq_true rfl) (fun xp xe xs xm xar xbl xme xc xD xcs xad xAA xCC xhr => ?_)
  generalize xhQ : MQ xbl _ xar xs 0 0 xAA = xQ
  show ww xp l xe (xRm (d + 2)) xs xm xar xbl xme xc 11 xD xcs xad shR xAA xQ 0 [(0, .ref 8), (1, .int (nI w)), (2, .ref 0), (3, .int (nI p)), (4, .int (nI e))] [] z
  have hkc : 2 < cnt := by have := hw.2.2.2.2.2.2.2; omega
  obtain ⟨s0, hs0, hB0, hBw, hsl, hA, hdp, hok⟩ := TXk_w (ht.2.2.2 2 hkc) hw3
  have hr5 : z.1 0 14 = 2 := by rw [show z.1 0 14 = nI (r 7 5) from hr.2.2.2.2.2.2.2.2.2.2.2.2.2, hk]; rfl
  replace hBw : z.1 19 w = nI (s0 + (sPart w (tc 2)).length) := hBw
  replace hA : ∀ i, i < (sPart w (tc 2)).length → z.1 13 (s0 + i) = nI ((sPart w (tc 2)).getD i 0) := hA
  have hB1 : w ≠ 0 → z.1 19 (w - 1) = nI s0 := hB0
  obtain ⟨cs, hcs⟩ : ∃ cs, cs = sPart w (tc 2) := ⟨_, rfl⟩
  rw [← hcs] at hBw hA hsl hdp hok
  have htW : tW tc r w p e = tV (sF r p e) cs := by unfold tW; rw [hk, hcs]
  refine ww_blk xCC okX4_value 0 4 (ps := []) (pc' := 8) (lv' := [(0, .ref 8), (1, .int (nI w)), (2, .ref 0), (3, .int (nI p)), (4, .int (nI e))]) (st' := [.int (z.1 0 14), .ref 9]) (z' := z) rfl trivial ?_
  rw [hr5]
  refine ww_blk xCC okX4_value 4 6 (ps := [vp_in 2 6]) (pc' := 19) (lv' := [(5, .ref 13), (0, .ref 8), (1, .int (nI w)), (2, .ref 0), (3, .int (nI p)), (4, .int (nI e))]) (st' := [.int (z.1 0 14), .ref 10]) (z' := z) rfl (show vp_in 2 6 from (by unfold vp_in; decide)) ?_
  rw [hr5]
  refine ww_blk xCC okX4_value 10 4 (ps := [vp_in 2 6]) (pc' := 25) (lv' := [(7, .int 0), (6, .ref 19), (5, .ref 13), (0, .ref 8), (1, .int (nI w)), (2, .ref 0), (3, .int (nI p)), (4, .int (nI e))]) (st' := []) (z' := z) rfl (show vp_in 2 6 from (by unfold vp_in; decide)) ?_
  have L41 : ∀ (n41 : Nat) (i : Nat) (st : List Int32) (zL : xMem), cs.length - i < n41 → (i ≤ cs.length) → (pEv (sF r p e) (cs.drop i) st = pEv (sF r p e) cs []) → (pDp (cs.drop i) st.length = some 1) → (KN z zL) → (StkR zL st) → (st.length ≤ i) → ww xp l xe (xRm (d + 2)) xs xm xar xbl xme xc 11 xD xcs xad shR xAA xQ 41 [(8, .int (nI (s0 + i))), (7, .int (nI (st.length))), (5, .ref 13), (6, .ref 19), (0, .ref 8), (1, .int (nI w)), (2, .ref 0), (3, .int (nI p)), (4, .int (nI e))] [] zL := by
    intro n41
    induction n41 with
    | zero =>
      intro i st zL hmu41
      exact absurd hmu41 (Nat.not_lt_zero _)
    | succ n41 ih41 =>
      intro i st zL hmu41 e41_0 e41_1 e41_2 e41_3 e41_4 e41_5
      refine ww_blk xCC okX4_value 24 4 (ps := [vp_in (nI w) 3]) (pc' := 47) (lv' := [(8, .int (nI (s0 + i))), (7, .int (nI (st.length))), (5, .ref 13), (6, .ref 19), (0, .ref 8), (1, .int (nI w)), (2, .ref 0), (3, .int (nI p)), (4, .int (nI e))]) (st' := [.int (zL.1 19 (nI w).toNatClampNeg), .int (nI (s0 + i))]) (z' := zL) rfl (vp_in_nI (by omega) (by decide)) ?_
      rw [sCL (n := w) (by omega)]
      rw [show zL.1 19 w = nI (s0 + cs.length) from (congrFun (e41_3 19 (by decide)) w).trans hBw]
      refine ww_br xCC okX4_value 28 (P := (nI (s0 + cs.length)) ≤ (nI (s0 + i))) (t1 := 230) (t2 := 50) (r := []) rfl (fun c1 => ?_) (fun c1 => ?_)
      · skip
        replace c1 : (s0 + cs.length) ≤ (s0 + i) := (sLE (a := (s0 + cs.length)) (b := (s0 + i)) (by omega) (by omega)).mp c1
        refine ww_blk xCC okX4_value 121 10 (ps := [vp_in (nI w) 3, vp_in 0 160]) (pc' := 248) (lv' := [(8, .int (nI (s0 + i))), (7, .int (nI (st.length))), (5, .ref 13), (6, .ref 19), (0, .ref 8), (1, .int (nI w)), (2, .ref 0), (3, .int (nI p)), (4, .int (nI e))]) (st' := [.int (if 0 < (if (zL.1 23 0) < (xTab 3 (nI w).toNatClampNeg) then (zL.1 23 0) else (xTab 3 (nI w).toNatClampNeg)) then (if (zL.1 23 0) < (xTab 3 (nI w).toNatClampNeg) then (zL.1 23 0) else (xTab 3 (nI w).toNatClampNeg)) else 0)]) (z' := zL) rfl ⟨(vp_in_nI (by omega) (by decide)), (show vp_in 0 160 from (by unfold vp_in; decide))⟩ ?_
        rw [sCL (n := w) (by omega)]
        subst xhQ
        exact ww_iret xCC okX4_value 131 xhr rfl rfl ⟨_, rfl, ⟨(by rw [show zL.1 23 0 = tW tc r w p e from (pV_end e41_1 e41_2 e41_4 (by omega)).trans htW.symm]; exact sSays_mm tc r p e hw3), e41_3⟩⟩
      · skip
        replace c1 : ¬ (s0 + cs.length) ≤ (s0 + i) := fun q => c1 ((sLE (a := (s0 + cs.length)) (b := (s0 + i)) (by omega) (by omega)).mpr q)
        obtain ⟨c, hc⟩ : ∃ c, c = cs.getD i 0 := ⟨_, rfl⟩
        have hrd : zL.1 13 (s0 + i) = nI c := by rw [hc, e41_3 13 (by decide)]; exact hA i (by omega)
        have hdrop := pV_drop hc (show i < cs.length by omega)
        have hcb : c ≤ 10014 := hok c (by rw [hc, List.getD_eq_getElem?_getD, List.getElem?_eq_getElem (show i < cs.length by omega)]; exact List.getElem_mem _)
        refine ww_blk xCC okX4_value 29 6 (ps := [vp_in (nI (s0 + i)) 160]) (pc' := 62) (lv' := [(9, .int (zL.1 13 (nI (s0 + i)).toNatClampNeg)), (8, .int (nI (s0 + i))), (7, .int (nI (st.length))), (5, .ref 13), (6, .ref 19), (0, .ref 8), (1, .int (nI w)), (2, .ref 0), (3, .int (nI p)), (4, .int (nI e))]) (st' := [.int 10005, .int (zL.1 13 (nI (s0 + i)).toNatClampNeg)]) (z' := zL) rfl (vp_in_nI (by omega) (by decide)) ?_
        rw [sCL (n := (s0 + i)) (by omega)]
        rw [hrd]
        refine ww_br xCC okX4_value 35 (P := 10005 < (nI c)) (t1 := 112) (t2 := 65) (r := []) rfl (fun c2 => ?_) (fun c2 => ?_)
        · skip
          replace c2 : 10005 < c := (sLT (a := 10005) (b := c) (by omega) (by omega)).mp c2
          have h62 := c2
          refine ww_blk xCC okX4_value 59 2 (ps := []) (pc' := 117) (lv' := [(9, .int (nI c)), (8, .int (nI (s0 + i))), (7, .int (nI (st.length))), (5, .ref 13), (6, .ref 19), (0, .ref 8), (1, .int (nI w)), (2, .ref 0), (3, .int (nI p)), (4, .int (nI e))]) (st' := [.int 10013, .int (nI c)]) (z' := zL) rfl trivial ?_
          refine ww_br xCC okX4_value 61 (P := (nI c) = 10013) (t1 := 128) (t2 := 120) (r := []) rfl (fun c3 => ?_) (fun c3 => ?_)
          · skip
            replace c3 : c = 10013 := (sEQ (a := c) (b := 10013) (by omega) (by omega)).mp c3
            have h129 : 1 ≤ st.length := pV_un1 e41_2 hdrop h62 (by omega)
            obtain ⟨x, rr, rfl⟩ := pV_c1 h129
            have hl1 : (x :: rr).length = rr.length + 1 := rfl
            have hx0 : zL.1 23 rr.length = x := StkR_1 e41_4
            refine ww_blk xCC okX4_value 65 2 (ps := []) (pc' := 131) (lv' := [(9, .int (nI c)), (8, .int (nI (s0 + i))), (7, .int (nI ((x :: rr).length))), (5, .ref 13), (6, .ref 19), (0, .ref 8), (1, .int (nI w)), (2, .ref 0), (3, .int (nI p)), (4, .int (nI e))]) (st' := [.int 1, .int (nI ((x :: rr).length))]) (z' := zL) rfl trivial ?_
            refine ww_br xCC okX4_value 67 (P := 1 ≤ (nI ((x :: rr).length))) (t1 := 136) (t2 := 134) (r := []) rfl (fun c4 => ?_) (fun c4 => absurd ((sLE (a := 1) (by decide) (by omega)).mpr (by rw [List.length_cons]; omega)) c4)
            refine ww_blk xCC okX4_value 70 14 (ps := [vp_in ((nI ((x :: rr).length)) - 1) 160]) (pc' := 160) (lv' := [(10, .int (zL.1 23 ((nI ((x :: rr).length)) - 1).toNatClampNeg)), (9, .int (nI c)), (8, .int (nI (s0 + i))), (7, .int (nI ((x :: rr).length))), (5, .ref 13), (6, .ref 19), (0, .ref 8), (1, .int (nI w)), (2, .ref 0), (3, .int (nI p)), (4, .int (nI e))]) (st' := [.int 10014, .int (nI c), .int ((nI ((x :: rr).length)) - 1), .ref 23]) (z' := zL) rfl (vp_top (by omega)) ?_
            rw [show nI ((x :: rr).length) - 1 = nI (rr.length) from nI_pred rr.length]
            rw [sCL (n := (rr.length)) (by omega)]
            rw [hx0]
            refine ww_br xCC okX4_value 84 (P := (nI c) = 10014) (t1 := 163) (t2 := 169) (r := [.int (nI (rr.length)), .ref 23]) rfl (fun c5 => ?_) (fun c5 => ?_)
            · skip
              replace c5 : c = 10014 := (sEQ (a := c) (b := 10014) (by omega) (by omega)).mp c5
              refine ww_blk xCC okX4_value 85 3 (ps := []) (pc' := 179) (lv' := [(10, .int x), (9, .int (nI c)), (8, .int (nI (s0 + i))), (7, .int (nI ((x :: rr).length))), (5, .ref 13), (6, .ref 19), (0, .ref 8), (1, .int (nI w)), (2, .ref 0), (3, .int (nI p)), (4, .int (nI e))]) (st' := [.int (-x), .int (nI (rr.length)), .ref 23]) (z' := zL) rfl trivial ?_
              refine ww_blk xCC okX4_value 93 2 (ps := [vp_in (nI (rr.length)) 160]) (pc' := 224) (lv' := [(10, .int x), (9, .int (nI c)), (8, .int (nI (s0 + i))), (7, .int (nI ((x :: rr).length))), (5, .ref 13), (6, .ref 19), (0, .ref 8), (1, .int (nI w)), (2, .ref 0), (3, .int (nI p)), (4, .int (nI e))]) (st' := []) (z' := (mPut zL 23 (nI (rr.length)).toNatClampNeg (-x))) rfl (vp_in_nI (by omega) (by decide)) ?_
              rw [sCL (n := (rr.length)) (by omega)]
              refine ww_blk xCC okX4_value 119 2 (ps := []) (pc' := 41) (lv' := [(8, .int ((nI (s0 + i)) + 1)), (10, .int x), (9, .int (nI c)), (7, .int (nI ((x :: rr).length))), (5, .ref 13), (6, .ref 19), (0, .ref 8), (1, .int (nI w)), (2, .ref 0), (3, .int (nI p)), (4, .int (nI e))]) (st' := []) (z' := (mPut zL 23 (rr.length) (-x))) rfl trivial ?_
              rw [show nI (s0 + i) + (1 : Int32) = nI ((s0 + i) + 1) from nI_add (s0 + i) 1]
              exact ww_cut [0, 3, 4, 5, 6, 7, 8, 9, 10] (xlc (congrArg Value.int (show (nI ((s0 + i) + 1) : Int32) = nI (s0 + (i + 1)) from rfl)) (xlc (congrArg Value.int (show (nI ((x :: rr).length) : Int32) = nI (((-x) :: rr).length) from rfl)) (xlc rfl (xlc rfl (xlc rfl (xlc rfl (xlc rfl (xlc rfl (xlc rfl rfl))))))))) rfl rfl (ih41 (i + 1) ((-x) :: rr) (mPut zL 23 (rr.length) (-x)) (by omega) (by omega) (pV_step e41_1 hdrop (pS_neg (by omega))) (pV_dun e41_2 hdrop h62 (by omega)) (KN_put e41_3) (StkR_un e41_4) (by rw [List.length_cons]; omega))
            · skip
              replace c5 : ¬ c = 10014 := fun q => c5 ((sEQ (a := c) (b := 10014) (by omega) (by omega)).mpr q)
              refine ww_blk xCC okX4_value 88 1 (ps := []) (pc' := 171) (lv' := [(10, .int x), (9, .int (nI c)), (8, .int (nI (s0 + i))), (7, .int (nI ((x :: rr).length))), (5, .ref 13), (6, .ref 19), (0, .ref 8), (1, .int (nI w)), (2, .ref 0), (3, .int (nI p)), (4, .int (nI e))]) (st' := [.int x, .int (nI (rr.length)), .ref 23]) (z' := zL) rfl trivial ?_
              refine ww_br xCC okX4_value 89 (P := x = 0) (t1 := 174) (t2 := 178) (r := [.int (nI (rr.length)), .ref 23]) rfl (fun c6 => ?_) (fun c6 => ?_)
              · skip
                have h171 := c6
                refine ww_blk xCC okX4_value 90 2 (ps := []) (pc' := 179) (lv' := [(10, .int x), (9, .int (nI c)), (8, .int (nI (s0 + i))), (7, .int (nI ((x :: rr).length))), (5, .ref 13), (6, .ref 19), (0, .ref 8), (1, .int (nI w)), (2, .ref 0), (3, .int (nI p)), (4, .int (nI e))]) (st' := [.int 1, .int (nI (rr.length)), .ref 23]) (z' := zL) rfl trivial ?_
                refine ww_blk xCC okX4_value 93 2 (ps := [vp_in (nI (rr.length)) 160]) (pc' := 224) (lv' := [(10, .int x), (9, .int (nI c)), (8, .int (nI (s0 + i))), (7, .int (nI ((x :: rr).length))), (5, .ref 13), (6, .ref 19), (0, .ref 8), (1, .int (nI w)), (2, .ref 0), (3, .int (nI p)), (4, .int (nI e))]) (st' := []) (z' := (mPut zL 23 (nI (rr.length)).toNatClampNeg 1)) rfl (vp_in_nI (by omega) (by decide)) ?_
                rw [sCL (n := (rr.length)) (by omega)]
                refine ww_blk xCC okX4_value 119 2 (ps := []) (pc' := 41) (lv' := [(8, .int ((nI (s0 + i)) + 1)), (10, .int x), (9, .int (nI c)), (7, .int (nI ((x :: rr).length))), (5, .ref 13), (6, .ref 19), (0, .ref 8), (1, .int (nI w)), (2, .ref 0), (3, .int (nI p)), (4, .int (nI e))]) (st' := []) (z' := (mPut zL 23 (rr.length) 1)) rfl trivial ?_
                rw [show nI (s0 + i) + (1 : Int32) = nI ((s0 + i) + 1) from nI_add (s0 + i) 1]
                exact ww_cut [0, 3, 4, 5, 6, 7, 8, 9, 10] (xlc (congrArg Value.int (show (nI ((s0 + i) + 1) : Int32) = nI (s0 + (i + 1)) from rfl)) (xlc (congrArg Value.int (show (nI ((x :: rr).length) : Int32) = nI ((1 :: rr).length) from rfl)) (xlc rfl (xlc rfl (xlc rfl (xlc rfl (xlc rfl (xlc rfl (xlc rfl rfl))))))))) rfl rfl (ih41 (i + 1) (1 :: rr) (mPut zL 23 (rr.length) 1) (by omega) (by omega) (pV_step e41_1 hdrop (pS_not1 (by omega) h171)) (pV_dun e41_2 hdrop h62 (by omega)) (KN_put e41_3) (StkR_un e41_4) (by rw [List.length_cons]; omega))
              · skip
                have h171 := c6
                refine ww_blk xCC okX4_value 92 3 (ps := [vp_in (nI (rr.length)) 160]) (pc' := 224) (lv' := [(10, .int x), (9, .int (nI c)), (8, .int (nI (s0 + i))), (7, .int (nI ((x :: rr).length))), (5, .ref 13), (6, .ref 19), (0, .ref 8), (1, .int (nI w)), (2, .ref 0), (3, .int (nI p)), (4, .int (nI e))]) (st' := []) (z' := (mPut zL 23 (nI (rr.length)).toNatClampNeg 0)) rfl (vp_in_nI (by omega) (by decide)) ?_
                rw [sCL (n := (rr.length)) (by omega)]
                refine ww_blk xCC okX4_value 119 2 (ps := []) (pc' := 41) (lv' := [(8, .int ((nI (s0 + i)) + 1)), (10, .int x), (9, .int (nI c)), (7, .int (nI ((x :: rr).length))), (5, .ref 13), (6, .ref 19), (0, .ref 8), (1, .int (nI w)), (2, .ref 0), (3, .int (nI p)), (4, .int (nI e))]) (st' := []) (z' := (mPut zL 23 (rr.length) 0)) rfl trivial ?_
                rw [show nI (s0 + i) + (1 : Int32) = nI ((s0 + i) + 1) from nI_add (s0 + i) 1]
                exact ww_cut [0, 3, 4, 5, 6, 7, 8, 9, 10] (xlc (congrArg Value.int (show (nI ((s0 + i) + 1) : Int32) = nI (s0 + (i + 1)) from rfl)) (xlc (congrArg Value.int (show (nI ((x :: rr).length) : Int32) = nI ((0 :: rr).length) from rfl)) (xlc rfl (xlc rfl (xlc rfl (xlc rfl (xlc rfl (xlc rfl (xlc rfl rfl))))))))) rfl rfl (ih41 (i + 1) (0 :: rr) (mPut zL 23 (rr.length) 0) (by omega) (by omega) (pV_step e41_1 hdrop (pS_not0 (by omega) h171)) (pV_dun e41_2 hdrop h62 (by omega)) (KN_put e41_3) (StkR_un e41_4) (by rw [List.length_cons]; omega))
          · skip
            replace c3 : ¬ c = 10013 := fun q => c3 ((sEQ (a := c) (b := 10013) (by omega) (by omega)).mpr q)
            refine ww_blk xCC okX4_value 62 2 (ps := []) (pc' := 125) (lv' := [(9, .int (nI c)), (8, .int (nI (s0 + i))), (7, .int (nI (st.length))), (5, .ref 13), (6, .ref 19), (0, .ref 8), (1, .int (nI w)), (2, .ref 0), (3, .int (nI p)), (4, .int (nI e))]) (st' := [.int 10014, .int (nI c)]) (z' := zL) rfl trivial ?_
            refine ww_br xCC okX4_value 64 (P := (nI c) = 10014) (t1 := 128) (t2 := 183) (r := []) rfl (fun c7 => ?_) (fun c7 => ?_)
            · skip
              replace c7 : c = 10014 := (sEQ (a := c) (b := 10014) (by omega) (by omega)).mp c7
              have h129 : 1 ≤ st.length := pV_un1 e41_2 hdrop h62 (by omega)
              obtain ⟨x, rr, rfl⟩ := pV_c1 h129
              have hl1 : (x :: rr).length = rr.length + 1 := rfl
              have hx0 : zL.1 23 rr.length = x := StkR_1 e41_4
              refine ww_blk xCC okX4_value 65 2 (ps := []) (pc' := 131) (lv' := [(9, .int (nI c)), (8, .int (nI (s0 + i))), (7, .int (nI ((x :: rr).length))), (5, .ref 13), (6, .ref 19), (0, .ref 8), (1, .int (nI w)), (2, .ref 0), (3, .int (nI p)), (4, .int (nI e))]) (st' := [.int 1, .int (nI ((x :: rr).length))]) (z' := zL) rfl trivial ?_
              refine ww_br xCC okX4_value 67 (P := 1 ≤ (nI ((x :: rr).length))) (t1 := 136) (t2 := 134) (r := []) rfl (fun c8 => ?_) (fun c8 => absurd ((sLE (a := 1) (by decide) (by omega)).mpr (by rw [List.length_cons]; omega)) c8)
              refine ww_blk xCC okX4_value 70 14 (ps := [vp_in ((nI ((x :: rr).length)) - 1) 160]) (pc' := 160) (lv' := [(10, .int (zL.1 23 ((nI ((x :: rr).length)) - 1).toNatClampNeg)), (9, .int (nI c)), (8, .int (nI (s0 + i))), (7, .int (nI ((x :: rr).length))), (5, .ref 13), (6, .ref 19), (0, .ref 8), (1, .int (nI w)), (2, .ref 0), (3, .int (nI p)), (4, .int (nI e))]) (st' := [.int 10014, .int (nI c), .int ((nI ((x :: rr).length)) - 1), .ref 23]) (z' := zL) rfl (vp_top (by omega)) ?_
              rw [show nI ((x :: rr).length) - 1 = nI (rr.length) from nI_pred rr.length]
              rw [sCL (n := (rr.length)) (by omega)]
              rw [hx0]
              refine ww_br xCC okX4_value 84 (P := (nI c) = 10014) (t1 := 163) (t2 := 169) (r := [.int (nI (rr.length)), .ref 23]) rfl (fun c9 => ?_) (fun c9 => ?_)
              · skip
                replace c9 : c = 10014 := (sEQ (a := c) (b := 10014) (by omega) (by omega)).mp c9
                refine ww_blk xCC okX4_value 85 3 (ps := []) (pc' := 179) (lv' := [(10, .int x), (9, .int (nI c)), (8, .int (nI (s0 + i))), (7, .int (nI ((x :: rr).length))), (5, .ref 13), (6, .ref 19), (0, .ref 8), (1, .int (nI w)), (2, .ref 0), (3, .int (nI p)), (4, .int (nI e))]) (st' := [.int (-x), .int (nI (rr.length)), .ref 23]) (z' := zL) rfl trivial ?_
                refine ww_blk xCC okX4_value 93 2 (ps := [vp_in (nI (rr.length)) 160]) (pc' := 224) (lv' := [(10, .int x), (9, .int (nI c)), (8, .int (nI (s0 + i))), (7, .int (nI ((x :: rr).length))), (5, .ref 13), (6, .ref 19), (0, .ref 8), (1, .int (nI w)), (2, .ref 0), (3, .int (nI p)), (4, .int (nI e))]) (st' := []) (z' := (mPut zL 23 (nI (rr.length)).toNatClampNeg (-x))) rfl (vp_in_nI (by omega) (by decide)) ?_
                rw [sCL (n := (rr.length)) (by omega)]
                refine ww_blk xCC okX4_value 119 2 (ps := []) (pc' := 41) (lv' := [(8, .int ((nI (s0 + i)) + 1)), (10, .int x), (9, .int (nI c)), (7, .int (nI ((x :: rr).length))), (5, .ref 13), (6, .ref 19), (0, .ref 8), (1, .int (nI w)), (2, .ref 0), (3, .int (nI p)), (4, .int (nI e))]) (st' := []) (z' := (mPut zL 23 (rr.length) (-x))) rfl trivial ?_
                rw [show nI (s0 + i) + (1 : Int32) = nI ((s0 + i) + 1) from nI_add (s0 + i) 1]
                exact ww_cut [0, 3, 4, 5, 6, 7, 8, 9, 10] (xlc (congrArg Value.int (show (nI ((s0 + i) + 1) : Int32) = nI (s0 + (i + 1)) from rfl)) (xlc (congrArg Value.int (show (nI ((x :: rr).length) : Int32) = nI (((-x) :: rr).length) from rfl)) (xlc rfl (xlc rfl (xlc rfl (xlc rfl (xlc rfl (xlc rfl (xlc rfl rfl))))))))) rfl rfl (ih41 (i + 1) ((-x) :: rr) (mPut zL 23 (rr.length) (-x)) (by omega) (by omega) (pV_step e41_1 hdrop (pS_neg (by omega))) (pV_dun e41_2 hdrop h62 (by omega)) (KN_put e41_3) (StkR_un e41_4) (by rw [List.length_cons]; omega))
              · skip
                replace c9 : ¬ c = 10014 := fun q => c9 ((sEQ (a := c) (b := 10014) (by omega) (by omega)).mpr q)
                refine ww_blk xCC okX4_value 88 1 (ps := []) (pc' := 171) (lv' := [(10, .int x), (9, .int (nI c)), (8, .int (nI (s0 + i))), (7, .int (nI ((x :: rr).length))), (5, .ref 13), (6, .ref 19), (0, .ref 8), (1, .int (nI w)), (2, .ref 0), (3, .int (nI p)), (4, .int (nI e))]) (st' := [.int x, .int (nI (rr.length)), .ref 23]) (z' := zL) rfl trivial ?_
                refine ww_br xCC okX4_value 89 (P := x = 0) (t1 := 174) (t2 := 178) (r := [.int (nI (rr.length)), .ref 23]) rfl (fun c10 => ?_) (fun c10 => ?_)
                · skip
                  have h171 := c10
                  refine ww_blk xCC okX4_value 90 2 (ps := []) (pc' := 179) (lv' := [(10, .int x), (9, .int (nI c)), (8, .int (nI (s0 + i))), (7, .int (nI ((x :: rr).length))), (5, .ref 13), (6, .ref 19), (0, .ref 8), (1, .int (nI w)), (2, .ref 0), (3, .int (nI p)), (4, .int (nI e))]) (st' := [.int 1, .int (nI (rr.length)), .ref 23]) (z' := zL) rfl trivial ?_
                  refine ww_blk xCC okX4_value 93 2 (ps := [vp_in (nI (rr.length)) 160]) (pc' := 224) (lv' := [(10, .int x), (9, .int (nI c)), (8, .int (nI (s0 + i))), (7, .int (nI ((x :: rr).length))), (5, .ref 13), (6, .ref 19), (0, .ref 8), (1, .int (nI w)), (2, .ref 0), (3, .int (nI p)), (4, .int (nI e))]) (st' := []) (z' := (mPut zL 23 (nI (rr.length)).toNatClampNeg 1)) rfl (vp_in_nI (by omega) (by decide)) ?_
                  rw [sCL (n := (rr.length)) (by omega)]
                  refine ww_blk xCC okX4_value 119 2 (ps := []) (pc' := 41) (lv' := [(8, .int ((nI (s0 + i)) + 1)), (10, .int x), (9, .int (nI c)), (7, .int (nI ((x :: rr).length))), (5, .ref 13), (6, .ref 19), (0, .ref 8), (1, .int (nI w)), (2, .ref 0), (3, .int (nI p)), (4, .int (nI e))]) (st' := []) (z' := (mPut zL 23 (rr.length) 1)) rfl trivial ?_
                  rw [show nI (s0 + i) + (1 : Int32) = nI ((s0 + i) + 1) from nI_add (s0 + i) 1]
                  exact ww_cut [0, 3, 4, 5, 6, 7, 8, 9, 10] (xlc (congrArg Value.int (show (nI ((s0 + i) + 1) : Int32) = nI (s0 + (i + 1)) from rfl)) (xlc (congrArg Value.int (show (nI ((x :: rr).length) : Int32) = nI ((1 :: rr).length) from rfl)) (xlc rfl (xlc rfl (xlc rfl (xlc rfl (xlc rfl (xlc rfl (xlc rfl rfl))))))))) rfl rfl (ih41 (i + 1) (1 :: rr) (mPut zL 23 (rr.length) 1) (by omega) (by omega) (pV_step e41_1 hdrop (pS_not1 (by omega) h171)) (pV_dun e41_2 hdrop h62 (by omega)) (KN_put e41_3) (StkR_un e41_4) (by rw [List.length_cons]; omega))
                · skip
                  have h171 := c10
                  refine ww_blk xCC okX4_value 92 3 (ps := [vp_in (nI (rr.length)) 160]) (pc' := 224) (lv' := [(10, .int x), (9, .int (nI c)), (8, .int (nI (s0 + i))), (7, .int (nI ((x :: rr).length))), (5, .ref 13), (6, .ref 19), (0, .ref 8), (1, .int (nI w)), (2, .ref 0), (3, .int (nI p)), (4, .int (nI e))]) (st' := []) (z' := (mPut zL 23 (nI (rr.length)).toNatClampNeg 0)) rfl (vp_in_nI (by omega) (by decide)) ?_
                  rw [sCL (n := (rr.length)) (by omega)]
                  refine ww_blk xCC okX4_value 119 2 (ps := []) (pc' := 41) (lv' := [(8, .int ((nI (s0 + i)) + 1)), (10, .int x), (9, .int (nI c)), (7, .int (nI ((x :: rr).length))), (5, .ref 13), (6, .ref 19), (0, .ref 8), (1, .int (nI w)), (2, .ref 0), (3, .int (nI p)), (4, .int (nI e))]) (st' := []) (z' := (mPut zL 23 (rr.length) 0)) rfl trivial ?_
                  rw [show nI (s0 + i) + (1 : Int32) = nI ((s0 + i) + 1) from nI_add (s0 + i) 1]
                  exact ww_cut [0, 3, 4, 5, 6, 7, 8, 9, 10] (xlc (congrArg Value.int (show (nI ((s0 + i) + 1) : Int32) = nI (s0 + (i + 1)) from rfl)) (xlc (congrArg Value.int (show (nI ((x :: rr).length) : Int32) = nI ((0 :: rr).length) from rfl)) (xlc rfl (xlc rfl (xlc rfl (xlc rfl (xlc rfl (xlc rfl (xlc rfl rfl))))))))) rfl rfl (ih41 (i + 1) (0 :: rr) (mPut zL 23 (rr.length) 0) (by omega) (by omega) (pV_step e41_1 hdrop (pS_not0 (by omega) h171)) (pV_dun e41_2 hdrop h62 (by omega)) (KN_put e41_3) (StkR_un e41_4) (by rw [List.length_cons]; omega))
            · skip
              replace c7 : ¬ c = 10014 := fun q => c7 ((sEQ (a := c) (b := 10014) (by omega) (by omega)).mpr q)
              have h129 : 2 ≤ st.length := pV_bin2 e41_2 hdrop h62 (by omega) (by omega)
              obtain ⟨y, x, rr, rfl⟩ := pV_c2 h129
              have hl1 : (x :: rr).length = rr.length + 1 := rfl
              have hl2 : (y :: (x :: rr)).length = rr.length + 2 := rfl
              have hy0 : zL.1 23 (x :: rr).length = y := StkR_1 e41_4
              have hx0 : zL.1 23 rr.length = x := StkR_2 e41_4
              refine ww_blk xCC okX4_value 95 2 (ps := []) (pc' := 186) (lv' := [(9, .int (nI c)), (8, .int (nI (s0 + i))), (7, .int (nI ((y :: (x :: rr)).length))), (5, .ref 13), (6, .ref 19), (0, .ref 8), (1, .int (nI w)), (2, .ref 0), (3, .int (nI p)), (4, .int (nI e))]) (st' := [.int 2, .int (nI ((y :: (x :: rr)).length))]) (z' := zL) rfl trivial ?_
              refine ww_br xCC okX4_value 97 (P := 2 ≤ (nI ((y :: (x :: rr)).length))) (t1 := 191) (t2 := 189) (r := []) rfl (fun c11 => ?_) (fun c11 => absurd ((sLE (a := 2) (by decide) (by omega)).mpr (by rw [List.length_cons, List.length_cons]; omega)) c11)
              refine ww_blk xCC okX4_value 100 17 (ps := [vp_in (((nI ((y :: (x :: rr)).length)) + (-1)) - 1) 160, vp_in ((nI ((y :: (x :: rr)).length)) + (-1)) 160]) (pc' := 220) (lv' := [(7, .int ((nI ((y :: (x :: rr)).length)) + (-1))), (9, .int (nI c)), (8, .int (nI (s0 + i))), (5, .ref 13), (6, .ref 19), (0, .ref 8), (1, .int (nI w)), (2, .ref 0), (3, .int (nI p)), (4, .int (nI e))]) (st' := [.int (zL.1 23 ((nI ((y :: (x :: rr)).length)) + (-1)).toNatClampNeg), .int (zL.1 23 (((nI ((y :: (x :: rr)).length)) + (-1)) - 1).toNatClampNeg), .int (nI c), .int (((nI ((y :: (x :: rr)).length)) + (-1)) - 1), .ref 23]) (z' := zL) rfl ⟨(by rw [show nI ((y :: (x :: rr)).length) + (-1) = nI ((x :: rr).length) from pk_m1 ((x :: rr).length)]; exact vp_top (by omega)), (vp_topm (by omega))⟩ ?_
              rw [show nI ((y :: (x :: rr)).length) + (-1) = nI ((x :: rr).length) from pk_m1 ((x :: rr).length)]
              rw [sCL (n := ((x :: rr).length)) (by omega)]
              rw [hy0]
              rw [show nI ((x :: rr).length) - 1 = nI (rr.length) from nI_pred rr.length]
              rw [sCL (n := (rr.length)) (by omega)]
              rw [hx0]
              refine ww_callSNi xCC okX4_value 117 (ix := 36) (t_X4_joined l d c x y _ (by omega)) (by omega) (by decide) xyX4_joined xiX4_joined (Or.inl (lw_gt_of (List.mem_of_getElem? (i := 377) (by decide +kernel)) rfl)) rfl (rest := [.int (nI (rr.length)), .ref 23]) rfl (Nat.le_of_ble_eq_true rfl) rfl (fun v14 z12 h13 => ?_)
              rw [h13]
              refine ww_blk xCC okX4_value 118 3 (ps := [vp_in (nI (rr.length)) 160]) (pc' := 41) (lv' := [(8, .int ((nI (s0 + i)) + 1)), (7, .int (nI ((x :: rr).length))), (9, .int (nI c)), (5, .ref 13), (6, .ref 19), (0, .ref 8), (1, .int (nI w)), (2, .ref 0), (3, .int (nI p)), (4, .int (nI e))]) (st' := []) (z' := (mPut zL 23 (nI (rr.length)).toNatClampNeg (pJoin c x y))) rfl (vp_in_nI (by omega) (by decide)) ?_
              rw [show nI (s0 + i) + (1 : Int32) = nI ((s0 + i) + 1) from nI_add (s0 + i) 1]
              rw [sCL (n := (rr.length)) (by omega)]
              exact ww_cut [0, 1, 3, 4, 5, 6, 7, 8, 9] (xlc (congrArg Value.int (show (nI ((s0 + i) + 1) : Int32) = nI (s0 + (i + 1)) from rfl)) (xlc (congrArg Value.int (show (nI ((x :: rr).length) : Int32) = nI (((pJoin c x y) :: rr).length) from rfl)) (xlc rfl (xlc rfl (xlc rfl (xlc rfl (xlc rfl (xlc rfl (xlc rfl rfl))))))))) rfl rfl (ih41 (i + 1) ((pJoin c x y) :: rr) (mPut zL 23 (rr.length) (pJoin c x y)) (by omega) (by omega) (pV_step e41_1 hdrop (pS_bin h62 (by omega) (by omega))) (pV_dbin e41_2 hdrop h62 (by omega) (by omega)) (KN_put e41_3) (StkR_bin e41_4) (by rw [List.length_cons]; omega))
        · skip
          replace c2 : ¬ 10005 < c := fun q => c2 ((sLT (a := 10005) (b := c) (by omega) (by omega)).mpr q)
          have h62 := c2
          refine ww_blk xCC okX4_value 36 4 (ps := []) (pc' := 72) (lv' := [(9, .int (nI c)), (8, .int (nI (s0 + i))), (7, .int (nI (st.length))), (5, .ref 13), (6, .ref 19), (0, .ref 8), (1, .int (nI w)), (2, .ref 0), (3, .int (nI p)), (4, .int (nI e))]) (st' := [.int 160, .int (nI (st.length))]) (z' := zL) rfl trivial ?_
          refine ww_br xCC okX4_value 40 (P := (nI (st.length)) < 160) (t1 := 77) (t2 := 75) (r := []) rfl (fun c15 => ?_) (fun c15 => absurd ((sLT (b := 160) (by omega) (by decide)).mpr (by omega)) c15)
          refine ww_blk xCC okX4_value 43 5 (ps := []) (pc' := 88) (lv' := [(9, .int (nI c)), (8, .int (nI (s0 + i))), (7, .int (nI (st.length))), (5, .ref 13), (6, .ref 19), (0, .ref 8), (1, .int (nI w)), (2, .ref 0), (3, .int (nI p)), (4, .int (nI e))]) (st' := [.int 10000, .int (nI c), .int (nI (st.length)), .ref 23]) (z' := zL) rfl trivial ?_
          refine ww_br xCC okX4_value 48 (P := 10000 ≤ (nI c)) (t1 := 96) (t2 := 91) (r := [.int (nI (st.length)), .ref 23]) rfl (fun c16 => ?_) (fun c16 => ?_)
          · skip
            replace c16 : 10000 ≤ c := (sLE (a := 10000) (b := c) (by omega) (by omega)).mp c16
            have h88 := c16
            refine ww_blk xCC okX4_value 51 4 (ps := []) (pc' := 102) (lv' := [(9, .int (nI c)), (8, .int (nI (s0 + i))), (7, .int (nI (st.length))), (5, .ref 13), (6, .ref 19), (0, .ref 8), (1, .int (nI w)), (2, .ref 0), (3, .int (nI p)), (4, .int (nI e))]) (st' := [.int (nI e), .int (nI p), .ref 0, .int (nI c), .int (nI (st.length)), .ref 23]) (z' := zL) rfl trivial ?_
            refine ww_callSIi xCC okX4_value 55 (ix := 32) (t_X4_fact l d c p e zL r cnt (RX_of (fun k9 h9 => e41_3 _ (by omega)) hr) hw (by omega) hp he) (by omega) (by decide) xyX4_fact xiX4_fact (Or.inl (lw_gt_of (List.mem_of_getElem? (i := 368) (by decide +kernel)) rfl)) rfl (rest := [.int (nI (st.length)), .ref 23]) rfl (Nat.le_of_ble_eq_true rfl) rfl (fun v19 z17 h18 => ?_)
            rw [h18.1, h18.2]
            refine ww_blk xCC okX4_value 56 3 (ps := [vp_in (nI (st.length)) 160]) (pc' := 224) (lv' := [(7, .int ((nI (st.length)) + 1)), (9, .int (nI c)), (8, .int (nI (s0 + i))), (5, .ref 13), (6, .ref 19), (0, .ref 8), (1, .int (nI w)), (2, .ref 0), (3, .int (nI p)), (4, .int (nI e))]) (st' := []) (z' := (mPut zL 23 (nI (st.length)).toNatClampNeg (sF r p e c))) rfl (vp_in_nI (by omega) (by decide)) ?_
            rw [show nI (st.length) + (1 : Int32) = nI ((st.length) + 1) from nI_add (st.length) 1]
            rw [sCL (n := (st.length)) (by omega)]
            refine ww_blk xCC okX4_value 119 2 (ps := []) (pc' := 41) (lv' := [(8, .int ((nI (s0 + i)) + 1)), (7, .int (nI ((st.length) + 1))), (9, .int (nI c)), (5, .ref 13), (6, .ref 19), (0, .ref 8), (1, .int (nI w)), (2, .ref 0), (3, .int (nI p)), (4, .int (nI e))]) (st' := []) (z' := (mPut zL 23 (st.length) (sF r p e c))) rfl trivial ?_
            rw [show nI (s0 + i) + (1 : Int32) = nI ((s0 + i) + 1) from nI_add (s0 + i) 1]
            exact ww_cut [0, 1, 3, 4, 5, 6, 7, 8, 9] (xlc (congrArg Value.int (show (nI ((s0 + i) + 1) : Int32) = nI (s0 + (i + 1)) from rfl)) (xlc (congrArg Value.int (show (nI ((st.length) + 1) : Int32) = nI (((sF r p e c) :: st).length) from rfl)) (xlc rfl (xlc rfl (xlc rfl (xlc rfl (xlc rfl (xlc rfl (xlc rfl rfl))))))))) rfl rfl (ih41 (i + 1) ((sF r p e c) :: st) (mPut zL 23 (st.length) (sF r p e c)) (by omega) (by omega) (pV_push e41_1 hdrop (pS_fact h62 h88)) (pV_dpush e41_2 hdrop h62) (KN_put e41_3) (StkR_push e41_4) (by rw [List.length_cons]; omega))
          · skip
            replace c16 : ¬ 10000 ≤ c := fun q => c16 ((sLE (a := 10000) (b := c) (by omega) (by omega)).mpr q)
            have h88 := c16
            refine ww_blk xCC okX4_value 49 2 (ps := []) (pc' := 105) (lv' := [(9, .int (nI c)), (8, .int (nI (s0 + i))), (7, .int (nI (st.length))), (5, .ref 13), (6, .ref 19), (0, .ref 8), (1, .int (nI w)), (2, .ref 0), (3, .int (nI p)), (4, .int (nI e))]) (st' := [.int (nI c), .int (nI (st.length)), .ref 23]) (z' := zL) rfl trivial ?_
            refine ww_blk xCC okX4_value 56 3 (ps := [vp_in (nI (st.length)) 160]) (pc' := 224) (lv' := [(7, .int ((nI (st.length)) + 1)), (9, .int (nI c)), (8, .int (nI (s0 + i))), (5, .ref 13), (6, .ref 19), (0, .ref 8), (1, .int (nI w)), (2, .ref 0), (3, .int (nI p)), (4, .int (nI e))]) (st' := []) (z' := (mPut zL 23 (nI (st.length)).toNatClampNeg (nI c))) rfl (vp_in_nI (by omega) (by decide)) ?_
            rw [show nI (st.length) + (1 : Int32) = nI ((st.length) + 1) from nI_add (st.length) 1]
            rw [sCL (n := (st.length)) (by omega)]
            refine ww_blk xCC okX4_value 119 2 (ps := []) (pc' := 41) (lv' := [(8, .int ((nI (s0 + i)) + 1)), (7, .int (nI ((st.length) + 1))), (9, .int (nI c)), (5, .ref 13), (6, .ref 19), (0, .ref 8), (1, .int (nI w)), (2, .ref 0), (3, .int (nI p)), (4, .int (nI e))]) (st' := []) (z' := (mPut zL 23 (st.length) (nI c))) rfl trivial ?_
            rw [show nI (s0 + i) + (1 : Int32) = nI ((s0 + i) + 1) from nI_add (s0 + i) 1]
            exact ww_cut [0, 1, 3, 4, 5, 6, 7, 8, 9] (xlc (congrArg Value.int (show (nI ((s0 + i) + 1) : Int32) = nI (s0 + (i + 1)) from rfl)) (xlc (congrArg Value.int (show (nI ((st.length) + 1) : Int32) = nI (((nI c) :: st).length) from rfl)) (xlc rfl (xlc rfl (xlc rfl (xlc rfl (xlc rfl (xlc rfl (xlc rfl rfl))))))))) rfl rfl (ih41 (i + 1) ((nI c) :: st) (mPut zL 23 (st.length) (nI c)) (by omega) (by omega) (pV_push e41_1 hdrop (pS_num h62 (by omega))) (pV_dpush e41_2 hdrop h62) (KN_put e41_3) (StkR_push e41_4) (by rw [List.length_cons]; omega))
  refine ww_blk xCC okX4_value 14 1 (ps := []) (pc' := 26) (lv' := [(7, .int 0), (6, .ref 19), (5, .ref 13), (0, .ref 8), (1, .int (nI w)), (2, .ref 0), (3, .int (nI p)), (4, .int (nI e))]) (st' := [.int (nI w)]) (z' := z) rfl trivial ?_
  refine ww_br xCC okX4_value 15 (P := (nI w) = 0) (t1 := 29) (t2 := 33) (r := []) rfl (fun c20 => ?_) (fun c20 => ?_)
  · skip
    replace c20 : w = 0 := (sEQ (a := w) (b := 0) (by omega) (by omega)).mp c20
    refine ww_blk xCC okX4_value 16 2 (ps := []) (pc' := 39) (lv' := [(7, .int 0), (6, .ref 19), (5, .ref 13), (0, .ref 8), (1, .int (nI w)), (2, .ref 0), (3, .int (nI p)), (4, .int (nI e))]) (st' := [.int 0]) (z' := z) rfl trivial ?_
    refine ww_blk xCC okX4_value 23 1 (ps := []) (pc' := 41) (lv' := [(8, .int 0), (7, .int 0), (6, .ref 19), (5, .ref 13), (0, .ref 8), (1, .int (nI w)), (2, .ref 0), (3, .int (nI p)), (4, .int (nI e))]) (st' := []) (z' := z) rfl trivial ?_
    exact ww_cut [0, 1, 3, 2, 4, 5, 6, 7, 8] (xlc (congrArg Value.int (show (0 : Int32) = nI (s0 + 0) from (by first | rfl | (rw [hs0 (by omega)]; rfl)))) (xlc (congrArg Value.int (show (0 : Int32) = nI (([]).length) from rfl)) (xlc rfl (xlc rfl (xlc rfl (xlc rfl (xlc rfl (xlc rfl (xlc rfl rfl))))))))) rfl rfl (L41 (cs.length - 0 + 1) 0 ([]) z (Nat.lt_succ_self _) (Nat.zero_le _) rfl hdp (KN_rf z) (StkR_0 z) (Nat.zero_le _))
  · skip
    replace c20 : ¬ w = 0 := fun q => c20 ((sEQ (a := w) (b := 0) (by omega) (by omega)).mpr q)
    replace hB1 := hB1 (by omega)
    refine ww_blk xCC okX4_value 18 6 (ps := [vp_in ((nI w) - 1) 3]) (pc' := 41) (lv' := [(8, .int (z.1 19 ((nI w) - 1).toNatClampNeg)), (7, .int 0), (6, .ref 19), (5, .ref 13), (0, .ref 8), (1, .int (nI w)), (2, .ref 0), (3, .int (nI p)), (4, .int (nI e))]) (st' := []) (z' := z) rfl (by rw [show nI w - (1 : Int32) = nI (w - 1) from pk_sub (b := 1) (by omega)]; exact vp_in_nI (by omega) (by decide)) ?_
    rw [show nI w - (1 : Int32) = nI (w - 1) from pk_sub (b := 1) (by omega)]
    rw [sCL (n := (w - 1)) (by omega)]
    rw [hB1]
    exact ww_cut [0, 1, 3, 2, 4, 5, 6, 7, 8] (xlc (congrArg Value.int (show (nI s0 : Int32) = nI (s0 + 0) from (by first | rfl | (rw [hs0 (by omega)]; rfl)))) (xlc (congrArg Value.int (show (0 : Int32) = nI (([]).length) from rfl)) (xlc rfl (xlc rfl (xlc rfl (xlc rfl (xlc rfl (xlc rfl (xlc rfl rfl))))))))) rfl rfl (L41 (cs.length - 0 + 1) 0 ([]) z (Nat.lt_succ_self _) (Nat.zero_le _) rfl hdp (KN_rf z) (StkR_0 z) (Nat.zero_le _))

set_option maxHeartbeats 4000000 in
set_option maxRecDepth 20000 in
theorem t_X4_value_3 (l : Launch) (d : Nat) (w p e : Nat) (z : xMem) (r : sR) (cnt : Nat) (tc : Nat → sTc) (hr : RX z 0 r) (hw : sW r cnt) (ht : TX z 8 cnt tc) (hw3 : w < 3) (hp : p < 4) (he : e < 10) (hk : r 7 5 = 3) : XMi l (d + 2) yX4_value cX4_value 11 (some .int) shR [.ref 8, .int (nI w), .ref 0, .int (nI p), .int (nI e)] z (fun v z' => v = sSays tc r w p e ∧ KN z z') := by
  refine XM.of (by decide) (Nat.le_of_ble_eq_true rfl) (fun xp xe xs xm xar xbl xme xc xD xcs xad xAA xCC xhr => ?_)
  generalize xhQ : MQ xbl _ xar xs 0 0 xAA = xQ
  show ww xp l xe (xRm (d + 2)) xs xm xar xbl xme xc 11 xD xcs xad shR xAA xQ 0 [(0, .ref 8), (1, .int (nI w)), (2, .ref 0), (3, .int (nI p)), (4, .int (nI e))] [] z
  have hkc : 3 < cnt := by have := hw.2.2.2.2.2.2.2; omega
  obtain ⟨s0, hs0, hB0, hBw, hsl, hA, hdp, hok⟩ := TXk_w (ht.2.2.2 3 hkc) hw3
  have hr5 : z.1 0 14 = 3 := by rw [show z.1 0 14 = nI (r 7 5) from hr.2.2.2.2.2.2.2.2.2.2.2.2.2, hk]; rfl
  replace hBw : z.1 20 w = nI (s0 + (sPart w (tc 3)).length) := hBw
  replace hA : ∀ i, i < (sPart w (tc 3)).length → z.1 14 (s0 + i) = nI ((sPart w (tc 3)).getD i 0) := hA
  have hB1 : w ≠ 0 → z.1 20 (w - 1) = nI s0 := hB0
  obtain ⟨cs, hcs⟩ : ∃ cs, cs = sPart w (tc 3) := ⟨_, rfl⟩
  rw [← hcs] at hBw hA hsl hdp hok
  have htW : tW tc r w p e = tV (sF r p e) cs := by unfold tW; rw [hk, hcs]
  refine ww_blk xCC okX4_value 0 4 (ps := []) (pc' := 8) (lv' := [(0, .ref 8), (1, .int (nI w)), (2, .ref 0), (3, .int (nI p)), (4, .int (nI e))]) (st' := [.int (z.1 0 14), .ref 9]) (z' := z) rfl trivial ?_
  rw [hr5]
  refine ww_blk xCC okX4_value 4 6 (ps := [vp_in 3 6]) (pc' := 19) (lv' := [(5, .ref 14), (0, .ref 8), (1, .int (nI w)), (2, .ref 0), (3, .int (nI p)), (4, .int (nI e))]) (st' := [.int (z.1 0 14), .ref 10]) (z' := z) rfl (show vp_in 3 6 from (by unfold vp_in; decide)) ?_
  rw [hr5]
  refine ww_blk xCC okX4_value 10 4 (ps := [vp_in 3 6]) (pc' := 25) (lv' := [(7, .int 0), (6, .ref 20), (5, .ref 14), (0, .ref 8), (1, .int (nI w)), (2, .ref 0), (3, .int (nI p)), (4, .int (nI e))]) (st' := []) (z' := z) rfl (show vp_in 3 6 from (by unfold vp_in; decide)) ?_
  have L41 : ∀ (n41 : Nat) (i : Nat) (st : List Int32) (zL : xMem), cs.length - i < n41 → (i ≤ cs.length) → (pEv (sF r p e) (cs.drop i) st = pEv (sF r p e) cs []) → (pDp (cs.drop i) st.length = some 1) → (KN z zL) → (StkR zL st) → (st.length ≤ i) → ww xp l xe (xRm (d + 2)) xs xm xar xbl xme xc 11 xD xcs xad shR xAA xQ 41 [(8, .int (nI (s0 + i))), (7, .int (nI (st.length))), (5, .ref 14), (6, .ref 20), (0, .ref 8), (1, .int (nI w)), (2, .ref 0), (3, .int (nI p)), (4, .int (nI e))] [] zL := by
    intro n41
    induction n41 with
    | zero =>
      intro i st zL hmu41
      exact absurd hmu41 (Nat.not_lt_zero _)
    | succ n41 ih41 =>
      intro i st zL hmu41 e41_0 e41_1 e41_2 e41_3 e41_4 e41_5
      refine ww_blk xCC okX4_value 24 4 (ps := [vp_in (nI w) 3]) (pc' := 47) (lv' := [(8, .int (nI (s0 + i))), (7, .int (nI (st.length))), (5, .ref 14), (6, .ref 20), (0, .ref 8), (1, .int (nI w)), (2, .ref 0), (3, .int (nI p)), (4, .int (nI e))]) (st' := [.int (zL.1 20 (nI w).toNatClampNeg), .int (nI (s0 + i))]) (z' := zL) rfl (vp_in_nI (by omega) (by decide)) ?_
      rw [sCL (n := w) (by omega)]
      rw [show zL.1 20 w = nI (s0 + cs.length) from (congrFun (e41_3 20 (by decide)) w).trans hBw]
      refine ww_br xCC okX4_value 28 (P := (nI (s0 + cs.length)) ≤ (nI (s0 + i))) (t1 := 230) (t2 := 50) (r := []) rfl (fun c1 => ?_) (fun c1 => ?_)
      · skip
        replace c1 : (s0 + cs.length) ≤ (s0 + i) := (sLE (a := (s0 + cs.length)) (b := (s0 + i)) (by omega) (by omega)).mp c1
        refine ww_blk xCC okX4_value 121 10 (ps := [vp_in (nI w) 3, vp_in 0 160]) (pc' := 248) (lv' := [(8, .int (nI (s0 + i))), (7, .int (nI (st.length))), (5, .ref 14), (6, .ref 20), (0, .ref 8), (1, .int (nI w)), (2, .ref 0), (3, .int (nI p)), (4, .int (nI e))]) (st' := [.int (if 0 < (if (zL.1 23 0) < (xTab 3 (nI w).toNatClampNeg) then (zL.1 23 0) else (xTab 3 (nI w).toNatClampNeg)) then (if (zL.1 23 0) < (xTab 3 (nI w).toNatClampNeg) then (zL.1 23 0) else (xTab 3 (nI w).toNatClampNeg)) else 0)]) (z' := zL) rfl ⟨(vp_in_nI (by omega) (by decide)), (show vp_in 0 160 from (by unfold vp_in; decide))⟩ ?_
        rw [sCL (n := w) (by omega)]
        subst xhQ
        exact ww_iret xCC okX4_value 131 xhr rfl rfl ⟨_, rfl, ⟨(by rw [show zL.1 23 0 = tW tc r w p e from (pV_end e41_1 e41_2 e41_4 (by omega)).trans htW.symm]; exact sSays_mm tc r p e hw3), e41_3⟩⟩
      · skip
        replace c1 : ¬ (s0 + cs.length) ≤ (s0 + i) := fun q => c1 ((sLE (a := (s0 + cs.length)) (b := (s0 + i)) (by omega) (by omega)).mpr q)
        obtain ⟨c, hc⟩ : ∃ c, c = cs.getD i 0 := ⟨_, rfl⟩
        have hrd : zL.1 14 (s0 + i) = nI c := by rw [hc, e41_3 14 (by decide)]; exact hA i (by omega)
        have hdrop := pV_drop hc (show i < cs.length by omega)
        have hcb : c ≤ 10014 := hok c (by rw [hc, List.getD_eq_getElem?_getD, List.getElem?_eq_getElem (show i < cs.length by omega)]; exact List.getElem_mem _)
        refine ww_blk xCC okX4_value 29 6 (ps := [vp_in (nI (s0 + i)) 160]) (pc' := 62) (lv' := [(9, .int (zL.1 14 (nI (s0 + i)).toNatClampNeg)), (8, .int (nI (s0 + i))), (7, .int (nI (st.length))), (5, .ref 14), (6, .ref 20), (0, .ref 8), (1, .int (nI w)), (2, .ref 0), (3, .int (nI p)), (4, .int (nI e))]) (st' := [.int 10005, .int (zL.1 14 (nI (s0 + i)).toNatClampNeg)]) (z' := zL) rfl (vp_in_nI (by omega) (by decide)) ?_
        rw [sCL (n := (s0 + i)) (by omega)]
        rw [hrd]
        refine ww_br xCC okX4_value 35 (P := 10005 < (nI c)) (t1 := 112) (t2 := 65) (r := []) rfl (fun c2 => ?_) (fun c2 => ?_)
        · skip
          replace c2 : 10005 < c := (sLT (a := 10005) (b := c) (by omega) (by omega)).mp c2
          have h62 := c2
          refine ww_blk xCC okX4_value 59 2 (ps := []) (pc' := 117) (lv' := [(9, .int (nI c)), (8, .int (nI (s0 + i))), (7, .int (nI (st.length))), (5, .ref 14), (6, .ref 20), (0, .ref 8), (1, .int (nI w)), (2, .ref 0), (3, .int (nI p)), (4, .int (nI e))]) (st' := [.int 10013, .int (nI c)]) (z' := zL) rfl trivial ?_
          refine ww_br xCC okX4_value 61 (P := (nI c) = 10013) (t1 := 128) (t2 := 120) (r := []) rfl (fun c3 => ?_) (fun c3 => ?_)
          · skip
            replace c3 : c = 10013 := (sEQ (a := c) (b := 10013) (by omega) (by omega)).mp c3
            have h129 : 1 ≤ st.length := pV_un1 e41_2 hdrop h62 (by omega)
            obtain ⟨x, rr, rfl⟩ := pV_c1 h129
            have hl1 : (x :: rr).length = rr.length + 1 := rfl
            have hx0 : zL.1 23 rr.length = x := StkR_1 e41_4
            refine ww_blk xCC okX4_value 65 2 (ps := []) (pc' := 131) (lv' := [(9, .int (nI c)), (8, .int (nI (s0 + i))), (7, .int (nI ((x :: rr).length))), (5, .ref 14), (6, .ref 20), (0, .ref 8), (1, .int (nI w)), (2, .ref 0), (3, .int (nI p)), (4, .int (nI e))]) (st' := [.int 1, .int (nI ((x :: rr).length))]) (z' := zL) rfl trivial ?_
            refine ww_br xCC okX4_value 67 (P := 1 ≤ (nI ((x :: rr).length))) (t1 := 136) (t2 := 134) (r := []) rfl (fun c4 => ?_) (fun c4 => absurd ((sLE (a := 1) (by decide) (by omega)).mpr (by rw [List.length_cons]; omega)) c4)
            refine ww_blk xCC okX4_value 70 14 (ps := [vp_in ((nI ((x :: rr).length)) - 1) 160]) (pc' := 160) (lv' := [(10, .int (zL.1 23 ((nI ((x :: rr).length)) - 1).toNatClampNeg)), (9, .int (nI c)), (8, .int (nI (s0 + i))), (7, .int (nI ((x :: rr).length))), (5, .ref 14), (6, .ref 20), (0, .ref 8), (1, .int (nI w)), (2, .ref 0), (3, .int (nI p)), (4, .int (nI e))]) (st' := [.int 10014, .int (nI c), .int ((nI ((x :: rr).length)) - 1), .ref 23]) (z' := zL) rfl (vp_top (by omega)) ?_
            rw [show nI ((x :: rr).length) - 1 = nI (rr.length) from nI_pred rr.length]
            rw [sCL (n := (rr.length)) (by omega)]
            rw [hx0]
            refine ww_br xCC okX4_value 84 (P := (nI c) = 10014) (t1 := 163) (t2 := 169) (r := [.int (nI (rr.length)), .ref 23]) rfl (fun c5 => ?_) (fun c5 => ?_)
            · skip
              replace c5 : c = 10014 := (sEQ (a := c) (b := 10014) (by omega) (by omega)).mp c5
              refine ww_blk xCC okX4_value 85 3 (ps := []) (pc' := 179) (lv' := [(10, .int x), (9, .int (nI c)), (8, .int (nI (s0 + i))), (7, .int (nI ((x :: rr).length))), (5, .ref 14), (6, .ref 20), (0, .ref 8), (1, .int (nI w)), (2, .ref 0), (3, .int (nI p)), (4, .int (nI e))]) (st' := [.int (-x), .int (nI (rr.length)), .ref 23]) (z' := zL) rfl trivial ?_
              refine ww_blk xCC okX4_value 93 2 (ps := [vp_in (nI (rr.length)) 160]) (pc' := 224) (lv' := [(10, .int x), (9, .int (nI c)), (8, .int (nI (s0 + i))), (7, .int (nI ((x :: rr).length))), (5, .ref 14), (6, .ref 20), (0, .ref 8), (1, .int (nI w)), (2, .ref 0), (3, .int (nI p)), (4, .int (nI e))]) (st' := []) (z' := (mPut zL 23 (nI (rr.length)).toNatClampNeg (-x))) rfl (vp_in_nI (by omega) (by decide)) ?_
              rw [sCL (n := (rr.length)) (by omega)]
              refine ww_blk xCC okX4_value 119 2 (ps := []) (pc' := 41) (lv' := [(8, .int ((nI (s0 + i)) + 1)), (10, .int x), (9, .int (nI c)), (7, .int (nI ((x :: rr).length))), (5, .ref 14), (6, .ref 20), (0, .ref 8), (1, .int (nI w)), (2, .ref 0), (3, .int (nI p)), (4, .int (nI e))]) (st' := []) (z' := (mPut zL 23 (rr.length) (-x))) rfl trivial ?_
              rw [show nI (s0 + i) + (1 : Int32) = nI ((s0 + i) + 1) from nI_add (s0 + i) 1]
              exact ww_cut [0, 3, 4, 5, 6, 7, 8, 9, 10] (xlc (congrArg Value.int (show (nI ((s0 + i) + 1) : Int32) = nI (s0 + (i + 1)) from rfl)) (xlc (congrArg Value.int (show (nI ((x :: rr).length) : Int32) = nI (((-x) :: rr).length) from rfl)) (xlc rfl (xlc rfl (xlc rfl (xlc rfl (xlc rfl (xlc rfl (xlc rfl rfl))))))))) rfl rfl (ih41 (i + 1) ((-x) :: rr) (mPut zL 23 (rr.length) (-x)) (by omega) (by omega) (pV_step e41_1 hdrop (pS_neg (by omega))) (pV_dun e41_2 hdrop h62 (by omega)) (KN_put e41_3) (StkR_un e41_4) (by rw [List.length_cons]; omega))
            · skip
              replace c5 : ¬ c = 10014 := fun q => c5 ((sEQ (a := c) (b := 10014) (by omega) (by omega)).mpr q)
              refine ww_blk xCC okX4_value 88 1 (ps := []) (pc' := 171) (lv' := [(10, .int x), (9, .int (nI c)), (8, .int (nI (s0 + i))), (7, .int (nI ((x :: rr).length))), (5, .ref 14), (6, .ref 20), (0, .ref 8), (1, .int (nI w)), (2, .ref 0), (3, .int (nI p)), (4, .int (nI e))]) (st' := [.int x, .int (nI (rr.length)), .ref 23]) (z' := zL) rfl trivial ?_
              refine ww_br xCC okX4_value 89 (P := x = 0) (t1 := 174) (t2 := 178) (r := [.int (nI (rr.length)), .ref 23]) rfl (fun c6 => ?_) (fun c6 => ?_)
              · skip
                have h171 := c6
                refine ww_blk xCC okX4_value 90 2 (ps := []) (pc' := 179) (lv' := [(10, .int x), (9, .int (nI c)), (8, .int (nI (s0 + i))), (7, .int (nI ((x :: rr).length))), (5, .ref 14), (6, .ref 20), (0, .ref 8), (1, .int (nI w)), (2, .ref 0), (3, .int (nI p)), (4, .int (nI e))]) (st' := [.int 1, .int (nI (rr.length)), .ref 23]) (z' := zL) rfl trivial ?_
                refine ww_blk xCC okX4_value 93 2 (ps := [vp_in (nI (rr.length)) 160]) (pc' := 224) (lv' := [(10, .int x), (9, .int (nI c)), (8, .int (nI (s0 + i))), (7, .int (nI ((x :: rr).length))), (5, .ref 14), (6, .ref 20), (0, .ref 8), (1, .int (nI w)), (2, .ref 0), (3, .int (nI p)), (4, .int (nI e))]) (st' := []) (z' := (mPut zL 23 (nI (rr.length)).toNatClampNeg 1)) rfl (vp_in_nI (by omega) (by decide)) ?_
                rw [sCL (n := (rr.length)) (by omega)]
                refine ww_blk xCC okX4_value 119 2 (ps := []) (pc' := 41) (lv' := [(8, .int ((nI (s0 + i)) + 1)), (10, .int x), (9, .int (nI c)), (7, .int (nI ((x :: rr).length))), (5, .ref 14), (6, .ref 20), (0, .ref 8), (1, .int (nI w)), (2, .ref 0), (3, .int (nI p)), (4, .int (nI e))]) (st' := []) (z' := (mPut zL 23 (rr.length) 1)) rfl trivial ?_
                rw [show nI (s0 + i) + (1 : Int32) = nI ((s0 + i) + 1) from nI_add (s0 + i) 1]
                exact ww_cut [0, 3, 4, 5, 6, 7, 8, 9, 10] (xlc (congrArg Value.int (show (nI ((s0 + i) + 1) : Int32) = nI (s0 + (i + 1)) from rfl)) (xlc (congrArg Value.int (show (nI ((x :: rr).length) : Int32) = nI ((1 :: rr).length) from rfl)) (xlc rfl (xlc rfl (xlc rfl (xlc rfl (xlc rfl (xlc rfl (xlc rfl rfl))))))))) rfl rfl (ih41 (i + 1) (1 :: rr) (mPut zL 23 (rr.length) 1) (by omega) (by omega) (pV_step e41_1 hdrop (pS_not1 (by omega) h171)) (pV_dun e41_2 hdrop h62 (by omega)) (KN_put e41_3) (StkR_un e41_4) (by rw [List.length_cons]; omega))
              · skip
                have h171 := c6
                refine ww_blk xCC okX4_value 92 3 (ps := [vp_in (nI (rr.length)) 160]) (pc' := 224) (lv' := [(10, .int x), (9, .int (nI c)), (8, .int (nI (s0 + i))), (7, .int (nI ((x :: rr).length))), (5, .ref 14), (6, .ref 20), (0, .ref 8), (1, .int (nI w)), (2, .ref 0), (3, .int (nI p)), (4, .int (nI e))]) (st' := []) (z' := (mPut zL 23 (nI (rr.length)).toNatClampNeg 0)) rfl (vp_in_nI (by omega) (by decide)) ?_
                rw [sCL (n := (rr.length)) (by omega)]
                refine ww_blk xCC okX4_value 119 2 (ps := []) (pc' := 41) (lv' := [(8, .int ((nI (s0 + i)) + 1)), (10, .int x), (9, .int (nI c)), (7, .int (nI ((x :: rr).length))), (5, .ref 14), (6, .ref 20), (0, .ref 8), (1, .int (nI w)), (2, .ref 0), (3, .int (nI p)), (4, .int (nI e))]) (st' := []) (z' := (mPut zL 23 (rr.length) 0)) rfl trivial ?_
                rw [show nI (s0 + i) + (1 : Int32) = nI ((s0 + i) + 1) from nI_add (s0 + i) 1]
                exact ww_cut [0, 3, 4, 5, 6, 7, 8, 9, 10] (xlc (congrArg Value.int (show (nI ((s0 + i) + 1) : Int32) = nI (s0 + (i + 1)) from rfl)) (xlc (congrArg Value.int (show (nI ((x :: rr).length) : Int32) = nI ((0 :: rr).length) from rfl)) (xlc rfl (xlc rfl (xlc rfl (xlc rfl (xlc rfl (xlc rfl (xlc rfl rfl))))))))) rfl rfl (ih41 (i + 1) (0 :: rr) (mPut zL 23 (rr.length) 0) (by omega) (by omega) (pV_step e41_1 hdrop (pS_not0 (by omega) h171)) (pV_dun e41_2 hdrop h62 (by omega)) (KN_put e41_3) (StkR_un e41_4) (by rw [List.length_cons]; omega))
          · skip
            replace c3 : ¬ c = 10013 := fun q => c3 ((sEQ (a := c) (b := 10013) (by omega) (by omega)).mpr q)
            refine ww_blk xCC okX4_value 62 2 (ps := []) (pc' := 125) (lv' := [(9, .int (nI c)), (8, .int (nI (s0 + i))), (7, .int (nI (st.length))), (5, .ref 14), (6, .ref 20), (0, .ref 8), (1, .int (nI w)), (2, .ref 0), (3, .int (nI p)), (4, .int (nI e))]) (st' := [.int 10014, .int (nI c)]) (z' := zL) rfl trivial ?_
            refine ww_br xCC okX4_value 64 (P := (nI c) = 10014) (t1 := 128) (t2 := 183) (r := []) rfl (fun c7 => ?_) (fun c7 => ?_)
            · skip
              replace c7 : c = 10014 := (sEQ (a := c) (b := 10014) (by omega) (by omega)).mp c7
              have h129 : 1 ≤ st.length := pV_un1 e41_2 hdrop h62 (by omega)
              obtain ⟨x, rr, rfl⟩ := pV_c1 h129
              have hl1 : (x :: rr).length = rr.length + 1 := rfl
              have hx0 : zL.1 23 rr.length = x := StkR_1 e41_4
              refine ww_blk xCC okX4_value 65 2 (ps := []) (pc' := 131) (lv' := [(9, .int (nI c)), (8, .int (nI (s0 + i))), (7, .int (nI ((x :: rr).length))), (5, .ref 14), (6, .ref 20), (0, .ref 8), (1, .int (nI w)), (2, .ref 0), (3, .int (nI p)), (4, .int (nI e))]) (st' := [.int 1, .int (nI ((x :: rr).length))]) (z' := zL) rfl trivial ?_
              refine ww_br xCC okX4_value 67 (P := 1 ≤ (nI ((x :: rr).length))) (t1 := 136) (t2 := 134) (r := []) rfl (fun c8 => ?_) (fun c8 => absurd ((sLE (a := 1) (by decide) (by omega)).mpr (by rw [List.length_cons]; omega)) c8)
              refine ww_blk xCC okX4_value 70 14 (ps := [vp_in ((nI ((x :: rr).length)) - 1) 160]) (pc' := 160) (lv' := [(10, .int (zL.1 23 ((nI ((x :: rr).length)) - 1).toNatClampNeg)), (9, .int (nI c)), (8, .int (nI (s0 + i))), (7, .int (nI ((x :: rr).length))), (5, .ref 14), (6, .ref 20), (0, .ref 8), (1, .int (nI w)), (2, .ref 0), (3, .int (nI p)), (4, .int (nI e))]) (st' := [.int 10014, .int (nI c), .int ((nI ((x :: rr).length)) - 1), .ref 23]) (z' := zL) rfl (vp_top (by omega)) ?_
              rw [show nI ((x :: rr).length) - 1 = nI (rr.length) from nI_pred rr.length]
              rw [sCL (n := (rr.length)) (by omega)]
              rw [hx0]
              refine ww_br xCC okX4_value 84 (P := (nI c) = 10014) (t1 := 163) (t2 := 169) (r := [.int (nI (rr.length)), .ref 23]) rfl (fun c9 => ?_) (fun c9 => ?_)
              · skip
                replace c9 : c = 10014 := (sEQ (a := c) (b := 10014) (by omega) (by omega)).mp c9
                refine ww_blk xCC okX4_value 85 3 (ps := []) (pc' := 179) (lv' := [(10, .int x), (9, .int (nI c)), (8, .int (nI (s0 + i))), (7, .int (nI ((x :: rr).length))), (5, .ref 14), (6, .ref 20), (0, .ref 8), (1, .int (nI w)), (2, .ref 0), (3, .int (nI p)), (4, .int (nI e))]) (st' := [.int (-x), .int (nI (rr.length)), .ref 23]) (z' := zL) rfl trivial ?_
                refine ww_blk xCC okX4_value 93 2 (ps := [vp_in (nI (rr.length)) 160]) (pc' := 224) (lv' := [(10, .int x), (9, .int (nI c)), (8, .int (nI (s0 + i))), (7, .int (nI ((x :: rr).length))), (5, .ref 14), (6, .ref 20), (0, .ref 8), (1, .int (nI w)), (2, .ref 0), (3, .int (nI p)), (4, .int (nI e))]) (st' := []) (z' := (mPut zL 23 (nI (rr.length)).toNatClampNeg (-x))) rfl (vp_in_nI (by omega) (by decide)) ?_
                rw [sCL (n := (rr.length)) (by omega)]
                refine ww_blk xCC okX4_value 119 2 (ps := []) (pc' := 41) (lv' := [(8, .int ((nI (s0 + i)) + 1)), (10, .int x), (9, .int (nI c)), (7, .int (nI ((x :: rr).length))), (5, .ref 14), (6, .ref 20), (0, .ref 8), (1, .int (nI w)), (2, .ref 0), (3, .int (nI p)), (4, .int (nI e))]) (st' := []) (z' := (mPut zL 23 (rr.length) (-x))) rfl trivial ?_
                rw [show nI (s0 + i) + (1 : Int32) = nI ((s0 + i) + 1) from nI_add (s0 + i) 1]
                exact ww_cut [0, 3, 4, 5, 6, 7, 8, 9, 10] (xlc (congrArg Value.int (show (nI ((s0 + i) + 1) : Int32) = nI (s0 + (i + 1)) from rfl)) (xlc (congrArg Value.int (show (nI ((x :: rr).length) : Int32) = nI (((-x) :: rr).length) from rfl)) (xlc rfl (xlc rfl (xlc rfl (xlc rfl (xlc rfl (xlc rfl (xlc rfl rfl))))))))) rfl rfl (ih41 (i + 1) ((-x) :: rr) (mPut zL 23 (rr.length) (-x)) (by omega) (by omega) (pV_step e41_1 hdrop (pS_neg (by omega))) (pV_dun e41_2 hdrop h62 (by omega)) (KN_put e41_3) (StkR_un e41_4) (by rw [List.length_cons]; omega))
              · skip
                replace c9 : ¬ c = 10014 := fun q => c9 ((sEQ (a := c) (b := 10014) (by omega) (by omega)).mpr q)
                refine ww_blk xCC okX4_value 88 1 (ps := []) (pc' := 171) (lv' := [(10, .int x), (9, .int (nI c)), (8, .int (nI (s0 + i))), (7, .int (nI ((x :: rr).length))), (5, .ref 14), (6, .ref 20), (0, .ref 8), (1, .int (nI w)), (2, .ref 0), (3, .int (nI p)), (4, .int (nI e))]) (st' := [.int x, .int (nI (rr.length)), .ref 23]) (z' := zL) rfl trivial ?_
                refine ww_br xCC okX4_value 89 (P := x = 0) (t1 := 174) (t2 := 178) (r := [.int (nI (rr.length)), .ref 23]) rfl (fun c10 => ?_) (fun c10 => ?_)
                · skip
                  have h171 := c10
                  refine ww_blk xCC okX4_value 90 2 (ps := []) (pc' := 179) (lv' := [(10, .int x), (9, .int (nI c)), (8, .int (nI (s0 + i))), (7, .int (nI ((x :: rr).length))), (5, .ref 14), (6, .ref 20), (0, .ref 8), (1, .int (nI w)), (2, .ref 0), (3, .int (nI p)), (4, .int (nI e))]) (st' := [.int 1, .int (nI (rr.length)), .ref 23]) (z' := zL) rfl trivial ?_
                  refine ww_blk xCC okX4_value 93 2 (ps := [vp_in (nI (rr.length)) 160]) (pc' := 224) (lv' := [(10, .int x), (9, .int (nI c)), (8, .int (nI (s0 + i))), (7, .int (nI ((x :: rr).length))), (5, .ref 14), (6, .ref 20), (0, .ref 8), (1, .int (nI w)), (2, .ref 0), (3, .int (nI p)), (4, .int (nI e))]) (st' := []) (z' := (mPut zL 23 (nI (rr.length)).toNatClampNeg 1)) rfl (vp_in_nI (by omega) (by decide)) ?_
                  rw [sCL (n := (rr.length)) (by omega)]
                  refine ww_blk xCC okX4_value 119 2 (ps := []) (pc' := 41) (lv' := [(8, .int ((nI (s0 + i)) + 1)), (10, .int x), (9, .int (nI c)), (7, .int (nI ((x :: rr).length))), (5, .ref 14), (6, .ref 20), (0, .ref 8), (1, .int (nI w)), (2, .ref 0), (3, .int (nI p)), (4, .int (nI e))]) (st' := []) (z' := (mPut zL 23 (rr.length) 1)) rfl trivial ?_
                  rw [show nI (s0 + i) + (1 : Int32) = nI ((s0 + i) + 1) from nI_add (s0 + i) 1]
                  exact ww_cut [0, 3, 4, 5, 6, 7, 8, 9, 10] (xlc (congrArg Value.int (show (nI ((s0 + i) + 1) : Int32) = nI (s0 + (i + 1)) from rfl)) (xlc (congrArg Value.int (show (nI ((x :: rr).length) : Int32) = nI ((1 :: rr).length) from rfl)) (xlc rfl (xlc rfl (xlc rfl (xlc rfl (xlc rfl (xlc rfl (xlc rfl rfl))))))))) rfl rfl (ih41 (i + 1) (1 :: rr) (mPut zL 23 (rr.length) 1) (by omega) (by omega) (pV_step e41_1 hdrop (pS_not1 (by omega) h171)) (pV_dun e41_2 hdrop h62 (by omega)) (KN_put e41_3) (StkR_un e41_4) (by rw [List.length_cons]; omega))
                · skip
                  have h171 := c10
                  refine ww_blk xCC okX4_value 92 3 (ps := [vp_in (nI (rr.length)) 160]) (pc' := 224) (lv' := [(10, .int x), (9, .int (nI c)), (8, .int (nI (s0 + i))), (7, .int (nI ((x :: rr).length))), (5, .ref 14), (6, .ref 20), (0, .ref 8), (1, .int (nI w)), (2, .ref 0), (3, .int (nI p)), (4, .int (nI e))]) (st' := []) (z' := (mPut zL 23 (nI (rr.length)).toNatClampNeg 0)) rfl (vp_in_nI (by omega) (by decide)) ?_
                  rw [sCL (n := (rr.length)) (by omega)]
                  refine ww_blk xCC okX4_value 119 2 (ps := []) (pc' := 41) (lv' := [(8, .int ((nI (s0 + i)) + 1)), (10, .int x), (9, .int (nI c)), (7, .int (nI ((x :: rr).length))), (5, .ref 14), (6, .ref 20), (0, .ref 8), (1, .int (nI w)), (2, .ref 0), (3, .int (nI p)), (4, .int (nI e))]) (st' := []) (z' := (mPut zL 23 (rr.length) 0)) rfl trivial ?_
                  rw [show nI (s0 + i) + (1 : Int32) = nI ((s0 + i) + 1) from nI_add (s0 + i) 1]
                  exact ww_cut [0, 3, 4, 5, 6, 7, 8, 9, 10] (xlc (congrArg Value.int (show (nI ((s0 + i) + 1) : Int32) = nI (s0 + (i + 1)) from rfl)) (xlc (congrArg Value.int (show (nI ((x :: rr).length) : Int32) = nI ((0 :: rr).length) from rfl)) (xlc rfl (xlc rfl (xlc rfl (xlc rfl (xlc rfl (xlc rfl (xlc rfl rfl))))))))) rfl rfl (ih41 (i + 1) (0 :: rr) (mPut zL 23 (rr.length) 0) (by omega) (by omega) (pV_step e41_1 hdrop (pS_not0 (by omega) h171)) (pV_dun e41_2 hdrop h62 (by omega)) (KN_put e41_3) (StkR_un e41_4) (by rw [List.length_cons]; omega))
            · skip
              replace c7 : ¬ c = 10014 := fun q => c7 ((sEQ (a := c) (b := 10014) (by omega) (by omega)).mpr q)
              have h129 : 2 ≤ st.length := pV_bin2 e41_2 hdrop h62 (by omega) (by omega)
              obtain ⟨y, x, rr, rfl⟩ := pV_c2 h129
              have hl1 : (x :: rr).length = rr.length + 1 := rfl
              have hl2 : (y :: (x :: rr)).length = rr.length + 2 := rfl
              have hy0 : zL.1 23 (x :: rr).length = y := StkR_1 e41_4
              have hx0 : zL.1 23 rr.length = x := StkR_2 e41_4
              refine ww_blk xCC okX4_value 95 2 (ps := []) (pc' := 186) (lv' := [(9, .int (nI c)), (8, .int (nI (s0 + i))), (7, .int (nI ((y :: (x :: rr)).length))), (5, .ref 14), (6, .ref 20), (0, .ref 8), (1, .int (nI w)), (2, .ref 0), (3, .int (nI p)), (4, .int (nI e))]) (st' := [.int 2, .int (nI ((y :: (x :: rr)).length))]) (z' := zL) rfl trivial ?_
              refine ww_br xCC okX4_value 97 (P := 2 ≤ (nI ((y :: (x :: rr)).length))) (t1 := 191) (t2 := 189) (r := []) rfl (fun c11 => ?_) (fun c11 => absurd ((sLE (a := 2) (by decide) (by omega)).mpr (by rw [List.length_cons, List.length_cons]; omega)) c11)
              refine ww_blk xCC okX4_value 100 17 (ps := [vp_in (((nI ((y :: (x :: rr)).length)) + (-1)) - 1) 160, vp_in ((nI ((y :: (x :: rr)).length)) + (-1)) 160]) (pc' := 220) (lv' := [(7, .int ((nI ((y :: (x :: rr)).length)) + (-1))), (9, .int (nI c)), (8, .int (nI (s0 + i))), (5, .ref 14), (6, .ref 20), (0, .ref 8), (1, .int (nI w)), (2, .ref 0), (3, .int (nI p)), (4, .int (nI e))]) (st' := [.int (zL.1 23 ((nI ((y :: (x :: rr)).length)) + (-1)).toNatClampNeg), .int (zL.1 23 (((nI ((y :: (x :: rr)).length)) + (-1)) - 1).toNatClampNeg), .int (nI c), .int (((nI ((y :: (x :: rr)).length)) + (-1)) - 1), .ref 23]) (z' := zL) rfl ⟨(by rw [show nI ((y :: (x :: rr)).length) + (-1) = nI ((x :: rr).length) from pk_m1 ((x :: rr).length)]; exact vp_top (by omega)), (vp_topm (by omega))⟩ ?_
              rw [show nI ((y :: (x :: rr)).length) + (-1) = nI ((x :: rr).length) from pk_m1 ((x :: rr).length)]
              rw [sCL (n := ((x :: rr).length)) (by omega)]
              rw [hy0]
              rw [show nI ((x :: rr).length) - 1 = nI (rr.length) from nI_pred rr.length]
              rw [sCL (n := (rr.length)) (by omega)]
              rw [hx0]
              refine ww_callSNi xCC okX4_value 117 (ix := 36) (t_X4_joined l d c x y _ (by omega)) (by omega) (by decide) xyX4_joined xiX4_joined (Or.inl (lw_gt_of (List.mem_of_getElem? (i := 377) (by decide +kernel)) rfl)) rfl (rest := [.int (nI (rr.length)), .ref 23]) rfl (Nat.le_of_ble_eq_true rfl) rfl (fun v14 z12 h13 => ?_)
              rw [h13]
              refine ww_blk xCC okX4_value 118 3 (ps := [vp_in (nI (rr.length)) 160]) (pc' := 41) (lv' := [(8, .int ((nI (s0 + i)) + 1)), (7, .int (nI ((x :: rr).length))), (9, .int (nI c)), (5, .ref 14), (6, .ref 20), (0, .ref 8), (1, .int (nI w)), (2, .ref 0), (3, .int (nI p)), (4, .int (nI e))]) (st' := []) (z' := (mPut zL 23 (nI (rr.length)).toNatClampNeg (pJoin c x y))) rfl (vp_in_nI (by omega) (by decide)) ?_
              rw [show nI (s0 + i) + (1 : Int32) = nI ((s0 + i) + 1) from nI_add (s0 + i) 1]
              rw [sCL (n := (rr.length)) (by omega)]
              exact ww_cut [0, 1, 3, 4, 5, 6, 7, 8, 9] (xlc (congrArg Value.int (show (nI ((s0 + i) + 1) : Int32) = nI (s0 + (i + 1)) from rfl)) (xlc (congrArg Value.int (show (nI ((x :: rr).length) : Int32) = nI (((pJoin c x y) :: rr).length) from rfl)) (xlc rfl (xlc rfl (xlc rfl (xlc rfl (xlc rfl (xlc rfl (xlc rfl rfl))))))))) rfl rfl (ih41 (i + 1) ((pJoin c x y) :: rr) (mPut zL 23 (rr.length) (pJoin c x y)) (by omega) (by omega) (pV_step e41_1 hdrop (pS_bin h62 (by omega) (by omega))) (pV_dbin e41_2 hdrop h62 (by omega) (by omega)) (KN_put e41_3) (StkR_bin e41_4) (by rw [List.length_cons]; omega))
        · skip
          replace c2 : ¬ 10005 < c := fun q => c2 ((sLT (a := 10005) (b := c) (by omega) (by omega)).mpr q)
          have h62 := c2
          refine ww_blk xCC okX4_value 36 4 (ps := []) (pc' := 72) (lv' := [(9, .int (nI c)), (8, .int (nI (s0 + i))), (7, .int (nI (st.length))), (5, .ref 14), (6, .ref 20), (0, .ref 8), (1, .int (nI w)), (2, .ref 0), (3, .int (nI p)), (4, .int (nI e))]) (st' := [.int 160, .int (nI (st.length))]) (z' := zL) rfl trivial ?_
          refine ww_br xCC okX4_value 40 (P := (nI (st.length)) < 160) (t1 := 77) (t2 := 75) (r := []) rfl (fun c15 => ?_) (fun c15 => absurd ((sLT (b := 160) (by omega) (by decide)).mpr (by omega)) c15)
          refine ww_blk xCC okX4_value 43 5 (ps := []) (pc' := 88) (lv' := [(9, .int (nI c)), (8, .int (nI (s0 + i))), (7, .int (nI (st.length))), (5, .ref 14), (6, .ref 20), (0, .ref 8), (1, .int (nI w)), (2, .ref 0), (3, .int (nI p)), (4, .int (nI e))]) (st' := [.int 10000, .int (nI c), .int (nI (st.length)), .ref 23]) (z' := zL) rfl trivial ?_
          refine ww_br xCC okX4_value 48 (P := 10000 ≤ (nI c)) (t1 := 96) (t2 := 91) (r := [.int (nI (st.length)), .ref 23]) rfl (fun c16 => ?_) (fun c16 => ?_)
          · skip
            replace c16 : 10000 ≤ c := (sLE (a := 10000) (b := c) (by omega) (by omega)).mp c16
            have h88 := c16
            refine ww_blk xCC okX4_value 51 4 (ps := []) (pc' := 102) (lv' := [(9, .int (nI c)), (8, .int (nI (s0 + i))), (7, .int (nI (st.length))), (5, .ref 14), (6, .ref 20), (0, .ref 8), (1, .int (nI w)), (2, .ref 0), (3, .int (nI p)), (4, .int (nI e))]) (st' := [.int (nI e), .int (nI p), .ref 0, .int (nI c), .int (nI (st.length)), .ref 23]) (z' := zL) rfl trivial ?_
            refine ww_callSIi xCC okX4_value 55 (ix := 32) (t_X4_fact l d c p e zL r cnt (RX_of (fun k9 h9 => e41_3 _ (by omega)) hr) hw (by omega) hp he) (by omega) (by decide) xyX4_fact xiX4_fact (Or.inl (lw_gt_of (List.mem_of_getElem? (i := 368) (by decide +kernel)) rfl)) rfl (rest := [.int (nI (st.length)), .ref 23]) rfl (Nat.le_of_ble_eq_true rfl) rfl (fun v19 z17 h18 => ?_)
            rw [h18.1, h18.2]
            refine ww_blk xCC okX4_value 56 3 (ps := [vp_in (nI (st.length)) 160]) (pc' := 224) (lv' := [(7, .int ((nI (st.length)) + 1)), (9, .int (nI c)), (8, .int (nI (s0 + i))), (5, .ref 14), (6, .ref 20), (0, .ref 8), (1, .int (nI w)), (2, .ref 0), (3, .int (nI p)), (4, .int (nI e))]) (st' := []) (z' := (mPut zL 23 (nI (st.length)).toNatClampNeg (sF r p e c))) rfl (vp_in_nI (by omega) (by decide)) ?_
            rw [show nI (st.length) + (1 : Int32) = nI ((st.length) + 1) from nI_add (st.length) 1]
            rw [sCL (n := (st.length)) (by omega)]
            refine ww_blk xCC okX4_value 119 2 (ps := []) (pc' := 41) (lv' := [(8, .int ((nI (s0 + i)) + 1)), (7, .int (nI ((st.length) + 1))), (9, .int (nI c)), (5, .ref 14), (6, .ref 20), (0, .ref 8), (1, .int (nI w)), (2, .ref 0), (3, .int (nI p)), (4, .int (nI e))]) (st' := []) (z' := (mPut zL 23 (st.length) (sF r p e c))) rfl trivial ?_
            rw [show nI (s0 + i) + (1 : Int32) = nI ((s0 + i) + 1) from nI_add (s0 + i) 1]
            exact ww_cut [0, 1, 3, 4, 5, 6, 7, 8, 9] (xlc (congrArg Value.int (show (nI ((s0 + i) + 1) : Int32) = nI (s0 + (i + 1)) from rfl)) (xlc (congrArg Value.int (show (nI ((st.length) + 1) : Int32) = nI (((sF r p e c) :: st).length) from rfl)) (xlc rfl (xlc rfl (xlc rfl (xlc rfl (xlc rfl (xlc rfl (xlc rfl rfl))))))))) rfl rfl (ih41 (i + 1) ((sF r p e c) :: st) (mPut zL 23 (st.length) (sF r p e c)) (by omega) (by omega) (pV_push e41_1 hdrop (pS_fact h62 h88)) (pV_dpush e41_2 hdrop h62) (KN_put e41_3) (StkR_push e41_4) (by rw [List.length_cons]; omega))
          · skip
            replace c16 : ¬ 10000 ≤ c := fun q => c16 ((sLE (a := 10000) (b := c) (by omega) (by omega)).mpr q)
            have h88 := c16
            refine ww_blk xCC okX4_value 49 2 (ps := []) (pc' := 105) (lv' := [(9, .int (nI c)), (8, .int (nI (s0 + i))), (7, .int (nI (st.length))), (5, .ref 14), (6, .ref 20), (0, .ref 8), (1, .int (nI w)), (2, .ref 0), (3, .int (nI p)), (4, .int (nI e))]) (st' := [.int (nI c), .int (nI (st.length)), .ref 23]) (z' := zL) rfl trivial ?_
            refine ww_blk xCC okX4_value 56 3 (ps := [vp_in (nI (st.length)) 160]) (pc' := 224) (lv' := [(7, .int ((nI (st.length)) + 1)), (9, .int (nI c)), (8, .int (nI (s0 + i))), (5, .ref 14), (6, .ref 20), (0, .ref 8), (1, .int (nI w)), (2, .ref 0), (3, .int (nI p)), (4, .int (nI e))]) (st' := []) (z' := (mPut zL 23 (nI (st.length)).toNatClampNeg (nI c))) rfl (vp_in_nI (by omega) (by decide)) ?_
            rw [show nI (st.length) + (1 : Int32) = nI ((st.length) + 1) from nI_add (st.length) 1]
            rw [sCL (n := (st.length)) (by omega)]
            refine ww_blk xCC okX4_value 119 2 (ps := []) (pc' := 41) (lv' := [(8, .int ((nI (s0 + i)) + 1)), (7, .int (nI ((st.length) + 1))), (9, .int (nI c)), (5, .ref 14), (6, .ref 20), (0, .ref 8), (1, .int (nI w)), (2, .ref 0), (3, .int (nI p)), (4, .int (nI e))]) (st' := []) (z' := (mPut zL 23 (st.length) (nI c))) rfl trivial ?_
            rw [show nI (s0 + i) + (1 : Int32) = nI ((s0 + i) + 1) from nI_add (s0 + i) 1]
            exact ww_cut [0, 1, 3, 4, 5, 6, 7, 8, 9] (xlc (congrArg Value.int (show (nI ((s0 + i) + 1) : Int32) = nI (s0 + (i + 1)) from rfl)) (xlc (congrArg Value.int (show (nI ((st.length) + 1) : Int32) = nI (((nI c) :: st).length) from rfl)) (xlc rfl (xlc rfl (xlc rfl (xlc rfl (xlc rfl (xlc rfl (xlc rfl rfl))))))))) rfl rfl (ih41 (i + 1) ((nI c) :: st) (mPut zL 23 (st.length) (nI c)) (by omega) (by omega) (pV_push e41_1 hdrop (pS_num h62 (by omega))) (pV_dpush e41_2 hdrop h62) (KN_put e41_3) (StkR_push e41_4) (by rw [List.length_cons]; omega))
  refine ww_blk xCC okX4_value 14 1 (ps := []) (pc' := 26) (lv' := [(7, .int 0), (6, .ref 20), (5, .ref 14), (0, .ref 8), (1, .int (nI w)), (2, .ref 0), (3, .int (nI p)), (4, .int (nI e))]) (st' := [.int (nI w)]) (z' := z) rfl trivial ?_
  refine ww_br xCC okX4_value 15 (P := (nI w) = 0) (t1 := 29) (t2 := 33) (r := []) rfl (fun c20 => ?_) (fun c20 => ?_)
  · skip
    replace c20 : w = 0 := (sEQ (a := w) (b := 0) (by omega) (by omega)).mp c20
    refine ww_blk xCC okX4_value 16 2 (ps := []) (pc' := 39) (lv' := [(7, .int 0), (6, .ref 20), (5, .ref 14), (0, .ref 8), (1, .int (nI w)), (2, .ref 0), (3, .int (nI p)), (4, .int (nI e))]) (st' := [.int 0]) (z' := z) rfl trivial ?_
    refine ww_blk xCC okX4_value 23 1 (ps := []) (pc' := 41) (lv' := [(8, .int 0), (7, .int 0), (6, .ref 20), (5, .ref 14), (0, .ref 8), (1, .int (nI w)), (2, .ref 0), (3, .int (nI p)), (4, .int (nI e))]) (st' := []) (z' := z) rfl trivial ?_
    exact ww_cut [0, 1, 3, 2, 4, 5, 6, 7, 8] (xlc (congrArg Value.int (show (0 : Int32) = nI (s0 + 0) from (by first | rfl | (rw [hs0 (by omega)]; rfl)))) (xlc (congrArg Value.int (show (0 : Int32) = nI (([]).length) from rfl)) (xlc rfl (xlc rfl (xlc rfl (xlc rfl (xlc rfl (xlc rfl (xlc rfl rfl))))))))) rfl rfl (L41 (cs.length - 0 + 1) 0 ([]) z (Nat.lt_succ_self _) (Nat.zero_le _) rfl hdp (KN_rf z) (StkR_0 z) (Nat.zero_le _))
  · skip
    replace c20 : ¬ w = 0 := fun q => c20 ((sEQ (a := w) (b := 0) (by omega) (by omega)).mpr q)
    replace hB1 := hB1 (by omega)
    refine ww_blk xCC okX4_value 18 6 (ps := [vp_in ((nI w) - 1) 3]) (pc' := 41) (lv' := [(8, .int (z.1 20 ((nI w) - 1).toNatClampNeg)), (7, .int 0), (6, .ref 20), (5, .ref 14), (0, .ref 8), (1, .int (nI w)), (2, .ref 0), (3, .int (nI p)), (4, .int (nI e))]) (st' := []) (z' := z) rfl (by rw [show nI w - (1 : Int32) = nI (w - 1) from pk_sub (b := 1) (by omega)]; exact vp_in_nI (by omega) (by decide)) ?_
    rw [show nI w - (1 : Int32) = nI (w - 1) from pk_sub (b := 1) (by omega)]
    rw [sCL (n := (w - 1)) (by omega)]
    rw [hB1]
    exact ww_cut [0, 1, 3, 2, 4, 5, 6, 7, 8] (xlc (congrArg Value.int (show (nI s0 : Int32) = nI (s0 + 0) from (by first | rfl | (rw [hs0 (by omega)]; rfl)))) (xlc (congrArg Value.int (show (0 : Int32) = nI (([]).length) from rfl)) (xlc rfl (xlc rfl (xlc rfl (xlc rfl (xlc rfl (xlc rfl (xlc rfl rfl))))))))) rfl rfl (L41 (cs.length - 0 + 1) 0 ([]) z (Nat.lt_succ_self _) (Nat.zero_le _) rfl hdp (KN_rf z) (StkR_0 z) (Nat.zero_le _))

set_option maxHeartbeats 4000000 in
set_option maxRecDepth 20000 in
theorem t_X4_value_4 (l : Launch) (d : Nat) (w p e : Nat) (z : xMem) (r : sR) (cnt : Nat) (tc : Nat → sTc) (hr : RX z 0 r) (hw : sW r cnt) (ht : TX z 8 cnt tc) (hw3 : w < 3) (hp : p < 4) (he : e < 10) (hk : r 7 5 = 4) : XMi l (d + 2) yX4_value cX4_value 11 (some .int) shR [.ref 8, .int (nI w), .ref 0, .int (nI p), .int (nI e)] z (fun v z' => v = sSays tc r w p e ∧ KN z z') := by
  refine XM.of (by decide) (Nat.le_of_ble_eq_true rfl) (fun xp xe xs xm xar xbl xme xc xD xcs xad xAA xCC xhr => ?_)
  generalize xhQ : MQ xbl _ xar xs 0 0 xAA = xQ
  show ww xp l xe (xRm (d + 2)) xs xm xar xbl xme xc 11 xD xcs xad shR xAA xQ 0 [(0, .ref 8), (1, .int (nI w)), (2, .ref 0), (3, .int (nI p)), (4, .int (nI e))] [] z
  have hkc : 4 < cnt := by have := hw.2.2.2.2.2.2.2; omega
  obtain ⟨s0, hs0, hB0, hBw, hsl, hA, hdp, hok⟩ := TXk_w (ht.2.2.2 4 hkc) hw3
  have hr5 : z.1 0 14 = 4 := by rw [show z.1 0 14 = nI (r 7 5) from hr.2.2.2.2.2.2.2.2.2.2.2.2.2, hk]; rfl
  replace hBw : z.1 21 w = nI (s0 + (sPart w (tc 4)).length) := hBw
  replace hA : ∀ i, i < (sPart w (tc 4)).length → z.1 15 (s0 + i) = nI ((sPart w (tc 4)).getD i 0) := hA
  have hB1 : w ≠ 0 → z.1 21 (w - 1) = nI s0 := hB0
  obtain ⟨cs, hcs⟩ : ∃ cs, cs = sPart w (tc 4) := ⟨_, rfl⟩
  rw [← hcs] at hBw hA hsl hdp hok
  have htW : tW tc r w p e = tV (sF r p e) cs := by unfold tW; rw [hk, hcs]
  refine ww_blk xCC okX4_value 0 4 (ps := []) (pc' := 8) (lv' := [(0, .ref 8), (1, .int (nI w)), (2, .ref 0), (3, .int (nI p)), (4, .int (nI e))]) (st' := [.int (z.1 0 14), .ref 9]) (z' := z) rfl trivial ?_
  rw [hr5]
  refine ww_blk xCC okX4_value 4 6 (ps := [vp_in 4 6]) (pc' := 19) (lv' := [(5, .ref 15), (0, .ref 8), (1, .int (nI w)), (2, .ref 0), (3, .int (nI p)), (4, .int (nI e))]) (st' := [.int (z.1 0 14), .ref 10]) (z' := z) rfl (show vp_in 4 6 from (by unfold vp_in; decide)) ?_
  rw [hr5]
  refine ww_blk xCC okX4_value 10 4 (ps := [vp_in 4 6]) (pc' := 25) (lv' := [(7, .int 0), (6, .ref 21), (5, .ref 15), (0, .ref 8), (1, .int (nI w)), (2, .ref 0), (3, .int (nI p)), (4, .int (nI e))]) (st' := []) (z' := z) rfl (show vp_in 4 6 from (by unfold vp_in; decide)) ?_
  have L41 : ∀ (n41 : Nat) (i : Nat) (st : List Int32) (zL : xMem), cs.length - i < n41 → (i ≤ cs.length) → (pEv (sF r p e) (cs.drop i) st = pEv (sF r p e) cs []) → (pDp (cs.drop i) st.length = some 1) → (KN z zL) → (StkR zL st) → (st.length ≤ i) → ww xp l xe (xRm (d + 2)) xs xm xar xbl xme xc 11 xD xcs xad shR xAA xQ 41 [(8, .int (nI (s0 + i))), (7, .int (nI (st.length))), (5, .ref 15), (6, .ref 21), (0, .ref 8), (1, .int (nI w)), (2, .ref 0), (3, .int (nI p)), (4, .int (nI e))] [] zL := by
    intro n41
    induction n41 with
    | zero =>
      intro i st zL hmu41
      exact absurd hmu41 (Nat.not_lt_zero _)
    | succ n41 ih41 =>
      intro i st zL hmu41 e41_0 e41_1 e41_2 e41_3 e41_4 e41_5
      refine ww_blk xCC okX4_value 24 4 (ps := [vp_in (nI w) 3]) (pc' := 47) (lv' := [(8, .int (nI (s0 + i))), (7, .int (nI (st.length))), (5, .ref 15), (6, .ref 21), (0, .ref 8), (1, .int (nI w)), (2, .ref 0), (3, .int (nI p)), (4, .int (nI e))]) (st' := [.int (zL.1 21 (nI w).toNatClampNeg), .int (nI (s0 + i))]) (z' := zL) rfl (vp_in_nI (by omega) (by decide)) ?_
      rw [sCL (n := w) (by omega)]
      rw [show zL.1 21 w = nI (s0 + cs.length) from (congrFun (e41_3 21 (by decide)) w).trans hBw]
      refine ww_br xCC okX4_value 28 (P := (nI (s0 + cs.length)) ≤ (nI (s0 + i))) (t1 := 230) (t2 := 50) (r := []) rfl (fun c1 => ?_) (fun c1 => ?_)
      · skip
        replace c1 : (s0 + cs.length) ≤ (s0 + i) := (sLE (a := (s0 + cs.length)) (b := (s0 + i)) (by omega) (by omega)).mp c1
        refine ww_blk xCC okX4_value 121 10 (ps := [vp_in (nI w) 3, vp_in 0 160]) (pc' := 248) (lv' := [(8, .int (nI (s0 + i))), (7, .int (nI (st.length))), (5, .ref 15), (6, .ref 21), (0, .ref 8), (1, .int (nI w)), (2, .ref 0), (3, .int (nI p)), (4, .int (nI e))]) (st' := [.int (if 0 < (if (zL.1 23 0) < (xTab 3 (nI w).toNatClampNeg) then (zL.1 23 0) else (xTab 3 (nI w).toNatClampNeg)) then (if (zL.1 23 0) < (xTab 3 (nI w).toNatClampNeg) then (zL.1 23 0) else (xTab 3 (nI w).toNatClampNeg)) else 0)]) (z' := zL) rfl ⟨(vp_in_nI (by omega) (by decide)), (show vp_in 0 160 from (by unfold vp_in; decide))⟩ ?_
        rw [sCL (n := w) (by omega)]
        subst xhQ
        exact ww_iret xCC okX4_value 131 xhr rfl rfl ⟨_, rfl, ⟨(by rw [show zL.1 23 0 = tW tc r w p e from (pV_end e41_1 e41_2 e41_4 (by omega)).trans htW.symm]; exact sSays_mm tc r p e hw3), e41_3⟩⟩
      · skip
        replace c1 : ¬ (s0 + cs.length) ≤ (s0 + i) := fun q => c1 ((sLE (a := (s0 + cs.length)) (b := (s0 + i)) (by omega) (by omega)).mpr q)
        obtain ⟨c, hc⟩ : ∃ c, c = cs.getD i 0 := ⟨_, rfl⟩
        have hrd : zL.1 15 (s0 + i) = nI c := by rw [hc, e41_3 15 (by decide)]; exact hA i (by omega)
        have hdrop := pV_drop hc (show i < cs.length by omega)
        have hcb : c ≤ 10014 := hok c (by rw [hc, List.getD_eq_getElem?_getD, List.getElem?_eq_getElem (show i < cs.length by omega)]; exact List.getElem_mem _)
        refine ww_blk xCC okX4_value 29 6 (ps := [vp_in (nI (s0 + i)) 160]) (pc' := 62) (lv' := [(9, .int (zL.1 15 (nI (s0 + i)).toNatClampNeg)), (8, .int (nI (s0 + i))), (7, .int (nI (st.length))), (5, .ref 15), (6, .ref 21), (0, .ref 8), (1, .int (nI w)), (2, .ref 0), (3, .int (nI p)), (4, .int (nI e))]) (st' := [.int 10005, .int (zL.1 15 (nI (s0 + i)).toNatClampNeg)]) (z' := zL) rfl (vp_in_nI (by omega) (by decide)) ?_
        rw [sCL (n := (s0 + i)) (by omega)]
        rw [hrd]
        refine ww_br xCC okX4_value 35 (P := 10005 < (nI c)) (t1 := 112) (t2 := 65) (r := []) rfl (fun c2 => ?_) (fun c2 => ?_)
        · skip
          replace c2 : 10005 < c := (sLT (a := 10005) (b := c) (by omega) (by omega)).mp c2
          have h62 := c2
          refine ww_blk xCC okX4_value 59 2 (ps := []) (pc' := 117) (lv' := [(9, .int (nI c)), (8, .int (nI (s0 + i))), (7, .int (nI (st.length))), (5, .ref 15), (6, .ref 21), (0, .ref 8), (1, .int (nI w)), (2, .ref 0), (3, .int (nI p)), (4, .int (nI e))]) (st' := [.int 10013, .int (nI c)]) (z' := zL) rfl trivial ?_
          refine ww_br xCC okX4_value 61 (P := (nI c) = 10013) (t1 := 128) (t2 := 120) (r := []) rfl (fun c3 => ?_) (fun c3 => ?_)
          · skip
            replace c3 : c = 10013 := (sEQ (a := c) (b := 10013) (by omega) (by omega)).mp c3
            have h129 : 1 ≤ st.length := pV_un1 e41_2 hdrop h62 (by omega)
            obtain ⟨x, rr, rfl⟩ := pV_c1 h129
            have hl1 : (x :: rr).length = rr.length + 1 := rfl
            have hx0 : zL.1 23 rr.length = x := StkR_1 e41_4
            refine ww_blk xCC okX4_value 65 2 (ps := []) (pc' := 131) (lv' := [(9, .int (nI c)), (8, .int (nI (s0 + i))), (7, .int (nI ((x :: rr).length))), (5, .ref 15), (6, .ref 21), (0, .ref 8), (1, .int (nI w)), (2, .ref 0), (3, .int (nI p)), (4, .int (nI e))]) (st' := [.int 1, .int (nI ((x :: rr).length))]) (z' := zL) rfl trivial ?_
            refine ww_br xCC okX4_value 67 (P := 1 ≤ (nI ((x :: rr).length))) (t1 := 136) (t2 := 134) (r := []) rfl (fun c4 => ?_) (fun c4 => absurd ((sLE (a := 1) (by decide) (by omega)).mpr (by rw [List.length_cons]; omega)) c4)
            refine ww_blk xCC okX4_value 70 14 (ps := [vp_in ((nI ((x :: rr).length)) - 1) 160]) (pc' := 160) (lv' := [(10, .int (zL.1 23 ((nI ((x :: rr).length)) - 1).toNatClampNeg)), (9, .int (nI c)), (8, .int (nI (s0 + i))), (7, .int (nI ((x :: rr).length))), (5, .ref 15), (6, .ref 21), (0, .ref 8), (1, .int (nI w)), (2, .ref 0), (3, .int (nI p)), (4, .int (nI e))]) (st' := [.int 10014, .int (nI c), .int ((nI ((x :: rr).length)) - 1), .ref 23]) (z' := zL) rfl (vp_top (by omega)) ?_
            rw [show nI ((x :: rr).length) - 1 = nI (rr.length) from nI_pred rr.length]
            rw [sCL (n := (rr.length)) (by omega)]
            rw [hx0]
            refine ww_br xCC okX4_value 84 (P := (nI c) = 10014) (t1 := 163) (t2 := 169) (r := [.int (nI (rr.length)), .ref 23]) rfl (fun c5 => ?_) (fun c5 => ?_)
            · skip
              replace c5 : c = 10014 := (sEQ (a := c) (b := 10014) (by omega) (by omega)).mp c5
              refine ww_blk xCC okX4_value 85 3 (ps := []) (pc' := 179) (lv' := [(10, .int x), (9, .int (nI c)), (8, .int (nI (s0 + i))), (7, .int (nI ((x :: rr).length))), (5, .ref 15), (6, .ref 21), (0, .ref 8), (1, .int (nI w)), (2, .ref 0), (3, .int (nI p)), (4, .int (nI e))]) (st' := [.int (-x), .int (nI (rr.length)), .ref 23]) (z' := zL) rfl trivial ?_
              refine ww_blk xCC okX4_value 93 2 (ps := [vp_in (nI (rr.length)) 160]) (pc' := 224) (lv' := [(10, .int x), (9, .int (nI c)), (8, .int (nI (s0 + i))), (7, .int (nI ((x :: rr).length))), (5, .ref 15), (6, .ref 21), (0, .ref 8), (1, .int (nI w)), (2, .ref 0), (3, .int (nI p)), (4, .int (nI e))]) (st' := []) (z' := (mPut zL 23 (nI (rr.length)).toNatClampNeg (-x))) rfl (vp_in_nI (by omega) (by decide)) ?_
              rw [sCL (n := (rr.length)) (by omega)]
              refine ww_blk xCC okX4_value 119 2 (ps := []) (pc' := 41) (lv' := [(8, .int ((nI (s0 + i)) + 1)), (10, .int x), (9, .int (nI c)), (7, .int (nI ((x :: rr).length))), (5, .ref 15), (6, .ref 21), (0, .ref 8), (1, .int (nI w)), (2, .ref 0), (3, .int (nI p)), (4, .int (nI e))]) (st' := []) (z' := (mPut zL 23 (rr.length) (-x))) rfl trivial ?_
              rw [show nI (s0 + i) + (1 : Int32) = nI ((s0 + i) + 1) from nI_add (s0 + i) 1]
              exact ww_cut [0, 3, 4, 5, 6, 7, 8, 9, 10] (xlc (congrArg Value.int (show (nI ((s0 + i) + 1) : Int32) = nI (s0 + (i + 1)) from rfl)) (xlc (congrArg Value.int (show (nI ((x :: rr).length) : Int32) = nI (((-x) :: rr).length) from rfl)) (xlc rfl (xlc rfl (xlc rfl (xlc rfl (xlc rfl (xlc rfl (xlc rfl rfl))))))))) rfl rfl (ih41 (i + 1) ((-x) :: rr) (mPut zL 23 (rr.length) (-x)) (by omega) (by omega) (pV_step e41_1 hdrop (pS_neg (by omega))) (pV_dun e41_2 hdrop h62 (by omega)) (KN_put e41_3) (StkR_un e41_4) (by rw [List.length_cons]; omega))
            · skip
              replace c5 : ¬ c = 10014 := fun q => c5 ((sEQ (a := c) (b := 10014) (by omega) (by omega)).mpr q)
              refine ww_blk xCC okX4_value 88 1 (ps := []) (pc' := 171) (lv' := [(10, .int x), (9, .int (nI c)), (8, .int (nI (s0 + i))), (7, .int (nI ((x :: rr).length))), (5, .ref 15), (6, .ref 21), (0, .ref 8), (1, .int (nI w)), (2, .ref 0), (3, .int (nI p)), (4, .int (nI e))]) (st' := [.int x, .int (nI (rr.length)), .ref 23]) (z' := zL) rfl trivial ?_
              refine ww_br xCC okX4_value 89 (P := x = 0) (t1 := 174) (t2 := 178) (r := [.int (nI (rr.length)), .ref 23]) rfl (fun c6 => ?_) (fun c6 => ?_)
              · skip
                have h171 := c6
                refine ww_blk xCC okX4_value 90 2 (ps := []) (pc' := 179) (lv' := [(10, .int x), (9, .int (nI c)), (8, .int (nI (s0 + i))), (7, .int (nI ((x :: rr).length))), (5, .ref 15), (6, .ref 21), (0, .ref 8), (1, .int (nI w)), (2, .ref 0), (3, .int (nI p)), (4, .int (nI e))]) (st' := [.int 1, .int (nI (rr.length)), .ref 23]) (z' := zL) rfl trivial ?_
                refine ww_blk xCC okX4_value 93 2 (ps := [vp_in (nI (rr.length)) 160]) (pc' := 224) (lv' := [(10, .int x), (9, .int (nI c)), (8, .int (nI (s0 + i))), (7, .int (nI ((x :: rr).length))), (5, .ref 15), (6, .ref 21), (0, .ref 8), (1, .int (nI w)), (2, .ref 0), (3, .int (nI p)), (4, .int (nI e))]) (st' := []) (z' := (mPut zL 23 (nI (rr.length)).toNatClampNeg 1)) rfl (vp_in_nI (by omega) (by decide)) ?_
                rw [sCL (n := (rr.length)) (by omega)]
                refine ww_blk xCC okX4_value 119 2 (ps := []) (pc' := 41) (lv' := [(8, .int ((nI (s0 + i)) + 1)), (10, .int x), (9, .int (nI c)), (7, .int (nI ((x :: rr).length))), (5, .ref 15), (6, .ref 21), (0, .ref 8), (1, .int (nI w)), (2, .ref 0), (3, .int (nI p)), (4, .int (nI e))]) (st' := []) (z' := (mPut zL 23 (rr.length) 1)) rfl trivial ?_
                rw [show nI (s0 + i) + (1 : Int32) = nI ((s0 + i) + 1) from nI_add (s0 + i) 1]
                exact ww_cut [0, 3, 4, 5, 6, 7, 8, 9, 10] (xlc (congrArg Value.int (show (nI ((s0 + i) + 1) : Int32) = nI (s0 + (i + 1)) from rfl)) (xlc (congrArg Value.int (show (nI ((x :: rr).length) : Int32) = nI ((1 :: rr).length) from rfl)) (xlc rfl (xlc rfl (xlc rfl (xlc rfl (xlc rfl (xlc rfl (xlc rfl rfl))))))))) rfl rfl (ih41 (i + 1) (1 :: rr) (mPut zL 23 (rr.length) 1) (by omega) (by omega) (pV_step e41_1 hdrop (pS_not1 (by omega) h171)) (pV_dun e41_2 hdrop h62 (by omega)) (KN_put e41_3) (StkR_un e41_4) (by rw [List.length_cons]; omega))
              · skip
                have h171 := c6
                refine ww_blk xCC okX4_value 92 3 (ps := [vp_in (nI (rr.length)) 160]) (pc' := 224) (lv' := [(10, .int x), (9, .int (nI c)), (8, .int (nI (s0 + i))), (7, .int (nI ((x :: rr).length))), (5, .ref 15), (6, .ref 21), (0, .ref 8), (1, .int (nI w)), (2, .ref 0), (3, .int (nI p)), (4, .int (nI e))]) (st' := []) (z' := (mPut zL 23 (nI (rr.length)).toNatClampNeg 0)) rfl (vp_in_nI (by omega) (by decide)) ?_
                rw [sCL (n := (rr.length)) (by omega)]
                refine ww_blk xCC okX4_value 119 2 (ps := []) (pc' := 41) (lv' := [(8, .int ((nI (s0 + i)) + 1)), (10, .int x), (9, .int (nI c)), (7, .int (nI ((x :: rr).length))), (5, .ref 15), (6, .ref 21), (0, .ref 8), (1, .int (nI w)), (2, .ref 0), (3, .int (nI p)), (4, .int (nI e))]) (st' := []) (z' := (mPut zL 23 (rr.length) 0)) rfl trivial ?_
                rw [show nI (s0 + i) + (1 : Int32) = nI ((s0 + i) + 1) from nI_add (s0 + i) 1]
                exact ww_cut [0, 3, 4, 5, 6, 7, 8, 9, 10] (xlc (congrArg Value.int (show (nI ((s0 + i) + 1) : Int32) = nI (s0 + (i + 1)) from rfl)) (xlc (congrArg Value.int (show (nI ((x :: rr).length) : Int32) = nI ((0 :: rr).length) from rfl)) (xlc rfl (xlc rfl (xlc rfl (xlc rfl (xlc rfl (xlc rfl (xlc rfl rfl))))))))) rfl rfl (ih41 (i + 1) (0 :: rr) (mPut zL 23 (rr.length) 0) (by omega) (by omega) (pV_step e41_1 hdrop (pS_not0 (by omega) h171)) (pV_dun e41_2 hdrop h62 (by omega)) (KN_put e41_3) (StkR_un e41_4) (by rw [List.length_cons]; omega))
          · skip
            replace c3 : ¬ c = 10013 := fun q => c3 ((sEQ (a := c) (b := 10013) (by omega) (by omega)).mpr q)
            refine ww_blk xCC okX4_value 62 2 (ps := []) (pc' := 125) (lv' := [(9, .int (nI c)), (8, .int (nI (s0 + i))), (7, .int (nI (st.length))), (5, .ref 15), (6, .ref 21), (0, .ref 8), (1, .int (nI w)), (2, .ref 0), (3, .int (nI p)), (4, .int (nI e))]) (st' := [.int 10014, .int (nI c)]) (z' := zL) rfl trivial ?_
            refine ww_br xCC okX4_value 64 (P := (nI c) = 10014) (t1 := 128) (t2 := 183) (r := []) rfl (fun c7 => ?_) (fun c7 => ?_)
            · skip
              replace c7 : c = 10014 := (sEQ (a := c) (b := 10014) (by omega) (by omega)).mp c7
              have h129 : 1 ≤ st.length := pV_un1 e41_2 hdrop h62 (by omega)
              obtain ⟨x, rr, rfl⟩ := pV_c1 h129
              have hl1 : (x :: rr).length = rr.length + 1 := rfl
              have hx0 : zL.1 23 rr.length = x := StkR_1 e41_4
              refine ww_blk xCC okX4_value 65 2 (ps := []) (pc' := 131) (lv' := [(9, .int (nI c)), (8, .int (nI (s0 + i))), (7, .int (nI ((x :: rr).length))), (5, .ref 15), (6, .ref 21), (0, .ref 8), (1, .int (nI w)), (2, .ref 0), (3, .int (nI p)), (4, .int (nI e))]) (st' := [.int 1, .int (nI ((x :: rr).length))]) (z' := zL) rfl trivial ?_
              refine ww_br xCC okX4_value 67 (P := 1 ≤ (nI ((x :: rr).length))) (t1 := 136) (t2 := 134) (r := []) rfl (fun c8 => ?_) (fun c8 => absurd ((sLE (a := 1) (by decide) (by omega)).mpr (by rw [List.length_cons]; omega)) c8)
              refine ww_blk xCC okX4_value 70 14 (ps := [vp_in ((nI ((x :: rr).length)) - 1) 160]) (pc' := 160) (lv' := [(10, .int (zL.1 23 ((nI ((x :: rr).length)) - 1).toNatClampNeg)), (9, .int (nI c)), (8, .int (nI (s0 + i))), (7, .int (nI ((x :: rr).length))), (5, .ref 15), (6, .ref 21), (0, .ref 8), (1, .int (nI w)), (2, .ref 0), (3, .int (nI p)), (4, .int (nI e))]) (st' := [.int 10014, .int (nI c), .int ((nI ((x :: rr).length)) - 1), .ref 23]) (z' := zL) rfl (vp_top (by omega)) ?_
              rw [show nI ((x :: rr).length) - 1 = nI (rr.length) from nI_pred rr.length]
              rw [sCL (n := (rr.length)) (by omega)]
              rw [hx0]
              refine ww_br xCC okX4_value 84 (P := (nI c) = 10014) (t1 := 163) (t2 := 169) (r := [.int (nI (rr.length)), .ref 23]) rfl (fun c9 => ?_) (fun c9 => ?_)
              · skip
                replace c9 : c = 10014 := (sEQ (a := c) (b := 10014) (by omega) (by omega)).mp c9
                refine ww_blk xCC okX4_value 85 3 (ps := []) (pc' := 179) (lv' := [(10, .int x), (9, .int (nI c)), (8, .int (nI (s0 + i))), (7, .int (nI ((x :: rr).length))), (5, .ref 15), (6, .ref 21), (0, .ref 8), (1, .int (nI w)), (2, .ref 0), (3, .int (nI p)), (4, .int (nI e))]) (st' := [.int (-x), .int (nI (rr.length)), .ref 23]) (z' := zL) rfl trivial ?_
                refine ww_blk xCC okX4_value 93 2 (ps := [vp_in (nI (rr.length)) 160]) (pc' := 224) (lv' := [(10, .int x), (9, .int (nI c)), (8, .int (nI (s0 + i))), (7, .int (nI ((x :: rr).length))), (5, .ref 15), (6, .ref 21), (0, .ref 8), (1, .int (nI w)), (2, .ref 0), (3, .int (nI p)), (4, .int (nI e))]) (st' := []) (z' := (mPut zL 23 (nI (rr.length)).toNatClampNeg (-x))) rfl (vp_in_nI (by omega) (by decide)) ?_
                rw [sCL (n := (rr.length)) (by omega)]
                refine ww_blk xCC okX4_value 119 2 (ps := []) (pc' := 41) (lv' := [(8, .int ((nI (s0 + i)) + 1)), (10, .int x), (9, .int (nI c)), (7, .int (nI ((x :: rr).length))), (5, .ref 15), (6, .ref 21), (0, .ref 8), (1, .int (nI w)), (2, .ref 0), (3, .int (nI p)), (4, .int (nI e))]) (st' := []) (z' := (mPut zL 23 (rr.length) (-x))) rfl trivial ?_
                rw [show nI (s0 + i) + (1 : Int32) = nI ((s0 + i) + 1) from nI_add (s0 + i) 1]
                exact ww_cut [0, 3, 4, 5, 6, 7, 8, 9, 10] (xlc (congrArg Value.int (show (nI ((s0 + i) + 1) : Int32) = nI (s0 + (i + 1)) from rfl)) (xlc (congrArg Value.int (show (nI ((x :: rr).length) : Int32) = nI (((-x) :: rr).length) from rfl)) (xlc rfl (xlc rfl (xlc rfl (xlc rfl (xlc rfl (xlc rfl (xlc rfl rfl))))))))) rfl rfl (ih41 (i + 1) ((-x) :: rr) (mPut zL 23 (rr.length) (-x)) (by omega) (by omega) (pV_step e41_1 hdrop (pS_neg (by omega))) (pV_dun e41_2 hdrop h62 (by omega)) (KN_put e41_3) (StkR_un e41_4) (by rw [List.length_cons]; omega))
              · skip
                replace c9 : ¬ c = 10014 := fun q => c9 ((sEQ (a := c) (b := 10014) (by omega) (by omega)).mpr q)
                refine ww_blk xCC okX4_value 88 1 (ps := []) (pc' := 171) (lv' := [(10, .int x), (9, .int (nI c)), (8, .int (nI (s0 + i))), (7, .int (nI ((x :: rr).length))), (5, .ref 15), (6, .ref 21), (0, .ref 8), (1, .int (nI w)), (2, .ref 0), (3, .int (nI p)), (4, .int (nI e))]) (st' := [.int x, .int (nI (rr.length)), .ref 23]) (z' := zL) rfl trivial ?_
                refine ww_br xCC okX4_value 89 (P := x = 0) (t1 := 174) (t2 := 178) (r := [.int (nI (rr.length)), .ref 23]) rfl (fun c10 => ?_) (fun c10 => ?_)
                · skip
                  have h171 := c10
                  refine ww_blk xCC okX4_value 90 2 (ps := []) (pc' := 179) (lv' := [(10, .int x), (9, .int (nI c)), (8, .int (nI (s0 + i))), (7, .int (nI ((x :: rr).length))), (5, .ref 15), (6, .ref 21), (0, .ref 8), (1, .int (nI w)), (2, .ref 0), (3, .int (nI p)), (4, .int (nI e))]) (st' := [.int 1, .int (nI (rr.length)), .ref 23]) (z' := zL) rfl trivial ?_
                  refine ww_blk xCC okX4_value 93 2 (ps := [vp_in (nI (rr.length)) 160]) (pc' := 224) (lv' := [(10, .int x), (9, .int (nI c)), (8, .int (nI (s0 + i))), (7, .int (nI ((x :: rr).length))), (5, .ref 15), (6, .ref 21), (0, .ref 8), (1, .int (nI w)), (2, .ref 0), (3, .int (nI p)), (4, .int (nI e))]) (st' := []) (z' := (mPut zL 23 (nI (rr.length)).toNatClampNeg 1)) rfl (vp_in_nI (by omega) (by decide)) ?_
                  rw [sCL (n := (rr.length)) (by omega)]
                  refine ww_blk xCC okX4_value 119 2 (ps := []) (pc' := 41) (lv' := [(8, .int ((nI (s0 + i)) + 1)), (10, .int x), (9, .int (nI c)), (7, .int (nI ((x :: rr).length))), (5, .ref 15), (6, .ref 21), (0, .ref 8), (1, .int (nI w)), (2, .ref 0), (3, .int (nI p)), (4, .int (nI e))]) (st' := []) (z' := (mPut zL 23 (rr.length) 1)) rfl trivial ?_
                  rw [show nI (s0 + i) + (1 : Int32) = nI ((s0 + i) + 1) from nI_add (s0 + i) 1]
                  exact ww_cut [0, 3, 4, 5, 6, 7, 8, 9, 10] (xlc (congrArg Value.int (show (nI ((s0 + i) + 1) : Int32) = nI (s0 + (i + 1)) from rfl)) (xlc (congrArg Value.int (show (nI ((x :: rr).length) : Int32) = nI ((1 :: rr).length) from rfl)) (xlc rfl (xlc rfl (xlc rfl (xlc rfl (xlc rfl (xlc rfl (xlc rfl rfl))))))))) rfl rfl (ih41 (i + 1) (1 :: rr) (mPut zL 23 (rr.length) 1) (by omega) (by omega) (pV_step e41_1 hdrop (pS_not1 (by omega) h171)) (pV_dun e41_2 hdrop h62 (by omega)) (KN_put e41_3) (StkR_un e41_4) (by rw [List.length_cons]; omega))
                · skip
                  have h171 := c10
                  refine ww_blk xCC okX4_value 92 3 (ps := [vp_in (nI (rr.length)) 160]) (pc' := 224) (lv' := [(10, .int x), (9, .int (nI c)), (8, .int (nI (s0 + i))), (7, .int (nI ((x :: rr).length))), (5, .ref 15), (6, .ref 21), (0, .ref 8), (1, .int (nI w)), (2, .ref 0), (3, .int (nI p)), (4, .int (nI e))]) (st' := []) (z' := (mPut zL 23 (nI (rr.length)).toNatClampNeg 0)) rfl (vp_in_nI (by omega) (by decide)) ?_
                  rw [sCL (n := (rr.length)) (by omega)]
                  refine ww_blk xCC okX4_value 119 2 (ps := []) (pc' := 41) (lv' := [(8, .int ((nI (s0 + i)) + 1)), (10, .int x), (9, .int (nI c)), (7, .int (nI ((x :: rr).length))), (5, .ref 15), (6, .ref 21), (0, .ref 8), (1, .int (nI w)), (2, .ref 0), (3, .int (nI p)), (4, .int (nI e))]) (st' := []) (z' := (mPut zL 23 (rr.length) 0)) rfl trivial ?_
                  rw [show nI (s0 + i) + (1 : Int32) = nI ((s0 + i) + 1) from nI_add (s0 + i) 1]
                  exact ww_cut [0, 3, 4, 5, 6, 7, 8, 9, 10] (xlc (congrArg Value.int (show (nI ((s0 + i) + 1) : Int32) = nI (s0 + (i + 1)) from rfl)) (xlc (congrArg Value.int (show (nI ((x :: rr).length) : Int32) = nI ((0 :: rr).length) from rfl)) (xlc rfl (xlc rfl (xlc rfl (xlc rfl (xlc rfl (xlc rfl (xlc rfl rfl))))))))) rfl rfl (ih41 (i + 1) (0 :: rr) (mPut zL 23 (rr.length) 0) (by omega) (by omega) (pV_step e41_1 hdrop (pS_not0 (by omega) h171)) (pV_dun e41_2 hdrop h62 (by omega)) (KN_put e41_3) (StkR_un e41_4) (by rw [List.length_cons]; omega))
            · skip
              replace c7 : ¬ c = 10014 := fun q => c7 ((sEQ (a := c) (b := 10014) (by omega) (by omega)).mpr q)
              have h129 : 2 ≤ st.length := pV_bin2 e41_2 hdrop h62 (by omega) (by omega)
              obtain ⟨y, x, rr, rfl⟩ := pV_c2 h129
              have hl1 : (x :: rr).length = rr.length + 1 := rfl
              have hl2 : (y :: (x :: rr)).length = rr.length + 2 := rfl
              have hy0 : zL.1 23 (x :: rr).length = y := StkR_1 e41_4
              have hx0 : zL.1 23 rr.length = x := StkR_2 e41_4
              refine ww_blk xCC okX4_value 95 2 (ps := []) (pc' := 186) (lv' := [(9, .int (nI c)), (8, .int (nI (s0 + i))), (7, .int (nI ((y :: (x :: rr)).length))), (5, .ref 15), (6, .ref 21), (0, .ref 8), (1, .int (nI w)), (2, .ref 0), (3, .int (nI p)), (4, .int (nI e))]) (st' := [.int 2, .int (nI ((y :: (x :: rr)).length))]) (z' := zL) rfl trivial ?_
              refine ww_br xCC okX4_value 97 (P := 2 ≤ (nI ((y :: (x :: rr)).length))) (t1 := 191) (t2 := 189) (r := []) rfl (fun c11 => ?_) (fun c11 => absurd ((sLE (a := 2) (by decide) (by omega)).mpr (by rw [List.length_cons, List.length_cons]; omega)) c11)
              refine ww_blk xCC okX4_value 100 17 (ps := [vp_in (((nI ((y :: (x :: rr)).length)) + (-1)) - 1) 160, vp_in ((nI ((y :: (x :: rr)).length)) + (-1)) 160]) (pc' := 220) (lv' := [(7, .int ((nI ((y :: (x :: rr)).length)) + (-1))), (9, .int (nI c)), (8, .int (nI (s0 + i))), (5, .ref 15), (6, .ref 21), (0, .ref 8), (1, .int (nI w)), (2, .ref 0), (3, .int (nI p)), (4, .int (nI e))]) (st' := [.int (zL.1 23 ((nI ((y :: (x :: rr)).length)) + (-1)).toNatClampNeg), .int (zL.1 23 (((nI ((y :: (x :: rr)).length)) + (-1)) - 1).toNatClampNeg), .int (nI c), .int (((nI ((y :: (x :: rr)).length)) + (-1)) - 1), .ref 23]) (z' := zL) rfl ⟨(by rw [show nI ((y :: (x :: rr)).length) + (-1) = nI ((x :: rr).length) from pk_m1 ((x :: rr).length)]; exact vp_top (by omega)), (vp_topm (by omega))⟩ ?_
              rw [show nI ((y :: (x :: rr)).length) + (-1) = nI ((x :: rr).length) from pk_m1 ((x :: rr).length)]
              rw [sCL (n := ((x :: rr).length)) (by omega)]
              rw [hy0]
              rw [show nI ((x :: rr).length) - 1 = nI (rr.length) from nI_pred rr.length]
              rw [sCL (n := (rr.length)) (by omega)]
              rw [hx0]
              refine ww_callSNi xCC okX4_value 117 (ix := 36) (t_X4_joined l d c x y _ (by omega)) (by omega) (by decide) xyX4_joined xiX4_joined (Or.inl (lw_gt_of (List.mem_of_getElem? (i := 377) (by decide +kernel)) rfl)) rfl (rest := [.int (nI (rr.length)), .ref 23]) rfl (Nat.le_of_ble_eq_true rfl) rfl (fun v14 z12 h13 => ?_)
              rw [h13]
              refine ww_blk xCC okX4_value 118 3 (ps := [vp_in (nI (rr.length)) 160]) (pc' := 41) (lv' := [(8, .int ((nI (s0 + i)) + 1)), (7, .int (nI ((x :: rr).length))), (9, .int (nI c)), (5, .ref 15), (6, .ref 21), (0, .ref 8), (1, .int (nI w)), (2, .ref 0), (3, .int (nI p)), (4, .int (nI e))]) (st' := []) (z' := (mPut zL 23 (nI (rr.length)).toNatClampNeg (pJoin c x y))) rfl (vp_in_nI (by omega) (by decide)) ?_
              rw [show nI (s0 + i) + (1 : Int32) = nI ((s0 + i) + 1) from nI_add (s0 + i) 1]
              rw [sCL (n := (rr.length)) (by omega)]
              exact ww_cut [0, 1, 3, 4, 5, 6, 7, 8, 9] (xlc (congrArg Value.int (show (nI ((s0 + i) + 1) : Int32) = nI (s0 + (i + 1)) from rfl)) (xlc (congrArg Value.int (show (nI ((x :: rr).length) : Int32) = nI (((pJoin c x y) :: rr).length) from rfl)) (xlc rfl (xlc rfl (xlc rfl (xlc rfl (xlc rfl (xlc rfl (xlc rfl rfl))))))))) rfl rfl (ih41 (i + 1) ((pJoin c x y) :: rr) (mPut zL 23 (rr.length) (pJoin c x y)) (by omega) (by omega) (pV_step e41_1 hdrop (pS_bin h62 (by omega) (by omega))) (pV_dbin e41_2 hdrop h62 (by omega) (by omega)) (KN_put e41_3) (StkR_bin e41_4) (by rw [List.length_cons]; omega))
        · skip
          replace c2 : ¬ 10005 < c := fun q => c2 ((sLT (a := 10005) (b := c) (by omega) (by omega)).mpr q)
          have h62 := c2
          refine ww_blk xCC okX4_value 36 4 (ps := []) (pc' := 72) (lv' := [(9, .int (nI c)), (8, .int (nI (s0 + i))), (7, .int (nI (st.length))), (5, .ref 15), (6, .ref 21), (0, .ref 8), (1, .int (nI w)), (2, .ref 0), (3, .int (nI p)), (4, .int (nI e))]) (st' := [.int 160, .int (nI (st.length))]) (z' := zL) rfl trivial ?_
          refine ww_br xCC okX4_value 40 (P := (nI (st.length)) < 160) (t1 := 77) (t2 := 75) (r := []) rfl (fun c15 => ?_) (fun c15 => absurd ((sLT (b := 160) (by omega) (by decide)).mpr (by omega)) c15)
          refine ww_blk xCC okX4_value 43 5 (ps := []) (pc' := 88) (lv' := [(9, .int (nI c)), (8, .int (nI (s0 + i))), (7, .int (nI (st.length))), (5, .ref 15), (6, .ref 21), (0, .ref 8), (1, .int (nI w)), (2, .ref 0), (3, .int (nI p)), (4, .int (nI e))]) (st' := [.int 10000, .int (nI c), .int (nI (st.length)), .ref 23]) (z' := zL) rfl trivial ?_
          refine ww_br xCC okX4_value 48 (P := 10000 ≤ (nI c)) (t1 := 96) (t2 := 91) (r := [.int (nI (st.length)), .ref 23]) rfl (fun c16 => ?_) (fun c16 => ?_)
          · skip
            replace c16 : 10000 ≤ c := (sLE (a := 10000) (b := c) (by omega) (by omega)).mp c16
            have h88 := c16
            refine ww_blk xCC okX4_value 51 4 (ps := []) (pc' := 102) (lv' := [(9, .int (nI c)), (8, .int (nI (s0 + i))), (7, .int (nI (st.length))), (5, .ref 15), (6, .ref 21), (0, .ref 8), (1, .int (nI w)), (2, .ref 0), (3, .int (nI p)), (4, .int (nI e))]) (st' := [.int (nI e), .int (nI p), .ref 0, .int (nI c), .int (nI (st.length)), .ref 23]) (z' := zL) rfl trivial ?_
            refine ww_callSIi xCC okX4_value 55 (ix := 32) (t_X4_fact l d c p e zL r cnt (RX_of (fun k9 h9 => e41_3 _ (by omega)) hr) hw (by omega) hp he) (by omega) (by decide) xyX4_fact xiX4_fact (Or.inl (lw_gt_of (List.mem_of_getElem? (i := 368) (by decide +kernel)) rfl)) rfl (rest := [.int (nI (st.length)), .ref 23]) rfl (Nat.le_of_ble_eq_true rfl) rfl (fun v19 z17 h18 => ?_)
            rw [h18.1, h18.2]
            refine ww_blk xCC okX4_value 56 3 (ps := [vp_in (nI (st.length)) 160]) (pc' := 224) (lv' := [(7, .int ((nI (st.length)) + 1)), (9, .int (nI c)), (8, .int (nI (s0 + i))), (5, .ref 15), (6, .ref 21), (0, .ref 8), (1, .int (nI w)), (2, .ref 0), (3, .int (nI p)), (4, .int (nI e))]) (st' := []) (z' := (mPut zL 23 (nI (st.length)).toNatClampNeg (sF r p e c))) rfl (vp_in_nI (by omega) (by decide)) ?_
            rw [show nI (st.length) + (1 : Int32) = nI ((st.length) + 1) from nI_add (st.length) 1]
            rw [sCL (n := (st.length)) (by omega)]
            refine ww_blk xCC okX4_value 119 2 (ps := []) (pc' := 41) (lv' := [(8, .int ((nI (s0 + i)) + 1)), (7, .int (nI ((st.length) + 1))), (9, .int (nI c)), (5, .ref 15), (6, .ref 21), (0, .ref 8), (1, .int (nI w)), (2, .ref 0), (3, .int (nI p)), (4, .int (nI e))]) (st' := []) (z' := (mPut zL 23 (st.length) (sF r p e c))) rfl trivial ?_
            rw [show nI (s0 + i) + (1 : Int32) = nI ((s0 + i) + 1) from nI_add (s0 + i) 1]
            exact ww_cut [0, 1, 3, 4, 5, 6, 7, 8, 9] (xlc (congrArg Value.int (show (nI ((s0 + i) + 1) : Int32) = nI (s0 + (i + 1)) from rfl)) (xlc (congrArg Value.int (show (nI ((st.length) + 1) : Int32) = nI (((sF r p e c) :: st).length) from rfl)) (xlc rfl (xlc rfl (xlc rfl (xlc rfl (xlc rfl (xlc rfl (xlc rfl rfl))))))))) rfl rfl (ih41 (i + 1) ((sF r p e c) :: st) (mPut zL 23 (st.length) (sF r p e c)) (by omega) (by omega) (pV_push e41_1 hdrop (pS_fact h62 h88)) (pV_dpush e41_2 hdrop h62) (KN_put e41_3) (StkR_push e41_4) (by rw [List.length_cons]; omega))
          · skip
            replace c16 : ¬ 10000 ≤ c := fun q => c16 ((sLE (a := 10000) (b := c) (by omega) (by omega)).mpr q)
            have h88 := c16
            refine ww_blk xCC okX4_value 49 2 (ps := []) (pc' := 105) (lv' := [(9, .int (nI c)), (8, .int (nI (s0 + i))), (7, .int (nI (st.length))), (5, .ref 15), (6, .ref 21), (0, .ref 8), (1, .int (nI w)), (2, .ref 0), (3, .int (nI p)), (4, .int (nI e))]) (st' := [.int (nI c), .int (nI (st.length)), .ref 23]) (z' := zL) rfl trivial ?_
            refine ww_blk xCC okX4_value 56 3 (ps := [vp_in (nI (st.length)) 160]) (pc' := 224) (lv' := [(7, .int ((nI (st.length)) + 1)), (9, .int (nI c)), (8, .int (nI (s0 + i))), (5, .ref 15), (6, .ref 21), (0, .ref 8), (1, .int (nI w)), (2, .ref 0), (3, .int (nI p)), (4, .int (nI e))]) (st' := []) (z' := (mPut zL 23 (nI (st.length)).toNatClampNeg (nI c))) rfl (vp_in_nI (by omega) (by decide)) ?_
            rw [show nI (st.length) + (1 : Int32) = nI ((st.length) + 1) from nI_add (st.length) 1]
            rw [sCL (n := (st.length)) (by omega)]
            refine ww_blk xCC okX4_value 119 2 (ps := []) (pc' := 41) (lv' := [(8, .int ((nI (s0 + i)) + 1)), (7, .int (nI ((st.length) + 1))), (9, .int (nI c)), (5, .ref 15), (6, .ref 21), (0, .ref 8), (1, .int (nI w)), (2, .ref 0), (3, .int (nI p)), (4, .int (nI e))]) (st' := []) (z' := (mPut zL 23 (st.length) (nI c))) rfl trivial ?_
            rw [show nI (s0 + i) + (1 : Int32) = nI ((s0 + i) + 1) from nI_add (s0 + i) 1]
            exact ww_cut [0, 1, 3, 4, 5, 6, 7, 8, 9] (xlc (congrArg Value.int (show (nI ((s0 + i) + 1) : Int32) = nI (s0 + (i + 1)) from rfl)) (xlc (congrArg Value.int (show (nI ((st.length) + 1) : Int32) = nI (((nI c) :: st).length) from rfl)) (xlc rfl (xlc rfl (xlc rfl (xlc rfl (xlc rfl (xlc rfl (xlc rfl rfl))))))))) rfl rfl (ih41 (i + 1) ((nI c) :: st) (mPut zL 23 (st.length) (nI c)) (by omega) (by omega) (pV_push e41_1 hdrop (pS_num h62 (by omega))) (pV_dpush e41_2 hdrop h62) (KN_put e41_3) (StkR_push e41_4) (by rw [List.length_cons]; omega))
  refine ww_blk xCC okX4_value 14 1 (ps := []) (pc' := 26) (lv' := [(7, .int 0), (6, .ref 21), (5, .ref 15), (0, .ref 8), (1, .int (nI w)), (2, .ref 0), (3, .int (nI p)), (4, .int (nI e))]) (st' := [.int (nI w)]) (z' := z) rfl trivial ?_
  refine ww_br xCC okX4_value 15 (P := (nI w) = 0) (t1 := 29) (t2 := 33) (r := []) rfl (fun c20 => ?_) (fun c20 => ?_)
  · skip
    replace c20 : w = 0 := (sEQ (a := w) (b := 0) (by omega) (by omega)).mp c20
    refine ww_blk xCC okX4_value 16 2 (ps := []) (pc' := 39) (lv' := [(7, .int 0), (6, .ref 21), (5, .ref 15), (0, .ref 8), (1, .int (nI w)), (2, .ref 0), (3, .int (nI p)), (4, .int (nI e))]) (st' := [.int 0]) (z' := z) rfl trivial ?_
    refine ww_blk xCC okX4_value 23 1 (ps := []) (pc' := 41) (lv' := [(8, .int 0), (7, .int 0), (6, .ref 21), (5, .ref 15), (0, .ref 8), (1, .int (nI w)), (2, .ref 0), (3, .int (nI p)), (4, .int (nI e))]) (st' := []) (z' := z) rfl trivial ?_
    exact ww_cut [0, 1, 3, 2, 4, 5, 6, 7, 8] (xlc (congrArg Value.int (show (0 : Int32) = nI (s0 + 0) from (by first | rfl | (rw [hs0 (by omega)]; rfl)))) (xlc (congrArg Value.int (show (0 : Int32) = nI (([]).length) from rfl)) (xlc rfl (xlc rfl (xlc rfl (xlc rfl (xlc rfl (xlc rfl (xlc rfl rfl))))))))) rfl rfl (L41 (cs.length - 0 + 1) 0 ([]) z (Nat.lt_succ_self _) (Nat.zero_le _) rfl hdp (KN_rf z) (StkR_0 z) (Nat.zero_le _))
  · skip
    replace c20 : ¬ w = 0 := fun q => c20 ((sEQ (a := w) (b := 0) (by omega) (by omega)).mpr q)
    replace hB1 := hB1 (by omega)
    refine ww_blk xCC okX4_value 18 6 (ps := [vp_in ((nI w) - 1) 3]) (pc' := 41) (lv' := [(8, .int (z.1 21 ((nI w) - 1).toNatClampNeg)), (7, .int 0), (6, .ref 21), (5, .ref 15), (0, .ref 8), (1, .int (nI w)), (2, .ref 0), (3, .int (nI p)), (4, .int (nI e))]) (st' := []) (z' := z) rfl (by rw [show nI w - (1 : Int32) = nI (w - 1) from pk_sub (b := 1) (by omega)]; exact vp_in_nI (by omega) (by decide)) ?_
    rw [show nI w - (1 : Int32) = nI (w - 1) from pk_sub (b := 1) (by omega)]
    rw [sCL (n := (w - 1)) (by omega)]
    rw [hB1]
    exact ww_cut [0, 1, 3, 2, 4, 5, 6, 7, 8] (xlc (congrArg Value.int (show (nI s0 : Int32) = nI (s0 + 0) from (by first | rfl | (rw [hs0 (by omega)]; rfl)))) (xlc (congrArg Value.int (show (0 : Int32) = nI (([]).length) from rfl)) (xlc rfl (xlc rfl (xlc rfl (xlc rfl (xlc rfl (xlc rfl (xlc rfl rfl))))))))) rfl rfl (L41 (cs.length - 0 + 1) 0 ([]) z (Nat.lt_succ_self _) (Nat.zero_le _) rfl hdp (KN_rf z) (StkR_0 z) (Nat.zero_le _))

set_option maxHeartbeats 4000000 in
set_option maxRecDepth 20000 in
theorem t_X4_value_5 (l : Launch) (d : Nat) (w p e : Nat) (z : xMem) (r : sR) (cnt : Nat) (tc : Nat → sTc) (hr : RX z 0 r) (hw : sW r cnt) (ht : TX z 8 cnt tc) (hw3 : w < 3) (hp : p < 4) (he : e < 10) (hk : r 7 5 = 5) : XMi l (d + 2) yX4_value cX4_value 11 (some .int) shR [.ref 8, .int (nI w), .ref 0, .int (nI p), .int (nI e)] z (fun v z' => v = sSays tc r w p e ∧ KN z z') := by
  refine XM.of (by decide) (Nat.le_of_ble_eq_true rfl) (fun xp xe xs xm xar xbl xme xc xD xcs xad xAA xCC xhr => ?_)
  generalize xhQ : MQ xbl _ xar xs 0 0 xAA = xQ
  show ww xp l xe (xRm (d + 2)) xs xm xar xbl xme xc 11 xD xcs xad shR xAA xQ 0 [(0, .ref 8), (1, .int (nI w)), (2, .ref 0), (3, .int (nI p)), (4, .int (nI e))] [] z
  have hkc : 5 < cnt := by have := hw.2.2.2.2.2.2.2; omega
  obtain ⟨s0, hs0, hB0, hBw, hsl, hA, hdp, hok⟩ := TXk_w (ht.2.2.2 5 hkc) hw3
  have hr5 : z.1 0 14 = 5 := by rw [show z.1 0 14 = nI (r 7 5) from hr.2.2.2.2.2.2.2.2.2.2.2.2.2, hk]; rfl
  replace hBw : z.1 22 w = nI (s0 + (sPart w (tc 5)).length) := hBw
  replace hA : ∀ i, i < (sPart w (tc 5)).length → z.1 16 (s0 + i) = nI ((sPart w (tc 5)).getD i 0) := hA
  have hB1 : w ≠ 0 → z.1 22 (w - 1) = nI s0 := hB0
  obtain ⟨cs, hcs⟩ : ∃ cs, cs = sPart w (tc 5) := ⟨_, rfl⟩
  rw [← hcs] at hBw hA hsl hdp hok
  have htW : tW tc r w p e = tV (sF r p e) cs := by unfold tW; rw [hk, hcs]
  refine ww_blk xCC okX4_value 0 4 (ps := []) (pc' := 8) (lv' := [(0, .ref 8), (1, .int (nI w)), (2, .ref 0), (3, .int (nI p)), (4, .int (nI e))]) (st' := [.int (z.1 0 14), .ref 9]) (z' := z) rfl trivial ?_
  rw [hr5]
  refine ww_blk xCC okX4_value 4 6 (ps := [vp_in 5 6]) (pc' := 19) (lv' := [(5, .ref 16), (0, .ref 8), (1, .int (nI w)), (2, .ref 0), (3, .int (nI p)), (4, .int (nI e))]) (st' := [.int (z.1 0 14), .ref 10]) (z' := z) rfl (show vp_in 5 6 from (by unfold vp_in; decide)) ?_
  rw [hr5]
  refine ww_blk xCC okX4_value 10 4 (ps := [vp_in 5 6]) (pc' := 25) (lv' := [(7, .int 0), (6, .ref 22), (5, .ref 16), (0, .ref 8), (1, .int (nI w)), (2, .ref 0), (3, .int (nI p)), (4, .int (nI e))]) (st' := []) (z' := z) rfl (show vp_in 5 6 from (by unfold vp_in; decide)) ?_
  have L41 : ∀ (n41 : Nat) (i : Nat) (st : List Int32) (zL : xMem), cs.length - i < n41 → (i ≤ cs.length) → (pEv (sF r p e) (cs.drop i) st = pEv (sF r p e) cs []) → (pDp (cs.drop i) st.length = some 1) → (KN z zL) → (StkR zL st) → (st.length ≤ i) → ww xp l xe (xRm (d + 2)) xs xm xar xbl xme xc 11 xD xcs xad shR xAA xQ 41 [(8, .int (nI (s0 + i))), (7, .int (nI (st.length))), (5, .ref 16), (6, .ref 22), (0, .ref 8), (1, .int (nI w)), (2, .ref 0), (3, .int (nI p)), (4, .int (nI e))] [] zL := by
    intro n41
    induction n41 with
    | zero =>
      intro i st zL hmu41
      exact absurd hmu41 (Nat.not_lt_zero _)
    | succ n41 ih41 =>
      intro i st zL hmu41 e41_0 e41_1 e41_2 e41_3 e41_4 e41_5
      refine ww_blk xCC okX4_value 24 4 (ps := [vp_in (nI w) 3]) (pc' := 47) (lv' := [(8, .int (nI (s0 + i))), (7, .int (nI (st.length))), (5, .ref 16), (6, .ref 22), (0, .ref 8), (1, .int (nI w)), (2, .ref 0), (3, .int (nI p)), (4, .int (nI e))]) (st' := [.int (zL.1 22 (nI w).toNatClampNeg), .int (nI (s0 + i))]) (z' := zL) rfl (vp_in_nI (by omega) (by decide)) ?_
      rw [sCL (n := w) (by omega)]
      rw [show zL.1 22 w = nI (s0 + cs.length) from (congrFun (e41_3 22 (by decide)) w).trans hBw]
      refine ww_br xCC okX4_value 28 (P := (nI (s0 + cs.length)) ≤ (nI (s0 + i))) (t1 := 230) (t2 := 50) (r := []) rfl (fun c1 => ?_) (fun c1 => ?_)
      · skip
        replace c1 : (s0 + cs.length) ≤ (s0 + i) := (sLE (a := (s0 + cs.length)) (b := (s0 + i)) (by omega) (by omega)).mp c1
        refine ww_blk xCC okX4_value 121 10 (ps := [vp_in (nI w) 3, vp_in 0 160]) (pc' := 248) (lv' := [(8, .int (nI (s0 + i))), (7, .int (nI (st.length))), (5, .ref 16), (6, .ref 22), (0, .ref 8), (1, .int (nI w)), (2, .ref 0), (3, .int (nI p)), (4, .int (nI e))]) (st' := [.int (if 0 < (if (zL.1 23 0) < (xTab 3 (nI w).toNatClampNeg) then (zL.1 23 0) else (xTab 3 (nI w).toNatClampNeg)) then (if (zL.1 23 0) < (xTab 3 (nI w).toNatClampNeg) then (zL.1 23 0) else (xTab 3 (nI w).toNatClampNeg)) else 0)]) (z' := zL) rfl ⟨(vp_in_nI (by omega) (by decide)), (show vp_in 0 160 from (by unfold vp_in; decide))⟩ ?_
        rw [sCL (n := w) (by omega)]
        subst xhQ
        exact ww_iret xCC okX4_value 131 xhr rfl rfl ⟨_, rfl, ⟨(by rw [show zL.1 23 0 = tW tc r w p e from (pV_end e41_1 e41_2 e41_4 (by omega)).trans htW.symm]; exact sSays_mm tc r p e hw3), e41_3⟩⟩
      · skip
        replace c1 : ¬ (s0 + cs.length) ≤ (s0 + i) := fun q => c1 ((sLE (a := (s0 + cs.length)) (b := (s0 + i)) (by omega) (by omega)).mpr q)
        obtain ⟨c, hc⟩ : ∃ c, c = cs.getD i 0 := ⟨_, rfl⟩
        have hrd : zL.1 16 (s0 + i) = nI c := by rw [hc, e41_3 16 (by decide)]; exact hA i (by omega)
        have hdrop := pV_drop hc (show i < cs.length by omega)
        have hcb : c ≤ 10014 := hok c (by rw [hc, List.getD_eq_getElem?_getD, List.getElem?_eq_getElem (show i < cs.length by omega)]; exact List.getElem_mem _)
        refine ww_blk xCC okX4_value 29 6 (ps := [vp_in (nI (s0 + i)) 160]) (pc' := 62) (lv' := [(9, .int (zL.1 16 (nI (s0 + i)).toNatClampNeg)), (8, .int (nI (s0 + i))), (7, .int (nI (st.length))), (5, .ref 16), (6, .ref 22), (0, .ref 8), (1, .int (nI w)), (2, .ref 0), (3, .int (nI p)), (4, .int (nI e))]) (st' := [.int 10005, .int (zL.1 16 (nI (s0 + i)).toNatClampNeg)]) (z' := zL) rfl (vp_in_nI (by omega) (by decide)) ?_
        rw [sCL (n := (s0 + i)) (by omega)]
        rw [hrd]
        refine ww_br xCC okX4_value 35 (P := 10005 < (nI c)) (t1 := 112) (t2 := 65) (r := []) rfl (fun c2 => ?_) (fun c2 => ?_)
        · skip
          replace c2 : 10005 < c := (sLT (a := 10005) (b := c) (by omega) (by omega)).mp c2
          have h62 := c2
          refine ww_blk xCC okX4_value 59 2 (ps := []) (pc' := 117) (lv' := [(9, .int (nI c)), (8, .int (nI (s0 + i))), (7, .int (nI (st.length))), (5, .ref 16), (6, .ref 22), (0, .ref 8), (1, .int (nI w)), (2, .ref 0), (3, .int (nI p)), (4, .int (nI e))]) (st' := [.int 10013, .int (nI c)]) (z' := zL) rfl trivial ?_
          refine ww_br xCC okX4_value 61 (P := (nI c) = 10013) (t1 := 128) (t2 := 120) (r := []) rfl (fun c3 => ?_) (fun c3 => ?_)
          · skip
            replace c3 : c = 10013 := (sEQ (a := c) (b := 10013) (by omega) (by omega)).mp c3
            have h129 : 1 ≤ st.length := pV_un1 e41_2 hdrop h62 (by omega)
            obtain ⟨x, rr, rfl⟩ := pV_c1 h129
            have hl1 : (x :: rr).length = rr.length + 1 := rfl
            have hx0 : zL.1 23 rr.length = x := StkR_1 e41_4
            refine ww_blk xCC okX4_value 65 2 (ps := []) (pc' := 131) (lv' := [(9, .int (nI c)), (8, .int (nI (s0 + i))), (7, .int (nI ((x :: rr).length))), (5, .ref 16), (6, .ref 22), (0, .ref 8), (1, .int (nI w)), (2, .ref 0), (3, .int (nI p)), (4, .int (nI e))]) (st' := [.int 1, .int (nI ((x :: rr).length))]) (z' := zL) rfl trivial ?_
            refine ww_br xCC okX4_value 67 (P := 1 ≤ (nI ((x :: rr).length))) (t1 := 136) (t2 := 134) (r := []) rfl (fun c4 => ?_) (fun c4 => absurd ((sLE (a := 1) (by decide) (by omega)).mpr (by rw [List.length_cons]; omega)) c4)
            refine ww_blk xCC okX4_value 70 14 (ps := [vp_in ((nI ((x :: rr).length)) - 1) 160]) (pc' := 160) (lv' := [(10, .int (zL.1 23 ((nI ((x :: rr).length)) - 1).toNatClampNeg)), (9, .int (nI c)), (8, .int (nI (s0 + i))), (7, .int (nI ((x :: rr).length))), (5, .ref 16), (6, .ref 22), (0, .ref 8), (1, .int (nI w)), (2, .ref 0), (3, .int (nI p)), (4, .int (nI e))]) (st' := [.int 10014, .int (nI c), .int ((nI ((x :: rr).length)) - 1), .ref 23]) (z' := zL) rfl (vp_top (by omega)) ?_
            rw [show nI ((x :: rr).length) - 1 = nI (rr.length) from nI_pred rr.length]
            rw [sCL (n := (rr.length)) (by omega)]
            rw [hx0]
            refine ww_br xCC okX4_value 84 (P := (nI c) = 10014) (t1 := 163) (t2 := 169) (r := [.int (nI (rr.length)), .ref 23]) rfl (fun c5 => ?_) (fun c5 => ?_)
            · skip
              replace c5 : c = 10014 := (sEQ (a := c) (b := 10014) (by omega) (by omega)).mp c5
              refine ww_blk xCC okX4_value 85 3 (ps := []) (pc' := 179) (lv' := [(10, .int x), (9, .int (nI c)), (8, .int (nI (s0 + i))), (7, .int (nI ((x :: rr).length))), (5, .ref 16), (6, .ref 22), (0, .ref 8), (1, .int (nI w)), (2, .ref 0), (3, .int (nI p)), (4, .int (nI e))]) (st' := [.int (-x), .int (nI (rr.length)), .ref 23]) (z' := zL) rfl trivial ?_
              refine ww_blk xCC okX4_value 93 2 (ps := [vp_in (nI (rr.length)) 160]) (pc' := 224) (lv' := [(10, .int x), (9, .int (nI c)), (8, .int (nI (s0 + i))), (7, .int (nI ((x :: rr).length))), (5, .ref 16), (6, .ref 22), (0, .ref 8), (1, .int (nI w)), (2, .ref 0), (3, .int (nI p)), (4, .int (nI e))]) (st' := []) (z' := (mPut zL 23 (nI (rr.length)).toNatClampNeg (-x))) rfl (vp_in_nI (by omega) (by decide)) ?_
              rw [sCL (n := (rr.length)) (by omega)]
              refine ww_blk xCC okX4_value 119 2 (ps := []) (pc' := 41) (lv' := [(8, .int ((nI (s0 + i)) + 1)), (10, .int x), (9, .int (nI c)), (7, .int (nI ((x :: rr).length))), (5, .ref 16), (6, .ref 22), (0, .ref 8), (1, .int (nI w)), (2, .ref 0), (3, .int (nI p)), (4, .int (nI e))]) (st' := []) (z' := (mPut zL 23 (rr.length) (-x))) rfl trivial ?_
              rw [show nI (s0 + i) + (1 : Int32) = nI ((s0 + i) + 1) from nI_add (s0 + i) 1]
              exact ww_cut [0, 3, 4, 5, 6, 7, 8, 9, 10] (xlc (congrArg Value.int (show (nI ((s0 + i) + 1) : Int32) = nI (s0 + (i + 1)) from rfl)) (xlc (congrArg Value.int (show (nI ((x :: rr).length) : Int32) = nI (((-x) :: rr).length) from rfl)) (xlc rfl (xlc rfl (xlc rfl (xlc rfl (xlc rfl (xlc rfl (xlc rfl rfl))))))))) rfl rfl (ih41 (i + 1) ((-x) :: rr) (mPut zL 23 (rr.length) (-x)) (by omega) (by omega) (pV_step e41_1 hdrop (pS_neg (by omega))) (pV_dun e41_2 hdrop h62 (by omega)) (KN_put e41_3) (StkR_un e41_4) (by rw [List.length_cons]; omega))
            · skip
              replace c5 : ¬ c = 10014 := fun q => c5 ((sEQ (a := c) (b := 10014) (by omega) (by omega)).mpr q)
              refine ww_blk xCC okX4_value 88 1 (ps := []) (pc' := 171) (lv' := [(10, .int x), (9, .int (nI c)), (8, .int (nI (s0 + i))), (7, .int (nI ((x :: rr).length))), (5, .ref 16), (6, .ref 22), (0, .ref 8), (1, .int (nI w)), (2, .ref 0), (3, .int (nI p)), (4, .int (nI e))]) (st' := [.int x, .int (nI (rr.length)), .ref 23]) (z' := zL) rfl trivial ?_
              refine ww_br xCC okX4_value 89 (P := x = 0) (t1 := 174) (t2 := 178) (r := [.int (nI (rr.length)), .ref 23]) rfl (fun c6 => ?_) (fun c6 => ?_)
              · skip
                have h171 := c6
                refine ww_blk xCC okX4_value 90 2 (ps := []) (pc' := 179) (lv' := [(10, .int x), (9, .int (nI c)), (8, .int (nI (s0 + i))), (7, .int (nI ((x :: rr).length))), (5, .ref 16), (6, .ref 22), (0, .ref 8), (1, .int (nI w)), (2, .ref 0), (3, .int (nI p)), (4, .int (nI e))]) (st' := [.int 1, .int (nI (rr.length)), .ref 23]) (z' := zL) rfl trivial ?_
                refine ww_blk xCC okX4_value 93 2 (ps := [vp_in (nI (rr.length)) 160]) (pc' := 224) (lv' := [(10, .int x), (9, .int (nI c)), (8, .int (nI (s0 + i))), (7, .int (nI ((x :: rr).length))), (5, .ref 16), (6, .ref 22), (0, .ref 8), (1, .int (nI w)), (2, .ref 0), (3, .int (nI p)), (4, .int (nI e))]) (st' := []) (z' := (mPut zL 23 (nI (rr.length)).toNatClampNeg 1)) rfl (vp_in_nI (by omega) (by decide)) ?_
                rw [sCL (n := (rr.length)) (by omega)]
                refine ww_blk xCC okX4_value 119 2 (ps := []) (pc' := 41) (lv' := [(8, .int ((nI (s0 + i)) + 1)), (10, .int x), (9, .int (nI c)), (7, .int (nI ((x :: rr).length))), (5, .ref 16), (6, .ref 22), (0, .ref 8), (1, .int (nI w)), (2, .ref 0), (3, .int (nI p)), (4, .int (nI e))]) (st' := []) (z' := (mPut zL 23 (rr.length) 1)) rfl trivial ?_
                rw [show nI (s0 + i) + (1 : Int32) = nI ((s0 + i) + 1) from nI_add (s0 + i) 1]
                exact ww_cut [0, 3, 4, 5, 6, 7, 8, 9, 10] (xlc (congrArg Value.int (show (nI ((s0 + i) + 1) : Int32) = nI (s0 + (i + 1)) from rfl)) (xlc (congrArg Value.int (show (nI ((x :: rr).length) : Int32) = nI ((1 :: rr).length) from rfl)) (xlc rfl (xlc rfl (xlc rfl (xlc rfl (xlc rfl (xlc rfl (xlc rfl rfl))))))))) rfl rfl (ih41 (i + 1) (1 :: rr) (mPut zL 23 (rr.length) 1) (by omega) (by omega) (pV_step e41_1 hdrop (pS_not1 (by omega) h171)) (pV_dun e41_2 hdrop h62 (by omega)) (KN_put e41_3) (StkR_un e41_4) (by rw [List.length_cons]; omega))
              · skip
                have h171 := c6
                refine ww_blk xCC okX4_value 92 3 (ps := [vp_in (nI (rr.length)) 160]) (pc' := 224) (lv' := [(10, .int x), (9, .int (nI c)), (8, .int (nI (s0 + i))), (7, .int (nI ((x :: rr).length))), (5, .ref 16), (6, .ref 22), (0, .ref 8), (1, .int (nI w)), (2, .ref 0), (3, .int (nI p)), (4, .int (nI e))]) (st' := []) (z' := (mPut zL 23 (nI (rr.length)).toNatClampNeg 0)) rfl (vp_in_nI (by omega) (by decide)) ?_
                rw [sCL (n := (rr.length)) (by omega)]
                refine ww_blk xCC okX4_value 119 2 (ps := []) (pc' := 41) (lv' := [(8, .int ((nI (s0 + i)) + 1)), (10, .int x), (9, .int (nI c)), (7, .int (nI ((x :: rr).length))), (5, .ref 16), (6, .ref 22), (0, .ref 8), (1, .int (nI w)), (2, .ref 0), (3, .int (nI p)), (4, .int (nI e))]) (st' := []) (z' := (mPut zL 23 (rr.length) 0)) rfl trivial ?_
                rw [show nI (s0 + i) + (1 : Int32) = nI ((s0 + i) + 1) from nI_add (s0 + i) 1]
                exact ww_cut [0, 3, 4, 5, 6, 7, 8, 9, 10] (xlc (congrArg Value.int (show (nI ((s0 + i) + 1) : Int32) = nI (s0 + (i + 1)) from rfl)) (xlc (congrArg Value.int (show (nI ((x :: rr).length) : Int32) = nI ((0 :: rr).length) from rfl)) (xlc rfl (xlc rfl (xlc rfl (xlc rfl (xlc rfl (xlc rfl (xlc rfl rfl))))))))) rfl rfl (ih41 (i + 1) (0 :: rr) (mPut zL 23 (rr.length) 0) (by omega) (by omega) (pV_step e41_1 hdrop (pS_not0 (by omega) h171)) (pV_dun e41_2 hdrop h62 (by omega)) (KN_put e41_3) (StkR_un e41_4) (by rw [List.length_cons]; omega))
          · skip
            replace c3 : ¬ c = 10013 := fun q => c3 ((sEQ (a := c) (b := 10013) (by omega) (by omega)).mpr q)
            refine ww_blk xCC okX4_value 62 2 (ps := []) (pc' := 125) (lv' := [(9, .int (nI c)), (8, .int (nI (s0 + i))), (7, .int (nI (st.length))), (5, .ref 16), (6, .ref 22), (0, .ref 8), (1, .int (nI w)), (2, .ref 0), (3, .int (nI p)), (4, .int (nI e))]) (st' := [.int 10014, .int (nI c)]) (z' := zL) rfl trivial ?_
            refine ww_br xCC okX4_value 64 (P := (nI c) = 10014) (t1 := 128) (t2 := 183) (r := []) rfl (fun c7 => ?_) (fun c7 => ?_)
            · skip
              replace c7 : c = 10014 := (sEQ (a := c) (b := 10014) (by omega) (by omega)).mp c7
              have h129 : 1 ≤ st.length := pV_un1 e41_2 hdrop h62 (by omega)
              obtain ⟨x, rr, rfl⟩ := pV_c1 h129
              have hl1 : (x :: rr).length = rr.length + 1 := rfl
              have hx0 : zL.1 23 rr.length = x := StkR_1 e41_4
              refine ww_blk xCC okX4_value 65 2 (ps := []) (pc' := 131) (lv' := [(9, .int (nI c)), (8, .int (nI (s0 + i))), (7, .int (nI ((x :: rr).length))), (5, .ref 16), (6, .ref 22), (0, .ref 8), (1, .int (nI w)), (2, .ref 0), (3, .int (nI p)), (4, .int (nI e))]) (st' := [.int 1, .int (nI ((x :: rr).length))]) (z' := zL) rfl trivial ?_
              refine ww_br xCC okX4_value 67 (P := 1 ≤ (nI ((x :: rr).length))) (t1 := 136) (t2 := 134) (r := []) rfl (fun c8 => ?_) (fun c8 => absurd ((sLE (a := 1) (by decide) (by omega)).mpr (by rw [List.length_cons]; omega)) c8)
              refine ww_blk xCC okX4_value 70 14 (ps := [vp_in ((nI ((x :: rr).length)) - 1) 160]) (pc' := 160) (lv' := [(10, .int (zL.1 23 ((nI ((x :: rr).length)) - 1).toNatClampNeg)), (9, .int (nI c)), (8, .int (nI (s0 + i))), (7, .int (nI ((x :: rr).length))), (5, .ref 16), (6, .ref 22), (0, .ref 8), (1, .int (nI w)), (2, .ref 0), (3, .int (nI p)), (4, .int (nI e))]) (st' := [.int 10014, .int (nI c), .int ((nI ((x :: rr).length)) - 1), .ref 23]) (z' := zL) rfl (vp_top (by omega)) ?_
              rw [show nI ((x :: rr).length) - 1 = nI (rr.length) from nI_pred rr.length]
              rw [sCL (n := (rr.length)) (by omega)]
              rw [hx0]
              refine ww_br xCC okX4_value 84 (P := (nI c) = 10014) (t1 := 163) (t2 := 169) (r := [.int (nI (rr.length)), .ref 23]) rfl (fun c9 => ?_) (fun c9 => ?_)
              · skip
                replace c9 : c = 10014 := (sEQ (a := c) (b := 10014) (by omega) (by omega)).mp c9
                refine ww_blk xCC okX4_value 85 3 (ps := []) (pc' := 179) (lv' := [(10, .int x), (9, .int (nI c)), (8, .int (nI (s0 + i))), (7, .int (nI ((x :: rr).length))), (5, .ref 16), (6, .ref 22), (0, .ref 8), (1, .int (nI w)), (2, .ref 0), (3, .int (nI p)), (4, .int (nI e))]) (st' := [.int (-x), .int (nI (rr.length)), .ref 23]) (z' := zL) rfl trivial ?_
                refine ww_blk xCC okX4_value 93 2 (ps := [vp_in (nI (rr.length)) 160]) (pc' := 224) (lv' := [(10, .int x), (9, .int (nI c)), (8, .int (nI (s0 + i))), (7, .int (nI ((x :: rr).length))), (5, .ref 16), (6, .ref 22), (0, .ref 8), (1, .int (nI w)), (2, .ref 0), (3, .int (nI p)), (4, .int (nI e))]) (st' := []) (z' := (mPut zL 23 (nI (rr.length)).toNatClampNeg (-x))) rfl (vp_in_nI (by omega) (by decide)) ?_
                rw [sCL (n := (rr.length)) (by omega)]
                refine ww_blk xCC okX4_value 119 2 (ps := []) (pc' := 41) (lv' := [(8, .int ((nI (s0 + i)) + 1)), (10, .int x), (9, .int (nI c)), (7, .int (nI ((x :: rr).length))), (5, .ref 16), (6, .ref 22), (0, .ref 8), (1, .int (nI w)), (2, .ref 0), (3, .int (nI p)), (4, .int (nI e))]) (st' := []) (z' := (mPut zL 23 (rr.length) (-x))) rfl trivial ?_
                rw [show nI (s0 + i) + (1 : Int32) = nI ((s0 + i) + 1) from nI_add (s0 + i) 1]
                exact ww_cut [0, 3, 4, 5, 6, 7, 8, 9, 10] (xlc (congrArg Value.int (show (nI ((s0 + i) + 1) : Int32) = nI (s0 + (i + 1)) from rfl)) (xlc (congrArg Value.int (show (nI ((x :: rr).length) : Int32) = nI (((-x) :: rr).length) from rfl)) (xlc rfl (xlc rfl (xlc rfl (xlc rfl (xlc rfl (xlc rfl (xlc rfl rfl))))))))) rfl rfl (ih41 (i + 1) ((-x) :: rr) (mPut zL 23 (rr.length) (-x)) (by omega) (by omega) (pV_step e41_1 hdrop (pS_neg (by omega))) (pV_dun e41_2 hdrop h62 (by omega)) (KN_put e41_3) (StkR_un e41_4) (by rw [List.length_cons]; omega))
              · skip
                replace c9 : ¬ c = 10014 := fun q => c9 ((sEQ (a := c) (b := 10014) (by omega) (by omega)).mpr q)
                refine ww_blk xCC okX4_value 88 1 (ps := []) (pc' := 171) (lv' := [(10, .int x), (9, .int (nI c)), (8, .int (nI (s0 + i))), (7, .int (nI ((x :: rr).length))), (5, .ref 16), (6, .ref 22), (0, .ref 8), (1, .int (nI w)), (2, .ref 0), (3, .int (nI p)), (4, .int (nI e))]) (st' := [.int x, .int (nI (rr.length)), .ref 23]) (z' := zL) rfl trivial ?_
                refine ww_br xCC okX4_value 89 (P := x = 0) (t1 := 174) (t2 := 178) (r := [.int (nI (rr.length)), .ref 23]) rfl (fun c10 => ?_) (fun c10 => ?_)
                · skip
                  have h171 := c10
                  refine ww_blk xCC okX4_value 90 2 (ps := []) (pc' := 179) (lv' := [(10, .int x), (9, .int (nI c)), (8, .int (nI (s0 + i))), (7, .int (nI ((x :: rr).length))), (5, .ref 16), (6, .ref 22), (0, .ref 8), (1, .int (nI w)), (2, .ref 0), (3, .int (nI p)), (4, .int (nI e))]) (st' := [.int 1, .int (nI (rr.length)), .ref 23]) (z' := zL) rfl trivial ?_
                  refine ww_blk xCC okX4_value 93 2 (ps := [vp_in (nI (rr.length)) 160]) (pc' := 224) (lv' := [(10, .int x), (9, .int (nI c)), (8, .int (nI (s0 + i))), (7, .int (nI ((x :: rr).length))), (5, .ref 16), (6, .ref 22), (0, .ref 8), (1, .int (nI w)), (2, .ref 0), (3, .int (nI p)), (4, .int (nI e))]) (st' := []) (z' := (mPut zL 23 (nI (rr.length)).toNatClampNeg 1)) rfl (vp_in_nI (by omega) (by decide)) ?_
                  rw [sCL (n := (rr.length)) (by omega)]
                  refine ww_blk xCC okX4_value 119 2 (ps := []) (pc' := 41) (lv' := [(8, .int ((nI (s0 + i)) + 1)), (10, .int x), (9, .int (nI c)), (7, .int (nI ((x :: rr).length))), (5, .ref 16), (6, .ref 22), (0, .ref 8), (1, .int (nI w)), (2, .ref 0), (3, .int (nI p)), (4, .int (nI e))]) (st' := []) (z' := (mPut zL 23 (rr.length) 1)) rfl trivial ?_
                  rw [show nI (s0 + i) + (1 : Int32) = nI ((s0 + i) + 1) from nI_add (s0 + i) 1]
                  exact ww_cut [0, 3, 4, 5, 6, 7, 8, 9, 10] (xlc (congrArg Value.int (show (nI ((s0 + i) + 1) : Int32) = nI (s0 + (i + 1)) from rfl)) (xlc (congrArg Value.int (show (nI ((x :: rr).length) : Int32) = nI ((1 :: rr).length) from rfl)) (xlc rfl (xlc rfl (xlc rfl (xlc rfl (xlc rfl (xlc rfl (xlc rfl rfl))))))))) rfl rfl (ih41 (i + 1) (1 :: rr) (mPut zL 23 (rr.length) 1) (by omega) (by omega) (pV_step e41_1 hdrop (pS_not1 (by omega) h171)) (pV_dun e41_2 hdrop h62 (by omega)) (KN_put e41_3) (StkR_un e41_4) (by rw [List.length_cons]; omega))
                · skip
                  have h171 := c10
                  refine ww_blk xCC okX4_value 92 3 (ps := [vp_in (nI (rr.length)) 160]) (pc' := 224) (lv' := [(10, .int x), (9, .int (nI c)), (8, .int (nI (s0 + i))), (7, .int (nI ((x :: rr).length))), (5, .ref 16), (6, .ref 22), (0, .ref 8), (1, .int (nI w)), (2, .ref 0), (3, .int (nI p)), (4, .int (nI e))]) (st' := []) (z' := (mPut zL 23 (nI (rr.length)).toNatClampNeg 0)) rfl (vp_in_nI (by omega) (by decide)) ?_
                  rw [sCL (n := (rr.length)) (by omega)]
                  refine ww_blk xCC okX4_value 119 2 (ps := []) (pc' := 41) (lv' := [(8, .int ((nI (s0 + i)) + 1)), (10, .int x), (9, .int (nI c)), (7, .int (nI ((x :: rr).length))), (5, .ref 16), (6, .ref 22), (0, .ref 8), (1, .int (nI w)), (2, .ref 0), (3, .int (nI p)), (4, .int (nI e))]) (st' := []) (z' := (mPut zL 23 (rr.length) 0)) rfl trivial ?_
                  rw [show nI (s0 + i) + (1 : Int32) = nI ((s0 + i) + 1) from nI_add (s0 + i) 1]
                  exact ww_cut [0, 3, 4, 5, 6, 7, 8, 9, 10] (xlc (congrArg Value.int (show (nI ((s0 + i) + 1) : Int32) = nI (s0 + (i + 1)) from rfl)) (xlc (congrArg Value.int (show (nI ((x :: rr).length) : Int32) = nI ((0 :: rr).length) from rfl)) (xlc rfl (xlc rfl (xlc rfl (xlc rfl (xlc rfl (xlc rfl (xlc rfl rfl))))))))) rfl rfl (ih41 (i + 1) (0 :: rr) (mPut zL 23 (rr.length) 0) (by omega) (by omega) (pV_step e41_1 hdrop (pS_not0 (by omega) h171)) (pV_dun e41_2 hdrop h62 (by omega)) (KN_put e41_3) (StkR_un e41_4) (by rw [List.length_cons]; omega))
            · skip
              replace c7 : ¬ c = 10014 := fun q => c7 ((sEQ (a := c) (b := 10014) (by omega) (by omega)).mpr q)
              have h129 : 2 ≤ st.length := pV_bin2 e41_2 hdrop h62 (by omega) (by omega)
              obtain ⟨y, x, rr, rfl⟩ := pV_c2 h129
              have hl1 : (x :: rr).length = rr.length + 1 := rfl
              have hl2 : (y :: (x :: rr)).length = rr.length + 2 := rfl
              have hy0 : zL.1 23 (x :: rr).length = y := StkR_1 e41_4
              have hx0 : zL.1 23 rr.length = x := StkR_2 e41_4
              refine ww_blk xCC okX4_value 95 2 (ps := []) (pc' := 186) (lv' := [(9, .int (nI c)), (8, .int (nI (s0 + i))), (7, .int (nI ((y :: (x :: rr)).length))), (5, .ref 16), (6, .ref 22), (0, .ref 8), (1, .int (nI w)), (2, .ref 0), (3, .int (nI p)), (4, .int (nI e))]) (st' := [.int 2, .int (nI ((y :: (x :: rr)).length))]) (z' := zL) rfl trivial ?_
              refine ww_br xCC okX4_value 97 (P := 2 ≤ (nI ((y :: (x :: rr)).length))) (t1 := 191) (t2 := 189) (r := []) rfl (fun c11 => ?_) (fun c11 => absurd ((sLE (a := 2) (by decide) (by omega)).mpr (by rw [List.length_cons, List.length_cons]; omega)) c11)
              refine ww_blk xCC okX4_value 100 17 (ps := [vp_in (((nI ((y :: (x :: rr)).length)) + (-1)) - 1) 160, vp_in ((nI ((y :: (x :: rr)).length)) + (-1)) 160]) (pc' := 220) (lv' := [(7, .int ((nI ((y :: (x :: rr)).length)) + (-1))), (9, .int (nI c)), (8, .int (nI (s0 + i))), (5, .ref 16), (6, .ref 22), (0, .ref 8), (1, .int (nI w)), (2, .ref 0), (3, .int (nI p)), (4, .int (nI e))]) (st' := [.int (zL.1 23 ((nI ((y :: (x :: rr)).length)) + (-1)).toNatClampNeg), .int (zL.1 23 (((nI ((y :: (x :: rr)).length)) + (-1)) - 1).toNatClampNeg), .int (nI c), .int (((nI ((y :: (x :: rr)).length)) + (-1)) - 1), .ref 23]) (z' := zL) rfl ⟨(by rw [show nI ((y :: (x :: rr)).length) + (-1) = nI ((x :: rr).length) from pk_m1 ((x :: rr).length)]; exact vp_top (by omega)), (vp_topm (by omega))⟩ ?_
              rw [show nI ((y :: (x :: rr)).length) + (-1) = nI ((x :: rr).length) from pk_m1 ((x :: rr).length)]
              rw [sCL (n := ((x :: rr).length)) (by omega)]
              rw [hy0]
              rw [show nI ((x :: rr).length) - 1 = nI (rr.length) from nI_pred rr.length]
              rw [sCL (n := (rr.length)) (by omega)]
              rw [hx0]
              refine ww_callSNi xCC okX4_value 117 (ix := 36) (t_X4_joined l d c x y _ (by omega)) (by omega) (by decide) xyX4_joined xiX4_joined (Or.inl (lw_gt_of (List.mem_of_getElem? (i := 377) (by decide +kernel)) rfl)) rfl (rest := [.int (nI (rr.length)), .ref 23]) rfl (Nat.le_of_ble_eq_true rfl) rfl (fun v14 z12 h13 => ?_)
              rw [h13]
              refine ww_blk xCC okX4_value 118 3 (ps := [vp_in (nI (rr.length)) 160]) (pc' := 41) (lv' := [(8, .int ((nI (s0 + i)) + 1)), (7, .int (nI ((x :: rr).length))), (9, .int (nI c)), (5, .ref 16), (6, .ref 22), (0, .ref 8), (1, .int (nI w)), (2, .ref 0), (3, .int (nI p)), (4, .int (nI e))]) (st' := []) (z' := (mPut zL 23 (nI (rr.length)).toNatClampNeg (pJoin c x y))) rfl (vp_in_nI (by omega) (by decide)) ?_
              rw [show nI (s0 + i) + (1 : Int32) = nI ((s0 + i) + 1) from nI_add (s0 + i) 1]
              rw [sCL (n := (rr.length)) (by omega)]
              exact ww_cut [0, 1, 3, 4, 5, 6, 7, 8, 9] (xlc (congrArg Value.int (show (nI ((s0 + i) + 1) : Int32) = nI (s0 + (i + 1)) from rfl)) (xlc (congrArg Value.int (show (nI ((x :: rr).length) : Int32) = nI (((pJoin c x y) :: rr).length) from rfl)) (xlc rfl (xlc rfl (xlc rfl (xlc rfl (xlc rfl (xlc rfl (xlc rfl rfl))))))))) rfl rfl (ih41 (i + 1) ((pJoin c x y) :: rr) (mPut zL 23 (rr.length) (pJoin c x y)) (by omega) (by omega) (pV_step e41_1 hdrop (pS_bin h62 (by omega) (by omega))) (pV_dbin e41_2 hdrop h62 (by omega) (by omega)) (KN_put e41_3) (StkR_bin e41_4) (by rw [List.length_cons]; omega))
        · skip
          replace c2 : ¬ 10005 < c := fun q => c2 ((sLT (a := 10005) (b := c) (by omega) (by omega)).mpr q)
          have h62 := c2
          refine ww_blk xCC okX4_value 36 4 (ps := []) (pc' := 72) (lv' := [(9, .int (nI c)), (8, .int (nI (s0 + i))), (7, .int (nI (st.length))), (5, .ref 16), (6, .ref 22), (0, .ref 8), (1, .int (nI w)), (2, .ref 0), (3, .int (nI p)), (4, .int (nI e))]) (st' := [.int 160, .int (nI (st.length))]) (z' := zL) rfl trivial ?_
          refine ww_br xCC okX4_value 40 (P := (nI (st.length)) < 160) (t1 := 77) (t2 := 75) (r := []) rfl (fun c15 => ?_) (fun c15 => absurd ((sLT (b := 160) (by omega) (by decide)).mpr (by omega)) c15)
          refine ww_blk xCC okX4_value 43 5 (ps := []) (pc' := 88) (lv' := [(9, .int (nI c)), (8, .int (nI (s0 + i))), (7, .int (nI (st.length))), (5, .ref 16), (6, .ref 22), (0, .ref 8), (1, .int (nI w)), (2, .ref 0), (3, .int (nI p)), (4, .int (nI e))]) (st' := [.int 10000, .int (nI c), .int (nI (st.length)), .ref 23]) (z' := zL) rfl trivial ?_
          refine ww_br xCC okX4_value 48 (P := 10000 ≤ (nI c)) (t1 := 96) (t2 := 91) (r := [.int (nI (st.length)), .ref 23]) rfl (fun c16 => ?_) (fun c16 => ?_)
          · skip
            replace c16 : 10000 ≤ c := (sLE (a := 10000) (b := c) (by omega) (by omega)).mp c16
            have h88 := c16
            refine ww_blk xCC okX4_value 51 4 (ps := []) (pc' := 102) (lv' := [(9, .int (nI c)), (8, .int (nI (s0 + i))), (7, .int (nI (st.length))), (5, .ref 16), (6, .ref 22), (0, .ref 8), (1, .int (nI w)), (2, .ref 0), (3, .int (nI p)), (4, .int (nI e))]) (st' := [.int (nI e), .int (nI p), .ref 0, .int (nI c), .int (nI (st.length)), .ref 23]) (z' := zL) rfl trivial ?_
            refine ww_callSIi xCC okX4_value 55 (ix := 32) (t_X4_fact l d c p e zL r cnt (RX_of (fun k9 h9 => e41_3 _ (by omega)) hr) hw (by omega) hp he) (by omega) (by decide) xyX4_fact xiX4_fact (Or.inl (lw_gt_of (List.mem_of_getElem? (i := 368) (by decide +kernel)) rfl)) rfl (rest := [.int (nI (st.length)), .ref 23]) rfl (Nat.le_of_ble_eq_true rfl) rfl (fun v19 z17 h18 => ?_)
            rw [h18.1, h18.2]
            refine ww_blk xCC okX4_value 56 3 (ps := [vp_in (nI (st.length)) 160]) (pc' := 224) (lv' := [(7, .int ((nI (st.length)) + 1)), (9, .int (nI c)), (8, .int (nI (s0 + i))), (5, .ref 16), (6, .ref 22), (0, .ref 8), (1, .int (nI w)), (2, .ref 0), (3, .int (nI p)), (4, .int (nI e))]) (st' := []) (z' := (mPut zL 23 (nI (st.length)).toNatClampNeg (sF r p e c))) rfl (vp_in_nI (by omega) (by decide)) ?_
            rw [show nI (st.length) + (1 : Int32) = nI ((st.length) + 1) from nI_add (st.length) 1]
            rw [sCL (n := (st.length)) (by omega)]
            refine ww_blk xCC okX4_value 119 2 (ps := []) (pc' := 41) (lv' := [(8, .int ((nI (s0 + i)) + 1)), (7, .int (nI ((st.length) + 1))), (9, .int (nI c)), (5, .ref 16), (6, .ref 22), (0, .ref 8), (1, .int (nI w)), (2, .ref 0), (3, .int (nI p)), (4, .int (nI e))]) (st' := []) (z' := (mPut zL 23 (st.length) (sF r p e c))) rfl trivial ?_
            rw [show nI (s0 + i) + (1 : Int32) = nI ((s0 + i) + 1) from nI_add (s0 + i) 1]
            exact ww_cut [0, 1, 3, 4, 5, 6, 7, 8, 9] (xlc (congrArg Value.int (show (nI ((s0 + i) + 1) : Int32) = nI (s0 + (i + 1)) from rfl)) (xlc (congrArg Value.int (show (nI ((st.length) + 1) : Int32) = nI (((sF r p e c) :: st).length) from rfl)) (xlc rfl (xlc rfl (xlc rfl (xlc rfl (xlc rfl (xlc rfl (xlc rfl rfl))))))))) rfl rfl (ih41 (i + 1) ((sF r p e c) :: st) (mPut zL 23 (st.length) (sF r p e c)) (by omega) (by omega) (pV_push e41_1 hdrop (pS_fact h62 h88)) (pV_dpush e41_2 hdrop h62) (KN_put e41_3) (StkR_push e41_4) (by rw [List.length_cons]; omega))
          · skip
            replace c16 : ¬ 10000 ≤ c := fun q => c16 ((sLE (a := 10000) (b := c) (by omega) (by omega)).mpr q)
            have h88 := c16
            refine ww_blk xCC okX4_value 49 2 (ps := []) (pc' := 105) (lv' := [(9, .int (nI c)), (8, .int (nI (s0 + i))), (7, .int (nI (st.length))), (5, .ref 16), (6, .ref 22), (0, .ref 8), (1, .int (nI w)), (2, .ref 0), (3, .int (nI p)), (4, .int (nI e))]) (st' := [.int (nI c), .int (nI (st.length)), .ref 23]) (z' := zL) rfl trivial ?_
            refine ww_blk xCC okX4_value 56 3 (ps := [vp_in (nI (st.length)) 160]) (pc' := 224) (lv' := [(7, .int ((nI (st.length)) + 1)), (9, .int (nI c)), (8, .int (nI (s0 + i))), (5, .ref 16), (6, .ref 22), (0, .ref 8), (1, .int (nI w)), (2, .ref 0), (3, .int (nI p)), (4, .int (nI e))]) (st' := []) (z' := (mPut zL 23 (nI (st.length)).toNatClampNeg (nI c))) rfl (vp_in_nI (by omega) (by decide)) ?_
            rw [show nI (st.length) + (1 : Int32) = nI ((st.length) + 1) from nI_add (st.length) 1]
            rw [sCL (n := (st.length)) (by omega)]
            refine ww_blk xCC okX4_value 119 2 (ps := []) (pc' := 41) (lv' := [(8, .int ((nI (s0 + i)) + 1)), (7, .int (nI ((st.length) + 1))), (9, .int (nI c)), (5, .ref 16), (6, .ref 22), (0, .ref 8), (1, .int (nI w)), (2, .ref 0), (3, .int (nI p)), (4, .int (nI e))]) (st' := []) (z' := (mPut zL 23 (st.length) (nI c))) rfl trivial ?_
            rw [show nI (s0 + i) + (1 : Int32) = nI ((s0 + i) + 1) from nI_add (s0 + i) 1]
            exact ww_cut [0, 1, 3, 4, 5, 6, 7, 8, 9] (xlc (congrArg Value.int (show (nI ((s0 + i) + 1) : Int32) = nI (s0 + (i + 1)) from rfl)) (xlc (congrArg Value.int (show (nI ((st.length) + 1) : Int32) = nI (((nI c) :: st).length) from rfl)) (xlc rfl (xlc rfl (xlc rfl (xlc rfl (xlc rfl (xlc rfl (xlc rfl rfl))))))))) rfl rfl (ih41 (i + 1) ((nI c) :: st) (mPut zL 23 (st.length) (nI c)) (by omega) (by omega) (pV_push e41_1 hdrop (pS_num h62 (by omega))) (pV_dpush e41_2 hdrop h62) (KN_put e41_3) (StkR_push e41_4) (by rw [List.length_cons]; omega))
  refine ww_blk xCC okX4_value 14 1 (ps := []) (pc' := 26) (lv' := [(7, .int 0), (6, .ref 22), (5, .ref 16), (0, .ref 8), (1, .int (nI w)), (2, .ref 0), (3, .int (nI p)), (4, .int (nI e))]) (st' := [.int (nI w)]) (z' := z) rfl trivial ?_
  refine ww_br xCC okX4_value 15 (P := (nI w) = 0) (t1 := 29) (t2 := 33) (r := []) rfl (fun c20 => ?_) (fun c20 => ?_)
  · skip
    replace c20 : w = 0 := (sEQ (a := w) (b := 0) (by omega) (by omega)).mp c20
    refine ww_blk xCC okX4_value 16 2 (ps := []) (pc' := 39) (lv' := [(7, .int 0), (6, .ref 22), (5, .ref 16), (0, .ref 8), (1, .int (nI w)), (2, .ref 0), (3, .int (nI p)), (4, .int (nI e))]) (st' := [.int 0]) (z' := z) rfl trivial ?_
    refine ww_blk xCC okX4_value 23 1 (ps := []) (pc' := 41) (lv' := [(8, .int 0), (7, .int 0), (6, .ref 22), (5, .ref 16), (0, .ref 8), (1, .int (nI w)), (2, .ref 0), (3, .int (nI p)), (4, .int (nI e))]) (st' := []) (z' := z) rfl trivial ?_
    exact ww_cut [0, 1, 3, 2, 4, 5, 6, 7, 8] (xlc (congrArg Value.int (show (0 : Int32) = nI (s0 + 0) from (by first | rfl | (rw [hs0 (by omega)]; rfl)))) (xlc (congrArg Value.int (show (0 : Int32) = nI (([]).length) from rfl)) (xlc rfl (xlc rfl (xlc rfl (xlc rfl (xlc rfl (xlc rfl (xlc rfl rfl))))))))) rfl rfl (L41 (cs.length - 0 + 1) 0 ([]) z (Nat.lt_succ_self _) (Nat.zero_le _) rfl hdp (KN_rf z) (StkR_0 z) (Nat.zero_le _))
  · skip
    replace c20 : ¬ w = 0 := fun q => c20 ((sEQ (a := w) (b := 0) (by omega) (by omega)).mpr q)
    replace hB1 := hB1 (by omega)
    refine ww_blk xCC okX4_value 18 6 (ps := [vp_in ((nI w) - 1) 3]) (pc' := 41) (lv' := [(8, .int (z.1 22 ((nI w) - 1).toNatClampNeg)), (7, .int 0), (6, .ref 22), (5, .ref 16), (0, .ref 8), (1, .int (nI w)), (2, .ref 0), (3, .int (nI p)), (4, .int (nI e))]) (st' := []) (z' := z) rfl (by rw [show nI w - (1 : Int32) = nI (w - 1) from pk_sub (b := 1) (by omega)]; exact vp_in_nI (by omega) (by decide)) ?_
    rw [show nI w - (1 : Int32) = nI (w - 1) from pk_sub (b := 1) (by omega)]
    rw [sCL (n := (w - 1)) (by omega)]
    rw [hB1]
    exact ww_cut [0, 1, 3, 2, 4, 5, 6, 7, 8] (xlc (congrArg Value.int (show (nI s0 : Int32) = nI (s0 + 0) from (by first | rfl | (rw [hs0 (by omega)]; rfl)))) (xlc (congrArg Value.int (show (0 : Int32) = nI (([]).length) from rfl)) (xlc rfl (xlc rfl (xlc rfl (xlc rfl (xlc rfl (xlc rfl (xlc rfl rfl))))))))) rfl rfl (L41 (cs.length - 0 + 1) 0 ([]) z (Nat.lt_succ_self _) (Nat.zero_le _) rfl hdp (KN_rf z) (StkR_0 z) (Nat.zero_le _))
theorem t_X4_value (l : Launch) (d : Nat) (w p e : Nat) (z : xMem) (r : sR) (cnt : Nat) (tc : Nat → sTc) (hr : RX z 0 r) (hw : sW r cnt) (ht : TX z 8 cnt tc) (hw3 : w < 3) (hp : p < 4) (he : e < 10) : XMi l (d + 2) yX4_value cX4_value 11 (some .int) shR [.ref 8, .int (nI w), .ref 0, .int (nI p), .int (nI e)] z (fun v z' => v = sSays tc r w p e ∧ KN z z') := by
  have h1 := hw.2.2.2.2.2.2.2
  have h2 := ht.2.2.1
  rcases (show r 7 5 = 0 ∨ r 7 5 = 1 ∨ r 7 5 = 2 ∨ r 7 5 = 3 ∨ r 7 5 = 4 ∨ r 7 5 = 5 by omega) with hk | hk | hk | hk | hk | hk
  · exact t_X4_value_0 l d w p e z r cnt tc hr hw ht hw3 hp he hk
  · exact t_X4_value_1 l d w p e z r cnt tc hr hw ht hw3 hp he hk
  · exact t_X4_value_2 l d w p e z r cnt tc hr hw ht hw3 hp he hk
  · exact t_X4_value_3 l d w p e z r cnt tc hr hw ht hw3 hp he hk
  · exact t_X4_value_4 l d w p e z r cnt tc hr hw ht hw3 hp he hk
  · exact t_X4_value_5 l d w p e z r cnt tc hr hw ht hw3 hp he hk
