/-! the model's cover -/
/-- 0 for none, n + 1 for n -/
def cI (n : Nat) : Int32 := if n = 0 then -1 else nI (n - 1)
theorem cI_s (k : Nat) : nI k = cI (k + 1) := rfl
theorem nI_m1 {n : Nat} (h : n < 2 ^ 31) : ¬ nI n = -1 := fun q => by
  have h1 := congrArg Int32.toInt q
  rw [nI_toInt h] at h1
  have h2 : (-1 : Int32).toInt = -1 := by decide
  omega
theorem cI_m {n : Nat} (hn : n < 2 ^ 31) (h : cI n = -1) : n = 0 := by
  unfold cI at h
  by_cases q : n = 0
  · exact q
  · rw [if_neg q] at h
    exact absurd h (nI_m1 (by omega))
theorem cI_nm {n : Nat} (h : ¬ cI n = -1) : ¬ n = 0 := fun q => h (by rw [q]; rfl)
def sIn (a b : Nat) : Bool := decide (nI a &&& (nI b ^^^ (-1)) = 0)
def sWt (r : sR) (b : Bool) (m : Nat) : Nat := if b = true then 1000 * sHm r m 10 + sPop m else 1000 * sPop m + sHm r m 10
def sCv (r : sR) (a : Nat) (b : Bool) : Nat → Nat × Nat
  | 0 => (0, 0)
  | k + 1 => if sIn a (sUn r k 10) = true then (if (sCv r a b k).1 = 0 ∨ sWt r b k < (sCv r a b k).2 then (k + 1, sWt r b k) else sCv r a b k) else sCv r a b k
theorem sCv_n {r : sR} {a k f le : Nat} {b : Bool} (e : sCv r a b k = (f, le)) (h : ¬ nI a &&& (nI (sUn r k 10) ^^^ (-1)) = 0) : sCv r a b (k + 1) = (f, le) := by
  rw [sCv, if_neg (by unfold sIn; rw [decide_eq_false h]; decide), e]
theorem sCv_y {r : sR} {a k f le w : Nat} {b : Bool} (e : sCv r a b k = (f, le)) (h : nI a &&& (nI (sUn r k 10) ^^^ (-1)) = 0) (h2 : f = 0 ∨ w < le) (hw : w = sWt r b k) : sCv r a b (k + 1) = (k + 1, w) := by
  rw [sCv, if_pos (by unfold sIn; rw [decide_eq_true h]), e, if_pos (by rw [← hw]; exact h2), hw]
theorem sCv_o {r : sR} {a k f le w : Nat} {b : Bool} (e : sCv r a b k = (f, le)) (h : nI a &&& (nI (sUn r k 10) ^^^ (-1)) = 0) (h1 : ¬ f = 0) (h2 : ¬ w < le) (hw : w = sWt r b k) : sCv r a b (k + 1) = (f, le) := by
  rw [sCv, if_pos (by unfold sIn; rw [decide_eq_true h]), e, if_neg (by rw [← hw]; exact fun q => q.elim h1 h2)]
theorem sHm_bd {r : sR} {cnt : Nat} (h : sW r cnt) (m : Nat) : ∀ k, sHm r m k ≤ 99 * k
  | 0 => Nat.le_refl 0
  | k + 1 => by
    have h1 := sHm_bd h m k
    have h2 := (h.1 k).2.2.1
    rw [sHm]
    split <;> omega
def sCover (r : sR) (x w : Int32) : Int32 :=
  if 0 ≤ x.toInt ∧ x.toInt ≤ 255 ∧ 0 ≤ w.toInt ∧ w.toInt ≤ 3 then
    (if (sCv r x.toInt.toNat (decide (w.toInt.toNat < 2)) 1024).1 = 0 ∨ w.toInt.toNat = 0 ∨ w.toInt.toNat = 2 then cI (sCv r x.toInt.toNat (decide (w.toInt.toNat < 2)) 1024).1 else nI ((sCv r x.toInt.toNat (decide (w.toInt.toNat < 2)) 1024).2 / 1000))
  else -2
theorem sCover_y {r : sR} {a u f le : Nat} (ha : a < 256) (hu : u < 4) (e : sCv r a (decide (u < 2)) 1024 = (f, le)) : sCover r (nI a) (nI u) = if f = 0 ∨ u = 0 ∨ u = 2 then cI f else nI (le / 1000) := by
  unfold sCover
  rw [sTI (k := a) (by omega), sTI (k := u) (by omega), if_pos (by omega), show ((a : Int)).toNat = a from rfl, show ((u : Int)).toNat = u from rfl, e]
set_option maxHeartbeats 4000000 in
set_option maxRecDepth 20000 in
theorem t_X6_cover (l : Launch) (d : Nat) (x w : Int32) (z : xMem) (r : sR) (cnt : Nat) (hr : RM z r) (hw : sW r cnt) : XMi l (d + 1) yX6_cover cX6_cover 7 (some .int) shM [.ref 0, .int x, .int w] z (fun v z' => v = sCover r x w ∧ z' = z) := by
  refine XM.of (by decide) (Nat.le_of_ble_eq_true rfl) (fun xp xe xs xm xar xbl xme xc xD xcs xad xAA xCC xhr => ?_)
  generalize xhQ : MQ xbl _ xar xs 0 0 xAA = xQ
  show ww xp l xe (xRm (d + 1)) xs xm xar xbl xme xc 7 xD xcs xad shM xAA xQ 0 [(0, .ref 0), (1, .int x), (2, .int w)] [] z
  refine ww_blk xCC okX6_cover 0 4 (ps := []) (pc' := 6) (lv' := [(0, .ref 0), (1, .int x), (2, .int w)]) (st' := [.long 255, .long 0, .long x.toInt64]) (z' := z) rfl trivial ?_
  refine ww_callSNz xCC okX6_cover 4 (ix := 82) (t_X6_in l d x.toInt64 0 255 x.toInt 0 255 (Int32.toInt_toInt64 _) rfl rfl  _) (by omega) (by decide) xyX6_in xiX6_in (Or.inl (lw_gt_of (List.mem_of_getElem? (i := 962) (by decide +kernel)) rfl)) rfl (rest := []) rfl (Nat.le_of_ble_eq_true rfl) rfl (fun z1 h2 => ?_) (fun z1 h2 => ?_)
  · skip
    have h2 : 0 ≤ x.toInt ∧ x.toInt ≤ 255 := h2
    obtain ⟨a, ha, rfl⟩ := sNN (x := x) (n := 256) h2.1 (by omega)
    refine ww_br xCC okX6_cover 5 (P := 1 = 0) (t1 := 24) (t2 := 12) (r := []) rfl (fun q => absurd q (by decide)) (fun _ => ?_)
    refine ww_blk xCC okX6_cover 6 4 (ps := []) (pc' := 18) (lv' := [(0, .ref 0), (1, .int (nI a)), (2, .int w)]) (st' := [.long 3, .long 0, .long w.toInt64]) (z' := z) rfl trivial ?_
    refine ww_callSNz xCC okX6_cover 10 (ix := 82) (t_X6_in l d w.toInt64 0 3 w.toInt 0 3 (Int32.toInt_toInt64 _) rfl rfl  _) (by omega) (by decide) xyX6_in xiX6_in (Or.inl (lw_gt_of (List.mem_of_getElem? (i := 962) (by decide +kernel)) rfl)) rfl (rest := []) rfl (Nat.le_of_ble_eq_true rfl) rfl (fun z4 h5 => ?_) (fun z4 h5 => ?_)
    · skip
      have h5 : 0 ≤ w.toInt ∧ w.toInt ≤ 3 := h5
      obtain ⟨u, hu, rfl⟩ := sNN (x := w) (n := 4) h5.1 (by omega)
      refine ww_br xCC okX6_cover 11 (P := 1 = 0) (t1 := 24) (t2 := 27) (r := []) rfl (fun q => absurd q (by decide)) (fun _ => ?_)
      refine ww_blk xCC okX6_cover 14 6 (ps := []) (pc' := 35) (lv' := [(5, .int 0), (4, .int 0), (3, .int (-1)), (0, .ref 0), (1, .int (nI a)), (2, .int (nI u))]) (st' := []) (z' := z) rfl trivial ?_
      have L35 : ∀ (n35 : Nat) (k : Nat) (f : Nat) (le : Nat), 1024 - k < n35 → (sCv r a (decide (u < 2)) k = (f, le)) → (f ≤ k ∧ k ≤ 1024) → (le < 1000000) → ww xp l xe (xRm (d + 1)) xs xm xar xbl xme xc 7 xD xcs xad shM xAA xQ 35 [(5, .int (nI k)), (4, .int (nI le)), (3, .int (cI f)), (0, .ref 0), (1, .int (nI a)), (2, .int (nI u))] [] z := by
        intro n35
        induction n35 with
        | zero =>
          intro k f le hmu35
          exact absurd hmu35 (Nat.not_lt_zero _)
        | succ n35 ih35 =>
          intro k f le hmu35 e35_0 e35_1 e35_2
          have hHm := sHm_bd hw k 10
          have hPo : k < 1024 → sPop k ≤ 10 := sPop_le k
          refine ww_blk xCC okX6_cover 20 2 (ps := []) (pc' := 40) (lv' := [(5, .int (nI k)), (4, .int (nI le)), (3, .int (cI f)), (0, .ref 0), (1, .int (nI a)), (2, .int (nI u))]) (st' := [.int 1024, .int (nI k)]) (z' := z) rfl trivial ?_
          refine ww_br xCC okX6_cover 22 (P := 1024 ≤ (nI k)) (t1 := 123) (t2 := 43) (r := []) rfl (fun c7 => ?_) (fun c7 => ?_)
          · skip
            replace c7 : 1024 ≤ k := (sLE (a := 1024) (b := k) (by omega) (by omega)).mp c7
            refine ww_blk xCC okX6_cover 64 2 (ps := []) (pc' := 125) (lv' := [(5, .int (nI k)), (4, .int (nI le)), (3, .int (cI f)), (0, .ref 0), (1, .int (nI a)), (2, .int (nI u))]) (st' := [.int (-1), .int (cI f)]) (z' := z) rfl trivial ?_
            refine ww_br xCC okX6_cover 66 (P := (cI f) = (-1)) (t1 := 137) (t2 := 128) (r := []) rfl (fun c8 => ?_) (fun c8 => ?_)
            · skip
              replace c8 := cI_m (by omega) c8
              refine ww_blk xCC okX6_cover 72 2 (ps := []) (pc' := 147) (lv' := [(5, .int (nI k)), (4, .int (nI le)), (3, .int (cI f)), (0, .ref 0), (1, .int (nI a)), (2, .int (nI u))]) (st' := [.int (cI f)]) (z' := z) rfl trivial ?_
              subst xhQ
              exact ww_iret xCC okX6_cover 77 xhr rfl rfl ⟨_, rfl, ⟨(by rw [show k = 1024 by omega] at e35_0; rw [sCover_y (by omega) (by omega) e35_0]; grind), rfl⟩⟩
            · skip
              replace c8 := cI_nm c8
              refine ww_blk xCC okX6_cover 67 1 (ps := []) (pc' := 129) (lv' := [(5, .int (nI k)), (4, .int (nI le)), (3, .int (cI f)), (0, .ref 0), (1, .int (nI a)), (2, .int (nI u))]) (st' := [.int (nI u)]) (z' := z) rfl trivial ?_
              refine ww_br xCC okX6_cover 68 (P := (nI u) = 0) (t1 := 137) (t2 := 132) (r := []) rfl (fun c9 => ?_) (fun c9 => ?_)
              · skip
                replace c9 : u = 0 := (sEQ (a := u) (b := 0) (by omega) (by omega)).mp c9
                refine ww_blk xCC okX6_cover 72 2 (ps := []) (pc' := 147) (lv' := [(5, .int (nI k)), (4, .int (nI le)), (3, .int (cI f)), (0, .ref 0), (1, .int (nI a)), (2, .int (nI u))]) (st' := [.int (cI f)]) (z' := z) rfl trivial ?_
                subst xhQ
                exact ww_iret xCC okX6_cover 77 xhr rfl rfl ⟨_, rfl, ⟨(by rw [show k = 1024 by omega] at e35_0; rw [sCover_y (by omega) (by omega) e35_0]; grind), rfl⟩⟩
              · skip
                replace c9 : ¬ u = 0 := fun q => c9 ((sEQ (a := u) (b := 0) (by omega) (by omega)).mpr q)
                refine ww_blk xCC okX6_cover 69 2 (ps := []) (pc' := 134) (lv' := [(5, .int (nI k)), (4, .int (nI le)), (3, .int (cI f)), (0, .ref 0), (1, .int (nI a)), (2, .int (nI u))]) (st' := [.int 2, .int (nI u)]) (z' := z) rfl trivial ?_
                refine ww_br xCC okX6_cover 71 (P := (nI u) = 2) (t1 := 137) (t2 := 141) (r := []) rfl (fun c10 => ?_) (fun c10 => ?_)
                · skip
                  replace c10 : u = 2 := (sEQ (a := u) (b := 2) (by omega) (by omega)).mp c10
                  refine ww_blk xCC okX6_cover 72 2 (ps := []) (pc' := 147) (lv' := [(5, .int (nI k)), (4, .int (nI le)), (3, .int (cI f)), (0, .ref 0), (1, .int (nI a)), (2, .int (nI u))]) (st' := [.int (cI f)]) (z' := z) rfl trivial ?_
                  subst xhQ
                  exact ww_iret xCC okX6_cover 77 xhr rfl rfl ⟨_, rfl, ⟨(by rw [show k = 1024 by omega] at e35_0; rw [sCover_y (by omega) (by omega) e35_0]; grind), rfl⟩⟩
                · skip
                  replace c10 : ¬ u = 2 := fun q => c10 ((sEQ (a := u) (b := 2) (by omega) (by omega)).mpr q)
                  refine ww_blk xCC okX6_cover 74 3 (ps := [¬ 1000 = 0]) (pc' := 147) (lv' := [(5, .int (nI k)), (4, .int (nI le)), (3, .int (cI f)), (0, .ref 0), (1, .int (nI a)), (2, .int (nI u))]) (st' := [.int ((nI le) / 1000)]) (z' := z) rfl (show ¬ (1000 : Int32) = 0 by decide) ?_
                  rw [show nI le / (1000 : Int32) = nI (le / 1000) from pk_div (a := le) (d := 1000) (by omega) (by decide) (by decide)]
                  subst xhQ
                  exact ww_iret xCC okX6_cover 77 xhr rfl rfl ⟨_, rfl, ⟨(by rw [show k = 1024 by omega] at e35_0; rw [sCover_y (by omega) (by omega) e35_0]; grind), rfl⟩⟩
          · skip
            replace c7 : ¬ 1024 ≤ k := fun q => c7 ((sLE (a := 1024) (b := k) (by omega) (by omega)).mpr q)
            refine ww_blk xCC okX6_cover 23 3 (ps := []) (pc' := 47) (lv' := [(5, .int (nI k)), (4, .int (nI le)), (3, .int (cI f)), (0, .ref 0), (1, .int (nI a)), (2, .int (nI u))]) (st' := [.int (nI k), .ref 0, .int (nI a)]) (z' := z) rfl trivial ?_
            refine ww_callVIi xCC okX6_cover 26 (ix := 306) (t_X6_unionOf l d k z r hr (by omega)) (by omega) (by decide) xyX6_unionOf xiX6_unionOf (Or.inl (lw_gt_of (List.mem_of_getElem? (i := 1172) (by decide +kernel)) rfl)) rfl rfl rfl (rest := [.int (nI a)]) rfl (Nat.le_of_ble_eq_true rfl) rfl (fun v13 z11 h12 => ?_)
            rw [h12.1, h12.2]
            refine ww_blk xCC okX6_cover 27 3 (ps := []) (pc' := 53) (lv' := [(5, .int (nI k)), (4, .int (nI le)), (3, .int (cI f)), (0, .ref 0), (1, .int (nI a)), (2, .int (nI u))]) (st' := [.int ((nI a) &&& ((nI (sUn r k 10)) ^^^ (-1)))]) (z' := z) rfl trivial ?_
            refine ww_br xCC okX6_cover 30 (P := ((nI a) &&& ((nI (sUn r k 10)) ^^^ (-1))) = 0) (t1 := 56) (t2 := 117) (r := []) rfl (fun c14 => ?_) (fun c14 => ?_)
            · skip
              have h53 := c14
              refine ww_blk xCC okX6_cover 31 2 (ps := []) (pc' := 58) (lv' := [(5, .int (nI k)), (4, .int (nI le)), (3, .int (cI f)), (0, .ref 0), (1, .int (nI a)), (2, .int (nI u))]) (st' := [.int 2, .int (nI u)]) (z' := z) rfl trivial ?_
              refine ww_br xCC okX6_cover 33 (P := 2 ≤ (nI u)) (t1 := 80) (t2 := 61) (r := []) rfl (fun c15 => ?_) (fun c15 => ?_)
              · skip
                replace c15 : 2 ≤ u := (sLE (a := 2) (b := u) (by omega) (by omega)).mp c15
                have hwt : 1000 * sPop k + sHm r k 10 = sWt r (decide (u < 2)) k := by unfold sWt; rw [decide_eq_false (by omega)]; rfl
                refine ww_blk xCC okX6_cover 43 2 (ps := []) (pc' := 85) (lv' := [(5, .int (nI k)), (4, .int (nI le)), (3, .int (cI f)), (0, .ref 0), (1, .int (nI a)), (2, .int (nI u))]) (st' := [.int (nI k), .int 1000]) (z' := z) rfl trivial ?_
                refine ww_callSNi xCC okX6_cover 45 (ix := 255) (t_X6_bitsOf l d k (by omega) _) (by omega) (by decide) xyX6_bitsOf xiX6_bitsOf (Or.inl (lw_gt_of (List.mem_of_getElem? (i := 1004) (by decide +kernel)) rfl)) rfl (rest := [.int 1000]) rfl (Nat.le_of_ble_eq_true rfl) rfl (fun v18 z16 h17 => ?_)
                rw [h17]
                refine ww_blk xCC okX6_cover 46 3 (ps := []) (pc' := 92) (lv' := [(5, .int (nI k)), (4, .int (nI le)), (3, .int (cI f)), (0, .ref 0), (1, .int (nI a)), (2, .int (nI u))]) (st' := [.int (nI k), .ref 0, .int (1000 * (nI (sPop k)))]) (z' := z) rfl trivial ?_
                rw [show (1000 : Int32) * nI (sPop k) = nI (1000 * (sPop k)) from pk_mul 1000 (sPop k)]
                refine ww_callVIi xCC okX6_cover 49 (ix := 309) (t_X6_harmOf l d k z r hr (by omega)) (by omega) (by decide) xyX6_harmOf xiX6_harmOf (Or.inl (lw_gt_of (List.mem_of_getElem? (i := 1176) (by decide +kernel)) rfl)) rfl rfl rfl (rest := [.int (nI (1000 * (sPop k)))]) rfl (Nat.le_of_ble_eq_true rfl) rfl (fun v21 z19 h20 => ?_)
                rw [h20.1, h20.2]
                refine ww_blk xCC okX6_cover 50 4 (ps := []) (pc' := 100) (lv' := [(6, .int ((nI (1000 * (sPop k))) + (nI (sHm r k 10)))), (5, .int (nI k)), (4, .int (nI le)), (3, .int (cI f)), (0, .ref 0), (1, .int (nI a)), (2, .int (nI u))]) (st' := [.int (-1), .int (cI f)]) (z' := z) rfl trivial ?_
                rw [nI_add (1000 * (sPop k)) (sHm r k 10)]
                refine ww_br xCC okX6_cover 54 (P := (cI f) = (-1)) (t1 := 110) (t2 := 103) (r := []) rfl (fun c22 => ?_) (fun c22 => ?_)
                · skip
                  replace c22 := cI_m (by omega) c22
                  have h100 := c22
                  refine ww_blk xCC okX6_cover 58 6 (ps := []) (pc' := 35) (lv' := [(5, .int ((nI k) + 1)), (4, .int (nI ((1000 * (sPop k)) + (sHm r k 10)))), (3, .int (nI k)), (6, .int (nI ((1000 * (sPop k)) + (sHm r k 10)))), (0, .ref 0), (1, .int (nI a)), (2, .int (nI u))]) (st' := []) (z' := z) rfl trivial ?_
                  exact ww_cut [0, 1, 2, 4, 5, 6] (xlc (congrArg Value.int (show ((nI k) + 1 : Int32) = nI (k + 1) from nI_1 k)) (xlc rfl (xlc (congrArg Value.int (show (nI k : Int32) = cI (k + 1) from (cI_s k))) (xlc rfl (xlc rfl (xlc rfl rfl)))))) rfl rfl (ih35 (k + 1) (k + 1) ((1000 * (sPop k)) + (sHm r k 10)) (by omega) (by first | exact sCv_y e35_0 h53 (Or.inl h100) hwt | exact sCv_y e35_0 h53 (Or.inr (by omega)) hwt) (by omega) (by omega))
                · skip
                  replace c22 := cI_nm c22
                  have h100 := c22
                  refine ww_blk xCC okX6_cover 55 2 (ps := []) (pc' := 107) (lv' := [(6, .int (nI ((1000 * (sPop k)) + (sHm r k 10)))), (5, .int (nI k)), (4, .int (nI le)), (3, .int (cI f)), (0, .ref 0), (1, .int (nI a)), (2, .int (nI u))]) (st' := [.int (nI le), .int (nI ((1000 * (sPop k)) + (sHm r k 10)))]) (z' := z) rfl trivial ?_
                  refine ww_br xCC okX6_cover 57 (P := (nI le) ≤ (nI ((1000 * (sPop k)) + (sHm r k 10)))) (t1 := 117) (t2 := 110) (r := []) rfl (fun c23 => ?_) (fun c23 => ?_)
                  · skip
                    replace c23 : le ≤ ((1000 * (sPop k)) + (sHm r k 10)) := (sLE (a := le) (b := ((1000 * (sPop k)) + (sHm r k 10))) (by omega) (by omega)).mp c23
                    have h107 := c23
                    refine ww_blk xCC okX6_cover 62 2 (ps := []) (pc' := 35) (lv' := [(5, .int ((nI k) + 1)), (6, .int (nI ((1000 * (sPop k)) + (sHm r k 10)))), (4, .int (nI le)), (3, .int (cI f)), (0, .ref 0), (1, .int (nI a)), (2, .int (nI u))]) (st' := []) (z' := z) rfl trivial ?_
                    exact ww_cut [0, 2, 3, 4, 5, 6] (xlc (congrArg Value.int (show ((nI k) + 1 : Int32) = nI (k + 1) from nI_1 k)) (xlc rfl (xlc rfl (xlc rfl (xlc rfl (xlc rfl rfl)))))) rfl rfl (ih35 (k + 1) f le (by omega) (by first | exact sCv_n e35_0 h53 | exact sCv_o e35_0 h53 h100 (by omega) hwt) (by omega) (by omega))
                  · skip
                    replace c23 : ¬ le ≤ ((1000 * (sPop k)) + (sHm r k 10)) := fun q => c23 ((sLE (a := le) (b := ((1000 * (sPop k)) + (sHm r k 10))) (by omega) (by omega)).mpr q)
                    have h107 := c23
                    refine ww_blk xCC okX6_cover 58 6 (ps := []) (pc' := 35) (lv' := [(5, .int ((nI k) + 1)), (4, .int (nI ((1000 * (sPop k)) + (sHm r k 10)))), (3, .int (nI k)), (6, .int (nI ((1000 * (sPop k)) + (sHm r k 10)))), (0, .ref 0), (1, .int (nI a)), (2, .int (nI u))]) (st' := []) (z' := z) rfl trivial ?_
                    exact ww_cut [0, 1, 2, 4, 5, 6] (xlc (congrArg Value.int (show ((nI k) + 1 : Int32) = nI (k + 1) from nI_1 k)) (xlc rfl (xlc (congrArg Value.int (show (nI k : Int32) = cI (k + 1) from (cI_s k))) (xlc rfl (xlc rfl (xlc rfl rfl)))))) rfl rfl (ih35 (k + 1) (k + 1) ((1000 * (sPop k)) + (sHm r k 10)) (by omega) (by first | exact sCv_y e35_0 h53 (Or.inl h100) hwt | exact sCv_y e35_0 h53 (Or.inr (by omega)) hwt) (by omega) (by omega))
              · skip
                replace c15 : ¬ 2 ≤ u := fun q => c15 ((sLE (a := 2) (b := u) (by omega) (by omega)).mpr q)
                have hwt : 1000 * sHm r k 10 + sPop k = sWt r (decide (u < 2)) k := by unfold sWt; rw [decide_eq_true (show u < 2 by omega)]; rfl
                refine ww_blk xCC okX6_cover 34 3 (ps := []) (pc' := 67) (lv' := [(5, .int (nI k)), (4, .int (nI le)), (3, .int (cI f)), (0, .ref 0), (1, .int (nI a)), (2, .int (nI u))]) (st' := [.int (nI k), .ref 0, .int 1000]) (z' := z) rfl trivial ?_
                refine ww_callVIi xCC okX6_cover 37 (ix := 309) (t_X6_harmOf l d k z r hr (by omega)) (by omega) (by decide) xyX6_harmOf xiX6_harmOf (Or.inl (lw_gt_of (List.mem_of_getElem? (i := 1176) (by decide +kernel)) rfl)) rfl rfl rfl (rest := [.int 1000]) rfl (Nat.le_of_ble_eq_true rfl) rfl (fun v26 z24 h25 => ?_)
                rw [h25.1, h25.2]
                refine ww_blk xCC okX6_cover 38 2 (ps := []) (pc' := 73) (lv' := [(5, .int (nI k)), (4, .int (nI le)), (3, .int (cI f)), (0, .ref 0), (1, .int (nI a)), (2, .int (nI u))]) (st' := [.int (nI k), .int (1000 * (nI (sHm r k 10)))]) (z' := z) rfl trivial ?_
                rw [show (1000 : Int32) * nI (sHm r k 10) = nI (1000 * (sHm r k 10)) from pk_mul 1000 (sHm r k 10)]
                refine ww_callSNi xCC okX6_cover 40 (ix := 255) (t_X6_bitsOf l d k (by omega) _) (by omega) (by decide) xyX6_bitsOf xiX6_bitsOf (Or.inl (lw_gt_of (List.mem_of_getElem? (i := 1004) (by decide +kernel)) rfl)) rfl (rest := [.int (nI (1000 * (sHm r k 10)))]) rfl (Nat.le_of_ble_eq_true rfl) rfl (fun v29 z27 h28 => ?_)
                rw [h28]
                refine ww_blk xCC okX6_cover 41 2 (ps := []) (pc' := 96) (lv' := [(5, .int (nI k)), (4, .int (nI le)), (3, .int (cI f)), (0, .ref 0), (1, .int (nI a)), (2, .int (nI u))]) (st' := [.int ((nI (1000 * (sHm r k 10))) + (nI (sPop k)))]) (z' := z) rfl trivial ?_
                rw [nI_add (1000 * (sHm r k 10)) (sPop k)]
                refine ww_blk xCC okX6_cover 51 3 (ps := []) (pc' := 100) (lv' := [(6, .int (nI ((1000 * (sHm r k 10)) + (sPop k)))), (5, .int (nI k)), (4, .int (nI le)), (3, .int (cI f)), (0, .ref 0), (1, .int (nI a)), (2, .int (nI u))]) (st' := [.int (-1), .int (cI f)]) (z' := z) rfl trivial ?_
                refine ww_br xCC okX6_cover 54 (P := (cI f) = (-1)) (t1 := 110) (t2 := 103) (r := []) rfl (fun c30 => ?_) (fun c30 => ?_)
                · skip
                  replace c30 := cI_m (by omega) c30
                  have h100 := c30
                  refine ww_blk xCC okX6_cover 58 6 (ps := []) (pc' := 35) (lv' := [(5, .int ((nI k) + 1)), (4, .int (nI ((1000 * (sHm r k 10)) + (sPop k)))), (3, .int (nI k)), (6, .int (nI ((1000 * (sHm r k 10)) + (sPop k)))), (0, .ref 0), (1, .int (nI a)), (2, .int (nI u))]) (st' := []) (z' := z) rfl trivial ?_
                  exact ww_cut [0, 1, 2, 4, 5, 6] (xlc (congrArg Value.int (show ((nI k) + 1 : Int32) = nI (k + 1) from nI_1 k)) (xlc rfl (xlc (congrArg Value.int (show (nI k : Int32) = cI (k + 1) from (cI_s k))) (xlc rfl (xlc rfl (xlc rfl rfl)))))) rfl rfl (ih35 (k + 1) (k + 1) ((1000 * (sHm r k 10)) + (sPop k)) (by omega) (by first | exact sCv_y e35_0 h53 (Or.inl h100) hwt | exact sCv_y e35_0 h53 (Or.inr (by omega)) hwt) (by omega) (by omega))
                · skip
                  replace c30 := cI_nm c30
                  have h100 := c30
                  refine ww_blk xCC okX6_cover 55 2 (ps := []) (pc' := 107) (lv' := [(6, .int (nI ((1000 * (sHm r k 10)) + (sPop k)))), (5, .int (nI k)), (4, .int (nI le)), (3, .int (cI f)), (0, .ref 0), (1, .int (nI a)), (2, .int (nI u))]) (st' := [.int (nI le), .int (nI ((1000 * (sHm r k 10)) + (sPop k)))]) (z' := z) rfl trivial ?_
                  refine ww_br xCC okX6_cover 57 (P := (nI le) ≤ (nI ((1000 * (sHm r k 10)) + (sPop k)))) (t1 := 117) (t2 := 110) (r := []) rfl (fun c31 => ?_) (fun c31 => ?_)
                  · skip
                    replace c31 : le ≤ ((1000 * (sHm r k 10)) + (sPop k)) := (sLE (a := le) (b := ((1000 * (sHm r k 10)) + (sPop k))) (by omega) (by omega)).mp c31
                    have h107 := c31
                    refine ww_blk xCC okX6_cover 62 2 (ps := []) (pc' := 35) (lv' := [(5, .int ((nI k) + 1)), (6, .int (nI ((1000 * (sHm r k 10)) + (sPop k)))), (4, .int (nI le)), (3, .int (cI f)), (0, .ref 0), (1, .int (nI a)), (2, .int (nI u))]) (st' := []) (z' := z) rfl trivial ?_
                    exact ww_cut [0, 2, 3, 4, 5, 6] (xlc (congrArg Value.int (show ((nI k) + 1 : Int32) = nI (k + 1) from nI_1 k)) (xlc rfl (xlc rfl (xlc rfl (xlc rfl (xlc rfl rfl)))))) rfl rfl (ih35 (k + 1) f le (by omega) (by first | exact sCv_n e35_0 h53 | exact sCv_o e35_0 h53 h100 (by omega) hwt) (by omega) (by omega))
                  · skip
                    replace c31 : ¬ le ≤ ((1000 * (sHm r k 10)) + (sPop k)) := fun q => c31 ((sLE (a := le) (b := ((1000 * (sHm r k 10)) + (sPop k))) (by omega) (by omega)).mpr q)
                    have h107 := c31
                    refine ww_blk xCC okX6_cover 58 6 (ps := []) (pc' := 35) (lv' := [(5, .int ((nI k) + 1)), (4, .int (nI ((1000 * (sHm r k 10)) + (sPop k)))), (3, .int (nI k)), (6, .int (nI ((1000 * (sHm r k 10)) + (sPop k)))), (0, .ref 0), (1, .int (nI a)), (2, .int (nI u))]) (st' := []) (z' := z) rfl trivial ?_
                    exact ww_cut [0, 1, 2, 4, 5, 6] (xlc (congrArg Value.int (show ((nI k) + 1 : Int32) = nI (k + 1) from nI_1 k)) (xlc rfl (xlc (congrArg Value.int (show (nI k : Int32) = cI (k + 1) from (cI_s k))) (xlc rfl (xlc rfl (xlc rfl rfl)))))) rfl rfl (ih35 (k + 1) (k + 1) ((1000 * (sHm r k 10)) + (sPop k)) (by omega) (by first | exact sCv_y e35_0 h53 (Or.inl h100) hwt | exact sCv_y e35_0 h53 (Or.inr (by omega)) hwt) (by omega) (by omega))
            · skip
              have h53 := c14
              refine ww_blk xCC okX6_cover 62 2 (ps := []) (pc' := 35) (lv' := [(5, .int ((nI k) + 1)), (4, .int (nI le)), (3, .int (cI f)), (0, .ref 0), (1, .int (nI a)), (2, .int (nI u))]) (st' := []) (z' := z) rfl trivial ?_
              exact ww_cut [0, 1, 2, 3, 4, 5] (xlc (congrArg Value.int (show ((nI k) + 1 : Int32) = nI (k + 1) from nI_1 k)) (xlc rfl (xlc rfl (xlc rfl (xlc rfl (xlc rfl rfl)))))) rfl rfl (ih35 (k + 1) f le (by omega) (by first | exact sCv_n e35_0 h53 | exact sCv_o e35_0 h53 h100 (by omega) hwt) (by omega) (by omega))
      exact ww_cut [0, 1, 2, 3, 4, 5] (xlc (congrArg Value.int (show (0 : Int32) = nI 0 from rfl)) (xlc (congrArg Value.int (show (0 : Int32) = nI 0 from rfl)) (xlc (congrArg Value.int (show ((-1) : Int32) = cI 0 from rfl)) (xlc rfl (xlc rfl (xlc rfl rfl)))))) rfl rfl (L35 (1024 - 0 + 1) 0 0 0 (Nat.lt_succ_self _) rfl (by omega) (by omega))
    · skip
      have h5 : ¬ (0 ≤ w.toInt ∧ w.toInt ≤ 3) := h5
      refine ww_br xCC okX6_cover 11 (P := 0 = 0) (t1 := 24) (t2 := 27) (r := []) rfl (fun _ => ?_) (fun q => absurd (by decide) q)
      refine ww_blk xCC okX6_cover 12 1 (ps := []) (pc' := 26) (lv' := [(0, .ref 0), (1, .int (nI a)), (2, .int w)]) (st' := [.int (-2)]) (z' := z) rfl trivial ?_
      subst xhQ
      exact ww_iret xCC okX6_cover 13 xhr rfl rfl ⟨_, rfl, ⟨(by unfold sCover; rw [if_neg (by omega)]), rfl⟩⟩
  · skip
    have h2 : ¬ (0 ≤ x.toInt ∧ x.toInt ≤ 255) := h2
    refine ww_br xCC okX6_cover 5 (P := 0 = 0) (t1 := 24) (t2 := 12) (r := []) rfl (fun _ => ?_) (fun q => absurd (by decide) q)
    refine ww_blk xCC okX6_cover 12 1 (ps := []) (pc' := 26) (lv' := [(0, .ref 0), (1, .int x), (2, .int w)]) (st' := [.int (-2)]) (z' := z) rfl trivial ?_
    subst xhQ
    exact ww_iret xCC okX6_cover 13 xhr rfl rfl ⟨_, rfl, ⟨(by unfold sCover; rw [if_neg (by omega)]), rfl⟩⟩
