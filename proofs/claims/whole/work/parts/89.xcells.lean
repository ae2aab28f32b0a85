/-! LawsLapse's cell, copy -/
theorem SY_1 {z : xMem} {a : Nat} {t : sSh} (h : SY z a t) (h0 : ¬ t.1 = 0) : ∃ n k it, t = (k + 1, n, it) ∧ k ≤ 2 ∧ n ≤ 40 ∧ z.1 a 0 = nI k ∧ z.1 a 1 = nI n ∧ ∀ i, i < n → z.1 (a + 1) i = it i := by
  obtain ⟨a1, n, it⟩ := t
  obtain ⟨h1, h2, h3⟩ := h
  obtain ⟨h4, h5, h6⟩ := h3.resolve_left h0
  simp only at h0 h1 h2 h4 h5 h6
  obtain ⟨k, rfl⟩ : ∃ k, a1 = k + 1 := ⟨a1 - 1, by omega⟩
  exact ⟨n, k, it, rfl, by omega, h4, h2, h5, h6⟩
theorem xB_id {es : List Nat} {z : xMem} : xBack es (xHasRaw shS) z (xPull es z) = z := by
  have h : ∀ q i, xIx es q 0 = some i → xEs es i = q := fun q i hi => by
    have e := (xIx_some es i 0 q hi).2
    rw [Nat.sub_zero] at e
    exact xEs_at e
  have e1 : (xBack es (xHasRaw shS) z (xPull es z)).1 = z.1 := by
    funext q
    exact xBack_keep (fun i _ => rfl)
  have e2 : (xBack es (xHasRaw shS) z (xPull es z)).2.1 = z.2.1 := by
    funext q
    show (match xIx es q 0 with | some i => (xPull es z).2.1 i | none => z.2.1 q) = z.2.1 q
    cases hq : xIx es q 0 with
    | none => rfl
    | some i =>
      show z.2.1 (xEs es i) = z.2.1 q
      rw [h q i hq]
  exact Prod.ext e1 (Prod.ext e2 rfl)
theorem sx_p {z zB : xMem} {es : List Nat} {i k n : Nat} {v : Int32} {it : Nat → Int32} (hB : zB = mPut (xPull es z) 1 i (sNar k v)) (hk : k ≤ 2) (hn : n ≤ 40) (h0 : (xPull es z).1 0 0 = nI k) (h1 : (xPull es z).1 0 1 = nI n) (hI : ∀ j, j < n → (xPull es z).1 1 j = it j) : SY zB 0 (k + 1, n, fun j => if j = i then sNar k v else it j) := by
  subst hB
  refine ⟨by show k + 1 ≤ 3; omega, ?_, Or.inr ⟨hn, ?_, fun j hj => ?_⟩⟩
  · exact (congrFun (mPut_nq (by decide)) 0).trans h0
  · exact (congrFun (mPut_nq (by decide)) 1).trans h1
  · show (mPut (xPull es z) 1 i (sNar k v)).1 1 j = if j = i then sNar k v else it j
    by_cases e : j = i
    · rw [if_pos e, e]; exact mPut_at
    · rw [if_neg e]; exact (mPut_nj e).trans (hI j hj)
theorem nI_n0 {n : Nat} (h : n < 2 ^ 31) : ¬ nI n < 0 := fun q => absurd ((sLT (a := n) (b := 0) h (by decide)).mp q) (Nat.not_lt_zero n)
theorem cI_3 : ∀ a, a ≤ 3 → ∀ b, b ≤ 3 → cI a = cI b → a = b := by decide
theorem hT_k {T : Nat → sSh} {s t k n ku nu : Nat} {it itu : Nat → Int32} (h1 : T s = (k + 1, n, it)) (h2 : T t = (ku + 1, nu, itu)) (hk : k ≤ 2) (hku : ku ≤ 2) (c : cI (T s).1 = cI (T t).1) : k = ku := by
  have e1 : (T s).1 = k + 1 := by rw [h1]
  have e2 : (T t).1 = ku + 1 := by rw [h2]
  have e := cI_3 _ (by omega) _ (by omega) c
  omega
theorem hT_q {T : Nat → sSh} {s t k n ku nu : Nat} {it itu : Nat → Int32} (h1 : T s = (k + 1, n, it)) (h2 : T t = (ku + 1, nu, itu)) (q : k = ku) : cI (T s).1 = cI (T t).1 := by
  have e1 : (T s).1 = k + 1 := by rw [h1]
  have e2 : (T t).1 = ku + 1 := by rw [h2]
  rw [show (T s).1 = (T t).1 by omega]
theorem SX_cpy {z : xMem} {T : Nat → sSh} {s t k n nt kt i j m : Nat} {it itt : Nat → Int32} (hs : s < 4) (ht : t < 4) (hT : SX z T) (h1 : T s = (k + 1, n, it)) (h2 : T t = (kt + 1, nt, itt)) (hi : i + m ≤ n) (hj : j + m ≤ nt) (hn : n ≤ 40) (hnt : nt ≤ 40) : SX (mCpy z (49 + 2 * s) (49 + 2 * t) (nI i) (nI j) (nI m)) (sCpT T s i t j m) ∧ KU UA z (mCpy z (49 + 2 * s) (49 + 2 * t) (nI i) (nI j) (nI m)) := by
  have eC : sCpT T s i t j m = sShU T t (kt + 1, nt, fun p => if j ≤ p ∧ p < j + m then it (i + (p - j)) else itt p) := by unfold sCpT; rw [h2, h1]
  rw [eC]
  have hS := hT s hs
  have hU := hT t ht
  rw [h1] at hS
  rw [h2] at hU
  have hq : ∀ q, q ≠ 49 + 2 * t → (mCpy z (49 + 2 * s) (49 + 2 * t) (nI i) (nI j) (nI m)).1 q = z.1 q := fun q hq => xUp_ne hq
  have he : ∀ p, (mCpy z (49 + 2 * s) (49 + 2 * t) (nI i) (nI j) (nI m)).1 (49 + 2 * t) p = if j ≤ p ∧ p < j + m then z.1 (49 + 2 * s) (i + (p - j)) else z.1 (49 + 2 * t) p := fun p => by
    show (xUp z.1 (49 + 2 * t) (va_cpy (z.1 (49 + 2 * s)) (z.1 (49 + 2 * t)) (nI i).toNatClampNeg (nI j).toNatClampNeg (nI m).toNatClampNeg)) (49 + 2 * t) p = _
    rw [xUp_eq, sCL (n := i) (by omega), sCL (n := j) (by omega), sCL (n := m) (by omega)]
    by_cases e : j ≤ p ∧ p < j + m
    · rw [if_pos e, pk_cpy_in (by omega) (by omega)]
    · rw [if_neg e, pk_cpy_out (by omega)]
  refine ⟨fun u hu => ?_, fun q h9 => ?_⟩
  · by_cases e : u = t
    · subst e
      rw [show sShU T u (kt + 1, nt, fun p => if j ≤ p ∧ p < j + m then it (i + (p - j)) else itt p) u = (kt + 1, nt, fun p => if j ≤ p ∧ p < j + m then it (i + (p - j)) else itt p) by simp [sShU]]
      obtain ⟨a1, a2, a3⟩ := hU
      obtain ⟨b1, b2, b3⟩ := hS
      have a4 := a3.resolve_left (by simp)
      have b4 := b3.resolve_left (by simp)
      refine ⟨a1, ?_, Or.inr ⟨hnt, ?_, fun p hp => ?_⟩⟩
      · rw [hq _ (by omega)]; exact a2
      · rw [hq _ (by omega)]; exact a4.2.1
      · have hp : p < nt := hp
        rw [show 48 + 2 * u + 1 = 49 + 2 * u by omega, he]
        show _ = if j ≤ p ∧ p < j + m then it (i + (p - j)) else itt p
        by_cases e : j ≤ p ∧ p < j + m
        · rw [if_pos e, if_pos e]
          have := b4.2.2 (i + (p - j)) (by show i + (p - j) < n; omega)
          rw [show 48 + 2 * s + 1 = 49 + 2 * s by omega] at this
          exact this
        · rw [if_neg e, if_neg e]
          have := a4.2.2 p hp
          rw [show 48 + 2 * u + 1 = 49 + 2 * u by omega] at this
          exact this
    · rw [show sShU T t (kt + 1, nt, fun p => if j ≤ p ∧ p < j + m then it (i + (p - j)) else itt p) u = T u by simp [sShU, e]]
      exact SY_of (hq _ (by omega)) (hq _ (by omega)) (hT u hu)
  · simp only [UA, List.mem_cons, List.not_mem_nil, or_false, not_or] at h9
    exact hq q (by omega)
set_option maxHeartbeats 4000000 in
set_option maxRecDepth 20000 in
theorem t_X5_cell (l : Launch) (d : Nat) (x y v : Int32) (z : xMem) (T : Nat → sSh) (hT : SX z T) : XMi l (d + 2) yX5_cell cX5_cell 5 (some .int) shX [.ref 0, .int x, .int y, .int v] z (fun v9 z' => v9 = (sCell T x y v).1 ∧ SX z' (sCell T x y v).2 ∧ KU UA z z') := by
  refine XM.of (by decide) (Nat.le_of_ble_eq_true rfl) (fun xp xe xs xm xar xbl xme xc xD xcs xad xAA xCC xhr => ?_)
  generalize xhQ : MQ xbl _ xar xs 0 0 xAA = xQ
  show ww xp l xe (xRm (d + 2)) xs xm xar xbl xme xc 5 xD xcs xad shX xAA xQ 0 [(0, .ref 0), (1, .int x), (2, .int y), (3, .int v)] [] z
  refine ww_blk xCC okX5_cell 0 2 (ps := []) (pc' := 2) (lv' := [(0, .ref 0), (1, .int x), (2, .int y), (3, .int v)]) (st' := [.int x, .ref 0]) (z' := z) rfl trivial ?_
  refine ww_callVI xCC okX5_cell 2 (ix := 192) (t_X5_sheetAt l d x z) (by omega) (by decide) xyX5_sheetAt xiX5_sheetAt (Or.inl (lw_gt_of (List.mem_of_getElem? (i := 692) (by decide +kernel)) rfl)) rfl rfl rfl (rest := []) rfl (Nat.le_of_ble_eq_true rfl) rfl (fun r9 z9 h9 => ?_)
  obtain ⟨hz9, hr9⟩ := h9
  rw [hz9]
  rcases hr9 with ⟨hx, hr9⟩ | ⟨hx, hr9⟩ | ⟨hx, hr9⟩ | ⟨hx, hr9⟩ | ⟨hx, hr9⟩
  · skip
    rw [hr9]
    show ww xp l xe (xRm (d + 2)) xs xm xar xbl xme xc 5 xD xcs xad shX xAA xQ 5 [(0, .ref 0), (1, .int x), (2, .int y), (3, .int v)] [.null] z
    refine ww_blk xCC okX5_cell 3 3 (ps := []) (pc' := 12) (lv' := [(4, .null), (0, .ref 0), (1, .int x), (2, .int y), (3, .int v)]) (st' := []) (z' := z) rfl trivial ?_
    refine ww_blk xCC okX5_cell 6 1 (ps := []) (pc' := 14) (lv' := [(4, .null), (0, .ref 0), (1, .int x), (2, .int y), (3, .int v)]) (st' := [.int (-2)]) (z' := z) rfl trivial ?_
    subst xhQ
    exact ww_iret xCC okX5_cell 7 xhr rfl rfl ⟨_, rfl, (by rw [sCell_b (by omega)]; exact ⟨rfl, hT, KU_rf z⟩)⟩
  · skip
    rw [hr9]
    subst hx
    show ww xp l xe (xRm (d + 2)) xs xm xar xbl xme xc 5 xD xcs xad shX xAA xQ 5 [(0, .ref 0), (1, .int (nI 0)), (2, .int y), (3, .int v)] [.ref 48] z
    refine ww_blk xCC okX5_cell 3 3 (ps := []) (pc' := 15) (lv' := [(4, .ref 48), (0, .ref 0), (1, .int (nI 0)), (2, .int y), (3, .int v)]) (st' := []) (z' := z) rfl trivial ?_
    refine ww_blk xCC okX5_cell 8 3 (ps := []) (pc' := 21) (lv' := [(4, .ref 48), (0, .ref 0), (1, .int (nI 0)), (2, .int y), (3, .int v)]) (st' := [.int (-1), .int (z.1 48 0)]) (z' := z) rfl trivial ?_
    rw [show z.1 48 0 = cI (T 0).1 from (hT 0 (by decide)).2.1]
    refine ww_br xCC okX5_cell 11 (P := (cI (T 0).1) = (-1)) (t1 := 24) (t2 := 27) (r := []) rfl (fun c3 => ?_) (fun c3 => ?_)
    · skip
      have h0 := cI_m (by have q0 := (hT 0 (by decide)).1; have q1 := (hT 1 (by decide)).1; have q2 := (hT 2 (by decide)).1; have q3 := (hT 3 (by decide)).1; omega) c3
      refine ww_blk xCC okX5_cell 12 1 (ps := []) (pc' := 26) (lv' := [(4, .ref 48), (0, .ref 0), (1, .int (nI 0)), (2, .int y), (3, .int v)]) (st' := [.int (-11)]) (z' := z) rfl trivial ?_
      subst xhQ
      exact ww_iret xCC okX5_cell 13 xhr rfl rfl ⟨_, rfl, (by rw [sCell_m (by decide) h0]; exact ⟨rfl, hT, KU_rf z⟩)⟩
    · skip
      have h0 := cI_nm c3
      obtain ⟨n, k, it, hTs, hk2, hn40, hc0, hc1, hcI⟩ := SY_1 (hT 0 (by decide)) h0
      refine ww_blk xCC okX5_cell 14 3 (ps := []) (pc' := 31) (lv' := [(4, .ref 48), (0, .ref 0), (1, .int (nI 0)), (2, .int y), (3, .int v)]) (st' := [.int 1, .int y, .ref 48]) (z' := z) rfl trivial ?_
      refine ww_callVEz xCC okX5_cell 17 (ix := 236) (t_X2_has l d y 1 n (xPull (esS 0) z) hn40 hc1) (by omega) (by decide) xyX2_has xiX2_has (Or.inr (List.mem_of_getElem? (i := 779) (by decide +kernel))) (by decide +kernel) (by decide) (fun q => by cases q) (q0 := 48) rfl rfl rfl rfl (rest := []) rfl (Nat.le_of_ble_eq_true rfl) rfl (fun z4 h5 => ?_) (fun z4 h5 => ?_)
      · skip
        rw [h5.2, xB_id]
        replace h5 := h5.1
        refine ww_br xCC okX5_cell 18 (P := 1 = 0) (t1 := 37) (t2 := 40) (r := []) rfl (fun q => absurd q (by decide)) (fun _ => ?_)
        obtain ⟨i, hi, rfl⟩ := sNN (x := y) (n := n) (by omega) (by have q := (show (1 : Int32).toInt = 1 from rfl); omega)
        refine ww_blk xCC okX5_cell 21 3 (ps := []) (pc' := 44) (lv' := [(4, .ref 48), (0, .ref 0), (1, .int (nI 0)), (2, .int (nI i)), (3, .int v)]) (st' := [.int v, .int (nI i), .ref 48]) (z' := z) rfl trivial ?_
        refine ww_callVEv xCC okX5_cell 24 (ix := 225) (t_X2_put l d i k v n (xPull (esS 0) z) hn40 hc1 hc0 hk2 hi) (by omega) (by decide) xyX2_put xiX2_put (Or.inr (List.mem_of_getElem? (i := 731) (by decide +kernel))) (by decide +kernel) (by decide) (fun q => by cases q) (q0 := 48) rfl rfl rfl rfl (rest := []) rfl (Nat.le_of_ble_eq_true rfl) rfl (fun zB hB => ?_)
        obtain ⟨zE, hz⟩ : ∃ y, y = xBack (esS 0) (xHasRaw shS) z zB := ⟨_, rfl⟩
        rw [← hz]
        have hS := SX_new (s := 0) (by decide) hT hz (sx_p hB hk2 hn40 hc0 hc1 hcI)
        refine ww_blk xCC okX5_cell 25 1 (ps := []) (pc' := 48) (lv' := [(4, .ref 48), (0, .ref 0), (1, .int (nI 0)), (2, .int (nI i)), (3, .int v)]) (st' := [.int 1]) (z' := zE) rfl trivial ?_
        subst xhQ
        exact ww_iret xCC okX5_cell 26 xhr rfl rfl ⟨_, rfl, (by rw [sCell_y (by decide) hTs hi hn40]; exact ⟨rfl, hS.1, hS.2⟩)⟩
      · skip
        rw [h5.2, xB_id]
        replace h5 := h5.1
        refine ww_br xCC okX5_cell 18 (P := 0 = 0) (t1 := 37) (t2 := 40) (r := []) rfl (fun _ => ?_) (fun q => absurd (by decide) q)
        refine ww_blk xCC okX5_cell 19 1 (ps := []) (pc' := 39) (lv' := [(4, .ref 48), (0, .ref 0), (1, .int (nI 0)), (2, .int y), (3, .int v)]) (st' := [.int (-12)]) (z' := z) rfl trivial ?_
        subst xhQ
        exact ww_iret xCC okX5_cell 20 xhr rfl rfl ⟨_, rfl, (by rw [sCell_o (by decide) hTs (by have q := (show (1 : Int32).toInt = 1 from rfl); omega)]; exact ⟨rfl, hT, KU_rf z⟩)⟩
  · skip
    rw [hr9]
    subst hx
    show ww xp l xe (xRm (d + 2)) xs xm xar xbl xme xc 5 xD xcs xad shX xAA xQ 5 [(0, .ref 0), (1, .int (nI 1)), (2, .int y), (3, .int v)] [.ref 50] z
    refine ww_blk xCC okX5_cell 3 3 (ps := []) (pc' := 15) (lv' := [(4, .ref 50), (0, .ref 0), (1, .int (nI 1)), (2, .int y), (3, .int v)]) (st' := []) (z' := z) rfl trivial ?_
    refine ww_blk xCC okX5_cell 8 3 (ps := []) (pc' := 21) (lv' := [(4, .ref 50), (0, .ref 0), (1, .int (nI 1)), (2, .int y), (3, .int v)]) (st' := [.int (-1), .int (z.1 50 0)]) (z' := z) rfl trivial ?_
    rw [show z.1 50 0 = cI (T 1).1 from (hT 1 (by decide)).2.1]
    refine ww_br xCC okX5_cell 11 (P := (cI (T 1).1) = (-1)) (t1 := 24) (t2 := 27) (r := []) rfl (fun c9 => ?_) (fun c9 => ?_)
    · skip
      have h0 := cI_m (by have q0 := (hT 0 (by decide)).1; have q1 := (hT 1 (by decide)).1; have q2 := (hT 2 (by decide)).1; have q3 := (hT 3 (by decide)).1; omega) c9
      refine ww_blk xCC okX5_cell 12 1 (ps := []) (pc' := 26) (lv' := [(4, .ref 50), (0, .ref 0), (1, .int (nI 1)), (2, .int y), (3, .int v)]) (st' := [.int (-11)]) (z' := z) rfl trivial ?_
      subst xhQ
      exact ww_iret xCC okX5_cell 13 xhr rfl rfl ⟨_, rfl, (by rw [sCell_m (by decide) h0]; exact ⟨rfl, hT, KU_rf z⟩)⟩
    · skip
      have h0 := cI_nm c9
      obtain ⟨n, k, it, hTs, hk2, hn40, hc0, hc1, hcI⟩ := SY_1 (hT 1 (by decide)) h0
      refine ww_blk xCC okX5_cell 14 3 (ps := []) (pc' := 31) (lv' := [(4, .ref 50), (0, .ref 0), (1, .int (nI 1)), (2, .int y), (3, .int v)]) (st' := [.int 1, .int y, .ref 50]) (z' := z) rfl trivial ?_
      refine ww_callVEz xCC okX5_cell 17 (ix := 236) (t_X2_has l d y 1 n (xPull (esS 1) z) hn40 hc1) (by omega) (by decide) xyX2_has xiX2_has (Or.inr (List.mem_of_getElem? (i := 779) (by decide +kernel))) (by decide +kernel) (by decide) (fun q => by cases q) (q0 := 50) rfl rfl rfl rfl (rest := []) rfl (Nat.le_of_ble_eq_true rfl) rfl (fun z10 h11 => ?_) (fun z10 h11 => ?_)
      · skip
        rw [h11.2, xB_id]
        replace h11 := h11.1
        refine ww_br xCC okX5_cell 18 (P := 1 = 0) (t1 := 37) (t2 := 40) (r := []) rfl (fun q => absurd q (by decide)) (fun _ => ?_)
        obtain ⟨i, hi, rfl⟩ := sNN (x := y) (n := n) (by omega) (by have q := (show (1 : Int32).toInt = 1 from rfl); omega)
        refine ww_blk xCC okX5_cell 21 3 (ps := []) (pc' := 44) (lv' := [(4, .ref 50), (0, .ref 0), (1, .int (nI 1)), (2, .int (nI i)), (3, .int v)]) (st' := [.int v, .int (nI i), .ref 50]) (z' := z) rfl trivial ?_
        refine ww_callVEv xCC okX5_cell 24 (ix := 225) (t_X2_put l d i k v n (xPull (esS 1) z) hn40 hc1 hc0 hk2 hi) (by omega) (by decide) xyX2_put xiX2_put (Or.inr (List.mem_of_getElem? (i := 731) (by decide +kernel))) (by decide +kernel) (by decide) (fun q => by cases q) (q0 := 50) rfl rfl rfl rfl (rest := []) rfl (Nat.le_of_ble_eq_true rfl) rfl (fun zB hB => ?_)
        obtain ⟨zE, hz⟩ : ∃ y, y = xBack (esS 1) (xHasRaw shS) z zB := ⟨_, rfl⟩
        rw [← hz]
        have hS := SX_new (s := 1) (by decide) hT hz (sx_p hB hk2 hn40 hc0 hc1 hcI)
        refine ww_blk xCC okX5_cell 25 1 (ps := []) (pc' := 48) (lv' := [(4, .ref 50), (0, .ref 0), (1, .int (nI 1)), (2, .int (nI i)), (3, .int v)]) (st' := [.int 1]) (z' := zE) rfl trivial ?_
        subst xhQ
        exact ww_iret xCC okX5_cell 26 xhr rfl rfl ⟨_, rfl, (by rw [sCell_y (by decide) hTs hi hn40]; exact ⟨rfl, hS.1, hS.2⟩)⟩
      · skip
        rw [h11.2, xB_id]
        replace h11 := h11.1
        refine ww_br xCC okX5_cell 18 (P := 0 = 0) (t1 := 37) (t2 := 40) (r := []) rfl (fun _ => ?_) (fun q => absurd (by decide) q)
        refine ww_blk xCC okX5_cell 19 1 (ps := []) (pc' := 39) (lv' := [(4, .ref 50), (0, .ref 0), (1, .int (nI 1)), (2, .int y), (3, .int v)]) (st' := [.int (-12)]) (z' := z) rfl trivial ?_
        subst xhQ
        exact ww_iret xCC okX5_cell 20 xhr rfl rfl ⟨_, rfl, (by rw [sCell_o (by decide) hTs (by have q := (show (1 : Int32).toInt = 1 from rfl); omega)]; exact ⟨rfl, hT, KU_rf z⟩)⟩
  · skip
    rw [hr9]
    subst hx
    show ww xp l xe (xRm (d + 2)) xs xm xar xbl xme xc 5 xD xcs xad shX xAA xQ 5 [(0, .ref 0), (1, .int (nI 2)), (2, .int y), (3, .int v)] [.ref 52] z
    refine ww_blk xCC okX5_cell 3 3 (ps := []) (pc' := 15) (lv' := [(4, .ref 52), (0, .ref 0), (1, .int (nI 2)), (2, .int y), (3, .int v)]) (st' := []) (z' := z) rfl trivial ?_
    refine ww_blk xCC okX5_cell 8 3 (ps := []) (pc' := 21) (lv' := [(4, .ref 52), (0, .ref 0), (1, .int (nI 2)), (2, .int y), (3, .int v)]) (st' := [.int (-1), .int (z.1 52 0)]) (z' := z) rfl trivial ?_
    rw [show z.1 52 0 = cI (T 2).1 from (hT 2 (by decide)).2.1]
    refine ww_br xCC okX5_cell 11 (P := (cI (T 2).1) = (-1)) (t1 := 24) (t2 := 27) (r := []) rfl (fun c15 => ?_) (fun c15 => ?_)
    · skip
      have h0 := cI_m (by have q0 := (hT 0 (by decide)).1; have q1 := (hT 1 (by decide)).1; have q2 := (hT 2 (by decide)).1; have q3 := (hT 3 (by decide)).1; omega) c15
      refine ww_blk xCC okX5_cell 12 1 (ps := []) (pc' := 26) (lv' := [(4, .ref 52), (0, .ref 0), (1, .int (nI 2)), (2, .int y), (3, .int v)]) (st' := [.int (-11)]) (z' := z) rfl trivial ?_
      subst xhQ
      exact ww_iret xCC okX5_cell 13 xhr rfl rfl ⟨_, rfl, (by rw [sCell_m (by decide) h0]; exact ⟨rfl, hT, KU_rf z⟩)⟩
    · skip
      have h0 := cI_nm c15
      obtain ⟨n, k, it, hTs, hk2, hn40, hc0, hc1, hcI⟩ := SY_1 (hT 2 (by decide)) h0
      refine ww_blk xCC okX5_cell 14 3 (ps := []) (pc' := 31) (lv' := [(4, .ref 52), (0, .ref 0), (1, .int (nI 2)), (2, .int y), (3, .int v)]) (st' := [.int 1, .int y, .ref 52]) (z' := z) rfl trivial ?_
      refine ww_callVEz xCC okX5_cell 17 (ix := 236) (t_X2_has l d y 1 n (xPull (esS 2) z) hn40 hc1) (by omega) (by decide) xyX2_has xiX2_has (Or.inr (List.mem_of_getElem? (i := 779) (by decide +kernel))) (by decide +kernel) (by decide) (fun q => by cases q) (q0 := 52) rfl rfl rfl rfl (rest := []) rfl (Nat.le_of_ble_eq_true rfl) rfl (fun z16 h17 => ?_) (fun z16 h17 => ?_)
      · skip
        rw [h17.2, xB_id]
        replace h17 := h17.1
        refine ww_br xCC okX5_cell 18 (P := 1 = 0) (t1 := 37) (t2 := 40) (r := []) rfl (fun q => absurd q (by decide)) (fun _ => ?_)
        obtain ⟨i, hi, rfl⟩ := sNN (x := y) (n := n) (by omega) (by have q := (show (1 : Int32).toInt = 1 from rfl); omega)
        refine ww_blk xCC okX5_cell 21 3 (ps := []) (pc' := 44) (lv' := [(4, .ref 52), (0, .ref 0), (1, .int (nI 2)), (2, .int (nI i)), (3, .int v)]) (st' := [.int v, .int (nI i), .ref 52]) (z' := z) rfl trivial ?_
        refine ww_callVEv xCC okX5_cell 24 (ix := 225) (t_X2_put l d i k v n (xPull (esS 2) z) hn40 hc1 hc0 hk2 hi) (by omega) (by decide) xyX2_put xiX2_put (Or.inr (List.mem_of_getElem? (i := 731) (by decide +kernel))) (by decide +kernel) (by decide) (fun q => by cases q) (q0 := 52) rfl rfl rfl rfl (rest := []) rfl (Nat.le_of_ble_eq_true rfl) rfl (fun zB hB => ?_)
        obtain ⟨zE, hz⟩ : ∃ y, y = xBack (esS 2) (xHasRaw shS) z zB := ⟨_, rfl⟩
        rw [← hz]
        have hS := SX_new (s := 2) (by decide) hT hz (sx_p hB hk2 hn40 hc0 hc1 hcI)
        refine ww_blk xCC okX5_cell 25 1 (ps := []) (pc' := 48) (lv' := [(4, .ref 52), (0, .ref 0), (1, .int (nI 2)), (2, .int (nI i)), (3, .int v)]) (st' := [.int 1]) (z' := zE) rfl trivial ?_
        subst xhQ
        exact ww_iret xCC okX5_cell 26 xhr rfl rfl ⟨_, rfl, (by rw [sCell_y (by decide) hTs hi hn40]; exact ⟨rfl, hS.1, hS.2⟩)⟩
      · skip
        rw [h17.2, xB_id]
        replace h17 := h17.1
        refine ww_br xCC okX5_cell 18 (P := 0 = 0) (t1 := 37) (t2 := 40) (r := []) rfl (fun _ => ?_) (fun q => absurd (by decide) q)
        refine ww_blk xCC okX5_cell 19 1 (ps := []) (pc' := 39) (lv' := [(4, .ref 52), (0, .ref 0), (1, .int (nI 2)), (2, .int y), (3, .int v)]) (st' := [.int (-12)]) (z' := z) rfl trivial ?_
        subst xhQ
        exact ww_iret xCC okX5_cell 20 xhr rfl rfl ⟨_, rfl, (by rw [sCell_o (by decide) hTs (by have q := (show (1 : Int32).toInt = 1 from rfl); omega)]; exact ⟨rfl, hT, KU_rf z⟩)⟩
  · skip
    rw [hr9]
    subst hx
    show ww xp l xe (xRm (d + 2)) xs xm xar xbl xme xc 5 xD xcs xad shX xAA xQ 5 [(0, .ref 0), (1, .int (nI 3)), (2, .int y), (3, .int v)] [.ref 54] z
    refine ww_blk xCC okX5_cell 3 3 (ps := []) (pc' := 15) (lv' := [(4, .ref 54), (0, .ref 0), (1, .int (nI 3)), (2, .int y), (3, .int v)]) (st' := []) (z' := z) rfl trivial ?_
    refine ww_blk xCC okX5_cell 8 3 (ps := []) (pc' := 21) (lv' := [(4, .ref 54), (0, .ref 0), (1, .int (nI 3)), (2, .int y), (3, .int v)]) (st' := [.int (-1), .int (z.1 54 0)]) (z' := z) rfl trivial ?_
    rw [show z.1 54 0 = cI (T 3).1 from (hT 3 (by decide)).2.1]
    refine ww_br xCC okX5_cell 11 (P := (cI (T 3).1) = (-1)) (t1 := 24) (t2 := 27) (r := []) rfl (fun c21 => ?_) (fun c21 => ?_)
    · skip
      have h0 := cI_m (by have q0 := (hT 0 (by decide)).1; have q1 := (hT 1 (by decide)).1; have q2 := (hT 2 (by decide)).1; have q3 := (hT 3 (by decide)).1; omega) c21
      refine ww_blk xCC okX5_cell 12 1 (ps := []) (pc' := 26) (lv' := [(4, .ref 54), (0, .ref 0), (1, .int (nI 3)), (2, .int y), (3, .int v)]) (st' := [.int (-11)]) (z' := z) rfl trivial ?_
      subst xhQ
      exact ww_iret xCC okX5_cell 13 xhr rfl rfl ⟨_, rfl, (by rw [sCell_m (by decide) h0]; exact ⟨rfl, hT, KU_rf z⟩)⟩
    · skip
      have h0 := cI_nm c21
      obtain ⟨n, k, it, hTs, hk2, hn40, hc0, hc1, hcI⟩ := SY_1 (hT 3 (by decide)) h0
      refine ww_blk xCC okX5_cell 14 3 (ps := []) (pc' := 31) (lv' := [(4, .ref 54), (0, .ref 0), (1, .int (nI 3)), (2, .int y), (3, .int v)]) (st' := [.int 1, .int y, .ref 54]) (z' := z) rfl trivial ?_
      refine ww_callVEz xCC okX5_cell 17 (ix := 236) (t_X2_has l d y 1 n (xPull (esS 3) z) hn40 hc1) (by omega) (by decide) xyX2_has xiX2_has (Or.inr (List.mem_of_getElem? (i := 779) (by decide +kernel))) (by decide +kernel) (by decide) (fun q => by cases q) (q0 := 54) rfl rfl rfl rfl (rest := []) rfl (Nat.le_of_ble_eq_true rfl) rfl (fun z22 h23 => ?_) (fun z22 h23 => ?_)
      · skip
        rw [h23.2, xB_id]
        replace h23 := h23.1
        refine ww_br xCC okX5_cell 18 (P := 1 = 0) (t1 := 37) (t2 := 40) (r := []) rfl (fun q => absurd q (by decide)) (fun _ => ?_)
        obtain ⟨i, hi, rfl⟩ := sNN (x := y) (n := n) (by omega) (by have q := (show (1 : Int32).toInt = 1 from rfl); omega)
        refine ww_blk xCC okX5_cell 21 3 (ps := []) (pc' := 44) (lv' := [(4, .ref 54), (0, .ref 0), (1, .int (nI 3)), (2, .int (nI i)), (3, .int v)]) (st' := [.int v, .int (nI i), .ref 54]) (z' := z) rfl trivial ?_
        refine ww_callVEv xCC okX5_cell 24 (ix := 225) (t_X2_put l d i k v n (xPull (esS 3) z) hn40 hc1 hc0 hk2 hi) (by omega) (by decide) xyX2_put xiX2_put (Or.inr (List.mem_of_getElem? (i := 731) (by decide +kernel))) (by decide +kernel) (by decide) (fun q => by cases q) (q0 := 54) rfl rfl rfl rfl (rest := []) rfl (Nat.le_of_ble_eq_true rfl) rfl (fun zB hB => ?_)
        obtain ⟨zE, hz⟩ : ∃ y, y = xBack (esS 3) (xHasRaw shS) z zB := ⟨_, rfl⟩
        rw [← hz]
        have hS := SX_new (s := 3) (by decide) hT hz (sx_p hB hk2 hn40 hc0 hc1 hcI)
        refine ww_blk xCC okX5_cell 25 1 (ps := []) (pc' := 48) (lv' := [(4, .ref 54), (0, .ref 0), (1, .int (nI 3)), (2, .int (nI i)), (3, .int v)]) (st' := [.int 1]) (z' := zE) rfl trivial ?_
        subst xhQ
        exact ww_iret xCC okX5_cell 26 xhr rfl rfl ⟨_, rfl, (by rw [sCell_y (by decide) hTs hi hn40]; exact ⟨rfl, hS.1, hS.2⟩)⟩
      · skip
        rw [h23.2, xB_id]
        replace h23 := h23.1
        refine ww_br xCC okX5_cell 18 (P := 0 = 0) (t1 := 37) (t2 := 40) (r := []) rfl (fun _ => ?_) (fun q => absurd (by decide) q)
        refine ww_blk xCC okX5_cell 19 1 (ps := []) (pc' := 39) (lv' := [(4, .ref 54), (0, .ref 0), (1, .int (nI 3)), (2, .int y), (3, .int v)]) (st' := [.int (-12)]) (z' := z) rfl trivial ?_
        subst xhQ
        exact ww_iret xCC okX5_cell 20 xhr rfl rfl ⟨_, rfl, (by rw [sCell_o (by decide) hTs (by have q := (show (1 : Int32).toInt = 1 from rfl); omega)]; exact ⟨rfl, hT, KU_rf z⟩)⟩

set_option maxHeartbeats 4000000 in
set_option maxRecDepth 20000 in
theorem t_X5_copy (l : Launch) (d : Nat) (x y u v w : Int32) (z : xMem) (T : Nat → sSh) (hT : SX z T) : XMi l (d + 2) yX5_copy cX5_copy 8 (some .int) shX [.ref 0, .int x, .int y, .int u, .int v, .int w] z (fun v9 z' => v9 = (sCopy T x y u v w).1 ∧ SX z' (sCopy T x y u v w).2 ∧ KU UA z z') := by
  refine XM.of (by decide) (Nat.le_of_ble_eq_true rfl) (fun xp xe xs xm xar xbl xme xc xD xcs xad xAA xCC xhr => ?_)
  generalize xhQ : MQ xbl _ xar xs 0 0 xAA = xQ
  show ww xp l xe (xRm (d + 2)) xs xm xar xbl xme xc 8 xD xcs xad shX xAA xQ 0 [(0, .ref 0), (1, .int x), (2, .int y), (3, .int u), (4, .int v), (5, .int w)] [] z
  refine ww_blk xCC okX5_copy 0 2 (ps := []) (pc' := 2) (lv' := [(0, .ref 0), (1, .int x), (2, .int y), (3, .int u), (4, .int v), (5, .int w)]) (st' := [.int x, .ref 0]) (z' := z) rfl trivial ?_
  refine ww_callVI xCC okX5_copy 2 (ix := 192) (t_X5_sheetAt l d x z) (by omega) (by decide) xyX5_sheetAt xiX5_sheetAt (Or.inl (lw_gt_of (List.mem_of_getElem? (i := 692) (by decide +kernel)) rfl)) rfl rfl rfl (rest := []) rfl (Nat.le_of_ble_eq_true rfl) rfl (fun r9 z9 h9 => ?_)
  obtain ⟨hz9, hr9⟩ := h9
  rw [hz9]
  rcases hr9 with ⟨hx, hr9⟩ | ⟨hx, hr9⟩ | ⟨hx, hr9⟩ | ⟨hx, hr9⟩ | ⟨hx, hr9⟩
  · skip
    rw [hr9]
    show ww xp l xe (xRm (d + 2)) xs xm xar xbl xme xc 8 xD xcs xad shX xAA xQ 5 [(0, .ref 0), (1, .int x), (2, .int y), (3, .int u), (4, .int v), (5, .int w)] [.null] z
    refine ww_blk xCC okX5_copy 3 3 (ps := []) (pc' := 9) (lv' := [(6, .null), (0, .ref 0), (1, .int x), (2, .int y), (3, .int u), (4, .int v), (5, .int w)]) (st' := [.int u, .ref 0]) (z' := z) rfl trivial ?_
    refine ww_callVI xCC okX5_copy 6 (ix := 192) (t_X5_sheetAt l d u z) (by omega) (by decide) xyX5_sheetAt xiX5_sheetAt (Or.inl (lw_gt_of (List.mem_of_getElem? (i := 692) (by decide +kernel)) rfl)) rfl rfl rfl (rest := []) rfl (Nat.le_of_ble_eq_true rfl) rfl (fun r9 z9 h9 => ?_)
    obtain ⟨hz9, hr9⟩ := h9
    rw [hz9]
    rcases hr9 with ⟨hu, hr9⟩ | ⟨hu, hr9⟩ | ⟨hu, hr9⟩ | ⟨hu, hr9⟩ | ⟨hu, hr9⟩
    · skip
      rw [hr9]
      show ww xp l xe (xRm (d + 2)) xs xm xar xbl xme xc 8 xD xcs xad shX xAA xQ 12 [(6, .null), (0, .ref 0), (1, .int x), (2, .int y), (3, .int u), (4, .int v), (5, .int w)] [.null] z
      refine ww_blk xCC okX5_copy 7 3 (ps := []) (pc' := 24) (lv' := [(7, .null), (6, .null), (0, .ref 0), (1, .int x), (2, .int y), (3, .int u), (4, .int v), (5, .int w)]) (st' := []) (z' := z) rfl trivial ?_
      refine ww_blk xCC okX5_copy 12 1 (ps := []) (pc' := 26) (lv' := [(7, .null), (6, .null), (0, .ref 0), (1, .int x), (2, .int y), (3, .int u), (4, .int v), (5, .int w)]) (st' := [.int (-2)]) (z' := z) rfl trivial ?_
      subst xhQ
      exact ww_iret xCC okX5_copy 13 xhr rfl rfl ⟨_, rfl, (by rw [sCopy_b (by omega)]; exact ⟨rfl, hT, KU_rf z⟩)⟩
    · skip
      rw [hr9]
      subst hu
      show ww xp l xe (xRm (d + 2)) xs xm xar xbl xme xc 8 xD xcs xad shX xAA xQ 12 [(6, .null), (0, .ref 0), (1, .int x), (2, .int y), (3, .int (nI 0)), (4, .int v), (5, .int w)] [.ref 48] z
      refine ww_blk xCC okX5_copy 7 3 (ps := []) (pc' := 24) (lv' := [(7, .ref 48), (6, .null), (0, .ref 0), (1, .int x), (2, .int y), (3, .int (nI 0)), (4, .int v), (5, .int w)]) (st' := []) (z' := z) rfl trivial ?_
      refine ww_blk xCC okX5_copy 12 1 (ps := []) (pc' := 26) (lv' := [(7, .ref 48), (6, .null), (0, .ref 0), (1, .int x), (2, .int y), (3, .int (nI 0)), (4, .int v), (5, .int w)]) (st' := [.int (-2)]) (z' := z) rfl trivial ?_
      subst xhQ
      exact ww_iret xCC okX5_copy 13 xhr rfl rfl ⟨_, rfl, (by rw [sCopy_b (by omega)]; exact ⟨rfl, hT, KU_rf z⟩)⟩
    · skip
      rw [hr9]
      subst hu
      show ww xp l xe (xRm (d + 2)) xs xm xar xbl xme xc 8 xD xcs xad shX xAA xQ 12 [(6, .null), (0, .ref 0), (1, .int x), (2, .int y), (3, .int (nI 1)), (4, .int v), (5, .int w)] [.ref 50] z
      refine ww_blk xCC okX5_copy 7 3 (ps := []) (pc' := 24) (lv' := [(7, .ref 50), (6, .null), (0, .ref 0), (1, .int x), (2, .int y), (3, .int (nI 1)), (4, .int v), (5, .int w)]) (st' := []) (z' := z) rfl trivial ?_
      refine ww_blk xCC okX5_copy 12 1 (ps := []) (pc' := 26) (lv' := [(7, .ref 50), (6, .null), (0, .ref 0), (1, .int x), (2, .int y), (3, .int (nI 1)), (4, .int v), (5, .int w)]) (st' := [.int (-2)]) (z' := z) rfl trivial ?_
      subst xhQ
      exact ww_iret xCC okX5_copy 13 xhr rfl rfl ⟨_, rfl, (by rw [sCopy_b (by omega)]; exact ⟨rfl, hT, KU_rf z⟩)⟩
    · skip
      rw [hr9]
      subst hu
      show ww xp l xe (xRm (d + 2)) xs xm xar xbl xme xc 8 xD xcs xad shX xAA xQ 12 [(6, .null), (0, .ref 0), (1, .int x), (2, .int y), (3, .int (nI 2)), (4, .int v), (5, .int w)] [.ref 52] z
      refine ww_blk xCC okX5_copy 7 3 (ps := []) (pc' := 24) (lv' := [(7, .ref 52), (6, .null), (0, .ref 0), (1, .int x), (2, .int y), (3, .int (nI 2)), (4, .int v), (5, .int w)]) (st' := []) (z' := z) rfl trivial ?_
      refine ww_blk xCC okX5_copy 12 1 (ps := []) (pc' := 26) (lv' := [(7, .ref 52), (6, .null), (0, .ref 0), (1, .int x), (2, .int y), (3, .int (nI 2)), (4, .int v), (5, .int w)]) (st' := [.int (-2)]) (z' := z) rfl trivial ?_
      subst xhQ
      exact ww_iret xCC okX5_copy 13 xhr rfl rfl ⟨_, rfl, (by rw [sCopy_b (by omega)]; exact ⟨rfl, hT, KU_rf z⟩)⟩
    · skip
      rw [hr9]
      subst hu
      show ww xp l xe (xRm (d + 2)) xs xm xar xbl xme xc 8 xD xcs xad shX xAA xQ 12 [(6, .null), (0, .ref 0), (1, .int x), (2, .int y), (3, .int (nI 3)), (4, .int v), (5, .int w)] [.ref 54] z
      refine ww_blk xCC okX5_copy 7 3 (ps := []) (pc' := 24) (lv' := [(7, .ref 54), (6, .null), (0, .ref 0), (1, .int x), (2, .int y), (3, .int (nI 3)), (4, .int v), (5, .int w)]) (st' := []) (z' := z) rfl trivial ?_
      refine ww_blk xCC okX5_copy 12 1 (ps := []) (pc' := 26) (lv' := [(7, .ref 54), (6, .null), (0, .ref 0), (1, .int x), (2, .int y), (3, .int (nI 3)), (4, .int v), (5, .int w)]) (st' := [.int (-2)]) (z' := z) rfl trivial ?_
      subst xhQ
      exact ww_iret xCC okX5_copy 13 xhr rfl rfl ⟨_, rfl, (by rw [sCopy_b (by omega)]; exact ⟨rfl, hT, KU_rf z⟩)⟩
  · skip
    rw [hr9]
    subst hx
    show ww xp l xe (xRm (d + 2)) xs xm xar xbl xme xc 8 xD xcs xad shX xAA xQ 5 [(0, .ref 0), (1, .int (nI 0)), (2, .int y), (3, .int u), (4, .int v), (5, .int w)] [.ref 48] z
    refine ww_blk xCC okX5_copy 3 3 (ps := []) (pc' := 9) (lv' := [(6, .ref 48), (0, .ref 0), (1, .int (nI 0)), (2, .int y), (3, .int u), (4, .int v), (5, .int w)]) (st' := [.int u, .ref 0]) (z' := z) rfl trivial ?_
    refine ww_callVI xCC okX5_copy 6 (ix := 192) (t_X5_sheetAt l d u z) (by omega) (by decide) xyX5_sheetAt xiX5_sheetAt (Or.inl (lw_gt_of (List.mem_of_getElem? (i := 692) (by decide +kernel)) rfl)) rfl rfl rfl (rest := []) rfl (Nat.le_of_ble_eq_true rfl) rfl (fun r9 z9 h9 => ?_)
    obtain ⟨hz9, hr9⟩ := h9
    rw [hz9]
    rcases hr9 with ⟨hu, hr9⟩ | ⟨hu, hr9⟩ | ⟨hu, hr9⟩ | ⟨hu, hr9⟩ | ⟨hu, hr9⟩
    · skip
      rw [hr9]
      show ww xp l xe (xRm (d + 2)) xs xm xar xbl xme xc 8 xD xcs xad shX xAA xQ 12 [(6, .ref 48), (0, .ref 0), (1, .int (nI 0)), (2, .int y), (3, .int u), (4, .int v), (5, .int w)] [.null] z
      refine ww_blk xCC okX5_copy 7 3 (ps := []) (pc' := 19) (lv' := [(7, .null), (6, .ref 48), (0, .ref 0), (1, .int (nI 0)), (2, .int y), (3, .int u), (4, .int v), (5, .int w)]) (st' := []) (z' := z) rfl trivial ?_
      refine ww_blk xCC okX5_copy 10 2 (ps := []) (pc' := 24) (lv' := [(7, .null), (6, .ref 48), (0, .ref 0), (1, .int (nI 0)), (2, .int y), (3, .int u), (4, .int v), (5, .int w)]) (st' := []) (z' := z) rfl trivial ?_
      refine ww_blk xCC okX5_copy 12 1 (ps := []) (pc' := 26) (lv' := [(7, .null), (6, .ref 48), (0, .ref 0), (1, .int (nI 0)), (2, .int y), (3, .int u), (4, .int v), (5, .int w)]) (st' := [.int (-2)]) (z' := z) rfl trivial ?_
      subst xhQ
      exact ww_iret xCC okX5_copy 13 xhr rfl rfl ⟨_, rfl, (by rw [sCopy_b (by omega)]; exact ⟨rfl, hT, KU_rf z⟩)⟩
    · skip
      rw [hr9]
      subst hu
      show ww xp l xe (xRm (d + 2)) xs xm xar xbl xme xc 8 xD xcs xad shX xAA xQ 12 [(6, .ref 48), (0, .ref 0), (1, .int (nI 0)), (2, .int y), (3, .int (nI 0)), (4, .int v), (5, .int w)] [.ref 48] z
      refine ww_blk xCC okX5_copy 7 3 (ps := []) (pc' := 19) (lv' := [(7, .ref 48), (6, .ref 48), (0, .ref 0), (1, .int (nI 0)), (2, .int y), (3, .int (nI 0)), (4, .int v), (5, .int w)]) (st' := []) (z' := z) rfl trivial ?_
      refine ww_blk xCC okX5_copy 10 2 (ps := []) (pc' := 27) (lv' := [(7, .ref 48), (6, .ref 48), (0, .ref 0), (1, .int (nI 0)), (2, .int y), (3, .int (nI 0)), (4, .int v), (5, .int w)]) (st' := []) (z' := z) rfl trivial ?_
      refine ww_blk xCC okX5_copy 14 3 (ps := []) (pc' := 33) (lv' := [(7, .ref 48), (6, .ref 48), (0, .ref 0), (1, .int (nI 0)), (2, .int y), (3, .int (nI 0)), (4, .int v), (5, .int w)]) (st' := [.int (-1), .int (z.1 48 0)]) (z' := z) rfl trivial ?_
      rw [show z.1 48 0 = cI (T 0).1 from (hT 0 (by decide)).2.1]
      refine ww_br xCC okX5_copy 17 (P := (cI (T 0).1) = (-1)) (t1 := 45) (t2 := 36) (r := []) rfl (fun c7 => ?_) (fun c7 => ?_)
      · skip
        have h0 := cI_m (by have q0 := (hT 0 (by decide)).1; have q1 := (hT 1 (by decide)).1; have q2 := (hT 2 (by decide)).1; have q3 := (hT 3 (by decide)).1; omega) c7
        refine ww_blk xCC okX5_copy 22 1 (ps := []) (pc' := 47) (lv' := [(7, .ref 48), (6, .ref 48), (0, .ref 0), (1, .int (nI 0)), (2, .int y), (3, .int (nI 0)), (4, .int v), (5, .int w)]) (st' := [.int (-11)]) (z' := z) rfl trivial ?_
        subst xhQ
        exact ww_iret xCC okX5_copy 23 xhr rfl rfl ⟨_, rfl, (by rw [sCopy_m (by decide) (by decide) (Or.inl h0)]; exact ⟨rfl, hT, KU_rf z⟩)⟩
      · skip
        have h0 := cI_nm c7
        refine ww_blk xCC okX5_copy 18 3 (ps := []) (pc' := 42) (lv' := [(7, .ref 48), (6, .ref 48), (0, .ref 0), (1, .int (nI 0)), (2, .int y), (3, .int (nI 0)), (4, .int v), (5, .int w)]) (st' := [.int (-1), .int (z.1 48 0)]) (z' := z) rfl trivial ?_
        rw [show z.1 48 0 = cI (T 0).1 from (hT 0 (by decide)).2.1]
        refine ww_br xCC okX5_copy 21 (P := (cI (T 0).1) = (-1)) (t1 := 45) (t2 := 48) (r := []) rfl (fun c8 => ?_) (fun c8 => ?_)
        · skip
          have h0u := cI_m (by have q0 := (hT 0 (by decide)).1; have q1 := (hT 1 (by decide)).1; have q2 := (hT 2 (by decide)).1; have q3 := (hT 3 (by decide)).1; omega) c8
          refine ww_blk xCC okX5_copy 22 1 (ps := []) (pc' := 47) (lv' := [(7, .ref 48), (6, .ref 48), (0, .ref 0), (1, .int (nI 0)), (2, .int y), (3, .int (nI 0)), (4, .int v), (5, .int w)]) (st' := [.int (-11)]) (z' := z) rfl trivial ?_
          subst xhQ
          exact ww_iret xCC okX5_copy 23 xhr rfl rfl ⟨_, rfl, (by rw [sCopy_m (by decide) (by decide) (Or.inr h0u)]; exact ⟨rfl, hT, KU_rf z⟩)⟩
        · skip
          have h0u := cI_nm c8
          obtain ⟨n, k, it, hTs, hk2, hn40, hc0, hc1, hcI⟩ := SY_1 (hT 0 (by decide)) h0
          obtain ⟨nu, ku, itu, hTsu, hk2u, hn40u, hc0u, hc1u, hcIu⟩ := SY_1 (hT 0 (by decide)) h0u
          refine ww_blk xCC okX5_copy 24 4 (ps := []) (pc' := 58) (lv' := [(7, .ref 48), (6, .ref 48), (0, .ref 0), (1, .int (nI 0)), (2, .int y), (3, .int (nI 0)), (4, .int v), (5, .int w)]) (st' := [.int (z.1 48 0), .int (z.1 48 0)]) (z' := z) rfl trivial ?_
          rw [show z.1 48 0 = cI (T 0).1 from (hT 0 (by decide)).2.1]
          refine ww_br xCC okX5_copy 28 (P := (cI (T 0).1) = (cI (T 0).1)) (t1 := 64) (t2 := 61) (r := []) rfl (fun c9 => ?_) (fun c9 => ?_)
          · skip
            have hkk : k = ku := hT_k hTs hTsu hk2 hk2u c9
            refine ww_blk xCC okX5_copy 31 3 (ps := []) (pc' := 69) (lv' := [(7, .ref 48), (6, .ref 48), (0, .ref 0), (1, .int (nI 0)), (2, .int y), (3, .int (nI 0)), (4, .int v), (5, .int w)]) (st' := [.int w, .int y, .ref 48]) (z' := z) rfl trivial ?_
            refine ww_callVEz xCC okX5_copy 34 (ix := 236) (t_X2_has l d y w n (xPull (esS 0) z) hn40 hc1) (by omega) (by decide) xyX2_has xiX2_has (Or.inr (List.mem_of_getElem? (i := 779) (by decide +kernel))) (by decide +kernel) (by decide) (fun q => by cases q) (q0 := 48) rfl rfl rfl rfl (rest := []) rfl (Nat.le_of_ble_eq_true rfl) rfl (fun z10 h11 => ?_) (fun z10 h11 => ?_)
            · skip
              rw [h11.2, xB_id]
              replace h11 := h11.1
              refine ww_br xCC okX5_copy 35 (P := 1 = 0) (t1 := 87) (t2 := 75) (r := []) rfl (fun q => absurd q (by decide)) (fun _ => ?_)
              refine ww_blk xCC okX5_copy 36 3 (ps := []) (pc' := 81) (lv' := [(7, .ref 48), (6, .ref 48), (0, .ref 0), (1, .int (nI 0)), (2, .int y), (3, .int (nI 0)), (4, .int v), (5, .int w)]) (st' := [.int w, .int v, .ref 48]) (z' := z) rfl trivial ?_
              refine ww_callVEz xCC okX5_copy 39 (ix := 236) (t_X2_has l d v w nu (xPull (esS 0) z) hn40u hc1u) (by omega) (by decide) xyX2_has xiX2_has (Or.inr (List.mem_of_getElem? (i := 779) (by decide +kernel))) (by decide +kernel) (by decide) (fun q => by cases q) (q0 := 48) rfl rfl rfl rfl (rest := []) rfl (Nat.le_of_ble_eq_true rfl) rfl (fun z13 h14 => ?_) (fun z13 h14 => ?_)
              · skip
                rw [h14.2, xB_id]
                replace h14 := h14.1
                refine ww_br xCC okX5_copy 40 (P := 1 = 0) (t1 := 87) (t2 := 90) (r := []) rfl (fun q => absurd q (by decide)) (fun _ => ?_)
                obtain ⟨m, hm, rfl⟩ := sNN (x := w) (n := 41) (by omega) (by omega)
                obtain ⟨i, hi, rfl⟩ := sNN (x := y) (n := 41) (by omega) (by omega)
                obtain ⟨j, hj, rfl⟩ := sNN (x := v) (n := 41) (by omega) (by omega)
                have qm := sTI (k := m) (by omega)
                have qi := sTI (k := i) (by omega)
                have qj := sTI (k := j) (by omega)
                have hp1 : (nI i).toNatClampNeg + (nI m).toNatClampNeg ≤ 40 := by rw [sCL (n := i) (by omega), sCL (n := m) (by omega)]; omega
                have hp2 : (nI j).toNatClampNeg + (nI m).toNatClampNeg ≤ 40 := by rw [sCL (n := j) (by omega), sCL (n := m) (by omega)]; omega
                refine ww_blk xCC okX5_copy 43 9 (ps := [¬ (nI i) < 0, ¬ (nI j) < 0, ¬ (nI m) < 0, (nI i).toNatClampNeg + (nI m).toNatClampNeg ≤ 40, (nI j).toNatClampNeg + (nI m).toNatClampNeg ≤ 40]) (pc' := 110) (lv' := [(7, .ref 48), (6, .ref 48), (0, .ref 0), (1, .int (nI 0)), (2, .int (nI i)), (3, .int (nI 0)), (4, .int (nI j)), (5, .int (nI m))]) (st' := [.int (nI m)]) (z' := (mCpy z 49 49 (nI i) (nI j) (nI m))) rfl ⟨(nI_n0 (by omega)), (nI_n0 (by omega)), (nI_n0 (by omega)), hp1, hp2⟩ ?_
                subst xhQ
                exact ww_iret xCC okX5_copy 52 xhr rfl rfl ⟨_, rfl, (by rw [sCopy_y (by decide) (by decide) hTs hTsu hkk ⟨hn40, hn40u⟩ (by omega) (by omega)]; exact ⟨rfl, SX_cpy (s := 0) (t := 0) (by decide) (by decide) hT hTs hTsu (by omega) (by omega) hn40 hn40u⟩)⟩
              · skip
                rw [h14.2, xB_id]
                replace h14 := h14.1
                refine ww_br xCC okX5_copy 40 (P := 0 = 0) (t1 := 87) (t2 := 90) (r := []) rfl (fun _ => ?_) (fun q => absurd (by decide) q)
                refine ww_blk xCC okX5_copy 41 1 (ps := []) (pc' := 89) (lv' := [(7, .ref 48), (6, .ref 48), (0, .ref 0), (1, .int (nI 0)), (2, .int y), (3, .int (nI 0)), (4, .int v), (5, .int w)]) (st' := [.int (-12)]) (z' := z) rfl trivial ?_
                subst xhQ
                exact ww_iret xCC okX5_copy 42 xhr rfl rfl ⟨_, rfl, (by rw [sCopy_o (by decide) (by decide) hTs hTsu hkk (by omega)]; exact ⟨rfl, hT, KU_rf z⟩)⟩
            · skip
              rw [h11.2, xB_id]
              replace h11 := h11.1
              refine ww_br xCC okX5_copy 35 (P := 0 = 0) (t1 := 87) (t2 := 75) (r := []) rfl (fun _ => ?_) (fun q => absurd (by decide) q)
              refine ww_blk xCC okX5_copy 41 1 (ps := []) (pc' := 89) (lv' := [(7, .ref 48), (6, .ref 48), (0, .ref 0), (1, .int (nI 0)), (2, .int y), (3, .int (nI 0)), (4, .int v), (5, .int w)]) (st' := [.int (-12)]) (z' := z) rfl trivial ?_
              subst xhQ
              exact ww_iret xCC okX5_copy 42 xhr rfl rfl ⟨_, rfl, (by rw [sCopy_o (by decide) (by decide) hTs hTsu hkk (by omega)]; exact ⟨rfl, hT, KU_rf z⟩)⟩
          · skip
            have hkk : k ≠ ku := fun q => c9 (hT_q hTs hTsu q)
            refine ww_blk xCC okX5_copy 29 1 (ps := []) (pc' := 63) (lv' := [(7, .ref 48), (6, .ref 48), (0, .ref 0), (1, .int (nI 0)), (2, .int y), (3, .int (nI 0)), (4, .int v), (5, .int w)]) (st' := [.int (-13)]) (z' := z) rfl trivial ?_
            subst xhQ
            exact ww_iret xCC okX5_copy 30 xhr rfl rfl ⟨_, rfl, (by rw [sCopy_k (by decide) (by decide) hTs hTsu hkk]; exact ⟨rfl, hT, KU_rf z⟩)⟩
    · skip
      rw [hr9]
      subst hu
      show ww xp l xe (xRm (d + 2)) xs xm xar xbl xme xc 8 xD xcs xad shX xAA xQ 12 [(6, .ref 48), (0, .ref 0), (1, .int (nI 0)), (2, .int y), (3, .int (nI 1)), (4, .int v), (5, .int w)] [.ref 50] z
      refine ww_blk xCC okX5_copy 7 3 (ps := []) (pc' := 19) (lv' := [(7, .ref 50), (6, .ref 48), (0, .ref 0), (1, .int (nI 0)), (2, .int y), (3, .int (nI 1)), (4, .int v), (5, .int w)]) (st' := []) (z' := z) rfl trivial ?_
      refine ww_blk xCC okX5_copy 10 2 (ps := []) (pc' := 27) (lv' := [(7, .ref 50), (6, .ref 48), (0, .ref 0), (1, .int (nI 0)), (2, .int y), (3, .int (nI 1)), (4, .int v), (5, .int w)]) (st' := []) (z' := z) rfl trivial ?_
      refine ww_blk xCC okX5_copy 14 3 (ps := []) (pc' := 33) (lv' := [(7, .ref 50), (6, .ref 48), (0, .ref 0), (1, .int (nI 0)), (2, .int y), (3, .int (nI 1)), (4, .int v), (5, .int w)]) (st' := [.int (-1), .int (z.1 48 0)]) (z' := z) rfl trivial ?_
      rw [show z.1 48 0 = cI (T 0).1 from (hT 0 (by decide)).2.1]
      refine ww_br xCC okX5_copy 17 (P := (cI (T 0).1) = (-1)) (t1 := 45) (t2 := 36) (r := []) rfl (fun c18 => ?_) (fun c18 => ?_)
      · skip
        have h0 := cI_m (by have q0 := (hT 0 (by decide)).1; have q1 := (hT 1 (by decide)).1; have q2 := (hT 2 (by decide)).1; have q3 := (hT 3 (by decide)).1; omega) c18
        refine ww_blk xCC okX5_copy 22 1 (ps := []) (pc' := 47) (lv' := [(7, .ref 50), (6, .ref 48), (0, .ref 0), (1, .int (nI 0)), (2, .int y), (3, .int (nI 1)), (4, .int v), (5, .int w)]) (st' := [.int (-11)]) (z' := z) rfl trivial ?_
        subst xhQ
        exact ww_iret xCC okX5_copy 23 xhr rfl rfl ⟨_, rfl, (by rw [sCopy_m (by decide) (by decide) (Or.inl h0)]; exact ⟨rfl, hT, KU_rf z⟩)⟩
      · skip
        have h0 := cI_nm c18
        refine ww_blk xCC okX5_copy 18 3 (ps := []) (pc' := 42) (lv' := [(7, .ref 50), (6, .ref 48), (0, .ref 0), (1, .int (nI 0)), (2, .int y), (3, .int (nI 1)), (4, .int v), (5, .int w)]) (st' := [.int (-1), .int (z.1 50 0)]) (z' := z) rfl trivial ?_
        rw [show z.1 50 0 = cI (T 1).1 from (hT 1 (by decide)).2.1]
        refine ww_br xCC okX5_copy 21 (P := (cI (T 1).1) = (-1)) (t1 := 45) (t2 := 48) (r := []) rfl (fun c19 => ?_) (fun c19 => ?_)
        · skip
          have h0u := cI_m (by have q0 := (hT 0 (by decide)).1; have q1 := (hT 1 (by decide)).1; have q2 := (hT 2 (by decide)).1; have q3 := (hT 3 (by decide)).1; omega) c19
          refine ww_blk xCC okX5_copy 22 1 (ps := []) (pc' := 47) (lv' := [(7, .ref 50), (6, .ref 48), (0, .ref 0), (1, .int (nI 0)), (2, .int y), (3, .int (nI 1)), (4, .int v), (5, .int w)]) (st' := [.int (-11)]) (z' := z) rfl trivial ?_
          subst xhQ
          exact ww_iret xCC okX5_copy 23 xhr rfl rfl ⟨_, rfl, (by rw [sCopy_m (by decide) (by decide) (Or.inr h0u)]; exact ⟨rfl, hT, KU_rf z⟩)⟩
        · skip
          have h0u := cI_nm c19
          obtain ⟨n, k, it, hTs, hk2, hn40, hc0, hc1, hcI⟩ := SY_1 (hT 0 (by decide)) h0
          obtain ⟨nu, ku, itu, hTsu, hk2u, hn40u, hc0u, hc1u, hcIu⟩ := SY_1 (hT 1 (by decide)) h0u
          refine ww_blk xCC okX5_copy 24 4 (ps := []) (pc' := 58) (lv' := [(7, .ref 50), (6, .ref 48), (0, .ref 0), (1, .int (nI 0)), (2, .int y), (3, .int (nI 1)), (4, .int v), (5, .int w)]) (st' := [.int (z.1 50 0), .int (z.1 48 0)]) (z' := z) rfl trivial ?_
          rw [show z.1 50 0 = cI (T 1).1 from (hT 1 (by decide)).2.1]
          rw [show z.1 48 0 = cI (T 0).1 from (hT 0 (by decide)).2.1]
          refine ww_br xCC okX5_copy 28 (P := (cI (T 0).1) = (cI (T 1).1)) (t1 := 64) (t2 := 61) (r := []) rfl (fun c20 => ?_) (fun c20 => ?_)
          · skip
            have hkk : k = ku := hT_k hTs hTsu hk2 hk2u c20
            refine ww_blk xCC okX5_copy 31 3 (ps := []) (pc' := 69) (lv' := [(7, .ref 50), (6, .ref 48), (0, .ref 0), (1, .int (nI 0)), (2, .int y), (3, .int (nI 1)), (4, .int v), (5, .int w)]) (st' := [.int w, .int y, .ref 48]) (z' := z) rfl trivial ?_
            refine ww_callVEz xCC okX5_copy 34 (ix := 236) (t_X2_has l d y w n (xPull (esS 0) z) hn40 hc1) (by omega) (by decide) xyX2_has xiX2_has (Or.inr (List.mem_of_getElem? (i := 779) (by decide +kernel))) (by decide +kernel) (by decide) (fun q => by cases q) (q0 := 48) rfl rfl rfl rfl (rest := []) rfl (Nat.le_of_ble_eq_true rfl) rfl (fun z21 h22 => ?_) (fun z21 h22 => ?_)
            · skip
              rw [h22.2, xB_id]
              replace h22 := h22.1
              refine ww_br xCC okX5_copy 35 (P := 1 = 0) (t1 := 87) (t2 := 75) (r := []) rfl (fun q => absurd q (by decide)) (fun _ => ?_)
              refine ww_blk xCC okX5_copy 36 3 (ps := []) (pc' := 81) (lv' := [(7, .ref 50), (6, .ref 48), (0, .ref 0), (1, .int (nI 0)), (2, .int y), (3, .int (nI 1)), (4, .int v), (5, .int w)]) (st' := [.int w, .int v, .ref 50]) (z' := z) rfl trivial ?_
              refine ww_callVEz xCC okX5_copy 39 (ix := 236) (t_X2_has l d v w nu (xPull (esS 1) z) hn40u hc1u) (by omega) (by decide) xyX2_has xiX2_has (Or.inr (List.mem_of_getElem? (i := 779) (by decide +kernel))) (by decide +kernel) (by decide) (fun q => by cases q) (q0 := 50) rfl rfl rfl rfl (rest := []) rfl (Nat.le_of_ble_eq_true rfl) rfl (fun z24 h25 => ?_) (fun z24 h25 => ?_)
              · skip
                rw [h25.2, xB_id]
                replace h25 := h25.1
                refine ww_br xCC okX5_copy 40 (P := 1 = 0) (t1 := 87) (t2 := 90) (r := []) rfl (fun q => absurd q (by decide)) (fun _ => ?_)
                obtain ⟨m, hm, rfl⟩ := sNN (x := w) (n := 41) (by omega) (by omega)
                obtain ⟨i, hi, rfl⟩ := sNN (x := y) (n := 41) (by omega) (by omega)
                obtain ⟨j, hj, rfl⟩ := sNN (x := v) (n := 41) (by omega) (by omega)
                have qm := sTI (k := m) (by omega)
                have qi := sTI (k := i) (by omega)
                have qj := sTI (k := j) (by omega)
                have hp1 : (nI i).toNatClampNeg + (nI m).toNatClampNeg ≤ 40 := by rw [sCL (n := i) (by omega), sCL (n := m) (by omega)]; omega
                have hp2 : (nI j).toNatClampNeg + (nI m).toNatClampNeg ≤ 40 := by rw [sCL (n := j) (by omega), sCL (n := m) (by omega)]; omega
                refine ww_blk xCC okX5_copy 43 9 (ps := [¬ (nI i) < 0, ¬ (nI j) < 0, ¬ (nI m) < 0, (nI i).toNatClampNeg + (nI m).toNatClampNeg ≤ 40, (nI j).toNatClampNeg + (nI m).toNatClampNeg ≤ 40]) (pc' := 110) (lv' := [(7, .ref 50), (6, .ref 48), (0, .ref 0), (1, .int (nI 0)), (2, .int (nI i)), (3, .int (nI 1)), (4, .int (nI j)), (5, .int (nI m))]) (st' := [.int (nI m)]) (z' := (mCpy z 49 51 (nI i) (nI j) (nI m))) rfl ⟨(nI_n0 (by omega)), (nI_n0 (by omega)), (nI_n0 (by omega)), hp1, hp2⟩ ?_
                subst xhQ
                exact ww_iret xCC okX5_copy 52 xhr rfl rfl ⟨_, rfl, (by rw [sCopy_y (by decide) (by decide) hTs hTsu hkk ⟨hn40, hn40u⟩ (by omega) (by omega)]; exact ⟨rfl, SX_cpy (s := 0) (t := 1) (by decide) (by decide) hT hTs hTsu (by omega) (by omega) hn40 hn40u⟩)⟩
              · skip
                rw [h25.2, xB_id]
                replace h25 := h25.1
                refine ww_br xCC okX5_copy 40 (P := 0 = 0) (t1 := 87) (t2 := 90) (r := []) rfl (fun _ => ?_) (fun q => absurd (by decide) q)
                refine ww_blk xCC okX5_copy 41 1 (ps := []) (pc' := 89) (lv' := [(7, .ref 50), (6, .ref 48), (0, .ref 0), (1, .int (nI 0)), (2, .int y), (3, .int (nI 1)), (4, .int v), (5, .int w)]) (st' := [.int (-12)]) (z' := z) rfl trivial ?_
                subst xhQ
                exact ww_iret xCC okX5_copy 42 xhr rfl rfl ⟨_, rfl, (by rw [sCopy_o (by decide) (by decide) hTs hTsu hkk (by omega)]; exact ⟨rfl, hT, KU_rf z⟩)⟩
            · skip
              rw [h22.2, xB_id]
              replace h22 := h22.1
              refine ww_br xCC okX5_copy 35 (P := 0 = 0) (t1 := 87) (t2 := 75) (r := []) rfl (fun _ => ?_) (fun q => absurd (by decide) q)
              refine ww_blk xCC okX5_copy 41 1 (ps := []) (pc' := 89) (lv' := [(7, .ref 50), (6, .ref 48), (0, .ref 0), (1, .int (nI 0)), (2, .int y), (3, .int (nI 1)), (4, .int v), (5, .int w)]) (st' := [.int (-12)]) (z' := z) rfl trivial ?_
              subst xhQ
              exact ww_iret xCC okX5_copy 42 xhr rfl rfl ⟨_, rfl, (by rw [sCopy_o (by decide) (by decide) hTs hTsu hkk (by omega)]; exact ⟨rfl, hT, KU_rf z⟩)⟩
          · skip
            have hkk : k ≠ ku := fun q => c20 (hT_q hTs hTsu q)
            refine ww_blk xCC okX5_copy 29 1 (ps := []) (pc' := 63) (lv' := [(7, .ref 50), (6, .ref 48), (0, .ref 0), (1, .int (nI 0)), (2, .int y), (3, .int (nI 1)), (4, .int v), (5, .int w)]) (st' := [.int (-13)]) (z' := z) rfl trivial ?_
            subst xhQ
            exact ww_iret xCC okX5_copy 30 xhr rfl rfl ⟨_, rfl, (by rw [sCopy_k (by decide) (by decide) hTs hTsu hkk]; exact ⟨rfl, hT, KU_rf z⟩)⟩
    · skip
      rw [hr9]
      subst hu
      show ww xp l xe (xRm (d + 2)) xs xm xar xbl xme xc 8 xD xcs xad shX xAA xQ 12 [(6, .ref 48), (0, .ref 0), (1, .int (nI 0)), (2, .int y), (3, .int (nI 2)), (4, .int v), (5, .int w)] [.ref 52] z
      refine ww_blk xCC okX5_copy 7 3 (ps := []) (pc' := 19) (lv' := [(7, .ref 52), (6, .ref 48), (0, .ref 0), (1, .int (nI 0)), (2, .int y), (3, .int (nI 2)), (4, .int v), (5, .int w)]) (st' := []) (z' := z) rfl trivial ?_
      refine ww_blk xCC okX5_copy 10 2 (ps := []) (pc' := 27) (lv' := [(7, .ref 52), (6, .ref 48), (0, .ref 0), (1, .int (nI 0)), (2, .int y), (3, .int (nI 2)), (4, .int v), (5, .int w)]) (st' := []) (z' := z) rfl trivial ?_
      refine ww_blk xCC okX5_copy 14 3 (ps := []) (pc' := 33) (lv' := [(7, .ref 52), (6, .ref 48), (0, .ref 0), (1, .int (nI 0)), (2, .int y), (3, .int (nI 2)), (4, .int v), (5, .int w)]) (st' := [.int (-1), .int (z.1 48 0)]) (z' := z) rfl trivial ?_
      rw [show z.1 48 0 = cI (T 0).1 from (hT 0 (by decide)).2.1]
      refine ww_br xCC okX5_copy 17 (P := (cI (T 0).1) = (-1)) (t1 := 45) (t2 := 36) (r := []) rfl (fun c29 => ?_) (fun c29 => ?_)
      · skip
        have h0 := cI_m (by have q0 := (hT 0 (by decide)).1; have q1 := (hT 1 (by decide)).1; have q2 := (hT 2 (by decide)).1; have q3 := (hT 3 (by decide)).1; omega) c29
        refine ww_blk xCC okX5_copy 22 1 (ps := []) (pc' := 47) (lv' := [(7, .ref 52), (6, .ref 48), (0, .ref 0), (1, .int (nI 0)), (2, .int y), (3, .int (nI 2)), (4, .int v), (5, .int w)]) (st' := [.int (-11)]) (z' := z) rfl trivial ?_
        subst xhQ
        exact ww_iret xCC okX5_copy 23 xhr rfl rfl ⟨_, rfl, (by rw [sCopy_m (by decide) (by decide) (Or.inl h0)]; exact ⟨rfl, hT, KU_rf z⟩)⟩
      · skip
        have h0 := cI_nm c29
        refine ww_blk xCC okX5_copy 18 3 (ps := []) (pc' := 42) (lv' := [(7, .ref 52), (6, .ref 48), (0, .ref 0), (1, .int (nI 0)), (2, .int y), (3, .int (nI 2)), (4, .int v), (5, .int w)]) (st' := [.int (-1), .int (z.1 52 0)]) (z' := z) rfl trivial ?_
        rw [show z.1 52 0 = cI (T 2).1 from (hT 2 (by decide)).2.1]
        refine ww_br xCC okX5_copy 21 (P := (cI (T 2).1) = (-1)) (t1 := 45) (t2 := 48) (r := []) rfl (fun c30 => ?_) (fun c30 => ?_)
        · skip
          have h0u := cI_m (by have q0 := (hT 0 (by decide)).1; have q1 := (hT 1 (by decide)).1; have q2 := (hT 2 (by decide)).1; have q3 := (hT 3 (by decide)).1; omega) c30
          refine ww_blk xCC okX5_copy 22 1 (ps := []) (pc' := 47) (lv' := [(7, .ref 52), (6, .ref 48), (0, .ref 0), (1, .int (nI 0)), (2, .int y), (3, .int (nI 2)), (4, .int v), (5, .int w)]) (st' := [.int (-11)]) (z' := z) rfl trivial ?_
          subst xhQ
          exact ww_iret xCC okX5_copy 23 xhr rfl rfl ⟨_, rfl, (by rw [sCopy_m (by decide) (by decide) (Or.inr h0u)]; exact ⟨rfl, hT, KU_rf z⟩)⟩
        · skip
          have h0u := cI_nm c30
          obtain ⟨n, k, it, hTs, hk2, hn40, hc0, hc1, hcI⟩ := SY_1 (hT 0 (by decide)) h0
          obtain ⟨nu, ku, itu, hTsu, hk2u, hn40u, hc0u, hc1u, hcIu⟩ := SY_1 (hT 2 (by decide)) h0u
          refine ww_blk xCC okX5_copy 24 4 (ps := []) (pc' := 58) (lv' := [(7, .ref 52), (6, .ref 48), (0, .ref 0), (1, .int (nI 0)), (2, .int y), (3, .int (nI 2)), (4, .int v), (5, .int w)]) (st' := [.int (z.1 52 0), .int (z.1 48 0)]) (z' := z) rfl trivial ?_
          rw [show z.1 52 0 = cI (T 2).1 from (hT 2 (by decide)).2.1]
          rw [show z.1 48 0 = cI (T 0).1 from (hT 0 (by decide)).2.1]
          refine ww_br xCC okX5_copy 28 (P := (cI (T 0).1) = (cI (T 2).1)) (t1 := 64) (t2 := 61) (r := []) rfl (fun c31 => ?_) (fun c31 => ?_)
          · skip
            have hkk : k = ku := hT_k hTs hTsu hk2 hk2u c31
            refine ww_blk xCC okX5_copy 31 3 (ps := []) (pc' := 69) (lv' := [(7, .ref 52), (6, .ref 48), (0, .ref 0), (1, .int (nI 0)), (2, .int y), (3, .int (nI 2)), (4, .int v), (5, .int w)]) (st' := [.int w, .int y, .ref 48]) (z' := z) rfl trivial ?_
            refine ww_callVEz xCC okX5_copy 34 (ix := 236) (t_X2_has l d y w n (xPull (esS 0) z) hn40 hc1) (by omega) (by decide) xyX2_has xiX2_has (Or.inr (List.mem_of_getElem? (i := 779) (by decide +kernel))) (by decide +kernel) (by decide) (fun q => by cases q) (q0 := 48) rfl rfl rfl rfl (rest := []) rfl (Nat.le_of_ble_eq_true rfl) rfl (fun z32 h33 => ?_) (fun z32 h33 => ?_)
            · skip
              rw [h33.2, xB_id]
              replace h33 := h33.1
              refine ww_br xCC okX5_copy 35 (P := 1 = 0) (t1 := 87) (t2 := 75) (r := []) rfl (fun q => absurd q (by decide)) (fun _ => ?_)
              refine ww_blk xCC okX5_copy 36 3 (ps := []) (pc' := 81) (lv' := [(7, .ref 52), (6, .ref 48), (0, .ref 0), (1, .int (nI 0)), (2, .int y), (3, .int (nI 2)), (4, .int v), (5, .int w)]) (st' := [.int w, .int v, .ref 52]) (z' := z) rfl trivial ?_
              refine ww_callVEz xCC okX5_copy 39 (ix := 236) (t_X2_has l d v w nu (xPull (esS 2) z) hn40u hc1u) (by omega) (by decide) xyX2_has xiX2_has (Or.inr (List.mem_of_getElem? (i := 779) (by decide +kernel))) (by decide +kernel) (by decide) (fun q => by cases q) (q0 := 52) rfl rfl rfl rfl (rest := []) rfl (Nat.le_of_ble_eq_true rfl) rfl (fun z35 h36 => ?_) (fun z35 h36 => ?_)
              · skip
                rw [h36.2, xB_id]
                replace h36 := h36.1
                refine ww_br xCC okX5_copy 40 (P := 1 = 0) (t1 := 87) (t2 := 90) (r := []) rfl (fun q => absurd q (by decide)) (fun _ => ?_)
                obtain ⟨m, hm, rfl⟩ := sNN (x := w) (n := 41) (by omega) (by omega)
                obtain ⟨i, hi, rfl⟩ := sNN (x := y) (n := 41) (by omega) (by omega)
                obtain ⟨j, hj, rfl⟩ := sNN (x := v) (n := 41) (by omega) (by omega)
                have qm := sTI (k := m) (by omega)
                have qi := sTI (k := i) (by omega)
                have qj := sTI (k := j) (by omega)
                have hp1 : (nI i).toNatClampNeg + (nI m).toNatClampNeg ≤ 40 := by rw [sCL (n := i) (by omega), sCL (n := m) (by omega)]; omega
                have hp2 : (nI j).toNatClampNeg + (nI m).toNatClampNeg ≤ 40 := by rw [sCL (n := j) (by omega), sCL (n := m) (by omega)]; omega
                refine ww_blk xCC okX5_copy 43 9 (ps := [¬ (nI i) < 0, ¬ (nI j) < 0, ¬ (nI m) < 0, (nI i).toNatClampNeg + (nI m).toNatClampNeg ≤ 40, (nI j).toNatClampNeg + (nI m).toNatClampNeg ≤ 40]) (pc' := 110) (lv' := [(7, .ref 52), (6, .ref 48), (0, .ref 0), (1, .int (nI 0)), (2, .int (nI i)), (3, .int (nI 2)), (4, .int (nI j)), (5, .int (nI m))]) (st' := [.int (nI m)]) (z' := (mCpy z 49 53 (nI i) (nI j) (nI m))) rfl ⟨(nI_n0 (by omega)), (nI_n0 (by omega)), (nI_n0 (by omega)), hp1, hp2⟩ ?_
                subst xhQ
                exact ww_iret xCC okX5_copy 52 xhr rfl rfl ⟨_, rfl, (by rw [sCopy_y (by decide) (by decide) hTs hTsu hkk ⟨hn40, hn40u⟩ (by omega) (by omega)]; exact ⟨rfl, SX_cpy (s := 0) (t := 2) (by decide) (by decide) hT hTs hTsu (by omega) (by omega) hn40 hn40u⟩)⟩
              · skip
                rw [h36.2, xB_id]
                replace h36 := h36.1
                refine ww_br xCC okX5_copy 40 (P := 0 = 0) (t1 := 87) (t2 := 90) (r := []) rfl (fun _ => ?_) (fun q => absurd (by decide) q)
                refine ww_blk xCC okX5_copy 41 1 (ps := []) (pc' := 89) (lv' := [(7, .ref 52), (6, .ref 48), (0, .ref 0), (1, .int (nI 0)), (2, .int y), (3, .int (nI 2)), (4, .int v), (5, .int w)]) (st' := [.int (-12)]) (z' := z) rfl trivial ?_
                subst xhQ
                exact ww_iret xCC okX5_copy 42 xhr rfl rfl ⟨_, rfl, (by rw [sCopy_o (by decide) (by decide) hTs hTsu hkk (by omega)]; exact ⟨rfl, hT, KU_rf z⟩)⟩
            · skip
              rw [h33.2, xB_id]
              replace h33 := h33.1
              refine ww_br xCC okX5_copy 35 (P := 0 = 0) (t1 := 87) (t2 := 75) (r := []) rfl (fun _ => ?_) (fun q => absurd (by decide) q)
              refine ww_blk xCC okX5_copy 41 1 (ps := []) (pc' := 89) (lv' := [(7, .ref 52), (6, .ref 48), (0, .ref 0), (1, .int (nI 0)), (2, .int y), (3, .int (nI 2)), (4, .int v), (5, .int w)]) (st' := [.int (-12)]) (z' := z) rfl trivial ?_
              subst xhQ
              exact ww_iret xCC okX5_copy 42 xhr rfl rfl ⟨_, rfl, (by rw [sCopy_o (by decide) (by decide) hTs hTsu hkk (by omega)]; exact ⟨rfl, hT, KU_rf z⟩)⟩
          · skip
            have hkk : k ≠ ku := fun q => c31 (hT_q hTs hTsu q)
            refine ww_blk xCC okX5_copy 29 1 (ps := []) (pc' := 63) (lv' := [(7, .ref 52), (6, .ref 48), (0, .ref 0), (1, .int (nI 0)), (2, .int y), (3, .int (nI 2)), (4, .int v), (5, .int w)]) (st' := [.int (-13)]) (z' := z) rfl trivial ?_
            subst xhQ
            exact ww_iret xCC okX5_copy 30 xhr rfl rfl ⟨_, rfl, (by rw [sCopy_k (by decide) (by decide) hTs hTsu hkk]; exact ⟨rfl, hT, KU_rf z⟩)⟩
    · skip
      rw [hr9]
      subst hu
      show ww xp l xe (xRm (d + 2)) xs xm xar xbl xme xc 8 xD xcs xad shX xAA xQ 12 [(6, .ref 48), (0, .ref 0), (1, .int (nI 0)), (2, .int y), (3, .int (nI 3)), (4, .int v), (5, .int w)] [.ref 54] z
      refine ww_blk xCC okX5_copy 7 3 (ps := []) (pc' := 19) (lv' := [(7, .ref 54), (6, .ref 48), (0, .ref 0), (1, .int (nI 0)), (2, .int y), (3, .int (nI 3)), (4, .int v), (5, .int w)]) (st' := []) (z' := z) rfl trivial ?_
      refine ww_blk xCC okX5_copy 10 2 (ps := []) (pc' := 27) (lv' := [(7, .ref 54), (6, .ref 48), (0, .ref 0), (1, .int (nI 0)), (2, .int y), (3, .int (nI 3)), (4, .int v), (5, .int w)]) (st' := []) (z' := z) rfl trivial ?_
      refine ww_blk xCC okX5_copy 14 3 (ps := []) (pc' := 33) (lv' := [(7, .ref 54), (6, .ref 48), (0, .ref 0), (1, .int (nI 0)), (2, .int y), (3, .int (nI 3)), (4, .int v), (5, .int w)]) (st' := [.int (-1), .int (z.1 48 0)]) (z' := z) rfl trivial ?_
      rw [show z.1 48 0 = cI (T 0).1 from (hT 0 (by decide)).2.1]
      refine ww_br xCC okX5_copy 17 (P := (cI (T 0).1) = (-1)) (t1 := 45) (t2 := 36) (r := []) rfl (fun c40 => ?_) (fun c40 => ?_)
      · skip
        have h0 := cI_m (by have q0 := (hT 0 (by decide)).1; have q1 := (hT 1 (by decide)).1; have q2 := (hT 2 (by decide)).1; have q3 := (hT 3 (by decide)).1; omega) c40
        refine ww_blk xCC okX5_copy 22 1 (ps := []) (pc' := 47) (lv' := [(7, .ref 54), (6, .ref 48), (0, .ref 0), (1, .int (nI 0)), (2, .int y), (3, .int (nI 3)), (4, .int v), (5, .int w)]) (st' := [.int (-11)]) (z' := z) rfl trivial ?_
        subst xhQ
        exact ww_iret xCC okX5_copy 23 xhr rfl rfl ⟨_, rfl, (by rw [sCopy_m (by decide) (by decide) (Or.inl h0)]; exact ⟨rfl, hT, KU_rf z⟩)⟩
      · skip
        have h0 := cI_nm c40
        refine ww_blk xCC okX5_copy 18 3 (ps := []) (pc' := 42) (lv' := [(7, .ref 54), (6, .ref 48), (0, .ref 0), (1, .int (nI 0)), (2, .int y), (3, .int (nI 3)), (4, .int v), (5, .int w)]) (st' := [.int (-1), .int (z.1 54 0)]) (z' := z) rfl trivial ?_
        rw [show z.1 54 0 = cI (T 3).1 from (hT 3 (by decide)).2.1]
        refine ww_br xCC okX5_copy 21 (P := (cI (T 3).1) = (-1)) (t1 := 45) (t2 := 48) (r := []) rfl (fun c41 => ?_) (fun c41 => ?_)
        · skip
          have h0u := cI_m (by have q0 := (hT 0 (by decide)).1; have q1 := (hT 1 (by decide)).1; have q2 := (hT 2 (by decide)).1; have q3 := (hT 3 (by decide)).1; omega) c41
          refine ww_blk xCC okX5_copy 22 1 (ps := []) (pc' := 47) (lv' := [(7, .ref 54), (6, .ref 48), (0, .ref 0), (1, .int (nI 0)), (2, .int y), (3, .int (nI 3)), (4, .int v), (5, .int w)]) (st' := [.int (-11)]) (z' := z) rfl trivial ?_
          subst xhQ
          exact ww_iret xCC okX5_copy 23 xhr rfl rfl ⟨_, rfl, (by rw [sCopy_m (by decide) (by decide) (Or.inr h0u)]; exact ⟨rfl, hT, KU_rf z⟩)⟩
        · skip
          have h0u := cI_nm c41
          obtain ⟨n, k, it, hTs, hk2, hn40, hc0, hc1, hcI⟩ := SY_1 (hT 0 (by decide)) h0
          obtain ⟨nu, ku, itu, hTsu, hk2u, hn40u, hc0u, hc1u, hcIu⟩ := SY_1 (hT 3 (by decide)) h0u
          refine ww_blk xCC okX5_copy 24 4 (ps := []) (pc' := 58) (lv' := [(7, .ref 54), (6, .ref 48), (0, .ref 0), (1, .int (nI 0)), (2, .int y), (3, .int (nI 3)), (4, .int v), (5, .int w)]) (st' := [.int (z.1 54 0), .int (z.1 48 0)]) (z' := z) rfl trivial ?_
          rw [show z.1 54 0 = cI (T 3).1 from (hT 3 (by decide)).2.1]
          rw [show z.1 48 0 = cI (T 0).1 from (hT 0 (by decide)).2.1]
          refine ww_br xCC okX5_copy 28 (P := (cI (T 0).1) = (cI (T 3).1)) (t1 := 64) (t2 := 61) (r := []) rfl (fun c42 => ?_) (fun c42 => ?_)
          · skip
            have hkk : k = ku := hT_k hTs hTsu hk2 hk2u c42
            refine ww_blk xCC okX5_copy 31 3 (ps := []) (pc' := 69) (lv' := [(7, .ref 54), (6, .ref 48), (0, .ref 0), (1, .int (nI 0)), (2, .int y), (3, .int (nI 3)), (4, .int v), (5, .int w)]) (st' := [.int w, .int y, .ref 48]) (z' := z) rfl trivial ?_
            refine ww_callVEz xCC okX5_copy 34 (ix := 236) (t_X2_has l d y w n (xPull (esS 0) z) hn40 hc1) (by omega) (by decide) xyX2_has xiX2_has (Or.inr (List.mem_of_getElem? (i := 779) (by decide +kernel))) (by decide +kernel) (by decide) (fun q => by cases q) (q0 := 48) rfl rfl rfl rfl (rest := []) rfl (Nat.le_of_ble_eq_true rfl) rfl (fun z43 h44 => ?_) (fun z43 h44 => ?_)
            · skip
              rw [h44.2, xB_id]
              replace h44 := h44.1
              refine ww_br xCC okX5_copy 35 (P := 1 = 0) (t1 := 87) (t2 := 75) (r := []) rfl (fun q => absurd q (by decide)) (fun _ => ?_)
              refine ww_blk xCC okX5_copy 36 3 (ps := []) (pc' := 81) (lv' := [(7, .ref 54), (6, .ref 48), (0, .ref 0), (1, .int (nI 0)), (2, .int y), (3, .int (nI 3)), (4, .int v), (5, .int w)]) (st' := [.int w, .int v, .ref 54]) (z' := z) rfl trivial ?_
              refine ww_callVEz xCC okX5_copy 39 (ix := 236) (t_X2_has l d v w nu (xPull (esS 3) z) hn40u hc1u) (by omega) (by decide) xyX2_has xiX2_has (Or.inr (List.mem_of_getElem? (i := 779) (by decide +kernel))) (by decide +kernel) (by decide) (fun q => by cases q) (q0 := 54) rfl rfl rfl rfl (rest := []) rfl (Nat.le_of_ble_eq_true rfl) rfl (fun z46 h47 => ?_) (fun z46 h47 => ?_)
              · skip
                rw [h47.2, xB_id]
                replace h47 := h47.1
                refine ww_br xCC okX5_copy 40 (P := 1 = 0) (t1 := 87) (t2 := 90) (r := []) rfl (fun q => absurd q (by decide)) (fun _ => ?_)
                obtain ⟨m, hm, rfl⟩ := sNN (x := w) (n := 41) (by omega) (by omega)
                obtain ⟨i, hi, rfl⟩ := sNN (x := y) (n := 41) (by omega) (by omega)
                obtain ⟨j, hj, rfl⟩ := sNN (x := v) (n := 41) (by omega) (by omega)
                have qm := sTI (k := m) (by omega)
                have qi := sTI (k := i) (by omega)
                have qj := sTI (k := j) (by omega)
                have hp1 : (nI i).toNatClampNeg + (nI m).toNatClampNeg ≤ 40 := by rw [sCL (n := i) (by omega), sCL (n := m) (by omega)]; omega
                have hp2 : (nI j).toNatClampNeg + (nI m).toNatClampNeg ≤ 40 := by rw [sCL (n := j) (by omega), sCL (n := m) (by omega)]; omega
                refine ww_blk xCC okX5_copy 43 9 (ps := [¬ (nI i) < 0, ¬ (nI j) < 0, ¬ (nI m) < 0, (nI i).toNatClampNeg + (nI m).toNatClampNeg ≤ 40, (nI j).toNatClampNeg + (nI m).toNatClampNeg ≤ 40]) (pc' := 110) (lv' := [(7, .ref 54), (6, .ref 48), (0, .ref 0), (1, .int (nI 0)), (2, .int (nI i)), (3, .int (nI 3)), (4, .int (nI j)), (5, .int (nI m))]) (st' := [.int (nI m)]) (z' := (mCpy z 49 55 (nI i) (nI j) (nI m))) rfl ⟨(nI_n0 (by omega)), (nI_n0 (by omega)), (nI_n0 (by omega)), hp1, hp2⟩ ?_
                subst xhQ
                exact ww_iret xCC okX5_copy 52 xhr rfl rfl ⟨_, rfl, (by rw [sCopy_y (by decide) (by decide) hTs hTsu hkk ⟨hn40, hn40u⟩ (by omega) (by omega)]; exact ⟨rfl, SX_cpy (s := 0) (t := 3) (by decide) (by decide) hT hTs hTsu (by omega) (by omega) hn40 hn40u⟩)⟩
              · skip
                rw [h47.2, xB_id]
                replace h47 := h47.1
                refine ww_br xCC okX5_copy 40 (P := 0 = 0) (t1 := 87) (t2 := 90) (r := []) rfl (fun _ => ?_) (fun q => absurd (by decide) q)
                refine ww_blk xCC okX5_copy 41 1 (ps := []) (pc' := 89) (lv' := [(7, .ref 54), (6, .ref 48), (0, .ref 0), (1, .int (nI 0)), (2, .int y), (3, .int (nI 3)), (4, .int v), (5, .int w)]) (st' := [.int (-12)]) (z' := z) rfl trivial ?_
                subst xhQ
                exact ww_iret xCC okX5_copy 42 xhr rfl rfl ⟨_, rfl, (by rw [sCopy_o (by decide) (by decide) hTs hTsu hkk (by omega)]; exact ⟨rfl, hT, KU_rf z⟩)⟩
            · skip
              rw [h44.2, xB_id]
              replace h44 := h44.1
              refine ww_br xCC okX5_copy 35 (P := 0 = 0) (t1 := 87) (t2 := 75) (r := []) rfl (fun _ => ?_) (fun q => absurd (by decide) q)
              refine ww_blk xCC okX5_copy 41 1 (ps := []) (pc' := 89) (lv' := [(7, .ref 54), (6, .ref 48), (0, .ref 0), (1, .int (nI 0)), (2, .int y), (3, .int (nI 3)), (4, .int v), (5, .int w)]) (st' := [.int (-12)]) (z' := z) rfl trivial ?_
              subst xhQ
              exact ww_iret xCC okX5_copy 42 xhr rfl rfl ⟨_, rfl, (by rw [sCopy_o (by decide) (by decide) hTs hTsu hkk (by omega)]; exact ⟨rfl, hT, KU_rf z⟩)⟩
          · skip
            have hkk : k ≠ ku := fun q => c42 (hT_q hTs hTsu q)
            refine ww_blk xCC okX5_copy 29 1 (ps := []) (pc' := 63) (lv' := [(7, .ref 54), (6, .ref 48), (0, .ref 0), (1, .int (nI 0)), (2, .int y), (3, .int (nI 3)), (4, .int v), (5, .int w)]) (st' := [.int (-13)]) (z' := z) rfl trivial ?_
            subst xhQ
            exact ww_iret xCC okX5_copy 30 xhr rfl rfl ⟨_, rfl, (by rw [sCopy_k (by decide) (by decide) hTs hTsu hkk]; exact ⟨rfl, hT, KU_rf z⟩)⟩
  · skip
    rw [hr9]
    subst hx
    show ww xp l xe (xRm (d + 2)) xs xm xar xbl xme xc 8 xD xcs xad shX xAA xQ 5 [(0, .ref 0), (1, .int (nI 1)), (2, .int y), (3, .int u), (4, .int v), (5, .int w)] [.ref 50] z
    refine ww_blk xCC okX5_copy 3 3 (ps := []) (pc' := 9) (lv' := [(6, .ref 50), (0, .ref 0), (1, .int (nI 1)), (2, .int y), (3, .int u), (4, .int v), (5, .int w)]) (st' := [.int u, .ref 0]) (z' := z) rfl trivial ?_
    refine ww_callVI xCC okX5_copy 6 (ix := 192) (t_X5_sheetAt l d u z) (by omega) (by decide) xyX5_sheetAt xiX5_sheetAt (Or.inl (lw_gt_of (List.mem_of_getElem? (i := 692) (by decide +kernel)) rfl)) rfl rfl rfl (rest := []) rfl (Nat.le_of_ble_eq_true rfl) rfl (fun r9 z9 h9 => ?_)
    obtain ⟨hz9, hr9⟩ := h9
    rw [hz9]
    rcases hr9 with ⟨hu, hr9⟩ | ⟨hu, hr9⟩ | ⟨hu, hr9⟩ | ⟨hu, hr9⟩ | ⟨hu, hr9⟩
    · skip
      rw [hr9]
      show ww xp l xe (xRm (d + 2)) xs xm xar xbl xme xc 8 xD xcs xad shX xAA xQ 12 [(6, .ref 50), (0, .ref 0), (1, .int (nI 1)), (2, .int y), (3, .int u), (4, .int v), (5, .int w)] [.null] z
      refine ww_blk xCC okX5_copy 7 3 (ps := []) (pc' := 19) (lv' := [(7, .null), (6, .ref 50), (0, .ref 0), (1, .int (nI 1)), (2, .int y), (3, .int u), (4, .int v), (5, .int w)]) (st' := []) (z' := z) rfl trivial ?_
      refine ww_blk xCC okX5_copy 10 2 (ps := []) (pc' := 24) (lv' := [(7, .null), (6, .ref 50), (0, .ref 0), (1, .int (nI 1)), (2, .int y), (3, .int u), (4, .int v), (5, .int w)]) (st' := []) (z' := z) rfl trivial ?_
      refine ww_blk xCC okX5_copy 12 1 (ps := []) (pc' := 26) (lv' := [(7, .null), (6, .ref 50), (0, .ref 0), (1, .int (nI 1)), (2, .int y), (3, .int u), (4, .int v), (5, .int w)]) (st' := [.int (-2)]) (z' := z) rfl trivial ?_
      subst xhQ
      exact ww_iret xCC okX5_copy 13 xhr rfl rfl ⟨_, rfl, (by rw [sCopy_b (by omega)]; exact ⟨rfl, hT, KU_rf z⟩)⟩
    · skip
      rw [hr9]
      subst hu
      show ww xp l xe (xRm (d + 2)) xs xm xar xbl xme xc 8 xD xcs xad shX xAA xQ 12 [(6, .ref 50), (0, .ref 0), (1, .int (nI 1)), (2, .int y), (3, .int (nI 0)), (4, .int v), (5, .int w)] [.ref 48] z
      refine ww_blk xCC okX5_copy 7 3 (ps := []) (pc' := 19) (lv' := [(7, .ref 48), (6, .ref 50), (0, .ref 0), (1, .int (nI 1)), (2, .int y), (3, .int (nI 0)), (4, .int v), (5, .int w)]) (st' := []) (z' := z) rfl trivial ?_
      refine ww_blk xCC okX5_copy 10 2 (ps := []) (pc' := 27) (lv' := [(7, .ref 48), (6, .ref 50), (0, .ref 0), (1, .int (nI 1)), (2, .int y), (3, .int (nI 0)), (4, .int v), (5, .int w)]) (st' := []) (z' := z) rfl trivial ?_
      refine ww_blk xCC okX5_copy 14 3 (ps := []) (pc' := 33) (lv' := [(7, .ref 48), (6, .ref 50), (0, .ref 0), (1, .int (nI 1)), (2, .int y), (3, .int (nI 0)), (4, .int v), (5, .int w)]) (st' := [.int (-1), .int (z.1 50 0)]) (z' := z) rfl trivial ?_
      rw [show z.1 50 0 = cI (T 1).1 from (hT 1 (by decide)).2.1]
      refine ww_br xCC okX5_copy 17 (P := (cI (T 1).1) = (-1)) (t1 := 45) (t2 := 36) (r := []) rfl (fun c53 => ?_) (fun c53 => ?_)
      · skip
        have h0 := cI_m (by have q0 := (hT 0 (by decide)).1; have q1 := (hT 1 (by decide)).1; have q2 := (hT 2 (by decide)).1; have q3 := (hT 3 (by decide)).1; omega) c53
        refine ww_blk xCC okX5_copy 22 1 (ps := []) (pc' := 47) (lv' := [(7, .ref 48), (6, .ref 50), (0, .ref 0), (1, .int (nI 1)), (2, .int y), (3, .int (nI 0)), (4, .int v), (5, .int w)]) (st' := [.int (-11)]) (z' := z) rfl trivial ?_
        subst xhQ
        exact ww_iret xCC okX5_copy 23 xhr rfl rfl ⟨_, rfl, (by rw [sCopy_m (by decide) (by decide) (Or.inl h0)]; exact ⟨rfl, hT, KU_rf z⟩)⟩
      · skip
        have h0 := cI_nm c53
        refine ww_blk xCC okX5_copy 18 3 (ps := []) (pc' := 42) (lv' := [(7, .ref 48), (6, .ref 50), (0, .ref 0), (1, .int (nI 1)), (2, .int y), (3, .int (nI 0)), (4, .int v), (5, .int w)]) (st' := [.int (-1), .int (z.1 48 0)]) (z' := z) rfl trivial ?_
        rw [show z.1 48 0 = cI (T 0).1 from (hT 0 (by decide)).2.1]
        refine ww_br xCC okX5_copy 21 (P := (cI (T 0).1) = (-1)) (t1 := 45) (t2 := 48) (r := []) rfl (fun c54 => ?_) (fun c54 => ?_)
        · skip
          have h0u := cI_m (by have q0 := (hT 0 (by decide)).1; have q1 := (hT 1 (by decide)).1; have q2 := (hT 2 (by decide)).1; have q3 := (hT 3 (by decide)).1; omega) c54
          refine ww_blk xCC okX5_copy 22 1 (ps := []) (pc' := 47) (lv' := [(7, .ref 48), (6, .ref 50), (0, .ref 0), (1, .int (nI 1)), (2, .int y), (3, .int (nI 0)), (4, .int v), (5, .int w)]) (st' := [.int (-11)]) (z' := z) rfl trivial ?_
          subst xhQ
          exact ww_iret xCC okX5_copy 23 xhr rfl rfl ⟨_, rfl, (by rw [sCopy_m (by decide) (by decide) (Or.inr h0u)]; exact ⟨rfl, hT, KU_rf z⟩)⟩
        · skip
          have h0u := cI_nm c54
          obtain ⟨n, k, it, hTs, hk2, hn40, hc0, hc1, hcI⟩ := SY_1 (hT 1 (by decide)) h0
          obtain ⟨nu, ku, itu, hTsu, hk2u, hn40u, hc0u, hc1u, hcIu⟩ := SY_1 (hT 0 (by decide)) h0u
          refine ww_blk xCC okX5_copy 24 4 (ps := []) (pc' := 58) (lv' := [(7, .ref 48), (6, .ref 50), (0, .ref 0), (1, .int (nI 1)), (2, .int y), (3, .int (nI 0)), (4, .int v), (5, .int w)]) (st' := [.int (z.1 48 0), .int (z.1 50 0)]) (z' := z) rfl trivial ?_
          rw [show z.1 48 0 = cI (T 0).1 from (hT 0 (by decide)).2.1]
          rw [show z.1 50 0 = cI (T 1).1 from (hT 1 (by decide)).2.1]
          refine ww_br xCC okX5_copy 28 (P := (cI (T 1).1) = (cI (T 0).1)) (t1 := 64) (t2 := 61) (r := []) rfl (fun c55 => ?_) (fun c55 => ?_)
          · skip
            have hkk : k = ku := hT_k hTs hTsu hk2 hk2u c55
            refine ww_blk xCC okX5_copy 31 3 (ps := []) (pc' := 69) (lv' := [(7, .ref 48), (6, .ref 50), (0, .ref 0), (1, .int (nI 1)), (2, .int y), (3, .int (nI 0)), (4, .int v), (5, .int w)]) (st' := [.int w, .int y, .ref 50]) (z' := z) rfl trivial ?_
            refine ww_callVEz xCC okX5_copy 34 (ix := 236) (t_X2_has l d y w n (xPull (esS 1) z) hn40 hc1) (by omega) (by decide) xyX2_has xiX2_has (Or.inr (List.mem_of_getElem? (i := 779) (by decide +kernel))) (by decide +kernel) (by decide) (fun q => by cases q) (q0 := 50) rfl rfl rfl rfl (rest := []) rfl (Nat.le_of_ble_eq_true rfl) rfl (fun z56 h57 => ?_) (fun z56 h57 => ?_)
            · skip
              rw [h57.2, xB_id]
              replace h57 := h57.1
              refine ww_br xCC okX5_copy 35 (P := 1 = 0) (t1 := 87) (t2 := 75) (r := []) rfl (fun q => absurd q (by decide)) (fun _ => ?_)
              refine ww_blk xCC okX5_copy 36 3 (ps := []) (pc' := 81) (lv' := [(7, .ref 48), (6, .ref 50), (0, .ref 0), (1, .int (nI 1)), (2, .int y), (3, .int (nI 0)), (4, .int v), (5, .int w)]) (st' := [.int w, .int v, .ref 48]) (z' := z) rfl trivial ?_
              refine ww_callVEz xCC okX5_copy 39 (ix := 236) (t_X2_has l d v w nu (xPull (esS 0) z) hn40u hc1u) (by omega) (by decide) xyX2_has xiX2_has (Or.inr (List.mem_of_getElem? (i := 779) (by decide +kernel))) (by decide +kernel) (by decide) (fun q => by cases q) (q0 := 48) rfl rfl rfl rfl (rest := []) rfl (Nat.le_of_ble_eq_true rfl) rfl (fun z59 h60 => ?_) (fun z59 h60 => ?_)
              · skip
                rw [h60.2, xB_id]
                replace h60 := h60.1
                refine ww_br xCC okX5_copy 40 (P := 1 = 0) (t1 := 87) (t2 := 90) (r := []) rfl (fun q => absurd q (by decide)) (fun _ => ?_)
                obtain ⟨m, hm, rfl⟩ := sNN (x := w) (n := 41) (by omega) (by omega)
                obtain ⟨i, hi, rfl⟩ := sNN (x := y) (n := 41) (by omega) (by omega)
                obtain ⟨j, hj, rfl⟩ := sNN (x := v) (n := 41) (by omega) (by omega)
                have qm := sTI (k := m) (by omega)
                have qi := sTI (k := i) (by omega)
                have qj := sTI (k := j) (by omega)
                have hp1 : (nI i).toNatClampNeg + (nI m).toNatClampNeg ≤ 40 := by rw [sCL (n := i) (by omega), sCL (n := m) (by omega)]; omega
                have hp2 : (nI j).toNatClampNeg + (nI m).toNatClampNeg ≤ 40 := by rw [sCL (n := j) (by omega), sCL (n := m) (by omega)]; omega
                refine ww_blk xCC okX5_copy 43 9 (ps := [¬ (nI i) < 0, ¬ (nI j) < 0, ¬ (nI m) < 0, (nI i).toNatClampNeg + (nI m).toNatClampNeg ≤ 40, (nI j).toNatClampNeg + (nI m).toNatClampNeg ≤ 40]) (pc' := 110) (lv' := [(7, .ref 48), (6, .ref 50), (0, .ref 0), (1, .int (nI 1)), (2, .int (nI i)), (3, .int (nI 0)), (4, .int (nI j)), (5, .int (nI m))]) (st' := [.int (nI m)]) (z' := (mCpy z 51 49 (nI i) (nI j) (nI m))) rfl ⟨(nI_n0 (by omega)), (nI_n0 (by omega)), (nI_n0 (by omega)), hp1, hp2⟩ ?_
                subst xhQ
                exact ww_iret xCC okX5_copy 52 xhr rfl rfl ⟨_, rfl, (by rw [sCopy_y (by decide) (by decide) hTs hTsu hkk ⟨hn40, hn40u⟩ (by omega) (by omega)]; exact ⟨rfl, SX_cpy (s := 1) (t := 0) (by decide) (by decide) hT hTs hTsu (by omega) (by omega) hn40 hn40u⟩)⟩
              · skip
                rw [h60.2, xB_id]
                replace h60 := h60.1
                refine ww_br xCC okX5_copy 40 (P := 0 = 0) (t1 := 87) (t2 := 90) (r := []) rfl (fun _ => ?_) (fun q => absurd (by decide) q)
                refine ww_blk xCC okX5_copy 41 1 (ps := []) (pc' := 89) (lv' := [(7, .ref 48), (6, .ref 50), (0, .ref 0), (1, .int (nI 1)), (2, .int y), (3, .int (nI 0)), (4, .int v), (5, .int w)]) (st' := [.int (-12)]) (z' := z) rfl trivial ?_
                subst xhQ
                exact ww_iret xCC okX5_copy 42 xhr rfl rfl ⟨_, rfl, (by rw [sCopy_o (by decide) (by decide) hTs hTsu hkk (by omega)]; exact ⟨rfl, hT, KU_rf z⟩)⟩
            · skip
              rw [h57.2, xB_id]
              replace h57 := h57.1
              refine ww_br xCC okX5_copy 35 (P := 0 = 0) (t1 := 87) (t2 := 75) (r := []) rfl (fun _ => ?_) (fun q => absurd (by decide) q)
              refine ww_blk xCC okX5_copy 41 1 (ps := []) (pc' := 89) (lv' := [(7, .ref 48), (6, .ref 50), (0, .ref 0), (1, .int (nI 1)), (2, .int y), (3, .int (nI 0)), (4, .int v), (5, .int w)]) (st' := [.int (-12)]) (z' := z) rfl trivial ?_
              subst xhQ
              exact ww_iret xCC okX5_copy 42 xhr rfl rfl ⟨_, rfl, (by rw [sCopy_o (by decide) (by decide) hTs hTsu hkk (by omega)]; exact ⟨rfl, hT, KU_rf z⟩)⟩
          · skip
            have hkk : k ≠ ku := fun q => c55 (hT_q hTs hTsu q)
            refine ww_blk xCC okX5_copy 29 1 (ps := []) (pc' := 63) (lv' := [(7, .ref 48), (6, .ref 50), (0, .ref 0), (1, .int (nI 1)), (2, .int y), (3, .int (nI 0)), (4, .int v), (5, .int w)]) (st' := [.int (-13)]) (z' := z) rfl trivial ?_
            subst xhQ
            exact ww_iret xCC okX5_copy 30 xhr rfl rfl ⟨_, rfl, (by rw [sCopy_k (by decide) (by decide) hTs hTsu hkk]; exact ⟨rfl, hT, KU_rf z⟩)⟩
    · skip
      rw [hr9]
      subst hu
      show ww xp l xe (xRm (d + 2)) xs xm xar xbl xme xc 8 xD xcs xad shX xAA xQ 12 [(6, .ref 50), (0, .ref 0), (1, .int (nI 1)), (2, .int y), (3, .int (nI 1)), (4, .int v), (5, .int w)] [.ref 50] z
      refine ww_blk xCC okX5_copy 7 3 (ps := []) (pc' := 19) (lv' := [(7, .ref 50), (6, .ref 50), (0, .ref 0), (1, .int (nI 1)), (2, .int y), (3, .int (nI 1)), (4, .int v), (5, .int w)]) (st' := []) (z' := z) rfl trivial ?_
      refine ww_blk xCC okX5_copy 10 2 (ps := []) (pc' := 27) (lv' := [(7, .ref 50), (6, .ref 50), (0, .ref 0), (1, .int (nI 1)), (2, .int y), (3, .int (nI 1)), (4, .int v), (5, .int w)]) (st' := []) (z' := z) rfl trivial ?_
      refine ww_blk xCC okX5_copy 14 3 (ps := []) (pc' := 33) (lv' := [(7, .ref 50), (6, .ref 50), (0, .ref 0), (1, .int (nI 1)), (2, .int y), (3, .int (nI 1)), (4, .int v), (5, .int w)]) (st' := [.int (-1), .int (z.1 50 0)]) (z' := z) rfl trivial ?_
      rw [show z.1 50 0 = cI (T 1).1 from (hT 1 (by decide)).2.1]
      refine ww_br xCC okX5_copy 17 (P := (cI (T 1).1) = (-1)) (t1 := 45) (t2 := 36) (r := []) rfl (fun c64 => ?_) (fun c64 => ?_)
      · skip
        have h0 := cI_m (by have q0 := (hT 0 (by decide)).1; have q1 := (hT 1 (by decide)).1; have q2 := (hT 2 (by decide)).1; have q3 := (hT 3 (by decide)).1; omega) c64
        refine ww_blk xCC okX5_copy 22 1 (ps := []) (pc' := 47) (lv' := [(7, .ref 50), (6, .ref 50), (0, .ref 0), (1, .int (nI 1)), (2, .int y), (3, .int (nI 1)), (4, .int v), (5, .int w)]) (st' := [.int (-11)]) (z' := z) rfl trivial ?_
        subst xhQ
        exact ww_iret xCC okX5_copy 23 xhr rfl rfl ⟨_, rfl, (by rw [sCopy_m (by decide) (by decide) (Or.inl h0)]; exact ⟨rfl, hT, KU_rf z⟩)⟩
      · skip
        have h0 := cI_nm c64
        refine ww_blk xCC okX5_copy 18 3 (ps := []) (pc' := 42) (lv' := [(7, .ref 50), (6, .ref 50), (0, .ref 0), (1, .int (nI 1)), (2, .int y), (3, .int (nI 1)), (4, .int v), (5, .int w)]) (st' := [.int (-1), .int (z.1 50 0)]) (z' := z) rfl trivial ?_
        rw [show z.1 50 0 = cI (T 1).1 from (hT 1 (by decide)).2.1]
        refine ww_br xCC okX5_copy 21 (P := (cI (T 1).1) = (-1)) (t1 := 45) (t2 := 48) (r := []) rfl (fun c65 => ?_) (fun c65 => ?_)
        · skip
          have h0u := cI_m (by have q0 := (hT 0 (by decide)).1; have q1 := (hT 1 (by decide)).1; have q2 := (hT 2 (by decide)).1; have q3 := (hT 3 (by decide)).1; omega) c65
          refine ww_blk xCC okX5_copy 22 1 (ps := []) (pc' := 47) (lv' := [(7, .ref 50), (6, .ref 50), (0, .ref 0), (1, .int (nI 1)), (2, .int y), (3, .int (nI 1)), (4, .int v), (5, .int w)]) (st' := [.int (-11)]) (z' := z) rfl trivial ?_
          subst xhQ
          exact ww_iret xCC okX5_copy 23 xhr rfl rfl ⟨_, rfl, (by rw [sCopy_m (by decide) (by decide) (Or.inr h0u)]; exact ⟨rfl, hT, KU_rf z⟩)⟩
        · skip
          have h0u := cI_nm c65
          obtain ⟨n, k, it, hTs, hk2, hn40, hc0, hc1, hcI⟩ := SY_1 (hT 1 (by decide)) h0
          obtain ⟨nu, ku, itu, hTsu, hk2u, hn40u, hc0u, hc1u, hcIu⟩ := SY_1 (hT 1 (by decide)) h0u
          refine ww_blk xCC okX5_copy 24 4 (ps := []) (pc' := 58) (lv' := [(7, .ref 50), (6, .ref 50), (0, .ref 0), (1, .int (nI 1)), (2, .int y), (3, .int (nI 1)), (4, .int v), (5, .int w)]) (st' := [.int (z.1 50 0), .int (z.1 50 0)]) (z' := z) rfl trivial ?_
          rw [show z.1 50 0 = cI (T 1).1 from (hT 1 (by decide)).2.1]
          refine ww_br xCC okX5_copy 28 (P := (cI (T 1).1) = (cI (T 1).1)) (t1 := 64) (t2 := 61) (r := []) rfl (fun c66 => ?_) (fun c66 => ?_)
          · skip
            have hkk : k = ku := hT_k hTs hTsu hk2 hk2u c66
            refine ww_blk xCC okX5_copy 31 3 (ps := []) (pc' := 69) (lv' := [(7, .ref 50), (6, .ref 50), (0, .ref 0), (1, .int (nI 1)), (2, .int y), (3, .int (nI 1)), (4, .int v), (5, .int w)]) (st' := [.int w, .int y, .ref 50]) (z' := z) rfl trivial ?_
            refine ww_callVEz xCC okX5_copy 34 (ix := 236) (t_X2_has l d y w n (xPull (esS 1) z) hn40 hc1) (by omega) (by decide) xyX2_has xiX2_has (Or.inr (List.mem_of_getElem? (i := 779) (by decide +kernel))) (by decide +kernel) (by decide) (fun q => by cases q) (q0 := 50) rfl rfl rfl rfl (rest := []) rfl (Nat.le_of_ble_eq_true rfl) rfl (fun z67 h68 => ?_) (fun z67 h68 => ?_)
            · skip
              rw [h68.2, xB_id]
              replace h68 := h68.1
              refine ww_br xCC okX5_copy 35 (P := 1 = 0) (t1 := 87) (t2 := 75) (r := []) rfl (fun q => absurd q (by decide)) (fun _ => ?_)
              refine ww_blk xCC okX5_copy 36 3 (ps := []) (pc' := 81) (lv' := [(7, .ref 50), (6, .ref 50), (0, .ref 0), (1, .int (nI 1)), (2, .int y), (3, .int (nI 1)), (4, .int v), (5, .int w)]) (st' := [.int w, .int v, .ref 50]) (z' := z) rfl trivial ?_
              refine ww_callVEz xCC okX5_copy 39 (ix := 236) (t_X2_has l d v w nu (xPull (esS 1) z) hn40u hc1u) (by omega) (by decide) xyX2_has xiX2_has (Or.inr (List.mem_of_getElem? (i := 779) (by decide +kernel))) (by decide +kernel) (by decide) (fun q => by cases q) (q0 := 50) rfl rfl rfl rfl (rest := []) rfl (Nat.le_of_ble_eq_true rfl) rfl (fun z70 h71 => ?_) (fun z70 h71 => ?_)
              · skip
                rw [h71.2, xB_id]
                replace h71 := h71.1
                refine ww_br xCC okX5_copy 40 (P := 1 = 0) (t1 := 87) (t2 := 90) (r := []) rfl (fun q => absurd q (by decide)) (fun _ => ?_)
                obtain ⟨m, hm, rfl⟩ := sNN (x := w) (n := 41) (by omega) (by omega)
                obtain ⟨i, hi, rfl⟩ := sNN (x := y) (n := 41) (by omega) (by omega)
                obtain ⟨j, hj, rfl⟩ := sNN (x := v) (n := 41) (by omega) (by omega)
                have qm := sTI (k := m) (by omega)
                have qi := sTI (k := i) (by omega)
                have qj := sTI (k := j) (by omega)
                have hp1 : (nI i).toNatClampNeg + (nI m).toNatClampNeg ≤ 40 := by rw [sCL (n := i) (by omega), sCL (n := m) (by omega)]; omega
                have hp2 : (nI j).toNatClampNeg + (nI m).toNatClampNeg ≤ 40 := by rw [sCL (n := j) (by omega), sCL (n := m) (by omega)]; omega
                refine ww_blk xCC okX5_copy 43 9 (ps := [¬ (nI i) < 0, ¬ (nI j) < 0, ¬ (nI m) < 0, (nI i).toNatClampNeg + (nI m).toNatClampNeg ≤ 40, (nI j).toNatClampNeg + (nI m).toNatClampNeg ≤ 40]) (pc' := 110) (lv' := [(7, .ref 50), (6, .ref 50), (0, .ref 0), (1, .int (nI 1)), (2, .int (nI i)), (3, .int (nI 1)), (4, .int (nI j)), (5, .int (nI m))]) (st' := [.int (nI m)]) (z' := (mCpy z 51 51 (nI i) (nI j) (nI m))) rfl ⟨(nI_n0 (by omega)), (nI_n0 (by omega)), (nI_n0 (by omega)), hp1, hp2⟩ ?_
                subst xhQ
                exact ww_iret xCC okX5_copy 52 xhr rfl rfl ⟨_, rfl, (by rw [sCopy_y (by decide) (by decide) hTs hTsu hkk ⟨hn40, hn40u⟩ (by omega) (by omega)]; exact ⟨rfl, SX_cpy (s := 1) (t := 1) (by decide) (by decide) hT hTs hTsu (by omega) (by omega) hn40 hn40u⟩)⟩
              · skip
                rw [h71.2, xB_id]
                replace h71 := h71.1
                refine ww_br xCC okX5_copy 40 (P := 0 = 0) (t1 := 87) (t2 := 90) (r := []) rfl (fun _ => ?_) (fun q => absurd (by decide) q)
                refine ww_blk xCC okX5_copy 41 1 (ps := []) (pc' := 89) (lv' := [(7, .ref 50), (6, .ref 50), (0, .ref 0), (1, .int (nI 1)), (2, .int y), (3, .int (nI 1)), (4, .int v), (5, .int w)]) (st' := [.int (-12)]) (z' := z) rfl trivial ?_
                subst xhQ
                exact ww_iret xCC okX5_copy 42 xhr rfl rfl ⟨_, rfl, (by rw [sCopy_o (by decide) (by decide) hTs hTsu hkk (by omega)]; exact ⟨rfl, hT, KU_rf z⟩)⟩
            · skip
              rw [h68.2, xB_id]
              replace h68 := h68.1
              refine ww_br xCC okX5_copy 35 (P := 0 = 0) (t1 := 87) (t2 := 75) (r := []) rfl (fun _ => ?_) (fun q => absurd (by decide) q)
              refine ww_blk xCC okX5_copy 41 1 (ps := []) (pc' := 89) (lv' := [(7, .ref 50), (6, .ref 50), (0, .ref 0), (1, .int (nI 1)), (2, .int y), (3, .int (nI 1)), (4, .int v), (5, .int w)]) (st' := [.int (-12)]) (z' := z) rfl trivial ?_
              subst xhQ
              exact ww_iret xCC okX5_copy 42 xhr rfl rfl ⟨_, rfl, (by rw [sCopy_o (by decide) (by decide) hTs hTsu hkk (by omega)]; exact ⟨rfl, hT, KU_rf z⟩)⟩
          · skip
            have hkk : k ≠ ku := fun q => c66 (hT_q hTs hTsu q)
            refine ww_blk xCC okX5_copy 29 1 (ps := []) (pc' := 63) (lv' := [(7, .ref 50), (6, .ref 50), (0, .ref 0), (1, .int (nI 1)), (2, .int y), (3, .int (nI 1)), (4, .int v), (5, .int w)]) (st' := [.int (-13)]) (z' := z) rfl trivial ?_
            subst xhQ
            exact ww_iret xCC okX5_copy 30 xhr rfl rfl ⟨_, rfl, (by rw [sCopy_k (by decide) (by decide) hTs hTsu hkk]; exact ⟨rfl, hT, KU_rf z⟩)⟩
    · skip
      rw [hr9]
      subst hu
      show ww xp l xe (xRm (d + 2)) xs xm xar xbl xme xc 8 xD xcs xad shX xAA xQ 12 [(6, .ref 50), (0, .ref 0), (1, .int (nI 1)), (2, .int y), (3, .int (nI 2)), (4, .int v), (5, .int w)] [.ref 52] z
      refine ww_blk xCC okX5_copy 7 3 (ps := []) (pc' := 19) (lv' := [(7, .ref 52), (6, .ref 50), (0, .ref 0), (1, .int (nI 1)), (2, .int y), (3, .int (nI 2)), (4, .int v), (5, .int w)]) (st' := []) (z' := z) rfl trivial ?_
      refine ww_blk xCC okX5_copy 10 2 (ps := []) (pc' := 27) (lv' := [(7, .ref 52), (6, .ref 50), (0, .ref 0), (1, .int (nI 1)), (2, .int y), (3, .int (nI 2)), (4, .int v), (5, .int w)]) (st' := []) (z' := z) rfl trivial ?_
      refine ww_blk xCC okX5_copy 14 3 (ps := []) (pc' := 33) (lv' := [(7, .ref 52), (6, .ref 50), (0, .ref 0), (1, .int (nI 1)), (2, .int y), (3, .int (nI 2)), (4, .int v), (5, .int w)]) (st' := [.int (-1), .int (z.1 50 0)]) (z' := z) rfl trivial ?_
      rw [show z.1 50 0 = cI (T 1).1 from (hT 1 (by decide)).2.1]
      refine ww_br xCC okX5_copy 17 (P := (cI (T 1).1) = (-1)) (t1 := 45) (t2 := 36) (r := []) rfl (fun c75 => ?_) (fun c75 => ?_)
      · skip
        have h0 := cI_m (by have q0 := (hT 0 (by decide)).1; have q1 := (hT 1 (by decide)).1; have q2 := (hT 2 (by decide)).1; have q3 := (hT 3 (by decide)).1; omega) c75
        refine ww_blk xCC okX5_copy 22 1 (ps := []) (pc' := 47) (lv' := [(7, .ref 52), (6, .ref 50), (0, .ref 0), (1, .int (nI 1)), (2, .int y), (3, .int (nI 2)), (4, .int v), (5, .int w)]) (st' := [.int (-11)]) (z' := z) rfl trivial ?_
        subst xhQ
        exact ww_iret xCC okX5_copy 23 xhr rfl rfl ⟨_, rfl, (by rw [sCopy_m (by decide) (by decide) (Or.inl h0)]; exact ⟨rfl, hT, KU_rf z⟩)⟩
      · skip
        have h0 := cI_nm c75
        refine ww_blk xCC okX5_copy 18 3 (ps := []) (pc' := 42) (lv' := [(7, .ref 52), (6, .ref 50), (0, .ref 0), (1, .int (nI 1)), (2, .int y), (3, .int (nI 2)), (4, .int v), (5, .int w)]) (st' := [.int (-1), .int (z.1 52 0)]) (z' := z) rfl trivial ?_
        rw [show z.1 52 0 = cI (T 2).1 from (hT 2 (by decide)).2.1]
        refine ww_br xCC okX5_copy 21 (P := (cI (T 2).1) = (-1)) (t1 := 45) (t2 := 48) (r := []) rfl (fun c76 => ?_) (fun c76 => ?_)
        · skip
          have h0u := cI_m (by have q0 := (hT 0 (by decide)).1; have q1 := (hT 1 (by decide)).1; have q2 := (hT 2 (by decide)).1; have q3 := (hT 3 (by decide)).1; omega) c76
          refine ww_blk xCC okX5_copy 22 1 (ps := []) (pc' := 47) (lv' := [(7, .ref 52), (6, .ref 50), (0, .ref 0), (1, .int (nI 1)), (2, .int y), (3, .int (nI 2)), (4, .int v), (5, .int w)]) (st' := [.int (-11)]) (z' := z) rfl trivial ?_
          subst xhQ
          exact ww_iret xCC okX5_copy 23 xhr rfl rfl ⟨_, rfl, (by rw [sCopy_m (by decide) (by decide) (Or.inr h0u)]; exact ⟨rfl, hT, KU_rf z⟩)⟩
        · skip
          have h0u := cI_nm c76
          obtain ⟨n, k, it, hTs, hk2, hn40, hc0, hc1, hcI⟩ := SY_1 (hT 1 (by decide)) h0
          obtain ⟨nu, ku, itu, hTsu, hk2u, hn40u, hc0u, hc1u, hcIu⟩ := SY_1 (hT 2 (by decide)) h0u
          refine ww_blk xCC okX5_copy 24 4 (ps := []) (pc' := 58) (lv' := [(7, .ref 52), (6, .ref 50), (0, .ref 0), (1, .int (nI 1)), (2, .int y), (3, .int (nI 2)), (4, .int v), (5, .int w)]) (st' := [.int (z.1 52 0), .int (z.1 50 0)]) (z' := z) rfl trivial ?_
          rw [show z.1 52 0 = cI (T 2).1 from (hT 2 (by decide)).2.1]
          rw [show z.1 50 0 = cI (T 1).1 from (hT 1 (by decide)).2.1]
          refine ww_br xCC okX5_copy 28 (P := (cI (T 1).1) = (cI (T 2).1)) (t1 := 64) (t2 := 61) (r := []) rfl (fun c77 => ?_) (fun c77 => ?_)
          · skip
            have hkk : k = ku := hT_k hTs hTsu hk2 hk2u c77
            refine ww_blk xCC okX5_copy 31 3 (ps := []) (pc' := 69) (lv' := [(7, .ref 52), (6, .ref 50), (0, .ref 0), (1, .int (nI 1)), (2, .int y), (3, .int (nI 2)), (4, .int v), (5, .int w)]) (st' := [.int w, .int y, .ref 50]) (z' := z) rfl trivial ?_
            refine ww_callVEz xCC okX5_copy 34 (ix := 236) (t_X2_has l d y w n (xPull (esS 1) z) hn40 hc1) (by omega) (by decide) xyX2_has xiX2_has (Or.inr (List.mem_of_getElem? (i := 779) (by decide +kernel))) (by decide +kernel) (by decide) (fun q => by cases q) (q0 := 50) rfl rfl rfl rfl (rest := []) rfl (Nat.le_of_ble_eq_true rfl) rfl (fun z78 h79 => ?_) (fun z78 h79 => ?_)
            · skip
              rw [h79.2, xB_id]
              replace h79 := h79.1
              refine ww_br xCC okX5_copy 35 (P := 1 = 0) (t1 := 87) (t2 := 75) (r := []) rfl (fun q => absurd q (by decide)) (fun _ => ?_)
              refine ww_blk xCC okX5_copy 36 3 (ps := []) (pc' := 81) (lv' := [(7, .ref 52), (6, .ref 50), (0, .ref 0), (1, .int (nI 1)), (2, .int y), (3, .int (nI 2)), (4, .int v), (5, .int w)]) (st' := [.int w, .int v, .ref 52]) (z' := z) rfl trivial ?_
              refine ww_callVEz xCC okX5_copy 39 (ix := 236) (t_X2_has l d v w nu (xPull (esS 2) z) hn40u hc1u) (by omega) (by decide) xyX2_has xiX2_has (Or.inr (List.mem_of_getElem? (i := 779) (by decide +kernel))) (by decide +kernel) (by decide) (fun q => by cases q) (q0 := 52) rfl rfl rfl rfl (rest := []) rfl (Nat.le_of_ble_eq_true rfl) rfl (fun z81 h82 => ?_) (fun z81 h82 => ?_)
              · skip
                rw [h82.2, xB_id]
                replace h82 := h82.1
                refine ww_br xCC okX5_copy 40 (P := 1 = 0) (t1 := 87) (t2 := 90) (r := []) rfl (fun q => absurd q (by decide)) (fun _ => ?_)
                obtain ⟨m, hm, rfl⟩ := sNN (x := w) (n := 41) (by omega) (by omega)
                obtain ⟨i, hi, rfl⟩ := sNN (x := y) (n := 41) (by omega) (by omega)
                obtain ⟨j, hj, rfl⟩ := sNN (x := v) (n := 41) (by omega) (by omega)
                have qm := sTI (k := m) (by omega)
                have qi := sTI (k := i) (by omega)
                have qj := sTI (k := j) (by omega)
                have hp1 : (nI i).toNatClampNeg + (nI m).toNatClampNeg ≤ 40 := by rw [sCL (n := i) (by omega), sCL (n := m) (by omega)]; omega
                have hp2 : (nI j).toNatClampNeg + (nI m).toNatClampNeg ≤ 40 := by rw [sCL (n := j) (by omega), sCL (n := m) (by omega)]; omega
                refine ww_blk xCC okX5_copy 43 9 (ps := [¬ (nI i) < 0, ¬ (nI j) < 0, ¬ (nI m) < 0, (nI i).toNatClampNeg + (nI m).toNatClampNeg ≤ 40, (nI j).toNatClampNeg + (nI m).toNatClampNeg ≤ 40]) (pc' := 110) (lv' := [(7, .ref 52), (6, .ref 50), (0, .ref 0), (1, .int (nI 1)), (2, .int (nI i)), (3, .int (nI 2)), (4, .int (nI j)), (5, .int (nI m))]) (st' := [.int (nI m)]) (z' := (mCpy z 51 53 (nI i) (nI j) (nI m))) rfl ⟨(nI_n0 (by omega)), (nI_n0 (by omega)), (nI_n0 (by omega)), hp1, hp2⟩ ?_
                subst xhQ
                exact ww_iret xCC okX5_copy 52 xhr rfl rfl ⟨_, rfl, (by rw [sCopy_y (by decide) (by decide) hTs hTsu hkk ⟨hn40, hn40u⟩ (by omega) (by omega)]; exact ⟨rfl, SX_cpy (s := 1) (t := 2) (by decide) (by decide) hT hTs hTsu (by omega) (by omega) hn40 hn40u⟩)⟩
              · skip
                rw [h82.2, xB_id]
                replace h82 := h82.1
                refine ww_br xCC okX5_copy 40 (P := 0 = 0) (t1 := 87) (t2 := 90) (r := []) rfl (fun _ => ?_) (fun q => absurd (by decide) q)
                refine ww_blk xCC okX5_copy 41 1 (ps := []) (pc' := 89) (lv' := [(7, .ref 52), (6, .ref 50), (0, .ref 0), (1, .int (nI 1)), (2, .int y), (3, .int (nI 2)), (4, .int v), (5, .int w)]) (st' := [.int (-12)]) (z' := z) rfl trivial ?_
                subst xhQ
                exact ww_iret xCC okX5_copy 42 xhr rfl rfl ⟨_, rfl, (by rw [sCopy_o (by decide) (by decide) hTs hTsu hkk (by omega)]; exact ⟨rfl, hT, KU_rf z⟩)⟩
            · skip
              rw [h79.2, xB_id]
              replace h79 := h79.1
              refine ww_br xCC okX5_copy 35 (P := 0 = 0) (t1 := 87) (t2 := 75) (r := []) rfl (fun _ => ?_) (fun q => absurd (by decide) q)
              refine ww_blk xCC okX5_copy 41 1 (ps := []) (pc' := 89) (lv' := [(7, .ref 52), (6, .ref 50), (0, .ref 0), (1, .int (nI 1)), (2, .int y), (3, .int (nI 2)), (4, .int v), (5, .int w)]) (st' := [.int (-12)]) (z' := z) rfl trivial ?_
              subst xhQ
              exact ww_iret xCC okX5_copy 42 xhr rfl rfl ⟨_, rfl, (by rw [sCopy_o (by decide) (by decide) hTs hTsu hkk (by omega)]; exact ⟨rfl, hT, KU_rf z⟩)⟩
          · skip
            have hkk : k ≠ ku := fun q => c77 (hT_q hTs hTsu q)
            refine ww_blk xCC okX5_copy 29 1 (ps := []) (pc' := 63) (lv' := [(7, .ref 52), (6, .ref 50), (0, .ref 0), (1, .int (nI 1)), (2, .int y), (3, .int (nI 2)), (4, .int v), (5, .int w)]) (st' := [.int (-13)]) (z' := z) rfl trivial ?_
            subst xhQ
            exact ww_iret xCC okX5_copy 30 xhr rfl rfl ⟨_, rfl, (by rw [sCopy_k (by decide) (by decide) hTs hTsu hkk]; exact ⟨rfl, hT, KU_rf z⟩)⟩
    · skip
      rw [hr9]
      subst hu
      show ww xp l xe (xRm (d + 2)) xs xm xar xbl xme xc 8 xD xcs xad shX xAA xQ 12 [(6, .ref 50), (0, .ref 0), (1, .int (nI 1)), (2, .int y), (3, .int (nI 3)), (4, .int v), (5, .int w)] [.ref 54] z
      refine ww_blk xCC okX5_copy 7 3 (ps := []) (pc' := 19) (lv' := [(7, .ref 54), (6, .ref 50), (0, .ref 0), (1, .int (nI 1)), (2, .int y), (3, .int (nI 3)), (4, .int v), (5, .int w)]) (st' := []) (z' := z) rfl trivial ?_
      refine ww_blk xCC okX5_copy 10 2 (ps := []) (pc' := 27) (lv' := [(7, .ref 54), (6, .ref 50), (0, .ref 0), (1, .int (nI 1)), (2, .int y), (3, .int (nI 3)), (4, .int v), (5, .int w)]) (st' := []) (z' := z) rfl trivial ?_
      refine ww_blk xCC okX5_copy 14 3 (ps := []) (pc' := 33) (lv' := [(7, .ref 54), (6, .ref 50), (0, .ref 0), (1, .int (nI 1)), (2, .int y), (3, .int (nI 3)), (4, .int v), (5, .int w)]) (st' := [.int (-1), .int (z.1 50 0)]) (z' := z) rfl trivial ?_
      rw [show z.1 50 0 = cI (T 1).1 from (hT 1 (by decide)).2.1]
      refine ww_br xCC okX5_copy 17 (P := (cI (T 1).1) = (-1)) (t1 := 45) (t2 := 36) (r := []) rfl (fun c86 => ?_) (fun c86 => ?_)
      · skip
        have h0 := cI_m (by have q0 := (hT 0 (by decide)).1; have q1 := (hT 1 (by decide)).1; have q2 := (hT 2 (by decide)).1; have q3 := (hT 3 (by decide)).1; omega) c86
        refine ww_blk xCC okX5_copy 22 1 (ps := []) (pc' := 47) (lv' := [(7, .ref 54), (6, .ref 50), (0, .ref 0), (1, .int (nI 1)), (2, .int y), (3, .int (nI 3)), (4, .int v), (5, .int w)]) (st' := [.int (-11)]) (z' := z) rfl trivial ?_
        subst xhQ
        exact ww_iret xCC okX5_copy 23 xhr rfl rfl ⟨_, rfl, (by rw [sCopy_m (by decide) (by decide) (Or.inl h0)]; exact ⟨rfl, hT, KU_rf z⟩)⟩
      · skip
        have h0 := cI_nm c86
        refine ww_blk xCC okX5_copy 18 3 (ps := []) (pc' := 42) (lv' := [(7, .ref 54), (6, .ref 50), (0, .ref 0), (1, .int (nI 1)), (2, .int y), (3, .int (nI 3)), (4, .int v), (5, .int w)]) (st' := [.int (-1), .int (z.1 54 0)]) (z' := z) rfl trivial ?_
        rw [show z.1 54 0 = cI (T 3).1 from (hT 3 (by decide)).2.1]
        refine ww_br xCC okX5_copy 21 (P := (cI (T 3).1) = (-1)) (t1 := 45) (t2 := 48) (r := []) rfl (fun c87 => ?_) (fun c87 => ?_)
        · skip
          have h0u := cI_m (by have q0 := (hT 0 (by decide)).1; have q1 := (hT 1 (by decide)).1; have q2 := (hT 2 (by decide)).1; have q3 := (hT 3 (by decide)).1; omega) c87
          refine ww_blk xCC okX5_copy 22 1 (ps := []) (pc' := 47) (lv' := [(7, .ref 54), (6, .ref 50), (0, .ref 0), (1, .int (nI 1)), (2, .int y), (3, .int (nI 3)), (4, .int v), (5, .int w)]) (st' := [.int (-11)]) (z' := z) rfl trivial ?_
          subst xhQ
          exact ww_iret xCC okX5_copy 23 xhr rfl rfl ⟨_, rfl, (by rw [sCopy_m (by decide) (by decide) (Or.inr h0u)]; exact ⟨rfl, hT, KU_rf z⟩)⟩
        · skip
          have h0u := cI_nm c87
          obtain ⟨n, k, it, hTs, hk2, hn40, hc0, hc1, hcI⟩ := SY_1 (hT 1 (by decide)) h0
          obtain ⟨nu, ku, itu, hTsu, hk2u, hn40u, hc0u, hc1u, hcIu⟩ := SY_1 (hT 3 (by decide)) h0u
          refine ww_blk xCC okX5_copy 24 4 (ps := []) (pc' := 58) (lv' := [(7, .ref 54), (6, .ref 50), (0, .ref 0), (1, .int (nI 1)), (2, .int y), (3, .int (nI 3)), (4, .int v), (5, .int w)]) (st' := [.int (z.1 54 0), .int (z.1 50 0)]) (z' := z) rfl trivial ?_
          rw [show z.1 54 0 = cI (T 3).1 from (hT 3 (by decide)).2.1]
          rw [show z.1 50 0 = cI (T 1).1 from (hT 1 (by decide)).2.1]
          refine ww_br xCC okX5_copy 28 (P := (cI (T 1).1) = (cI (T 3).1)) (t1 := 64) (t2 := 61) (r := []) rfl (fun c88 => ?_) (fun c88 => ?_)
          · skip
            have hkk : k = ku := hT_k hTs hTsu hk2 hk2u c88
            refine ww_blk xCC okX5_copy 31 3 (ps := []) (pc' := 69) (lv' := [(7, .ref 54), (6, .ref 50), (0, .ref 0), (1, .int (nI 1)), (2, .int y), (3, .int (nI 3)), (4, .int v), (5, .int w)]) (st' := [.int w, .int y, .ref 50]) (z' := z) rfl trivial ?_
            refine ww_callVEz xCC okX5_copy 34 (ix := 236) (t_X2_has l d y w n (xPull (esS 1) z) hn40 hc1) (by omega) (by decide) xyX2_has xiX2_has (Or.inr (List.mem_of_getElem? (i := 779) (by decide +kernel))) (by decide +kernel) (by decide) (fun q => by cases q) (q0 := 50) rfl rfl rfl rfl (rest := []) rfl (Nat.le_of_ble_eq_true rfl) rfl (fun z89 h90 => ?_) (fun z89 h90 => ?_)
            · skip
              rw [h90.2, xB_id]
              replace h90 := h90.1
              refine ww_br xCC okX5_copy 35 (P := 1 = 0) (t1 := 87) (t2 := 75) (r := []) rfl (fun q => absurd q (by decide)) (fun _ => ?_)
              refine ww_blk xCC okX5_copy 36 3 (ps := []) (pc' := 81) (lv' := [(7, .ref 54), (6, .ref 50), (0, .ref 0), (1, .int (nI 1)), (2, .int y), (3, .int (nI 3)), (4, .int v), (5, .int w)]) (st' := [.int w, .int v, .ref 54]) (z' := z) rfl trivial ?_
              refine ww_callVEz xCC okX5_copy 39 (ix := 236) (t_X2_has l d v w nu (xPull (esS 3) z) hn40u hc1u) (by omega) (by decide) xyX2_has xiX2_has (Or.inr (List.mem_of_getElem? (i := 779) (by decide +kernel))) (by decide +kernel) (by decide) (fun q => by cases q) (q0 := 54) rfl rfl rfl rfl (rest := []) rfl (Nat.le_of_ble_eq_true rfl) rfl (fun z92 h93 => ?_) (fun z92 h93 => ?_)
              · skip
                rw [h93.2, xB_id]
                replace h93 := h93.1
                refine ww_br xCC okX5_copy 40 (P := 1 = 0) (t1 := 87) (t2 := 90) (r := []) rfl (fun q => absurd q (by decide)) (fun _ => ?_)
                obtain ⟨m, hm, rfl⟩ := sNN (x := w) (n := 41) (by omega) (by omega)
                obtain ⟨i, hi, rfl⟩ := sNN (x := y) (n := 41) (by omega) (by omega)
                obtain ⟨j, hj, rfl⟩ := sNN (x := v) (n := 41) (by omega) (by omega)
                have qm := sTI (k := m) (by omega)
                have qi := sTI (k := i) (by omega)
                have qj := sTI (k := j) (by omega)
                have hp1 : (nI i).toNatClampNeg + (nI m).toNatClampNeg ≤ 40 := by rw [sCL (n := i) (by omega), sCL (n := m) (by omega)]; omega
                have hp2 : (nI j).toNatClampNeg + (nI m).toNatClampNeg ≤ 40 := by rw [sCL (n := j) (by omega), sCL (n := m) (by omega)]; omega
                refine ww_blk xCC okX5_copy 43 9 (ps := [¬ (nI i) < 0, ¬ (nI j) < 0, ¬ (nI m) < 0, (nI i).toNatClampNeg + (nI m).toNatClampNeg ≤ 40, (nI j).toNatClampNeg + (nI m).toNatClampNeg ≤ 40]) (pc' := 110) (lv' := [(7, .ref 54), (6, .ref 50), (0, .ref 0), (1, .int (nI 1)), (2, .int (nI i)), (3, .int (nI 3)), (4, .int (nI j)), (5, .int (nI m))]) (st' := [.int (nI m)]) (z' := (mCpy z 51 55 (nI i) (nI j) (nI m))) rfl ⟨(nI_n0 (by omega)), (nI_n0 (by omega)), (nI_n0 (by omega)), hp1, hp2⟩ ?_
                subst xhQ
                exact ww_iret xCC okX5_copy 52 xhr rfl rfl ⟨_, rfl, (by rw [sCopy_y (by decide) (by decide) hTs hTsu hkk ⟨hn40, hn40u⟩ (by omega) (by omega)]; exact ⟨rfl, SX_cpy (s := 1) (t := 3) (by decide) (by decide) hT hTs hTsu (by omega) (by omega) hn40 hn40u⟩)⟩
              · skip
                rw [h93.2, xB_id]
                replace h93 := h93.1
                refine ww_br xCC okX5_copy 40 (P := 0 = 0) (t1 := 87) (t2 := 90) (r := []) rfl (fun _ => ?_) (fun q => absurd (by decide) q)
                refine ww_blk xCC okX5_copy 41 1 (ps := []) (pc' := 89) (lv' := [(7, .ref 54), (6, .ref 50), (0, .ref 0), (1, .int (nI 1)), (2, .int y), (3, .int (nI 3)), (4, .int v), (5, .int w)]) (st' := [.int (-12)]) (z' := z) rfl trivial ?_
                subst xhQ
                exact ww_iret xCC okX5_copy 42 xhr rfl rfl ⟨_, rfl, (by rw [sCopy_o (by decide) (by decide) hTs hTsu hkk (by omega)]; exact ⟨rfl, hT, KU_rf z⟩)⟩
            · skip
              rw [h90.2, xB_id]
              replace h90 := h90.1
              refine ww_br xCC okX5_copy 35 (P := 0 = 0) (t1 := 87) (t2 := 75) (r := []) rfl (fun _ => ?_) (fun q => absurd (by decide) q)
              refine ww_blk xCC okX5_copy 41 1 (ps := []) (pc' := 89) (lv' := [(7, .ref 54), (6, .ref 50), (0, .ref 0), (1, .int (nI 1)), (2, .int y), (3, .int (nI 3)), (4, .int v), (5, .int w)]) (st' := [.int (-12)]) (z' := z) rfl trivial ?_
              subst xhQ
              exact ww_iret xCC okX5_copy 42 xhr rfl rfl ⟨_, rfl, (by rw [sCopy_o (by decide) (by decide) hTs hTsu hkk (by omega)]; exact ⟨rfl, hT, KU_rf z⟩)⟩
          · skip
            have hkk : k ≠ ku := fun q => c88 (hT_q hTs hTsu q)
            refine ww_blk xCC okX5_copy 29 1 (ps := []) (pc' := 63) (lv' := [(7, .ref 54), (6, .ref 50), (0, .ref 0), (1, .int (nI 1)), (2, .int y), (3, .int (nI 3)), (4, .int v), (5, .int w)]) (st' := [.int (-13)]) (z' := z) rfl trivial ?_
            subst xhQ
            exact ww_iret xCC okX5_copy 30 xhr rfl rfl ⟨_, rfl, (by rw [sCopy_k (by decide) (by decide) hTs hTsu hkk]; exact ⟨rfl, hT, KU_rf z⟩)⟩
  · skip
    rw [hr9]
    subst hx
    show ww xp l xe (xRm (d + 2)) xs xm xar xbl xme xc 8 xD xcs xad shX xAA xQ 5 [(0, .ref 0), (1, .int (nI 2)), (2, .int y), (3, .int u), (4, .int v), (5, .int w)] [.ref 52] z
    refine ww_blk xCC okX5_copy 3 3 (ps := []) (pc' := 9) (lv' := [(6, .ref 52), (0, .ref 0), (1, .int (nI 2)), (2, .int y), (3, .int u), (4, .int v), (5, .int w)]) (st' := [.int u, .ref 0]) (z' := z) rfl trivial ?_
    refine ww_callVI xCC okX5_copy 6 (ix := 192) (t_X5_sheetAt l d u z) (by omega) (by decide) xyX5_sheetAt xiX5_sheetAt (Or.inl (lw_gt_of (List.mem_of_getElem? (i := 692) (by decide +kernel)) rfl)) rfl rfl rfl (rest := []) rfl (Nat.le_of_ble_eq_true rfl) rfl (fun r9 z9 h9 => ?_)
    obtain ⟨hz9, hr9⟩ := h9
    rw [hz9]
    rcases hr9 with ⟨hu, hr9⟩ | ⟨hu, hr9⟩ | ⟨hu, hr9⟩ | ⟨hu, hr9⟩ | ⟨hu, hr9⟩
    · skip
      rw [hr9]
      show ww xp l xe (xRm (d + 2)) xs xm xar xbl xme xc 8 xD xcs xad shX xAA xQ 12 [(6, .ref 52), (0, .ref 0), (1, .int (nI 2)), (2, .int y), (3, .int u), (4, .int v), (5, .int w)] [.null] z
      refine ww_blk xCC okX5_copy 7 3 (ps := []) (pc' := 19) (lv' := [(7, .null), (6, .ref 52), (0, .ref 0), (1, .int (nI 2)), (2, .int y), (3, .int u), (4, .int v), (5, .int w)]) (st' := []) (z' := z) rfl trivial ?_
      refine ww_blk xCC okX5_copy 10 2 (ps := []) (pc' := 24) (lv' := [(7, .null), (6, .ref 52), (0, .ref 0), (1, .int (nI 2)), (2, .int y), (3, .int u), (4, .int v), (5, .int w)]) (st' := []) (z' := z) rfl trivial ?_
      refine ww_blk xCC okX5_copy 12 1 (ps := []) (pc' := 26) (lv' := [(7, .null), (6, .ref 52), (0, .ref 0), (1, .int (nI 2)), (2, .int y), (3, .int u), (4, .int v), (5, .int w)]) (st' := [.int (-2)]) (z' := z) rfl trivial ?_
      subst xhQ
      exact ww_iret xCC okX5_copy 13 xhr rfl rfl ⟨_, rfl, (by rw [sCopy_b (by omega)]; exact ⟨rfl, hT, KU_rf z⟩)⟩
    · skip
      rw [hr9]
      subst hu
      show ww xp l xe (xRm (d + 2)) xs xm xar xbl xme xc 8 xD xcs xad shX xAA xQ 12 [(6, .ref 52), (0, .ref 0), (1, .int (nI 2)), (2, .int y), (3, .int (nI 0)), (4, .int v), (5, .int w)] [.ref 48] z
      refine ww_blk xCC okX5_copy 7 3 (ps := []) (pc' := 19) (lv' := [(7, .ref 48), (6, .ref 52), (0, .ref 0), (1, .int (nI 2)), (2, .int y), (3, .int (nI 0)), (4, .int v), (5, .int w)]) (st' := []) (z' := z) rfl trivial ?_
      refine ww_blk xCC okX5_copy 10 2 (ps := []) (pc' := 27) (lv' := [(7, .ref 48), (6, .ref 52), (0, .ref 0), (1, .int (nI 2)), (2, .int y), (3, .int (nI 0)), (4, .int v), (5, .int w)]) (st' := []) (z' := z) rfl trivial ?_
      refine ww_blk xCC okX5_copy 14 3 (ps := []) (pc' := 33) (lv' := [(7, .ref 48), (6, .ref 52), (0, .ref 0), (1, .int (nI 2)), (2, .int y), (3, .int (nI 0)), (4, .int v), (5, .int w)]) (st' := [.int (-1), .int (z.1 52 0)]) (z' := z) rfl trivial ?_
      rw [show z.1 52 0 = cI (T 2).1 from (hT 2 (by decide)).2.1]
      refine ww_br xCC okX5_copy 17 (P := (cI (T 2).1) = (-1)) (t1 := 45) (t2 := 36) (r := []) rfl (fun c99 => ?_) (fun c99 => ?_)
      · skip
        have h0 := cI_m (by have q0 := (hT 0 (by decide)).1; have q1 := (hT 1 (by decide)).1; have q2 := (hT 2 (by decide)).1; have q3 := (hT 3 (by decide)).1; omega) c99
        refine ww_blk xCC okX5_copy 22 1 (ps := []) (pc' := 47) (lv' := [(7, .ref 48), (6, .ref 52), (0, .ref 0), (1, .int (nI 2)), (2, .int y), (3, .int (nI 0)), (4, .int v), (5, .int w)]) (st' := [.int (-11)]) (z' := z) rfl trivial ?_
        subst xhQ
        exact ww_iret xCC okX5_copy 23 xhr rfl rfl ⟨_, rfl, (by rw [sCopy_m (by decide) (by decide) (Or.inl h0)]; exact ⟨rfl, hT, KU_rf z⟩)⟩
      · skip
        have h0 := cI_nm c99
        refine ww_blk xCC okX5_copy 18 3 (ps := []) (pc' := 42) (lv' := [(7, .ref 48), (6, .ref 52), (0, .ref 0), (1, .int (nI 2)), (2, .int y), (3, .int (nI 0)), (4, .int v), (5, .int w)]) (st' := [.int (-1), .int (z.1 48 0)]) (z' := z) rfl trivial ?_
        rw [show z.1 48 0 = cI (T 0).1 from (hT 0 (by decide)).2.1]
        refine ww_br xCC okX5_copy 21 (P := (cI (T 0).1) = (-1)) (t1 := 45) (t2 := 48) (r := []) rfl (fun c100 => ?_) (fun c100 => ?_)
        · skip
          have h0u := cI_m (by have q0 := (hT 0 (by decide)).1; have q1 := (hT 1 (by decide)).1; have q2 := (hT 2 (by decide)).1; have q3 := (hT 3 (by decide)).1; omega) c100
          refine ww_blk xCC okX5_copy 22 1 (ps := []) (pc' := 47) (lv' := [(7, .ref 48), (6, .ref 52), (0, .ref 0), (1, .int (nI 2)), (2, .int y), (3, .int (nI 0)), (4, .int v), (5, .int w)]) (st' := [.int (-11)]) (z' := z) rfl trivial ?_
          subst xhQ
          exact ww_iret xCC okX5_copy 23 xhr rfl rfl ⟨_, rfl, (by rw [sCopy_m (by decide) (by decide) (Or.inr h0u)]; exact ⟨rfl, hT, KU_rf z⟩)⟩
        · skip
          have h0u := cI_nm c100
          obtain ⟨n, k, it, hTs, hk2, hn40, hc0, hc1, hcI⟩ := SY_1 (hT 2 (by decide)) h0
          obtain ⟨nu, ku, itu, hTsu, hk2u, hn40u, hc0u, hc1u, hcIu⟩ := SY_1 (hT 0 (by decide)) h0u
          refine ww_blk xCC okX5_copy 24 4 (ps := []) (pc' := 58) (lv' := [(7, .ref 48), (6, .ref 52), (0, .ref 0), (1, .int (nI 2)), (2, .int y), (3, .int (nI 0)), (4, .int v), (5, .int w)]) (st' := [.int (z.1 48 0), .int (z.1 52 0)]) (z' := z) rfl trivial ?_
          rw [show z.1 48 0 = cI (T 0).1 from (hT 0 (by decide)).2.1]
          rw [show z.1 52 0 = cI (T 2).1 from (hT 2 (by decide)).2.1]
          refine ww_br xCC okX5_copy 28 (P := (cI (T 2).1) = (cI (T 0).1)) (t1 := 64) (t2 := 61) (r := []) rfl (fun c101 => ?_) (fun c101 => ?_)
          · skip
            have hkk : k = ku := hT_k hTs hTsu hk2 hk2u c101
            refine ww_blk xCC okX5_copy 31 3 (ps := []) (pc' := 69) (lv' := [(7, .ref 48), (6, .ref 52), (0, .ref 0), (1, .int (nI 2)), (2, .int y), (3, .int (nI 0)), (4, .int v), (5, .int w)]) (st' := [.int w, .int y, .ref 52]) (z' := z) rfl trivial ?_
            refine ww_callVEz xCC okX5_copy 34 (ix := 236) (t_X2_has l d y w n (xPull (esS 2) z) hn40 hc1) (by omega) (by decide) xyX2_has xiX2_has (Or.inr (List.mem_of_getElem? (i := 779) (by decide +kernel))) (by decide +kernel) (by decide) (fun q => by cases q) (q0 := 52) rfl rfl rfl rfl (rest := []) rfl (Nat.le_of_ble_eq_true rfl) rfl (fun z102 h103 => ?_) (fun z102 h103 => ?_)
            · skip
              rw [h103.2, xB_id]
              replace h103 := h103.1
              refine ww_br xCC okX5_copy 35 (P := 1 = 0) (t1 := 87) (t2 := 75) (r := []) rfl (fun q => absurd q (by decide)) (fun _ => ?_)
              refine ww_blk xCC okX5_copy 36 3 (ps := []) (pc' := 81) (lv' := [(7, .ref 48), (6, .ref 52), (0, .ref 0), (1, .int (nI 2)), (2, .int y), (3, .int (nI 0)), (4, .int v), (5, .int w)]) (st' := [.int w, .int v, .ref 48]) (z' := z) rfl trivial ?_
              refine ww_callVEz xCC okX5_copy 39 (ix := 236) (t_X2_has l d v w nu (xPull (esS 0) z) hn40u hc1u) (by omega) (by decide) xyX2_has xiX2_has (Or.inr (List.mem_of_getElem? (i := 779) (by decide +kernel))) (by decide +kernel) (by decide) (fun q => by cases q) (q0 := 48) rfl rfl rfl rfl (rest := []) rfl (Nat.le_of_ble_eq_true rfl) rfl (fun z105 h106 => ?_) (fun z105 h106 => ?_)
              · skip
                rw [h106.2, xB_id]
                replace h106 := h106.1
                refine ww_br xCC okX5_copy 40 (P := 1 = 0) (t1 := 87) (t2 := 90) (r := []) rfl (fun q => absurd q (by decide)) (fun _ => ?_)
                obtain ⟨m, hm, rfl⟩ := sNN (x := w) (n := 41) (by omega) (by omega)
                obtain ⟨i, hi, rfl⟩ := sNN (x := y) (n := 41) (by omega) (by omega)
                obtain ⟨j, hj, rfl⟩ := sNN (x := v) (n := 41) (by omega) (by omega)
                have qm := sTI (k := m) (by omega)
                have qi := sTI (k := i) (by omega)
                have qj := sTI (k := j) (by omega)
                have hp1 : (nI i).toNatClampNeg + (nI m).toNatClampNeg ≤ 40 := by rw [sCL (n := i) (by omega), sCL (n := m) (by omega)]; omega
                have hp2 : (nI j).toNatClampNeg + (nI m).toNatClampNeg ≤ 40 := by rw [sCL (n := j) (by omega), sCL (n := m) (by omega)]; omega
                refine ww_blk xCC okX5_copy 43 9 (ps := [¬ (nI i) < 0, ¬ (nI j) < 0, ¬ (nI m) < 0, (nI i).toNatClampNeg + (nI m).toNatClampNeg ≤ 40, (nI j).toNatClampNeg + (nI m).toNatClampNeg ≤ 40]) (pc' := 110) (lv' := [(7, .ref 48), (6, .ref 52), (0, .ref 0), (1, .int (nI 2)), (2, .int (nI i)), (3, .int (nI 0)), (4, .int (nI j)), (5, .int (nI m))]) (st' := [.int (nI m)]) (z' := (mCpy z 53 49 (nI i) (nI j) (nI m))) rfl ⟨(nI_n0 (by omega)), (nI_n0 (by omega)), (nI_n0 (by omega)), hp1, hp2⟩ ?_
                subst xhQ
                exact ww_iret xCC okX5_copy 52 xhr rfl rfl ⟨_, rfl, (by rw [sCopy_y (by decide) (by decide) hTs hTsu hkk ⟨hn40, hn40u⟩ (by omega) (by omega)]; exact ⟨rfl, SX_cpy (s := 2) (t := 0) (by decide) (by decide) hT hTs hTsu (by omega) (by omega) hn40 hn40u⟩)⟩
              · skip
                rw [h106.2, xB_id]
                replace h106 := h106.1
                refine ww_br xCC okX5_copy 40 (P := 0 = 0) (t1 := 87) (t2 := 90) (r := []) rfl (fun _ => ?_) (fun q => absurd (by decide) q)
                refine ww_blk xCC okX5_copy 41 1 (ps := []) (pc' := 89) (lv' := [(7, .ref 48), (6, .ref 52), (0, .ref 0), (1, .int (nI 2)), (2, .int y), (3, .int (nI 0)), (4, .int v), (5, .int w)]) (st' := [.int (-12)]) (z' := z) rfl trivial ?_
                subst xhQ
                exact ww_iret xCC okX5_copy 42 xhr rfl rfl ⟨_, rfl, (by rw [sCopy_o (by decide) (by decide) hTs hTsu hkk (by omega)]; exact ⟨rfl, hT, KU_rf z⟩)⟩
            · skip
              rw [h103.2, xB_id]
              replace h103 := h103.1
              refine ww_br xCC okX5_copy 35 (P := 0 = 0) (t1 := 87) (t2 := 75) (r := []) rfl (fun _ => ?_) (fun q => absurd (by decide) q)
              refine ww_blk xCC okX5_copy 41 1 (ps := []) (pc' := 89) (lv' := [(7, .ref 48), (6, .ref 52), (0, .ref 0), (1, .int (nI 2)), (2, .int y), (3, .int (nI 0)), (4, .int v), (5, .int w)]) (st' := [.int (-12)]) (z' := z) rfl trivial ?_
              subst xhQ
              exact ww_iret xCC okX5_copy 42 xhr rfl rfl ⟨_, rfl, (by rw [sCopy_o (by decide) (by decide) hTs hTsu hkk (by omega)]; exact ⟨rfl, hT, KU_rf z⟩)⟩
          · skip
            have hkk : k ≠ ku := fun q => c101 (hT_q hTs hTsu q)
            refine ww_blk xCC okX5_copy 29 1 (ps := []) (pc' := 63) (lv' := [(7, .ref 48), (6, .ref 52), (0, .ref 0), (1, .int (nI 2)), (2, .int y), (3, .int (nI 0)), (4, .int v), (5, .int w)]) (st' := [.int (-13)]) (z' := z) rfl trivial ?_
            subst xhQ
            exact ww_iret xCC okX5_copy 30 xhr rfl rfl ⟨_, rfl, (by rw [sCopy_k (by decide) (by decide) hTs hTsu hkk]; exact ⟨rfl, hT, KU_rf z⟩)⟩
    · skip
      rw [hr9]
      subst hu
      show ww xp l xe (xRm (d + 2)) xs xm xar xbl xme xc 8 xD xcs xad shX xAA xQ 12 [(6, .ref 52), (0, .ref 0), (1, .int (nI 2)), (2, .int y), (3, .int (nI 1)), (4, .int v), (5, .int w)] [.ref 50] z
      refine ww_blk xCC okX5_copy 7 3 (ps := []) (pc' := 19) (lv' := [(7, .ref 50), (6, .ref 52), (0, .ref 0), (1, .int (nI 2)), (2, .int y), (3, .int (nI 1)), (4, .int v), (5, .int w)]) (st' := []) (z' := z) rfl trivial ?_
      refine ww_blk xCC okX5_copy 10 2 (ps := []) (pc' := 27) (lv' := [(7, .ref 50), (6, .ref 52), (0, .ref 0), (1, .int (nI 2)), (2, .int y), (3, .int (nI 1)), (4, .int v), (5, .int w)]) (st' := []) (z' := z) rfl trivial ?_
      refine ww_blk xCC okX5_copy 14 3 (ps := []) (pc' := 33) (lv' := [(7, .ref 50), (6, .ref 52), (0, .ref 0), (1, .int (nI 2)), (2, .int y), (3, .int (nI 1)), (4, .int v), (5, .int w)]) (st' := [.int (-1), .int (z.1 52 0)]) (z' := z) rfl trivial ?_
      rw [show z.1 52 0 = cI (T 2).1 from (hT 2 (by decide)).2.1]
      refine ww_br xCC okX5_copy 17 (P := (cI (T 2).1) = (-1)) (t1 := 45) (t2 := 36) (r := []) rfl (fun c110 => ?_) (fun c110 => ?_)
      · skip
        have h0 := cI_m (by have q0 := (hT 0 (by decide)).1; have q1 := (hT 1 (by decide)).1; have q2 := (hT 2 (by decide)).1; have q3 := (hT 3 (by decide)).1; omega) c110
        refine ww_blk xCC okX5_copy 22 1 (ps := []) (pc' := 47) (lv' := [(7, .ref 50), (6, .ref 52), (0, .ref 0), (1, .int (nI 2)), (2, .int y), (3, .int (nI 1)), (4, .int v), (5, .int w)]) (st' := [.int (-11)]) (z' := z) rfl trivial ?_
        subst xhQ
        exact ww_iret xCC okX5_copy 23 xhr rfl rfl ⟨_, rfl, (by rw [sCopy_m (by decide) (by decide) (Or.inl h0)]; exact ⟨rfl, hT, KU_rf z⟩)⟩
      · skip
        have h0 := cI_nm c110
        refine ww_blk xCC okX5_copy 18 3 (ps := []) (pc' := 42) (lv' := [(7, .ref 50), (6, .ref 52), (0, .ref 0), (1, .int (nI 2)), (2, .int y), (3, .int (nI 1)), (4, .int v), (5, .int w)]) (st' := [.int (-1), .int (z.1 50 0)]) (z' := z) rfl trivial ?_
        rw [show z.1 50 0 = cI (T 1).1 from (hT 1 (by decide)).2.1]
        refine ww_br xCC okX5_copy 21 (P := (cI (T 1).1) = (-1)) (t1 := 45) (t2 := 48) (r := []) rfl (fun c111 => ?_) (fun c111 => ?_)
        · skip
          have h0u := cI_m (by have q0 := (hT 0 (by decide)).1; have q1 := (hT 1 (by decide)).1; have q2 := (hT 2 (by decide)).1; have q3 := (hT 3 (by decide)).1; omega) c111
          refine ww_blk xCC okX5_copy 22 1 (ps := []) (pc' := 47) (lv' := [(7, .ref 50), (6, .ref 52), (0, .ref 0), (1, .int (nI 2)), (2, .int y), (3, .int (nI 1)), (4, .int v), (5, .int w)]) (st' := [.int (-11)]) (z' := z) rfl trivial ?_
          subst xhQ
          exact ww_iret xCC okX5_copy 23 xhr rfl rfl ⟨_, rfl, (by rw [sCopy_m (by decide) (by decide) (Or.inr h0u)]; exact ⟨rfl, hT, KU_rf z⟩)⟩
        · skip
          have h0u := cI_nm c111
          obtain ⟨n, k, it, hTs, hk2, hn40, hc0, hc1, hcI⟩ := SY_1 (hT 2 (by decide)) h0
          obtain ⟨nu, ku, itu, hTsu, hk2u, hn40u, hc0u, hc1u, hcIu⟩ := SY_1 (hT 1 (by decide)) h0u
          refine ww_blk xCC okX5_copy 24 4 (ps := []) (pc' := 58) (lv' := [(7, .ref 50), (6, .ref 52), (0, .ref 0), (1, .int (nI 2)), (2, .int y), (3, .int (nI 1)), (4, .int v), (5, .int w)]) (st' := [.int (z.1 50 0), .int (z.1 52 0)]) (z' := z) rfl trivial ?_
          rw [show z.1 50 0 = cI (T 1).1 from (hT 1 (by decide)).2.1]
          rw [show z.1 52 0 = cI (T 2).1 from (hT 2 (by decide)).2.1]
          refine ww_br xCC okX5_copy 28 (P := (cI (T 2).1) = (cI (T 1).1)) (t1 := 64) (t2 := 61) (r := []) rfl (fun c112 => ?_) (fun c112 => ?_)
          · skip
            have hkk : k = ku := hT_k hTs hTsu hk2 hk2u c112
            refine ww_blk xCC okX5_copy 31 3 (ps := []) (pc' := 69) (lv' := [(7, .ref 50), (6, .ref 52), (0, .ref 0), (1, .int (nI 2)), (2, .int y), (3, .int (nI 1)), (4, .int v), (5, .int w)]) (st' := [.int w, .int y, .ref 52]) (z' := z) rfl trivial ?_
            refine ww_callVEz xCC okX5_copy 34 (ix := 236) (t_X2_has l d y w n (xPull (esS 2) z) hn40 hc1) (by omega) (by decide) xyX2_has xiX2_has (Or.inr (List.mem_of_getElem? (i := 779) (by decide +kernel))) (by decide +kernel) (by decide) (fun q => by cases q) (q0 := 52) rfl rfl rfl rfl (rest := []) rfl (Nat.le_of_ble_eq_true rfl) rfl (fun z113 h114 => ?_) (fun z113 h114 => ?_)
            · skip
              rw [h114.2, xB_id]
              replace h114 := h114.1
              refine ww_br xCC okX5_copy 35 (P := 1 = 0) (t1 := 87) (t2 := 75) (r := []) rfl (fun q => absurd q (by decide)) (fun _ => ?_)
              refine ww_blk xCC okX5_copy 36 3 (ps := []) (pc' := 81) (lv' := [(7, .ref 50), (6, .ref 52), (0, .ref 0), (1, .int (nI 2)), (2, .int y), (3, .int (nI 1)), (4, .int v), (5, .int w)]) (st' := [.int w, .int v, .ref 50]) (z' := z) rfl trivial ?_
              refine ww_callVEz xCC okX5_copy 39 (ix := 236) (t_X2_has l d v w nu (xPull (esS 1) z) hn40u hc1u) (by omega) (by decide) xyX2_has xiX2_has (Or.inr (List.mem_of_getElem? (i := 779) (by decide +kernel))) (by decide +kernel) (by decide) (fun q => by cases q) (q0 := 50) rfl rfl rfl rfl (rest := []) rfl (Nat.le_of_ble_eq_true rfl) rfl (fun z116 h117 => ?_) (fun z116 h117 => ?_)
              · skip
                rw [h117.2, xB_id]
                replace h117 := h117.1
                refine ww_br xCC okX5_copy 40 (P := 1 = 0) (t1 := 87) (t2 := 90) (r := []) rfl (fun q => absurd q (by decide)) (fun _ => ?_)
                obtain ⟨m, hm, rfl⟩ := sNN (x := w) (n := 41) (by omega) (by omega)
                obtain ⟨i, hi, rfl⟩ := sNN (x := y) (n := 41) (by omega) (by omega)
                obtain ⟨j, hj, rfl⟩ := sNN (x := v) (n := 41) (by omega) (by omega)
                have qm := sTI (k := m) (by omega)
                have qi := sTI (k := i) (by omega)
                have qj := sTI (k := j) (by omega)
                have hp1 : (nI i).toNatClampNeg + (nI m).toNatClampNeg ≤ 40 := by rw [sCL (n := i) (by omega), sCL (n := m) (by omega)]; omega
                have hp2 : (nI j).toNatClampNeg + (nI m).toNatClampNeg ≤ 40 := by rw [sCL (n := j) (by omega), sCL (n := m) (by omega)]; omega
                refine ww_blk xCC okX5_copy 43 9 (ps := [¬ (nI i) < 0, ¬ (nI j) < 0, ¬ (nI m) < 0, (nI i).toNatClampNeg + (nI m).toNatClampNeg ≤ 40, (nI j).toNatClampNeg + (nI m).toNatClampNeg ≤ 40]) (pc' := 110) (lv' := [(7, .ref 50), (6, .ref 52), (0, .ref 0), (1, .int (nI 2)), (2, .int (nI i)), (3, .int (nI 1)), (4, .int (nI j)), (5, .int (nI m))]) (st' := [.int (nI m)]) (z' := (mCpy z 53 51 (nI i) (nI j) (nI m))) rfl ⟨(nI_n0 (by omega)), (nI_n0 (by omega)), (nI_n0 (by omega)), hp1, hp2⟩ ?_
                subst xhQ
                exact ww_iret xCC okX5_copy 52 xhr rfl rfl ⟨_, rfl, (by rw [sCopy_y (by decide) (by decide) hTs hTsu hkk ⟨hn40, hn40u⟩ (by omega) (by omega)]; exact ⟨rfl, SX_cpy (s := 2) (t := 1) (by decide) (by decide) hT hTs hTsu (by omega) (by omega) hn40 hn40u⟩)⟩
              · skip
                rw [h117.2, xB_id]
                replace h117 := h117.1
                refine ww_br xCC okX5_copy 40 (P := 0 = 0) (t1 := 87) (t2 := 90) (r := []) rfl (fun _ => ?_) (fun q => absurd (by decide) q)
                refine ww_blk xCC okX5_copy 41 1 (ps := []) (pc' := 89) (lv' := [(7, .ref 50), (6, .ref 52), (0, .ref 0), (1, .int (nI 2)), (2, .int y), (3, .int (nI 1)), (4, .int v), (5, .int w)]) (st' := [.int (-12)]) (z' := z) rfl trivial ?_
                subst xhQ
                exact ww_iret xCC okX5_copy 42 xhr rfl rfl ⟨_, rfl, (by rw [sCopy_o (by decide) (by decide) hTs hTsu hkk (by omega)]; exact ⟨rfl, hT, KU_rf z⟩)⟩
            · skip
              rw [h114.2, xB_id]
              replace h114 := h114.1
              refine ww_br xCC okX5_copy 35 (P := 0 = 0) (t1 := 87) (t2 := 75) (r := []) rfl (fun _ => ?_) (fun q => absurd (by decide) q)
              refine ww_blk xCC okX5_copy 41 1 (ps := []) (pc' := 89) (lv' := [(7, .ref 50), (6, .ref 52), (0, .ref 0), (1, .int (nI 2)), (2, .int y), (3, .int (nI 1)), (4, .int v), (5, .int w)]) (st' := [.int (-12)]) (z' := z) rfl trivial ?_
              subst xhQ
              exact ww_iret xCC okX5_copy 42 xhr rfl rfl ⟨_, rfl, (by rw [sCopy_o (by decide) (by decide) hTs hTsu hkk (by omega)]; exact ⟨rfl, hT, KU_rf z⟩)⟩
          · skip
            have hkk : k ≠ ku := fun q => c112 (hT_q hTs hTsu q)
            refine ww_blk xCC okX5_copy 29 1 (ps := []) (pc' := 63) (lv' := [(7, .ref 50), (6, .ref 52), (0, .ref 0), (1, .int (nI 2)), (2, .int y), (3, .int (nI 1)), (4, .int v), (5, .int w)]) (st' := [.int (-13)]) (z' := z) rfl trivial ?_
            subst xhQ
            exact ww_iret xCC okX5_copy 30 xhr rfl rfl ⟨_, rfl, (by rw [sCopy_k (by decide) (by decide) hTs hTsu hkk]; exact ⟨rfl, hT, KU_rf z⟩)⟩
    · skip
      rw [hr9]
      subst hu
      show ww xp l xe (xRm (d + 2)) xs xm xar xbl xme xc 8 xD xcs xad shX xAA xQ 12 [(6, .ref 52), (0, .ref 0), (1, .int (nI 2)), (2, .int y), (3, .int (nI 2)), (4, .int v), (5, .int w)] [.ref 52] z
      refine ww_blk xCC okX5_copy 7 3 (ps := []) (pc' := 19) (lv' := [(7, .ref 52), (6, .ref 52), (0, .ref 0), (1, .int (nI 2)), (2, .int y), (3, .int (nI 2)), (4, .int v), (5, .int w)]) (st' := []) (z' := z) rfl trivial ?_
      refine ww_blk xCC okX5_copy 10 2 (ps := []) (pc' := 27) (lv' := [(7, .ref 52), (6, .ref 52), (0, .ref 0), (1, .int (nI 2)), (2, .int y), (3, .int (nI 2)), (4, .int v), (5, .int w)]) (st' := []) (z' := z) rfl trivial ?_
      refine ww_blk xCC okX5_copy 14 3 (ps := []) (pc' := 33) (lv' := [(7, .ref 52), (6, .ref 52), (0, .ref 0), (1, .int (nI 2)), (2, .int y), (3, .int (nI 2)), (4, .int v), (5, .int w)]) (st' := [.int (-1), .int (z.1 52 0)]) (z' := z) rfl trivial ?_
      rw [show z.1 52 0 = cI (T 2).1 from (hT 2 (by decide)).2.1]
      refine ww_br xCC okX5_copy 17 (P := (cI (T 2).1) = (-1)) (t1 := 45) (t2 := 36) (r := []) rfl (fun c121 => ?_) (fun c121 => ?_)
      · skip
        have h0 := cI_m (by have q0 := (hT 0 (by decide)).1; have q1 := (hT 1 (by decide)).1; have q2 := (hT 2 (by decide)).1; have q3 := (hT 3 (by decide)).1; omega) c121
        refine ww_blk xCC okX5_copy 22 1 (ps := []) (pc' := 47) (lv' := [(7, .ref 52), (6, .ref 52), (0, .ref 0), (1, .int (nI 2)), (2, .int y), (3, .int (nI 2)), (4, .int v), (5, .int w)]) (st' := [.int (-11)]) (z' := z) rfl trivial ?_
        subst xhQ
        exact ww_iret xCC okX5_copy 23 xhr rfl rfl ⟨_, rfl, (by rw [sCopy_m (by decide) (by decide) (Or.inl h0)]; exact ⟨rfl, hT, KU_rf z⟩)⟩
      · skip
        have h0 := cI_nm c121
        refine ww_blk xCC okX5_copy 18 3 (ps := []) (pc' := 42) (lv' := [(7, .ref 52), (6, .ref 52), (0, .ref 0), (1, .int (nI 2)), (2, .int y), (3, .int (nI 2)), (4, .int v), (5, .int w)]) (st' := [.int (-1), .int (z.1 52 0)]) (z' := z) rfl trivial ?_
        rw [show z.1 52 0 = cI (T 2).1 from (hT 2 (by decide)).2.1]
        refine ww_br xCC okX5_copy 21 (P := (cI (T 2).1) = (-1)) (t1 := 45) (t2 := 48) (r := []) rfl (fun c122 => ?_) (fun c122 => ?_)
        · skip
          have h0u := cI_m (by have q0 := (hT 0 (by decide)).1; have q1 := (hT 1 (by decide)).1; have q2 := (hT 2 (by decide)).1; have q3 := (hT 3 (by decide)).1; omega) c122
          refine ww_blk xCC okX5_copy 22 1 (ps := []) (pc' := 47) (lv' := [(7, .ref 52), (6, .ref 52), (0, .ref 0), (1, .int (nI 2)), (2, .int y), (3, .int (nI 2)), (4, .int v), (5, .int w)]) (st' := [.int (-11)]) (z' := z) rfl trivial ?_
          subst xhQ
          exact ww_iret xCC okX5_copy 23 xhr rfl rfl ⟨_, rfl, (by rw [sCopy_m (by decide) (by decide) (Or.inr h0u)]; exact ⟨rfl, hT, KU_rf z⟩)⟩
        · skip
          have h0u := cI_nm c122
          obtain ⟨n, k, it, hTs, hk2, hn40, hc0, hc1, hcI⟩ := SY_1 (hT 2 (by decide)) h0
          obtain ⟨nu, ku, itu, hTsu, hk2u, hn40u, hc0u, hc1u, hcIu⟩ := SY_1 (hT 2 (by decide)) h0u
          refine ww_blk xCC okX5_copy 24 4 (ps := []) (pc' := 58) (lv' := [(7, .ref 52), (6, .ref 52), (0, .ref 0), (1, .int (nI 2)), (2, .int y), (3, .int (nI 2)), (4, .int v), (5, .int w)]) (st' := [.int (z.1 52 0), .int (z.1 52 0)]) (z' := z) rfl trivial ?_
          rw [show z.1 52 0 = cI (T 2).1 from (hT 2 (by decide)).2.1]
          refine ww_br xCC okX5_copy 28 (P := (cI (T 2).1) = (cI (T 2).1)) (t1 := 64) (t2 := 61) (r := []) rfl (fun c123 => ?_) (fun c123 => ?_)
          · skip
            have hkk : k = ku := hT_k hTs hTsu hk2 hk2u c123
            refine ww_blk xCC okX5_copy 31 3 (ps := []) (pc' := 69) (lv' := [(7, .ref 52), (6, .ref 52), (0, .ref 0), (1, .int (nI 2)), (2, .int y), (3, .int (nI 2)), (4, .int v), (5, .int w)]) (st' := [.int w, .int y, .ref 52]) (z' := z) rfl trivial ?_
            refine ww_callVEz xCC okX5_copy 34 (ix := 236) (t_X2_has l d y w n (xPull (esS 2) z) hn40 hc1) (by omega) (by decide) xyX2_has xiX2_has (Or.inr (List.mem_of_getElem? (i := 779) (by decide +kernel))) (by decide +kernel) (by decide) (fun q => by cases q) (q0 := 52) rfl rfl rfl rfl (rest := []) rfl (Nat.le_of_ble_eq_true rfl) rfl (fun z124 h125 => ?_) (fun z124 h125 => ?_)
            · skip
              rw [h125.2, xB_id]
              replace h125 := h125.1
              refine ww_br xCC okX5_copy 35 (P := 1 = 0) (t1 := 87) (t2 := 75) (r := []) rfl (fun q => absurd q (by decide)) (fun _ => ?_)
              refine ww_blk xCC okX5_copy 36 3 (ps := []) (pc' := 81) (lv' := [(7, .ref 52), (6, .ref 52), (0, .ref 0), (1, .int (nI 2)), (2, .int y), (3, .int (nI 2)), (4, .int v), (5, .int w)]) (st' := [.int w, .int v, .ref 52]) (z' := z) rfl trivial ?_
              refine ww_callVEz xCC okX5_copy 39 (ix := 236) (t_X2_has l d v w nu (xPull (esS 2) z) hn40u hc1u) (by omega) (by decide) xyX2_has xiX2_has (Or.inr (List.mem_of_getElem? (i := 779) (by decide +kernel))) (by decide +kernel) (by decide) (fun q => by cases q) (q0 := 52) rfl rfl rfl rfl (rest := []) rfl (Nat.le_of_ble_eq_true rfl) rfl (fun z127 h128 => ?_) (fun z127 h128 => ?_)
              · skip
                rw [h128.2, xB_id]
                replace h128 := h128.1
                refine ww_br xCC okX5_copy 40 (P := 1 = 0) (t1 := 87) (t2 := 90) (r := []) rfl (fun q => absurd q (by decide)) (fun _ => ?_)
                obtain ⟨m, hm, rfl⟩ := sNN (x := w) (n := 41) (by omega) (by omega)
                obtain ⟨i, hi, rfl⟩ := sNN (x := y) (n := 41) (by omega) (by omega)
                obtain ⟨j, hj, rfl⟩ := sNN (x := v) (n := 41) (by omega) (by omega)
                have qm := sTI (k := m) (by omega)
                have qi := sTI (k := i) (by omega)
                have qj := sTI (k := j) (by omega)
                have hp1 : (nI i).toNatClampNeg + (nI m).toNatClampNeg ≤ 40 := by rw [sCL (n := i) (by omega), sCL (n := m) (by omega)]; omega
                have hp2 : (nI j).toNatClampNeg + (nI m).toNatClampNeg ≤ 40 := by rw [sCL (n := j) (by omega), sCL (n := m) (by omega)]; omega
                refine ww_blk xCC okX5_copy 43 9 (ps := [¬ (nI i) < 0, ¬ (nI j) < 0, ¬ (nI m) < 0, (nI i).toNatClampNeg + (nI m).toNatClampNeg ≤ 40, (nI j).toNatClampNeg + (nI m).toNatClampNeg ≤ 40]) (pc' := 110) (lv' := [(7, .ref 52), (6, .ref 52), (0, .ref 0), (1, .int (nI 2)), (2, .int (nI i)), (3, .int (nI 2)), (4, .int (nI j)), (5, .int (nI m))]) (st' := [.int (nI m)]) (z' := (mCpy z 53 53 (nI i) (nI j) (nI m))) rfl ⟨(nI_n0 (by omega)), (nI_n0 (by omega)), (nI_n0 (by omega)), hp1, hp2⟩ ?_
                subst xhQ
                exact ww_iret xCC okX5_copy 52 xhr rfl rfl ⟨_, rfl, (by rw [sCopy_y (by decide) (by decide) hTs hTsu hkk ⟨hn40, hn40u⟩ (by omega) (by omega)]; exact ⟨rfl, SX_cpy (s := 2) (t := 2) (by decide) (by decide) hT hTs hTsu (by omega) (by omega) hn40 hn40u⟩)⟩
              · skip
                rw [h128.2, xB_id]
                replace h128 := h128.1
                refine ww_br xCC okX5_copy 40 (P := 0 = 0) (t1 := 87) (t2 := 90) (r := []) rfl (fun _ => ?_) (fun q => absurd (by decide) q)
                refine ww_blk xCC okX5_copy 41 1 (ps := []) (pc' := 89) (lv' := [(7, .ref 52), (6, .ref 52), (0, .ref 0), (1, .int (nI 2)), (2, .int y), (3, .int (nI 2)), (4, .int v), (5, .int w)]) (st' := [.int (-12)]) (z' := z) rfl trivial ?_
                subst xhQ
                exact ww_iret xCC okX5_copy 42 xhr rfl rfl ⟨_, rfl, (by rw [sCopy_o (by decide) (by decide) hTs hTsu hkk (by omega)]; exact ⟨rfl, hT, KU_rf z⟩)⟩
            · skip
              rw [h125.2, xB_id]
              replace h125 := h125.1
              refine ww_br xCC okX5_copy 35 (P := 0 = 0) (t1 := 87) (t2 := 75) (r := []) rfl (fun _ => ?_) (fun q => absurd (by decide) q)
              refine ww_blk xCC okX5_copy 41 1 (ps := []) (pc' := 89) (lv' := [(7, .ref 52), (6, .ref 52), (0, .ref 0), (1, .int (nI 2)), (2, .int y), (3, .int (nI 2)), (4, .int v), (5, .int w)]) (st' := [.int (-12)]) (z' := z) rfl trivial ?_
              subst xhQ
              exact ww_iret xCC okX5_copy 42 xhr rfl rfl ⟨_, rfl, (by rw [sCopy_o (by decide) (by decide) hTs hTsu hkk (by omega)]; exact ⟨rfl, hT, KU_rf z⟩)⟩
          · skip
            have hkk : k ≠ ku := fun q => c123 (hT_q hTs hTsu q)
            refine ww_blk xCC okX5_copy 29 1 (ps := []) (pc' := 63) (lv' := [(7, .ref 52), (6, .ref 52), (0, .ref 0), (1, .int (nI 2)), (2, .int y), (3, .int (nI 2)), (4, .int v), (5, .int w)]) (st' := [.int (-13)]) (z' := z) rfl trivial ?_
            subst xhQ
            exact ww_iret xCC okX5_copy 30 xhr rfl rfl ⟨_, rfl, (by rw [sCopy_k (by decide) (by decide) hTs hTsu hkk]; exact ⟨rfl, hT, KU_rf z⟩)⟩
    · skip
      rw [hr9]
      subst hu
      show ww xp l xe (xRm (d + 2)) xs xm xar xbl xme xc 8 xD xcs xad shX xAA xQ 12 [(6, .ref 52), (0, .ref 0), (1, .int (nI 2)), (2, .int y), (3, .int (nI 3)), (4, .int v), (5, .int w)] [.ref 54] z
      refine ww_blk xCC okX5_copy 7 3 (ps := []) (pc' := 19) (lv' := [(7, .ref 54), (6, .ref 52), (0, .ref 0), (1, .int (nI 2)), (2, .int y), (3, .int (nI 3)), (4, .int v), (5, .int w)]) (st' := []) (z' := z) rfl trivial ?_
      refine ww_blk xCC okX5_copy 10 2 (ps := []) (pc' := 27) (lv' := [(7, .ref 54), (6, .ref 52), (0, .ref 0), (1, .int (nI 2)), (2, .int y), (3, .int (nI 3)), (4, .int v), (5, .int w)]) (st' := []) (z' := z) rfl trivial ?_
      refine ww_blk xCC okX5_copy 14 3 (ps := []) (pc' := 33) (lv' := [(7, .ref 54), (6, .ref 52), (0, .ref 0), (1, .int (nI 2)), (2, .int y), (3, .int (nI 3)), (4, .int v), (5, .int w)]) (st' := [.int (-1), .int (z.1 52 0)]) (z' := z) rfl trivial ?_
      rw [show z.1 52 0 = cI (T 2).1 from (hT 2 (by decide)).2.1]
      refine ww_br xCC okX5_copy 17 (P := (cI (T 2).1) = (-1)) (t1 := 45) (t2 := 36) (r := []) rfl (fun c132 => ?_) (fun c132 => ?_)
      · skip
        have h0 := cI_m (by have q0 := (hT 0 (by decide)).1; have q1 := (hT 1 (by decide)).1; have q2 := (hT 2 (by decide)).1; have q3 := (hT 3 (by decide)).1; omega) c132
        refine ww_blk xCC okX5_copy 22 1 (ps := []) (pc' := 47) (lv' := [(7, .ref 54), (6, .ref 52), (0, .ref 0), (1, .int (nI 2)), (2, .int y), (3, .int (nI 3)), (4, .int v), (5, .int w)]) (st' := [.int (-11)]) (z' := z) rfl trivial ?_
        subst xhQ
        exact ww_iret xCC okX5_copy 23 xhr rfl rfl ⟨_, rfl, (by rw [sCopy_m (by decide) (by decide) (Or.inl h0)]; exact ⟨rfl, hT, KU_rf z⟩)⟩
      · skip
        have h0 := cI_nm c132
        refine ww_blk xCC okX5_copy 18 3 (ps := []) (pc' := 42) (lv' := [(7, .ref 54), (6, .ref 52), (0, .ref 0), (1, .int (nI 2)), (2, .int y), (3, .int (nI 3)), (4, .int v), (5, .int w)]) (st' := [.int (-1), .int (z.1 54 0)]) (z' := z) rfl trivial ?_
        rw [show z.1 54 0 = cI (T 3).1 from (hT 3 (by decide)).2.1]
        refine ww_br xCC okX5_copy 21 (P := (cI (T 3).1) = (-1)) (t1 := 45) (t2 := 48) (r := []) rfl (fun c133 => ?_) (fun c133 => ?_)
        · skip
          have h0u := cI_m (by have q0 := (hT 0 (by decide)).1; have q1 := (hT 1 (by decide)).1; have q2 := (hT 2 (by decide)).1; have q3 := (hT 3 (by decide)).1; omega) c133
          refine ww_blk xCC okX5_copy 22 1 (ps := []) (pc' := 47) (lv' := [(7, .ref 54), (6, .ref 52), (0, .ref 0), (1, .int (nI 2)), (2, .int y), (3, .int (nI 3)), (4, .int v), (5, .int w)]) (st' := [.int (-11)]) (z' := z) rfl trivial ?_
          subst xhQ
          exact ww_iret xCC okX5_copy 23 xhr rfl rfl ⟨_, rfl, (by rw [sCopy_m (by decide) (by decide) (Or.inr h0u)]; exact ⟨rfl, hT, KU_rf z⟩)⟩
        · skip
          have h0u := cI_nm c133
          obtain ⟨n, k, it, hTs, hk2, hn40, hc0, hc1, hcI⟩ := SY_1 (hT 2 (by decide)) h0
          obtain ⟨nu, ku, itu, hTsu, hk2u, hn40u, hc0u, hc1u, hcIu⟩ := SY_1 (hT 3 (by decide)) h0u
          refine ww_blk xCC okX5_copy 24 4 (ps := []) (pc' := 58) (lv' := [(7, .ref 54), (6, .ref 52), (0, .ref 0), (1, .int (nI 2)), (2, .int y), (3, .int (nI 3)), (4, .int v), (5, .int w)]) (st' := [.int (z.1 54 0), .int (z.1 52 0)]) (z' := z) rfl trivial ?_
          rw [show z.1 54 0 = cI (T 3).1 from (hT 3 (by decide)).2.1]
          rw [show z.1 52 0 = cI (T 2).1 from (hT 2 (by decide)).2.1]
          refine ww_br xCC okX5_copy 28 (P := (cI (T 2).1) = (cI (T 3).1)) (t1 := 64) (t2 := 61) (r := []) rfl (fun c134 => ?_) (fun c134 => ?_)
          · skip
            have hkk : k = ku := hT_k hTs hTsu hk2 hk2u c134
            refine ww_blk xCC okX5_copy 31 3 (ps := []) (pc' := 69) (lv' := [(7, .ref 54), (6, .ref 52), (0, .ref 0), (1, .int (nI 2)), (2, .int y), (3, .int (nI 3)), (4, .int v), (5, .int w)]) (st' := [.int w, .int y, .ref 52]) (z' := z) rfl trivial ?_
            refine ww_callVEz xCC okX5_copy 34 (ix := 236) (t_X2_has l d y w n (xPull (esS 2) z) hn40 hc1) (by omega) (by decide) xyX2_has xiX2_has (Or.inr (List.mem_of_getElem? (i := 779) (by decide +kernel))) (by decide +kernel) (by decide) (fun q => by cases q) (q0 := 52) rfl rfl rfl rfl (rest := []) rfl (Nat.le_of_ble_eq_true rfl) rfl (fun z135 h136 => ?_) (fun z135 h136 => ?_)
            · skip
              rw [h136.2, xB_id]
              replace h136 := h136.1
              refine ww_br xCC okX5_copy 35 (P := 1 = 0) (t1 := 87) (t2 := 75) (r := []) rfl (fun q => absurd q (by decide)) (fun _ => ?_)
              refine ww_blk xCC okX5_copy 36 3 (ps := []) (pc' := 81) (lv' := [(7, .ref 54), (6, .ref 52), (0, .ref 0), (1, .int (nI 2)), (2, .int y), (3, .int (nI 3)), (4, .int v), (5, .int w)]) (st' := [.int w, .int v, .ref 54]) (z' := z) rfl trivial ?_
              refine ww_callVEz xCC okX5_copy 39 (ix := 236) (t_X2_has l d v w nu (xPull (esS 3) z) hn40u hc1u) (by omega) (by decide) xyX2_has xiX2_has (Or.inr (List.mem_of_getElem? (i := 779) (by decide +kernel))) (by decide +kernel) (by decide) (fun q => by cases q) (q0 := 54) rfl rfl rfl rfl (rest := []) rfl (Nat.le_of_ble_eq_true rfl) rfl (fun z138 h139 => ?_) (fun z138 h139 => ?_)
              · skip
                rw [h139.2, xB_id]
                replace h139 := h139.1
                refine ww_br xCC okX5_copy 40 (P := 1 = 0) (t1 := 87) (t2 := 90) (r := []) rfl (fun q => absurd q (by decide)) (fun _ => ?_)
                obtain ⟨m, hm, rfl⟩ := sNN (x := w) (n := 41) (by omega) (by omega)
                obtain ⟨i, hi, rfl⟩ := sNN (x := y) (n := 41) (by omega) (by omega)
                obtain ⟨j, hj, rfl⟩ := sNN (x := v) (n := 41) (by omega) (by omega)
                have qm := sTI (k := m) (by omega)
                have qi := sTI (k := i) (by omega)
                have qj := sTI (k := j) (by omega)
                have hp1 : (nI i).toNatClampNeg + (nI m).toNatClampNeg ≤ 40 := by rw [sCL (n := i) (by omega), sCL (n := m) (by omega)]; omega
                have hp2 : (nI j).toNatClampNeg + (nI m).toNatClampNeg ≤ 40 := by rw [sCL (n := j) (by omega), sCL (n := m) (by omega)]; omega
                refine ww_blk xCC okX5_copy 43 9 (ps := [¬ (nI i) < 0, ¬ (nI j) < 0, ¬ (nI m) < 0, (nI i).toNatClampNeg + (nI m).toNatClampNeg ≤ 40, (nI j).toNatClampNeg + (nI m).toNatClampNeg ≤ 40]) (pc' := 110) (lv' := [(7, .ref 54), (6, .ref 52), (0, .ref 0), (1, .int (nI 2)), (2, .int (nI i)), (3, .int (nI 3)), (4, .int (nI j)), (5, .int (nI m))]) (st' := [.int (nI m)]) (z' := (mCpy z 53 55 (nI i) (nI j) (nI m))) rfl ⟨(nI_n0 (by omega)), (nI_n0 (by omega)), (nI_n0 (by omega)), hp1, hp2⟩ ?_
                subst xhQ
                exact ww_iret xCC okX5_copy 52 xhr rfl rfl ⟨_, rfl, (by rw [sCopy_y (by decide) (by decide) hTs hTsu hkk ⟨hn40, hn40u⟩ (by omega) (by omega)]; exact ⟨rfl, SX_cpy (s := 2) (t := 3) (by decide) (by decide) hT hTs hTsu (by omega) (by omega) hn40 hn40u⟩)⟩
              · skip
                rw [h139.2, xB_id]
                replace h139 := h139.1
                refine ww_br xCC okX5_copy 40 (P := 0 = 0) (t1 := 87) (t2 := 90) (r := []) rfl (fun _ => ?_) (fun q => absurd (by decide) q)
                refine ww_blk xCC okX5_copy 41 1 (ps := []) (pc' := 89) (lv' := [(7, .ref 54), (6, .ref 52), (0, .ref 0), (1, .int (nI 2)), (2, .int y), (3, .int (nI 3)), (4, .int v), (5, .int w)]) (st' := [.int (-12)]) (z' := z) rfl trivial ?_
                subst xhQ
                exact ww_iret xCC okX5_copy 42 xhr rfl rfl ⟨_, rfl, (by rw [sCopy_o (by decide) (by decide) hTs hTsu hkk (by omega)]; exact ⟨rfl, hT, KU_rf z⟩)⟩
            · skip
              rw [h136.2, xB_id]
              replace h136 := h136.1
              refine ww_br xCC okX5_copy 35 (P := 0 = 0) (t1 := 87) (t2 := 75) (r := []) rfl (fun _ => ?_) (fun q => absurd (by decide) q)
              refine ww_blk xCC okX5_copy 41 1 (ps := []) (pc' := 89) (lv' := [(7, .ref 54), (6, .ref 52), (0, .ref 0), (1, .int (nI 2)), (2, .int y), (3, .int (nI 3)), (4, .int v), (5, .int w)]) (st' := [.int (-12)]) (z' := z) rfl trivial ?_
              subst xhQ
              exact ww_iret xCC okX5_copy 42 xhr rfl rfl ⟨_, rfl, (by rw [sCopy_o (by decide) (by decide) hTs hTsu hkk (by omega)]; exact ⟨rfl, hT, KU_rf z⟩)⟩
          · skip
            have hkk : k ≠ ku := fun q => c134 (hT_q hTs hTsu q)
            refine ww_blk xCC okX5_copy 29 1 (ps := []) (pc' := 63) (lv' := [(7, .ref 54), (6, .ref 52), (0, .ref 0), (1, .int (nI 2)), (2, .int y), (3, .int (nI 3)), (4, .int v), (5, .int w)]) (st' := [.int (-13)]) (z' := z) rfl trivial ?_
            subst xhQ
            exact ww_iret xCC okX5_copy 30 xhr rfl rfl ⟨_, rfl, (by rw [sCopy_k (by decide) (by decide) hTs hTsu hkk]; exact ⟨rfl, hT, KU_rf z⟩)⟩
  · skip
    rw [hr9]
    subst hx
    show ww xp l xe (xRm (d + 2)) xs xm xar xbl xme xc 8 xD xcs xad shX xAA xQ 5 [(0, .ref 0), (1, .int (nI 3)), (2, .int y), (3, .int u), (4, .int v), (5, .int w)] [.ref 54] z
    refine ww_blk xCC okX5_copy 3 3 (ps := []) (pc' := 9) (lv' := [(6, .ref 54), (0, .ref 0), (1, .int (nI 3)), (2, .int y), (3, .int u), (4, .int v), (5, .int w)]) (st' := [.int u, .ref 0]) (z' := z) rfl trivial ?_
    refine ww_callVI xCC okX5_copy 6 (ix := 192) (t_X5_sheetAt l d u z) (by omega) (by decide) xyX5_sheetAt xiX5_sheetAt (Or.inl (lw_gt_of (List.mem_of_getElem? (i := 692) (by decide +kernel)) rfl)) rfl rfl rfl (rest := []) rfl (Nat.le_of_ble_eq_true rfl) rfl (fun r9 z9 h9 => ?_)
    obtain ⟨hz9, hr9⟩ := h9
    rw [hz9]
    rcases hr9 with ⟨hu, hr9⟩ | ⟨hu, hr9⟩ | ⟨hu, hr9⟩ | ⟨hu, hr9⟩ | ⟨hu, hr9⟩
    · skip
      rw [hr9]
      show ww xp l xe (xRm (d + 2)) xs xm xar xbl xme xc 8 xD xcs xad shX xAA xQ 12 [(6, .ref 54), (0, .ref 0), (1, .int (nI 3)), (2, .int y), (3, .int u), (4, .int v), (5, .int w)] [.null] z
      refine ww_blk xCC okX5_copy 7 3 (ps := []) (pc' := 19) (lv' := [(7, .null), (6, .ref 54), (0, .ref 0), (1, .int (nI 3)), (2, .int y), (3, .int u), (4, .int v), (5, .int w)]) (st' := []) (z' := z) rfl trivial ?_
      refine ww_blk xCC okX5_copy 10 2 (ps := []) (pc' := 24) (lv' := [(7, .null), (6, .ref 54), (0, .ref 0), (1, .int (nI 3)), (2, .int y), (3, .int u), (4, .int v), (5, .int w)]) (st' := []) (z' := z) rfl trivial ?_
      refine ww_blk xCC okX5_copy 12 1 (ps := []) (pc' := 26) (lv' := [(7, .null), (6, .ref 54), (0, .ref 0), (1, .int (nI 3)), (2, .int y), (3, .int u), (4, .int v), (5, .int w)]) (st' := [.int (-2)]) (z' := z) rfl trivial ?_
      subst xhQ
      exact ww_iret xCC okX5_copy 13 xhr rfl rfl ⟨_, rfl, (by rw [sCopy_b (by omega)]; exact ⟨rfl, hT, KU_rf z⟩)⟩
    · skip
      rw [hr9]
      subst hu
      show ww xp l xe (xRm (d + 2)) xs xm xar xbl xme xc 8 xD xcs xad shX xAA xQ 12 [(6, .ref 54), (0, .ref 0), (1, .int (nI 3)), (2, .int y), (3, .int (nI 0)), (4, .int v), (5, .int w)] [.ref 48] z
      refine ww_blk xCC okX5_copy 7 3 (ps := []) (pc' := 19) (lv' := [(7, .ref 48), (6, .ref 54), (0, .ref 0), (1, .int (nI 3)), (2, .int y), (3, .int (nI 0)), (4, .int v), (5, .int w)]) (st' := []) (z' := z) rfl trivial ?_
      refine ww_blk xCC okX5_copy 10 2 (ps := []) (pc' := 27) (lv' := [(7, .ref 48), (6, .ref 54), (0, .ref 0), (1, .int (nI 3)), (2, .int y), (3, .int (nI 0)), (4, .int v), (5, .int w)]) (st' := []) (z' := z) rfl trivial ?_
      refine ww_blk xCC okX5_copy 14 3 (ps := []) (pc' := 33) (lv' := [(7, .ref 48), (6, .ref 54), (0, .ref 0), (1, .int (nI 3)), (2, .int y), (3, .int (nI 0)), (4, .int v), (5, .int w)]) (st' := [.int (-1), .int (z.1 54 0)]) (z' := z) rfl trivial ?_
      rw [show z.1 54 0 = cI (T 3).1 from (hT 3 (by decide)).2.1]
      refine ww_br xCC okX5_copy 17 (P := (cI (T 3).1) = (-1)) (t1 := 45) (t2 := 36) (r := []) rfl (fun c145 => ?_) (fun c145 => ?_)
      · skip
        have h0 := cI_m (by have q0 := (hT 0 (by decide)).1; have q1 := (hT 1 (by decide)).1; have q2 := (hT 2 (by decide)).1; have q3 := (hT 3 (by decide)).1; omega) c145
        refine ww_blk xCC okX5_copy 22 1 (ps := []) (pc' := 47) (lv' := [(7, .ref 48), (6, .ref 54), (0, .ref 0), (1, .int (nI 3)), (2, .int y), (3, .int (nI 0)), (4, .int v), (5, .int w)]) (st' := [.int (-11)]) (z' := z) rfl trivial ?_
        subst xhQ
        exact ww_iret xCC okX5_copy 23 xhr rfl rfl ⟨_, rfl, (by rw [sCopy_m (by decide) (by decide) (Or.inl h0)]; exact ⟨rfl, hT, KU_rf z⟩)⟩
      · skip
        have h0 := cI_nm c145
        refine ww_blk xCC okX5_copy 18 3 (ps := []) (pc' := 42) (lv' := [(7, .ref 48), (6, .ref 54), (0, .ref 0), (1, .int (nI 3)), (2, .int y), (3, .int (nI 0)), (4, .int v), (5, .int w)]) (st' := [.int (-1), .int (z.1 48 0)]) (z' := z) rfl trivial ?_
        rw [show z.1 48 0 = cI (T 0).1 from (hT 0 (by decide)).2.1]
        refine ww_br xCC okX5_copy 21 (P := (cI (T 0).1) = (-1)) (t1 := 45) (t2 := 48) (r := []) rfl (fun c146 => ?_) (fun c146 => ?_)
        · skip
          have h0u := cI_m (by have q0 := (hT 0 (by decide)).1; have q1 := (hT 1 (by decide)).1; have q2 := (hT 2 (by decide)).1; have q3 := (hT 3 (by decide)).1; omega) c146
          refine ww_blk xCC okX5_copy 22 1 (ps := []) (pc' := 47) (lv' := [(7, .ref 48), (6, .ref 54), (0, .ref 0), (1, .int (nI 3)), (2, .int y), (3, .int (nI 0)), (4, .int v), (5, .int w)]) (st' := [.int (-11)]) (z' := z) rfl trivial ?_
          subst xhQ
          exact ww_iret xCC okX5_copy 23 xhr rfl rfl ⟨_, rfl, (by rw [sCopy_m (by decide) (by decide) (Or.inr h0u)]; exact ⟨rfl, hT, KU_rf z⟩)⟩
        · skip
          have h0u := cI_nm c146
          obtain ⟨n, k, it, hTs, hk2, hn40, hc0, hc1, hcI⟩ := SY_1 (hT 3 (by decide)) h0
          obtain ⟨nu, ku, itu, hTsu, hk2u, hn40u, hc0u, hc1u, hcIu⟩ := SY_1 (hT 0 (by decide)) h0u
          refine ww_blk xCC okX5_copy 24 4 (ps := []) (pc' := 58) (lv' := [(7, .ref 48), (6, .ref 54), (0, .ref 0), (1, .int (nI 3)), (2, .int y), (3, .int (nI 0)), (4, .int v), (5, .int w)]) (st' := [.int (z.1 48 0), .int (z.1 54 0)]) (z' := z) rfl trivial ?_
          rw [show z.1 48 0 = cI (T 0).1 from (hT 0 (by decide)).2.1]
          rw [show z.1 54 0 = cI (T 3).1 from (hT 3 (by decide)).2.1]
          refine ww_br xCC okX5_copy 28 (P := (cI (T 3).1) = (cI (T 0).1)) (t1 := 64) (t2 := 61) (r := []) rfl (fun c147 => ?_) (fun c147 => ?_)
          · skip
            have hkk : k = ku := hT_k hTs hTsu hk2 hk2u c147
            refine ww_blk xCC okX5_copy 31 3 (ps := []) (pc' := 69) (lv' := [(7, .ref 48), (6, .ref 54), (0, .ref 0), (1, .int (nI 3)), (2, .int y), (3, .int (nI 0)), (4, .int v), (5, .int w)]) (st' := [.int w, .int y, .ref 54]) (z' := z) rfl trivial ?_
            refine ww_callVEz xCC okX5_copy 34 (ix := 236) (t_X2_has l d y w n (xPull (esS 3) z) hn40 hc1) (by omega) (by decide) xyX2_has xiX2_has (Or.inr (List.mem_of_getElem? (i := 779) (by decide +kernel))) (by decide +kernel) (by decide) (fun q => by cases q) (q0 := 54) rfl rfl rfl rfl (rest := []) rfl (Nat.le_of_ble_eq_true rfl) rfl (fun z148 h149 => ?_) (fun z148 h149 => ?_)
            · skip
              rw [h149.2, xB_id]
              replace h149 := h149.1
              refine ww_br xCC okX5_copy 35 (P := 1 = 0) (t1 := 87) (t2 := 75) (r := []) rfl (fun q => absurd q (by decide)) (fun _ => ?_)
              refine ww_blk xCC okX5_copy 36 3 (ps := []) (pc' := 81) (lv' := [(7, .ref 48), (6, .ref 54), (0, .ref 0), (1, .int (nI 3)), (2, .int y), (3, .int (nI 0)), (4, .int v), (5, .int w)]) (st' := [.int w, .int v, .ref 48]) (z' := z) rfl trivial ?_
              refine ww_callVEz xCC okX5_copy 39 (ix := 236) (t_X2_has l d v w nu (xPull (esS 0) z) hn40u hc1u) (by omega) (by decide) xyX2_has xiX2_has (Or.inr (List.mem_of_getElem? (i := 779) (by decide +kernel))) (by decide +kernel) (by decide) (fun q => by cases q) (q0 := 48) rfl rfl rfl rfl (rest := []) rfl (Nat.le_of_ble_eq_true rfl) rfl (fun z151 h152 => ?_) (fun z151 h152 => ?_)
              · skip
                rw [h152.2, xB_id]
                replace h152 := h152.1
                refine ww_br xCC okX5_copy 40 (P := 1 = 0) (t1 := 87) (t2 := 90) (r := []) rfl (fun q => absurd q (by decide)) (fun _ => ?_)
                obtain ⟨m, hm, rfl⟩ := sNN (x := w) (n := 41) (by omega) (by omega)
                obtain ⟨i, hi, rfl⟩ := sNN (x := y) (n := 41) (by omega) (by omega)
                obtain ⟨j, hj, rfl⟩ := sNN (x := v) (n := 41) (by omega) (by omega)
                have qm := sTI (k := m) (by omega)
                have qi := sTI (k := i) (by omega)
                have qj := sTI (k := j) (by omega)
                have hp1 : (nI i).toNatClampNeg + (nI m).toNatClampNeg ≤ 40 := by rw [sCL (n := i) (by omega), sCL (n := m) (by omega)]; omega
                have hp2 : (nI j).toNatClampNeg + (nI m).toNatClampNeg ≤ 40 := by rw [sCL (n := j) (by omega), sCL (n := m) (by omega)]; omega
                refine ww_blk xCC okX5_copy 43 9 (ps := [¬ (nI i) < 0, ¬ (nI j) < 0, ¬ (nI m) < 0, (nI i).toNatClampNeg + (nI m).toNatClampNeg ≤ 40, (nI j).toNatClampNeg + (nI m).toNatClampNeg ≤ 40]) (pc' := 110) (lv' := [(7, .ref 48), (6, .ref 54), (0, .ref 0), (1, .int (nI 3)), (2, .int (nI i)), (3, .int (nI 0)), (4, .int (nI j)), (5, .int (nI m))]) (st' := [.int (nI m)]) (z' := (mCpy z 55 49 (nI i) (nI j) (nI m))) rfl ⟨(nI_n0 (by omega)), (nI_n0 (by omega)), (nI_n0 (by omega)), hp1, hp2⟩ ?_
                subst xhQ
                exact ww_iret xCC okX5_copy 52 xhr rfl rfl ⟨_, rfl, (by rw [sCopy_y (by decide) (by decide) hTs hTsu hkk ⟨hn40, hn40u⟩ (by omega) (by omega)]; exact ⟨rfl, SX_cpy (s := 3) (t := 0) (by decide) (by decide) hT hTs hTsu (by omega) (by omega) hn40 hn40u⟩)⟩
              · skip
                rw [h152.2, xB_id]
                replace h152 := h152.1
                refine ww_br xCC okX5_copy 40 (P := 0 = 0) (t1 := 87) (t2 := 90) (r := []) rfl (fun _ => ?_) (fun q => absurd (by decide) q)
                refine ww_blk xCC okX5_copy 41 1 (ps := []) (pc' := 89) (lv' := [(7, .ref 48), (6, .ref 54), (0, .ref 0), (1, .int (nI 3)), (2, .int y), (3, .int (nI 0)), (4, .int v), (5, .int w)]) (st' := [.int (-12)]) (z' := z) rfl trivial ?_
                subst xhQ
                exact ww_iret xCC okX5_copy 42 xhr rfl rfl ⟨_, rfl, (by rw [sCopy_o (by decide) (by decide) hTs hTsu hkk (by omega)]; exact ⟨rfl, hT, KU_rf z⟩)⟩
            · skip
              rw [h149.2, xB_id]
              replace h149 := h149.1
              refine ww_br xCC okX5_copy 35 (P := 0 = 0) (t1 := 87) (t2 := 75) (r := []) rfl (fun _ => ?_) (fun q => absurd (by decide) q)
              refine ww_blk xCC okX5_copy 41 1 (ps := []) (pc' := 89) (lv' := [(7, .ref 48), (6, .ref 54), (0, .ref 0), (1, .int (nI 3)), (2, .int y), (3, .int (nI 0)), (4, .int v), (5, .int w)]) (st' := [.int (-12)]) (z' := z) rfl trivial ?_
              subst xhQ
              exact ww_iret xCC okX5_copy 42 xhr rfl rfl ⟨_, rfl, (by rw [sCopy_o (by decide) (by decide) hTs hTsu hkk (by omega)]; exact ⟨rfl, hT, KU_rf z⟩)⟩
          · skip
            have hkk : k ≠ ku := fun q => c147 (hT_q hTs hTsu q)
            refine ww_blk xCC okX5_copy 29 1 (ps := []) (pc' := 63) (lv' := [(7, .ref 48), (6, .ref 54), (0, .ref 0), (1, .int (nI 3)), (2, .int y), (3, .int (nI 0)), (4, .int v), (5, .int w)]) (st' := [.int (-13)]) (z' := z) rfl trivial ?_
            subst xhQ
            exact ww_iret xCC okX5_copy 30 xhr rfl rfl ⟨_, rfl, (by rw [sCopy_k (by decide) (by decide) hTs hTsu hkk]; exact ⟨rfl, hT, KU_rf z⟩)⟩
    · skip
      rw [hr9]
      subst hu
      show ww xp l xe (xRm (d + 2)) xs xm xar xbl xme xc 8 xD xcs xad shX xAA xQ 12 [(6, .ref 54), (0, .ref 0), (1, .int (nI 3)), (2, .int y), (3, .int (nI 1)), (4, .int v), (5, .int w)] [.ref 50] z
      refine ww_blk xCC okX5_copy 7 3 (ps := []) (pc' := 19) (lv' := [(7, .ref 50), (6, .ref 54), (0, .ref 0), (1, .int (nI 3)), (2, .int y), (3, .int (nI 1)), (4, .int v), (5, .int w)]) (st' := []) (z' := z) rfl trivial ?_
      refine ww_blk xCC okX5_copy 10 2 (ps := []) (pc' := 27) (lv' := [(7, .ref 50), (6, .ref 54), (0, .ref 0), (1, .int (nI 3)), (2, .int y), (3, .int (nI 1)), (4, .int v), (5, .int w)]) (st' := []) (z' := z) rfl trivial ?_
      refine ww_blk xCC okX5_copy 14 3 (ps := []) (pc' := 33) (lv' := [(7, .ref 50), (6, .ref 54), (0, .ref 0), (1, .int (nI 3)), (2, .int y), (3, .int (nI 1)), (4, .int v), (5, .int w)]) (st' := [.int (-1), .int (z.1 54 0)]) (z' := z) rfl trivial ?_
      rw [show z.1 54 0 = cI (T 3).1 from (hT 3 (by decide)).2.1]
      refine ww_br xCC okX5_copy 17 (P := (cI (T 3).1) = (-1)) (t1 := 45) (t2 := 36) (r := []) rfl (fun c156 => ?_) (fun c156 => ?_)
      · skip
        have h0 := cI_m (by have q0 := (hT 0 (by decide)).1; have q1 := (hT 1 (by decide)).1; have q2 := (hT 2 (by decide)).1; have q3 := (hT 3 (by decide)).1; omega) c156
        refine ww_blk xCC okX5_copy 22 1 (ps := []) (pc' := 47) (lv' := [(7, .ref 50), (6, .ref 54), (0, .ref 0), (1, .int (nI 3)), (2, .int y), (3, .int (nI 1)), (4, .int v), (5, .int w)]) (st' := [.int (-11)]) (z' := z) rfl trivial ?_
        subst xhQ
        exact ww_iret xCC okX5_copy 23 xhr rfl rfl ⟨_, rfl, (by rw [sCopy_m (by decide) (by decide) (Or.inl h0)]; exact ⟨rfl, hT, KU_rf z⟩)⟩
      · skip
        have h0 := cI_nm c156
        refine ww_blk xCC okX5_copy 18 3 (ps := []) (pc' := 42) (lv' := [(7, .ref 50), (6, .ref 54), (0, .ref 0), (1, .int (nI 3)), (2, .int y), (3, .int (nI 1)), (4, .int v), (5, .int w)]) (st' := [.int (-1), .int (z.1 50 0)]) (z' := z) rfl trivial ?_
        rw [show z.1 50 0 = cI (T 1).1 from (hT 1 (by decide)).2.1]
        refine ww_br xCC okX5_copy 21 (P := (cI (T 1).1) = (-1)) (t1 := 45) (t2 := 48) (r := []) rfl (fun c157 => ?_) (fun c157 => ?_)
        · skip
          have h0u := cI_m (by have q0 := (hT 0 (by decide)).1; have q1 := (hT 1 (by decide)).1; have q2 := (hT 2 (by decide)).1; have q3 := (hT 3 (by decide)).1; omega) c157
          refine ww_blk xCC okX5_copy 22 1 (ps := []) (pc' := 47) (lv' := [(7, .ref 50), (6, .ref 54), (0, .ref 0), (1, .int (nI 3)), (2, .int y), (3, .int (nI 1)), (4, .int v), (5, .int w)]) (st' := [.int (-11)]) (z' := z) rfl trivial ?_
          subst xhQ
          exact ww_iret xCC okX5_copy 23 xhr rfl rfl ⟨_, rfl, (by rw [sCopy_m (by decide) (by decide) (Or.inr h0u)]; exact ⟨rfl, hT, KU_rf z⟩)⟩
        · skip
          have h0u := cI_nm c157
          obtain ⟨n, k, it, hTs, hk2, hn40, hc0, hc1, hcI⟩ := SY_1 (hT 3 (by decide)) h0
          obtain ⟨nu, ku, itu, hTsu, hk2u, hn40u, hc0u, hc1u, hcIu⟩ := SY_1 (hT 1 (by decide)) h0u
          refine ww_blk xCC okX5_copy 24 4 (ps := []) (pc' := 58) (lv' := [(7, .ref 50), (6, .ref 54), (0, .ref 0), (1, .int (nI 3)), (2, .int y), (3, .int (nI 1)), (4, .int v), (5, .int w)]) (st' := [.int (z.1 50 0), .int (z.1 54 0)]) (z' := z) rfl trivial ?_
          rw [show z.1 50 0 = cI (T 1).1 from (hT 1 (by decide)).2.1]
          rw [show z.1 54 0 = cI (T 3).1 from (hT 3 (by decide)).2.1]
          refine ww_br xCC okX5_copy 28 (P := (cI (T 3).1) = (cI (T 1).1)) (t1 := 64) (t2 := 61) (r := []) rfl (fun c158 => ?_) (fun c158 => ?_)
          · skip
            have hkk : k = ku := hT_k hTs hTsu hk2 hk2u c158
            refine ww_blk xCC okX5_copy 31 3 (ps := []) (pc' := 69) (lv' := [(7, .ref 50), (6, .ref 54), (0, .ref 0), (1, .int (nI 3)), (2, .int y), (3, .int (nI 1)), (4, .int v), (5, .int w)]) (st' := [.int w, .int y, .ref 54]) (z' := z) rfl trivial ?_
            refine ww_callVEz xCC okX5_copy 34 (ix := 236) (t_X2_has l d y w n (xPull (esS 3) z) hn40 hc1) (by omega) (by decide) xyX2_has xiX2_has (Or.inr (List.mem_of_getElem? (i := 779) (by decide +kernel))) (by decide +kernel) (by decide) (fun q => by cases q) (q0 := 54) rfl rfl rfl rfl (rest := []) rfl (Nat.le_of_ble_eq_true rfl) rfl (fun z159 h160 => ?_) (fun z159 h160 => ?_)
            · skip
              rw [h160.2, xB_id]
              replace h160 := h160.1
              refine ww_br xCC okX5_copy 35 (P := 1 = 0) (t1 := 87) (t2 := 75) (r := []) rfl (fun q => absurd q (by decide)) (fun _ => ?_)
              refine ww_blk xCC okX5_copy 36 3 (ps := []) (pc' := 81) (lv' := [(7, .ref 50), (6, .ref 54), (0, .ref 0), (1, .int (nI 3)), (2, .int y), (3, .int (nI 1)), (4, .int v), (5, .int w)]) (st' := [.int w, .int v, .ref 50]) (z' := z) rfl trivial ?_
              refine ww_callVEz xCC okX5_copy 39 (ix := 236) (t_X2_has l d v w nu (xPull (esS 1) z) hn40u hc1u) (by omega) (by decide) xyX2_has xiX2_has (Or.inr (List.mem_of_getElem? (i := 779) (by decide +kernel))) (by decide +kernel) (by decide) (fun q => by cases q) (q0 := 50) rfl rfl rfl rfl (rest := []) rfl (Nat.le_of_ble_eq_true rfl) rfl (fun z162 h163 => ?_) (fun z162 h163 => ?_)
              · skip
                rw [h163.2, xB_id]
                replace h163 := h163.1
                refine ww_br xCC okX5_copy 40 (P := 1 = 0) (t1 := 87) (t2 := 90) (r := []) rfl (fun q => absurd q (by decide)) (fun _ => ?_)
                obtain ⟨m, hm, rfl⟩ := sNN (x := w) (n := 41) (by omega) (by omega)
                obtain ⟨i, hi, rfl⟩ := sNN (x := y) (n := 41) (by omega) (by omega)
                obtain ⟨j, hj, rfl⟩ := sNN (x := v) (n := 41) (by omega) (by omega)
                have qm := sTI (k := m) (by omega)
                have qi := sTI (k := i) (by omega)
                have qj := sTI (k := j) (by omega)
                have hp1 : (nI i).toNatClampNeg + (nI m).toNatClampNeg ≤ 40 := by rw [sCL (n := i) (by omega), sCL (n := m) (by omega)]; omega
                have hp2 : (nI j).toNatClampNeg + (nI m).toNatClampNeg ≤ 40 := by rw [sCL (n := j) (by omega), sCL (n := m) (by omega)]; omega
                refine ww_blk xCC okX5_copy 43 9 (ps := [¬ (nI i) < 0, ¬ (nI j) < 0, ¬ (nI m) < 0, (nI i).toNatClampNeg + (nI m).toNatClampNeg ≤ 40, (nI j).toNatClampNeg + (nI m).toNatClampNeg ≤ 40]) (pc' := 110) (lv' := [(7, .ref 50), (6, .ref 54), (0, .ref 0), (1, .int (nI 3)), (2, .int (nI i)), (3, .int (nI 1)), (4, .int (nI j)), (5, .int (nI m))]) (st' := [.int (nI m)]) (z' := (mCpy z 55 51 (nI i) (nI j) (nI m))) rfl ⟨(nI_n0 (by omega)), (nI_n0 (by omega)), (nI_n0 (by omega)), hp1, hp2⟩ ?_
                subst xhQ
                exact ww_iret xCC okX5_copy 52 xhr rfl rfl ⟨_, rfl, (by rw [sCopy_y (by decide) (by decide) hTs hTsu hkk ⟨hn40, hn40u⟩ (by omega) (by omega)]; exact ⟨rfl, SX_cpy (s := 3) (t := 1) (by decide) (by decide) hT hTs hTsu (by omega) (by omega) hn40 hn40u⟩)⟩
              · skip
                rw [h163.2, xB_id]
                replace h163 := h163.1
                refine ww_br xCC okX5_copy 40 (P := 0 = 0) (t1 := 87) (t2 := 90) (r := []) rfl (fun _ => ?_) (fun q => absurd (by decide) q)
                refine ww_blk xCC okX5_copy 41 1 (ps := []) (pc' := 89) (lv' := [(7, .ref 50), (6, .ref 54), (0, .ref 0), (1, .int (nI 3)), (2, .int y), (3, .int (nI 1)), (4, .int v), (5, .int w)]) (st' := [.int (-12)]) (z' := z) rfl trivial ?_
                subst xhQ
                exact ww_iret xCC okX5_copy 42 xhr rfl rfl ⟨_, rfl, (by rw [sCopy_o (by decide) (by decide) hTs hTsu hkk (by omega)]; exact ⟨rfl, hT, KU_rf z⟩)⟩
            · skip
              rw [h160.2, xB_id]
              replace h160 := h160.1
              refine ww_br xCC okX5_copy 35 (P := 0 = 0) (t1 := 87) (t2 := 75) (r := []) rfl (fun _ => ?_) (fun q => absurd (by decide) q)
              refine ww_blk xCC okX5_copy 41 1 (ps := []) (pc' := 89) (lv' := [(7, .ref 50), (6, .ref 54), (0, .ref 0), (1, .int (nI 3)), (2, .int y), (3, .int (nI 1)), (4, .int v), (5, .int w)]) (st' := [.int (-12)]) (z' := z) rfl trivial ?_
              subst xhQ
              exact ww_iret xCC okX5_copy 42 xhr rfl rfl ⟨_, rfl, (by rw [sCopy_o (by decide) (by decide) hTs hTsu hkk (by omega)]; exact ⟨rfl, hT, KU_rf z⟩)⟩
          · skip
            have hkk : k ≠ ku := fun q => c158 (hT_q hTs hTsu q)
            refine ww_blk xCC okX5_copy 29 1 (ps := []) (pc' := 63) (lv' := [(7, .ref 50), (6, .ref 54), (0, .ref 0), (1, .int (nI 3)), (2, .int y), (3, .int (nI 1)), (4, .int v), (5, .int w)]) (st' := [.int (-13)]) (z' := z) rfl trivial ?_
            subst xhQ
            exact ww_iret xCC okX5_copy 30 xhr rfl rfl ⟨_, rfl, (by rw [sCopy_k (by decide) (by decide) hTs hTsu hkk]; exact ⟨rfl, hT, KU_rf z⟩)⟩
    · skip
      rw [hr9]
      subst hu
      show ww xp l xe (xRm (d + 2)) xs xm xar xbl xme xc 8 xD xcs xad shX xAA xQ 12 [(6, .ref 54), (0, .ref 0), (1, .int (nI 3)), (2, .int y), (3, .int (nI 2)), (4, .int v), (5, .int w)] [.ref 52] z
      refine ww_blk xCC okX5_copy 7 3 (ps := []) (pc' := 19) (lv' := [(7, .ref 52), (6, .ref 54), (0, .ref 0), (1, .int (nI 3)), (2, .int y), (3, .int (nI 2)), (4, .int v), (5, .int w)]) (st' := []) (z' := z) rfl trivial ?_
      refine ww_blk xCC okX5_copy 10 2 (ps := []) (pc' := 27) (lv' := [(7, .ref 52), (6, .ref 54), (0, .ref 0), (1, .int (nI 3)), (2, .int y), (3, .int (nI 2)), (4, .int v), (5, .int w)]) (st' := []) (z' := z) rfl trivial ?_
      refine ww_blk xCC okX5_copy 14 3 (ps := []) (pc' := 33) (lv' := [(7, .ref 52), (6, .ref 54), (0, .ref 0), (1, .int (nI 3)), (2, .int y), (3, .int (nI 2)), (4, .int v), (5, .int w)]) (st' := [.int (-1), .int (z.1 54 0)]) (z' := z) rfl trivial ?_
      rw [show z.1 54 0 = cI (T 3).1 from (hT 3 (by decide)).2.1]
      refine ww_br xCC okX5_copy 17 (P := (cI (T 3).1) = (-1)) (t1 := 45) (t2 := 36) (r := []) rfl (fun c167 => ?_) (fun c167 => ?_)
      · skip
        have h0 := cI_m (by have q0 := (hT 0 (by decide)).1; have q1 := (hT 1 (by decide)).1; have q2 := (hT 2 (by decide)).1; have q3 := (hT 3 (by decide)).1; omega) c167
        refine ww_blk xCC okX5_copy 22 1 (ps := []) (pc' := 47) (lv' := [(7, .ref 52), (6, .ref 54), (0, .ref 0), (1, .int (nI 3)), (2, .int y), (3, .int (nI 2)), (4, .int v), (5, .int w)]) (st' := [.int (-11)]) (z' := z) rfl trivial ?_
        subst xhQ
        exact ww_iret xCC okX5_copy 23 xhr rfl rfl ⟨_, rfl, (by rw [sCopy_m (by decide) (by decide) (Or.inl h0)]; exact ⟨rfl, hT, KU_rf z⟩)⟩
      · skip
        have h0 := cI_nm c167
        refine ww_blk xCC okX5_copy 18 3 (ps := []) (pc' := 42) (lv' := [(7, .ref 52), (6, .ref 54), (0, .ref 0), (1, .int (nI 3)), (2, .int y), (3, .int (nI 2)), (4, .int v), (5, .int w)]) (st' := [.int (-1), .int (z.1 52 0)]) (z' := z) rfl trivial ?_
        rw [show z.1 52 0 = cI (T 2).1 from (hT 2 (by decide)).2.1]
        refine ww_br xCC okX5_copy 21 (P := (cI (T 2).1) = (-1)) (t1 := 45) (t2 := 48) (r := []) rfl (fun c168 => ?_) (fun c168 => ?_)
        · skip
          have h0u := cI_m (by have q0 := (hT 0 (by decide)).1; have q1 := (hT 1 (by decide)).1; have q2 := (hT 2 (by decide)).1; have q3 := (hT 3 (by decide)).1; omega) c168
          refine ww_blk xCC okX5_copy 22 1 (ps := []) (pc' := 47) (lv' := [(7, .ref 52), (6, .ref 54), (0, .ref 0), (1, .int (nI 3)), (2, .int y), (3, .int (nI 2)), (4, .int v), (5, .int w)]) (st' := [.int (-11)]) (z' := z) rfl trivial ?_
          subst xhQ
          exact ww_iret xCC okX5_copy 23 xhr rfl rfl ⟨_, rfl, (by rw [sCopy_m (by decide) (by decide) (Or.inr h0u)]; exact ⟨rfl, hT, KU_rf z⟩)⟩
        · skip
          have h0u := cI_nm c168
          obtain ⟨n, k, it, hTs, hk2, hn40, hc0, hc1, hcI⟩ := SY_1 (hT 3 (by decide)) h0
          obtain ⟨nu, ku, itu, hTsu, hk2u, hn40u, hc0u, hc1u, hcIu⟩ := SY_1 (hT 2 (by decide)) h0u
          refine ww_blk xCC okX5_copy 24 4 (ps := []) (pc' := 58) (lv' := [(7, .ref 52), (6, .ref 54), (0, .ref 0), (1, .int (nI 3)), (2, .int y), (3, .int (nI 2)), (4, .int v), (5, .int w)]) (st' := [.int (z.1 52 0), .int (z.1 54 0)]) (z' := z) rfl trivial ?_
          rw [show z.1 52 0 = cI (T 2).1 from (hT 2 (by decide)).2.1]
          rw [show z.1 54 0 = cI (T 3).1 from (hT 3 (by decide)).2.1]
          refine ww_br xCC okX5_copy 28 (P := (cI (T 3).1) = (cI (T 2).1)) (t1 := 64) (t2 := 61) (r := []) rfl (fun c169 => ?_) (fun c169 => ?_)
          · skip
            have hkk : k = ku := hT_k hTs hTsu hk2 hk2u c169
            refine ww_blk xCC okX5_copy 31 3 (ps := []) (pc' := 69) (lv' := [(7, .ref 52), (6, .ref 54), (0, .ref 0), (1, .int (nI 3)), (2, .int y), (3, .int (nI 2)), (4, .int v), (5, .int w)]) (st' := [.int w, .int y, .ref 54]) (z' := z) rfl trivial ?_
            refine ww_callVEz xCC okX5_copy 34 (ix := 236) (t_X2_has l d y w n (xPull (esS 3) z) hn40 hc1) (by omega) (by decide) xyX2_has xiX2_has (Or.inr (List.mem_of_getElem? (i := 779) (by decide +kernel))) (by decide +kernel) (by decide) (fun q => by cases q) (q0 := 54) rfl rfl rfl rfl (rest := []) rfl (Nat.le_of_ble_eq_true rfl) rfl (fun z170 h171 => ?_) (fun z170 h171 => ?_)
            · skip
              rw [h171.2, xB_id]
              replace h171 := h171.1
              refine ww_br xCC okX5_copy 35 (P := 1 = 0) (t1 := 87) (t2 := 75) (r := []) rfl (fun q => absurd q (by decide)) (fun _ => ?_)
              refine ww_blk xCC okX5_copy 36 3 (ps := []) (pc' := 81) (lv' := [(7, .ref 52), (6, .ref 54), (0, .ref 0), (1, .int (nI 3)), (2, .int y), (3, .int (nI 2)), (4, .int v), (5, .int w)]) (st' := [.int w, .int v, .ref 52]) (z' := z) rfl trivial ?_
              refine ww_callVEz xCC okX5_copy 39 (ix := 236) (t_X2_has l d v w nu (xPull (esS 2) z) hn40u hc1u) (by omega) (by decide) xyX2_has xiX2_has (Or.inr (List.mem_of_getElem? (i := 779) (by decide +kernel))) (by decide +kernel) (by decide) (fun q => by cases q) (q0 := 52) rfl rfl rfl rfl (rest := []) rfl (Nat.le_of_ble_eq_true rfl) rfl (fun z173 h174 => ?_) (fun z173 h174 => ?_)
              · skip
                rw [h174.2, xB_id]
                replace h174 := h174.1
                refine ww_br xCC okX5_copy 40 (P := 1 = 0) (t1 := 87) (t2 := 90) (r := []) rfl (fun q => absurd q (by decide)) (fun _ => ?_)
                obtain ⟨m, hm, rfl⟩ := sNN (x := w) (n := 41) (by omega) (by omega)
                obtain ⟨i, hi, rfl⟩ := sNN (x := y) (n := 41) (by omega) (by omega)
                obtain ⟨j, hj, rfl⟩ := sNN (x := v) (n := 41) (by omega) (by omega)
                have qm := sTI (k := m) (by omega)
                have qi := sTI (k := i) (by omega)
                have qj := sTI (k := j) (by omega)
                have hp1 : (nI i).toNatClampNeg + (nI m).toNatClampNeg ≤ 40 := by rw [sCL (n := i) (by omega), sCL (n := m) (by omega)]; omega
                have hp2 : (nI j).toNatClampNeg + (nI m).toNatClampNeg ≤ 40 := by rw [sCL (n := j) (by omega), sCL (n := m) (by omega)]; omega
                refine ww_blk xCC okX5_copy 43 9 (ps := [¬ (nI i) < 0, ¬ (nI j) < 0, ¬ (nI m) < 0, (nI i).toNatClampNeg + (nI m).toNatClampNeg ≤ 40, (nI j).toNatClampNeg + (nI m).toNatClampNeg ≤ 40]) (pc' := 110) (lv' := [(7, .ref 52), (6, .ref 54), (0, .ref 0), (1, .int (nI 3)), (2, .int (nI i)), (3, .int (nI 2)), (4, .int (nI j)), (5, .int (nI m))]) (st' := [.int (nI m)]) (z' := (mCpy z 55 53 (nI i) (nI j) (nI m))) rfl ⟨(nI_n0 (by omega)), (nI_n0 (by omega)), (nI_n0 (by omega)), hp1, hp2⟩ ?_
                subst xhQ
                exact ww_iret xCC okX5_copy 52 xhr rfl rfl ⟨_, rfl, (by rw [sCopy_y (by decide) (by decide) hTs hTsu hkk ⟨hn40, hn40u⟩ (by omega) (by omega)]; exact ⟨rfl, SX_cpy (s := 3) (t := 2) (by decide) (by decide) hT hTs hTsu (by omega) (by omega) hn40 hn40u⟩)⟩
              · skip
                rw [h174.2, xB_id]
                replace h174 := h174.1
                refine ww_br xCC okX5_copy 40 (P := 0 = 0) (t1 := 87) (t2 := 90) (r := []) rfl (fun _ => ?_) (fun q => absurd (by decide) q)
                refine ww_blk xCC okX5_copy 41 1 (ps := []) (pc' := 89) (lv' := [(7, .ref 52), (6, .ref 54), (0, .ref 0), (1, .int (nI 3)), (2, .int y), (3, .int (nI 2)), (4, .int v), (5, .int w)]) (st' := [.int (-12)]) (z' := z) rfl trivial ?_
                subst xhQ
                exact ww_iret xCC okX5_copy 42 xhr rfl rfl ⟨_, rfl, (by rw [sCopy_o (by decide) (by decide) hTs hTsu hkk (by omega)]; exact ⟨rfl, hT, KU_rf z⟩)⟩
            · skip
              rw [h171.2, xB_id]
              replace h171 := h171.1
              refine ww_br xCC okX5_copy 35 (P := 0 = 0) (t1 := 87) (t2 := 75) (r := []) rfl (fun _ => ?_) (fun q => absurd (by decide) q)
              refine ww_blk xCC okX5_copy 41 1 (ps := []) (pc' := 89) (lv' := [(7, .ref 52), (6, .ref 54), (0, .ref 0), (1, .int (nI 3)), (2, .int y), (3, .int (nI 2)), (4, .int v), (5, .int w)]) (st' := [.int (-12)]) (z' := z) rfl trivial ?_
              subst xhQ
              exact ww_iret xCC okX5_copy 42 xhr rfl rfl ⟨_, rfl, (by rw [sCopy_o (by decide) (by decide) hTs hTsu hkk (by omega)]; exact ⟨rfl, hT, KU_rf z⟩)⟩
          · skip
            have hkk : k ≠ ku := fun q => c169 (hT_q hTs hTsu q)
            refine ww_blk xCC okX5_copy 29 1 (ps := []) (pc' := 63) (lv' := [(7, .ref 52), (6, .ref 54), (0, .ref 0), (1, .int (nI 3)), (2, .int y), (3, .int (nI 2)), (4, .int v), (5, .int w)]) (st' := [.int (-13)]) (z' := z) rfl trivial ?_
            subst xhQ
            exact ww_iret xCC okX5_copy 30 xhr rfl rfl ⟨_, rfl, (by rw [sCopy_k (by decide) (by decide) hTs hTsu hkk]; exact ⟨rfl, hT, KU_rf z⟩)⟩
    · skip
      rw [hr9]
      subst hu
      show ww xp l xe (xRm (d + 2)) xs xm xar xbl xme xc 8 xD xcs xad shX xAA xQ 12 [(6, .ref 54), (0, .ref 0), (1, .int (nI 3)), (2, .int y), (3, .int (nI 3)), (4, .int v), (5, .int w)] [.ref 54] z
      refine ww_blk xCC okX5_copy 7 3 (ps := []) (pc' := 19) (lv' := [(7, .ref 54), (6, .ref 54), (0, .ref 0), (1, .int (nI 3)), (2, .int y), (3, .int (nI 3)), (4, .int v), (5, .int w)]) (st' := []) (z' := z) rfl trivial ?_
      refine ww_blk xCC okX5_copy 10 2 (ps := []) (pc' := 27) (lv' := [(7, .ref 54), (6, .ref 54), (0, .ref 0), (1, .int (nI 3)), (2, .int y), (3, .int (nI 3)), (4, .int v), (5, .int w)]) (st' := []) (z' := z) rfl trivial ?_
      refine ww_blk xCC okX5_copy 14 3 (ps := []) (pc' := 33) (lv' := [(7, .ref 54), (6, .ref 54), (0, .ref 0), (1, .int (nI 3)), (2, .int y), (3, .int (nI 3)), (4, .int v), (5, .int w)]) (st' := [.int (-1), .int (z.1 54 0)]) (z' := z) rfl trivial ?_
      rw [show z.1 54 0 = cI (T 3).1 from (hT 3 (by decide)).2.1]
      refine ww_br xCC okX5_copy 17 (P := (cI (T 3).1) = (-1)) (t1 := 45) (t2 := 36) (r := []) rfl (fun c178 => ?_) (fun c178 => ?_)
      · skip
        have h0 := cI_m (by have q0 := (hT 0 (by decide)).1; have q1 := (hT 1 (by decide)).1; have q2 := (hT 2 (by decide)).1; have q3 := (hT 3 (by decide)).1; omega) c178
        refine ww_blk xCC okX5_copy 22 1 (ps := []) (pc' := 47) (lv' := [(7, .ref 54), (6, .ref 54), (0, .ref 0), (1, .int (nI 3)), (2, .int y), (3, .int (nI 3)), (4, .int v), (5, .int w)]) (st' := [.int (-11)]) (z' := z) rfl trivial ?_
        subst xhQ
        exact ww_iret xCC okX5_copy 23 xhr rfl rfl ⟨_, rfl, (by rw [sCopy_m (by decide) (by decide) (Or.inl h0)]; exact ⟨rfl, hT, KU_rf z⟩)⟩
      · skip
        have h0 := cI_nm c178
        refine ww_blk xCC okX5_copy 18 3 (ps := []) (pc' := 42) (lv' := [(7, .ref 54), (6, .ref 54), (0, .ref 0), (1, .int (nI 3)), (2, .int y), (3, .int (nI 3)), (4, .int v), (5, .int w)]) (st' := [.int (-1), .int (z.1 54 0)]) (z' := z) rfl trivial ?_
        rw [show z.1 54 0 = cI (T 3).1 from (hT 3 (by decide)).2.1]
        refine ww_br xCC okX5_copy 21 (P := (cI (T 3).1) = (-1)) (t1 := 45) (t2 := 48) (r := []) rfl (fun c179 => ?_) (fun c179 => ?_)
        · skip
          have h0u := cI_m (by have q0 := (hT 0 (by decide)).1; have q1 := (hT 1 (by decide)).1; have q2 := (hT 2 (by decide)).1; have q3 := (hT 3 (by decide)).1; omega) c179
          refine ww_blk xCC okX5_copy 22 1 (ps := []) (pc' := 47) (lv' := [(7, .ref 54), (6, .ref 54), (0, .ref 0), (1, .int (nI 3)), (2, .int y), (3, .int (nI 3)), (4, .int v), (5, .int w)]) (st' := [.int (-11)]) (z' := z) rfl trivial ?_
          subst xhQ
          exact ww_iret xCC okX5_copy 23 xhr rfl rfl ⟨_, rfl, (by rw [sCopy_m (by decide) (by decide) (Or.inr h0u)]; exact ⟨rfl, hT, KU_rf z⟩)⟩
        · skip
          have h0u := cI_nm c179
          obtain ⟨n, k, it, hTs, hk2, hn40, hc0, hc1, hcI⟩ := SY_1 (hT 3 (by decide)) h0
          obtain ⟨nu, ku, itu, hTsu, hk2u, hn40u, hc0u, hc1u, hcIu⟩ := SY_1 (hT 3 (by decide)) h0u
          refine ww_blk xCC okX5_copy 24 4 (ps := []) (pc' := 58) (lv' := [(7, .ref 54), (6, .ref 54), (0, .ref 0), (1, .int (nI 3)), (2, .int y), (3, .int (nI 3)), (4, .int v), (5, .int w)]) (st' := [.int (z.1 54 0), .int (z.1 54 0)]) (z' := z) rfl trivial ?_
          rw [show z.1 54 0 = cI (T 3).1 from (hT 3 (by decide)).2.1]
          refine ww_br xCC okX5_copy 28 (P := (cI (T 3).1) = (cI (T 3).1)) (t1 := 64) (t2 := 61) (r := []) rfl (fun c180 => ?_) (fun c180 => ?_)
          · skip
            have hkk : k = ku := hT_k hTs hTsu hk2 hk2u c180
            refine ww_blk xCC okX5_copy 31 3 (ps := []) (pc' := 69) (lv' := [(7, .ref 54), (6, .ref 54), (0, .ref 0), (1, .int (nI 3)), (2, .int y), (3, .int (nI 3)), (4, .int v), (5, .int w)]) (st' := [.int w, .int y, .ref 54]) (z' := z) rfl trivial ?_
            refine ww_callVEz xCC okX5_copy 34 (ix := 236) (t_X2_has l d y w n (xPull (esS 3) z) hn40 hc1) (by omega) (by decide) xyX2_has xiX2_has (Or.inr (List.mem_of_getElem? (i := 779) (by decide +kernel))) (by decide +kernel) (by decide) (fun q => by cases q) (q0 := 54) rfl rfl rfl rfl (rest := []) rfl (Nat.le_of_ble_eq_true rfl) rfl (fun z181 h182 => ?_) (fun z181 h182 => ?_)
            · skip
              rw [h182.2, xB_id]
              replace h182 := h182.1
              refine ww_br xCC okX5_copy 35 (P := 1 = 0) (t1 := 87) (t2 := 75) (r := []) rfl (fun q => absurd q (by decide)) (fun _ => ?_)
              refine ww_blk xCC okX5_copy 36 3 (ps := []) (pc' := 81) (lv' := [(7, .ref 54), (6, .ref 54), (0, .ref 0), (1, .int (nI 3)), (2, .int y), (3, .int (nI 3)), (4, .int v), (5, .int w)]) (st' := [.int w, .int v, .ref 54]) (z' := z) rfl trivial ?_
              refine ww_callVEz xCC okX5_copy 39 (ix := 236) (t_X2_has l d v w nu (xPull (esS 3) z) hn40u hc1u) (by omega) (by decide) xyX2_has xiX2_has (Or.inr (List.mem_of_getElem? (i := 779) (by decide +kernel))) (by decide +kernel) (by decide) (fun q => by cases q) (q0 := 54) rfl rfl rfl rfl (rest := []) rfl (Nat.le_of_ble_eq_true rfl) rfl (fun z184 h185 => ?_) (fun z184 h185 => ?_)
              · skip
                rw [h185.2, xB_id]
                replace h185 := h185.1
                refine ww_br xCC okX5_copy 40 (P := 1 = 0) (t1 := 87) (t2 := 90) (r := []) rfl (fun q => absurd q (by decide)) (fun _ => ?_)
                obtain ⟨m, hm, rfl⟩ := sNN (x := w) (n := 41) (by omega) (by omega)
                obtain ⟨i, hi, rfl⟩ := sNN (x := y) (n := 41) (by omega) (by omega)
                obtain ⟨j, hj, rfl⟩ := sNN (x := v) (n := 41) (by omega) (by omega)
                have qm := sTI (k := m) (by omega)
                have qi := sTI (k := i) (by omega)
                have qj := sTI (k := j) (by omega)
                have hp1 : (nI i).toNatClampNeg + (nI m).toNatClampNeg ≤ 40 := by rw [sCL (n := i) (by omega), sCL (n := m) (by omega)]; omega
                have hp2 : (nI j).toNatClampNeg + (nI m).toNatClampNeg ≤ 40 := by rw [sCL (n := j) (by omega), sCL (n := m) (by omega)]; omega
                refine ww_blk xCC okX5_copy 43 9 (ps := [¬ (nI i) < 0, ¬ (nI j) < 0, ¬ (nI m) < 0, (nI i).toNatClampNeg + (nI m).toNatClampNeg ≤ 40, (nI j).toNatClampNeg + (nI m).toNatClampNeg ≤ 40]) (pc' := 110) (lv' := [(7, .ref 54), (6, .ref 54), (0, .ref 0), (1, .int (nI 3)), (2, .int (nI i)), (3, .int (nI 3)), (4, .int (nI j)), (5, .int (nI m))]) (st' := [.int (nI m)]) (z' := (mCpy z 55 55 (nI i) (nI j) (nI m))) rfl ⟨(nI_n0 (by omega)), (nI_n0 (by omega)), (nI_n0 (by omega)), hp1, hp2⟩ ?_
                subst xhQ
                exact ww_iret xCC okX5_copy 52 xhr rfl rfl ⟨_, rfl, (by rw [sCopy_y (by decide) (by decide) hTs hTsu hkk ⟨hn40, hn40u⟩ (by omega) (by omega)]; exact ⟨rfl, SX_cpy (s := 3) (t := 3) (by decide) (by decide) hT hTs hTsu (by omega) (by omega) hn40 hn40u⟩)⟩
              · skip
                rw [h185.2, xB_id]
                replace h185 := h185.1
                refine ww_br xCC okX5_copy 40 (P := 0 = 0) (t1 := 87) (t2 := 90) (r := []) rfl (fun _ => ?_) (fun q => absurd (by decide) q)
                refine ww_blk xCC okX5_copy 41 1 (ps := []) (pc' := 89) (lv' := [(7, .ref 54), (6, .ref 54), (0, .ref 0), (1, .int (nI 3)), (2, .int y), (3, .int (nI 3)), (4, .int v), (5, .int w)]) (st' := [.int (-12)]) (z' := z) rfl trivial ?_
                subst xhQ
                exact ww_iret xCC okX5_copy 42 xhr rfl rfl ⟨_, rfl, (by rw [sCopy_o (by decide) (by decide) hTs hTsu hkk (by omega)]; exact ⟨rfl, hT, KU_rf z⟩)⟩
            · skip
              rw [h182.2, xB_id]
              replace h182 := h182.1
              refine ww_br xCC okX5_copy 35 (P := 0 = 0) (t1 := 87) (t2 := 75) (r := []) rfl (fun _ => ?_) (fun q => absurd (by decide) q)
              refine ww_blk xCC okX5_copy 41 1 (ps := []) (pc' := 89) (lv' := [(7, .ref 54), (6, .ref 54), (0, .ref 0), (1, .int (nI 3)), (2, .int y), (3, .int (nI 3)), (4, .int v), (5, .int w)]) (st' := [.int (-12)]) (z' := z) rfl trivial ?_
              subst xhQ
              exact ww_iret xCC okX5_copy 42 xhr rfl rfl ⟨_, rfl, (by rw [sCopy_o (by decide) (by decide) hTs hTsu hkk (by omega)]; exact ⟨rfl, hT, KU_rf z⟩)⟩
          · skip
            have hkk : k ≠ ku := fun q => c180 (hT_q hTs hTsu q)
            refine ww_blk xCC okX5_copy 29 1 (ps := []) (pc' := 63) (lv' := [(7, .ref 54), (6, .ref 54), (0, .ref 0), (1, .int (nI 3)), (2, .int y), (3, .int (nI 3)), (4, .int v), (5, .int w)]) (st' := [.int (-13)]) (z' := z) rfl trivial ?_
            subst xhQ
            exact ww_iret xCC okX5_copy 30 xhr rfl rfl ⟨_, rfl, (by rw [sCopy_k (by decide) (by decide) hTs hTsu hkk]; exact ⟨rfl, hT, KU_rf z⟩)⟩
