/-! the class's reader through its recursion -/
theorem TQ_w {z : xMem} {n i : Nat} {bt : Nat → Nat} {x y : Int32} (h : TQ z n bt) : TQ (mPut (mPut z 2 i x) 0 6 y) n bt := by
  obtain ⟨a1, a2, a3, a4⟩ := h
  refine ⟨?_, a2, fun i hi => ?_, a4⟩
  · simp [mPut_rd, a1]
  · simp [mPut_rd, a3 i hi]
theorem gX_ws {z z' : xMem} {bt : Nat → Nat} {n pos c : Nat} {ws : List Nat} (h : gX z bt n pos ws) (hne : (pTok bt n pos).1 ≠ 10021) (hs : tkX z' bt n (pTok bt n pos).2.2 ∧ K3 (mPut (mPut z 2 ws.length (nI c)) 0 6 (nI (ws.length + 1))) z') : gX z' bt n (pTok bt n pos).2.2 (ws ++ [c]) := by
  have hgt := pTok_gt h.2.2.1 hne
  refine ⟨TQ_K hs.2 (TQ_w h.1), hs.1, hgt.2, ⟨?_, fun i hi => ?_⟩, ?_⟩
  · rw [hs.2.2 6 (by omega), mPut_at, List.length_append]; rfl
  · rw [List.length_append, List.length_singleton] at hi
    rw [hs.2.1 2 (by decide), mPut_nq (by decide), mPut_rd, if_pos rfl]
    by_cases e : i = ws.length
    · rw [if_pos e, e, gd_r (Nat.le_refl _), Nat.sub_self]
      rfl
    · rw [if_neg e, gd_l (by omega)]
      exact h.2.2.2.1.2 i (by omega)
  · rw [List.length_append, List.length_singleton]
    have := h.2.2.2.2
    omega
set_option maxHeartbeats 4000000 in
set_option maxRecDepth 20000 in
theorem t_X3_negated (l : Launch) (d : Nat) (bt : Nat → Nat) (n f : Nat) (ih : ∀ g, g < f → XG l bt n yX3_compared cX3_compared 3 3 g) (z : xMem) (o pos : Nat) (ws : List Nat) (tag : Nat) (cs : List Nat) (p : Nat) (hG : gX z bt n pos ws) (h : pG bt n f 2 o pos = (tag, cs, p)) (ht : tag ≠ 0) (ho : o ≤ 5) : XMz l (d + f + 9) yX3_negated cX3_negated 4 (some .boolean) shT2 [.ref 0, .int (nI o)] z (fun z' => tag = 1 ∧ gX z' bt n p (ws ++ cs) ∧ KC z z') (fun z' => tag = 2 ∧ z'.1 0 2 = nI p ∧ KC z z') := by
  refine XM.of (by decide) (Nat.le_of_ble_eq_true rfl) (fun xp xe xs xm xar xbl xme xc xD xcs xad xAA xCC xhr => ?_)
  generalize xhQ : MQ xbl _ xar xs 0 0 xAA = xQ
  show ww xp l xe (xRm (d + f + 9)) xs xm xar xbl xme xc 4 xD xcs xad shT2 xAA xQ 0 [(0, .ref 0), (1, .int (nI o))] [] z
  refine ww_blk xCC okX3_negated 0 2 (ps := []) (pc' := 2) (lv' := [(2, .int 0), (0, .ref 0), (1, .int (nI o))]) (st' := []) (z' := z) rfl trivial ?_
  have L2 : ∀ (n2 : Nat) (j : Nat) (g : Nat) (pos1 : Nat) (x1 : List Nat) (zL : xMem), g < n2 → (g ≤ f) → (gX zL bt n pos1 ws) → (pG bt n g 2 (o + j) pos1 = (tag, x1, p)) → (tag = 1 → cs = x1 ++ List.replicate j 10013) → (ws.length + j ≤ pos1) → (KC z zL) → (o + j ≤ 5) → ww xp l xe (xRm (d + f + 9)) xs xm xar xbl xme xc 4 xD xcs xad shT2 xAA xQ 2 [(2, .int (nI j)), (0, .ref 0), (1, .int (nI o))] [] zL := by
    intro n2
    induction n2 with
    | zero =>
      intro j g pos1 x1 zL hmu2
      exact absurd hmu2 (Nat.not_lt_zero _)
    | succ n2 ih2 =>
      intro j g pos1 x1 zL hmu2 e2_0 e2_1 e2_2 e2_3 e2_4 e2_5 e2_6
      have hpn := e2_1.2.2.1
      have hn160 := hG.1.2.1
      have htl := pTok_lt bt n pos1
      refine ww_blk xCC okX3_negated 2 2 (ps := []) (pc' := 6) (lv' := [(2, .int (nI j)), (0, .ref 0), (1, .int (nI o))]) (st' := [.int 160, .int (nI j)]) (z' := zL) rfl trivial ?_
      refine ww_br xCC okX3_negated 4 (P := 160 ≤ (nI j)) (t1 := 38) (t2 := 9) (r := []) rfl (fun c1 => ?_) (fun c1 => ?_)
      · skip
        replace c1 : 160 ≤ j := (sLE (a := 160) (b := j) (by omega) (by omega)).mp c1
        have hnq : ¬ (pTok bt n pos1).1 = 10013 := by omega
        obtain ⟨g1, hg1, hc1⟩ := pG_not e2_2 ht
        obtain ⟨-, hs⟩ := hc1.resolve_left (fun q => hnq q.1)
        refine ww_blk xCC okX3_negated 20 4 (ps := []) (pc' := 42) (lv' := [(2, .int (nI j)), (0, .ref 0), (1, .int (nI o))]) (st' := [.int ((nI o) + (nI j)), .ref 0]) (z' := zL) rfl trivial ?_
        rw [nI_add o j]
        refine ww_callVIz xCC okX3_negated 24 (ix := 48) (ih g1 (by omega) (d + 0) zL (o + j) pos1 ws tag x1 p e2_1 hs ht (by omega)) (by omega) (by decide) xyX3_compared xiX3_compared (Or.inl (lw_gt_of (List.mem_of_getElem? (i := 546) (by decide +kernel)) rfl)) rfl rfl rfl (rest := []) rfl (Nat.le_of_ble_eq_true rfl) rfl (fun zA hA => ?_) (fun zA hA => ?_)
        · skip
          have hlx := pG_len bt n g1 3 _ _ x1 p (by decide) e2_1.2.2.1 (by rw [hs, hA.1])
          rw [if_pos (by decide)] at hlx
          refine ww_br xCC okX3_negated 25 (P := 1 = 0) (t1 := 48) (t2 := 50) (r := []) rfl (fun q => absurd q (by decide)) (fun _ => ?_)
          refine ww_blk xCC okX3_negated 28 2 (ps := []) (pc' := 52) (lv' := [(3, .int 0), (2, .int (nI j)), (0, .ref 0), (1, .int (nI o))]) (st' := []) (z' := zA) rfl trivial ?_
          have L52 : ∀ (n52 : Nat) (i : Nat) (zM : xMem), j - i < n52 → (i ≤ j) → (gX zM bt n p (ws ++ x1 ++ List.replicate i 10013)) → (KC z zM) → ww xp l xe (xRm (d + f + 9)) xs xm xar xbl xme xc 4 xD xcs xad shT2 xAA xQ 52 [(3, .int (nI i)), (2, .int (nI j)), (0, .ref 0), (1, .int (nI o))] [] zM := by
            intro n52
            induction n52 with
            | zero =>
              intro i zM hmu52
              exact absurd hmu52 (Nat.not_lt_zero _)
            | succ n52 ih52 =>
              intro i zM hmu52 e52_0 e52_1 e52_2
              have hpp := e52_1.2.2.1
              refine ww_blk xCC okX3_negated 30 2 (ps := []) (pc' := 54) (lv' := [(3, .int (nI i)), (2, .int (nI j)), (0, .ref 0), (1, .int (nI o))]) (st' := [.int (nI j), .int (nI i)]) (z' := zM) rfl trivial ?_
              refine ww_br xCC okX3_negated 32 (P := (nI j) ≤ (nI i)) (t1 := 70) (t2 := 57) (r := []) rfl (fun c3 => ?_) (fun c3 => ?_)
              · skip
                replace c3 : j ≤ i := (sLE (a := j) (b := i) (by omega) (by omega)).mp c3
                refine ww_blk xCC okX3_negated 38 1 (ps := []) (pc' := 71) (lv' := [(3, .int (nI i)), (2, .int (nI j)), (0, .ref 0), (1, .int (nI o))]) (st' := [.int 1]) (z' := zM) rfl trivial ?_
                subst xhQ
                exact ww_iret xCC okX3_negated 39 xhr rfl (by decide) (Or.inl ⟨rfl, ⟨hA.1, (by rw [e2_3 hA.1, ← List.append_assoc, show j = i by omega]; exact e52_1), e52_2⟩⟩)
              · skip
                replace c3 : ¬ j ≤ i := fun q => c3 ((sLE (a := j) (b := i) (by omega) (by omega)).mpr q)
                refine ww_blk xCC okX3_negated 33 2 (ps := []) (pc' := 61) (lv' := [(3, .int (nI i)), (2, .int (nI j)), (0, .ref 0), (1, .int (nI o))]) (st' := [.int 10013, .ref 0]) (z' := zM) rfl trivial ?_
                refine ww_callVIv xCC okX3_negated 35 (ix := 41) (t_X3_write l d 10013 (ws ++ x1 ++ List.replicate i 10013).length zM e52_1.2.2.2.1.1 (by rw [List.length_append, List.length_append, List.length_replicate]; omega)) (by omega) (by decide) xyX3_write xiX3_write (Or.inl (lw_gt_of (List.mem_of_getElem? (i := 566) (by decide +kernel)) rfl)) rfl rfl rfl (rest := []) rfl (Nat.le_of_ble_eq_true rfl) rfl (fun zW hW => ?_)
                have hGW : gX zW bt n p (ws ++ x1 ++ List.replicate i 10013 ++ [10013]) := by rw [hW]; exact gX_write e52_1 (by rw [List.length_append, List.length_append, List.length_replicate]; omega)
                have hWK : KC zM zW := by rw [hW]; exact KC_w
                refine ww_blk xCC okX3_negated 36 2 (ps := []) (pc' := 52) (lv' := [(3, .int ((nI i) + 1)), (2, .int (nI j)), (0, .ref 0), (1, .int (nI o))]) (st' := []) (z' := zW) rfl trivial ?_
                rw [show nI i + (1 : Int32) = nI (i + 1) from nI_add i 1]
                exact ww_cut [0, 1, 2, 3] (xlc rfl (xlc rfl (xlc rfl (xlc rfl rfl)))) rfl rfl (ih52 (i + 1) zW (by omega) (by omega) (by rw [List.replicate_succ', ← List.append_assoc]; exact hGW) (KC_tr e52_2 hWK))
          exact ww_cut [0, 1, 2, 3] (xlc (congrArg Value.int (show (0 : Int32) = nI 0 from rfl)) (xlc rfl (xlc rfl (xlc rfl rfl)))) rfl rfl (L52 (j - 0 + 1) 0 zA (Nat.lt_succ_self _) (Nat.zero_le _) (by rw [List.replicate_zero, List.append_nil]; exact hA.2.1) (KC_tr e2_5 hA.2.2))
        · skip
          refine ww_br xCC okX3_negated 25 (P := 0 = 0) (t1 := 48) (t2 := 50) (r := []) rfl (fun _ => ?_) (fun q => absurd (by decide) q)
          refine ww_blk xCC okX3_negated 26 1 (ps := []) (pc' := 49) (lv' := [(2, .int (nI j)), (0, .ref 0), (1, .int (nI o))]) (st' := [.int 0]) (z' := zA) rfl trivial ?_
          subst xhQ
          exact ww_iret xCC okX3_negated 27 xhr rfl (by decide) (Or.inr ⟨rfl, ⟨hA.1, hA.2.1, KC_tr e2_5 hA.2.2⟩⟩)
      · skip
        replace c1 : ¬ 160 ≤ j := fun q => c1 ((sLE (a := 160) (b := j) (by omega) (by omega)).mpr q)
        refine ww_blk xCC okX3_negated 5 3 (ps := []) (pc' := 16) (lv' := [(2, .int (nI j)), (0, .ref 0), (1, .int (nI o))]) (st' := [.int 10013, .int (zL.1 0 4)]) (z' := zL) rfl trivial ?_
        rw [show zL.1 0 4 = nI (pTok bt n pos1).1 from e2_1.2.1.2.2]
        refine ww_br xCC okX3_negated 8 (P := (nI ((pTok bt n pos1).1)) = 10013) (t1 := 19) (t2 := 38) (r := []) rfl (fun c6 => ?_) (fun c6 => ?_)
        · skip
          replace c6 : ((pTok bt n pos1).1) = 10013 := (sEQ (a := ((pTok bt n pos1).1)) (b := 10013) (by omega) (by omega)).mp c6
          have hop : (pTok bt n pos1).1 = 10013 := by omega
          obtain ⟨g1, hg1, hc1⟩ := pG_not e2_2 ht
          obtain ⟨-, hc⟩ := hc1.resolve_right (fun q => q.1 hop)
          refine ww_blk xCC okX3_negated 9 4 (ps := []) (pc' := 23) (lv' := [(2, .int (nI j)), (0, .ref 0), (1, .int (nI o))]) (st' := [.int 5, .int ((nI o) + (nI j))]) (z' := zL) rfl trivial ?_
          rw [nI_add o j]
          refine ww_br xCC okX3_negated 13 (P := (nI (o + j)) < 5) (t1 := 28) (t2 := 26) (r := []) rfl (fun c7 => ?_) (fun c7 => ?_)
          · skip
            replace c7 : (o + j) < 5 := (sLT (a := (o + j)) (b := 5) (by omega) (by omega)).mp c7
            obtain ⟨-, t2, x2, p2, hs2, ht2, hc2⟩ := hc.resolve_left (fun q => by have := q.1; omega)
            have h9 : pG bt n g1 2 (o + (j + 1)) (pTok bt n pos1).2.2 = (tag, x2, p) := by rw [← Nat.add_assoc, hs2]; rcases hc2 with ⟨a, b, c⟩ | ⟨a, b, -, c⟩ <;> rw [a, b, c]
            have hx9 : tag = 1 → x1 = x2 ++ [10013] := fun q => (hc2.resolve_left (fun w => by have := w.2.1; omega)).2.2.1
            have hgt := pTok_gt e2_1.2.2.1 (show (pTok bt n pos1).1 ≠ 10021 by omega)
            refine ww_blk xCC okX3_negated 16 1 (ps := []) (pc' := 29) (lv' := [(2, .int (nI j)), (0, .ref 0), (1, .int (nI o))]) (st' := [.ref 0]) (z' := zL) rfl trivial ?_
            refine ww_callVIv xCC okX3_negated 17 (ix := 28) (t_X3_step l (d + f) n _ bt zL e2_1.1 e2_1.2.1.2.1 (pTok_le e2_1.2.2.1).1) (by omega) (by decide) xyX3_step xiX3_step (Or.inl (lw_gt_of (List.mem_of_getElem? (i := 448) (by decide +kernel)) rfl)) rfl rfl rfl (rest := []) rfl (Nat.le_of_ble_eq_true rfl) rfl (fun zS hS => ?_)
            have hGS := gX_step e2_1 hS
            have hGSK := KC_3 hS.2
            refine ww_blk xCC okX3_negated 18 2 (ps := []) (pc' := 2) (lv' := [(2, .int ((nI j) + 1)), (0, .ref 0), (1, .int (nI o))]) (st' := []) (z' := zS) rfl trivial ?_
            rw [show nI j + (1 : Int32) = nI (j + 1) from nI_add j 1]
            exact ww_cut [0, 1, 2] (xlc rfl (xlc rfl (xlc rfl rfl))) rfl rfl (ih2 (j + 1) g1 ((pTok bt n pos1).2.2) x2 zS (by omega) (by omega) hGS h9 (fun q => by rw [e2_3 q, hx9 q, List.append_assoc, List.replicate_succ]; rfl) (by omega) (KC_tr e2_5 hGSK) (by omega))
          · skip
            replace c7 : ¬ (o + j) < 5 := fun q => c7 ((sLT (a := (o + j)) (b := 5) (by omega) (by omega)).mpr q)
            obtain ⟨-, htag, hp⟩ := hc.resolve_right (fun q => by have := q.1; omega)
            refine ww_blk xCC okX3_negated 14 1 (ps := []) (pc' := 27) (lv' := [(2, .int (nI j)), (0, .ref 0), (1, .int (nI o))]) (st' := [.int 0]) (z' := zL) rfl trivial ?_
            subst xhQ
            exact ww_iret xCC okX3_negated 15 xhr rfl (by decide) (Or.inr ⟨rfl, ⟨htag, (by rw [hp]; exact e2_1.2.1.1), e2_5⟩⟩)
        · skip
          replace c6 : ¬ ((pTok bt n pos1).1) = 10013 := fun q => c6 ((sEQ (a := ((pTok bt n pos1).1)) (b := 10013) (by omega) (by omega)).mpr q)
          have hnq : ¬ (pTok bt n pos1).1 = 10013 := by omega
          obtain ⟨g1, hg1, hc1⟩ := pG_not e2_2 ht
          obtain ⟨-, hs⟩ := hc1.resolve_left (fun q => hnq q.1)
          refine ww_blk xCC okX3_negated 20 4 (ps := []) (pc' := 42) (lv' := [(2, .int (nI j)), (0, .ref 0), (1, .int (nI o))]) (st' := [.int ((nI o) + (nI j)), .ref 0]) (z' := zL) rfl trivial ?_
          rw [nI_add o j]
          refine ww_callVIz xCC okX3_negated 24 (ix := 48) (ih g1 (by omega) (d + 0) zL (o + j) pos1 ws tag x1 p e2_1 hs ht (by omega)) (by omega) (by decide) xyX3_compared xiX3_compared (Or.inl (lw_gt_of (List.mem_of_getElem? (i := 546) (by decide +kernel)) rfl)) rfl rfl rfl (rest := []) rfl (Nat.le_of_ble_eq_true rfl) rfl (fun zA hA => ?_) (fun zA hA => ?_)
          · skip
            have hlx := pG_len bt n g1 3 _ _ x1 p (by decide) e2_1.2.2.1 (by rw [hs, hA.1])
            rw [if_pos (by decide)] at hlx
            refine ww_br xCC okX3_negated 25 (P := 1 = 0) (t1 := 48) (t2 := 50) (r := []) rfl (fun q => absurd q (by decide)) (fun _ => ?_)
            refine ww_blk xCC okX3_negated 28 2 (ps := []) (pc' := 52) (lv' := [(3, .int 0), (2, .int (nI j)), (0, .ref 0), (1, .int (nI o))]) (st' := []) (z' := zA) rfl trivial ?_
            have L52 : ∀ (n52 : Nat) (i : Nat) (zM : xMem), j - i < n52 → (i ≤ j) → (gX zM bt n p (ws ++ x1 ++ List.replicate i 10013)) → (KC z zM) → ww xp l xe (xRm (d + f + 9)) xs xm xar xbl xme xc 4 xD xcs xad shT2 xAA xQ 52 [(3, .int (nI i)), (2, .int (nI j)), (0, .ref 0), (1, .int (nI o))] [] zM := by
              intro n52
              induction n52 with
              | zero =>
                intro i zM hmu52
                exact absurd hmu52 (Nat.not_lt_zero _)
              | succ n52 ih52 =>
                intro i zM hmu52 e52_0 e52_1 e52_2
                have hpp := e52_1.2.2.1
                refine ww_blk xCC okX3_negated 30 2 (ps := []) (pc' := 54) (lv' := [(3, .int (nI i)), (2, .int (nI j)), (0, .ref 0), (1, .int (nI o))]) (st' := [.int (nI j), .int (nI i)]) (z' := zM) rfl trivial ?_
                refine ww_br xCC okX3_negated 32 (P := (nI j) ≤ (nI i)) (t1 := 70) (t2 := 57) (r := []) rfl (fun c10 => ?_) (fun c10 => ?_)
                · skip
                  replace c10 : j ≤ i := (sLE (a := j) (b := i) (by omega) (by omega)).mp c10
                  refine ww_blk xCC okX3_negated 38 1 (ps := []) (pc' := 71) (lv' := [(3, .int (nI i)), (2, .int (nI j)), (0, .ref 0), (1, .int (nI o))]) (st' := [.int 1]) (z' := zM) rfl trivial ?_
                  subst xhQ
                  exact ww_iret xCC okX3_negated 39 xhr rfl (by decide) (Or.inl ⟨rfl, ⟨hA.1, (by rw [e2_3 hA.1, ← List.append_assoc, show j = i by omega]; exact e52_1), e52_2⟩⟩)
                · skip
                  replace c10 : ¬ j ≤ i := fun q => c10 ((sLE (a := j) (b := i) (by omega) (by omega)).mpr q)
                  refine ww_blk xCC okX3_negated 33 2 (ps := []) (pc' := 61) (lv' := [(3, .int (nI i)), (2, .int (nI j)), (0, .ref 0), (1, .int (nI o))]) (st' := [.int 10013, .ref 0]) (z' := zM) rfl trivial ?_
                  refine ww_callVIv xCC okX3_negated 35 (ix := 41) (t_X3_write l d 10013 (ws ++ x1 ++ List.replicate i 10013).length zM e52_1.2.2.2.1.1 (by rw [List.length_append, List.length_append, List.length_replicate]; omega)) (by omega) (by decide) xyX3_write xiX3_write (Or.inl (lw_gt_of (List.mem_of_getElem? (i := 566) (by decide +kernel)) rfl)) rfl rfl rfl (rest := []) rfl (Nat.le_of_ble_eq_true rfl) rfl (fun zW hW => ?_)
                  have hGW : gX zW bt n p (ws ++ x1 ++ List.replicate i 10013 ++ [10013]) := by rw [hW]; exact gX_write e52_1 (by rw [List.length_append, List.length_append, List.length_replicate]; omega)
                  have hWK : KC zM zW := by rw [hW]; exact KC_w
                  refine ww_blk xCC okX3_negated 36 2 (ps := []) (pc' := 52) (lv' := [(3, .int ((nI i) + 1)), (2, .int (nI j)), (0, .ref 0), (1, .int (nI o))]) (st' := []) (z' := zW) rfl trivial ?_
                  rw [show nI i + (1 : Int32) = nI (i + 1) from nI_add i 1]
                  exact ww_cut [0, 1, 2, 3] (xlc rfl (xlc rfl (xlc rfl (xlc rfl rfl)))) rfl rfl (ih52 (i + 1) zW (by omega) (by omega) (by rw [List.replicate_succ', ← List.append_assoc]; exact hGW) (KC_tr e52_2 hWK))
            exact ww_cut [0, 1, 2, 3] (xlc (congrArg Value.int (show (0 : Int32) = nI 0 from rfl)) (xlc rfl (xlc rfl (xlc rfl rfl)))) rfl rfl (L52 (j - 0 + 1) 0 zA (Nat.lt_succ_self _) (Nat.zero_le _) (by rw [List.replicate_zero, List.append_nil]; exact hA.2.1) (KC_tr e2_5 hA.2.2))
          · skip
            refine ww_br xCC okX3_negated 25 (P := 0 = 0) (t1 := 48) (t2 := 50) (r := []) rfl (fun _ => ?_) (fun q => absurd (by decide) q)
            refine ww_blk xCC okX3_negated 26 1 (ps := []) (pc' := 49) (lv' := [(2, .int (nI j)), (0, .ref 0), (1, .int (nI o))]) (st' := [.int 0]) (z' := zA) rfl trivial ?_
            subst xhQ
            exact ww_iret xCC okX3_negated 27 xhr rfl (by decide) (Or.inr ⟨rfl, ⟨hA.1, hA.2.1, KC_tr e2_5 hA.2.2⟩⟩)
  exact ww_cut [0, 1, 2] (xlc (congrArg Value.int (show (0 : Int32) = nI 0 from rfl)) (xlc rfl (xlc rfl rfl))) rfl rfl (L2 (f + 1) 0 f pos cs z (Nat.lt_succ_self _) (Nat.le_refl f) hG h (fun _ => by simp) hG.2.2.2.2 (KC_rf z) ho)

set_option maxHeartbeats 4000000 in
set_option maxRecDepth 20000 in
theorem t_X3_single (l : Launch) (d : Nat) (bt : Nat → Nat) (n f : Nat) (ih : ∀ g, g < f → XG l bt n yX3_bare cX3_bare 2 7 g) (z : xMem) (o pos : Nat) (ws : List Nat) (tag : Nat) (cs : List Nat) (p : Nat) (hG : gX z bt n pos ws) (h : pG bt n f 6 o pos = (tag, cs, p)) (ht : tag ≠ 0) (ho : o ≤ 5) : XMz l (d + f + 9) yX3_single cX3_single 4 (some .boolean) shT2 [.ref 0, .int (nI o)] z (fun z' => tag = 1 ∧ gX z' bt n p (ws ++ cs) ∧ KC z z') (fun z' => tag = 2 ∧ z'.1 0 2 = nI p ∧ KC z z') := by
  refine XM.of (by decide) (Nat.le_of_ble_eq_true rfl) (fun xp xe xs xm xar xbl xme xc xD xcs xad xAA xCC xhr => ?_)
  generalize xhQ : MQ xbl _ xar xs 0 0 xAA = xQ
  show ww xp l xe (xRm (d + f + 9)) xs xm xar xbl xme xc 4 xD xcs xad shT2 xAA xQ 0 [(0, .ref 0), (1, .int (nI o))] [] z
  refine ww_blk xCC okX3_single 0 2 (ps := []) (pc' := 2) (lv' := [(2, .int 0), (0, .ref 0), (1, .int (nI o))]) (st' := []) (z' := z) rfl trivial ?_
  have L2 : ∀ (n2 : Nat) (j : Nat) (g : Nat) (pos1 : Nat) (x1 : List Nat) (zL : xMem), g < n2 → (g ≤ f) → (gX zL bt n pos1 ws) → (pG bt n g 6 (o + j) pos1 = (tag, x1, p)) → (tag = 1 → cs = x1 ++ List.replicate j 10014) → (ws.length + j ≤ pos1) → (KC z zL) → (o + j ≤ 5) → ww xp l xe (xRm (d + f + 9)) xs xm xar xbl xme xc 4 xD xcs xad shT2 xAA xQ 2 [(2, .int (nI j)), (0, .ref 0), (1, .int (nI o))] [] zL := by
    intro n2
    induction n2 with
    | zero =>
      intro j g pos1 x1 zL hmu2
      exact absurd hmu2 (Nat.not_lt_zero _)
    | succ n2 ih2 =>
      intro j g pos1 x1 zL hmu2 e2_0 e2_1 e2_2 e2_3 e2_4 e2_5 e2_6
      have hpn := e2_1.2.2.1
      have hn160 := hG.1.2.1
      have htl := pTok_lt bt n pos1
      refine ww_blk xCC okX3_single 2 2 (ps := []) (pc' := 6) (lv' := [(2, .int (nI j)), (0, .ref 0), (1, .int (nI o))]) (st' := [.int 160, .int (nI j)]) (z' := zL) rfl trivial ?_
      refine ww_br xCC okX3_single 4 (P := 160 ≤ (nI j)) (t1 := 38) (t2 := 9) (r := []) rfl (fun c1 => ?_) (fun c1 => ?_)
      · skip
        replace c1 : 160 ≤ j := (sLE (a := 160) (b := j) (by omega) (by omega)).mp c1
        have hnq : ¬ (pTok bt n pos1).1 = 10011 := by omega
        obtain ⟨g1, hg1, hc1⟩ := pG_min e2_2 ht
        obtain ⟨-, hs⟩ := hc1.resolve_left (fun q => hnq q.1)
        refine ww_blk xCC okX3_single 20 4 (ps := []) (pc' := 42) (lv' := [(2, .int (nI j)), (0, .ref 0), (1, .int (nI o))]) (st' := [.int ((nI o) + (nI j)), .ref 0]) (z' := zL) rfl trivial ?_
        rw [nI_add o j]
        refine ww_callVIz xCC okX3_single 24 (ix := 60) (ih g1 (by omega) (d + 0) zL (o + j) pos1 ws tag x1 p e2_1 hs ht (by omega)) (by omega) (by decide) xyX3_bare xiX3_bare (Or.inl (lw_gt_of (List.mem_of_getElem? (i := 562) (by decide +kernel)) rfl)) rfl rfl rfl (rest := []) rfl (Nat.le_of_ble_eq_true rfl) rfl (fun zA hA => ?_) (fun zA hA => ?_)
        · skip
          have hlx := pG_len bt n g1 7 _ _ x1 p (by decide) e2_1.2.2.1 (by rw [hs, hA.1])
          rw [if_pos (by decide)] at hlx
          refine ww_br xCC okX3_single 25 (P := 1 = 0) (t1 := 48) (t2 := 50) (r := []) rfl (fun q => absurd q (by decide)) (fun _ => ?_)
          refine ww_blk xCC okX3_single 28 2 (ps := []) (pc' := 52) (lv' := [(3, .int 0), (2, .int (nI j)), (0, .ref 0), (1, .int (nI o))]) (st' := []) (z' := zA) rfl trivial ?_
          have L52 : ∀ (n52 : Nat) (i : Nat) (zM : xMem), j - i < n52 → (i ≤ j) → (gX zM bt n p (ws ++ x1 ++ List.replicate i 10014)) → (KC z zM) → ww xp l xe (xRm (d + f + 9)) xs xm xar xbl xme xc 4 xD xcs xad shT2 xAA xQ 52 [(3, .int (nI i)), (2, .int (nI j)), (0, .ref 0), (1, .int (nI o))] [] zM := by
            intro n52
            induction n52 with
            | zero =>
              intro i zM hmu52
              exact absurd hmu52 (Nat.not_lt_zero _)
            | succ n52 ih52 =>
              intro i zM hmu52 e52_0 e52_1 e52_2
              have hpp := e52_1.2.2.1
              refine ww_blk xCC okX3_single 30 2 (ps := []) (pc' := 54) (lv' := [(3, .int (nI i)), (2, .int (nI j)), (0, .ref 0), (1, .int (nI o))]) (st' := [.int (nI j), .int (nI i)]) (z' := zM) rfl trivial ?_
              refine ww_br xCC okX3_single 32 (P := (nI j) ≤ (nI i)) (t1 := 70) (t2 := 57) (r := []) rfl (fun c3 => ?_) (fun c3 => ?_)
              · skip
                replace c3 : j ≤ i := (sLE (a := j) (b := i) (by omega) (by omega)).mp c3
                refine ww_blk xCC okX3_single 38 1 (ps := []) (pc' := 71) (lv' := [(3, .int (nI i)), (2, .int (nI j)), (0, .ref 0), (1, .int (nI o))]) (st' := [.int 1]) (z' := zM) rfl trivial ?_
                subst xhQ
                exact ww_iret xCC okX3_single 39 xhr rfl (by decide) (Or.inl ⟨rfl, ⟨hA.1, (by rw [e2_3 hA.1, ← List.append_assoc, show j = i by omega]; exact e52_1), e52_2⟩⟩)
              · skip
                replace c3 : ¬ j ≤ i := fun q => c3 ((sLE (a := j) (b := i) (by omega) (by omega)).mpr q)
                refine ww_blk xCC okX3_single 33 2 (ps := []) (pc' := 61) (lv' := [(3, .int (nI i)), (2, .int (nI j)), (0, .ref 0), (1, .int (nI o))]) (st' := [.int 10014, .ref 0]) (z' := zM) rfl trivial ?_
                refine ww_callVIv xCC okX3_single 35 (ix := 41) (t_X3_write l d 10014 (ws ++ x1 ++ List.replicate i 10014).length zM e52_1.2.2.2.1.1 (by rw [List.length_append, List.length_append, List.length_replicate]; omega)) (by omega) (by decide) xyX3_write xiX3_write (Or.inl (lw_gt_of (List.mem_of_getElem? (i := 566) (by decide +kernel)) rfl)) rfl rfl rfl (rest := []) rfl (Nat.le_of_ble_eq_true rfl) rfl (fun zW hW => ?_)
                have hGW : gX zW bt n p (ws ++ x1 ++ List.replicate i 10014 ++ [10014]) := by rw [hW]; exact gX_write e52_1 (by rw [List.length_append, List.length_append, List.length_replicate]; omega)
                have hWK : KC zM zW := by rw [hW]; exact KC_w
                refine ww_blk xCC okX3_single 36 2 (ps := []) (pc' := 52) (lv' := [(3, .int ((nI i) + 1)), (2, .int (nI j)), (0, .ref 0), (1, .int (nI o))]) (st' := []) (z' := zW) rfl trivial ?_
                rw [show nI i + (1 : Int32) = nI (i + 1) from nI_add i 1]
                exact ww_cut [0, 1, 2, 3] (xlc rfl (xlc rfl (xlc rfl (xlc rfl rfl)))) rfl rfl (ih52 (i + 1) zW (by omega) (by omega) (by rw [List.replicate_succ', ← List.append_assoc]; exact hGW) (KC_tr e52_2 hWK))
          exact ww_cut [0, 1, 2, 3] (xlc (congrArg Value.int (show (0 : Int32) = nI 0 from rfl)) (xlc rfl (xlc rfl (xlc rfl rfl)))) rfl rfl (L52 (j - 0 + 1) 0 zA (Nat.lt_succ_self _) (Nat.zero_le _) (by rw [List.replicate_zero, List.append_nil]; exact hA.2.1) (KC_tr e2_5 hA.2.2))
        · skip
          refine ww_br xCC okX3_single 25 (P := 0 = 0) (t1 := 48) (t2 := 50) (r := []) rfl (fun _ => ?_) (fun q => absurd (by decide) q)
          refine ww_blk xCC okX3_single 26 1 (ps := []) (pc' := 49) (lv' := [(2, .int (nI j)), (0, .ref 0), (1, .int (nI o))]) (st' := [.int 0]) (z' := zA) rfl trivial ?_
          subst xhQ
          exact ww_iret xCC okX3_single 27 xhr rfl (by decide) (Or.inr ⟨rfl, ⟨hA.1, hA.2.1, KC_tr e2_5 hA.2.2⟩⟩)
      · skip
        replace c1 : ¬ 160 ≤ j := fun q => c1 ((sLE (a := 160) (b := j) (by omega) (by omega)).mpr q)
        refine ww_blk xCC okX3_single 5 3 (ps := []) (pc' := 16) (lv' := [(2, .int (nI j)), (0, .ref 0), (1, .int (nI o))]) (st' := [.int 10011, .int (zL.1 0 4)]) (z' := zL) rfl trivial ?_
        rw [show zL.1 0 4 = nI (pTok bt n pos1).1 from e2_1.2.1.2.2]
        refine ww_br xCC okX3_single 8 (P := (nI ((pTok bt n pos1).1)) = 10011) (t1 := 19) (t2 := 38) (r := []) rfl (fun c6 => ?_) (fun c6 => ?_)
        · skip
          replace c6 : ((pTok bt n pos1).1) = 10011 := (sEQ (a := ((pTok bt n pos1).1)) (b := 10011) (by omega) (by omega)).mp c6
          have hop : (pTok bt n pos1).1 = 10011 := by omega
          obtain ⟨g1, hg1, hc1⟩ := pG_min e2_2 ht
          obtain ⟨-, hc⟩ := hc1.resolve_right (fun q => q.1 hop)
          refine ww_blk xCC okX3_single 9 4 (ps := []) (pc' := 23) (lv' := [(2, .int (nI j)), (0, .ref 0), (1, .int (nI o))]) (st' := [.int 5, .int ((nI o) + (nI j))]) (z' := zL) rfl trivial ?_
          rw [nI_add o j]
          refine ww_br xCC okX3_single 13 (P := (nI (o + j)) < 5) (t1 := 28) (t2 := 26) (r := []) rfl (fun c7 => ?_) (fun c7 => ?_)
          · skip
            replace c7 : (o + j) < 5 := (sLT (a := (o + j)) (b := 5) (by omega) (by omega)).mp c7
            obtain ⟨-, t2, x2, p2, hs2, ht2, hc2⟩ := hc.resolve_left (fun q => by have := q.1; omega)
            have h9 : pG bt n g1 6 (o + (j + 1)) (pTok bt n pos1).2.2 = (tag, x2, p) := by rw [← Nat.add_assoc, hs2]; rcases hc2 with ⟨a, b, c⟩ | ⟨a, b, -, c⟩ <;> rw [a, b, c]
            have hx9 : tag = 1 → x1 = x2 ++ [10014] := fun q => (hc2.resolve_left (fun w => by have := w.2.1; omega)).2.2.1
            have hgt := pTok_gt e2_1.2.2.1 (show (pTok bt n pos1).1 ≠ 10021 by omega)
            refine ww_blk xCC okX3_single 16 1 (ps := []) (pc' := 29) (lv' := [(2, .int (nI j)), (0, .ref 0), (1, .int (nI o))]) (st' := [.ref 0]) (z' := zL) rfl trivial ?_
            refine ww_callVIv xCC okX3_single 17 (ix := 28) (t_X3_step l (d + f) n _ bt zL e2_1.1 e2_1.2.1.2.1 (pTok_le e2_1.2.2.1).1) (by omega) (by decide) xyX3_step xiX3_step (Or.inl (lw_gt_of (List.mem_of_getElem? (i := 448) (by decide +kernel)) rfl)) rfl rfl rfl (rest := []) rfl (Nat.le_of_ble_eq_true rfl) rfl (fun zS hS => ?_)
            have hGS := gX_step e2_1 hS
            have hGSK := KC_3 hS.2
            refine ww_blk xCC okX3_single 18 2 (ps := []) (pc' := 2) (lv' := [(2, .int ((nI j) + 1)), (0, .ref 0), (1, .int (nI o))]) (st' := []) (z' := zS) rfl trivial ?_
            rw [show nI j + (1 : Int32) = nI (j + 1) from nI_add j 1]
            exact ww_cut [0, 1, 2] (xlc rfl (xlc rfl (xlc rfl rfl))) rfl rfl (ih2 (j + 1) g1 ((pTok bt n pos1).2.2) x2 zS (by omega) (by omega) hGS h9 (fun q => by rw [e2_3 q, hx9 q, List.append_assoc, List.replicate_succ]; rfl) (by omega) (KC_tr e2_5 hGSK) (by omega))
          · skip
            replace c7 : ¬ (o + j) < 5 := fun q => c7 ((sLT (a := (o + j)) (b := 5) (by omega) (by omega)).mpr q)
            obtain ⟨-, htag, hp⟩ := hc.resolve_right (fun q => by have := q.1; omega)
            refine ww_blk xCC okX3_single 14 1 (ps := []) (pc' := 27) (lv' := [(2, .int (nI j)), (0, .ref 0), (1, .int (nI o))]) (st' := [.int 0]) (z' := zL) rfl trivial ?_
            subst xhQ
            exact ww_iret xCC okX3_single 15 xhr rfl (by decide) (Or.inr ⟨rfl, ⟨htag, (by rw [hp]; exact e2_1.2.1.1), e2_5⟩⟩)
        · skip
          replace c6 : ¬ ((pTok bt n pos1).1) = 10011 := fun q => c6 ((sEQ (a := ((pTok bt n pos1).1)) (b := 10011) (by omega) (by omega)).mpr q)
          have hnq : ¬ (pTok bt n pos1).1 = 10011 := by omega
          obtain ⟨g1, hg1, hc1⟩ := pG_min e2_2 ht
          obtain ⟨-, hs⟩ := hc1.resolve_left (fun q => hnq q.1)
          refine ww_blk xCC okX3_single 20 4 (ps := []) (pc' := 42) (lv' := [(2, .int (nI j)), (0, .ref 0), (1, .int (nI o))]) (st' := [.int ((nI o) + (nI j)), .ref 0]) (z' := zL) rfl trivial ?_
          rw [nI_add o j]
          refine ww_callVIz xCC okX3_single 24 (ix := 60) (ih g1 (by omega) (d + 0) zL (o + j) pos1 ws tag x1 p e2_1 hs ht (by omega)) (by omega) (by decide) xyX3_bare xiX3_bare (Or.inl (lw_gt_of (List.mem_of_getElem? (i := 562) (by decide +kernel)) rfl)) rfl rfl rfl (rest := []) rfl (Nat.le_of_ble_eq_true rfl) rfl (fun zA hA => ?_) (fun zA hA => ?_)
          · skip
            have hlx := pG_len bt n g1 7 _ _ x1 p (by decide) e2_1.2.2.1 (by rw [hs, hA.1])
            rw [if_pos (by decide)] at hlx
            refine ww_br xCC okX3_single 25 (P := 1 = 0) (t1 := 48) (t2 := 50) (r := []) rfl (fun q => absurd q (by decide)) (fun _ => ?_)
            refine ww_blk xCC okX3_single 28 2 (ps := []) (pc' := 52) (lv' := [(3, .int 0), (2, .int (nI j)), (0, .ref 0), (1, .int (nI o))]) (st' := []) (z' := zA) rfl trivial ?_
            have L52 : ∀ (n52 : Nat) (i : Nat) (zM : xMem), j - i < n52 → (i ≤ j) → (gX zM bt n p (ws ++ x1 ++ List.replicate i 10014)) → (KC z zM) → ww xp l xe (xRm (d + f + 9)) xs xm xar xbl xme xc 4 xD xcs xad shT2 xAA xQ 52 [(3, .int (nI i)), (2, .int (nI j)), (0, .ref 0), (1, .int (nI o))] [] zM := by
              intro n52
              induction n52 with
              | zero =>
                intro i zM hmu52
                exact absurd hmu52 (Nat.not_lt_zero _)
              | succ n52 ih52 =>
                intro i zM hmu52 e52_0 e52_1 e52_2
                have hpp := e52_1.2.2.1
                refine ww_blk xCC okX3_single 30 2 (ps := []) (pc' := 54) (lv' := [(3, .int (nI i)), (2, .int (nI j)), (0, .ref 0), (1, .int (nI o))]) (st' := [.int (nI j), .int (nI i)]) (z' := zM) rfl trivial ?_
                refine ww_br xCC okX3_single 32 (P := (nI j) ≤ (nI i)) (t1 := 70) (t2 := 57) (r := []) rfl (fun c10 => ?_) (fun c10 => ?_)
                · skip
                  replace c10 : j ≤ i := (sLE (a := j) (b := i) (by omega) (by omega)).mp c10
                  refine ww_blk xCC okX3_single 38 1 (ps := []) (pc' := 71) (lv' := [(3, .int (nI i)), (2, .int (nI j)), (0, .ref 0), (1, .int (nI o))]) (st' := [.int 1]) (z' := zM) rfl trivial ?_
                  subst xhQ
                  exact ww_iret xCC okX3_single 39 xhr rfl (by decide) (Or.inl ⟨rfl, ⟨hA.1, (by rw [e2_3 hA.1, ← List.append_assoc, show j = i by omega]; exact e52_1), e52_2⟩⟩)
                · skip
                  replace c10 : ¬ j ≤ i := fun q => c10 ((sLE (a := j) (b := i) (by omega) (by omega)).mpr q)
                  refine ww_blk xCC okX3_single 33 2 (ps := []) (pc' := 61) (lv' := [(3, .int (nI i)), (2, .int (nI j)), (0, .ref 0), (1, .int (nI o))]) (st' := [.int 10014, .ref 0]) (z' := zM) rfl trivial ?_
                  refine ww_callVIv xCC okX3_single 35 (ix := 41) (t_X3_write l d 10014 (ws ++ x1 ++ List.replicate i 10014).length zM e52_1.2.2.2.1.1 (by rw [List.length_append, List.length_append, List.length_replicate]; omega)) (by omega) (by decide) xyX3_write xiX3_write (Or.inl (lw_gt_of (List.mem_of_getElem? (i := 566) (by decide +kernel)) rfl)) rfl rfl rfl (rest := []) rfl (Nat.le_of_ble_eq_true rfl) rfl (fun zW hW => ?_)
                  have hGW : gX zW bt n p (ws ++ x1 ++ List.replicate i 10014 ++ [10014]) := by rw [hW]; exact gX_write e52_1 (by rw [List.length_append, List.length_append, List.length_replicate]; omega)
                  have hWK : KC zM zW := by rw [hW]; exact KC_w
                  refine ww_blk xCC okX3_single 36 2 (ps := []) (pc' := 52) (lv' := [(3, .int ((nI i) + 1)), (2, .int (nI j)), (0, .ref 0), (1, .int (nI o))]) (st' := []) (z' := zW) rfl trivial ?_
                  rw [show nI i + (1 : Int32) = nI (i + 1) from nI_add i 1]
                  exact ww_cut [0, 1, 2, 3] (xlc rfl (xlc rfl (xlc rfl (xlc rfl rfl)))) rfl rfl (ih52 (i + 1) zW (by omega) (by omega) (by rw [List.replicate_succ', ← List.append_assoc]; exact hGW) (KC_tr e52_2 hWK))
            exact ww_cut [0, 1, 2, 3] (xlc (congrArg Value.int (show (0 : Int32) = nI 0 from rfl)) (xlc rfl (xlc rfl (xlc rfl rfl)))) rfl rfl (L52 (j - 0 + 1) 0 zA (Nat.lt_succ_self _) (Nat.zero_le _) (by rw [List.replicate_zero, List.append_nil]; exact hA.2.1) (KC_tr e2_5 hA.2.2))
          · skip
            refine ww_br xCC okX3_single 25 (P := 0 = 0) (t1 := 48) (t2 := 50) (r := []) rfl (fun _ => ?_) (fun q => absurd (by decide) q)
            refine ww_blk xCC okX3_single 26 1 (ps := []) (pc' := 49) (lv' := [(2, .int (nI j)), (0, .ref 0), (1, .int (nI o))]) (st' := [.int 0]) (z' := zA) rfl trivial ?_
            subst xhQ
            exact ww_iret xCC okX3_single 27 xhr rfl (by decide) (Or.inr ⟨rfl, ⟨hA.1, hA.2.1, KC_tr e2_5 hA.2.2⟩⟩)
  exact ww_cut [0, 1, 2] (xlc (congrArg Value.int (show (0 : Int32) = nI 0 from rfl)) (xlc rfl (xlc rfl rfl))) rfl rfl (L2 (f + 1) 0 f pos cs z (Nat.lt_succ_self _) (Nat.le_refl f) hG h (fun _ => by simp) hG.2.2.2.2 (KC_rf z) ho)

set_option maxHeartbeats 4000000 in
set_option maxRecDepth 20000 in
theorem t_X3_compared (l : Launch) (d : Nat) (bt : Nat → Nat) (n f : Nat) (ih : ∀ g, g < f → XG l bt n yX3_sum cX3_sum 4 4 g) (z : xMem) (o pos : Nat) (ws : List Nat) (tag : Nat) (cs : List Nat) (p : Nat) (hG : gX z bt n pos ws) (h : pG bt n f 3 o pos = (tag, cs, p)) (ht : tag ≠ 0) (ho : o ≤ 5) : XMz l (d + f + 9) yX3_compared cX3_compared 3 (some .boolean) shT2 [.ref 0, .int (nI o)] z (fun z' => tag = 1 ∧ gX z' bt n p (ws ++ cs) ∧ KC z z') (fun z' => tag = 2 ∧ z'.1 0 2 = nI p ∧ KC z z') := by
  refine XM.of (by decide) (Nat.le_of_ble_eq_true rfl) (fun xp xe xs xm xar xbl xme xc xD xcs xad xAA xCC xhr => ?_)
  generalize xhQ : MQ xbl _ xar xs 0 0 xAA = xQ
  show ww xp l xe (xRm (d + f + 9)) xs xm xar xbl xme xc 3 xD xcs xad shT2 xAA xQ 0 [(0, .ref 0), (1, .int (nI o))] [] z
  obtain ⟨g, t1, x1, p1, hg, h1, ht1, hc⟩ := pG_cmp h ht
  refine ww_blk xCC okX3_compared 0 2 (ps := []) (pc' := 2) (lv' := [(0, .ref 0), (1, .int (nI o))]) (st' := [.int (nI o), .ref 0]) (z' := z) rfl trivial ?_
  refine ww_callVIz xCC okX3_compared 2 (ix := 51) (ih g (by omega) (d + 0) z o pos ws t1 x1 p1 hG h1 ht1 ho) (by omega) (by decide) xyX3_sum xiX3_sum (Or.inl (lw_gt_of (List.mem_of_getElem? (i := 550) (by decide +kernel)) rfl)) rfl rfl rfl (rest := []) rfl (Nat.le_of_ble_eq_true rfl) rfl (fun zA hA => ?_) (fun zA hA => ?_)
  · skip
    obtain ⟨-, hc3⟩ := hc.resolve_left (fun q => absurd (hA.1.symm.trans q.1) (by decide))
    have hGA : gX zA bt n p1 (ws ++ x1) := hA.2.1
    have htl := pTok_lt bt n p1
    refine ww_br xCC okX3_compared 3 (P := 1 = 0) (t1 := 8) (t2 := 10) (r := []) rfl (fun q => absurd q (by decide)) (fun _ => ?_)
    refine ww_blk xCC okX3_compared 6 3 (ps := []) (pc' := 17) (lv' := [(0, .ref 0), (1, .int (nI o))]) (st' := [.int 10008, .int (zA.1 0 4)]) (z' := zA) rfl trivial ?_
    rw [show zA.1 0 4 = nI (pTok bt n p1).1 from hGA.2.1.2.2]
    refine ww_br xCC okX3_compared 9 (P := (nI ((pTok bt n p1).1)) = 10008) (t1 := 32) (t2 := 20) (r := []) rfl (fun c2 => ?_) (fun c2 => ?_)
    · skip
      replace c2 : ((pTok bt n p1).1) = 10008 := (sEQ (a := ((pTok bt n p1).1)) (b := 10008) (by omega) (by omega)).mp c2
      obtain ⟨hop, t2, x2, p2, hs2, ht2, hc2⟩ := hc3.resolve_left (fun q => by obtain ⟨q1, q2, -⟩ := q; omega)
      have hgt := pTok_gt hGA.2.2.1 (show (pTok bt n p1).1 ≠ 10021 by omega)
      refine ww_blk xCC okX3_compared 16 4 (ps := []) (pc' := 38) (lv' := [(2, .int (zA.1 0 4)), (0, .ref 0), (1, .int (nI o))]) (st' := [.ref 0]) (z' := zA) rfl trivial ?_
      rw [show zA.1 0 4 = nI (pTok bt n p1).1 from hGA.2.1.2.2]
      refine ww_callVIv xCC okX3_compared 20 (ix := 28) (t_X3_step l (d + f) n _ bt zA hGA.1 hGA.2.1.2.1 (pTok_le hGA.2.2.1).1) (by omega) (by decide) xyX3_step xiX3_step (Or.inl (lw_gt_of (List.mem_of_getElem? (i := 448) (by decide +kernel)) rfl)) rfl rfl rfl (rest := []) rfl (Nat.le_of_ble_eq_true rfl) rfl (fun zS hS => ?_)
      have hGS := gX_step hGA hS
      have hGSK := KC_3 hS.2
      refine ww_blk xCC okX3_compared 21 2 (ps := []) (pc' := 43) (lv' := [(2, .int (nI ((pTok bt n p1).1))), (0, .ref 0), (1, .int (nI o))]) (st' := [.int (nI o), .ref 0]) (z' := zS) rfl trivial ?_
      refine ww_callVIz xCC okX3_compared 23 (ix := 51) (ih g (by omega) (d + 0) zS o (pTok bt n p1).2.2 (ws ++ x1) t2 x2 p2 hGS hs2 ht2 ho) (by omega) (by decide) xyX3_sum xiX3_sum (Or.inl (lw_gt_of (List.mem_of_getElem? (i := 550) (by decide +kernel)) rfl)) rfl rfl rfl (rest := []) rfl (Nat.le_of_ble_eq_true rfl) rfl (fun zB hB => ?_) (fun zB hB => ?_)
      · skip
        obtain ⟨-, htag, hcx, hpx⟩ := hc2.resolve_left (fun q => absurd (hB.1.symm.trans q.1) (by decide))
        have hlx := pG_len bt n g 4 o _ x2 p2 (by decide) hGS.2.2.1 (by rw [hs2, hB.1])
        rw [if_pos (by decide)] at hlx
        have hl1 := hGA.2.2.2.2
        have hn160 := hG.1.2.1
        refine ww_br xCC okX3_compared 24 (P := 1 = 0) (t1 := 49) (t2 := 51) (r := []) rfl (fun q => absurd q (by decide)) (fun _ => ?_)
        refine ww_blk xCC okX3_compared 27 2 (ps := []) (pc' := 53) (lv' := [(2, .int (nI ((pTok bt n p1).1))), (0, .ref 0), (1, .int (nI o))]) (st' := [.int (nI ((pTok bt n p1).1)), .ref 0]) (z' := zB) rfl trivial ?_
        refine ww_callVIv xCC okX3_compared 29 (ix := 41) (t_X3_write l d (pTok bt n p1).1 (ws ++ x1 ++ x2).length zB hB.2.1.2.2.2.1.1 (by rw [List.length_append]; omega)) (by omega) (by decide) xyX3_write xiX3_write (Or.inl (lw_gt_of (List.mem_of_getElem? (i := 566) (by decide +kernel)) rfl)) rfl rfl rfl (rest := []) rfl (Nat.le_of_ble_eq_true rfl) rfl (fun zW hW => ?_)
        have hGW : gX zW bt n p2 (ws ++ x1 ++ x2 ++ [(pTok bt n p1).1]) := by rw [hW]; exact gX_write hB.2.1 (by rw [List.length_append]; omega)
        have hWK : KC zB zW := by rw [hW]; exact KC_w
        refine ww_blk xCC okX3_compared 30 1 (ps := []) (pc' := 57) (lv' := [(2, .int (nI ((pTok bt n p1).1))), (0, .ref 0), (1, .int (nI o))]) (st' := [.int 1]) (z' := zW) rfl trivial ?_
        subst xhQ
        exact ww_iret xCC okX3_compared 31 xhr rfl (by decide) (Or.inl ⟨rfl, ⟨htag, (by rw [hcx, hpx]; simpa using hGW), KC_tr hA.2.2 (KC_tr hGSK (KC_tr hB.2.2 hWK))⟩⟩)
      · skip
        obtain ⟨-, htag, hp⟩ := hc2.resolve_right (fun q => absurd (hB.1.symm.trans q.1) (by decide))
        refine ww_br xCC okX3_compared 24 (P := 0 = 0) (t1 := 49) (t2 := 51) (r := []) rfl (fun _ => ?_) (fun q => absurd (by decide) q)
        refine ww_blk xCC okX3_compared 25 1 (ps := []) (pc' := 50) (lv' := [(2, .int (nI ((pTok bt n p1).1))), (0, .ref 0), (1, .int (nI o))]) (st' := [.int 0]) (z' := zB) rfl trivial ?_
        subst xhQ
        exact ww_iret xCC okX3_compared 26 xhr rfl (by decide) (Or.inr ⟨rfl, ⟨htag, (by rw [hp]; exact hB.2.1), KC_tr hA.2.2 (KC_tr hGSK hB.2.2)⟩⟩)
    · skip
      replace c2 : ¬ ((pTok bt n p1).1) = 10008 := fun q => c2 ((sEQ (a := ((pTok bt n p1).1)) (b := 10008) (by omega) (by omega)).mpr q)
      refine ww_blk xCC okX3_compared 10 3 (ps := []) (pc' := 27) (lv' := [(0, .ref 0), (1, .int (nI o))]) (st' := [.int 10009, .int (zA.1 0 4)]) (z' := zA) rfl trivial ?_
      rw [show zA.1 0 4 = nI (pTok bt n p1).1 from hGA.2.1.2.2]
      refine ww_br xCC okX3_compared 13 (P := (nI ((pTok bt n p1).1)) = 10009) (t1 := 32) (t2 := 30) (r := []) rfl (fun c7 => ?_) (fun c7 => ?_)
      · skip
        replace c7 : ((pTok bt n p1).1) = 10009 := (sEQ (a := ((pTok bt n p1).1)) (b := 10009) (by omega) (by omega)).mp c7
        obtain ⟨hop, t2, x2, p2, hs2, ht2, hc2⟩ := hc3.resolve_left (fun q => by obtain ⟨q1, q2, -⟩ := q; omega)
        have hgt := pTok_gt hGA.2.2.1 (show (pTok bt n p1).1 ≠ 10021 by omega)
        refine ww_blk xCC okX3_compared 16 4 (ps := []) (pc' := 38) (lv' := [(2, .int (zA.1 0 4)), (0, .ref 0), (1, .int (nI o))]) (st' := [.ref 0]) (z' := zA) rfl trivial ?_
        rw [show zA.1 0 4 = nI (pTok bt n p1).1 from hGA.2.1.2.2]
        refine ww_callVIv xCC okX3_compared 20 (ix := 28) (t_X3_step l (d + f) n _ bt zA hGA.1 hGA.2.1.2.1 (pTok_le hGA.2.2.1).1) (by omega) (by decide) xyX3_step xiX3_step (Or.inl (lw_gt_of (List.mem_of_getElem? (i := 448) (by decide +kernel)) rfl)) rfl rfl rfl (rest := []) rfl (Nat.le_of_ble_eq_true rfl) rfl (fun zS hS => ?_)
        have hGS := gX_step hGA hS
        have hGSK := KC_3 hS.2
        refine ww_blk xCC okX3_compared 21 2 (ps := []) (pc' := 43) (lv' := [(2, .int (nI ((pTok bt n p1).1))), (0, .ref 0), (1, .int (nI o))]) (st' := [.int (nI o), .ref 0]) (z' := zS) rfl trivial ?_
        refine ww_callVIz xCC okX3_compared 23 (ix := 51) (ih g (by omega) (d + 0) zS o (pTok bt n p1).2.2 (ws ++ x1) t2 x2 p2 hGS hs2 ht2 ho) (by omega) (by decide) xyX3_sum xiX3_sum (Or.inl (lw_gt_of (List.mem_of_getElem? (i := 550) (by decide +kernel)) rfl)) rfl rfl rfl (rest := []) rfl (Nat.le_of_ble_eq_true rfl) rfl (fun zB hB => ?_) (fun zB hB => ?_)
        · skip
          obtain ⟨-, htag, hcx, hpx⟩ := hc2.resolve_left (fun q => absurd (hB.1.symm.trans q.1) (by decide))
          have hlx := pG_len bt n g 4 o _ x2 p2 (by decide) hGS.2.2.1 (by rw [hs2, hB.1])
          rw [if_pos (by decide)] at hlx
          have hl1 := hGA.2.2.2.2
          have hn160 := hG.1.2.1
          refine ww_br xCC okX3_compared 24 (P := 1 = 0) (t1 := 49) (t2 := 51) (r := []) rfl (fun q => absurd q (by decide)) (fun _ => ?_)
          refine ww_blk xCC okX3_compared 27 2 (ps := []) (pc' := 53) (lv' := [(2, .int (nI ((pTok bt n p1).1))), (0, .ref 0), (1, .int (nI o))]) (st' := [.int (nI ((pTok bt n p1).1)), .ref 0]) (z' := zB) rfl trivial ?_
          refine ww_callVIv xCC okX3_compared 29 (ix := 41) (t_X3_write l d (pTok bt n p1).1 (ws ++ x1 ++ x2).length zB hB.2.1.2.2.2.1.1 (by rw [List.length_append]; omega)) (by omega) (by decide) xyX3_write xiX3_write (Or.inl (lw_gt_of (List.mem_of_getElem? (i := 566) (by decide +kernel)) rfl)) rfl rfl rfl (rest := []) rfl (Nat.le_of_ble_eq_true rfl) rfl (fun zW hW => ?_)
          have hGW : gX zW bt n p2 (ws ++ x1 ++ x2 ++ [(pTok bt n p1).1]) := by rw [hW]; exact gX_write hB.2.1 (by rw [List.length_append]; omega)
          have hWK : KC zB zW := by rw [hW]; exact KC_w
          refine ww_blk xCC okX3_compared 30 1 (ps := []) (pc' := 57) (lv' := [(2, .int (nI ((pTok bt n p1).1))), (0, .ref 0), (1, .int (nI o))]) (st' := [.int 1]) (z' := zW) rfl trivial ?_
          subst xhQ
          exact ww_iret xCC okX3_compared 31 xhr rfl (by decide) (Or.inl ⟨rfl, ⟨htag, (by rw [hcx, hpx]; simpa using hGW), KC_tr hA.2.2 (KC_tr hGSK (KC_tr hB.2.2 hWK))⟩⟩)
        · skip
          obtain ⟨-, htag, hp⟩ := hc2.resolve_right (fun q => absurd (hB.1.symm.trans q.1) (by decide))
          refine ww_br xCC okX3_compared 24 (P := 0 = 0) (t1 := 49) (t2 := 51) (r := []) rfl (fun _ => ?_) (fun q => absurd (by decide) q)
          refine ww_blk xCC okX3_compared 25 1 (ps := []) (pc' := 50) (lv' := [(2, .int (nI ((pTok bt n p1).1))), (0, .ref 0), (1, .int (nI o))]) (st' := [.int 0]) (z' := zB) rfl trivial ?_
          subst xhQ
          exact ww_iret xCC okX3_compared 26 xhr rfl (by decide) (Or.inr ⟨rfl, ⟨htag, (by rw [hp]; exact hB.2.1), KC_tr hA.2.2 (KC_tr hGSK hB.2.2)⟩⟩)
      · skip
        replace c7 : ¬ ((pTok bt n p1).1) = 10009 := fun q => c7 ((sEQ (a := ((pTok bt n p1).1)) (b := 10009) (by omega) (by omega)).mpr q)
        obtain ⟨-, -, htag, hcx, hpx⟩ := hc3.resolve_right (fun q => by have := q.1; omega)
        refine ww_blk xCC okX3_compared 14 1 (ps := []) (pc' := 31) (lv' := [(0, .ref 0), (1, .int (nI o))]) (st' := [.int 1]) (z' := zA) rfl trivial ?_
        subst xhQ
        exact ww_iret xCC okX3_compared 15 xhr rfl (by decide) (Or.inl ⟨rfl, ⟨htag, (by rw [hcx, hpx]; exact hGA), hA.2.2⟩⟩)
  · skip
    obtain ⟨-, htag, hp⟩ := hc.resolve_right (fun q => absurd (hA.1.symm.trans q.1) (by decide))
    refine ww_br xCC okX3_compared 3 (P := 0 = 0) (t1 := 8) (t2 := 10) (r := []) rfl (fun _ => ?_) (fun q => absurd (by decide) q)
    refine ww_blk xCC okX3_compared 4 1 (ps := []) (pc' := 9) (lv' := [(0, .ref 0), (1, .int (nI o))]) (st' := [.int 0]) (z' := zA) rfl trivial ?_
    subst xhQ
    exact ww_iret xCC okX3_compared 5 xhr rfl (by decide) (Or.inr ⟨rfl, ⟨htag, (by rw [hp]; exact hA.2.1), hA.2.2⟩⟩)

set_option maxHeartbeats 4000000 in
set_option maxRecDepth 20000 in
theorem t_X3_bare (l : Launch) (d : Nat) (bt : Nat → Nat) (n f : Nat) (ih : ∀ g, g < f → XG l bt n yX3_either cX3_either 3 0 g) (z : xMem) (o pos : Nat) (ws : List Nat) (tag : Nat) (cs : List Nat) (p : Nat) (hG : gX z bt n pos ws) (h : pG bt n f 7 o pos = (tag, cs, p)) (ht : tag ≠ 0) (ho : o ≤ 5) : XMz l (d + f + 9) yX3_bare cX3_bare 2 (some .boolean) shT2 [.ref 0, .int (nI o)] z (fun z' => tag = 1 ∧ gX z' bt n p (ws ++ cs) ∧ KC z z') (fun z' => tag = 2 ∧ z'.1 0 2 = nI p ∧ KC z z') := by
  refine XM.of (by decide) (Nat.le_of_ble_eq_true rfl) (fun xp xe xs xm xar xbl xme xc xD xcs xad xAA xCC xhr => ?_)
  generalize xhQ : MQ xbl _ xar xs 0 0 xAA = xQ
  show ww xp l xe (xRm (d + f + 9)) xs xm xar xbl xme xc 2 xD xcs xad shT2 xAA xQ 0 [(0, .ref 0), (1, .int (nI o))] [] z
  have htl := pTok_lt bt n pos
  refine ww_blk xCC okX3_bare 0 3 (ps := []) (pc' := 7) (lv' := [(0, .ref 0), (1, .int (nI o))]) (st' := [.int 10005, .int (z.1 0 4)]) (z' := z) rfl trivial ?_
  rw [show z.1 0 4 = nI (pTok bt n pos).1 from hG.2.1.2.2]
  refine ww_br xCC okX3_bare 3 (P := 10005 < (nI ((pTok bt n pos).1))) (t1 := 24) (t2 := 10) (r := []) rfl (fun c1 => ?_) (fun c1 => ?_)
  · skip
    replace c1 : 10005 < ((pTok bt n pos).1) := (sLT (a := 10005) (b := ((pTok bt n pos).1)) (by omega) (by omega)).mp c1
    obtain ⟨g, hg, hc⟩ := pG_one h ht
    replace hc := hc.resolve_left (fun q => by have := q.1; omega)
    refine ww_blk xCC okX3_bare 12 3 (ps := []) (pc' := 31) (lv' := [(0, .ref 0), (1, .int (nI o))]) (st' := [.int 10018, .int (z.1 0 4)]) (z' := z) rfl trivial ?_
    rw [show z.1 0 4 = nI (pTok bt n pos).1 from hG.2.1.2.2]
    refine ww_br xCC okX3_bare 15 (P := (nI ((pTok bt n pos).1)) = 10018) (t1 := 34) (t2 := 39) (r := []) rfl (fun c2 => ?_) (fun c2 => ?_)
    · skip
      replace c2 : ((pTok bt n pos).1) = 10018 := (sEQ (a := ((pTok bt n pos).1)) (b := 10018) (by omega) (by omega)).mp c2
      refine ww_blk xCC okX3_bare 16 2 (ps := []) (pc' := 36) (lv' := [(0, .ref 0), (1, .int (nI o))]) (st' := [.int 5, .int (nI o)]) (z' := z) rfl trivial ?_
      refine ww_br xCC okX3_bare 18 (P := (nI o) < 5) (t1 := 41) (t2 := 39) (r := []) rfl (fun c3 => ?_) (fun c3 => ?_)
      · skip
        replace c3 : o < 5 := (sLT (a := o) (b := 5) (by omega) (by omega)).mp c3
        obtain ⟨-, hc2⟩ := hc.resolve_right (fun q => by have := q.2.1; omega)
        obtain ⟨-, t1, x1, p1, hs1, ht1, hc3⟩ := hc2.resolve_left (fun q => by have := q.1; omega)
        refine ww_blk xCC okX3_bare 21 1 (ps := []) (pc' := 42) (lv' := [(0, .ref 0), (1, .int (nI o))]) (st' := [.ref 0]) (z' := z) rfl trivial ?_
        refine ww_callVIv xCC okX3_bare 22 (ix := 28) (t_X3_step l (d + f) n _ bt z hG.1 hG.2.1.2.1 (pTok_le hG.2.2.1).1) (by omega) (by decide) xyX3_step xiX3_step (Or.inl (lw_gt_of (List.mem_of_getElem? (i := 448) (by decide +kernel)) rfl)) rfl rfl rfl (rest := []) rfl (Nat.le_of_ble_eq_true rfl) rfl (fun zS hS => ?_)
        have hGS := gX_step hG hS
        have hGSK := KC_3 hS.2
        refine ww_blk xCC okX3_bare 23 4 (ps := []) (pc' := 49) (lv' := [(0, .ref 0), (1, .int (nI o))]) (st' := [.int ((nI o) + 1), .ref 0]) (z' := zS) rfl trivial ?_
        rw [show nI o + (1 : Int32) = nI (o + 1) from nI_add o 1]
        refine ww_callVIz xCC okX3_bare 27 (ix := 34) (ih g (by omega) (d + 0) zS (o + 1) (pTok bt n pos).2.2 ws t1 x1 p1 hGS hs1 ht1 (by omega)) (by omega) (by decide) xyX3_either xiX3_either (Or.inl (lw_gt_of (List.mem_of_getElem? (i := 534) (by decide +kernel)) rfl)) rfl rfl rfl (rest := []) rfl (Nat.le_of_ble_eq_true rfl) rfl (fun zB hB => ?_) (fun zB hB => ?_)
        · skip
          obtain ⟨-, hc4⟩ := hc3.resolve_left (fun q => absurd (hB.1.symm.trans q.1) (by decide))
          have hGB : gX zB bt n p1 (ws ++ x1) := hB.2.1
          have htl1 := pTok_lt bt n p1
          refine ww_br xCC okX3_bare 28 (P := 1 = 0) (t1 := 65) (t2 := 55) (r := []) rfl (fun q => absurd q (by decide)) (fun _ => ?_)
          refine ww_blk xCC okX3_bare 29 3 (ps := []) (pc' := 62) (lv' := [(0, .ref 0), (1, .int (nI o))]) (st' := [.int 10019, .int (zB.1 0 4)]) (z' := zB) rfl trivial ?_
          rw [show zB.1 0 4 = nI (pTok bt n p1).1 from hGB.2.1.2.2]
          refine ww_br xCC okX3_bare 32 (P := (nI ((pTok bt n p1).1)) = 10019) (t1 := 67) (t2 := 65) (r := []) rfl (fun c6 => ?_) (fun c6 => ?_)
          · skip
            replace c6 : ((pTok bt n p1).1) = 10019 := (sEQ (a := ((pTok bt n p1).1)) (b := 10019) (by omega) (by omega)).mp c6
            obtain ⟨-, htag, hcx, hpx⟩ := hc4.resolve_right (fun q => by have := q.1; omega)
            refine ww_blk xCC okX3_bare 35 1 (ps := []) (pc' := 68) (lv' := [(0, .ref 0), (1, .int (nI o))]) (st' := [.ref 0]) (z' := zB) rfl trivial ?_
            refine ww_callVIv xCC okX3_bare 36 (ix := 28) (t_X3_step l (d + f) n _ bt zB hGB.1 hGB.2.1.2.1 (pTok_le hGB.2.2.1).1) (by omega) (by decide) xyX3_step xiX3_step (Or.inl (lw_gt_of (List.mem_of_getElem? (i := 448) (by decide +kernel)) rfl)) rfl rfl rfl (rest := []) rfl (Nat.le_of_ble_eq_true rfl) rfl (fun zT hT => ?_)
            have hGT := gX_step hGB hT
            have hGTK := KC_3 hT.2
            refine ww_blk xCC okX3_bare 37 1 (ps := []) (pc' := 72) (lv' := [(0, .ref 0), (1, .int (nI o))]) (st' := [.int 1]) (z' := zT) rfl trivial ?_
            subst xhQ
            exact ww_iret xCC okX3_bare 38 xhr rfl (by decide) (Or.inl ⟨rfl, ⟨htag, (by rw [hcx, hpx]; exact hGT), KC_tr hGSK (KC_tr hB.2.2 hGTK)⟩⟩)
          · skip
            replace c6 : ¬ ((pTok bt n p1).1) = 10019 := fun q => c6 ((sEQ (a := ((pTok bt n p1).1)) (b := 10019) (by omega) (by omega)).mpr q)
            obtain ⟨-, htag, hp⟩ := hc4.resolve_left (fun q => by have := q.1; omega)
            refine ww_blk xCC okX3_bare 33 1 (ps := []) (pc' := 66) (lv' := [(0, .ref 0), (1, .int (nI o))]) (st' := [.int 0]) (z' := zB) rfl trivial ?_
            subst xhQ
            exact ww_iret xCC okX3_bare 34 xhr rfl (by decide) (Or.inr ⟨rfl, ⟨htag, (by rw [hp]; exact hGB.2.1.1), KC_tr hGSK hB.2.2⟩⟩)
        · skip
          obtain ⟨-, htag, hp⟩ := hc3.resolve_right (fun q => absurd (hB.1.symm.trans q.1) (by decide))
          refine ww_br xCC okX3_bare 28 (P := 0 = 0) (t1 := 65) (t2 := 55) (r := []) rfl (fun _ => ?_) (fun q => absurd (by decide) q)
          refine ww_blk xCC okX3_bare 33 1 (ps := []) (pc' := 66) (lv' := [(0, .ref 0), (1, .int (nI o))]) (st' := [.int 0]) (z' := zB) rfl trivial ?_
          subst xhQ
          exact ww_iret xCC okX3_bare 34 xhr rfl (by decide) (Or.inr ⟨rfl, ⟨htag, (by rw [hp]; exact hB.2.1), KC_tr hGSK hB.2.2⟩⟩)
      · skip
        replace c3 : ¬ o < 5 := fun q => c3 ((sLT (a := o) (b := 5) (by omega) (by omega)).mpr q)
        obtain ⟨htag, hp⟩ : tag = 2 ∧ p = (pTok bt n pos).2.1 := by
          rcases hc with q | q
          · obtain ⟨q0, q⟩ := q
            rcases q with q | q
            · exact q.2
            · have := q.1; omega
          · exact q.2.2
        refine ww_blk xCC okX3_bare 19 1 (ps := []) (pc' := 40) (lv' := [(0, .ref 0), (1, .int (nI o))]) (st' := [.int 0]) (z' := z) rfl trivial ?_
        subst xhQ
        exact ww_iret xCC okX3_bare 20 xhr rfl (by decide) (Or.inr ⟨rfl, ⟨htag, (by rw [hp]; exact hG.2.1.1), KC_rf z⟩⟩)
    · skip
      replace c2 : ¬ ((pTok bt n pos).1) = 10018 := fun q => c2 ((sEQ (a := ((pTok bt n pos).1)) (b := 10018) (by omega) (by omega)).mpr q)
      obtain ⟨htag, hp⟩ : tag = 2 ∧ p = (pTok bt n pos).2.1 := by
        rcases hc with q | q
        · obtain ⟨q0, q⟩ := q
          rcases q with q | q
          · exact q.2
          · have := q.1; omega
        · exact q.2.2
      refine ww_blk xCC okX3_bare 19 1 (ps := []) (pc' := 40) (lv' := [(0, .ref 0), (1, .int (nI o))]) (st' := [.int 0]) (z' := z) rfl trivial ?_
      subst xhQ
      exact ww_iret xCC okX3_bare 20 xhr rfl (by decide) (Or.inr ⟨rfl, ⟨htag, (by rw [hp]; exact hG.2.1.1), KC_rf z⟩⟩)
  · skip
    replace c1 : ¬ 10005 < ((pTok bt n pos).1) := fun q => c1 ((sLT (a := 10005) (b := ((pTok bt n pos).1)) (by omega) (by omega)).mpr q)
    obtain ⟨g, hg, hc⟩ := pG_one h ht
    obtain ⟨-, htag, hcx, hpx⟩ := hc.resolve_right (fun q => by rcases q with q | q <;> (have := q.1; omega))
    have hgt := pTok_gt hG.2.2.1 (show (pTok bt n pos).1 ≠ 10021 by omega)
    have hn160 := hG.1.2.1
    have hl0 := hG.2.2.2.2
    refine ww_blk xCC okX3_bare 4 3 (ps := []) (pc' := 15) (lv' := [(0, .ref 0), (1, .int (nI o))]) (st' := [.int (z.1 0 4), .ref 0]) (z' := z) rfl trivial ?_
    rw [show z.1 0 4 = nI (pTok bt n pos).1 from hG.2.1.2.2]
    refine ww_callVIv xCC okX3_bare 7 (ix := 41) (t_X3_write l d (pTok bt n pos).1 ws.length z hG.2.2.2.1.1 (by omega)) (by omega) (by decide) xyX3_write xiX3_write (Or.inl (lw_gt_of (List.mem_of_getElem? (i := 566) (by decide +kernel)) rfl)) rfl rfl rfl (rest := []) rfl (Nat.le_of_ble_eq_true rfl) rfl (fun zW hW => ?_)
    refine ww_blk xCC okX3_bare 8 1 (ps := []) (pc' := 19) (lv' := [(0, .ref 0), (1, .int (nI o))]) (st' := [.ref 0]) (z' := zW) rfl trivial ?_
    refine ww_callVIv xCC okX3_bare 9 (ix := 28) (t_X3_step l (d + f) n (pTok bt n pos).2.2 bt zW (by rw [hW]; exact TQ_w hG.1) (by rw [hW]; simp [mPut_rd]; exact hG.2.1.2.1) hgt.2) (by omega) (by decide) xyX3_step xiX3_step (Or.inl (lw_gt_of (List.mem_of_getElem? (i := 448) (by decide +kernel)) rfl)) rfl rfl rfl (rest := []) rfl (Nat.le_of_ble_eq_true rfl) rfl (fun zS hS => ?_)
    have hGS : gX zS bt n (pTok bt n pos).2.2 (ws ++ [(pTok bt n pos).1]) := gX_ws hG (by omega) (hW ▸ hS)
    have hWK : KC z zS := KC_tr (by rw [hW]; exact KC_w) (KC_3 hS.2)
    refine ww_blk xCC okX3_bare 10 1 (ps := []) (pc' := 23) (lv' := [(0, .ref 0), (1, .int (nI o))]) (st' := [.int 1]) (z' := zS) rfl trivial ?_
    subst xhQ
    exact ww_iret xCC okX3_bare 11 xhr rfl (by decide) (Or.inl ⟨rfl, ⟨htag, (by rw [hcx, hpx]; exact hGS), hWK⟩⟩)
theorem x_all (l : Launch) (bt : Nat → Nat) (n : Nat) : ∀ f, XG l bt n yX3_either cX3_either 3 0 f ∧ XG l bt n yX3_both cX3_both 3 1 f ∧ XG l bt n yX3_negated cX3_negated 4 2 f ∧ XG l bt n yX3_compared cX3_compared 3 3 f ∧ XG l bt n yX3_sum cX3_sum 4 4 f ∧ XG l bt n yX3_product cX3_product 3 5 f ∧ XG l bt n yX3_single cX3_single 4 6 f ∧ XG l bt n yX3_bare cX3_bare 2 7 f := by
  intro f
  induction f using Nat.strongRecOn with
  | ind f ih =>
    refine ⟨fun d => ?_, fun d => ?_, fun d => ?_, fun d => ?_, fun d => ?_, fun d => ?_, fun d => ?_, fun d => ?_⟩
    · exact t_X3_either l d bt n f (fun g hg => (ih g hg).2.1)
    · exact t_X3_both l d bt n f (fun g hg => (ih g hg).2.2.1)
    · exact t_X3_negated l d bt n f (fun g hg => (ih g hg).2.2.2.1)
    · exact t_X3_compared l d bt n f (fun g hg => (ih g hg).2.2.2.2.1)
    · exact t_X3_sum l d bt n f (fun g hg => (ih g hg).2.2.2.2.2.1)
    · exact t_X3_product l d bt n f (fun g hg => (ih g hg).2.2.2.2.2.2.1)
    · exact t_X3_single l d bt n f (fun g hg => (ih g hg).2.2.2.2.2.2.2)
    · exact t_X3_bare l d bt n f (fun g hg => (ih g hg).1)
