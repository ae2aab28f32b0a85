/-! chains of the model -/
set_option maxHeartbeats 4000000 in
set_option maxRecDepth 20000 in
theorem t_X6_term (l : Launch) (d : Nat) (bt : Nat → Nat) (n fr : Nat) (f : Nat) (ih : ∀ g, g < f → MC l bt n fr yX6_atom cX6_atom 2 6 g) (z : xMem) (o pos tag : Nat) (cs : List Nat) (p : Nat) (hgs : gS z bt n fr pos o) (hG : pG bt n f 5 o pos = (tag, cs, p)) (ht : tag ≠ 0) : XMi l (d + f + 5) yX6_term cX6_term 2 (some .int) shM [.ref 0] z (fun v z' => mR z z' bt n fr o tag cs p v) := by
  obtain ⟨g, t1, x1, p1, rfl, h1, ht1, hch⟩ := pG_ch (m := 5) (sub := 6) (rest := 15) (by decide) hG ht
  refine XM.of (by decide) (Nat.le_of_ble_eq_true rfl) (fun xp xe xs xm xar xbl xme xc xD xcs xad xAA xCC xhr => ?_)
  generalize xhQ : MQ xbl _ xar xs 0 0 xAA = xQ
  show ww xp l xe (xRm (d + (g + 1) + 5)) xs xm xar xbl xme xc 2 xD xcs xad shM xAA xQ 0 [(0, .ref 0)] [] z
  refine ww_blk xCC okX6_term 0 1 (ps := []) (pc' := 1) (lv' := [(0, .ref 0)]) (st' := [.ref 0]) (z' := z) rfl trivial ?_
  refine ww_callVIi xCC okX6_term 1 (ix := 224) (ih g (by omega) d z o pos t1 x1 p1 hgs h1 ht1) (by omega) (by decide) xyX6_atom xiX6_atom (Or.inl (lw_gt_of (List.mem_of_getElem? (i := 1068) (by decide +kernel)) rfl)) rfl rfl rfl (rest := []) rfl (Nat.le_of_ble_eq_true rfl) rfl (fun vA zA hA => ?_)
  obtain ⟨hK1, hA1⟩ := hA
  rcases hA1 with ⟨e1, hS1, hv1⟩ | ⟨e1, hB1⟩
  · skip
    obtain ⟨x2, h2, hcs⟩ : ∃ x2, pG bt n g 15 o p1 = (tag, x2, p) ∧ (tag = 1 → cs = x1 ++ x2) := by
      rcases hch with ⟨q, -⟩ | ⟨-, q⟩
      · omega
      · exact q
    refine ww_blk xCC okX6_term 2 1 (ps := []) (pc' := 5) (lv' := [(1, .int vA), (0, .ref 0)]) (st' := []) (z' := zA) rfl trivial ?_
    have L5 : ∀ (n5 : Nat) (f2 : Nat) (q : Nat) (c0 : List Nat) (c3 : List Nat) (v : Int32) (zc : xMem), f2 < n5 → (f2 ≤ g) → (pG bt n f2 15 o q = (tag, c3, p)) → (tag = 1 → cs = c0 ++ c3) → (∀ st, pEv (pF z) c0 st = v :: st) → (gS zc bt n fr q o) → (pK z zc) → ww xp l xe (xRm (d + (g + 1) + 5)) xs xm xar xbl xme xc 2 xD xcs xad shM xAA xQ 5 [(1, .int v), (0, .ref 0)] [] zc := by
      intro n5
      induction n5 with
      | zero =>
        intro f2 q c0 c3 v zc hmu5
        exact absurd hmu5 (Nat.not_lt_zero _)
      | succ n5 ih5 =>
        intro f2 q c0 c3 v zc hmu5 e5_0 e5_1 e5_2 e5_3 e5_4 e5_5
        obtain ⟨g2, rfl, hmo⟩ := pG_mo (m := 15) (sub := 6) (by decide) e5_1 ht
        refine ww_blk xCC okX6_term 3 2 (ps := []) (pc' := 8) (lv' := [(1, .int v), (0, .ref 0)]) (st' := [.int 42, .ref 0]) (z' := zc) rfl trivial ?_
        refine ww_callVIz xCC okX6_term 5 (ix := 217) (t_X6_isSign l d zc bt n q e5_4.1.2.2.2.1 e5_4.2.1 e5_4.2.2.2.1 42 (by decide)) (by omega) (by decide) xyX6_isSign xiX6_isSign (Or.inl (lw_gt_of (List.mem_of_getElem? (i := 1072) (by decide +kernel)) rfl)) rfl rfl rfl (rest := []) rfl (Nat.le_of_ble_eq_true rfl) rfl (fun z1 h2 => ?_) (fun z1 h2 => ?_)
        · skip
          rw [h2.2]
          have hs8 := h2.1
          refine ww_br xCC okX6_term 6 (P := 1 = 0) (t1 := 28) (t2 := 14) (r := []) rfl (fun q => absurd q (by decide)) (fun _ => ?_)
          obtain ⟨t4, x4, p4, h4, ht4, hch4⟩ : ∃ t4 x4 p4, pG bt n g2 6 o (pTok bt n q).2.2 = (t4, x4, p4) ∧ t4 ≠ 0 ∧ ((t4 = 2 ∧ tag = 2 ∧ p = p4) ∨ (t4 = 1 ∧ ∃ x5, pG bt n g2 15 o p4 = (tag, x5, p) ∧ (tag = 1 → c3 = x4 ++ (pTok bt n q).1 :: x5))) := by
            rcases hmo with ⟨w, -⟩ | ⟨-, w⟩
            · rw [show (pTok bt n q).1 = 10012 from hs8.trans (by decide)] at w
              exact absurd w (by decide)
            · exact w
          refine ww_blk xCC okX6_term 7 1 (ps := []) (pc' := 15) (lv' := [(1, .int v), (0, .ref 0)]) (st' := [.ref 0]) (z' := zc) rfl trivial ?_
          refine ww_callVIv xCC okX6_term 8 (ix := 192) (t_X6_next l d zc bt n fr e5_4.1 (pTok bt n q).2.2 (pTok_le e5_4.2.2.2.2.1).1 (tkM_here e5_4.2.2.2.1 (by rw [hs8]; decide))) (by omega) (by decide) xyX6_next xiX6_next (Or.inl (lw_gt_of (List.mem_of_getElem? (i := 1015) (by decide +kernel)) rfl)) rfl rfl rfl (rest := []) rfl (Nat.le_of_ble_eq_true rfl) rfl (fun z4 h5 => ?_)
          have hgN15 := gS_nx e5_4.1 e5_4.2.1 e5_4.2.2.1 h5.1 h5.2 (pTok_le e5_4.2.2.2.2.1).1 e5_4.2.2.2.2.2
          have hKN15 := pK_tr e5_5 (pK4_K h5.1)
          refine ww_blk xCC okX6_term 9 2 (ps := []) (pc' := 20) (lv' := [(1, .int v), (0, .ref 0)]) (st' := [.ref 0, .int v]) (z' := z4) rfl trivial ?_
          refine ww_callVIi xCC okX6_term 11 (ix := 224) (ih g2 (by omega) d z4 o (pTok bt n q).2.2 t4 x4 p4 hgN15 h4 ht4) (by omega) (by decide) xyX6_atom xiX6_atom (Or.inl (lw_gt_of (List.mem_of_getElem? (i := 1068) (by decide +kernel)) rfl)) rfl rfl rfl (rest := [.int v]) rfl (Nat.le_of_ble_eq_true rfl) rfl (fun vB zB hB => ?_)
          obtain ⟨hK4, hB1⟩ := hB
          have hv5 : t4 = 1 → ∀ st, pEv (pF z) x4 st = vB :: st := fun w st => by
            rcases hB1 with ⟨-, -, q⟩ | ⟨q, -⟩
            · rw [← pEv_K hKN15]; exact q st
            · omega
          replace hK4 := pK_tr hKN15 hK4
          rcases hB1 with ⟨e4, hS4, -⟩ | ⟨e4, hB4⟩
          · skip
            replace hv5 := hv5 e4
            obtain ⟨x5, h5, hcs5⟩ : ∃ x5, pG bt n g2 15 o p4 = (tag, x5, p) ∧ (tag = 1 → c3 = x4 ++ (pTok bt n q).1 :: x5) := by
              rcases hch4 with ⟨w, -⟩ | ⟨-, w⟩
              · omega
              · exact w
            refine ww_blk xCC okX6_term 12 3 (ps := []) (pc' := 5) (lv' := [(1, .int (v * vB)), (0, .ref 0)]) (st' := []) (z' := zB) rfl trivial ?_
            exact ww_cut [0, 1] (xlc rfl (xlc rfl rfl)) rfl rfl (ih5 g2 p4 (c0 ++ (x4 ++ [10012])) x5 (v * vB) zB (by omega) (by omega) h5 (fun w => by rw [e5_2 w, hcs5 w, show (pTok bt n q).1 = 10012 from hs8.trans (by decide)]; simp) (fun st => by rw [pEv_app, e5_3, pEv_app, hv5]; rfl) hS4 hK4)
          · skip
            obtain ⟨htag, hp⟩ : tag = 2 ∧ p = p4 := by
              rcases hch4 with ⟨-, w⟩ | ⟨w, -⟩
              · exact w
              · omega
            refine ww_blk xCC okX6_term 12 3 (ps := []) (pc' := 5) (lv' := [(1, .int (v * vB)), (0, .ref 0)]) (st' := []) (z' := zB) rfl trivial ?_
            refine ww_blk xCC okX6_term 3 2 (ps := []) (pc' := 8) (lv' := [(1, .int (v * vB)), (0, .ref 0)]) (st' := [.int 42, .ref 0]) (z' := zB) rfl trivial ?_
            refine ww_callVIi xCC okX6_term 5 (ix := 217) (t_X6_isSign_b l d zB hB4.1 42) (by omega) (by decide) xyX6_isSign xiX6_isSign (Or.inl (lw_gt_of (List.mem_of_getElem? (i := 1072) (by decide +kernel)) rfl)) rfl rfl rfl (rest := []) rfl (Nat.le_of_ble_eq_true rfl) rfl (fun v9 z7 h8 => ?_)
            rw [h8.1, h8.2]
            refine ww_br xCC okX6_term 6 (P := 0 = 0) (t1 := 28) (t2 := 14) (r := []) rfl (fun _ => ?_) (fun q => absurd (by decide) q)
            refine ww_blk xCC okX6_term 15 1 (ps := []) (pc' := 29) (lv' := [(1, .int (v * vB)), (0, .ref 0)]) (st' := [.int (v * vB)]) (z' := zB) rfl trivial ?_
            subst xhQ
            exact ww_iret xCC okX6_term 16 xhr rfl rfl ⟨_, rfl, ⟨hK4, Or.inr ⟨htag, (by rw [hp]; exact hB4)⟩⟩⟩
        · skip
          rw [h2.2]
          have hs8 := h2.1
          refine ww_br xCC okX6_term 6 (P := 0 = 0) (t1 := 28) (t2 := 14) (r := []) rfl (fun _ => ?_) (fun q => absurd (by decide) q)
          obtain ⟨k1, k2, k3⟩ : tag = 1 ∧ c3 = [] ∧ p = q := by
            rcases hmo with ⟨-, w⟩ | ⟨w, -⟩
            · exact w
            · exfalso
              simp only [pOp] at w; exact hs8 (eq_of_beq w)
          refine ww_blk xCC okX6_term 15 1 (ps := []) (pc' := 29) (lv' := [(1, .int v), (0, .ref 0)]) (st' := [.int v]) (z' := zc) rfl trivial ?_
          subst xhQ
          exact ww_iret xCC okX6_term 16 xhr rfl rfl ⟨_, rfl, ⟨e5_5, Or.inl ⟨k1, (by rw [k3]; exact e5_4), fun st => (by rw [e5_2 k1, k2, List.append_nil]; exact e5_3 st)⟩⟩⟩
    exact ww_cut [0, 1] (xlc rfl (xlc rfl rfl)) rfl rfl (L5 (g + 1) g p1 x1 x2 vA zA (Nat.lt_succ_self _) (Nat.le_refl _) h2 hcs hv1 hS1 hK1)
  · skip
    obtain ⟨htag, hp⟩ : tag = 2 ∧ p = p1 := by
      rcases hch with ⟨-, q⟩ | ⟨q, -⟩
      · exact q
      · omega
    refine ww_blk xCC okX6_term 2 3 (ps := []) (pc' := 8) (lv' := [(1, .int vA), (0, .ref 0)]) (st' := [.int 42, .ref 0]) (z' := zA) rfl trivial ?_
    refine ww_callVIi xCC okX6_term 5 (ix := 217) (t_X6_isSign_b l d zA hB1.1 42) (by omega) (by decide) xyX6_isSign xiX6_isSign (Or.inl (lw_gt_of (List.mem_of_getElem? (i := 1072) (by decide +kernel)) rfl)) rfl rfl rfl (rest := []) rfl (Nat.le_of_ble_eq_true rfl) rfl (fun v14 z12 h13 => ?_)
    rw [h13.1, h13.2]
    refine ww_br xCC okX6_term 6 (P := 0 = 0) (t1 := 28) (t2 := 14) (r := []) rfl (fun _ => ?_) (fun q => absurd (by decide) q)
    refine ww_blk xCC okX6_term 15 1 (ps := []) (pc' := 29) (lv' := [(1, .int vA), (0, .ref 0)]) (st' := [.int vA]) (z' := zA) rfl trivial ?_
    subst xhQ
    exact ww_iret xCC okX6_term 16 xhr rfl rfl ⟨_, rfl, ⟨hK1, Or.inr ⟨htag, (by rw [hp]; exact hB1)⟩⟩⟩

set_option maxHeartbeats 4000000 in
set_option maxRecDepth 20000 in
theorem t_X6_added (l : Launch) (d : Nat) (bt : Nat → Nat) (n fr : Nat) (f : Nat) (ih : ∀ g, g < f → MC l bt n fr yX6_term cX6_term 2 5 g) (z : xMem) (o pos tag : Nat) (cs : List Nat) (p : Nat) (hgs : gS z bt n fr pos o) (hG : pG bt n f 4 o pos = (tag, cs, p)) (ht : tag ≠ 0) : XMi l (d + f + 5) yX6_added cX6_added 4 (some .int) shM [.ref 0] z (fun v z' => mR z z' bt n fr o tag cs p v) := by
  obtain ⟨g, t1, x1, p1, rfl, h1, ht1, hch⟩ := pG_ch (m := 4) (sub := 5) (rest := 14) (by decide) hG ht
  refine XM.of (by decide) (Nat.le_of_ble_eq_true rfl) (fun xp xe xs xm xar xbl xme xc xD xcs xad xAA xCC xhr => ?_)
  generalize xhQ : MQ xbl _ xar xs 0 0 xAA = xQ
  show ww xp l xe (xRm (d + (g + 1) + 5)) xs xm xar xbl xme xc 4 xD xcs xad shM xAA xQ 0 [(0, .ref 0)] [] z
  refine ww_blk xCC okX6_added 0 1 (ps := []) (pc' := 1) (lv' := [(0, .ref 0)]) (st' := [.ref 0]) (z' := z) rfl trivial ?_
  refine ww_callVIi xCC okX6_added 1 (ix := 233) (ih g (by omega) d z o pos t1 x1 p1 hgs h1 ht1) (by omega) (by decide) xyX6_term xiX6_term (Or.inl (lw_gt_of (List.mem_of_getElem? (i := 1064) (by decide +kernel)) rfl)) rfl rfl rfl (rest := []) rfl (Nat.le_of_ble_eq_true rfl) rfl (fun vA zA hA => ?_)
  obtain ⟨hK1, hA1⟩ := hA
  rcases hA1 with ⟨e1, hS1, hv1⟩ | ⟨e1, hB1⟩
  · skip
    obtain ⟨x2, h2, hcs⟩ : ∃ x2, pG bt n g 14 o p1 = (tag, x2, p) ∧ (tag = 1 → cs = x1 ++ x2) := by
      rcases hch with ⟨q, -⟩ | ⟨-, q⟩
      · omega
      · exact q
    refine ww_blk xCC okX6_added 2 1 (ps := []) (pc' := 5) (lv' := [(1, .int vA), (0, .ref 0)]) (st' := []) (z' := zA) rfl trivial ?_
    have L5 : ∀ (n5 : Nat) (f2 : Nat) (q : Nat) (c0 : List Nat) (c3 : List Nat) (v : Int32) (zc : xMem), f2 < n5 → (f2 ≤ g) → (pG bt n f2 14 o q = (tag, c3, p)) → (tag = 1 → cs = c0 ++ c3) → (∀ st, pEv (pF z) c0 st = v :: st) → (gS zc bt n fr q o) → (pK z zc) → ww xp l xe (xRm (d + (g + 1) + 5)) xs xm xar xbl xme xc 4 xD xcs xad shM xAA xQ 5 [(1, .int v), (0, .ref 0)] [] zc := by
      intro n5
      induction n5 with
      | zero =>
        intro f2 q c0 c3 v zc hmu5
        exact absurd hmu5 (Nat.not_lt_zero _)
      | succ n5 ih5 =>
        intro f2 q c0 c3 v zc hmu5 e5_0 e5_1 e5_2 e5_3 e5_4 e5_5
        obtain ⟨g2, rfl, hmo⟩ := pG_mo (m := 14) (sub := 5) (by decide) e5_1 ht
        refine ww_blk xCC okX6_added 3 2 (ps := []) (pc' := 8) (lv' := [(1, .int v), (0, .ref 0)]) (st' := [.int 43, .ref 0]) (z' := zc) rfl trivial ?_
        refine ww_callVIz xCC okX6_added 5 (ix := 217) (t_X6_isSign l d zc bt n q e5_4.1.2.2.2.1 e5_4.2.1 e5_4.2.2.2.1 43 (by decide)) (by omega) (by decide) xyX6_isSign xiX6_isSign (Or.inl (lw_gt_of (List.mem_of_getElem? (i := 1072) (by decide +kernel)) rfl)) rfl rfl rfl (rest := []) rfl (Nat.le_of_ble_eq_true rfl) rfl (fun z1 h2 => ?_) (fun z1 h2 => ?_)
        · skip
          rw [h2.2]
          have hs8 := h2.1
          refine ww_br xCC okX6_added 6 (P := 1 = 0) (t1 := 14) (t2 := 23) (r := []) rfl (fun q => absurd q (by decide)) (fun _ => ?_)
          obtain ⟨t4, x4, p4, h4, ht4, hch4⟩ : ∃ t4 x4 p4, pG bt n g2 5 o (pTok bt n q).2.2 = (t4, x4, p4) ∧ t4 ≠ 0 ∧ ((t4 = 2 ∧ tag = 2 ∧ p = p4) ∨ (t4 = 1 ∧ ∃ x5, pG bt n g2 14 o p4 = (tag, x5, p) ∧ (tag = 1 → c3 = x4 ++ (pTok bt n q).1 :: x5))) := by
            rcases hmo with ⟨w, -⟩ | ⟨-, w⟩
            · rw [show (pTok bt n q).1 = 10010 from hs8.trans (by decide)] at w
              exact absurd w (by decide)
            · exact w
          refine ww_blk xCC okX6_added 11 4 (ps := []) (pc' := 31) (lv' := [(1, .int v), (0, .ref 0)]) (st' := [.int (lg_cmp (zc.2.1 0 27) 43)]) (z' := zc) rfl trivial ?_
          refine ww_br xCC okX6_added 15 (P := (lg_cmp (zc.2.1 0 27) 43) = 0) (t1 := 34) (t2 := 38) (r := []) rfl (fun c4 => ?_) (fun c4 => absurd ((lg_cmp_eq _ _).mpr (tkM_worth e5_4.2.2.2.1 e5_4.1.2.2.2.1 (c := 43) (by decide) hs8)) c4)
          refine ww_blk xCC okX6_added 16 2 (ps := []) (pc' := 39) (lv' := [(1, .int v), (0, .ref 0)]) (st' := [.int 1]) (z' := zc) rfl trivial ?_
          refine ww_blk xCC okX6_added 19 2 (ps := []) (pc' := 41) (lv' := [(2, .int 1), (1, .int v), (0, .ref 0)]) (st' := [.ref 0]) (z' := zc) rfl trivial ?_
          refine ww_callVIv xCC okX6_added 21 (ix := 192) (t_X6_next l d zc bt n fr e5_4.1 (pTok bt n q).2.2 (pTok_le e5_4.2.2.2.2.1).1 (tkM_here e5_4.2.2.2.1 (by rw [hs8]; decide))) (by omega) (by decide) xyX6_next xiX6_next (Or.inl (lw_gt_of (List.mem_of_getElem? (i := 1015) (by decide +kernel)) rfl)) rfl rfl rfl (rest := []) rfl (Nat.le_of_ble_eq_true rfl) rfl (fun z5 h6 => ?_)
          have hgN41 := gS_nx e5_4.1 e5_4.2.1 e5_4.2.2.1 h6.1 h6.2 (pTok_le e5_4.2.2.2.2.1).1 e5_4.2.2.2.2.2
          have hKN41 := pK_tr e5_5 (pK4_K h6.1)
          refine ww_blk xCC okX6_added 22 1 (ps := []) (pc' := 45) (lv' := [(2, .int 1), (1, .int v), (0, .ref 0)]) (st' := [.ref 0]) (z' := z5) rfl trivial ?_
          refine ww_callVIi xCC okX6_added 23 (ix := 233) (ih g2 (by omega) d z5 o (pTok bt n q).2.2 t4 x4 p4 hgN41 h4 ht4) (by omega) (by decide) xyX6_term xiX6_term (Or.inl (lw_gt_of (List.mem_of_getElem? (i := 1064) (by decide +kernel)) rfl)) rfl rfl rfl (rest := []) rfl (Nat.le_of_ble_eq_true rfl) rfl (fun vB zB hB => ?_)
          obtain ⟨hK4, hB1⟩ := hB
          have hv5 : t4 = 1 → ∀ st, pEv (pF z) x4 st = vB :: st := fun w st => by
            rcases hB1 with ⟨-, -, q⟩ | ⟨q, -⟩
            · rw [← pEv_K hKN41]; exact q st
            · omega
          replace hK4 := pK_tr hKN41 hK4
          rcases hB1 with ⟨e4, hS4, -⟩ | ⟨e4, hB4⟩
          · skip
            replace hv5 := hv5 e4
            obtain ⟨x5, h5, hcs5⟩ : ∃ x5, pG bt n g2 14 o p4 = (tag, x5, p) ∧ (tag = 1 → c3 = x4 ++ (pTok bt n q).1 :: x5) := by
              rcases hch4 with ⟨w, -⟩ | ⟨-, w⟩
              · omega
              · exact w
            refine ww_blk xCC okX6_added 24 2 (ps := []) (pc' := 50) (lv' := [(3, .int vB), (2, .int 1), (1, .int v), (0, .ref 0)]) (st' := [.int 1]) (z' := zB) rfl trivial ?_
            refine ww_br xCC okX6_added 26 (P := 1 = 0) (t1 := 59) (t2 := 53) (r := []) rfl (fun q => absurd q (by decide)) (fun _ => ?_)
            refine ww_blk xCC okX6_added 27 4 (ps := []) (pc' := 62) (lv' := [(3, .int vB), (2, .int 1), (1, .int v), (0, .ref 0)]) (st' := [.int (v + vB)]) (z' := zB) rfl trivial ?_
            refine ww_blk xCC okX6_added 34 2 (ps := []) (pc' := 5) (lv' := [(1, .int (v + vB)), (3, .int vB), (2, .int 1), (0, .ref 0)]) (st' := []) (z' := zB) rfl trivial ?_
            exact ww_cut [0, 3] (xlc rfl (xlc rfl rfl)) rfl rfl (ih5 g2 p4 (c0 ++ (x4 ++ [10010])) x5 (v + vB) zB (by omega) (by omega) h5 (fun w => by rw [e5_2 w, hcs5 w, show (pTok bt n q).1 = 10010 from hs8.trans (by decide)]; simp) (fun st => by rw [pEv_app, e5_3, pEv_app, hv5]; rfl) hS4 hK4)
          · skip
            obtain ⟨htag, hp⟩ : tag = 2 ∧ p = p4 := by
              rcases hch4 with ⟨-, w⟩ | ⟨w, -⟩
              · exact w
              · omega
            refine ww_blk xCC okX6_added 24 2 (ps := []) (pc' := 50) (lv' := [(3, .int vB), (2, .int 1), (1, .int v), (0, .ref 0)]) (st' := [.int 1]) (z' := zB) rfl trivial ?_
            refine ww_br xCC okX6_added 26 (P := 1 = 0) (t1 := 59) (t2 := 53) (r := []) rfl (fun q => absurd q (by decide)) (fun _ => ?_)
            refine ww_blk xCC okX6_added 27 4 (ps := []) (pc' := 62) (lv' := [(3, .int vB), (2, .int 1), (1, .int v), (0, .ref 0)]) (st' := [.int (v + vB)]) (z' := zB) rfl trivial ?_
            refine ww_blk xCC okX6_added 34 2 (ps := []) (pc' := 5) (lv' := [(1, .int (v + vB)), (3, .int vB), (2, .int 1), (0, .ref 0)]) (st' := []) (z' := zB) rfl trivial ?_
            refine ww_blk xCC okX6_added 3 2 (ps := []) (pc' := 8) (lv' := [(1, .int (v + vB)), (3, .int vB), (2, .int 1), (0, .ref 0)]) (st' := [.int 43, .ref 0]) (z' := zB) rfl trivial ?_
            refine ww_callVIi xCC okX6_added 5 (ix := 217) (t_X6_isSign_b l d zB hB4.1 43) (by omega) (by decide) xyX6_isSign xiX6_isSign (Or.inl (lw_gt_of (List.mem_of_getElem? (i := 1072) (by decide +kernel)) rfl)) rfl rfl rfl (rest := []) rfl (Nat.le_of_ble_eq_true rfl) rfl (fun v12 z10 h11 => ?_)
            rw [h11.1, h11.2]
            refine ww_br xCC okX6_added 6 (P := 0 = 0) (t1 := 14) (t2 := 23) (r := []) rfl (fun _ => ?_) (fun q => absurd (by decide) q)
            refine ww_blk xCC okX6_added 7 2 (ps := []) (pc' := 17) (lv' := [(1, .int (v + vB)), (3, .int vB), (2, .int 1), (0, .ref 0)]) (st' := [.int 45, .ref 0]) (z' := zB) rfl trivial ?_
            refine ww_callVIi xCC okX6_added 9 (ix := 217) (t_X6_isSign_b l d zB hB4.1 45) (by omega) (by decide) xyX6_isSign xiX6_isSign (Or.inl (lw_gt_of (List.mem_of_getElem? (i := 1072) (by decide +kernel)) rfl)) rfl rfl rfl (rest := []) rfl (Nat.le_of_ble_eq_true rfl) rfl (fun v16 z14 h15 => ?_)
            rw [h15.1, h15.2]
            refine ww_br xCC okX6_added 10 (P := 0 = 0) (t1 := 66) (t2 := 23) (r := []) rfl (fun _ => ?_) (fun q => absurd (by decide) q)
            refine ww_blk xCC okX6_added 36 1 (ps := []) (pc' := 67) (lv' := [(1, .int (v + vB)), (3, .int vB), (2, .int 1), (0, .ref 0)]) (st' := [.int (v + vB)]) (z' := zB) rfl trivial ?_
            subst xhQ
            exact ww_iret xCC okX6_added 37 xhr rfl rfl ⟨_, rfl, ⟨hK4, Or.inr ⟨htag, (by rw [hp]; exact hB4)⟩⟩⟩
        · skip
          rw [h2.2]
          have hs8 := h2.1
          refine ww_br xCC okX6_added 6 (P := 0 = 0) (t1 := 14) (t2 := 23) (r := []) rfl (fun _ => ?_) (fun q => absurd (by decide) q)
          refine ww_blk xCC okX6_added 7 2 (ps := []) (pc' := 17) (lv' := [(1, .int v), (0, .ref 0)]) (st' := [.int 45, .ref 0]) (z' := zc) rfl trivial ?_
          refine ww_callVIz xCC okX6_added 9 (ix := 217) (t_X6_isSign l d zc bt n q e5_4.1.2.2.2.1 e5_4.2.1 e5_4.2.2.2.1 45 (by decide)) (by omega) (by decide) xyX6_isSign xiX6_isSign (Or.inl (lw_gt_of (List.mem_of_getElem? (i := 1072) (by decide +kernel)) rfl)) rfl rfl rfl (rest := []) rfl (Nat.le_of_ble_eq_true rfl) rfl (fun z19 h20 => ?_) (fun z19 h20 => ?_)
          · skip
            rw [h20.2]
            have hs17 := h20.1
            refine ww_br xCC okX6_added 10 (P := 1 = 0) (t1 := 66) (t2 := 23) (r := []) rfl (fun q => absurd q (by decide)) (fun _ => ?_)
            obtain ⟨t4, x4, p4, h4, ht4, hch4⟩ : ∃ t4 x4 p4, pG bt n g2 5 o (pTok bt n q).2.2 = (t4, x4, p4) ∧ t4 ≠ 0 ∧ ((t4 = 2 ∧ tag = 2 ∧ p = p4) ∨ (t4 = 1 ∧ ∃ x5, pG bt n g2 14 o p4 = (tag, x5, p) ∧ (tag = 1 → c3 = x4 ++ (pTok bt n q).1 :: x5))) := by
              rcases hmo with ⟨w, -⟩ | ⟨-, w⟩
              · rw [show (pTok bt n q).1 = 10011 from hs17.trans (by decide)] at w
                exact absurd w (by decide)
              · exact w
            refine ww_blk xCC okX6_added 11 4 (ps := []) (pc' := 31) (lv' := [(1, .int v), (0, .ref 0)]) (st' := [.int (lg_cmp (zc.2.1 0 27) 43)]) (z' := zc) rfl trivial ?_
            refine ww_br xCC okX6_added 15 (P := (lg_cmp (zc.2.1 0 27) 43) = 0) (t1 := 34) (t2 := 38) (r := []) rfl (fun c22 => absurd c22 (fun q9 => absurd (tkM_worth e5_4.2.2.2.1 e5_4.1.2.2.2.1 (c := 45) (by decide) hs17) (by rw [(lg_cmp_eq _ _).mp q9]; decide))) (fun c22 => ?_)
            refine ww_blk xCC okX6_added 18 3 (ps := []) (pc' := 41) (lv' := [(2, .int 0), (1, .int v), (0, .ref 0)]) (st' := [.ref 0]) (z' := zc) rfl trivial ?_
            refine ww_callVIv xCC okX6_added 21 (ix := 192) (t_X6_next l d zc bt n fr e5_4.1 (pTok bt n q).2.2 (pTok_le e5_4.2.2.2.2.1).1 (tkM_here e5_4.2.2.2.1 (by rw [hs17]; decide))) (by omega) (by decide) xyX6_next xiX6_next (Or.inl (lw_gt_of (List.mem_of_getElem? (i := 1015) (by decide +kernel)) rfl)) rfl rfl rfl (rest := []) rfl (Nat.le_of_ble_eq_true rfl) rfl (fun z23 h24 => ?_)
            have hgN41 := gS_nx e5_4.1 e5_4.2.1 e5_4.2.2.1 h24.1 h24.2 (pTok_le e5_4.2.2.2.2.1).1 e5_4.2.2.2.2.2
            have hKN41 := pK_tr e5_5 (pK4_K h24.1)
            refine ww_blk xCC okX6_added 22 1 (ps := []) (pc' := 45) (lv' := [(2, .int 0), (1, .int v), (0, .ref 0)]) (st' := [.ref 0]) (z' := z23) rfl trivial ?_
            refine ww_callVIi xCC okX6_added 23 (ix := 233) (ih g2 (by omega) d z23 o (pTok bt n q).2.2 t4 x4 p4 hgN41 h4 ht4) (by omega) (by decide) xyX6_term xiX6_term (Or.inl (lw_gt_of (List.mem_of_getElem? (i := 1064) (by decide +kernel)) rfl)) rfl rfl rfl (rest := []) rfl (Nat.le_of_ble_eq_true rfl) rfl (fun vB zB hB => ?_)
            obtain ⟨hK4, hB1⟩ := hB
            have hv5 : t4 = 1 → ∀ st, pEv (pF z) x4 st = vB :: st := fun w st => by
              rcases hB1 with ⟨-, -, q⟩ | ⟨q, -⟩
              · rw [← pEv_K hKN41]; exact q st
              · omega
            replace hK4 := pK_tr hKN41 hK4
            rcases hB1 with ⟨e4, hS4, -⟩ | ⟨e4, hB4⟩
            · skip
              replace hv5 := hv5 e4
              obtain ⟨x5, h5, hcs5⟩ : ∃ x5, pG bt n g2 14 o p4 = (tag, x5, p) ∧ (tag = 1 → c3 = x4 ++ (pTok bt n q).1 :: x5) := by
                rcases hch4 with ⟨w, -⟩ | ⟨-, w⟩
                · omega
                · exact w
              refine ww_blk xCC okX6_added 24 2 (ps := []) (pc' := 50) (lv' := [(3, .int vB), (2, .int 0), (1, .int v), (0, .ref 0)]) (st' := [.int 0]) (z' := zB) rfl trivial ?_
              refine ww_br xCC okX6_added 26 (P := 0 = 0) (t1 := 59) (t2 := 53) (r := []) rfl (fun _ => ?_) (fun q => absurd (by decide) q)
              refine ww_blk xCC okX6_added 31 5 (ps := []) (pc' := 5) (lv' := [(1, .int (v - vB)), (3, .int vB), (2, .int 0), (0, .ref 0)]) (st' := []) (z' := zB) rfl trivial ?_
              exact ww_cut [0, 3] (xlc rfl (xlc rfl rfl)) rfl rfl (ih5 g2 p4 (c0 ++ (x4 ++ [10011])) x5 (v - vB) zB (by omega) (by omega) h5 (fun w => by rw [e5_2 w, hcs5 w, show (pTok bt n q).1 = 10011 from hs17.trans (by decide)]; simp) (fun st => by rw [pEv_app, e5_3, pEv_app, hv5]; rfl) hS4 hK4)
            · skip
              obtain ⟨htag, hp⟩ : tag = 2 ∧ p = p4 := by
                rcases hch4 with ⟨-, w⟩ | ⟨w, -⟩
                · exact w
                · omega
              refine ww_blk xCC okX6_added 24 2 (ps := []) (pc' := 50) (lv' := [(3, .int vB), (2, .int 0), (1, .int v), (0, .ref 0)]) (st' := [.int 0]) (z' := zB) rfl trivial ?_
              refine ww_br xCC okX6_added 26 (P := 0 = 0) (t1 := 59) (t2 := 53) (r := []) rfl (fun _ => ?_) (fun q => absurd (by decide) q)
              refine ww_blk xCC okX6_added 31 5 (ps := []) (pc' := 5) (lv' := [(1, .int (v - vB)), (3, .int vB), (2, .int 0), (0, .ref 0)]) (st' := []) (z' := zB) rfl trivial ?_
              refine ww_blk xCC okX6_added 3 2 (ps := []) (pc' := 8) (lv' := [(1, .int (v - vB)), (3, .int vB), (2, .int 0), (0, .ref 0)]) (st' := [.int 43, .ref 0]) (z' := zB) rfl trivial ?_
              refine ww_callVIi xCC okX6_added 5 (ix := 217) (t_X6_isSign_b l d zB hB4.1 43) (by omega) (by decide) xyX6_isSign xiX6_isSign (Or.inl (lw_gt_of (List.mem_of_getElem? (i := 1072) (by decide +kernel)) rfl)) rfl rfl rfl (rest := []) rfl (Nat.le_of_ble_eq_true rfl) rfl (fun v30 z28 h29 => ?_)
              rw [h29.1, h29.2]
              refine ww_br xCC okX6_added 6 (P := 0 = 0) (t1 := 14) (t2 := 23) (r := []) rfl (fun _ => ?_) (fun q => absurd (by decide) q)
              refine ww_blk xCC okX6_added 7 2 (ps := []) (pc' := 17) (lv' := [(1, .int (v - vB)), (3, .int vB), (2, .int 0), (0, .ref 0)]) (st' := [.int 45, .ref 0]) (z' := zB) rfl trivial ?_
              refine ww_callVIi xCC okX6_added 9 (ix := 217) (t_X6_isSign_b l d zB hB4.1 45) (by omega) (by decide) xyX6_isSign xiX6_isSign (Or.inl (lw_gt_of (List.mem_of_getElem? (i := 1072) (by decide +kernel)) rfl)) rfl rfl rfl (rest := []) rfl (Nat.le_of_ble_eq_true rfl) rfl (fun v34 z32 h33 => ?_)
              rw [h33.1, h33.2]
              refine ww_br xCC okX6_added 10 (P := 0 = 0) (t1 := 66) (t2 := 23) (r := []) rfl (fun _ => ?_) (fun q => absurd (by decide) q)
              refine ww_blk xCC okX6_added 36 1 (ps := []) (pc' := 67) (lv' := [(1, .int (v - vB)), (3, .int vB), (2, .int 0), (0, .ref 0)]) (st' := [.int (v - vB)]) (z' := zB) rfl trivial ?_
              subst xhQ
              exact ww_iret xCC okX6_added 37 xhr rfl rfl ⟨_, rfl, ⟨hK4, Or.inr ⟨htag, (by rw [hp]; exact hB4)⟩⟩⟩
          · skip
            rw [h20.2]
            have hs17 := h20.1
            refine ww_br xCC okX6_added 10 (P := 0 = 0) (t1 := 66) (t2 := 23) (r := []) rfl (fun _ => ?_) (fun q => absurd (by decide) q)
            obtain ⟨k1, k2, k3⟩ : tag = 1 ∧ c3 = [] ∧ p = q := by
              rcases hmo with ⟨-, w⟩ | ⟨w, -⟩
              · exact w
              · exfalso
                simp only [pOp] at w; rcases Bool.or_eq_true _ _ |>.mp w with w | w <;> first | exact hs8 (eq_of_beq w) | exact hs17 (eq_of_beq w)
            refine ww_blk xCC okX6_added 36 1 (ps := []) (pc' := 67) (lv' := [(1, .int v), (0, .ref 0)]) (st' := [.int v]) (z' := zc) rfl trivial ?_
            subst xhQ
            exact ww_iret xCC okX6_added 37 xhr rfl rfl ⟨_, rfl, ⟨e5_5, Or.inl ⟨k1, (by rw [k3]; exact e5_4), fun st => (by rw [e5_2 k1, k2, List.append_nil]; exact e5_3 st)⟩⟩⟩
    exact ww_cut [0, 1] (xlc rfl (xlc rfl rfl)) rfl rfl (L5 (g + 1) g p1 x1 x2 vA zA (Nat.lt_succ_self _) (Nat.le_refl _) h2 hcs hv1 hS1 hK1)
  · skip
    obtain ⟨htag, hp⟩ : tag = 2 ∧ p = p1 := by
      rcases hch with ⟨-, q⟩ | ⟨q, -⟩
      · exact q
      · omega
    refine ww_blk xCC okX6_added 2 3 (ps := []) (pc' := 8) (lv' := [(1, .int vA), (0, .ref 0)]) (st' := [.int 43, .ref 0]) (z' := zA) rfl trivial ?_
    refine ww_callVIi xCC okX6_added 5 (ix := 217) (t_X6_isSign_b l d zA hB1.1 43) (by omega) (by decide) xyX6_isSign xiX6_isSign (Or.inl (lw_gt_of (List.mem_of_getElem? (i := 1072) (by decide +kernel)) rfl)) rfl rfl rfl (rest := []) rfl (Nat.le_of_ble_eq_true rfl) rfl (fun v39 z37 h38 => ?_)
    rw [h38.1, h38.2]
    refine ww_br xCC okX6_added 6 (P := 0 = 0) (t1 := 14) (t2 := 23) (r := []) rfl (fun _ => ?_) (fun q => absurd (by decide) q)
    refine ww_blk xCC okX6_added 7 2 (ps := []) (pc' := 17) (lv' := [(1, .int vA), (0, .ref 0)]) (st' := [.int 45, .ref 0]) (z' := zA) rfl trivial ?_
    refine ww_callVIi xCC okX6_added 9 (ix := 217) (t_X6_isSign_b l d zA hB1.1 45) (by omega) (by decide) xyX6_isSign xiX6_isSign (Or.inl (lw_gt_of (List.mem_of_getElem? (i := 1072) (by decide +kernel)) rfl)) rfl rfl rfl (rest := []) rfl (Nat.le_of_ble_eq_true rfl) rfl (fun v43 z41 h42 => ?_)
    rw [h42.1, h42.2]
    refine ww_br xCC okX6_added 10 (P := 0 = 0) (t1 := 66) (t2 := 23) (r := []) rfl (fun _ => ?_) (fun q => absurd (by decide) q)
    refine ww_blk xCC okX6_added 36 1 (ps := []) (pc' := 67) (lv' := [(1, .int vA), (0, .ref 0)]) (st' := [.int vA]) (z' := zA) rfl trivial ?_
    subst xhQ
    exact ww_iret xCC okX6_added 37 xhr rfl rfl ⟨_, rfl, ⟨hK1, Or.inr ⟨htag, (by rw [hp]; exact hB1)⟩⟩⟩

set_option maxHeartbeats 4000000 in
set_option maxRecDepth 20000 in
theorem t_X6_both (l : Launch) (d : Nat) (bt : Nat → Nat) (n fr : Nat) (f : Nat) (ih : ∀ g, g < f → MC l bt n fr yX6_not cX6_not 4 2 g) (z : xMem) (o pos tag : Nat) (cs : List Nat) (p : Nat) (hgs : gS z bt n fr pos o) (hG : pG bt n f 1 o pos = (tag, cs, p)) (ht : tag ≠ 0) : XMi l (d + f + 5) yX6_both cX6_both 3 (some .int) shM [.ref 0] z (fun v z' => mR z z' bt n fr o tag cs p v) := by
  obtain ⟨g, t1, x1, p1, rfl, h1, ht1, hch⟩ := pG_ch (m := 1) (sub := 2) (rest := 11) (by decide) hG ht
  refine XM.of (by decide) (Nat.le_of_ble_eq_true rfl) (fun xp xe xs xm xar xbl xme xc xD xcs xad xAA xCC xhr => ?_)
  generalize xhQ : MQ xbl _ xar xs 0 0 xAA = xQ
  show ww xp l xe (xRm (d + (g + 1) + 5)) xs xm xar xbl xme xc 3 xD xcs xad shM xAA xQ 0 [(0, .ref 0)] [] z
  refine ww_blk xCC okX6_both 0 1 (ps := []) (pc' := 1) (lv' := [(0, .ref 0)]) (st' := [.ref 0]) (z' := z) rfl trivial ?_
  refine ww_callVIi xCC okX6_both 1 (ix := 237) (ih g (by omega) d z o pos t1 x1 p1 hgs h1 ht1) (by omega) (by decide) xyX6_not xiX6_not (Or.inl (lw_gt_of (List.mem_of_getElem? (i := 1052) (by decide +kernel)) rfl)) rfl rfl rfl (rest := []) rfl (Nat.le_of_ble_eq_true rfl) rfl (fun vA zA hA => ?_)
  obtain ⟨hK1, hA1⟩ := hA
  rcases hA1 with ⟨e1, hS1, hv1⟩ | ⟨e1, hB1⟩
  · skip
    obtain ⟨x2, h2, hcs⟩ : ∃ x2, pG bt n g 11 o p1 = (tag, x2, p) ∧ (tag = 1 → cs = x1 ++ x2) := by
      rcases hch with ⟨q, -⟩ | ⟨-, q⟩
      · omega
      · exact q
    refine ww_blk xCC okX6_both 2 1 (ps := []) (pc' := 5) (lv' := [(1, .int vA), (0, .ref 0)]) (st' := []) (z' := zA) rfl trivial ?_
    have L5 : ∀ (n5 : Nat) (f2 : Nat) (q : Nat) (c0 : List Nat) (c3 : List Nat) (v : Int32) (zc : xMem), f2 < n5 → (f2 ≤ g) → (pG bt n f2 11 o q = (tag, c3, p)) → (tag = 1 → cs = c0 ++ c3) → (∀ st, pEv (pF z) c0 st = v :: st) → (gS zc bt n fr q o) → (pK z zc) → ww xp l xe (xRm (d + (g + 1) + 5)) xs xm xar xbl xme xc 3 xD xcs xad shM xAA xQ 5 [(1, .int v), (0, .ref 0)] [] zc := by
      intro n5
      induction n5 with
      | zero =>
        intro f2 q c0 c3 v zc hmu5
        exact absurd hmu5 (Nat.not_lt_zero _)
      | succ n5 ih5 =>
        intro f2 q c0 c3 v zc hmu5 e5_0 e5_1 e5_2 e5_3 e5_4 e5_5
        obtain ⟨g2, rfl, hmo⟩ := pG_mo (m := 11) (sub := 2) (by decide) e5_1 ht
        refine ww_blk xCC okX6_both 3 9 (ps := []) (pc' := 17) (lv' := [(1, .int v), (0, .ref 0)]) (st' := [.int 0, .int 0, .int 0, .int 0, .int 0, .int 100, .int 110, .int 97, .ref 0]) (z' := zc) rfl trivial ?_
        refine ww_callVIz xCC okX6_both 12 (ix := 195) (t_X6_isWord l d zc bt n fr e5_4.1 q e5_4.2.2.2.2.1 e5_4.2.1 e5_4.2.2.2.1 [97, 110, 100] 10007 (by decide)) (by omega) (by decide) xyX6_isWord xiX6_isWord (Or.inl (lw_gt_of (List.mem_of_getElem? (i := 1028) (by decide +kernel)) rfl)) rfl rfl rfl (rest := []) rfl (Nat.le_of_ble_eq_true rfl) rfl (fun z1 h2 => ?_) (fun z1 h2 => ?_)
        · skip
          rw [h2.2]
          have hs17 := h2.1
          refine ww_br xCC okX6_both 13 (P := 1 = 0) (t1 := 49) (t2 := 23) (r := []) rfl (fun q => absurd q (by decide)) (fun _ => ?_)
          obtain ⟨t4, x4, p4, h4, ht4, hch4⟩ : ∃ t4 x4 p4, pG bt n g2 2 o (pTok bt n q).2.2 = (t4, x4, p4) ∧ t4 ≠ 0 ∧ ((t4 = 2 ∧ tag = 2 ∧ p = p4) ∨ (t4 = 1 ∧ ∃ x5, pG bt n g2 11 o p4 = (tag, x5, p) ∧ (tag = 1 → c3 = x4 ++ (pTok bt n q).1 :: x5))) := by
            rcases hmo with ⟨w, -⟩ | ⟨-, w⟩
            · rw [show (pTok bt n q).1 = 10007 from hs17.trans (by decide)] at w
              exact absurd w (by decide)
            · exact w
          refine ww_blk xCC okX6_both 14 1 (ps := []) (pc' := 24) (lv' := [(1, .int v), (0, .ref 0)]) (st' := [.ref 0]) (z' := zc) rfl trivial ?_
          refine ww_callVIv xCC okX6_both 15 (ix := 192) (t_X6_next l d zc bt n fr e5_4.1 (pTok bt n q).2.2 (pTok_le e5_4.2.2.2.2.1).1 (tkM_here e5_4.2.2.2.1 (by rw [hs17]; decide))) (by omega) (by decide) xyX6_next xiX6_next (Or.inl (lw_gt_of (List.mem_of_getElem? (i := 1015) (by decide +kernel)) rfl)) rfl rfl rfl (rest := []) rfl (Nat.le_of_ble_eq_true rfl) rfl (fun z4 h5 => ?_)
          have hgN24 := gS_nx e5_4.1 e5_4.2.1 e5_4.2.2.1 h5.1 h5.2 (pTok_le e5_4.2.2.2.2.1).1 e5_4.2.2.2.2.2
          have hKN24 := pK_tr e5_5 (pK4_K h5.1)
          refine ww_blk xCC okX6_both 16 1 (ps := []) (pc' := 28) (lv' := [(1, .int v), (0, .ref 0)]) (st' := [.ref 0]) (z' := z4) rfl trivial ?_
          refine ww_callVIi xCC okX6_both 17 (ix := 237) (ih g2 (by omega) d z4 o (pTok bt n q).2.2 t4 x4 p4 hgN24 h4 ht4) (by omega) (by decide) xyX6_not xiX6_not (Or.inl (lw_gt_of (List.mem_of_getElem? (i := 1052) (by decide +kernel)) rfl)) rfl rfl rfl (rest := []) rfl (Nat.le_of_ble_eq_true rfl) rfl (fun vB zB hB => ?_)
          obtain ⟨hK4, hB1⟩ := hB
          have hv5 : t4 = 1 → ∀ st, pEv (pF z) x4 st = vB :: st := fun w st => by
            rcases hB1 with ⟨-, -, q⟩ | ⟨q, -⟩
            · rw [← pEv_K hKN24]; exact q st
            · omega
          replace hK4 := pK_tr hKN24 hK4
          rcases hB1 with ⟨e4, hS4, -⟩ | ⟨e4, hB4⟩
          · skip
            replace hv5 := hv5 e4
            obtain ⟨x5, h5, hcs5⟩ : ∃ x5, pG bt n g2 11 o p4 = (tag, x5, p) ∧ (tag = 1 → c3 = x4 ++ (pTok bt n q).1 :: x5) := by
              rcases hch4 with ⟨w, -⟩ | ⟨-, w⟩
              · omega
              · exact w
            refine ww_blk xCC okX6_both 18 2 (ps := []) (pc' := 33) (lv' := [(2, .int vB), (1, .int v), (0, .ref 0)]) (st' := [.int v]) (z' := zB) rfl trivial ?_
            refine ww_br xCC okX6_both 20 (P := v = 0) (t1 := 44) (t2 := 36) (r := []) rfl (fun c7 => ?_) (fun c7 => ?_)
            · skip
              refine ww_blk xCC okX6_both 25 3 (ps := []) (pc' := 5) (lv' := [(1, .int 0), (2, .int vB), (0, .ref 0)]) (st' := []) (z' := zB) rfl trivial ?_
              exact ww_cut [0, 2] (xlc rfl (xlc rfl rfl)) rfl rfl (ih5 g2 p4 (c0 ++ (x4 ++ [10007])) x5 0 zB (by omega) (by omega) h5 (fun w => by rw [e5_2 w, hcs5 w, show (pTok bt n q).1 = 10007 from hs17.trans (by decide)]; simp) (fun st => by rw [pEv_app, e5_3, pEv_app, hv5]; show pJoin _ v vB :: st = _; simp [pJoin, *]) hS4 hK4)
            · skip
              refine ww_blk xCC okX6_both 21 1 (ps := []) (pc' := 37) (lv' := [(2, .int vB), (1, .int v), (0, .ref 0)]) (st' := [.int vB]) (z' := zB) rfl trivial ?_
              refine ww_br xCC okX6_both 22 (P := vB = 0) (t1 := 44) (t2 := 40) (r := []) rfl (fun c8 => ?_) (fun c8 => ?_)
              · skip
                refine ww_blk xCC okX6_both 25 3 (ps := []) (pc' := 5) (lv' := [(1, .int 0), (2, .int vB), (0, .ref 0)]) (st' := []) (z' := zB) rfl trivial ?_
                exact ww_cut [0, 2] (xlc rfl (xlc rfl rfl)) rfl rfl (ih5 g2 p4 (c0 ++ (x4 ++ [10007])) x5 0 zB (by omega) (by omega) h5 (fun w => by rw [e5_2 w, hcs5 w, show (pTok bt n q).1 = 10007 from hs17.trans (by decide)]; simp) (fun st => by rw [pEv_app, e5_3, pEv_app, hv5]; show pJoin _ v vB :: st = _; simp [pJoin, *]) hS4 hK4)
              · skip
                refine ww_blk xCC okX6_both 23 2 (ps := []) (pc' := 45) (lv' := [(2, .int vB), (1, .int v), (0, .ref 0)]) (st' := [.int 1]) (z' := zB) rfl trivial ?_
                refine ww_blk xCC okX6_both 26 2 (ps := []) (pc' := 5) (lv' := [(1, .int 1), (2, .int vB), (0, .ref 0)]) (st' := []) (z' := zB) rfl trivial ?_
                exact ww_cut [0, 2] (xlc rfl (xlc rfl rfl)) rfl rfl (ih5 g2 p4 (c0 ++ (x4 ++ [10007])) x5 1 zB (by omega) (by omega) h5 (fun w => by rw [e5_2 w, hcs5 w, show (pTok bt n q).1 = 10007 from hs17.trans (by decide)]; simp) (fun st => by rw [pEv_app, e5_3, pEv_app, hv5]; show pJoin _ v vB :: st = _; simp [pJoin, *]) hS4 hK4)
          · skip
            obtain ⟨htag, hp⟩ : tag = 2 ∧ p = p4 := by
              rcases hch4 with ⟨-, w⟩ | ⟨w, -⟩
              · exact w
              · omega
            refine ww_blk xCC okX6_both 18 2 (ps := []) (pc' := 33) (lv' := [(2, .int vB), (1, .int v), (0, .ref 0)]) (st' := [.int v]) (z' := zB) rfl trivial ?_
            refine ww_br xCC okX6_both 20 (P := v = 0) (t1 := 44) (t2 := 36) (r := []) rfl (fun c9 => ?_) (fun c9 => ?_)
            · skip
              refine ww_blk xCC okX6_both 25 3 (ps := []) (pc' := 5) (lv' := [(1, .int 0), (2, .int vB), (0, .ref 0)]) (st' := []) (z' := zB) rfl trivial ?_
              refine ww_blk xCC okX6_both 3 9 (ps := []) (pc' := 17) (lv' := [(1, .int 0), (2, .int vB), (0, .ref 0)]) (st' := [.int 0, .int 0, .int 0, .int 0, .int 0, .int 100, .int 110, .int 97, .ref 0]) (z' := zB) rfl trivial ?_
              refine ww_callVIi xCC okX6_both 12 (ix := 195) (t_X6_isWord_b l d zB hB4.1 97 110 100 0 0 0 0 0) (by omega) (by decide) xyX6_isWord xiX6_isWord (Or.inl (lw_gt_of (List.mem_of_getElem? (i := 1028) (by decide +kernel)) rfl)) rfl rfl rfl (rest := []) rfl (Nat.le_of_ble_eq_true rfl) rfl (fun v12 z10 h11 => ?_)
              rw [h11.1, h11.2]
              refine ww_br xCC okX6_both 13 (P := 0 = 0) (t1 := 49) (t2 := 23) (r := []) rfl (fun _ => ?_) (fun q => absurd (by decide) q)
              refine ww_blk xCC okX6_both 28 1 (ps := []) (pc' := 50) (lv' := [(1, .int 0), (2, .int vB), (0, .ref 0)]) (st' := [.int 0]) (z' := zB) rfl trivial ?_
              subst xhQ
              exact ww_iret xCC okX6_both 29 xhr rfl rfl ⟨_, rfl, ⟨hK4, Or.inr ⟨htag, (by rw [hp]; exact hB4)⟩⟩⟩
            · skip
              refine ww_blk xCC okX6_both 21 1 (ps := []) (pc' := 37) (lv' := [(2, .int vB), (1, .int v), (0, .ref 0)]) (st' := [.int vB]) (z' := zB) rfl trivial ?_
              refine ww_br xCC okX6_both 22 (P := vB = 0) (t1 := 44) (t2 := 40) (r := []) rfl (fun c14 => ?_) (fun c14 => ?_)
              · skip
                refine ww_blk xCC okX6_both 25 3 (ps := []) (pc' := 5) (lv' := [(1, .int 0), (2, .int vB), (0, .ref 0)]) (st' := []) (z' := zB) rfl trivial ?_
                refine ww_blk xCC okX6_both 3 9 (ps := []) (pc' := 17) (lv' := [(1, .int 0), (2, .int vB), (0, .ref 0)]) (st' := [.int 0, .int 0, .int 0, .int 0, .int 0, .int 100, .int 110, .int 97, .ref 0]) (z' := zB) rfl trivial ?_
                refine ww_callVIi xCC okX6_both 12 (ix := 195) (t_X6_isWord_b l d zB hB4.1 97 110 100 0 0 0 0 0) (by omega) (by decide) xyX6_isWord xiX6_isWord (Or.inl (lw_gt_of (List.mem_of_getElem? (i := 1028) (by decide +kernel)) rfl)) rfl rfl rfl (rest := []) rfl (Nat.le_of_ble_eq_true rfl) rfl (fun v17 z15 h16 => ?_)
                rw [h16.1, h16.2]
                refine ww_br xCC okX6_both 13 (P := 0 = 0) (t1 := 49) (t2 := 23) (r := []) rfl (fun _ => ?_) (fun q => absurd (by decide) q)
                refine ww_blk xCC okX6_both 28 1 (ps := []) (pc' := 50) (lv' := [(1, .int 0), (2, .int vB), (0, .ref 0)]) (st' := [.int 0]) (z' := zB) rfl trivial ?_
                subst xhQ
                exact ww_iret xCC okX6_both 29 xhr rfl rfl ⟨_, rfl, ⟨hK4, Or.inr ⟨htag, (by rw [hp]; exact hB4)⟩⟩⟩
              · skip
                refine ww_blk xCC okX6_both 23 2 (ps := []) (pc' := 45) (lv' := [(2, .int vB), (1, .int v), (0, .ref 0)]) (st' := [.int 1]) (z' := zB) rfl trivial ?_
                refine ww_blk xCC okX6_both 26 2 (ps := []) (pc' := 5) (lv' := [(1, .int 1), (2, .int vB), (0, .ref 0)]) (st' := []) (z' := zB) rfl trivial ?_
                refine ww_blk xCC okX6_both 3 9 (ps := []) (pc' := 17) (lv' := [(1, .int 1), (2, .int vB), (0, .ref 0)]) (st' := [.int 0, .int 0, .int 0, .int 0, .int 0, .int 100, .int 110, .int 97, .ref 0]) (z' := zB) rfl trivial ?_
                refine ww_callVIi xCC okX6_both 12 (ix := 195) (t_X6_isWord_b l d zB hB4.1 97 110 100 0 0 0 0 0) (by omega) (by decide) xyX6_isWord xiX6_isWord (Or.inl (lw_gt_of (List.mem_of_getElem? (i := 1028) (by decide +kernel)) rfl)) rfl rfl rfl (rest := []) rfl (Nat.le_of_ble_eq_true rfl) rfl (fun v21 z19 h20 => ?_)
                rw [h20.1, h20.2]
                refine ww_br xCC okX6_both 13 (P := 0 = 0) (t1 := 49) (t2 := 23) (r := []) rfl (fun _ => ?_) (fun q => absurd (by decide) q)
                refine ww_blk xCC okX6_both 28 1 (ps := []) (pc' := 50) (lv' := [(1, .int 1), (2, .int vB), (0, .ref 0)]) (st' := [.int 1]) (z' := zB) rfl trivial ?_
                subst xhQ
                exact ww_iret xCC okX6_both 29 xhr rfl rfl ⟨_, rfl, ⟨hK4, Or.inr ⟨htag, (by rw [hp]; exact hB4)⟩⟩⟩
        · skip
          rw [h2.2]
          have hs17 := h2.1
          refine ww_br xCC okX6_both 13 (P := 0 = 0) (t1 := 49) (t2 := 23) (r := []) rfl (fun _ => ?_) (fun q => absurd (by decide) q)
          obtain ⟨k1, k2, k3⟩ : tag = 1 ∧ c3 = [] ∧ p = q := by
            rcases hmo with ⟨-, w⟩ | ⟨w, -⟩
            · exact w
            · exfalso
              simp only [pOp] at w; exact hs17 (eq_of_beq w)
          refine ww_blk xCC okX6_both 28 1 (ps := []) (pc' := 50) (lv' := [(1, .int v), (0, .ref 0)]) (st' := [.int v]) (z' := zc) rfl trivial ?_
          subst xhQ
          exact ww_iret xCC okX6_both 29 xhr rfl rfl ⟨_, rfl, ⟨e5_5, Or.inl ⟨k1, (by rw [k3]; exact e5_4), fun st => (by rw [e5_2 k1, k2, List.append_nil]; exact e5_3 st)⟩⟩⟩
    exact ww_cut [0, 1] (xlc rfl (xlc rfl rfl)) rfl rfl (L5 (g + 1) g p1 x1 x2 vA zA (Nat.lt_succ_self _) (Nat.le_refl _) h2 hcs hv1 hS1 hK1)
  · skip
    obtain ⟨htag, hp⟩ : tag = 2 ∧ p = p1 := by
      rcases hch with ⟨-, q⟩ | ⟨q, -⟩
      · exact q
      · omega
    refine ww_blk xCC okX6_both 2 10 (ps := []) (pc' := 17) (lv' := [(1, .int vA), (0, .ref 0)]) (st' := [.int 0, .int 0, .int 0, .int 0, .int 0, .int 100, .int 110, .int 97, .ref 0]) (z' := zA) rfl trivial ?_
    refine ww_callVIi xCC okX6_both 12 (ix := 195) (t_X6_isWord_b l d zA hB1.1 97 110 100 0 0 0 0 0) (by omega) (by decide) xyX6_isWord xiX6_isWord (Or.inl (lw_gt_of (List.mem_of_getElem? (i := 1028) (by decide +kernel)) rfl)) rfl rfl rfl (rest := []) rfl (Nat.le_of_ble_eq_true rfl) rfl (fun v26 z24 h25 => ?_)
    rw [h25.1, h25.2]
    refine ww_br xCC okX6_both 13 (P := 0 = 0) (t1 := 49) (t2 := 23) (r := []) rfl (fun _ => ?_) (fun q => absurd (by decide) q)
    refine ww_blk xCC okX6_both 28 1 (ps := []) (pc' := 50) (lv' := [(1, .int vA), (0, .ref 0)]) (st' := [.int vA]) (z' := zA) rfl trivial ?_
    subst xhQ
    exact ww_iret xCC okX6_both 29 xhr rfl rfl ⟨_, rfl, ⟨hK1, Or.inr ⟨htag, (by rw [hp]; exact hB1)⟩⟩⟩

set_option maxHeartbeats 4000000 in
set_option maxRecDepth 20000 in
theorem t_X6_either (l : Launch) (d : Nat) (bt : Nat → Nat) (n fr : Nat) (f : Nat) (ih : ∀ g, g < f → MC l bt n fr yX6_both cX6_both 3 1 g) (z : xMem) (o pos tag : Nat) (cs : List Nat) (p : Nat) (hgs : gS z bt n fr pos o) (hG : pG bt n f 0 o pos = (tag, cs, p)) (ht : tag ≠ 0) : XMi l (d + f + 5) yX6_either cX6_either 3 (some .int) shM [.ref 0] z (fun v z' => mR z z' bt n fr o tag cs p v) := by
  obtain ⟨g, t1, x1, p1, rfl, h1, ht1, hch⟩ := pG_ch (m := 0) (sub := 1) (rest := 10) (by decide) hG ht
  refine XM.of (by decide) (Nat.le_of_ble_eq_true rfl) (fun xp xe xs xm xar xbl xme xc xD xcs xad xAA xCC xhr => ?_)
  generalize xhQ : MQ xbl _ xar xs 0 0 xAA = xQ
  show ww xp l xe (xRm (d + (g + 1) + 5)) xs xm xar xbl xme xc 3 xD xcs xad shM xAA xQ 0 [(0, .ref 0)] [] z
  refine ww_blk xCC okX6_either 0 1 (ps := []) (pc' := 1) (lv' := [(0, .ref 0)]) (st' := [.ref 0]) (z' := z) rfl trivial ?_
  refine ww_callVIi xCC okX6_either 1 (ix := 245) (ih g (by omega) d z o pos t1 x1 p1 hgs h1 ht1) (by omega) (by decide) xyX6_both xiX6_both (Or.inl (lw_gt_of (List.mem_of_getElem? (i := 1048) (by decide +kernel)) rfl)) rfl rfl rfl (rest := []) rfl (Nat.le_of_ble_eq_true rfl) rfl (fun vA zA hA => ?_)
  obtain ⟨hK1, hA1⟩ := hA
  rcases hA1 with ⟨e1, hS1, hv1⟩ | ⟨e1, hB1⟩
  · skip
    obtain ⟨x2, h2, hcs⟩ : ∃ x2, pG bt n g 10 o p1 = (tag, x2, p) ∧ (tag = 1 → cs = x1 ++ x2) := by
      rcases hch with ⟨q, -⟩ | ⟨-, q⟩
      · omega
      · exact q
    refine ww_blk xCC okX6_either 2 1 (ps := []) (pc' := 5) (lv' := [(1, .int vA), (0, .ref 0)]) (st' := []) (z' := zA) rfl trivial ?_
    have L5 : ∀ (n5 : Nat) (f2 : Nat) (q : Nat) (c0 : List Nat) (c3 : List Nat) (v : Int32) (zc : xMem), f2 < n5 → (f2 ≤ g) → (pG bt n f2 10 o q = (tag, c3, p)) → (tag = 1 → cs = c0 ++ c3) → (∀ st, pEv (pF z) c0 st = v :: st) → (gS zc bt n fr q o) → (pK z zc) → ww xp l xe (xRm (d + (g + 1) + 5)) xs xm xar xbl xme xc 3 xD xcs xad shM xAA xQ 5 [(1, .int v), (0, .ref 0)] [] zc := by
      intro n5
      induction n5 with
      | zero =>
        intro f2 q c0 c3 v zc hmu5
        exact absurd hmu5 (Nat.not_lt_zero _)
      | succ n5 ih5 =>
        intro f2 q c0 c3 v zc hmu5 e5_0 e5_1 e5_2 e5_3 e5_4 e5_5
        obtain ⟨g2, rfl, hmo⟩ := pG_mo (m := 10) (sub := 1) (by decide) e5_1 ht
        refine ww_blk xCC okX6_either 3 9 (ps := []) (pc' := 16) (lv' := [(1, .int v), (0, .ref 0)]) (st' := [.int 0, .int 0, .int 0, .int 0, .int 0, .int 0, .int 114, .int 111, .ref 0]) (z' := zc) rfl trivial ?_
        refine ww_callVIz xCC okX6_either 12 (ix := 195) (t_X6_isWord l d zc bt n fr e5_4.1 q e5_4.2.2.2.2.1 e5_4.2.1 e5_4.2.2.2.1 [111, 114] 10006 (by decide)) (by omega) (by decide) xyX6_isWord xiX6_isWord (Or.inl (lw_gt_of (List.mem_of_getElem? (i := 1028) (by decide +kernel)) rfl)) rfl rfl rfl (rest := []) rfl (Nat.le_of_ble_eq_true rfl) rfl (fun z1 h2 => ?_) (fun z1 h2 => ?_)
        · skip
          rw [h2.2]
          have hs16 := h2.1
          refine ww_br xCC okX6_either 13 (P := 1 = 0) (t1 := 48) (t2 := 22) (r := []) rfl (fun q => absurd q (by decide)) (fun _ => ?_)
          obtain ⟨t4, x4, p4, h4, ht4, hch4⟩ : ∃ t4 x4 p4, pG bt n g2 1 o (pTok bt n q).2.2 = (t4, x4, p4) ∧ t4 ≠ 0 ∧ ((t4 = 2 ∧ tag = 2 ∧ p = p4) ∨ (t4 = 1 ∧ ∃ x5, pG bt n g2 10 o p4 = (tag, x5, p) ∧ (tag = 1 → c3 = x4 ++ (pTok bt n q).1 :: x5))) := by
            rcases hmo with ⟨w, -⟩ | ⟨-, w⟩
            · rw [show (pTok bt n q).1 = 10006 from hs16.trans (by decide)] at w
              exact absurd w (by decide)
            · exact w
          refine ww_blk xCC okX6_either 14 1 (ps := []) (pc' := 23) (lv' := [(1, .int v), (0, .ref 0)]) (st' := [.ref 0]) (z' := zc) rfl trivial ?_
          refine ww_callVIv xCC okX6_either 15 (ix := 192) (t_X6_next l d zc bt n fr e5_4.1 (pTok bt n q).2.2 (pTok_le e5_4.2.2.2.2.1).1 (tkM_here e5_4.2.2.2.1 (by rw [hs16]; decide))) (by omega) (by decide) xyX6_next xiX6_next (Or.inl (lw_gt_of (List.mem_of_getElem? (i := 1015) (by decide +kernel)) rfl)) rfl rfl rfl (rest := []) rfl (Nat.le_of_ble_eq_true rfl) rfl (fun z4 h5 => ?_)
          have hgN23 := gS_nx e5_4.1 e5_4.2.1 e5_4.2.2.1 h5.1 h5.2 (pTok_le e5_4.2.2.2.2.1).1 e5_4.2.2.2.2.2
          have hKN23 := pK_tr e5_5 (pK4_K h5.1)
          refine ww_blk xCC okX6_either 16 1 (ps := []) (pc' := 27) (lv' := [(1, .int v), (0, .ref 0)]) (st' := [.ref 0]) (z' := z4) rfl trivial ?_
          refine ww_callVIi xCC okX6_either 17 (ix := 245) (ih g2 (by omega) d z4 o (pTok bt n q).2.2 t4 x4 p4 hgN23 h4 ht4) (by omega) (by decide) xyX6_both xiX6_both (Or.inl (lw_gt_of (List.mem_of_getElem? (i := 1048) (by decide +kernel)) rfl)) rfl rfl rfl (rest := []) rfl (Nat.le_of_ble_eq_true rfl) rfl (fun vB zB hB => ?_)
          obtain ⟨hK4, hB1⟩ := hB
          have hv5 : t4 = 1 → ∀ st, pEv (pF z) x4 st = vB :: st := fun w st => by
            rcases hB1 with ⟨-, -, q⟩ | ⟨q, -⟩
            · rw [← pEv_K hKN23]; exact q st
            · omega
          replace hK4 := pK_tr hKN23 hK4
          rcases hB1 with ⟨e4, hS4, -⟩ | ⟨e4, hB4⟩
          · skip
            replace hv5 := hv5 e4
            obtain ⟨x5, h5, hcs5⟩ : ∃ x5, pG bt n g2 10 o p4 = (tag, x5, p) ∧ (tag = 1 → c3 = x4 ++ (pTok bt n q).1 :: x5) := by
              rcases hch4 with ⟨w, -⟩ | ⟨-, w⟩
              · omega
              · exact w
            refine ww_blk xCC okX6_either 18 2 (ps := []) (pc' := 32) (lv' := [(2, .int vB), (1, .int v), (0, .ref 0)]) (st' := [.int v]) (z' := zB) rfl trivial ?_
            refine ww_br xCC okX6_either 20 (P := v = 0) (t1 := 35) (t2 := 39) (r := []) rfl (fun c7 => ?_) (fun c7 => ?_)
            · skip
              refine ww_blk xCC okX6_either 21 1 (ps := []) (pc' := 36) (lv' := [(2, .int vB), (1, .int v), (0, .ref 0)]) (st' := [.int vB]) (z' := zB) rfl trivial ?_
              refine ww_br xCC okX6_either 22 (P := vB = 0) (t1 := 43) (t2 := 39) (r := []) rfl (fun c8 => ?_) (fun c8 => ?_)
              · skip
                refine ww_blk xCC okX6_either 25 3 (ps := []) (pc' := 5) (lv' := [(1, .int 0), (2, .int vB), (0, .ref 0)]) (st' := []) (z' := zB) rfl trivial ?_
                exact ww_cut [0, 2] (xlc rfl (xlc rfl rfl)) rfl rfl (ih5 g2 p4 (c0 ++ (x4 ++ [10006])) x5 0 zB (by omega) (by omega) h5 (fun w => by rw [e5_2 w, hcs5 w, show (pTok bt n q).1 = 10006 from hs16.trans (by decide)]; simp) (fun st => by rw [pEv_app, e5_3, pEv_app, hv5]; show pJoin _ v vB :: st = _; simp [pJoin, *]) hS4 hK4)
              · skip
                refine ww_blk xCC okX6_either 23 2 (ps := []) (pc' := 44) (lv' := [(2, .int vB), (1, .int v), (0, .ref 0)]) (st' := [.int 1]) (z' := zB) rfl trivial ?_
                refine ww_blk xCC okX6_either 26 2 (ps := []) (pc' := 5) (lv' := [(1, .int 1), (2, .int vB), (0, .ref 0)]) (st' := []) (z' := zB) rfl trivial ?_
                exact ww_cut [0, 2] (xlc rfl (xlc rfl rfl)) rfl rfl (ih5 g2 p4 (c0 ++ (x4 ++ [10006])) x5 1 zB (by omega) (by omega) h5 (fun w => by rw [e5_2 w, hcs5 w, show (pTok bt n q).1 = 10006 from hs16.trans (by decide)]; simp) (fun st => by rw [pEv_app, e5_3, pEv_app, hv5]; show pJoin _ v vB :: st = _; simp [pJoin, *]) hS4 hK4)
            · skip
              refine ww_blk xCC okX6_either 23 2 (ps := []) (pc' := 44) (lv' := [(2, .int vB), (1, .int v), (0, .ref 0)]) (st' := [.int 1]) (z' := zB) rfl trivial ?_
              refine ww_blk xCC okX6_either 26 2 (ps := []) (pc' := 5) (lv' := [(1, .int 1), (2, .int vB), (0, .ref 0)]) (st' := []) (z' := zB) rfl trivial ?_
              exact ww_cut [0, 2] (xlc rfl (xlc rfl rfl)) rfl rfl (ih5 g2 p4 (c0 ++ (x4 ++ [10006])) x5 1 zB (by omega) (by omega) h5 (fun w => by rw [e5_2 w, hcs5 w, show (pTok bt n q).1 = 10006 from hs16.trans (by decide)]; simp) (fun st => by rw [pEv_app, e5_3, pEv_app, hv5]; show pJoin _ v vB :: st = _; simp [pJoin, *]) hS4 hK4)
          · skip
            obtain ⟨htag, hp⟩ : tag = 2 ∧ p = p4 := by
              rcases hch4 with ⟨-, w⟩ | ⟨w, -⟩
              · exact w
              · omega
            refine ww_blk xCC okX6_either 18 2 (ps := []) (pc' := 32) (lv' := [(2, .int vB), (1, .int v), (0, .ref 0)]) (st' := [.int v]) (z' := zB) rfl trivial ?_
            refine ww_br xCC okX6_either 20 (P := v = 0) (t1 := 35) (t2 := 39) (r := []) rfl (fun c9 => ?_) (fun c9 => ?_)
            · skip
              refine ww_blk xCC okX6_either 21 1 (ps := []) (pc' := 36) (lv' := [(2, .int vB), (1, .int v), (0, .ref 0)]) (st' := [.int vB]) (z' := zB) rfl trivial ?_
              refine ww_br xCC okX6_either 22 (P := vB = 0) (t1 := 43) (t2 := 39) (r := []) rfl (fun c10 => ?_) (fun c10 => ?_)
              · skip
                refine ww_blk xCC okX6_either 25 3 (ps := []) (pc' := 5) (lv' := [(1, .int 0), (2, .int vB), (0, .ref 0)]) (st' := []) (z' := zB) rfl trivial ?_
                refine ww_blk xCC okX6_either 3 9 (ps := []) (pc' := 16) (lv' := [(1, .int 0), (2, .int vB), (0, .ref 0)]) (st' := [.int 0, .int 0, .int 0, .int 0, .int 0, .int 0, .int 114, .int 111, .ref 0]) (z' := zB) rfl trivial ?_
                refine ww_callVIi xCC okX6_either 12 (ix := 195) (t_X6_isWord_b l d zB hB4.1 111 114 0 0 0 0 0 0) (by omega) (by decide) xyX6_isWord xiX6_isWord (Or.inl (lw_gt_of (List.mem_of_getElem? (i := 1028) (by decide +kernel)) rfl)) rfl rfl rfl (rest := []) rfl (Nat.le_of_ble_eq_true rfl) rfl (fun v13 z11 h12 => ?_)
                rw [h12.1, h12.2]
                refine ww_br xCC okX6_either 13 (P := 0 = 0) (t1 := 48) (t2 := 22) (r := []) rfl (fun _ => ?_) (fun q => absurd (by decide) q)
                refine ww_blk xCC okX6_either 28 1 (ps := []) (pc' := 49) (lv' := [(1, .int 0), (2, .int vB), (0, .ref 0)]) (st' := [.int 0]) (z' := zB) rfl trivial ?_
                subst xhQ
                exact ww_iret xCC okX6_either 29 xhr rfl rfl ⟨_, rfl, ⟨hK4, Or.inr ⟨htag, (by rw [hp]; exact hB4)⟩⟩⟩
              · skip
                refine ww_blk xCC okX6_either 23 2 (ps := []) (pc' := 44) (lv' := [(2, .int vB), (1, .int v), (0, .ref 0)]) (st' := [.int 1]) (z' := zB) rfl trivial ?_
                refine ww_blk xCC okX6_either 26 2 (ps := []) (pc' := 5) (lv' := [(1, .int 1), (2, .int vB), (0, .ref 0)]) (st' := []) (z' := zB) rfl trivial ?_
                refine ww_blk xCC okX6_either 3 9 (ps := []) (pc' := 16) (lv' := [(1, .int 1), (2, .int vB), (0, .ref 0)]) (st' := [.int 0, .int 0, .int 0, .int 0, .int 0, .int 0, .int 114, .int 111, .ref 0]) (z' := zB) rfl trivial ?_
                refine ww_callVIi xCC okX6_either 12 (ix := 195) (t_X6_isWord_b l d zB hB4.1 111 114 0 0 0 0 0 0) (by omega) (by decide) xyX6_isWord xiX6_isWord (Or.inl (lw_gt_of (List.mem_of_getElem? (i := 1028) (by decide +kernel)) rfl)) rfl rfl rfl (rest := []) rfl (Nat.le_of_ble_eq_true rfl) rfl (fun v17 z15 h16 => ?_)
                rw [h16.1, h16.2]
                refine ww_br xCC okX6_either 13 (P := 0 = 0) (t1 := 48) (t2 := 22) (r := []) rfl (fun _ => ?_) (fun q => absurd (by decide) q)
                refine ww_blk xCC okX6_either 28 1 (ps := []) (pc' := 49) (lv' := [(1, .int 1), (2, .int vB), (0, .ref 0)]) (st' := [.int 1]) (z' := zB) rfl trivial ?_
                subst xhQ
                exact ww_iret xCC okX6_either 29 xhr rfl rfl ⟨_, rfl, ⟨hK4, Or.inr ⟨htag, (by rw [hp]; exact hB4)⟩⟩⟩
            · skip
              refine ww_blk xCC okX6_either 23 2 (ps := []) (pc' := 44) (lv' := [(2, .int vB), (1, .int v), (0, .ref 0)]) (st' := [.int 1]) (z' := zB) rfl trivial ?_
              refine ww_blk xCC okX6_either 26 2 (ps := []) (pc' := 5) (lv' := [(1, .int 1), (2, .int vB), (0, .ref 0)]) (st' := []) (z' := zB) rfl trivial ?_
              refine ww_blk xCC okX6_either 3 9 (ps := []) (pc' := 16) (lv' := [(1, .int 1), (2, .int vB), (0, .ref 0)]) (st' := [.int 0, .int 0, .int 0, .int 0, .int 0, .int 0, .int 114, .int 111, .ref 0]) (z' := zB) rfl trivial ?_
              refine ww_callVIi xCC okX6_either 12 (ix := 195) (t_X6_isWord_b l d zB hB4.1 111 114 0 0 0 0 0 0) (by omega) (by decide) xyX6_isWord xiX6_isWord (Or.inl (lw_gt_of (List.mem_of_getElem? (i := 1028) (by decide +kernel)) rfl)) rfl rfl rfl (rest := []) rfl (Nat.le_of_ble_eq_true rfl) rfl (fun v21 z19 h20 => ?_)
              rw [h20.1, h20.2]
              refine ww_br xCC okX6_either 13 (P := 0 = 0) (t1 := 48) (t2 := 22) (r := []) rfl (fun _ => ?_) (fun q => absurd (by decide) q)
              refine ww_blk xCC okX6_either 28 1 (ps := []) (pc' := 49) (lv' := [(1, .int 1), (2, .int vB), (0, .ref 0)]) (st' := [.int 1]) (z' := zB) rfl trivial ?_
              subst xhQ
              exact ww_iret xCC okX6_either 29 xhr rfl rfl ⟨_, rfl, ⟨hK4, Or.inr ⟨htag, (by rw [hp]; exact hB4)⟩⟩⟩
        · skip
          rw [h2.2]
          have hs16 := h2.1
          refine ww_br xCC okX6_either 13 (P := 0 = 0) (t1 := 48) (t2 := 22) (r := []) rfl (fun _ => ?_) (fun q => absurd (by decide) q)
          obtain ⟨k1, k2, k3⟩ : tag = 1 ∧ c3 = [] ∧ p = q := by
            rcases hmo with ⟨-, w⟩ | ⟨w, -⟩
            · exact w
            · exfalso
              simp only [pOp] at w; exact hs16 (eq_of_beq w)
          refine ww_blk xCC okX6_either 28 1 (ps := []) (pc' := 49) (lv' := [(1, .int v), (0, .ref 0)]) (st' := [.int v]) (z' := zc) rfl trivial ?_
          subst xhQ
          exact ww_iret xCC okX6_either 29 xhr rfl rfl ⟨_, rfl, ⟨e5_5, Or.inl ⟨k1, (by rw [k3]; exact e5_4), fun st => (by rw [e5_2 k1, k2, List.append_nil]; exact e5_3 st)⟩⟩⟩
    exact ww_cut [0, 1] (xlc rfl (xlc rfl rfl)) rfl rfl (L5 (g + 1) g p1 x1 x2 vA zA (Nat.lt_succ_self _) (Nat.le_refl _) h2 hcs hv1 hS1 hK1)
  · skip
    obtain ⟨htag, hp⟩ : tag = 2 ∧ p = p1 := by
      rcases hch with ⟨-, q⟩ | ⟨q, -⟩
      · exact q
      · omega
    refine ww_blk xCC okX6_either 2 10 (ps := []) (pc' := 16) (lv' := [(1, .int vA), (0, .ref 0)]) (st' := [.int 0, .int 0, .int 0, .int 0, .int 0, .int 0, .int 114, .int 111, .ref 0]) (z' := zA) rfl trivial ?_
    refine ww_callVIi xCC okX6_either 12 (ix := 195) (t_X6_isWord_b l d zA hB1.1 111 114 0 0 0 0 0 0) (by omega) (by decide) xyX6_isWord xiX6_isWord (Or.inl (lw_gt_of (List.mem_of_getElem? (i := 1028) (by decide +kernel)) rfl)) rfl rfl rfl (rest := []) rfl (Nat.le_of_ble_eq_true rfl) rfl (fun v26 z24 h25 => ?_)
    rw [h25.1, h25.2]
    refine ww_br xCC okX6_either 13 (P := 0 = 0) (t1 := 48) (t2 := 22) (r := []) rfl (fun _ => ?_) (fun q => absurd (by decide) q)
    refine ww_blk xCC okX6_either 28 1 (ps := []) (pc' := 49) (lv' := [(1, .int vA), (0, .ref 0)]) (st' := [.int vA]) (z' := zA) rfl trivial ?_
    subst xhQ
    exact ww_iret xCC okX6_either 29 xhr rfl rfl ⟨_, rfl, ⟨hK1, Or.inr ⟨htag, (by rw [hp]; exact hB1)⟩⟩⟩
