/-! LawsLapse's asks, set, does, year -/
theorem xTab_lh : ∀ u, u < 8 → (xTab 0 u).toInt = (if u = 1 then 1 else 0) ∧ (xTab 1 u).toInt = (sMost u : Int) := by decide
set_option maxHeartbeats 4000000 in
set_option maxRecDepth 20000 in
theorem t_X5_set (l : Launch) (d : Nat) (w x y : Int32) (z : xMem) (r : sR) (cnt : Nat) (tc : Nat → sTc) (hr : RX z 19 r) (hw : sW r cnt) (ht : TX z 1 cnt tc) (hS : sSub r) : XMi l (d + 8) yX5_set cX5_set 5 (some .int) shX [.ref 0, .int w, .int x, .int y] z (fun v z' => v = (sSet tc r w x y).1 ∧ RX z' 19 (sSet tc r w x y).2 ∧ KU UN z z') := by
  refine XM.of (by decide) (Nat.le_of_ble_eq_true rfl) (fun xp xe xs xm xar xbl xme xc xD xcs xad xAA xCC xhr => ?_)
  generalize xhQ : MQ xbl _ xar xs 0 0 xAA = xQ
  show ww xp l xe (xRm (d + 8)) xs xm xar xbl xme xc 5 xD xcs xad shX xAA xQ 0 [(0, .ref 0), (1, .int w), (2, .int x), (3, .int y)] [] z
  have hb := hw.1
  have h74 : r 7 4 ≤ 4 := hw.2.2.2.2.2.2.1
  refine ww_blk xCC okX5_set 0 3 (ps := []) (pc' := 4) (lv' := [(0, .ref 0), (1, .int w), (2, .int x), (3, .int y)]) (st' := [.int 7, .int 0, .int w]) (z' := z) rfl trivial ?_
  refine ww_callSNz xCC okX5_set 3 (ix := 52) (t_X5_within l d w 0 7 _) (by omega) (by decide) xyX5_within xiX5_within (Or.inl (lw_gt_of (List.mem_of_getElem? (i := 327) (by decide +kernel)) rfl)) rfl (rest := []) rfl (Nat.le_of_ble_eq_true rfl) rfl (fun z1 h2 => ?_) (fun z1 h2 => ?_)
  · skip
    have h2 : 0 ≤ w.toInt ∧ w.toInt ≤ 7 := h2
    obtain ⟨u, hu, rfl⟩ := sNN (x := w) (n := 8) (by omega) (by omega)
    refine ww_br xCC okX5_set 4 (P := 1 = 0) (t1 := 19) (t2 := 10) (r := []) rfl (fun q => absurd q (by decide)) (fun _ => ?_)
    refine ww_blk xCC okX5_set 5 3 (ps := []) (pc' := 13) (lv' := [(0, .ref 0), (1, .int (nI u)), (2, .int x), (3, .int y)]) (st' := [.int (nI u), .int x, .ref 0]) (z' := z) rfl trivial ?_
    refine ww_callVIz xCC okX5_set 8 (ix := 56) (t_X5_stands l d u x z (r 7 4) hr.2.2.2.2.2.2.2.2.2.2.2.2.1 h74 (by omega)) (by omega) (by decide) xyX5_stands xiX5_stands (Or.inl (lw_gt_of (List.mem_of_getElem? (i := 330) (by decide +kernel)) rfl)) rfl rfl rfl (rest := []) rfl (Nat.le_of_ble_eq_true rfl) rfl (fun zI hI => ?_) (fun zI hI => ?_)
    · skip
      rw [hI.2]
      replace hI := hI.1
      refine ww_br xCC okX5_set 9 (P := 1 = 0) (t1 := 19) (t2 := 22) (r := []) rfl (fun q => absurd q (by decide)) (fun _ => ?_)
      refine ww_blk xCC okX5_set 12 7 (ps := [vp_in (nI u) 8, vp_in (nI u) 8]) (pc' := 33) (lv' := [(0, .ref 0), (1, .int (nI u)), (2, .int x), (3, .int y)]) (st' := [.int (xTab 1 (nI u).toNatClampNeg), .int (xTab 0 (nI u).toNatClampNeg), .int y]) (z' := z) rfl ⟨(vp_in_nI (by omega) (by decide)), (vp_in_nI (by omega) (by decide))⟩ ?_
      rw [sCL (n := u) (by omega)]
      refine ww_callSNz xCC okX5_set 19 (ix := 52) (t_X5_within l d y (xTab 0 u) (xTab 1 u) _) (by omega) (by decide) xyX5_within xiX5_within (Or.inl (lw_gt_of (List.mem_of_getElem? (i := 327) (by decide +kernel)) rfl)) rfl (rest := []) rfl (Nat.le_of_ble_eq_true rfl) rfl (fun zY hY => ?_) (fun zY hY => ?_)
      · skip
        have hT := xTab_lh u (by omega)
        rw [hT.1, hT.2] at hY
        have hM9 := sMost_le u
        obtain ⟨v, hv, rfl⟩ := sNN (x := y) (n := 1000) (by have := hY.1; split at this <;> omega) (by omega)
        refine ww_br xCC okX5_set 20 (P := 1 = 0) (t1 := 39) (t2 := 42) (r := []) rfl (fun q => absurd q (by decide)) (fun _ => ?_)
        refine ww_blk xCC okX5_set 23 4 (ps := []) (pc' := 48) (lv' := [(0, .ref 0), (1, .int (nI u)), (2, .int x), (3, .int (nI v))]) (st' := [.int (nI u), .int x, .ref 19]) (z' := z) rfl trivial ?_
        refine ww_callVEi xCC okX5_set 27 (ix := 67) (t_X0_valueOf l (d + 1) u x (xPull esN z) r cnt tc (RX_pull (by decide) hr) hw (TX_pull (by decide) ht) (by omega) hI) (by omega) (by decide) xyX0_valueOf xiX0_valueOf (Or.inr (List.mem_of_getElem? (i := 348) (by decide +kernel))) (by decide +kernel) (by decide) (fun q => by cases q) (q0 := 19) rfl rfl rfl rfl (rest := []) rfl (Nat.le_of_ble_eq_true rfl) rfl (fun vcV zcV hcV => ?_)
        have hkV := KU_esN_KN (rw := xHasRaw shR) hcV.2
        obtain ⟨zV, hzV⟩ : ∃ y, y = xBack esN (xHasRaw shR) z zcV := ⟨_, rfl⟩
        rw [← hzV] at hkV ⊢
        rw [hcV.1]
        have hrV := RX_U hkV (by decide) hr
        refine ww_blk xCC okX5_set 28 6 (ps := []) (pc' := 60) (lv' := [(4, .int (sTld tc r x u)), (0, .ref 0), (1, .int (nI u)), (2, .int x), (3, .int (nI v))]) (st' := [.int (nI v), .int (nI u), .int x, .ref 19]) (z' := zV) rfl trivial ?_
        refine ww_callVEv xCC okX5_set 34 (ix := 71) (t_X0_put l d u v x (xPull esN zV) r cnt (RX_pull (by decide) hrV) hw hS (by omega) (Or.inl (by omega)) (Or.inr hI)) (by omega) (by decide) xyX0_put xiX0_put (Or.inr (List.mem_of_getElem? (i := 396) (by decide +kernel))) (by decide +kernel) (by decide) (fun q => by cases q) (q0 := 19) rfl rfl rfl rfl (rest := []) rfl (Nat.le_of_ble_eq_true rfl) rfl (fun zc7 hc7 => ?_)
        have hk7 := KU_esN_KQ (rw := xHasRaw shR) hc7.2
        obtain ⟨zS7, hz7⟩ : ∃ y, y = xBack esN (xHasRaw shR) zV zc7 := ⟨_, rfl⟩
        rw [← hz7] at hk7 ⊢
        have hrE := RX_back (es := esN) (rw := xHasRaw shR) (z := zV) (b := 19) (by decide) hc7.1
        rw [← hz7, if_neg (show ¬ u = 13 by omega)] at hrE
        have hkk := KU_tr (KU_mo hkV (by decide)) hk7
        refine ww_blk xCC okX5_set 35 1 (ps := []) (pc' := 65) (lv' := [(4, .int (sTld tc r x u)), (0, .ref 0), (1, .int (nI u)), (2, .int x), (3, .int (nI v))]) (st' := [.int (sTld tc r x u)]) (z' := zS7) rfl trivial ?_
        subst xhQ
        exact ww_iret xCC okX5_set 36 xhr rfl rfl ⟨_, rfl, (by rw [sSet_y (u := u) (v := v) (by omega) (by omega) hI (by have := hY.1; rw [sTI (k := v) (by omega)] at this; exact this) (by have := hY.2; rw [sTI (k := v) (by omega)] at this; exact this)]; exact ⟨rfl, hrE, hkk⟩)⟩
      · skip
        have hT := xTab_lh u (by omega)
        rw [hT.1, hT.2] at hY
        have hM9 := sMost_le u
        refine ww_br xCC okX5_set 20 (P := 0 = 0) (t1 := 39) (t2 := 42) (r := []) rfl (fun _ => ?_) (fun q => absurd (by decide) q)
        refine ww_blk xCC okX5_set 21 1 (ps := []) (pc' := 41) (lv' := [(0, .ref 0), (1, .int (nI u)), (2, .int x), (3, .int y)]) (st' := [.int (-2)]) (z' := z) rfl trivial ?_
        subst xhQ
        exact ww_iret xCC okX5_set 22 xhr rfl rfl ⟨_, rfl, (by rw [sSet_n (by unfold sSok; rw [sTI (k := u) (by omega)]; rintro ⟨q1, q2, q3, q4, q5⟩; rw [show ((u : Nat) : Int).toNat = u from rfl] at q3 q4 q5; first | exact hI q3 | (split at q4 <;> omega))]; exact ⟨rfl, hr, KU_rf z⟩)⟩
    · skip
      rw [hI.2]
      replace hI := hI.1
      refine ww_br xCC okX5_set 9 (P := 0 = 0) (t1 := 19) (t2 := 22) (r := []) rfl (fun _ => ?_) (fun q => absurd (by decide) q)
      refine ww_blk xCC okX5_set 10 1 (ps := []) (pc' := 21) (lv' := [(0, .ref 0), (1, .int (nI u)), (2, .int x), (3, .int y)]) (st' := [.int (-2)]) (z' := z) rfl trivial ?_
      subst xhQ
      exact ww_iret xCC okX5_set 11 xhr rfl rfl ⟨_, rfl, (by rw [sSet_n (by unfold sSok; rw [sTI (k := u) (by omega)]; rintro ⟨q1, q2, q3, q4, q5⟩; rw [show ((u : Nat) : Int).toNat = u from rfl] at q3 q4 q5; first | exact hI q3 | (split at q4 <;> omega))]; exact ⟨rfl, hr, KU_rf z⟩)⟩
  · skip
    have h2 : ¬ (0 ≤ w.toInt ∧ w.toInt ≤ 7) := h2
    refine ww_br xCC okX5_set 4 (P := 0 = 0) (t1 := 19) (t2 := 10) (r := []) rfl (fun _ => ?_) (fun q => absurd (by decide) q)
    refine ww_blk xCC okX5_set 10 1 (ps := []) (pc' := 21) (lv' := [(0, .ref 0), (1, .int w), (2, .int x), (3, .int y)]) (st' := [.int (-2)]) (z' := z) rfl trivial ?_
    subst xhQ
    exact ww_iret xCC okX5_set 11 xhr rfl rfl ⟨_, rfl, (by rw [sSet_n (by unfold sSok; rintro ⟨q1, q2, q3, q4, q5⟩; omega)]; exact ⟨rfl, hr, KU_rf z⟩)⟩

set_option maxHeartbeats 4000000 in
set_option maxRecDepth 20000 in
theorem t_X5_asks (l : Launch) (d : Nat) (x y w : Int32) (z : xMem) (r : sR) (cnt : Nat) (tc : Nat → sTc) (hr : RX z 19 r) (hw : sW r cnt) (ht : TX z 1 cnt tc) : XMi l (d + 4) yX5_asks cX5_asks 4 (some .int) shX [.ref 0, .int x, .int y, .int w] z (fun v z' => KU U0 z z' ∧ ((¬ (0 ≤ x.toInt ∧ x.toInt < r 7 4 ∧ 0 ≤ y.toInt ∧ y.toInt ≤ 9 ∧ 0 ≤ w.toInt ∧ w.toInt ≤ 2) ∧ v = -2) ∨ (∃ p e u, x = nI p ∧ y = nI e ∧ w = nI u ∧ p < r 7 4 ∧ e < 10 ∧ u < 3 ∧ v = sAsk tc r p e u))) := by
  refine XM.of (by decide) (Nat.le_of_ble_eq_true rfl) (fun xp xe xs xm xar xbl xme xc xD xcs xad xAA xCC xhr => ?_)
  generalize xhQ : MQ xbl _ xar xs 0 0 xAA = xQ
  show ww xp l xe (xRm (d + 4)) xs xm xar xbl xme xc 4 xD xcs xad shX xAA xQ 0 [(0, .ref 0), (1, .int x), (2, .int y), (3, .int w)] [] z
  have hb := hw.1
  have h74 : r 7 4 ≤ 4 := hw.2.2.2.2.2.2.1
  refine ww_blk xCC okX5_asks 0 2 (ps := []) (pc' := 2) (lv' := [(0, .ref 0), (1, .int x), (2, .int y), (3, .int w)]) (st' := [.int x, .ref 0]) (z' := z) rfl trivial ?_
  refine ww_callVIz xCC okX5_asks 2 (ix := 82) (t_X5_isOne l d x z (r 7 4) hr.2.2.2.2.2.2.2.2.2.2.2.2.1 h74) (by omega) (by decide) xyX5_isOne xiX5_isOne (Or.inl (lw_gt_of (List.mem_of_getElem? (i := 340) (by decide +kernel)) rfl)) rfl rfl rfl (rest := []) rfl (Nat.le_of_ble_eq_true rfl) rfl (fun zO hO => ?_) (fun zO hO => ?_)
  · skip
    rw [hO.2]
    obtain ⟨⟨hOa, hOb⟩, -⟩ := hO
    obtain ⟨p, hp, rfl⟩ := sNN (x := x) (n := r 7 4) hOa (by omega)
    refine ww_br xCC okX5_asks 3 (P := 1 = 0) (t1 := 15) (t2 := 8) (r := []) rfl (fun q => absurd q (by decide)) (fun _ => ?_)
    refine ww_blk xCC okX5_asks 4 1 (ps := []) (pc' := 9) (lv' := [(0, .ref 0), (1, .int (nI p)), (2, .int y), (3, .int w)]) (st' := [.int y]) (z' := z) rfl trivial ?_
    refine ww_callSNz xCC okX5_asks 5 (ix := 86) (t_X5_isDeed l d y _) (by omega) (by decide) xyX5_isDeed xiX5_isDeed (Or.inl (lw_gt_of (List.mem_of_getElem? (i := 337) (by decide +kernel)) rfl)) rfl (rest := []) rfl (Nat.le_of_ble_eq_true rfl) rfl (fun z2 h3 => ?_) (fun z2 h3 => ?_)
    · skip
      have h3 : 0 ≤ y.toInt ∧ y.toInt ≤ 9 := h3
      obtain ⟨e, he, rfl⟩ := sNN (x := y) (n := 10) (by omega) (by omega)
      refine ww_br xCC okX5_asks 6 (P := 1 = 0) (t1 := 15) (t2 := 18) (r := []) rfl (fun q => absurd q (by decide)) (fun _ => ?_)
      refine ww_blk xCC okX5_asks 9 1 (ps := []) (pc' := 19) (lv' := [(0, .ref 0), (1, .int (nI p)), (2, .int (nI e)), (3, .int w)]) (st' := [.int w]) (z' := z) rfl trivial ?_
      refine ww_sw xCC okX5_asks 10 (x := w) (L := [(0, 44), (1, 62), (2, 72)]) (P := w.toInt < 0 ∨ 2 < w.toInt) (t0 := 82) (r := []) rfl (fun c5 => ?_) (And.intro (fun c5 => ?_) (And.intro (fun c5 => ?_) ((fun c5 => ?_))))
      · skip
        refine ww_blk xCC okX5_asks 33 1 (ps := []) (pc' := 84) (lv' := [(0, .ref 0), (1, .int (nI p)), (2, .int (nI e)), (3, .int w)]) (st' := [.int (-2)]) (z' := z) rfl trivial ?_
        subst xhQ
        exact ww_iret xCC okX5_asks 34 xhr rfl rfl ⟨_, rfl, ⟨KU_rf z, Or.inl ⟨(by omega), rfl⟩⟩⟩
      · have c5 : w = 0 := c5
        show ww xp l xe (xRm (d + 4)) xs xm xar xbl xme xc 4 xD xcs xad shX xAA xQ 44 [(0, .ref 0), (1, .int (nI p)), (2, .int (nI e)), (3, .int w)] [] z
        refine ww_blk xCC okX5_asks 11 4 (ps := []) (pc' := 50) (lv' := [(0, .ref 0), (1, .int (nI p)), (2, .int (nI e)), (3, .int w)]) (st' := [.int (nI e), .int (nI p), .ref 19]) (z' := z) rfl trivial ?_
        refine ww_callVEz xCC okX5_asks 15 (ix := 89) (t_X0_dares l d p e (xPull esN z) r cnt tc (RX_pull (by decide) hr) hw (TX_pull (by decide) ht) (by omega) he) (by omega) (by decide) xyX0_dares xiX0_dares (Or.inr (List.mem_of_getElem? (i := 420) (by decide +kernel))) (by decide +kernel) (by decide) (fun q => by cases q) (q0 := 19) rfl rfl rfl rfl (rest := []) rfl (Nat.le_of_ble_eq_true rfl) rfl (fun zc6 hc6 => ?_) (fun zc6 hc6 => ?_)
        · skip
          have hk6 := KU_esN_KN (rw := xHasRaw shR) hc6.2
          obtain ⟨zS6, hz6⟩ : ∃ y, y = xBack esN (xHasRaw shR) z zc6 := ⟨_, rfl⟩
          rw [← hz6] at hk6 ⊢
          refine ww_br xCC okX5_asks 16 (P := 1 = 0) (t1 := 60) (t2 := 56) (r := []) rfl (fun q => absurd q (by decide)) (fun _ => ?_)
          refine ww_blk xCC okX5_asks 17 2 (ps := []) (pc' := 61) (lv' := [(0, .ref 0), (1, .int (nI p)), (2, .int (nI e)), (3, .int w)]) (st' := [.int 1]) (z' := zS6) rfl trivial ?_
          subst xhQ
          exact ww_iret xCC okX5_asks 20 xhr rfl rfl ⟨_, rfl, ⟨hk6, Or.inr ⟨p, e, 0, rfl, rfl, (show w = nI 0 from c5), (by omega), he, (by decide), (by rw [sAsk, if_pos rfl, hc6.1]; rfl)⟩⟩⟩
        · skip
          have hk6 := KU_esN_KN (rw := xHasRaw shR) hc6.2
          obtain ⟨zS6, hz6⟩ : ∃ y, y = xBack esN (xHasRaw shR) z zc6 := ⟨_, rfl⟩
          rw [← hz6] at hk6 ⊢
          refine ww_br xCC okX5_asks 16 (P := 0 = 0) (t1 := 60) (t2 := 56) (r := []) rfl (fun _ => ?_) (fun q => absurd (by decide) q)
          refine ww_blk xCC okX5_asks 19 1 (ps := []) (pc' := 61) (lv' := [(0, .ref 0), (1, .int (nI p)), (2, .int (nI e)), (3, .int w)]) (st' := [.int 0]) (z' := zS6) rfl trivial ?_
          subst xhQ
          exact ww_iret xCC okX5_asks 20 xhr rfl rfl ⟨_, rfl, ⟨hk6, Or.inr ⟨p, e, 0, rfl, rfl, (show w = nI 0 from c5), (by omega), he, (by decide), (by rw [sAsk, if_pos rfl, hc6.1]; rfl)⟩⟩⟩
      · have c5 : w = 1 := c5
        show ww xp l xe (xRm (d + 4)) xs xm xar xbl xme xc 4 xD xcs xad shX xAA xQ 62 [(0, .ref 0), (1, .int (nI p)), (2, .int (nI e)), (3, .int w)] [] z
        refine ww_blk xCC okX5_asks 21 4 (ps := []) (pc' := 68) (lv' := [(0, .ref 0), (1, .int (nI p)), (2, .int (nI e)), (3, .int w)]) (st' := [.int (nI e), .int (nI p), .ref 19]) (z' := z) rfl trivial ?_
        refine ww_callVEi xCC okX5_asks 25 (ix := 92) (t_X0_costs l d p e (xPull esN z) r cnt tc (RX_pull (by decide) hr) hw (TX_pull (by decide) ht) (by omega) he) (by omega) (by decide) xyX0_costs xiX0_costs (Or.inr (List.mem_of_getElem? (i := 421) (by decide +kernel))) (by decide +kernel) (by decide) (fun q => by cases q) (q0 := 19) rfl rfl rfl rfl (rest := []) rfl (Nat.le_of_ble_eq_true rfl) rfl (fun vc9 zc9 hc9 => ?_)
        have hk9 := KU_esN_KN (rw := xHasRaw shR) hc9.2
        obtain ⟨zS9, hz9⟩ : ∃ y, y = xBack esN (xHasRaw shR) z zc9 := ⟨_, rfl⟩
        rw [← hz9] at hk9 ⊢
        rw [hc9.1]
        subst xhQ
        exact ww_iret xCC okX5_asks 26 xhr rfl rfl ⟨_, rfl, ⟨hk9, Or.inr ⟨p, e, 1, rfl, rfl, (show w = nI 1 from c5), (by omega), he, (by decide), rfl⟩⟩⟩
      · have c5 : w = 2 := c5
        show ww xp l xe (xRm (d + 4)) xs xm xar xbl xme xc 4 xD xcs xad shX xAA xQ 72 [(0, .ref 0), (1, .int (nI p)), (2, .int (nI e)), (3, .int w)] [] z
        refine ww_blk xCC okX5_asks 27 4 (ps := []) (pc' := 78) (lv' := [(0, .ref 0), (1, .int (nI p)), (2, .int (nI e)), (3, .int w)]) (st' := [.int (nI e), .int (nI p), .ref 19]) (z' := z) rfl trivial ?_
        refine ww_callVEi xCC okX5_asks 31 (ix := 95) (t_X0_yearsFor l d p e (xPull esN z) r cnt tc (RX_pull (by decide) hr) hw (TX_pull (by decide) ht) (by omega) he) (by omega) (by decide) xyX0_yearsFor xiX0_yearsFor (Or.inr (List.mem_of_getElem? (i := 428) (by decide +kernel))) (by decide +kernel) (by decide) (fun q => by cases q) (q0 := 19) rfl rfl rfl rfl (rest := []) rfl (Nat.le_of_ble_eq_true rfl) rfl (fun vc10 zc10 hc10 => ?_)
        have hk10 := KU_esN_KN (rw := xHasRaw shR) hc10.2
        obtain ⟨zS10, hz10⟩ : ∃ y, y = xBack esN (xHasRaw shR) z zc10 := ⟨_, rfl⟩
        rw [← hz10] at hk10 ⊢
        rw [hc10.1]
        subst xhQ
        exact ww_iret xCC okX5_asks 32 xhr rfl rfl ⟨_, rfl, ⟨hk10, Or.inr ⟨p, e, 2, rfl, rfl, (show w = nI 2 from c5), (by omega), he, (by decide), rfl⟩⟩⟩
    · skip
      have h3 : ¬ (0 ≤ y.toInt ∧ y.toInt ≤ 9) := h3
      refine ww_br xCC okX5_asks 6 (P := 0 = 0) (t1 := 15) (t2 := 18) (r := []) rfl (fun _ => ?_) (fun q => absurd (by decide) q)
      refine ww_blk xCC okX5_asks 7 1 (ps := []) (pc' := 17) (lv' := [(0, .ref 0), (1, .int (nI p)), (2, .int y), (3, .int w)]) (st' := [.int (-2)]) (z' := z) rfl trivial ?_
      subst xhQ
      exact ww_iret xCC okX5_asks 8 xhr rfl rfl ⟨_, rfl, ⟨KU_rf z, Or.inl ⟨(by omega), rfl⟩⟩⟩
  · skip
    rw [hO.2]
    replace hO := hO.1
    refine ww_br xCC okX5_asks 3 (P := 0 = 0) (t1 := 15) (t2 := 8) (r := []) rfl (fun _ => ?_) (fun q => absurd (by decide) q)
    refine ww_blk xCC okX5_asks 7 1 (ps := []) (pc' := 17) (lv' := [(0, .ref 0), (1, .int x), (2, .int y), (3, .int w)]) (st' := [.int (-2)]) (z' := z) rfl trivial ?_
    subst xhQ
    exact ww_iret xCC okX5_asks 8 xhr rfl rfl ⟨_, rfl, ⟨KU_rf z, Or.inl ⟨(by omega), rfl⟩⟩⟩

set_option maxHeartbeats 4000000 in
set_option maxRecDepth 20000 in
theorem t_X5_does (l : Launch) (d : Nat) (x y : Int32) (z : xMem) (r : sR) (cnt : Nat) (tc : Nat → sTc) (hr : RX z 19 r) (hw : sW r cnt) (ht : TX z 1 cnt tc) : XMi l (d + 5) yX5_does cX5_does 3 (some .int) shX [.ref 0, .int x, .int y] z (fun v z' => (¬ (0 ≤ x.toInt ∧ x.toInt < r 7 4 ∧ 0 ≤ y.toInt ∧ y.toInt ≤ 9) ∧ v = -2 ∧ KU U0 z z') ∨ (∃ p e, x = nI p ∧ y = nI e ∧ p < r 7 4 ∧ e < 10 ∧ ((sCan tc r p e = false ∧ v = -3 ∧ KU U0 z z') ∨ (sCan tc r p e = true ∧ v = nI (sDone tc r p e 7 0) ∧ RX z' 19 (sDone tc r p e) ∧ KU UN z z')))) := by
  refine XM.of (by decide) (Nat.le_of_ble_eq_true rfl) (fun xp xe xs xm xar xbl xme xc xD xcs xad xAA xCC xhr => ?_)
  generalize xhQ : MQ xbl _ xar xs 0 0 xAA = xQ
  show ww xp l xe (xRm (d + 5)) xs xm xar xbl xme xc 3 xD xcs xad shX xAA xQ 0 [(0, .ref 0), (1, .int x), (2, .int y)] [] z
  have hb := hw.1
  have h74 : r 7 4 ≤ 4 := hw.2.2.2.2.2.2.1
  refine ww_blk xCC okX5_does 0 2 (ps := []) (pc' := 2) (lv' := [(0, .ref 0), (1, .int x), (2, .int y)]) (st' := [.int x, .ref 0]) (z' := z) rfl trivial ?_
  refine ww_callVIz xCC okX5_does 2 (ix := 82) (t_X5_isOne l d x z (r 7 4) hr.2.2.2.2.2.2.2.2.2.2.2.2.1 h74) (by omega) (by decide) xyX5_isOne xiX5_isOne (Or.inl (lw_gt_of (List.mem_of_getElem? (i := 340) (by decide +kernel)) rfl)) rfl rfl rfl (rest := []) rfl (Nat.le_of_ble_eq_true rfl) rfl (fun zO hO => ?_) (fun zO hO => ?_)
  · skip
    rw [hO.2]
    obtain ⟨⟨hOa, hOb⟩, -⟩ := hO
    obtain ⟨p, hp, rfl⟩ := sNN (x := x) (n := r 7 4) hOa (by omega)
    refine ww_br xCC okX5_does 3 (P := 1 = 0) (t1 := 15) (t2 := 8) (r := []) rfl (fun q => absurd q (by decide)) (fun _ => ?_)
    refine ww_blk xCC okX5_does 4 1 (ps := []) (pc' := 9) (lv' := [(0, .ref 0), (1, .int (nI p)), (2, .int y)]) (st' := [.int y]) (z' := z) rfl trivial ?_
    refine ww_callSNz xCC okX5_does 5 (ix := 86) (t_X5_isDeed l d y _) (by omega) (by decide) xyX5_isDeed xiX5_isDeed (Or.inl (lw_gt_of (List.mem_of_getElem? (i := 337) (by decide +kernel)) rfl)) rfl (rest := []) rfl (Nat.le_of_ble_eq_true rfl) rfl (fun z2 h3 => ?_) (fun z2 h3 => ?_)
    · skip
      have h3 : 0 ≤ y.toInt ∧ y.toInt ≤ 9 := h3
      obtain ⟨e, he, rfl⟩ := sNN (x := y) (n := 10) (by omega) (by omega)
      refine ww_br xCC okX5_does 6 (P := 1 = 0) (t1 := 15) (t2 := 18) (r := []) rfl (fun q => absurd q (by decide)) (fun _ => ?_)
      refine ww_blk xCC okX5_does 9 4 (ps := []) (pc' := 24) (lv' := [(0, .ref 0), (1, .int (nI p)), (2, .int (nI e))]) (st' := [.int (nI e), .int (nI p), .ref 19]) (z' := z) rfl trivial ?_
      refine ww_callVEz xCC okX5_does 13 (ix := 122) (t_X0_can l d p e (xPull esN z) r cnt tc (RX_pull (by decide) hr) hw (TX_pull (by decide) ht) (by omega) he) (by omega) (by decide) xyX0_can xiX0_can (Or.inr (List.mem_of_getElem? (i := 579) (by decide +kernel))) (by decide +kernel) (by decide) (fun q => by cases q) (q0 := 19) rfl rfl rfl rfl (rest := []) rfl (Nat.le_of_ble_eq_true rfl) rfl (fun zcV hcV => ?_) (fun zcV hcV => ?_)
      · skip
        have hkV := KU_esN_KN (rw := xHasRaw shR) hcV.2
        obtain ⟨zV, hzV⟩ : ∃ y, y = xBack esN (xHasRaw shR) z zcV := ⟨_, rfl⟩
        rw [← hzV] at hkV ⊢
        have hrV := RX_U hkV (by decide) hr
        have htV := TX_U hkV (by decide) ht
        refine ww_br xCC okX5_does 14 (P := 1 = 0) (t1 := 30) (t2 := 33) (r := []) rfl (fun q => absurd q (by decide)) (fun _ => ?_)
        refine ww_blk xCC okX5_does 17 4 (ps := []) (pc' := 39) (lv' := [(0, .ref 0), (1, .int (nI p)), (2, .int (nI e))]) (st' := [.int (nI e), .int (nI p), .ref 19]) (z' := zV) rfl trivial ?_
        refine ww_callVEv xCC okX5_does 21 (ix := 125) (t_X0_commit l d p e (xPull esN zV) r cnt tc (RX_pull (by decide) hrV) hw (TX_pull (by decide) htV) (by omega) he) (by omega) (by decide) xyX0_commit xiX0_commit (Or.inr (List.mem_of_getElem? (i := 580) (by decide +kernel))) (by decide +kernel) (by decide) (fun q => by cases q) (q0 := 19) rfl rfl rfl rfl (rest := []) rfl (Nat.le_of_ble_eq_true rfl) rfl (fun zc7 hc7 => ?_)
        have hk7 := KU_esN_KQ (rw := xHasRaw shR) hc7.2
        obtain ⟨zD, hz7⟩ : ∃ y, y = xBack esN (xHasRaw shR) zV zc7 := ⟨_, rfl⟩
        rw [← hz7] at hk7 ⊢
        have hrE := RX_back (es := esN) (rw := xHasRaw shR) (z := zV) (b := 19) (by decide) hc7.1
        rw [← hz7] at hrE
        have hkk := KU_tr (KU_mo hkV (by decide)) hk7
        refine ww_blk xCC okX5_does 22 3 (ps := []) (pc' := 49) (lv' := [(0, .ref 0), (1, .int (nI p)), (2, .int (nI e))]) (st' := [.int (zD.1 19 3)]) (z' := zD) rfl trivial ?_
        rw [show zD.1 19 3 = nI (sDone tc r p e 7 0) from hrE.2.2.2.2.2.2.2.2.1]
        subst xhQ
        exact ww_iret xCC okX5_does 25 xhr rfl rfl ⟨_, rfl, (Or.inr ⟨p, e, rfl, rfl, hp, he, Or.inr ⟨hcV.1, rfl, hrE, hkk⟩⟩)⟩
      · skip
        have hkV := KU_esN_KN (rw := xHasRaw shR) hcV.2
        obtain ⟨zV, hzV⟩ : ∃ y, y = xBack esN (xHasRaw shR) z zcV := ⟨_, rfl⟩
        rw [← hzV] at hkV ⊢
        have hrV := RX_U hkV (by decide) hr
        have htV := TX_U hkV (by decide) ht
        refine ww_br xCC okX5_does 14 (P := 0 = 0) (t1 := 30) (t2 := 33) (r := []) rfl (fun _ => ?_) (fun q => absurd (by decide) q)
        refine ww_blk xCC okX5_does 15 1 (ps := []) (pc' := 32) (lv' := [(0, .ref 0), (1, .int (nI p)), (2, .int (nI e))]) (st' := [.int (-3)]) (z' := zV) rfl trivial ?_
        subst xhQ
        exact ww_iret xCC okX5_does 16 xhr rfl rfl ⟨_, rfl, (Or.inr ⟨p, e, rfl, rfl, hp, he, Or.inl ⟨hcV.1, rfl, hkV⟩⟩)⟩
    · skip
      have h3 : ¬ (0 ≤ y.toInt ∧ y.toInt ≤ 9) := h3
      refine ww_br xCC okX5_does 6 (P := 0 = 0) (t1 := 15) (t2 := 18) (r := []) rfl (fun _ => ?_) (fun q => absurd (by decide) q)
      refine ww_blk xCC okX5_does 7 1 (ps := []) (pc' := 17) (lv' := [(0, .ref 0), (1, .int (nI p)), (2, .int y)]) (st' := [.int (-2)]) (z' := z) rfl trivial ?_
      subst xhQ
      exact ww_iret xCC okX5_does 8 xhr rfl rfl ⟨_, rfl, (Or.inl ⟨(by omega), rfl, KU_rf z⟩)⟩
  · skip
    rw [hO.2]
    replace hO := hO.1
    refine ww_br xCC okX5_does 3 (P := 0 = 0) (t1 := 15) (t2 := 8) (r := []) rfl (fun _ => ?_) (fun q => absurd (by decide) q)
    refine ww_blk xCC okX5_does 7 1 (ps := []) (pc' := 17) (lv' := [(0, .ref 0), (1, .int x), (2, .int y)]) (st' := [.int (-2)]) (z' := z) rfl trivial ?_
    subst xhQ
    exact ww_iret xCC okX5_does 8 xhr rfl rfl ⟨_, rfl, (Or.inl ⟨(by omega), rfl, KU_rf z⟩)⟩

set_option maxHeartbeats 4000000 in
set_option maxRecDepth 20000 in
theorem t_X5_year (l : Launch) (d : Nat) (z : xMem) (r : sR) (cnt : Nat) (hr : RX z 19 r) (hw : sW r cnt) (hS : sSub r) (hY : r 7 2 ≤ 999) : XMi l (d + 2) yX5_year cX5_year 1 (some .int) shX [.ref 0] z (fun v z' => (r 7 2 = 999 ∧ v = -3 ∧ z' = z) ∨ (¬ r 7 2 = 999 ∧ v = sEv r ∧ RX z' 19 (sEnd r) ∧ KU UN z z')) := by
  refine XM.of (by decide) (Nat.le_of_ble_eq_true rfl) (fun xp xe xs xm xar xbl xme xc xD xcs xad xAA xCC xhr => ?_)
  generalize xhQ : MQ xbl _ xar xs 0 0 xAA = xQ
  show ww xp l xe (xRm (d + 2)) xs xm xar xbl xme xc 1 xD xcs xad shX xAA xQ 0 [(0, .ref 0)] [] z
  have hb := hw.1
  have h74 : r 7 4 ≤ 4 := hw.2.2.2.2.2.2.1
  refine ww_blk xCC okX5_year 0 4 (ps := []) (pc' := 10) (lv' := [(0, .ref 0)]) (st' := [.int 999, .int (z.1 19 5)]) (z' := z) rfl trivial ?_
  rw [show z.1 19 5 = nI (r 7 2) from hr.2.2.2.2.2.2.2.2.2.2.1]
  refine ww_br xCC okX5_year 4 (P := (nI (r 7 2)) < 999) (t1 := 18) (t2 := 13) (r := []) rfl (fun c1 => ?_) (fun c1 => ?_)
  · skip
    replace c1 : (r 7 2) < 999 := (sLT (a := (r 7 2)) (b := 999) (by omega) (by omega)).mp c1
    refine ww_blk xCC okX5_year 7 2 (ps := []) (pc' := 22) (lv' := [(0, .ref 0)]) (st' := [.ref 19]) (z' := z) rfl trivial ?_
    refine ww_callVEi xCC okX5_year 9 (ix := 135) (t_X0_endYear l d  (xPull esN z) r cnt (RX_pull (by decide) hr) hw hS) (by omega) (by decide) xyX0_endYear xiX0_endYear (Or.inr (List.mem_of_getElem? (i := 595) (by decide +kernel))) (by decide +kernel) (by decide) (fun q => by cases q) (q0 := 19) rfl rfl rfl rfl (rest := []) rfl (Nat.le_of_ble_eq_true rfl) rfl (fun vc2 zc2 hc2 => ?_)
    have hk2 := KU_esN_KQ (rw := xHasRaw shR) hc2.2.2
    obtain ⟨zS2, hz2⟩ : ∃ y, y = xBack esN (xHasRaw shR) z zc2 := ⟨_, rfl⟩
    rw [← hz2] at hk2 ⊢
    rw [hc2.1]
    have hrE := RX_back (es := esN) (rw := xHasRaw shR) (z := z) (b := 19) (by decide) hc2.2.1
    rw [← hz2] at hrE
    subst xhQ
    exact ww_iret xCC okX5_year 10 xhr rfl rfl ⟨_, rfl, (Or.inr ⟨(by omega), rfl, hrE, hk2⟩)⟩
  · skip
    replace c1 : ¬ (r 7 2) < 999 := fun q => c1 ((sLT (a := (r 7 2)) (b := 999) (by omega) (by omega)).mpr q)
    refine ww_blk xCC okX5_year 5 2 (ps := []) (pc' := 25) (lv' := [(0, .ref 0)]) (st' := [.int (-3)]) (z' := z) rfl trivial ?_
    subst xhQ
    exact ww_iret xCC okX5_year 10 xhr rfl rfl ⟨_, rfl, (Or.inl ⟨(by omega), rfl, rfl⟩)⟩
