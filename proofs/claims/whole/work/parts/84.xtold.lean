/-! LawsLapse's told, cover, rota, taken -/
def UB : List Nat := [16, 43, 44, 45, 46]
def esNo : List Nat := [19, 20, 21, 22, 23, 24, 25, 26, 1, 2, 3, 4, 5, 6, 7, 8, 9, 10, 11, 12, 13, 14, 15, 16, 43, 44, 45, 46]
theorem KU_esN_EQ {rw : Bool} {z zn : xMem} (h : zn = xPull esN z) : KU U0 z (xBack esN rw z zn) := KU_back (I := []) (fun i _ => by rw [h]) (by decide)
theorem KU_back2 {es I L : List Nat} {rw : Bool} {z zn : xMem} (h : ∀ i, i < es.length → i ∉ I → zn.1 i = (xPull es z).1 i) (hL : I.all (fun i => match es[i]? with | some q => L.contains q | none => true) = true) : KU L z (xBack es rw z zn) := by
  intro q hq
  refine xBack_keep (fun i hi => ?_)
  have h1 := (xIx_some es i 0 q hi).2
  rw [Nat.sub_zero] at h1
  refine h i (List.getElem?_eq_some_iff.mp h1).1 (fun e => hq ?_)
  have h2 := List.all_eq_true.mp hL i e
  rw [h1] at h2
  simpa using h2
theorem KU_esNo_SK {rw : Bool} {z zn : xMem} (h : ∀ q, q < 24 → q ≠ 23 → zn.1 q = (xPull esNo z).1 q) : KU UB z (xBack esNo rw z zn) := KU_back2 (I := [23, 24, 25, 26, 27]) (fun i hi h9 => by
  simp only [List.mem_cons, List.not_mem_nil, or_false, not_or] at h9
  have : i < 28 := hi
  exact h i (by omega) h9.1) (by decide)
theorem sCv_q {r : sR} {a : Nat} {b : Bool} : ∀ k, (sCv r a b k).1 ≤ k ∧ ((sCv r a b k).1 = 0 ∨ (sCv r a b k).2 = sWt r b ((sCv r a b k).1 - 1))
  | 0 => ⟨Nat.le_refl 0, Or.inl rfl⟩
  | k + 1 => by
    have h := sCv_q (r := r) (a := a) (b := b) k
    rw [sCv]
    split
    · split
      · exact ⟨Nat.le_refl _, Or.inr rfl⟩
      · exact ⟨by omega, h.2⟩
    · exact ⟨by omega, h.2⟩
theorem sCv_le {r : sR} {a f le : Nat} {b : Bool} (e : sCv r a b 1024 = (f, le)) : f ≤ 1024 := by
  have h := (sCv_q (r := r) (a := a) (b := b) 1024).1
  rw [e] at h
  exact h
theorem sCv_m {r : sR} {a m le : Nat} {b : Bool} (e : sCv r a b 1024 = (m + 1, le)) : m < 1024 := sCv_le e
theorem sCv_1 {r : sR} {a m le cnt u : Nat} (hw : sW r cnt) (e : sCv r a (decide (u < 2)) 1024 = (m + 1, le)) (hu : u < 2) : nI (le / 1000) = nI (sHm r m 10) := by
  have h := (sCv_q (r := r) (a := a) (b := decide (u < 2)) 1024).2
  rw [e] at h
  have h1 := h.resolve_left (by simp)
  have hm := sCv_m e
  have hp := sPop_le m hm
  have h1 : le = sWt r (decide (u < 2)) m := h1
  rw [decide_eq_true hu, sWt, if_pos rfl] at h1
  congr 1
  omega
theorem sCv_3 {r : sR} {a m le cnt u : Nat} (hw : sW r cnt) (e : sCv r a (decide (u < 2)) 1024 = (m + 1, le)) (hu : ¬ u < 2) : nI (le / 1000) = nI (sPop m) := by
  have h := (sCv_q (r := r) (a := a) (b := decide (u < 2)) 1024).2
  rw [e] at h
  have h1 := h.resolve_left (by simp)
  have hm := sHm_bd hw m 10
  have h1 : le = sWt r (decide (u < 2)) m := h1
  rw [decide_eq_false hu, sWt, if_neg (by decide)] at h1
  congr 1
  omega
theorem sUm_le (a : Nat) : sUm a ≤ 3 := by
  unfold sUm
  repeat' split
  all_goals omega
theorem xTab_pa : ∀ b, b < 6 → xTab 2 b = cI (sOv b) := by decide
set_option maxHeartbeats 4000000 in
set_option maxRecDepth 20000 in
theorem t_X5_stands_o (l : Launch) (d : Nat) (x w : Int32) (z : xMem) (hw : ¬ (0 ≤ w.toInt ∧ w.toInt ≤ 12)) : XMz l (d + 2) yX5_stands cX5_stands 3 (some .boolean) shX [.ref 0, .int x, .int w] z (fun _ => False) (fun z' => z' = z) := by
  refine XM.of (by decide) (Nat.le_of_ble_eq_true rfl) (fun xp xe xs xm xar xbl xme xc xD xcs xad xAA xCC xhr => ?_)
  generalize xhQ : MQ xbl _ xar xs 0 0 xAA = xQ
  show ww xp l xe (xRm (d + 2)) xs xm xar xbl xme xc 3 xD xcs xad shX xAA xQ 0 [(0, .ref 0), (1, .int x), (2, .int w)] [] z
  refine ww_blk xCC okX5_stands 0 1 (ps := []) (pc' := 1) (lv' := [(0, .ref 0), (1, .int x), (2, .int w)]) (st' := [.int w]) (z' := z) rfl trivial ?_
  refine ww_sw xCC okX5_stands 1 (x := w) (L := [(0, 68), (1, 84), (2, 84), (3, 73), (4, 73), (5, 78), (6, 78), (7, 78), (8, 78), (9, 78), (10, 84), (11, 84), (12, 84)]) (P := w.toInt < 0 ∨ 12 < w.toInt) (t0 := 86) (r := []) rfl (fun c1 => ?_) (And.intro (fun c1 => ?_) (And.intro (fun c1 => ?_) (And.intro (fun c1 => ?_) (And.intro (fun c1 => ?_) (And.intro (fun c1 => ?_) (And.intro (fun c1 => ?_) (And.intro (fun c1 => ?_) (And.intro (fun c1 => ?_) (And.intro (fun c1 => ?_) (And.intro (fun c1 => ?_) (And.intro (fun c1 => ?_) (And.intro (fun c1 => ?_) ((fun c1 => ?_))))))))))))))
  · skip
    refine ww_blk xCC okX5_stands 14 1 (ps := []) (pc' := 87) (lv' := [(0, .ref 0), (1, .int x), (2, .int w)]) (st' := [.int 0]) (z' := z) rfl trivial ?_
    subst xhQ
    exact ww_iret xCC okX5_stands 15 xhr rfl (by decide) (Or.inr ⟨rfl, rfl⟩)
  · have c1 : w = 0 := c1
    show ww xp l xe (xRm (d + 2)) xs xm xar xbl xme xc 3 xD xcs xad shX xAA xQ 68 [(0, .ref 0), (1, .int x), (2, .int w)] [] z
    exact absurd (show (0 : Int) ≤ w.toInt ∧ w.toInt ≤ 12 by rw [c1]; decide) hw
  · have c1 : w = 1 := c1
    show ww xp l xe (xRm (d + 2)) xs xm xar xbl xme xc 3 xD xcs xad shX xAA xQ 84 [(0, .ref 0), (1, .int x), (2, .int w)] [] z
    exact absurd (show (0 : Int) ≤ w.toInt ∧ w.toInt ≤ 12 by rw [c1]; decide) hw
  · have c1 : w = 2 := c1
    show ww xp l xe (xRm (d + 2)) xs xm xar xbl xme xc 3 xD xcs xad shX xAA xQ 84 [(0, .ref 0), (1, .int x), (2, .int w)] [] z
    exact absurd (show (0 : Int) ≤ w.toInt ∧ w.toInt ≤ 12 by rw [c1]; decide) hw
  · have c1 : w = 3 := c1
    show ww xp l xe (xRm (d + 2)) xs xm xar xbl xme xc 3 xD xcs xad shX xAA xQ 73 [(0, .ref 0), (1, .int x), (2, .int w)] [] z
    exact absurd (show (0 : Int) ≤ w.toInt ∧ w.toInt ≤ 12 by rw [c1]; decide) hw
  · have c1 : w = 4 := c1
    show ww xp l xe (xRm (d + 2)) xs xm xar xbl xme xc 3 xD xcs xad shX xAA xQ 73 [(0, .ref 0), (1, .int x), (2, .int w)] [] z
    exact absurd (show (0 : Int) ≤ w.toInt ∧ w.toInt ≤ 12 by rw [c1]; decide) hw
  · have c1 : w = 5 := c1
    show ww xp l xe (xRm (d + 2)) xs xm xar xbl xme xc 3 xD xcs xad shX xAA xQ 78 [(0, .ref 0), (1, .int x), (2, .int w)] [] z
    exact absurd (show (0 : Int) ≤ w.toInt ∧ w.toInt ≤ 12 by rw [c1]; decide) hw
  · have c1 : w = 6 := c1
    show ww xp l xe (xRm (d + 2)) xs xm xar xbl xme xc 3 xD xcs xad shX xAA xQ 78 [(0, .ref 0), (1, .int x), (2, .int w)] [] z
    exact absurd (show (0 : Int) ≤ w.toInt ∧ w.toInt ≤ 12 by rw [c1]; decide) hw
  · have c1 : w = 7 := c1
    show ww xp l xe (xRm (d + 2)) xs xm xar xbl xme xc 3 xD xcs xad shX xAA xQ 78 [(0, .ref 0), (1, .int x), (2, .int w)] [] z
    exact absurd (show (0 : Int) ≤ w.toInt ∧ w.toInt ≤ 12 by rw [c1]; decide) hw
  · have c1 : w = 8 := c1
    show ww xp l xe (xRm (d + 2)) xs xm xar xbl xme xc 3 xD xcs xad shX xAA xQ 78 [(0, .ref 0), (1, .int x), (2, .int w)] [] z
    exact absurd (show (0 : Int) ≤ w.toInt ∧ w.toInt ≤ 12 by rw [c1]; decide) hw
  · have c1 : w = 9 := c1
    show ww xp l xe (xRm (d + 2)) xs xm xar xbl xme xc 3 xD xcs xad shX xAA xQ 78 [(0, .ref 0), (1, .int x), (2, .int w)] [] z
    exact absurd (show (0 : Int) ≤ w.toInt ∧ w.toInt ≤ 12 by rw [c1]; decide) hw
  · have c1 : w = 10 := c1
    show ww xp l xe (xRm (d + 2)) xs xm xar xbl xme xc 3 xD xcs xad shX xAA xQ 84 [(0, .ref 0), (1, .int x), (2, .int w)] [] z
    exact absurd (show (0 : Int) ≤ w.toInt ∧ w.toInt ≤ 12 by rw [c1]; decide) hw
  · have c1 : w = 11 := c1
    show ww xp l xe (xRm (d + 2)) xs xm xar xbl xme xc 3 xD xcs xad shX xAA xQ 84 [(0, .ref 0), (1, .int x), (2, .int w)] [] z
    exact absurd (show (0 : Int) ≤ w.toInt ∧ w.toInt ≤ 12 by rw [c1]; decide) hw
  · have c1 : w = 12 := c1
    show ww xp l xe (xRm (d + 2)) xs xm xar xbl xme xc 3 xD xcs xad shX xAA xQ 84 [(0, .ref 0), (1, .int x), (2, .int w)] [] z
    exact absurd (show (0 : Int) ≤ w.toInt ∧ w.toInt ≤ 12 by rw [c1]; decide) hw

set_option maxHeartbeats 4000000 in
set_option maxRecDepth 20000 in
theorem t_X5_told (l : Launch) (d : Nat) (x w : Int32) (z : xMem) (r : sR) (cnt : Nat) (tc : Nat → sTc) (hr : RX z 19 r) (hw : sW r cnt) (ht : TX z 1 cnt tc) : XMi l (d + 7) yX5_told cX5_told 3 (some .int) shX [.ref 0, .int x, .int w] z (fun v z' => v = sTold tc r x w ∧ KU U0 z z') := by
  refine XM.of (by decide) (Nat.le_of_ble_eq_true rfl) (fun xp xe xs xm xar xbl xme xc xD xcs xad xAA xCC xhr => ?_)
  generalize xhQ : MQ xbl _ xar xs 0 0 xAA = xQ
  show ww xp l xe (xRm (d + 7)) xs xm xar xbl xme xc 3 xD xcs xad shX xAA xQ 0 [(0, .ref 0), (1, .int x), (2, .int w)] [] z
  have hb := hw.1
  have h74 : r 7 4 ≤ 4 := hw.2.2.2.2.2.2.1
  refine ww_blk xCC okX5_told 0 3 (ps := []) (pc' := 3) (lv' := [(0, .ref 0), (1, .int x), (2, .int w)]) (st' := [.int w, .int x, .ref 0]) (z' := z) rfl trivial ?_
  rcases Classical.em (0 ≤ w.toInt ∧ w.toInt ≤ 12) with hw9 | hw9
  · skip
    obtain ⟨u, hu, rfl⟩ := sNN (x := w) (n := 13) hw9.1 (by omega)
    refine ww_callVIz xCC okX5_told 3 (ix := 56) (t_X5_stands l d u x z (r 7 4) hr.2.2.2.2.2.2.2.2.2.2.2.2.1 h74 (by omega)) (by omega) (by decide) xyX5_stands xiX5_stands (Or.inl (lw_gt_of (List.mem_of_getElem? (i := 330) (by decide +kernel)) rfl)) rfl rfl rfl (rest := []) rfl (Nat.le_of_ble_eq_true rfl) rfl (fun zI hI => ?_) (fun zI hI => ?_)
    · skip
      rw [hI.2]
      replace hI := hI.1
      refine ww_br xCC okX5_told 4 (P := 1 = 0) (t1 := 21) (t2 := 9) (r := []) rfl (fun q => absurd q (by decide)) (fun _ => ?_)
      refine ww_blk xCC okX5_told 5 4 (ps := []) (pc' := 15) (lv' := [(0, .ref 0), (1, .int x), (2, .int (nI u))]) (st' := [.int (nI u), .int x, .ref 19]) (z' := z) rfl trivial ?_
      refine ww_callVEi xCC okX5_told 9 (ix := 67) (t_X0_valueOf l d u x (xPull esN z) r cnt tc (RX_pull (by decide) hr) hw (TX_pull (by decide) ht) (by omega) hI) (by omega) (by decide) xyX0_valueOf xiX0_valueOf (Or.inr (List.mem_of_getElem? (i := 348) (by decide +kernel))) (by decide +kernel) (by decide) (fun q => by cases q) (q0 := 19) rfl rfl rfl rfl (rest := []) rfl (Nat.le_of_ble_eq_true rfl) rfl (fun vc2 zc2 hc2 => ?_)
      have hk2 := KU_esN_KN (rw := xHasRaw shR) hc2.2
      obtain ⟨zS2, hz2⟩ : ∃ y, y = xBack esN (xHasRaw shR) z zc2 := ⟨_, rfl⟩
      rw [← hz2] at hk2 ⊢
      rw [hc2.1]
      refine ww_blk xCC okX5_told 10 1 (ps := []) (pc' := 24) (lv' := [(0, .ref 0), (1, .int x), (2, .int (nI u))]) (st' := [.int (sTld tc r x u)]) (z' := zS2) rfl trivial ?_
      subst xhQ
      exact ww_iret xCC okX5_told 12 xhr rfl rfl ⟨_, rfl, ⟨(by rw [sTold_y (by omega) hI]), hk2⟩⟩
    · skip
      rw [hI.2]
      replace hI := hI.1
      refine ww_br xCC okX5_told 4 (P := 0 = 0) (t1 := 21) (t2 := 9) (r := []) rfl (fun _ => ?_) (fun q => absurd (by decide) q)
      refine ww_blk xCC okX5_told 11 1 (ps := []) (pc' := 24) (lv' := [(0, .ref 0), (1, .int x), (2, .int (nI u))]) (st' := [.int (-1000)]) (z' := z) rfl trivial ?_
      subst xhQ
      exact ww_iret xCC okX5_told 12 xhr rfl rfl ⟨_, rfl, ⟨(by unfold sTold; rw [if_neg (by first | (rw [sTI (k := u) (by omega)]; exact fun q => hI q.2.2) | exact fun q => hw9 ⟨q.1, q.2.1⟩)]), KU_rf z⟩⟩
  · skip
    refine ww_callVIz xCC okX5_told 3 (ix := 56) (t_X5_stands_o l d x w z hw9) (by omega) (by decide) xyX5_stands xiX5_stands (Or.inl (lw_gt_of (List.mem_of_getElem? (i := 330) (by decide +kernel)) rfl)) rfl rfl rfl (rest := []) rfl (Nat.le_of_ble_eq_true rfl) rfl (fun zI hI => ?_) (fun zI hI => ?_)
    · skip
      exact absurd hI id
    · skip
      rw [hI]
      refine ww_br xCC okX5_told 4 (P := 0 = 0) (t1 := 21) (t2 := 9) (r := []) rfl (fun _ => ?_) (fun q => absurd (by decide) q)
      refine ww_blk xCC okX5_told 11 1 (ps := []) (pc' := 24) (lv' := [(0, .ref 0), (1, .int x), (2, .int w)]) (st' := [.int (-1000)]) (z' := z) rfl trivial ?_
      subst xhQ
      exact ww_iret xCC okX5_told 12 xhr rfl rfl ⟨_, rfl, ⟨(by unfold sTold; rw [if_neg (by first | (rw [sTI (k := u) (by omega)]; exact fun q => hI q.2.2) | exact fun q => hw9 ⟨q.1, q.2.1⟩)]), KU_rf z⟩⟩

set_option maxHeartbeats 4000000 in
set_option maxRecDepth 20000 in
theorem t_X5_cover (l : Launch) (d : Nat) (x w : Int32) (z : xMem) (r : sR) (cnt : Nat) (hr : RX z 19 r) (hw : sW r cnt) : XMi l (d + 2) yX5_cover cX5_cover 4 (some .int) shX [.ref 0, .int x, .int w] z (fun v z' => v = sCover r x w ∧ KU U0 z z') := by
  refine XM.of (by decide) (Nat.le_of_ble_eq_true rfl) (fun xp xe xs xm xar xbl xme xc xD xcs xad xAA xCC xhr => ?_)
  generalize xhQ : MQ xbl _ xar xs 0 0 xAA = xQ
  show ww xp l xe (xRm (d + 2)) xs xm xar xbl xme xc 4 xD xcs xad shX xAA xQ 0 [(0, .ref 0), (1, .int x), (2, .int w)] [] z
  have hb := hw.1
  have h74 : r 7 4 ≤ 4 := hw.2.2.2.2.2.2.1
  refine ww_blk xCC okX5_cover 0 3 (ps := []) (pc' := 5) (lv' := [(0, .ref 0), (1, .int x), (2, .int w)]) (st' := [.int 255, .int 0, .int x]) (z' := z) rfl trivial ?_
  refine ww_callSNz xCC okX5_cover 3 (ix := 52) (t_X5_within l d x 0 255 _) (by omega) (by decide) xyX5_within xiX5_within (Or.inl (lw_gt_of (List.mem_of_getElem? (i := 327) (by decide +kernel)) rfl)) rfl (rest := []) rfl (Nat.le_of_ble_eq_true rfl) rfl (fun z1 h2 => ?_) (fun z1 h2 => ?_)
  · skip
    have h2 : 0 ≤ x.toInt ∧ x.toInt ≤ 255 := h2
    obtain ⟨a, ha, rfl⟩ := sNN (x := x) (n := 256) (by omega) (by omega)
    refine ww_br xCC okX5_cover 4 (P := 1 = 0) (t1 := 20) (t2 := 11) (r := []) rfl (fun q => absurd q (by decide)) (fun _ => ?_)
    refine ww_blk xCC okX5_cover 5 3 (ps := []) (pc' := 14) (lv' := [(0, .ref 0), (1, .int (nI a)), (2, .int w)]) (st' := [.int 3, .int 0, .int w]) (z' := z) rfl trivial ?_
    refine ww_callSNz xCC okX5_cover 8 (ix := 52) (t_X5_within l d w 0 3 _) (by omega) (by decide) xyX5_within xiX5_within (Or.inl (lw_gt_of (List.mem_of_getElem? (i := 327) (by decide +kernel)) rfl)) rfl (rest := []) rfl (Nat.le_of_ble_eq_true rfl) rfl (fun z4 h5 => ?_) (fun z4 h5 => ?_)
    · skip
      have h5 : 0 ≤ w.toInt ∧ w.toInt ≤ 3 := h5
      obtain ⟨u, hu, rfl⟩ := sNN (x := w) (n := 4) (by omega) (by omega)
      refine ww_br xCC okX5_cover 9 (P := 1 = 0) (t1 := 20) (t2 := 23) (r := []) rfl (fun q => absurd q (by decide)) (fun _ => ?_)
      refine ww_blk xCC okX5_cover 12 5 (ps := []) (pc' := 30) (lv' := [(0, .ref 0), (1, .int (nI a)), (2, .int (nI u))]) (st' := [.int 2, .int (nI u), .int (nI a), .ref 19]) (z' := z) rfl trivial ?_
      refine ww_br xCC okX5_cover 17 (P := 2 ≤ (nI u)) (t1 := 37) (t2 := 33) (r := [.int (nI a), .ref 19]) rfl (fun c7 => ?_) (fun c7 => ?_)
      · skip
        replace c7 : 2 ≤ u := (sLE (a := 2) (b := u) (by omega) (by omega)).mp c7
        refine ww_blk xCC okX5_cover 20 1 (ps := []) (pc' := 38) (lv' := [(0, .ref 0), (1, .int (nI a)), (2, .int (nI u))]) (st' := [.int 0, .int (nI a), .ref 19]) (z' := z) rfl trivial ?_
        refine ww_callVEi xCC okX5_cover 21 (ix := 159) (t_X0_leastCover l d a 0 (xPull esN z) r cnt (RX_pull (by decide) hr) hw (by decide)) (by omega) (by decide) xyX0_leastCover xiX0_leastCover (Or.inr (List.mem_of_getElem? (i := 628) (by decide +kernel))) (by decide +kernel) (by decide) (fun q => by cases q) (q0 := 19) rfl rfl rfl rfl (rest := []) rfl (Nat.le_of_ble_eq_true rfl) rfl (fun vcC zcC hcC => ?_)
        have hkC := KU_esN_EQ (rw := xHasRaw shR) hcC.2
        obtain ⟨zC, hzC⟩ : ∃ y, y = xBack esN (xHasRaw shR) z zcC := ⟨_, rfl⟩
        rw [← hzC] at hkC ⊢
        rw [hcC.1]
        have hrC := RX_U hkC (by decide) hr
        generalize hf0 : sCv r a (decide (0 = 1)) 1024 = fl
        obtain ⟨f, le⟩ := fl
        have hf : sCv r a (decide (u < 2)) 1024 = (f, le) := by rw [show decide (u < 2) = decide (0 = 1) by simp; omega]; exact hf0
        refine ww_blk xCC okX5_cover 22 3 (ps := []) (pc' := 44) (lv' := [(3, .int (cI f)), (0, .ref 0), (1, .int (nI a)), (2, .int (nI u))]) (st' := [.int (-1), .int (cI f)]) (z' := zC) rfl trivial ?_
        refine ww_br xCC okX5_cover 25 (P := (cI f) = (-1)) (t1 := 47) (t2 := 49) (r := []) rfl (fun c9 => ?_) (fun c9 => ?_)
        · skip
          have hf9 : f = 0 := cI_m (by have := sCv_le hf0; omega) c9
          refine ww_blk xCC okX5_cover 26 1 (ps := []) (pc' := 48) (lv' := [(3, .int (cI f)), (0, .ref 0), (1, .int (nI a)), (2, .int (nI u))]) (st' := [.int (-1)]) (z' := zC) rfl trivial ?_
          subst xhQ
          exact ww_iret xCC okX5_cover 27 xhr rfl rfl ⟨_, rfl, ⟨(by rw [sCover_y (by omega) (by omega) hf, if_pos (Or.inl hf9)]; rw [hf9]; rfl), hkC⟩⟩
        · skip
          have hf9 : ¬ f = 0 := cI_nm c9
          obtain ⟨m, rfl⟩ : ∃ m, f = m + 1 := ⟨f - 1, by omega⟩
          have hmm := sCv_m hf
          rw [← cI_s m]
          refine ww_blk xCC okX5_cover 28 1 (ps := []) (pc' := 50) (lv' := [(3, .int (nI m)), (0, .ref 0), (1, .int (nI a)), (2, .int (nI u))]) (st' := [.int (nI u)]) (z' := zC) rfl trivial ?_
          refine ww_sw xCC okX5_cover 29 (x := (nI u)) (L := [(1, 76), (3, 85)]) (P := ∀ q ∈ [((1 : Int), (26 : Int)), ((3 : Int), (35 : Int))], (nI u).toInt ≠ q.1) (t0 := 90) (r := []) rfl (fun c10 => ?_) (And.intro (fun c10 => ?_) ((fun c10 => ?_)))
          · skip
            refine ww_blk xCC okX5_cover 38 1 (ps := []) (pc' := 91) (lv' := [(3, .int (nI m)), (0, .ref 0), (1, .int (nI a)), (2, .int (nI u))]) (st' := [.int (nI m)]) (z' := zC) rfl trivial ?_
            subst xhQ
            exact ww_iret xCC okX5_cover 39 xhr rfl rfl ⟨_, rfl, ⟨(by have q1 := c10 (1, 26) (by simp); have q3 := c10 (3, 35) (by simp); rw [sTI (k := u) (by omega)] at q1 q3; simp at q1 q3; rw [sCover_y (by omega) (by omega) hf, if_pos (by omega)]; rfl), hkC⟩⟩
          · have c10 : (nI u) = 1 := c10
            replace c10 : u = 1 := (sEQ (a := u) (b := 1) (by omega) (by omega)).mp c10
            show ww xp l xe (xRm (d + 2)) xs xm xar xbl xme xc 4 xD xcs xad shX xAA xQ 76 [(3, .int (nI m)), (0, .ref 0), (1, .int (nI a)), (2, .int (nI u))] [] zC
            refine ww_blk xCC okX5_cover 30 3 (ps := []) (pc' := 81) (lv' := [(3, .int (nI m)), (0, .ref 0), (1, .int (nI a)), (2, .int (nI u))]) (st' := [.int (nI m), .ref 19]) (z' := zC) rfl trivial ?_
            refine ww_callVEi xCC okX5_cover 33 (ix := 163) (t_X0_harmOf l d m (xPull esN zC) r (RX_pull (by decide) hrC) (by omega)) (by omega) (by decide) xyX0_harmOf xiX0_harmOf (Or.inr (List.mem_of_getElem? (i := 640) (by decide +kernel))) (by decide +kernel) (by decide) (fun q => by cases q) (q0 := 19) rfl rfl rfl rfl (rest := []) rfl (Nat.le_of_ble_eq_true rfl) rfl (fun vcH zcH hcH => ?_)
            have hkH := KU_esN_EQ (rw := xHasRaw shR) hcH.2
            obtain ⟨zH, hzH⟩ : ∃ y, y = xBack esN (xHasRaw shR) zC zcH := ⟨_, rfl⟩
            rw [← hzH] at hkH ⊢
            rw [hcH.1]
            subst xhQ
            exact ww_iret xCC okX5_cover 34 xhr rfl rfl ⟨_, rfl, ⟨(by rw [sCover_y (by omega) (by omega) hf, if_neg (by omega), sCv_1 hw hf (by omega)]), KU_tr hkC hkH⟩⟩
          · have c10 : (nI u) = 3 := c10
            replace c10 : u = 3 := (sEQ (a := u) (b := 3) (by omega) (by omega)).mp c10
            show ww xp l xe (xRm (d + 2)) xs xm xar xbl xme xc 4 xD xcs xad shX xAA xQ 85 [(3, .int (nI m)), (0, .ref 0), (1, .int (nI a)), (2, .int (nI u))] [] zC
            refine ww_blk xCC okX5_cover 35 1 (ps := []) (pc' := 86) (lv' := [(3, .int (nI m)), (0, .ref 0), (1, .int (nI a)), (2, .int (nI u))]) (st' := [.int (nI m)]) (z' := zC) rfl trivial ?_
            refine ww_callSNi xCC okX5_cover 36 (ix := 166) (t_J6_bitCount_0f7a4 l d m (by omega) _) (by omega) (by decide) xyJ6_bitCount_0f7a4 xiJ6_bitCount_0f7a4 (Or.inl (lw_gt_of (List.mem_of_getElem? (i := 641) (by decide +kernel)) rfl)) rfl (rest := []) rfl (Nat.le_of_ble_eq_true rfl) rfl (fun v14 z12 h13 => ?_)
            rw [h13]
            subst xhQ
            exact ww_iret xCC okX5_cover 37 xhr rfl rfl ⟨_, rfl, ⟨(by rw [sCover_y (by omega) (by omega) hf, if_neg (by omega), sCv_3 hw hf (by omega)]), hkC⟩⟩
      · skip
        replace c7 : ¬ 2 ≤ u := fun q => c7 ((sLE (a := 2) (b := u) (by omega) (by omega)).mpr q)
        refine ww_blk xCC okX5_cover 18 2 (ps := []) (pc' := 38) (lv' := [(0, .ref 0), (1, .int (nI a)), (2, .int (nI u))]) (st' := [.int 1, .int (nI a), .ref 19]) (z' := z) rfl trivial ?_
        refine ww_callVEi xCC okX5_cover 21 (ix := 159) (t_X0_leastCover l d a 1 (xPull esN z) r cnt (RX_pull (by decide) hr) hw (by decide)) (by omega) (by decide) xyX0_leastCover xiX0_leastCover (Or.inr (List.mem_of_getElem? (i := 628) (by decide +kernel))) (by decide +kernel) (by decide) (fun q => by cases q) (q0 := 19) rfl rfl rfl rfl (rest := []) rfl (Nat.le_of_ble_eq_true rfl) rfl (fun vcC zcC hcC => ?_)
        have hkC := KU_esN_EQ (rw := xHasRaw shR) hcC.2
        obtain ⟨zC, hzC⟩ : ∃ y, y = xBack esN (xHasRaw shR) z zcC := ⟨_, rfl⟩
        rw [← hzC] at hkC ⊢
        rw [hcC.1]
        have hrC := RX_U hkC (by decide) hr
        generalize hf0 : sCv r a (decide (1 = 1)) 1024 = fl
        obtain ⟨f, le⟩ := fl
        have hf : sCv r a (decide (u < 2)) 1024 = (f, le) := by rw [show decide (u < 2) = decide (1 = 1) by simp; omega]; exact hf0
        refine ww_blk xCC okX5_cover 22 3 (ps := []) (pc' := 44) (lv' := [(3, .int (cI f)), (0, .ref 0), (1, .int (nI a)), (2, .int (nI u))]) (st' := [.int (-1), .int (cI f)]) (z' := zC) rfl trivial ?_
        refine ww_br xCC okX5_cover 25 (P := (cI f) = (-1)) (t1 := 47) (t2 := 49) (r := []) rfl (fun c16 => ?_) (fun c16 => ?_)
        · skip
          have hf9 : f = 0 := cI_m (by have := sCv_le hf0; omega) c16
          refine ww_blk xCC okX5_cover 26 1 (ps := []) (pc' := 48) (lv' := [(3, .int (cI f)), (0, .ref 0), (1, .int (nI a)), (2, .int (nI u))]) (st' := [.int (-1)]) (z' := zC) rfl trivial ?_
          subst xhQ
          exact ww_iret xCC okX5_cover 27 xhr rfl rfl ⟨_, rfl, ⟨(by rw [sCover_y (by omega) (by omega) hf, if_pos (Or.inl hf9)]; rw [hf9]; rfl), hkC⟩⟩
        · skip
          have hf9 : ¬ f = 0 := cI_nm c16
          obtain ⟨m, rfl⟩ : ∃ m, f = m + 1 := ⟨f - 1, by omega⟩
          have hmm := sCv_m hf
          rw [← cI_s m]
          refine ww_blk xCC okX5_cover 28 1 (ps := []) (pc' := 50) (lv' := [(3, .int (nI m)), (0, .ref 0), (1, .int (nI a)), (2, .int (nI u))]) (st' := [.int (nI u)]) (z' := zC) rfl trivial ?_
          refine ww_sw xCC okX5_cover 29 (x := (nI u)) (L := [(1, 76), (3, 85)]) (P := ∀ q ∈ [((1 : Int), (26 : Int)), ((3 : Int), (35 : Int))], (nI u).toInt ≠ q.1) (t0 := 90) (r := []) rfl (fun c17 => ?_) (And.intro (fun c17 => ?_) ((fun c17 => ?_)))
          · skip
            refine ww_blk xCC okX5_cover 38 1 (ps := []) (pc' := 91) (lv' := [(3, .int (nI m)), (0, .ref 0), (1, .int (nI a)), (2, .int (nI u))]) (st' := [.int (nI m)]) (z' := zC) rfl trivial ?_
            subst xhQ
            exact ww_iret xCC okX5_cover 39 xhr rfl rfl ⟨_, rfl, ⟨(by have q1 := c17 (1, 26) (by simp); have q3 := c17 (3, 35) (by simp); rw [sTI (k := u) (by omega)] at q1 q3; simp at q1 q3; rw [sCover_y (by omega) (by omega) hf, if_pos (by omega)]; rfl), hkC⟩⟩
          · have c17 : (nI u) = 1 := c17
            replace c17 : u = 1 := (sEQ (a := u) (b := 1) (by omega) (by omega)).mp c17
            show ww xp l xe (xRm (d + 2)) xs xm xar xbl xme xc 4 xD xcs xad shX xAA xQ 76 [(3, .int (nI m)), (0, .ref 0), (1, .int (nI a)), (2, .int (nI u))] [] zC
            refine ww_blk xCC okX5_cover 30 3 (ps := []) (pc' := 81) (lv' := [(3, .int (nI m)), (0, .ref 0), (1, .int (nI a)), (2, .int (nI u))]) (st' := [.int (nI m), .ref 19]) (z' := zC) rfl trivial ?_
            refine ww_callVEi xCC okX5_cover 33 (ix := 163) (t_X0_harmOf l d m (xPull esN zC) r (RX_pull (by decide) hrC) (by omega)) (by omega) (by decide) xyX0_harmOf xiX0_harmOf (Or.inr (List.mem_of_getElem? (i := 640) (by decide +kernel))) (by decide +kernel) (by decide) (fun q => by cases q) (q0 := 19) rfl rfl rfl rfl (rest := []) rfl (Nat.le_of_ble_eq_true rfl) rfl (fun vcH zcH hcH => ?_)
            have hkH := KU_esN_EQ (rw := xHasRaw shR) hcH.2
            obtain ⟨zH, hzH⟩ : ∃ y, y = xBack esN (xHasRaw shR) zC zcH := ⟨_, rfl⟩
            rw [← hzH] at hkH ⊢
            rw [hcH.1]
            subst xhQ
            exact ww_iret xCC okX5_cover 34 xhr rfl rfl ⟨_, rfl, ⟨(by rw [sCover_y (by omega) (by omega) hf, if_neg (by omega), sCv_1 hw hf (by omega)]), KU_tr hkC hkH⟩⟩
          · have c17 : (nI u) = 3 := c17
            replace c17 : u = 3 := (sEQ (a := u) (b := 3) (by omega) (by omega)).mp c17
            show ww xp l xe (xRm (d + 2)) xs xm xar xbl xme xc 4 xD xcs xad shX xAA xQ 85 [(3, .int (nI m)), (0, .ref 0), (1, .int (nI a)), (2, .int (nI u))] [] zC
            refine ww_blk xCC okX5_cover 35 1 (ps := []) (pc' := 86) (lv' := [(3, .int (nI m)), (0, .ref 0), (1, .int (nI a)), (2, .int (nI u))]) (st' := [.int (nI m)]) (z' := zC) rfl trivial ?_
            refine ww_callSNi xCC okX5_cover 36 (ix := 166) (t_J6_bitCount_0f7a4 l d m (by omega) _) (by omega) (by decide) xyJ6_bitCount_0f7a4 xiJ6_bitCount_0f7a4 (Or.inl (lw_gt_of (List.mem_of_getElem? (i := 641) (by decide +kernel)) rfl)) rfl (rest := []) rfl (Nat.le_of_ble_eq_true rfl) rfl (fun v21 z19 h20 => ?_)
            rw [h20]
            subst xhQ
            exact ww_iret xCC okX5_cover 37 xhr rfl rfl ⟨_, rfl, ⟨(by rw [sCover_y (by omega) (by omega) hf, if_neg (by omega), sCv_3 hw hf (by omega)]), hkC⟩⟩
    · skip
      have h5 : ¬ (0 ≤ w.toInt ∧ w.toInt ≤ 3) := h5
      refine ww_br xCC okX5_cover 9 (P := 0 = 0) (t1 := 20) (t2 := 23) (r := []) rfl (fun _ => ?_) (fun q => absurd (by decide) q)
      refine ww_blk xCC okX5_cover 10 1 (ps := []) (pc' := 22) (lv' := [(0, .ref 0), (1, .int (nI a)), (2, .int w)]) (st' := [.int (-2)]) (z' := z) rfl trivial ?_
      subst xhQ
      exact ww_iret xCC okX5_cover 11 xhr rfl rfl ⟨_, rfl, ⟨(by unfold sCover; rw [if_neg (by omega)]), KU_rf z⟩⟩
  · skip
    have h2 : ¬ (0 ≤ x.toInt ∧ x.toInt ≤ 255) := h2
    refine ww_br xCC okX5_cover 4 (P := 0 = 0) (t1 := 20) (t2 := 11) (r := []) rfl (fun _ => ?_) (fun q => absurd (by decide) q)
    refine ww_blk xCC okX5_cover 10 1 (ps := []) (pc' := 22) (lv' := [(0, .ref 0), (1, .int x), (2, .int w)]) (st' := [.int (-2)]) (z' := z) rfl trivial ?_
    subst xhQ
    exact ww_iret xCC okX5_cover 11 xhr rfl rfl ⟨_, rfl, ⟨(by unfold sCover; rw [if_neg (by omega)]), KU_rf z⟩⟩

set_option maxHeartbeats 4000000 in
set_option maxRecDepth 20000 in
theorem t_X5_rota (l : Launch) (d : Nat) (w : Int32) (z : xMem) (r : sR) (cnt : Nat) (tc : Nat → sTc) (hr : RX z 19 r) (hw : sW r cnt) (ht : TX z 1 cnt tc) : XMi l (d + 7) yX5_rota cX5_rota 2 (some .int) shX [.ref 0, .int w] z (fun v z' => v = sRota tc r w ∧ KU UB z z') := by
  refine XM.of (by decide) (Nat.le_of_ble_eq_true rfl) (fun xp xe xs xm xar xbl xme xc xD xcs xad xAA xCC xhr => ?_)
  generalize xhQ : MQ xbl _ xar xs 0 0 xAA = xQ
  show ww xp l xe (xRm (d + 7)) xs xm xar xbl xme xc 2 xD xcs xad shX xAA xQ 0 [(0, .ref 0), (1, .int w)] [] z
  have hb := hw.1
  have h74 : r 7 4 ≤ 4 := hw.2.2.2.2.2.2.1
  refine ww_blk xCC okX5_rota 0 3 (ps := []) (pc' := 3) (lv' := [(0, .ref 0), (1, .int w)]) (st' := [.int 2, .int 0, .int w]) (z' := z) rfl trivial ?_
  refine ww_callSNz xCC okX5_rota 3 (ix := 52) (t_X5_within l d w 0 2 _) (by omega) (by decide) xyX5_within xiX5_within (Or.inl (lw_gt_of (List.mem_of_getElem? (i := 327) (by decide +kernel)) rfl)) rfl (rest := []) rfl (Nat.le_of_ble_eq_true rfl) rfl (fun z1 h2 => ?_) (fun z1 h2 => ?_)
  · skip
    have h2 : 0 ≤ w.toInt ∧ w.toInt ≤ 2 := h2
    obtain ⟨u, hu, rfl⟩ := sNN (x := w) (n := 3) (by omega) (by omega)
    refine ww_br xCC okX5_rota 4 (P := 1 = 0) (t1 := 9) (t2 := 12) (r := []) rfl (fun q => absurd q (by decide)) (fun _ => ?_)
    refine ww_blk xCC okX5_rota 7 4 (ps := []) (pc' := 20) (lv' := [(0, .ref 0), (1, .int (nI u))]) (st' := [.ref 19, .ref 43]) (z' := z) rfl trivial ?_
    refine ww_callVEv xCC okX5_rota 11 (ix := 171) (t_X1_seek l d  (xPull esNo z) r cnt tc (RX_pull (by decide) hr) hw (TX_pull (by decide) ht)) (by omega) (by decide) xyX1_seek xiX1_seek (Or.inr (List.mem_of_getElem? (i := 646) (by decide +kernel))) (by decide +kernel) (by decide) (fun q => by cases q) (q0 := 43) rfl rfl rfl rfl (rest := []) rfl (Nat.le_of_ble_eq_true rfl) rfl (fun zcC hcC => ?_)
    have hkC := KU_esNo_SK (rw := xHasRaw shRRo) hcC.2
    obtain ⟨zC, hzC⟩ : ∃ y, y = xBack esNo (xHasRaw shRRo) z zcC := ⟨_, rfl⟩
    rw [← hzC] at hkC ⊢
    have hF := hcC.1.2.2.resolve_left (sRB_ne (tc := tc) (r := r))
    have hE4 : zC.1 43 4 = nI (sRB tc r).1 := by rw [hzC]; exact (congrFun (xBack_at (show xIx esNo 43 0 = some 24 by decide)) 4).trans hF.1
    have hE5 : zC.1 43 5 = cI (sRB tc r).2.1 := by rw [hzC]; exact (congrFun (xBack_at (show xIx esNo 43 0 = some 24 by decide)) 5).trans hcC.1.1
    have hE6 : zC.1 43 6 = nI (sRB tc r).2.2 := by rw [hzC]; exact (congrFun (xBack_at (show xIx esNo 43 0 = some 24 by decide)) 6).trans hF.2.1
    refine ww_blk xCC okX5_rota 12 1 (ps := []) (pc' := 24) (lv' := [(0, .ref 0), (1, .int (nI u))]) (st' := [.int (nI u)]) (z' := zC) rfl trivial ?_
    refine ww_sw xCC okX5_rota 13 (x := (nI u)) (L := [(0, 52), (1, 60)]) (P := ∀ q ∈ [((0 : Int), (28 : Int)), ((1 : Int), (36 : Int))], (nI u).toInt ≠ q.1) (t0 := 68) (r := []) rfl (fun c6 => ?_) (And.intro (fun c6 => ?_) ((fun c6 => ?_)))
    · skip
      refine ww_blk xCC okX5_rota 22 3 (ps := []) (pc' := 75) (lv' := [(0, .ref 0), (1, .int (nI u))]) (st' := [.int (zC.1 43 6)]) (z' := zC) rfl trivial ?_
      rw [hE6]
      subst xhQ
      exact ww_iret xCC okX5_rota 25 xhr rfl rfl ⟨_, rfl, ⟨(by have q0 := c6 (0, 28) (by simp); have q1 := c6 (1, 36) (by simp); rw [sTI (k := u) (by omega)] at q0 q1; simp at q0 q1; rw [sRota_y (by omega), if_neg (by omega), if_neg (by omega)]), hkC⟩⟩
    · have c6 : (nI u) = 0 := c6
      replace c6 : u = 0 := (sEQ (a := u) (b := 0) (by omega) (by omega)).mp c6
      show ww xp l xe (xRm (d + 7)) xs xm xar xbl xme xc 2 xD xcs xad shX xAA xQ 52 [(0, .ref 0), (1, .int (nI u))] [] zC
      refine ww_blk xCC okX5_rota 14 3 (ps := []) (pc' := 59) (lv' := [(0, .ref 0), (1, .int (nI u))]) (st' := [.int (zC.1 43 4)]) (z' := zC) rfl trivial ?_
      rw [hE4]
      subst xhQ
      exact ww_iret xCC okX5_rota 17 xhr rfl rfl ⟨_, rfl, ⟨(by rw [sRota_y (by omega), if_pos (by omega)]), hkC⟩⟩
    · have c6 : (nI u) = 1 := c6
      replace c6 : u = 1 := (sEQ (a := u) (b := 1) (by omega) (by omega)).mp c6
      show ww xp l xe (xRm (d + 7)) xs xm xar xbl xme xc 2 xD xcs xad shX xAA xQ 60 [(0, .ref 0), (1, .int (nI u))] [] zC
      refine ww_blk xCC okX5_rota 18 3 (ps := []) (pc' := 67) (lv' := [(0, .ref 0), (1, .int (nI u))]) (st' := [.int (zC.1 43 5)]) (z' := zC) rfl trivial ?_
      rw [hE5]
      subst xhQ
      exact ww_iret xCC okX5_rota 21 xhr rfl rfl ⟨_, rfl, ⟨(by rw [sRota_y (by omega), if_neg (by omega), if_pos (by omega)]), hkC⟩⟩
  · skip
    have h2 : ¬ (0 ≤ w.toInt ∧ w.toInt ≤ 2) := h2
    refine ww_br xCC okX5_rota 4 (P := 0 = 0) (t1 := 9) (t2 := 12) (r := []) rfl (fun _ => ?_) (fun q => absurd (by decide) q)
    refine ww_blk xCC okX5_rota 5 1 (ps := []) (pc' := 11) (lv' := [(0, .ref 0), (1, .int w)]) (st' := [.int (-2)]) (z' := z) rfl trivial ?_
    subst xhQ
    exact ww_iret xCC okX5_rota 6 xhr rfl rfl ⟨_, rfl, ⟨(by unfold sRota; rw [if_neg (by omega)]), KU_rf z⟩⟩

set_option maxHeartbeats 4000000 in
set_option maxRecDepth 20000 in
theorem t_X5_taken (l : Launch) (d : Nat) (x y : Int32) (z : xMem) (r : sR) (cnt : Nat) (hr : RX z 19 r) (hw : sW r cnt) : XMi l (d + 2) yX5_taken cX5_taken 5 (some .int) shX [.ref 0, .int x, .int y] z (fun v z' => v = sTaken r x y ∧ z' = z) := by
  refine XM.of (by decide) (Nat.le_of_ble_eq_true rfl) (fun xp xe xs xm xar xbl xme xc xD xcs xad xAA xCC xhr => ?_)
  generalize xhQ : MQ xbl _ xar xs 0 0 xAA = xQ
  show ww xp l xe (xRm (d + 2)) xs xm xar xbl xme xc 5 xD xcs xad shX xAA xQ 0 [(0, .ref 0), (1, .int x), (2, .int y)] [] z
  have hb := hw.1
  have h74 : r 7 4 ≤ 4 := hw.2.2.2.2.2.2.1
  refine ww_blk xCC okX5_taken 0 3 (ps := []) (pc' := 3) (lv' := [(0, .ref 0), (1, .int x), (2, .int y)]) (st' := [.int 5, .int 0, .int y]) (z' := z) rfl trivial ?_
  refine ww_callSNz xCC okX5_taken 3 (ix := 52) (t_X5_within l d y 0 5 _) (by omega) (by decide) xyX5_within xiX5_within (Or.inl (lw_gt_of (List.mem_of_getElem? (i := 327) (by decide +kernel)) rfl)) rfl (rest := []) rfl (Nat.le_of_ble_eq_true rfl) rfl (fun z1 h2 => ?_) (fun z1 h2 => ?_)
  · skip
    have h2 : 0 ≤ y.toInt ∧ y.toInt ≤ 5 := h2
    obtain ⟨k, hk, rfl⟩ := sNN (x := y) (n := 6) (by omega) (by omega)
    refine ww_br xCC okX5_taken 4 (P := 1 = 0) (t1 := 9) (t2 := 12) (r := []) rfl (fun q => absurd q (by decide)) (fun _ => ?_)
    refine ww_blk xCC okX5_taken 7 2 (ps := []) (pc' := 14) (lv' := [(0, .ref 0), (1, .int x), (2, .int (nI k))]) (st' := [.int x, .ref 0]) (z' := z) rfl trivial ?_
    refine ww_callVIz xCC okX5_taken 9 (ix := 82) (t_X5_isOne l d x z (r 7 4) hr.2.2.2.2.2.2.2.2.2.2.2.2.1 h74) (by omega) (by decide) xyX5_isOne xiX5_isOne (Or.inl (lw_gt_of (List.mem_of_getElem? (i := 340) (by decide +kernel)) rfl)) rfl rfl rfl (rest := []) rfl (Nat.le_of_ble_eq_true rfl) rfl (fun zO hO => ?_) (fun zO hO => ?_)
    · skip
      rw [hO.2]
      obtain ⟨⟨hOa, hOb⟩, -⟩ := hO
      obtain ⟨p, hp, rfl⟩ := sNN (x := x) (n := r 7 4) hOa (by omega)
      have h3 := (hb p).2.2.2.1
      refine ww_br xCC okX5_taken 10 (P := 1 = 0) (t1 := 20) (t2 := 23) (r := []) rfl (fun q => absurd q (by decide)) (fun _ => ?_)
      refine ww_blk xCC okX5_taken 13 8 (ps := [vp_in (nI p) 4]) (pc' := 36) (lv' := [(4, .int 0), (3, .int (z.1 23 (nI p).toNatClampNeg)), (0, .ref 0), (1, .int (nI p)), (2, .int (nI k))]) (st' := []) (z' := z) rfl (vp_in_nI (by omega) (by decide)) ?_
      rw [sCL (n := p) (by omega)]
      rw [show z.1 23 p = nI (r 3 p) from hr.2.2.2.1 p]
      have L36 : ∀ (n36 : Nat) (i : Nat) (a : Nat), 6 - i < n36 → (sUx (r 3 p + 1) k = sUx a k) → (a < 7) → (sUm a + i ≤ 5) → ww xp l xe (xRm (d + 2)) xs xm xar xbl xme xc 5 xD xcs xad shX xAA xQ 36 [(4, .int (nI i)), (3, .int (cI a)), (0, .ref 0), (1, .int (nI p)), (2, .int (nI k))] [] z := by
        intro n36
        induction n36 with
        | zero =>
          intro i a hmu36
          exact absurd hmu36 (Nat.not_lt_zero _)
        | succ n36 ih36 =>
          intro i a hmu36 e36_0 e36_1 e36_2
          refine ww_blk xCC okX5_taken 21 2 (ps := []) (pc' := 40) (lv' := [(4, .int (nI i)), (3, .int (cI a)), (0, .ref 0), (1, .int (nI p)), (2, .int (nI k))]) (st' := [.int 6, .int (nI i)]) (z' := z) rfl trivial ?_
          refine ww_br xCC okX5_taken 23 (P := 6 ≤ (nI i)) (t1 := 65) (t2 := 43) (r := []) rfl (fun c5 => ?_) (fun c5 => ?_)
          · skip
            replace c5 : 6 ≤ i := (sLE (a := 6) (b := i) (by omega) (by omega)).mp c5
            refine ww_blk xCC okX5_taken 36 2 (ps := []) (pc' := 67) (lv' := [(4, .int (nI i)), (3, .int (cI a)), (0, .ref 0), (1, .int (nI p)), (2, .int (nI k))]) (st' := [.int (nI k), .int (cI a)]) (z' := z) rfl trivial ?_
            refine ww_br xCC okX5_taken 38 (P := (cI a) = (nI k)) (t1 := 70) (t2 := 82) (r := []) rfl (fun c6 => ?_) (fun c6 => ?_)
            · skip
              have hae := (cI_eq (m := a) (n := k) (by omega) (by omega)).mp c6.symm
              refine ww_blk xCC okX5_taken 39 6 (ps := [vp_in (nI p) 4]) (pc' := 84) (lv' := [(4, .int (nI i)), (3, .int (cI a)), (0, .ref 0), (1, .int (nI p)), (2, .int (nI k))]) (st' := [.int (z.1 24 (nI p).toNatClampNeg)]) (z' := z) rfl (vp_in_nI (by omega) (by decide)) ?_
              rw [sCL (n := p) (by omega)]
              rw [show z.1 24 p = nI (r 4 p) from hr.2.2.2.2.1 p]
              subst xhQ
              exact ww_iret xCC okX5_taken 46 xhr rfl rfl ⟨_, rfl, ⟨(by rw [sTaken_y hp (by omega) h74, if_pos (sUx_y hae e36_0)]), rfl⟩⟩
            · skip
              have hae := fun q => c6 ((cI_eq (m := a) (n := k) (by omega) (by omega)).mpr q).symm
              refine ww_blk xCC okX5_taken 45 1 (ps := []) (pc' := 84) (lv' := [(4, .int (nI i)), (3, .int (cI a)), (0, .ref 0), (1, .int (nI p)), (2, .int (nI k))]) (st' := [.int (-13)]) (z' := z) rfl trivial ?_
              subst xhQ
              exact ww_iret xCC okX5_taken 46 xhr rfl rfl ⟨_, rfl, ⟨(by rw [sTaken_y hp (by omega) h74, if_neg (sUx_n (by first | exact Or.inl ha0 | exact absurd hak hae | (exfalso; omega)) hae e36_0)]), rfl⟩⟩
          · skip
            replace c5 : ¬ 6 ≤ i := fun q => c5 ((sLE (a := 6) (b := i) (by omega) (by omega)).mpr q)
            refine ww_blk xCC okX5_taken 24 2 (ps := []) (pc' := 45) (lv' := [(4, .int (nI i)), (3, .int (cI a)), (0, .ref 0), (1, .int (nI p)), (2, .int (nI k))]) (st' := [.int (nI k), .int (cI a)]) (z' := z) rfl trivial ?_
            refine ww_br xCC okX5_taken 26 (P := (cI a) = (nI k)) (t1 := 65) (t2 := 48) (r := []) rfl (fun c7 => ?_) (fun c7 => ?_)
            · skip
              have hak := (cI_eq (m := a) (n := k) (by omega) (by omega)).mp c7.symm
              refine ww_blk xCC okX5_taken 36 2 (ps := []) (pc' := 67) (lv' := [(4, .int (nI i)), (3, .int (cI a)), (0, .ref 0), (1, .int (nI p)), (2, .int (nI k))]) (st' := [.int (nI k), .int (cI a)]) (z' := z) rfl trivial ?_
              refine ww_br xCC okX5_taken 38 (P := (cI a) = (nI k)) (t1 := 70) (t2 := 82) (r := []) rfl (fun c8 => ?_) (fun c8 => ?_)
              · skip
                have hae := (cI_eq (m := a) (n := k) (by omega) (by omega)).mp c8.symm
                refine ww_blk xCC okX5_taken 39 6 (ps := [vp_in (nI p) 4]) (pc' := 84) (lv' := [(4, .int (nI i)), (3, .int (cI a)), (0, .ref 0), (1, .int (nI p)), (2, .int (nI k))]) (st' := [.int (z.1 24 (nI p).toNatClampNeg)]) (z' := z) rfl (vp_in_nI (by omega) (by decide)) ?_
                rw [sCL (n := p) (by omega)]
                rw [show z.1 24 p = nI (r 4 p) from hr.2.2.2.2.1 p]
                subst xhQ
                exact ww_iret xCC okX5_taken 46 xhr rfl rfl ⟨_, rfl, ⟨(by rw [sTaken_y hp (by omega) h74, if_pos (sUx_y hae e36_0)]), rfl⟩⟩
              · skip
                have hae := fun q => c8 ((cI_eq (m := a) (n := k) (by omega) (by omega)).mpr q).symm
                refine ww_blk xCC okX5_taken 45 1 (ps := []) (pc' := 84) (lv' := [(4, .int (nI i)), (3, .int (cI a)), (0, .ref 0), (1, .int (nI p)), (2, .int (nI k))]) (st' := [.int (-13)]) (z' := z) rfl trivial ?_
                subst xhQ
                exact ww_iret xCC okX5_taken 46 xhr rfl rfl ⟨_, rfl, ⟨(by rw [sTaken_y hp (by omega) h74, if_neg (sUx_n (by first | exact Or.inl ha0 | exact absurd hak hae | (exfalso; omega)) hae e36_0)]), rfl⟩⟩
            · skip
              have hak := fun q => c7 ((cI_eq (m := a) (n := k) (by omega) (by omega)).mpr q).symm
              refine ww_blk xCC okX5_taken 27 2 (ps := []) (pc' := 50) (lv' := [(4, .int (nI i)), (3, .int (cI a)), (0, .ref 0), (1, .int (nI p)), (2, .int (nI k))]) (st' := [.int (-1), .int (cI a)]) (z' := z) rfl trivial ?_
              refine ww_br xCC okX5_taken 29 (P := (cI a) = (-1)) (t1 := 65) (t2 := 53) (r := []) rfl (fun c9 => ?_) (fun c9 => ?_)
              · skip
                have ha0 : a = 0 := cI_m (by omega) c9
                refine ww_blk xCC okX5_taken 36 2 (ps := []) (pc' := 67) (lv' := [(4, .int (nI i)), (3, .int (cI a)), (0, .ref 0), (1, .int (nI p)), (2, .int (nI k))]) (st' := [.int (nI k), .int (cI a)]) (z' := z) rfl trivial ?_
                refine ww_br xCC okX5_taken 38 (P := (cI a) = (nI k)) (t1 := 70) (t2 := 82) (r := []) rfl (fun c10 => ?_) (fun c10 => ?_)
                · skip
                  have hae := (cI_eq (m := a) (n := k) (by omega) (by omega)).mp c10.symm
                  refine ww_blk xCC okX5_taken 39 6 (ps := [vp_in (nI p) 4]) (pc' := 84) (lv' := [(4, .int (nI i)), (3, .int (cI a)), (0, .ref 0), (1, .int (nI p)), (2, .int (nI k))]) (st' := [.int (z.1 24 (nI p).toNatClampNeg)]) (z' := z) rfl (vp_in_nI (by omega) (by decide)) ?_
                  rw [sCL (n := p) (by omega)]
                  rw [show z.1 24 p = nI (r 4 p) from hr.2.2.2.2.1 p]
                  subst xhQ
                  exact ww_iret xCC okX5_taken 46 xhr rfl rfl ⟨_, rfl, ⟨(by rw [sTaken_y hp (by omega) h74, if_pos (sUx_y hae e36_0)]), rfl⟩⟩
                · skip
                  have hae := fun q => c10 ((cI_eq (m := a) (n := k) (by omega) (by omega)).mpr q).symm
                  refine ww_blk xCC okX5_taken 45 1 (ps := []) (pc' := 84) (lv' := [(4, .int (nI i)), (3, .int (cI a)), (0, .ref 0), (1, .int (nI p)), (2, .int (nI k))]) (st' := [.int (-13)]) (z' := z) rfl trivial ?_
                  subst xhQ
                  exact ww_iret xCC okX5_taken 46 xhr rfl rfl ⟨_, rfl, ⟨(by rw [sTaken_y hp (by omega) h74, if_neg (sUx_n (by first | exact Or.inl ha0 | exact absurd hak hae | (exfalso; omega)) hae e36_0)]), rfl⟩⟩
              · skip
                have ha0 : ¬ a = 0 := cI_nm c9
                obtain ⟨b, rfl⟩ : ∃ b, a = b + 1 := ⟨a - 1, by omega⟩
                rw [← cI_s b]
                refine ww_blk xCC okX5_taken 30 6 (ps := [vp_in (nI b) 6]) (pc' := 36) (lv' := [(4, .int ((nI i) + 1)), (3, .int (xTab 2 (nI b).toNatClampNeg)), (0, .ref 0), (1, .int (nI p)), (2, .int (nI k))]) (st' := []) (z' := z) rfl (vp_in_nI (by omega) (by decide)) ?_
                rw [show nI i + (1 : Int32) = nI (i + 1) from nI_add i 1]
                rw [sCL (n := b) (by omega)]
                exact ww_cut [0, 1, 2, 3, 4] (xlc rfl (xlc (congrArg Value.int (show (xTab 2 b : Int32) = cI (sOv b) from (xTab_pa b (by omega)))) (xlc rfl (xlc rfl (xlc rfl rfl))))) rfl rfl (ih36 (i + 1) (sOv b) (by omega) (e36_0.trans (sUx_s (b + 1) (by omega) k (by omega) (by omega) (by omega))) (sOv_lt b (by omega)) (by have := sUm_s (b + 1) (by omega) (by omega); rw [show b + 1 - 1 = b from rfl] at this; omega))
      exact ww_cut [0, 1, 2, 3, 4] (xlc (congrArg Value.int (show (0 : Int32) = nI 0 from rfl)) (xlc (congrArg Value.int (show (nI (r 3 p) : Int32) = cI (r 3 p + 1) from (cI_s _))) (xlc rfl (xlc rfl (xlc rfl rfl))))) rfl rfl (L36 (6 - 0 + 1) 0 (r 3 p + 1) (Nat.lt_succ_self _) (by unfold sUx; rfl) (by omega) (by have := sUm_le (r 3 p + 1); omega))
    · skip
      rw [hO.2]
      replace hO := hO.1
      refine ww_br xCC okX5_taken 10 (P := 0 = 0) (t1 := 20) (t2 := 23) (r := []) rfl (fun _ => ?_) (fun q => absurd (by decide) q)
      refine ww_blk xCC okX5_taken 11 1 (ps := []) (pc' := 22) (lv' := [(0, .ref 0), (1, .int x), (2, .int (nI k))]) (st' := [.int (-11)]) (z' := z) rfl trivial ?_
      subst xhQ
      exact ww_iret xCC okX5_taken 12 xhr rfl rfl ⟨_, rfl, ⟨(by unfold sTaken; rw [if_pos (by omega), if_neg (by omega)]), rfl⟩⟩
  · skip
    have h2 : ¬ (0 ≤ y.toInt ∧ y.toInt ≤ 5) := h2
    refine ww_br xCC okX5_taken 4 (P := 0 = 0) (t1 := 9) (t2 := 12) (r := []) rfl (fun _ => ?_) (fun q => absurd (by decide) q)
    refine ww_blk xCC okX5_taken 5 1 (ps := []) (pc' := 11) (lv' := [(0, .ref 0), (1, .int x), (2, .int y)]) (st' := [.int (-2)]) (z' := z) rfl trivial ?_
    subst xhQ
    exact ww_iret xCC okX5_taken 6 xhr rfl rfl ⟨_, rfl, ⟨(by unfold sTaken; rw [if_neg (by omega)]), rfl⟩⟩
