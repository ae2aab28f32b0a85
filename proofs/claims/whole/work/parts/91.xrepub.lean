/-! LawsLapse's republic -/
theorem hT_g {T : Nat → sSh} {s k n g : Nat} {it : Nat → Int32} (h1 : T s = (k + 1, n, it)) (hk : k ≤ 2) (hg : g < 3) : cI (T s).1 = nI g ↔ k = g := by
  have e1 : (T s).1 = k + 1 := by rw [h1]
  rw [e1, ← cI_s k]
  exact sEQ (by omega) (by omega)
set_option maxHeartbeats 4000000 in
set_option maxRecDepth 20000 in
theorem t_X5_republic (l : Launch) (d : Nat) (x y w v : Int32) (z : xMem) (r0 : sR) (T : Nat → sSh) (hr : RX z 19 r0) (h74 : r0 7 4 ≤ 4) (hT : SX z T) : XMi l (d + 2) yX5_republic cX5_republic 9 (some .int) shX [.ref 0, .int x, .int y, .int w, .int v] z (fun v9 z' => v9 = (sRep T r0 x y w v).1 ∧ RX z' 19 (sRep T r0 x y w v).2 ∧ KU UN z z') := by
  refine XM.of (by decide) (Nat.le_of_ble_eq_true rfl) (fun xp xe xs xm xar xbl xme xc xD xcs xad xAA xCC xhr => ?_)
  generalize xhQ : MQ xbl _ xar xs 0 0 xAA = xQ
  show ww xp l xe (xRm (d + 2)) xs xm xar xbl xme xc 9 xD xcs xad shX xAA xQ 0 [(0, .ref 0), (1, .int x), (2, .int y), (3, .int w), (4, .int v)] [] z
  refine ww_blk xCC okX5_republic 0 2 (ps := []) (pc' := 2) (lv' := [(0, .ref 0), (1, .int x), (2, .int y), (3, .int w), (4, .int v)]) (st' := [.int x, .ref 0]) (z' := z) rfl trivial ?_
  refine ww_callVI xCC okX5_republic 2 (ix := 192) (t_X5_sheetAt l d x z) (by omega) (by decide) xyX5_sheetAt xiX5_sheetAt (Or.inl (lw_gt_of (List.mem_of_getElem? (i := 692) (by decide +kernel)) rfl)) rfl rfl rfl (rest := []) rfl (Nat.le_of_ble_eq_true rfl) rfl (fun r9 z9 h9 => ?_)
  obtain ⟨hz9, hr9⟩ := h9
  rw [hz9]
  rcases hr9 with ⟨hx, hr9⟩ | ⟨hx, hr9⟩ | ⟨hx, hr9⟩ | ⟨hx, hr9⟩ | ⟨hx, hr9⟩
  · skip
    rw [hr9]
    show ww xp l xe (xRm (d + 2)) xs xm xar xbl xme xc 9 xD xcs xad shX xAA xQ 5 [(0, .ref 0), (1, .int x), (2, .int y), (3, .int w), (4, .int v)] [.null] z
    refine ww_blk xCC okX5_republic 3 3 (ps := []) (pc' := 31) (lv' := [(5, .null), (0, .ref 0), (1, .int x), (2, .int y), (3, .int w), (4, .int v)]) (st' := []) (z' := z) rfl trivial ?_
    refine ww_blk xCC okX5_republic 16 1 (ps := []) (pc' := 33) (lv' := [(5, .null), (0, .ref 0), (1, .int x), (2, .int y), (3, .int w), (4, .int v)]) (st' := [.int (-2)]) (z' := z) rfl trivial ?_
    subst xhQ
    exact ww_iret xCC okX5_republic 17 xhr rfl rfl ⟨_, rfl, (by rw [sRep_b (by omega)]; exact ⟨rfl, hr, KU_rf z⟩)⟩
  · skip
    rw [hr9]
    subst hx
    show ww xp l xe (xRm (d + 2)) xs xm xar xbl xme xc 9 xD xcs xad shX xAA xQ 5 [(0, .ref 0), (1, .int (nI 0)), (2, .int y), (3, .int w), (4, .int v)] [.ref 48] z
    refine ww_blk xCC okX5_republic 3 3 (ps := []) (pc' := 12) (lv' := [(5, .ref 48), (0, .ref 0), (1, .int (nI 0)), (2, .int y), (3, .int w), (4, .int v)]) (st' := []) (z' := z) rfl trivial ?_
    refine ww_blk xCC okX5_republic 6 3 (ps := []) (pc' := 15) (lv' := [(5, .ref 48), (0, .ref 0), (1, .int (nI 0)), (2, .int y), (3, .int w), (4, .int v)]) (st' := [.int 2, .int 0, .int y]) (z' := z) rfl trivial ?_
    refine ww_callSNz xCC okX5_republic 9 (ix := 52) (t_X5_within l d y 0 2 _) (by omega) (by decide) xyX5_within xiX5_within (Or.inl (lw_gt_of (List.mem_of_getElem? (i := 327) (by decide +kernel)) rfl)) rfl (rest := []) rfl (Nat.le_of_ble_eq_true rfl) rfl (fun z3 h4 => ?_) (fun z3 h4 => ?_)
    · skip
      have h4 : 0 ≤ y.toInt ∧ y.toInt ≤ 2 := h4
      obtain ⟨g, hg, rfl⟩ := sNN (x := y) (n := 3) (by omega) (by omega)
      refine ww_br xCC okX5_republic 10 (P := 1 = 0) (t1 := 31) (t2 := 21) (r := []) rfl (fun q => absurd q (by decide)) (fun _ => ?_)
      refine ww_blk xCC okX5_republic 11 3 (ps := []) (pc' := 25) (lv' := [(5, .ref 48), (0, .ref 0), (1, .int (nI 0)), (2, .int (nI g)), (3, .int w), (4, .int v)]) (st' := [.int 4, .int 0, .int v]) (z' := z) rfl trivial ?_
      refine ww_callSNz xCC okX5_republic 14 (ix := 52) (t_X5_within l d v 0 4 _) (by omega) (by decide) xyX5_within xiX5_within (Or.inl (lw_gt_of (List.mem_of_getElem? (i := 327) (by decide +kernel)) rfl)) rfl (rest := []) rfl (Nat.le_of_ble_eq_true rfl) rfl (fun z6 h7 => ?_) (fun z6 h7 => ?_)
      · skip
        have h7 : 0 ≤ v.toInt ∧ v.toInt ≤ 4 := h7
        obtain ⟨m, hm4, rfl⟩ := sNN (x := v) (n := 5) (by omega) (by omega)
        refine ww_br xCC okX5_republic 15 (P := 1 = 0) (t1 := 31) (t2 := 34) (r := []) rfl (fun q => absurd q (by decide)) (fun _ => ?_)
        refine ww_blk xCC okX5_republic 18 3 (ps := []) (pc' := 40) (lv' := [(5, .ref 48), (0, .ref 0), (1, .int (nI 0)), (2, .int (nI g)), (3, .int w), (4, .int (nI m))]) (st' := [.int (-1), .int (z.1 48 0)]) (z' := z) rfl trivial ?_
        rw [show z.1 48 0 = cI (T 0).1 from (hT 0 (by decide)).2.1]
        refine ww_br xCC okX5_republic 21 (P := (cI (T 0).1) = (-1)) (t1 := 43) (t2 := 46) (r := []) rfl (fun c9 => ?_) (fun c9 => ?_)
        · skip
          have h0 := cI_m (by have q0 := (hT 0 (by decide)).1; have q1 := (hT 1 (by decide)).1; have q2 := (hT 2 (by decide)).1; have q3 := (hT 3 (by decide)).1; omega) c9
          refine ww_blk xCC okX5_republic 22 1 (ps := []) (pc' := 45) (lv' := [(5, .ref 48), (0, .ref 0), (1, .int (nI 0)), (2, .int (nI g)), (3, .int w), (4, .int (nI m))]) (st' := [.int (-11)]) (z' := z) rfl trivial ?_
          subst xhQ
          exact ww_iret xCC okX5_republic 23 xhr rfl rfl ⟨_, rfl, (by rw [sRep_m (by decide) (by omega) (by omega) h0]; exact ⟨rfl, hr, KU_rf z⟩)⟩
        · skip
          have h0 := cI_nm c9
          obtain ⟨n, k, it, hTs, hk2, hn40, hc0, hc1, hcI⟩ := SY_1 (hT 0 (by decide)) h0
          refine ww_blk xCC okX5_republic 24 3 (ps := []) (pc' := 52) (lv' := [(5, .ref 48), (0, .ref 0), (1, .int (nI 0)), (2, .int (nI g)), (3, .int w), (4, .int (nI m))]) (st' := [.int (nI g), .int (z.1 48 0)]) (z' := z) rfl trivial ?_
          rw [show z.1 48 0 = cI (T 0).1 from (hT 0 (by decide)).2.1]
          refine ww_br xCC okX5_republic 27 (P := (cI (T 0).1) = (nI g)) (t1 := 58) (t2 := 55) (r := []) rfl (fun c10 => ?_) (fun c10 => ?_)
          · skip
            have hkg : k = g := (hT_g hTs hk2 (by omega)).mp c10
            rcases (show w.toInt < 0 ∨ 0 ≤ w.toInt by omega) with hw0 | hw0
            · skip
              refine ww_blk xCC okX5_republic 30 6 (ps := []) (pc' := 68) (lv' := [(7, .int 0), (6, .int 0), (5, .ref 48), (0, .ref 0), (1, .int (nI 0)), (2, .int (nI g)), (3, .int w), (4, .int (nI m))]) (st' := [.int (nI m), .int 0]) (z' := z) rfl trivial ?_
              refine ww_br xCC okX5_republic 36 (P := (nI m) ≤ 0) (t1 := 127) (t2 := 71) (r := []) rfl (fun c11 => ?_) (fun c11 => ?_)
              · skip
                replace c11 : m ≤ 0 := (sLE (a := m) (b := 0) (by omega) (by omega)).mp c11
                refine ww_blk xCC okX5_republic 66 1 (ps := []) (pc' := 129) (lv' := [(7, .int 0), (6, .int 0), (5, .ref 48), (0, .ref 0), (1, .int (nI 0)), (2, .int (nI g)), (3, .int w), (4, .int (nI m))]) (st' := [.int 0]) (z' := z) rfl trivial ?_
                subst xhQ
                exact ww_iret xCC okX5_republic 67 xhr rfl rfl ⟨_, rfl, (by rw [sRep_n (by decide) (by omega) (by omega) hTs hkg hw0, if_pos (by omega)]; exact ⟨rfl, hr, KU_rf z⟩)⟩
              · skip
                replace c11 : ¬ m ≤ 0 := fun q => c11 ((sLE (a := m) (b := 0) (by omega) (by omega)).mpr q)
                refine ww_blk xCC okX5_republic 37 9 (ps := []) (pc' := 84) (lv' := [(8, .int (w + (2 * 0))), (7, .int 0), (6, .int 0), (5, .ref 48), (0, .ref 0), (1, .int (nI 0)), (2, .int (nI g)), (3, .int w), (4, .int (nI m))]) (st' := [.int 2, .int (w + (2 * 0)), .ref 48]) (z' := z) rfl trivial ?_
                rw [show w + 2 * (0 : Int32) = w by rw [show (2 : Int32) * 0 = 0 from rfl, Int32.add_zero]]
                refine ww_callVEz xCC okX5_republic 46 (ix := 236) (t_X2_has l d w 2 n (xPull (esS 0) z) hn40 hc1) (by omega) (by decide) xyX2_has xiX2_has (Or.inr (List.mem_of_getElem? (i := 779) (by decide +kernel))) (by decide +kernel) (by decide) (fun q => by cases q) (q0 := 48) rfl rfl rfl rfl (rest := []) rfl (Nat.le_of_ble_eq_true rfl) rfl (fun z12 h13 => ?_) (fun z12 h13 => ?_)
                · skip
                  rw [h13.2, xB_id]
                  replace h13 := h13.1
                  exact absurd h13.1 (by omega)
                · skip
                  rw [h13.2, xB_id]
                  replace h13 := h13.1
                  refine ww_br xCC okX5_republic 47 (P := 0 = 0) (t1 := 90) (t2 := 93) (r := []) rfl (fun _ => ?_) (fun q => absurd (by decide) q)
                  refine ww_blk xCC okX5_republic 48 1 (ps := []) (pc' := 92) (lv' := [(8, .int w), (7, .int 0), (6, .int 0), (5, .ref 48), (0, .ref 0), (1, .int (nI 0)), (2, .int (nI g)), (3, .int w), (4, .int (nI m))]) (st' := [.int (-12)]) (z' := z) rfl trivial ?_
                  subst xhQ
                  exact ww_iret xCC okX5_republic 49 xhr rfl rfl ⟨_, rfl, (by rw [sRep_n (by decide) (by omega) (by omega) hTs hkg hw0, if_neg (by omega)]; exact ⟨rfl, hr, KU_rf z⟩)⟩
            · skip
              obtain ⟨a, ha31, rfl⟩ := sNN31 (x := w) (by omega)
              refine ww_blk xCC okX5_republic 30 4 (ps := []) (pc' := 64) (lv' := [(7, .int 0), (6, .int 0), (5, .ref 48), (0, .ref 0), (1, .int (nI 0)), (2, .int (nI g)), (3, .int (nI a)), (4, .int (nI m))]) (st' := []) (z' := z) rfl trivial ?_
              have L64 : ∀ (n64 : Nat) (e : Nat) (r : sR) (c : Nat) (zL : xMem), m - e < n64 → (sRq it n a m 0 r0 0 = sRq it n a (m - e) e r c) → (RX zL 19 r) → (KU UN z zL) → (r 7 4 ≤ 4) → (e ≤ m) → (a + 2 * e < 2 ^ 31) → ww xp l xe (xRm (d + 2)) xs xm xar xbl xme xc 9 xD xcs xad shX xAA xQ 64 [(7, .int (nI e)), (6, .int (nI c)), (5, .ref 48), (0, .ref 0), (1, .int (nI 0)), (2, .int (nI g)), (3, .int (nI a)), (4, .int (nI m))] [] zL := by
                intro n64
                induction n64 with
                | zero =>
                  intro e r c zL hmu64
                  exact absurd hmu64 (Nat.not_lt_zero _)
                | succ n64 ih64 =>
                  intro e r c zL hmu64 e64_0 e64_1 e64_2 e64_3 e64_4 e64_5
                  refine ww_blk xCC okX5_republic 34 2 (ps := []) (pc' := 68) (lv' := [(7, .int (nI e)), (6, .int (nI c)), (5, .ref 48), (0, .ref 0), (1, .int (nI 0)), (2, .int (nI g)), (3, .int (nI a)), (4, .int (nI m))]) (st' := [.int (nI m), .int (nI e)]) (z' := zL) rfl trivial ?_
                  refine ww_br xCC okX5_republic 36 (P := (nI m) ≤ (nI e)) (t1 := 127) (t2 := 71) (r := []) rfl (fun c15 => ?_) (fun c15 => ?_)
                  · skip
                    replace c15 : m ≤ e := (sLE (a := m) (b := e) (by omega) (by omega)).mp c15
                    refine ww_blk xCC okX5_republic 66 1 (ps := []) (pc' := 129) (lv' := [(7, .int (nI e)), (6, .int (nI c)), (5, .ref 48), (0, .ref 0), (1, .int (nI 0)), (2, .int (nI g)), (3, .int (nI a)), (4, .int (nI m))]) (st' := [.int (nI c)]) (z' := zL) rfl trivial ?_
                    subst xhQ
                    exact ww_iret xCC okX5_republic 67 xhr rfl rfl ⟨_, rfl, (by rw [sRep_y (by decide) (by omega) (by omega) ha31 hTs hkg, e64_0, show m - e = 0 by omega]; exact ⟨rfl, e64_1, e64_2⟩)⟩
                  · skip
                    replace c15 : ¬ m ≤ e := fun q => c15 ((sLE (a := m) (b := e) (by omega) (by omega)).mpr q)
                    refine ww_blk xCC okX5_republic 37 9 (ps := []) (pc' := 84) (lv' := [(8, .int ((nI a) + (2 * (nI e)))), (7, .int (nI e)), (6, .int (nI c)), (5, .ref 48), (0, .ref 0), (1, .int (nI 0)), (2, .int (nI g)), (3, .int (nI a)), (4, .int (nI m))]) (st' := [.int 2, .int ((nI a) + (2 * (nI e))), .ref 48]) (z' := zL) rfl trivial ?_
                    rw [show (2 : Int32) * nI e = nI (2 * e) from pk_mul 2 e]
                    rw [nI_add a (2 * e)]
                    refine ww_callVEz xCC okX5_republic 46 (ix := 236) (t_X2_has l d (nI (a + (2 * e))) 2 n (xPull (esS 0) zL) hn40 ((congrFun (e64_2 48 (by decide)) 1).trans hc1)) (by omega) (by decide) xyX2_has xiX2_has (Or.inr (List.mem_of_getElem? (i := 779) (by decide +kernel))) (by decide +kernel) (by decide) (fun q => by cases q) (q0 := 48) rfl rfl rfl rfl (rest := []) rfl (Nat.le_of_ble_eq_true rfl) rfl (fun z16 h17 => ?_) (fun z16 h17 => ?_)
                    · skip
                      rw [h17.2, xB_id]
                      replace h17 := h17.1
                      rw [sTI (k := a + 2 * e) (by omega)] at h17
                      have hle : a + 2 * e + 2 ≤ n := (by have q := (show (2 : Int32).toInt = 2 from rfl); omega)
                      have hI0 : zL.1 49 (a + 2 * e) = it (a + 2 * e) := (congrFun (e64_2 49 (by decide)) _).trans (hcI _ (by omega))
                      have hI1 : zL.1 49 (a + 2 * e + 1) = it (a + 2 * e + 1) := (congrFun (e64_2 49 (by decide)) _).trans (hcI _ (by omega))
                      refine ww_br xCC okX5_republic 47 (P := 1 = 0) (t1 := 90) (t2 := 93) (r := []) rfl (fun q => absurd q (by decide)) (fun _ => ?_)
                      refine ww_blk xCC okX5_republic 50 11 (ps := [vp_in (nI (a + (2 * e))) 40, vp_in ((nI (a + (2 * e))) + 1) 40]) (pc' := 112) (lv' := [(8, .int (nI (a + (2 * e)))), (7, .int (nI e)), (6, .int (nI c)), (5, .ref 48), (0, .ref 0), (1, .int (nI 0)), (2, .int (nI g)), (3, .int (nI a)), (4, .int (nI m))]) (st' := [.int (zL.1 49 ((nI (a + (2 * e))) + 1).toNatClampNeg), .int (zL.1 49 (nI (a + (2 * e))).toNatClampNeg), .ref 0]) (z' := zL) rfl ⟨(vp_in_nI (by omega) (by decide)), (by rw [show nI (a + 2 * e) + 1 = nI (a + 2 * e + 1) from nI_add _ 1]; exact vp_in_nI (by omega) (by decide))⟩ ?_
                      rw [show nI (a + (2 * e)) + (1 : Int32) = nI ((a + (2 * e)) + 1) from nI_add (a + (2 * e)) 1]
                      rw [sCL (n := ((a + (2 * e)) + 1)) (by omega)]
                      rw [hI1]
                      rw [sCL (n := (a + (2 * e))) (by omega)]
                      rw [hI0]
                      refine ww_callVIi xCC okX5_republic 61 (ix := 248) (t_X5_person l d (it (a + 2 * e)) (it (a + 2 * e + 1)) zL r e64_1 e64_3) (by omega) (by decide) xyX5_person xiX5_person (Or.inl (lw_gt_of (List.mem_of_getElem? (i := 789) (by decide +kernel)) rfl)) rfl rfl rfl (rest := []) rfl (Nat.le_of_ble_eq_true rfl) rfl (fun vP zP hP => ?_)
                      rw [hP.1]
                      refine ww_br xCC okX5_republic 62 (P := ((sPerson r (it (a + 2 * e)) (it (a + 2 * e + 1))).1) < 0) (t1 := 121) (t2 := 118) (r := []) rfl (fun c19 => ?_) (fun c19 => ?_)
                      · skip
                        have hv9 := sL0.mp c19
                        refine ww_blk xCC okX5_republic 64 2 (ps := []) (pc' := 64) (lv' := [(7, .int ((nI e) + 1)), (8, .int (nI (a + (2 * e)))), (6, .int (nI c)), (5, .ref 48), (0, .ref 0), (1, .int (nI 0)), (2, .int (nI g)), (3, .int (nI a)), (4, .int (nI m))]) (st' := []) (z' := zP) rfl trivial ?_
                        rw [show nI e + (1 : Int32) = nI (e + 1) from nI_add e 1]
                        exact ww_cut [0, 2, 3, 4, 5, 6, 7, 8] (xlc rfl (xlc rfl (xlc rfl (xlc rfl (xlc rfl (xlc rfl (xlc rfl (xlc rfl rfl)))))))) rfl rfl (ih64 (e + 1) ((sPerson r (it (a + 2 * e)) (it (a + 2 * e + 1))).2) c zP (by omega) (e64_0.trans (sRq_n (by omega) hle hv9)) hP.2.1 (KU_tr e64_2 hP.2.2) (sPerson_4 e64_3) (by omega) (by omega))
                      · skip
                        have hv9 : ¬ (sPerson r (it (a + 2 * e)) (it (a + 2 * e + 1))).1.toInt < 0 := fun q => c19 (sL0.mpr q)
                        refine ww_blk xCC okX5_republic 63 3 (ps := []) (pc' := 64) (lv' := [(7, .int ((nI e) + 1)), (6, .int ((nI c) + 1)), (8, .int (nI (a + (2 * e)))), (5, .ref 48), (0, .ref 0), (1, .int (nI 0)), (2, .int (nI g)), (3, .int (nI a)), (4, .int (nI m))]) (st' := []) (z' := zP) rfl trivial ?_
                        rw [show nI e + (1 : Int32) = nI (e + 1) from nI_add e 1]
                        rw [show nI c + (1 : Int32) = nI (c + 1) from nI_add c 1]
                        exact ww_cut [0, 1, 3, 4, 5, 6, 7, 8] (xlc rfl (xlc rfl (xlc rfl (xlc rfl (xlc rfl (xlc rfl (xlc rfl (xlc rfl rfl)))))))) rfl rfl (ih64 (e + 1) ((sPerson r (it (a + 2 * e)) (it (a + 2 * e + 1))).2) (c + 1) zP (by omega) (e64_0.trans (sRq_y (by omega) hle hv9)) hP.2.1 (KU_tr e64_2 hP.2.2) (sPerson_4 e64_3) (by omega) (by omega))
                    · skip
                      rw [h17.2, xB_id]
                      replace h17 := h17.1
                      rw [sTI (k := a + 2 * e) (by omega)] at h17
                      have hle : ¬ a + 2 * e + 2 ≤ n := (by have q := (show (2 : Int32).toInt = 2 from rfl); omega)
                      refine ww_br xCC okX5_republic 47 (P := 0 = 0) (t1 := 90) (t2 := 93) (r := []) rfl (fun _ => ?_) (fun q => absurd (by decide) q)
                      refine ww_blk xCC okX5_republic 48 1 (ps := []) (pc' := 92) (lv' := [(8, .int (nI (a + (2 * e)))), (7, .int (nI e)), (6, .int (nI c)), (5, .ref 48), (0, .ref 0), (1, .int (nI 0)), (2, .int (nI g)), (3, .int (nI a)), (4, .int (nI m))]) (st' := [.int (-12)]) (z' := zL) rfl trivial ?_
                      subst xhQ
                      exact ww_iret xCC okX5_republic 49 xhr rfl rfl ⟨_, rfl, (by rw [sRep_y (by decide) (by omega) (by omega) ha31 hTs hkg, e64_0, sRq_o (by omega) hle]; exact ⟨rfl, e64_1, e64_2⟩)⟩
              exact ww_cut [0, 1, 2, 3, 4, 5, 6, 7] (xlc (congrArg Value.int (show (0 : Int32) = nI 0 from rfl)) (xlc (congrArg Value.int (show (0 : Int32) = nI 0 from rfl)) (xlc rfl (xlc rfl (xlc rfl (xlc rfl (xlc rfl (xlc rfl rfl)))))))) rfl rfl (L64 (m - 0 + 1) 0 r0 0 z (Nat.lt_succ_self _) rfl hr (KU_rf z) h74 (by omega) (by omega))
          · skip
            have hkg : k ≠ g := fun q => c10 ((hT_g hTs hk2 (by omega)).mpr q)
            refine ww_blk xCC okX5_republic 28 1 (ps := []) (pc' := 57) (lv' := [(5, .ref 48), (0, .ref 0), (1, .int (nI 0)), (2, .int (nI g)), (3, .int w), (4, .int (nI m))]) (st' := [.int (-13)]) (z' := z) rfl trivial ?_
            subst xhQ
            exact ww_iret xCC okX5_republic 29 xhr rfl rfl ⟨_, rfl, (by rw [sRep_s (by decide) (by omega) (by omega) hTs hkg]; exact ⟨rfl, hr, KU_rf z⟩)⟩
      · skip
        have h7 : ¬ (0 ≤ v.toInt ∧ v.toInt ≤ 4) := h7
        refine ww_br xCC okX5_republic 15 (P := 0 = 0) (t1 := 31) (t2 := 34) (r := []) rfl (fun _ => ?_) (fun q => absurd (by decide) q)
        refine ww_blk xCC okX5_republic 16 1 (ps := []) (pc' := 33) (lv' := [(5, .ref 48), (0, .ref 0), (1, .int (nI 0)), (2, .int (nI g)), (3, .int w), (4, .int v)]) (st' := [.int (-2)]) (z' := z) rfl trivial ?_
        subst xhQ
        exact ww_iret xCC okX5_republic 17 xhr rfl rfl ⟨_, rfl, (by rw [sRep_b (by have q9 := sTI (k := 0) (by decide); omega)]; exact ⟨rfl, hr, KU_rf z⟩)⟩
    · skip
      have h4 : ¬ (0 ≤ y.toInt ∧ y.toInt ≤ 2) := h4
      refine ww_br xCC okX5_republic 10 (P := 0 = 0) (t1 := 31) (t2 := 21) (r := []) rfl (fun _ => ?_) (fun q => absurd (by decide) q)
      refine ww_blk xCC okX5_republic 16 1 (ps := []) (pc' := 33) (lv' := [(5, .ref 48), (0, .ref 0), (1, .int (nI 0)), (2, .int y), (3, .int w), (4, .int v)]) (st' := [.int (-2)]) (z' := z) rfl trivial ?_
      subst xhQ
      exact ww_iret xCC okX5_republic 17 xhr rfl rfl ⟨_, rfl, (by rw [sRep_b (by have q9 := sTI (k := 0) (by decide); omega)]; exact ⟨rfl, hr, KU_rf z⟩)⟩
  · skip
    rw [hr9]
    subst hx
    show ww xp l xe (xRm (d + 2)) xs xm xar xbl xme xc 9 xD xcs xad shX xAA xQ 5 [(0, .ref 0), (1, .int (nI 1)), (2, .int y), (3, .int w), (4, .int v)] [.ref 50] z
    refine ww_blk xCC okX5_republic 3 3 (ps := []) (pc' := 12) (lv' := [(5, .ref 50), (0, .ref 0), (1, .int (nI 1)), (2, .int y), (3, .int w), (4, .int v)]) (st' := []) (z' := z) rfl trivial ?_
    refine ww_blk xCC okX5_republic 6 3 (ps := []) (pc' := 15) (lv' := [(5, .ref 50), (0, .ref 0), (1, .int (nI 1)), (2, .int y), (3, .int w), (4, .int v)]) (st' := [.int 2, .int 0, .int y]) (z' := z) rfl trivial ?_
    refine ww_callSNz xCC okX5_republic 9 (ix := 52) (t_X5_within l d y 0 2 _) (by omega) (by decide) xyX5_within xiX5_within (Or.inl (lw_gt_of (List.mem_of_getElem? (i := 327) (by decide +kernel)) rfl)) rfl (rest := []) rfl (Nat.le_of_ble_eq_true rfl) rfl (fun z23 h24 => ?_) (fun z23 h24 => ?_)
    · skip
      have h24 : 0 ≤ y.toInt ∧ y.toInt ≤ 2 := h24
      obtain ⟨g, hg, rfl⟩ := sNN (x := y) (n := 3) (by omega) (by omega)
      refine ww_br xCC okX5_republic 10 (P := 1 = 0) (t1 := 31) (t2 := 21) (r := []) rfl (fun q => absurd q (by decide)) (fun _ => ?_)
      refine ww_blk xCC okX5_republic 11 3 (ps := []) (pc' := 25) (lv' := [(5, .ref 50), (0, .ref 0), (1, .int (nI 1)), (2, .int (nI g)), (3, .int w), (4, .int v)]) (st' := [.int 4, .int 0, .int v]) (z' := z) rfl trivial ?_
      refine ww_callSNz xCC okX5_republic 14 (ix := 52) (t_X5_within l d v 0 4 _) (by omega) (by decide) xyX5_within xiX5_within (Or.inl (lw_gt_of (List.mem_of_getElem? (i := 327) (by decide +kernel)) rfl)) rfl (rest := []) rfl (Nat.le_of_ble_eq_true rfl) rfl (fun z26 h27 => ?_) (fun z26 h27 => ?_)
      · skip
        have h27 : 0 ≤ v.toInt ∧ v.toInt ≤ 4 := h27
        obtain ⟨m, hm4, rfl⟩ := sNN (x := v) (n := 5) (by omega) (by omega)
        refine ww_br xCC okX5_republic 15 (P := 1 = 0) (t1 := 31) (t2 := 34) (r := []) rfl (fun q => absurd q (by decide)) (fun _ => ?_)
        refine ww_blk xCC okX5_republic 18 3 (ps := []) (pc' := 40) (lv' := [(5, .ref 50), (0, .ref 0), (1, .int (nI 1)), (2, .int (nI g)), (3, .int w), (4, .int (nI m))]) (st' := [.int (-1), .int (z.1 50 0)]) (z' := z) rfl trivial ?_
        rw [show z.1 50 0 = cI (T 1).1 from (hT 1 (by decide)).2.1]
        refine ww_br xCC okX5_republic 21 (P := (cI (T 1).1) = (-1)) (t1 := 43) (t2 := 46) (r := []) rfl (fun c29 => ?_) (fun c29 => ?_)
        · skip
          have h0 := cI_m (by have q0 := (hT 0 (by decide)).1; have q1 := (hT 1 (by decide)).1; have q2 := (hT 2 (by decide)).1; have q3 := (hT 3 (by decide)).1; omega) c29
          refine ww_blk xCC okX5_republic 22 1 (ps := []) (pc' := 45) (lv' := [(5, .ref 50), (0, .ref 0), (1, .int (nI 1)), (2, .int (nI g)), (3, .int w), (4, .int (nI m))]) (st' := [.int (-11)]) (z' := z) rfl trivial ?_
          subst xhQ
          exact ww_iret xCC okX5_republic 23 xhr rfl rfl ⟨_, rfl, (by rw [sRep_m (by decide) (by omega) (by omega) h0]; exact ⟨rfl, hr, KU_rf z⟩)⟩
        · skip
          have h0 := cI_nm c29
          obtain ⟨n, k, it, hTs, hk2, hn40, hc0, hc1, hcI⟩ := SY_1 (hT 1 (by decide)) h0
          refine ww_blk xCC okX5_republic 24 3 (ps := []) (pc' := 52) (lv' := [(5, .ref 50), (0, .ref 0), (1, .int (nI 1)), (2, .int (nI g)), (3, .int w), (4, .int (nI m))]) (st' := [.int (nI g), .int (z.1 50 0)]) (z' := z) rfl trivial ?_
          rw [show z.1 50 0 = cI (T 1).1 from (hT 1 (by decide)).2.1]
          refine ww_br xCC okX5_republic 27 (P := (cI (T 1).1) = (nI g)) (t1 := 58) (t2 := 55) (r := []) rfl (fun c30 => ?_) (fun c30 => ?_)
          · skip
            have hkg : k = g := (hT_g hTs hk2 (by omega)).mp c30
            rcases (show w.toInt < 0 ∨ 0 ≤ w.toInt by omega) with hw0 | hw0
            · skip
              refine ww_blk xCC okX5_republic 30 6 (ps := []) (pc' := 68) (lv' := [(7, .int 0), (6, .int 0), (5, .ref 50), (0, .ref 0), (1, .int (nI 1)), (2, .int (nI g)), (3, .int w), (4, .int (nI m))]) (st' := [.int (nI m), .int 0]) (z' := z) rfl trivial ?_
              refine ww_br xCC okX5_republic 36 (P := (nI m) ≤ 0) (t1 := 127) (t2 := 71) (r := []) rfl (fun c31 => ?_) (fun c31 => ?_)
              · skip
                replace c31 : m ≤ 0 := (sLE (a := m) (b := 0) (by omega) (by omega)).mp c31
                refine ww_blk xCC okX5_republic 66 1 (ps := []) (pc' := 129) (lv' := [(7, .int 0), (6, .int 0), (5, .ref 50), (0, .ref 0), (1, .int (nI 1)), (2, .int (nI g)), (3, .int w), (4, .int (nI m))]) (st' := [.int 0]) (z' := z) rfl trivial ?_
                subst xhQ
                exact ww_iret xCC okX5_republic 67 xhr rfl rfl ⟨_, rfl, (by rw [sRep_n (by decide) (by omega) (by omega) hTs hkg hw0, if_pos (by omega)]; exact ⟨rfl, hr, KU_rf z⟩)⟩
              · skip
                replace c31 : ¬ m ≤ 0 := fun q => c31 ((sLE (a := m) (b := 0) (by omega) (by omega)).mpr q)
                refine ww_blk xCC okX5_republic 37 9 (ps := []) (pc' := 84) (lv' := [(8, .int (w + (2 * 0))), (7, .int 0), (6, .int 0), (5, .ref 50), (0, .ref 0), (1, .int (nI 1)), (2, .int (nI g)), (3, .int w), (4, .int (nI m))]) (st' := [.int 2, .int (w + (2 * 0)), .ref 50]) (z' := z) rfl trivial ?_
                rw [show w + 2 * (0 : Int32) = w by rw [show (2 : Int32) * 0 = 0 from rfl, Int32.add_zero]]
                refine ww_callVEz xCC okX5_republic 46 (ix := 236) (t_X2_has l d w 2 n (xPull (esS 1) z) hn40 hc1) (by omega) (by decide) xyX2_has xiX2_has (Or.inr (List.mem_of_getElem? (i := 779) (by decide +kernel))) (by decide +kernel) (by decide) (fun q => by cases q) (q0 := 50) rfl rfl rfl rfl (rest := []) rfl (Nat.le_of_ble_eq_true rfl) rfl (fun z32 h33 => ?_) (fun z32 h33 => ?_)
                · skip
                  rw [h33.2, xB_id]
                  replace h33 := h33.1
                  exact absurd h33.1 (by omega)
                · skip
                  rw [h33.2, xB_id]
                  replace h33 := h33.1
                  refine ww_br xCC okX5_republic 47 (P := 0 = 0) (t1 := 90) (t2 := 93) (r := []) rfl (fun _ => ?_) (fun q => absurd (by decide) q)
                  refine ww_blk xCC okX5_republic 48 1 (ps := []) (pc' := 92) (lv' := [(8, .int w), (7, .int 0), (6, .int 0), (5, .ref 50), (0, .ref 0), (1, .int (nI 1)), (2, .int (nI g)), (3, .int w), (4, .int (nI m))]) (st' := [.int (-12)]) (z' := z) rfl trivial ?_
                  subst xhQ
                  exact ww_iret xCC okX5_republic 49 xhr rfl rfl ⟨_, rfl, (by rw [sRep_n (by decide) (by omega) (by omega) hTs hkg hw0, if_neg (by omega)]; exact ⟨rfl, hr, KU_rf z⟩)⟩
            · skip
              obtain ⟨a, ha31, rfl⟩ := sNN31 (x := w) (by omega)
              refine ww_blk xCC okX5_republic 30 4 (ps := []) (pc' := 64) (lv' := [(7, .int 0), (6, .int 0), (5, .ref 50), (0, .ref 0), (1, .int (nI 1)), (2, .int (nI g)), (3, .int (nI a)), (4, .int (nI m))]) (st' := []) (z' := z) rfl trivial ?_
              have L64 : ∀ (n64 : Nat) (e : Nat) (r : sR) (c : Nat) (zL : xMem), m - e < n64 → (sRq it n a m 0 r0 0 = sRq it n a (m - e) e r c) → (RX zL 19 r) → (KU UN z zL) → (r 7 4 ≤ 4) → (e ≤ m) → (a + 2 * e < 2 ^ 31) → ww xp l xe (xRm (d + 2)) xs xm xar xbl xme xc 9 xD xcs xad shX xAA xQ 64 [(7, .int (nI e)), (6, .int (nI c)), (5, .ref 50), (0, .ref 0), (1, .int (nI 1)), (2, .int (nI g)), (3, .int (nI a)), (4, .int (nI m))] [] zL := by
                intro n64
                induction n64 with
                | zero =>
                  intro e r c zL hmu64
                  exact absurd hmu64 (Nat.not_lt_zero _)
                | succ n64 ih64 =>
                  intro e r c zL hmu64 e64_0 e64_1 e64_2 e64_3 e64_4 e64_5
                  refine ww_blk xCC okX5_republic 34 2 (ps := []) (pc' := 68) (lv' := [(7, .int (nI e)), (6, .int (nI c)), (5, .ref 50), (0, .ref 0), (1, .int (nI 1)), (2, .int (nI g)), (3, .int (nI a)), (4, .int (nI m))]) (st' := [.int (nI m), .int (nI e)]) (z' := zL) rfl trivial ?_
                  refine ww_br xCC okX5_republic 36 (P := (nI m) ≤ (nI e)) (t1 := 127) (t2 := 71) (r := []) rfl (fun c35 => ?_) (fun c35 => ?_)
                  · skip
                    replace c35 : m ≤ e := (sLE (a := m) (b := e) (by omega) (by omega)).mp c35
                    refine ww_blk xCC okX5_republic 66 1 (ps := []) (pc' := 129) (lv' := [(7, .int (nI e)), (6, .int (nI c)), (5, .ref 50), (0, .ref 0), (1, .int (nI 1)), (2, .int (nI g)), (3, .int (nI a)), (4, .int (nI m))]) (st' := [.int (nI c)]) (z' := zL) rfl trivial ?_
                    subst xhQ
                    exact ww_iret xCC okX5_republic 67 xhr rfl rfl ⟨_, rfl, (by rw [sRep_y (by decide) (by omega) (by omega) ha31 hTs hkg, e64_0, show m - e = 0 by omega]; exact ⟨rfl, e64_1, e64_2⟩)⟩
                  · skip
                    replace c35 : ¬ m ≤ e := fun q => c35 ((sLE (a := m) (b := e) (by omega) (by omega)).mpr q)
                    refine ww_blk xCC okX5_republic 37 9 (ps := []) (pc' := 84) (lv' := [(8, .int ((nI a) + (2 * (nI e)))), (7, .int (nI e)), (6, .int (nI c)), (5, .ref 50), (0, .ref 0), (1, .int (nI 1)), (2, .int (nI g)), (3, .int (nI a)), (4, .int (nI m))]) (st' := [.int 2, .int ((nI a) + (2 * (nI e))), .ref 50]) (z' := zL) rfl trivial ?_
                    rw [show (2 : Int32) * nI e = nI (2 * e) from pk_mul 2 e]
                    rw [nI_add a (2 * e)]
                    refine ww_callVEz xCC okX5_republic 46 (ix := 236) (t_X2_has l d (nI (a + (2 * e))) 2 n (xPull (esS 1) zL) hn40 ((congrFun (e64_2 50 (by decide)) 1).trans hc1)) (by omega) (by decide) xyX2_has xiX2_has (Or.inr (List.mem_of_getElem? (i := 779) (by decide +kernel))) (by decide +kernel) (by decide) (fun q => by cases q) (q0 := 50) rfl rfl rfl rfl (rest := []) rfl (Nat.le_of_ble_eq_true rfl) rfl (fun z36 h37 => ?_) (fun z36 h37 => ?_)
                    · skip
                      rw [h37.2, xB_id]
                      replace h37 := h37.1
                      rw [sTI (k := a + 2 * e) (by omega)] at h37
                      have hle : a + 2 * e + 2 ≤ n := (by have q := (show (2 : Int32).toInt = 2 from rfl); omega)
                      have hI0 : zL.1 51 (a + 2 * e) = it (a + 2 * e) := (congrFun (e64_2 51 (by decide)) _).trans (hcI _ (by omega))
                      have hI1 : zL.1 51 (a + 2 * e + 1) = it (a + 2 * e + 1) := (congrFun (e64_2 51 (by decide)) _).trans (hcI _ (by omega))
                      refine ww_br xCC okX5_republic 47 (P := 1 = 0) (t1 := 90) (t2 := 93) (r := []) rfl (fun q => absurd q (by decide)) (fun _ => ?_)
                      refine ww_blk xCC okX5_republic 50 11 (ps := [vp_in (nI (a + (2 * e))) 40, vp_in ((nI (a + (2 * e))) + 1) 40]) (pc' := 112) (lv' := [(8, .int (nI (a + (2 * e)))), (7, .int (nI e)), (6, .int (nI c)), (5, .ref 50), (0, .ref 0), (1, .int (nI 1)), (2, .int (nI g)), (3, .int (nI a)), (4, .int (nI m))]) (st' := [.int (zL.1 51 ((nI (a + (2 * e))) + 1).toNatClampNeg), .int (zL.1 51 (nI (a + (2 * e))).toNatClampNeg), .ref 0]) (z' := zL) rfl ⟨(vp_in_nI (by omega) (by decide)), (by rw [show nI (a + 2 * e) + 1 = nI (a + 2 * e + 1) from nI_add _ 1]; exact vp_in_nI (by omega) (by decide))⟩ ?_
                      rw [show nI (a + (2 * e)) + (1 : Int32) = nI ((a + (2 * e)) + 1) from nI_add (a + (2 * e)) 1]
                      rw [sCL (n := ((a + (2 * e)) + 1)) (by omega)]
                      rw [hI1]
                      rw [sCL (n := (a + (2 * e))) (by omega)]
                      rw [hI0]
                      refine ww_callVIi xCC okX5_republic 61 (ix := 248) (t_X5_person l d (it (a + 2 * e)) (it (a + 2 * e + 1)) zL r e64_1 e64_3) (by omega) (by decide) xyX5_person xiX5_person (Or.inl (lw_gt_of (List.mem_of_getElem? (i := 789) (by decide +kernel)) rfl)) rfl rfl rfl (rest := []) rfl (Nat.le_of_ble_eq_true rfl) rfl (fun vP zP hP => ?_)
                      rw [hP.1]
                      refine ww_br xCC okX5_republic 62 (P := ((sPerson r (it (a + 2 * e)) (it (a + 2 * e + 1))).1) < 0) (t1 := 121) (t2 := 118) (r := []) rfl (fun c39 => ?_) (fun c39 => ?_)
                      · skip
                        have hv9 := sL0.mp c39
                        refine ww_blk xCC okX5_republic 64 2 (ps := []) (pc' := 64) (lv' := [(7, .int ((nI e) + 1)), (8, .int (nI (a + (2 * e)))), (6, .int (nI c)), (5, .ref 50), (0, .ref 0), (1, .int (nI 1)), (2, .int (nI g)), (3, .int (nI a)), (4, .int (nI m))]) (st' := []) (z' := zP) rfl trivial ?_
                        rw [show nI e + (1 : Int32) = nI (e + 1) from nI_add e 1]
                        exact ww_cut [0, 2, 3, 4, 5, 6, 7, 8] (xlc rfl (xlc rfl (xlc rfl (xlc rfl (xlc rfl (xlc rfl (xlc rfl (xlc rfl rfl)))))))) rfl rfl (ih64 (e + 1) ((sPerson r (it (a + 2 * e)) (it (a + 2 * e + 1))).2) c zP (by omega) (e64_0.trans (sRq_n (by omega) hle hv9)) hP.2.1 (KU_tr e64_2 hP.2.2) (sPerson_4 e64_3) (by omega) (by omega))
                      · skip
                        have hv9 : ¬ (sPerson r (it (a + 2 * e)) (it (a + 2 * e + 1))).1.toInt < 0 := fun q => c39 (sL0.mpr q)
                        refine ww_blk xCC okX5_republic 63 3 (ps := []) (pc' := 64) (lv' := [(7, .int ((nI e) + 1)), (6, .int ((nI c) + 1)), (8, .int (nI (a + (2 * e)))), (5, .ref 50), (0, .ref 0), (1, .int (nI 1)), (2, .int (nI g)), (3, .int (nI a)), (4, .int (nI m))]) (st' := []) (z' := zP) rfl trivial ?_
                        rw [show nI e + (1 : Int32) = nI (e + 1) from nI_add e 1]
                        rw [show nI c + (1 : Int32) = nI (c + 1) from nI_add c 1]
                        exact ww_cut [0, 1, 3, 4, 5, 6, 7, 8] (xlc rfl (xlc rfl (xlc rfl (xlc rfl (xlc rfl (xlc rfl (xlc rfl (xlc rfl rfl)))))))) rfl rfl (ih64 (e + 1) ((sPerson r (it (a + 2 * e)) (it (a + 2 * e + 1))).2) (c + 1) zP (by omega) (e64_0.trans (sRq_y (by omega) hle hv9)) hP.2.1 (KU_tr e64_2 hP.2.2) (sPerson_4 e64_3) (by omega) (by omega))
                    · skip
                      rw [h37.2, xB_id]
                      replace h37 := h37.1
                      rw [sTI (k := a + 2 * e) (by omega)] at h37
                      have hle : ¬ a + 2 * e + 2 ≤ n := (by have q := (show (2 : Int32).toInt = 2 from rfl); omega)
                      refine ww_br xCC okX5_republic 47 (P := 0 = 0) (t1 := 90) (t2 := 93) (r := []) rfl (fun _ => ?_) (fun q => absurd (by decide) q)
                      refine ww_blk xCC okX5_republic 48 1 (ps := []) (pc' := 92) (lv' := [(8, .int (nI (a + (2 * e)))), (7, .int (nI e)), (6, .int (nI c)), (5, .ref 50), (0, .ref 0), (1, .int (nI 1)), (2, .int (nI g)), (3, .int (nI a)), (4, .int (nI m))]) (st' := [.int (-12)]) (z' := zL) rfl trivial ?_
                      subst xhQ
                      exact ww_iret xCC okX5_republic 49 xhr rfl rfl ⟨_, rfl, (by rw [sRep_y (by decide) (by omega) (by omega) ha31 hTs hkg, e64_0, sRq_o (by omega) hle]; exact ⟨rfl, e64_1, e64_2⟩)⟩
              exact ww_cut [0, 1, 2, 3, 4, 5, 6, 7] (xlc (congrArg Value.int (show (0 : Int32) = nI 0 from rfl)) (xlc (congrArg Value.int (show (0 : Int32) = nI 0 from rfl)) (xlc rfl (xlc rfl (xlc rfl (xlc rfl (xlc rfl (xlc rfl rfl)))))))) rfl rfl (L64 (m - 0 + 1) 0 r0 0 z (Nat.lt_succ_self _) rfl hr (KU_rf z) h74 (by omega) (by omega))
          · skip
            have hkg : k ≠ g := fun q => c30 ((hT_g hTs hk2 (by omega)).mpr q)
            refine ww_blk xCC okX5_republic 28 1 (ps := []) (pc' := 57) (lv' := [(5, .ref 50), (0, .ref 0), (1, .int (nI 1)), (2, .int (nI g)), (3, .int w), (4, .int (nI m))]) (st' := [.int (-13)]) (z' := z) rfl trivial ?_
            subst xhQ
            exact ww_iret xCC okX5_republic 29 xhr rfl rfl ⟨_, rfl, (by rw [sRep_s (by decide) (by omega) (by omega) hTs hkg]; exact ⟨rfl, hr, KU_rf z⟩)⟩
      · skip
        have h27 : ¬ (0 ≤ v.toInt ∧ v.toInt ≤ 4) := h27
        refine ww_br xCC okX5_republic 15 (P := 0 = 0) (t1 := 31) (t2 := 34) (r := []) rfl (fun _ => ?_) (fun q => absurd (by decide) q)
        refine ww_blk xCC okX5_republic 16 1 (ps := []) (pc' := 33) (lv' := [(5, .ref 50), (0, .ref 0), (1, .int (nI 1)), (2, .int (nI g)), (3, .int w), (4, .int v)]) (st' := [.int (-2)]) (z' := z) rfl trivial ?_
        subst xhQ
        exact ww_iret xCC okX5_republic 17 xhr rfl rfl ⟨_, rfl, (by rw [sRep_b (by have q9 := sTI (k := 1) (by decide); omega)]; exact ⟨rfl, hr, KU_rf z⟩)⟩
    · skip
      have h24 : ¬ (0 ≤ y.toInt ∧ y.toInt ≤ 2) := h24
      refine ww_br xCC okX5_republic 10 (P := 0 = 0) (t1 := 31) (t2 := 21) (r := []) rfl (fun _ => ?_) (fun q => absurd (by decide) q)
      refine ww_blk xCC okX5_republic 16 1 (ps := []) (pc' := 33) (lv' := [(5, .ref 50), (0, .ref 0), (1, .int (nI 1)), (2, .int y), (3, .int w), (4, .int v)]) (st' := [.int (-2)]) (z' := z) rfl trivial ?_
      subst xhQ
      exact ww_iret xCC okX5_republic 17 xhr rfl rfl ⟨_, rfl, (by rw [sRep_b (by have q9 := sTI (k := 1) (by decide); omega)]; exact ⟨rfl, hr, KU_rf z⟩)⟩
  · skip
    rw [hr9]
    subst hx
    show ww xp l xe (xRm (d + 2)) xs xm xar xbl xme xc 9 xD xcs xad shX xAA xQ 5 [(0, .ref 0), (1, .int (nI 2)), (2, .int y), (3, .int w), (4, .int v)] [.ref 52] z
    refine ww_blk xCC okX5_republic 3 3 (ps := []) (pc' := 12) (lv' := [(5, .ref 52), (0, .ref 0), (1, .int (nI 2)), (2, .int y), (3, .int w), (4, .int v)]) (st' := []) (z' := z) rfl trivial ?_
    refine ww_blk xCC okX5_republic 6 3 (ps := []) (pc' := 15) (lv' := [(5, .ref 52), (0, .ref 0), (1, .int (nI 2)), (2, .int y), (3, .int w), (4, .int v)]) (st' := [.int 2, .int 0, .int y]) (z' := z) rfl trivial ?_
    refine ww_callSNz xCC okX5_republic 9 (ix := 52) (t_X5_within l d y 0 2 _) (by omega) (by decide) xyX5_within xiX5_within (Or.inl (lw_gt_of (List.mem_of_getElem? (i := 327) (by decide +kernel)) rfl)) rfl (rest := []) rfl (Nat.le_of_ble_eq_true rfl) rfl (fun z43 h44 => ?_) (fun z43 h44 => ?_)
    · skip
      have h44 : 0 ≤ y.toInt ∧ y.toInt ≤ 2 := h44
      obtain ⟨g, hg, rfl⟩ := sNN (x := y) (n := 3) (by omega) (by omega)
      refine ww_br xCC okX5_republic 10 (P := 1 = 0) (t1 := 31) (t2 := 21) (r := []) rfl (fun q => absurd q (by decide)) (fun _ => ?_)
      refine ww_blk xCC okX5_republic 11 3 (ps := []) (pc' := 25) (lv' := [(5, .ref 52), (0, .ref 0), (1, .int (nI 2)), (2, .int (nI g)), (3, .int w), (4, .int v)]) (st' := [.int 4, .int 0, .int v]) (z' := z) rfl trivial ?_
      refine ww_callSNz xCC okX5_republic 14 (ix := 52) (t_X5_within l d v 0 4 _) (by omega) (by decide) xyX5_within xiX5_within (Or.inl (lw_gt_of (List.mem_of_getElem? (i := 327) (by decide +kernel)) rfl)) rfl (rest := []) rfl (Nat.le_of_ble_eq_true rfl) rfl (fun z46 h47 => ?_) (fun z46 h47 => ?_)
      · skip
        have h47 : 0 ≤ v.toInt ∧ v.toInt ≤ 4 := h47
        obtain ⟨m, hm4, rfl⟩ := sNN (x := v) (n := 5) (by omega) (by omega)
        refine ww_br xCC okX5_republic 15 (P := 1 = 0) (t1 := 31) (t2 := 34) (r := []) rfl (fun q => absurd q (by decide)) (fun _ => ?_)
        refine ww_blk xCC okX5_republic 18 3 (ps := []) (pc' := 40) (lv' := [(5, .ref 52), (0, .ref 0), (1, .int (nI 2)), (2, .int (nI g)), (3, .int w), (4, .int (nI m))]) (st' := [.int (-1), .int (z.1 52 0)]) (z' := z) rfl trivial ?_
        rw [show z.1 52 0 = cI (T 2).1 from (hT 2 (by decide)).2.1]
        refine ww_br xCC okX5_republic 21 (P := (cI (T 2).1) = (-1)) (t1 := 43) (t2 := 46) (r := []) rfl (fun c49 => ?_) (fun c49 => ?_)
        · skip
          have h0 := cI_m (by have q0 := (hT 0 (by decide)).1; have q1 := (hT 1 (by decide)).1; have q2 := (hT 2 (by decide)).1; have q3 := (hT 3 (by decide)).1; omega) c49
          refine ww_blk xCC okX5_republic 22 1 (ps := []) (pc' := 45) (lv' := [(5, .ref 52), (0, .ref 0), (1, .int (nI 2)), (2, .int (nI g)), (3, .int w), (4, .int (nI m))]) (st' := [.int (-11)]) (z' := z) rfl trivial ?_
          subst xhQ
          exact ww_iret xCC okX5_republic 23 xhr rfl rfl ⟨_, rfl, (by rw [sRep_m (by decide) (by omega) (by omega) h0]; exact ⟨rfl, hr, KU_rf z⟩)⟩
        · skip
          have h0 := cI_nm c49
          obtain ⟨n, k, it, hTs, hk2, hn40, hc0, hc1, hcI⟩ := SY_1 (hT 2 (by decide)) h0
          refine ww_blk xCC okX5_republic 24 3 (ps := []) (pc' := 52) (lv' := [(5, .ref 52), (0, .ref 0), (1, .int (nI 2)), (2, .int (nI g)), (3, .int w), (4, .int (nI m))]) (st' := [.int (nI g), .int (z.1 52 0)]) (z' := z) rfl trivial ?_
          rw [show z.1 52 0 = cI (T 2).1 from (hT 2 (by decide)).2.1]
          refine ww_br xCC okX5_republic 27 (P := (cI (T 2).1) = (nI g)) (t1 := 58) (t2 := 55) (r := []) rfl (fun c50 => ?_) (fun c50 => ?_)
          · skip
            have hkg : k = g := (hT_g hTs hk2 (by omega)).mp c50
            rcases (show w.toInt < 0 ∨ 0 ≤ w.toInt by omega) with hw0 | hw0
            · skip
              refine ww_blk xCC okX5_republic 30 6 (ps := []) (pc' := 68) (lv' := [(7, .int 0), (6, .int 0), (5, .ref 52), (0, .ref 0), (1, .int (nI 2)), (2, .int (nI g)), (3, .int w), (4, .int (nI m))]) (st' := [.int (nI m), .int 0]) (z' := z) rfl trivial ?_
              refine ww_br xCC okX5_republic 36 (P := (nI m) ≤ 0) (t1 := 127) (t2 := 71) (r := []) rfl (fun c51 => ?_) (fun c51 => ?_)
              · skip
                replace c51 : m ≤ 0 := (sLE (a := m) (b := 0) (by omega) (by omega)).mp c51
                refine ww_blk xCC okX5_republic 66 1 (ps := []) (pc' := 129) (lv' := [(7, .int 0), (6, .int 0), (5, .ref 52), (0, .ref 0), (1, .int (nI 2)), (2, .int (nI g)), (3, .int w), (4, .int (nI m))]) (st' := [.int 0]) (z' := z) rfl trivial ?_
                subst xhQ
                exact ww_iret xCC okX5_republic 67 xhr rfl rfl ⟨_, rfl, (by rw [sRep_n (by decide) (by omega) (by omega) hTs hkg hw0, if_pos (by omega)]; exact ⟨rfl, hr, KU_rf z⟩)⟩
              · skip
                replace c51 : ¬ m ≤ 0 := fun q => c51 ((sLE (a := m) (b := 0) (by omega) (by omega)).mpr q)
                refine ww_blk xCC okX5_republic 37 9 (ps := []) (pc' := 84) (lv' := [(8, .int (w + (2 * 0))), (7, .int 0), (6, .int 0), (5, .ref 52), (0, .ref 0), (1, .int (nI 2)), (2, .int (nI g)), (3, .int w), (4, .int (nI m))]) (st' := [.int 2, .int (w + (2 * 0)), .ref 52]) (z' := z) rfl trivial ?_
                rw [show w + 2 * (0 : Int32) = w by rw [show (2 : Int32) * 0 = 0 from rfl, Int32.add_zero]]
                refine ww_callVEz xCC okX5_republic 46 (ix := 236) (t_X2_has l d w 2 n (xPull (esS 2) z) hn40 hc1) (by omega) (by decide) xyX2_has xiX2_has (Or.inr (List.mem_of_getElem? (i := 779) (by decide +kernel))) (by decide +kernel) (by decide) (fun q => by cases q) (q0 := 52) rfl rfl rfl rfl (rest := []) rfl (Nat.le_of_ble_eq_true rfl) rfl (fun z52 h53 => ?_) (fun z52 h53 => ?_)
                · skip
                  rw [h53.2, xB_id]
                  replace h53 := h53.1
                  exact absurd h53.1 (by omega)
                · skip
                  rw [h53.2, xB_id]
                  replace h53 := h53.1
                  refine ww_br xCC okX5_republic 47 (P := 0 = 0) (t1 := 90) (t2 := 93) (r := []) rfl (fun _ => ?_) (fun q => absurd (by decide) q)
                  refine ww_blk xCC okX5_republic 48 1 (ps := []) (pc' := 92) (lv' := [(8, .int w), (7, .int 0), (6, .int 0), (5, .ref 52), (0, .ref 0), (1, .int (nI 2)), (2, .int (nI g)), (3, .int w), (4, .int (nI m))]) (st' := [.int (-12)]) (z' := z) rfl trivial ?_
                  subst xhQ
                  exact ww_iret xCC okX5_republic 49 xhr rfl rfl ⟨_, rfl, (by rw [sRep_n (by decide) (by omega) (by omega) hTs hkg hw0, if_neg (by omega)]; exact ⟨rfl, hr, KU_rf z⟩)⟩
            · skip
              obtain ⟨a, ha31, rfl⟩ := sNN31 (x := w) (by omega)
              refine ww_blk xCC okX5_republic 30 4 (ps := []) (pc' := 64) (lv' := [(7, .int 0), (6, .int 0), (5, .ref 52), (0, .ref 0), (1, .int (nI 2)), (2, .int (nI g)), (3, .int (nI a)), (4, .int (nI m))]) (st' := []) (z' := z) rfl trivial ?_
              have L64 : ∀ (n64 : Nat) (e : Nat) (r : sR) (c : Nat) (zL : xMem), m - e < n64 → (sRq it n a m 0 r0 0 = sRq it n a (m - e) e r c) → (RX zL 19 r) → (KU UN z zL) → (r 7 4 ≤ 4) → (e ≤ m) → (a + 2 * e < 2 ^ 31) → ww xp l xe (xRm (d + 2)) xs xm xar xbl xme xc 9 xD xcs xad shX xAA xQ 64 [(7, .int (nI e)), (6, .int (nI c)), (5, .ref 52), (0, .ref 0), (1, .int (nI 2)), (2, .int (nI g)), (3, .int (nI a)), (4, .int (nI m))] [] zL := by
                intro n64
                induction n64 with
                | zero =>
                  intro e r c zL hmu64
                  exact absurd hmu64 (Nat.not_lt_zero _)
                | succ n64 ih64 =>
                  intro e r c zL hmu64 e64_0 e64_1 e64_2 e64_3 e64_4 e64_5
                  refine ww_blk xCC okX5_republic 34 2 (ps := []) (pc' := 68) (lv' := [(7, .int (nI e)), (6, .int (nI c)), (5, .ref 52), (0, .ref 0), (1, .int (nI 2)), (2, .int (nI g)), (3, .int (nI a)), (4, .int (nI m))]) (st' := [.int (nI m), .int (nI e)]) (z' := zL) rfl trivial ?_
                  refine ww_br xCC okX5_republic 36 (P := (nI m) ≤ (nI e)) (t1 := 127) (t2 := 71) (r := []) rfl (fun c55 => ?_) (fun c55 => ?_)
                  · skip
                    replace c55 : m ≤ e := (sLE (a := m) (b := e) (by omega) (by omega)).mp c55
                    refine ww_blk xCC okX5_republic 66 1 (ps := []) (pc' := 129) (lv' := [(7, .int (nI e)), (6, .int (nI c)), (5, .ref 52), (0, .ref 0), (1, .int (nI 2)), (2, .int (nI g)), (3, .int (nI a)), (4, .int (nI m))]) (st' := [.int (nI c)]) (z' := zL) rfl trivial ?_
                    subst xhQ
                    exact ww_iret xCC okX5_republic 67 xhr rfl rfl ⟨_, rfl, (by rw [sRep_y (by decide) (by omega) (by omega) ha31 hTs hkg, e64_0, show m - e = 0 by omega]; exact ⟨rfl, e64_1, e64_2⟩)⟩
                  · skip
                    replace c55 : ¬ m ≤ e := fun q => c55 ((sLE (a := m) (b := e) (by omega) (by omega)).mpr q)
                    refine ww_blk xCC okX5_republic 37 9 (ps := []) (pc' := 84) (lv' := [(8, .int ((nI a) + (2 * (nI e)))), (7, .int (nI e)), (6, .int (nI c)), (5, .ref 52), (0, .ref 0), (1, .int (nI 2)), (2, .int (nI g)), (3, .int (nI a)), (4, .int (nI m))]) (st' := [.int 2, .int ((nI a) + (2 * (nI e))), .ref 52]) (z' := zL) rfl trivial ?_
                    rw [show (2 : Int32) * nI e = nI (2 * e) from pk_mul 2 e]
                    rw [nI_add a (2 * e)]
                    refine ww_callVEz xCC okX5_republic 46 (ix := 236) (t_X2_has l d (nI (a + (2 * e))) 2 n (xPull (esS 2) zL) hn40 ((congrFun (e64_2 52 (by decide)) 1).trans hc1)) (by omega) (by decide) xyX2_has xiX2_has (Or.inr (List.mem_of_getElem? (i := 779) (by decide +kernel))) (by decide +kernel) (by decide) (fun q => by cases q) (q0 := 52) rfl rfl rfl rfl (rest := []) rfl (Nat.le_of_ble_eq_true rfl) rfl (fun z56 h57 => ?_) (fun z56 h57 => ?_)
                    · skip
                      rw [h57.2, xB_id]
                      replace h57 := h57.1
                      rw [sTI (k := a + 2 * e) (by omega)] at h57
                      have hle : a + 2 * e + 2 ≤ n := (by have q := (show (2 : Int32).toInt = 2 from rfl); omega)
                      have hI0 : zL.1 53 (a + 2 * e) = it (a + 2 * e) := (congrFun (e64_2 53 (by decide)) _).trans (hcI _ (by omega))
                      have hI1 : zL.1 53 (a + 2 * e + 1) = it (a + 2 * e + 1) := (congrFun (e64_2 53 (by decide)) _).trans (hcI _ (by omega))
                      refine ww_br xCC okX5_republic 47 (P := 1 = 0) (t1 := 90) (t2 := 93) (r := []) rfl (fun q => absurd q (by decide)) (fun _ => ?_)
                      refine ww_blk xCC okX5_republic 50 11 (ps := [vp_in (nI (a + (2 * e))) 40, vp_in ((nI (a + (2 * e))) + 1) 40]) (pc' := 112) (lv' := [(8, .int (nI (a + (2 * e)))), (7, .int (nI e)), (6, .int (nI c)), (5, .ref 52), (0, .ref 0), (1, .int (nI 2)), (2, .int (nI g)), (3, .int (nI a)), (4, .int (nI m))]) (st' := [.int (zL.1 53 ((nI (a + (2 * e))) + 1).toNatClampNeg), .int (zL.1 53 (nI (a + (2 * e))).toNatClampNeg), .ref 0]) (z' := zL) rfl ⟨(vp_in_nI (by omega) (by decide)), (by rw [show nI (a + 2 * e) + 1 = nI (a + 2 * e + 1) from nI_add _ 1]; exact vp_in_nI (by omega) (by decide))⟩ ?_
                      rw [show nI (a + (2 * e)) + (1 : Int32) = nI ((a + (2 * e)) + 1) from nI_add (a + (2 * e)) 1]
                      rw [sCL (n := ((a + (2 * e)) + 1)) (by omega)]
                      rw [hI1]
                      rw [sCL (n := (a + (2 * e))) (by omega)]
                      rw [hI0]
                      refine ww_callVIi xCC okX5_republic 61 (ix := 248) (t_X5_person l d (it (a + 2 * e)) (it (a + 2 * e + 1)) zL r e64_1 e64_3) (by omega) (by decide) xyX5_person xiX5_person (Or.inl (lw_gt_of (List.mem_of_getElem? (i := 789) (by decide +kernel)) rfl)) rfl rfl rfl (rest := []) rfl (Nat.le_of_ble_eq_true rfl) rfl (fun vP zP hP => ?_)
                      rw [hP.1]
                      refine ww_br xCC okX5_republic 62 (P := ((sPerson r (it (a + 2 * e)) (it (a + 2 * e + 1))).1) < 0) (t1 := 121) (t2 := 118) (r := []) rfl (fun c59 => ?_) (fun c59 => ?_)
                      · skip
                        have hv9 := sL0.mp c59
                        refine ww_blk xCC okX5_republic 64 2 (ps := []) (pc' := 64) (lv' := [(7, .int ((nI e) + 1)), (8, .int (nI (a + (2 * e)))), (6, .int (nI c)), (5, .ref 52), (0, .ref 0), (1, .int (nI 2)), (2, .int (nI g)), (3, .int (nI a)), (4, .int (nI m))]) (st' := []) (z' := zP) rfl trivial ?_
                        rw [show nI e + (1 : Int32) = nI (e + 1) from nI_add e 1]
                        exact ww_cut [0, 2, 3, 4, 5, 6, 7, 8] (xlc rfl (xlc rfl (xlc rfl (xlc rfl (xlc rfl (xlc rfl (xlc rfl (xlc rfl rfl)))))))) rfl rfl (ih64 (e + 1) ((sPerson r (it (a + 2 * e)) (it (a + 2 * e + 1))).2) c zP (by omega) (e64_0.trans (sRq_n (by omega) hle hv9)) hP.2.1 (KU_tr e64_2 hP.2.2) (sPerson_4 e64_3) (by omega) (by omega))
                      · skip
                        have hv9 : ¬ (sPerson r (it (a + 2 * e)) (it (a + 2 * e + 1))).1.toInt < 0 := fun q => c59 (sL0.mpr q)
                        refine ww_blk xCC okX5_republic 63 3 (ps := []) (pc' := 64) (lv' := [(7, .int ((nI e) + 1)), (6, .int ((nI c) + 1)), (8, .int (nI (a + (2 * e)))), (5, .ref 52), (0, .ref 0), (1, .int (nI 2)), (2, .int (nI g)), (3, .int (nI a)), (4, .int (nI m))]) (st' := []) (z' := zP) rfl trivial ?_
                        rw [show nI e + (1 : Int32) = nI (e + 1) from nI_add e 1]
                        rw [show nI c + (1 : Int32) = nI (c + 1) from nI_add c 1]
                        exact ww_cut [0, 1, 3, 4, 5, 6, 7, 8] (xlc rfl (xlc rfl (xlc rfl (xlc rfl (xlc rfl (xlc rfl (xlc rfl (xlc rfl rfl)))))))) rfl rfl (ih64 (e + 1) ((sPerson r (it (a + 2 * e)) (it (a + 2 * e + 1))).2) (c + 1) zP (by omega) (e64_0.trans (sRq_y (by omega) hle hv9)) hP.2.1 (KU_tr e64_2 hP.2.2) (sPerson_4 e64_3) (by omega) (by omega))
                    · skip
                      rw [h57.2, xB_id]
                      replace h57 := h57.1
                      rw [sTI (k := a + 2 * e) (by omega)] at h57
                      have hle : ¬ a + 2 * e + 2 ≤ n := (by have q := (show (2 : Int32).toInt = 2 from rfl); omega)
                      refine ww_br xCC okX5_republic 47 (P := 0 = 0) (t1 := 90) (t2 := 93) (r := []) rfl (fun _ => ?_) (fun q => absurd (by decide) q)
                      refine ww_blk xCC okX5_republic 48 1 (ps := []) (pc' := 92) (lv' := [(8, .int (nI (a + (2 * e)))), (7, .int (nI e)), (6, .int (nI c)), (5, .ref 52), (0, .ref 0), (1, .int (nI 2)), (2, .int (nI g)), (3, .int (nI a)), (4, .int (nI m))]) (st' := [.int (-12)]) (z' := zL) rfl trivial ?_
                      subst xhQ
                      exact ww_iret xCC okX5_republic 49 xhr rfl rfl ⟨_, rfl, (by rw [sRep_y (by decide) (by omega) (by omega) ha31 hTs hkg, e64_0, sRq_o (by omega) hle]; exact ⟨rfl, e64_1, e64_2⟩)⟩
              exact ww_cut [0, 1, 2, 3, 4, 5, 6, 7] (xlc (congrArg Value.int (show (0 : Int32) = nI 0 from rfl)) (xlc (congrArg Value.int (show (0 : Int32) = nI 0 from rfl)) (xlc rfl (xlc rfl (xlc rfl (xlc rfl (xlc rfl (xlc rfl rfl)))))))) rfl rfl (L64 (m - 0 + 1) 0 r0 0 z (Nat.lt_succ_self _) rfl hr (KU_rf z) h74 (by omega) (by omega))
          · skip
            have hkg : k ≠ g := fun q => c50 ((hT_g hTs hk2 (by omega)).mpr q)
            refine ww_blk xCC okX5_republic 28 1 (ps := []) (pc' := 57) (lv' := [(5, .ref 52), (0, .ref 0), (1, .int (nI 2)), (2, .int (nI g)), (3, .int w), (4, .int (nI m))]) (st' := [.int (-13)]) (z' := z) rfl trivial ?_
            subst xhQ
            exact ww_iret xCC okX5_republic 29 xhr rfl rfl ⟨_, rfl, (by rw [sRep_s (by decide) (by omega) (by omega) hTs hkg]; exact ⟨rfl, hr, KU_rf z⟩)⟩
      · skip
        have h47 : ¬ (0 ≤ v.toInt ∧ v.toInt ≤ 4) := h47
        refine ww_br xCC okX5_republic 15 (P := 0 = 0) (t1 := 31) (t2 := 34) (r := []) rfl (fun _ => ?_) (fun q => absurd (by decide) q)
        refine ww_blk xCC okX5_republic 16 1 (ps := []) (pc' := 33) (lv' := [(5, .ref 52), (0, .ref 0), (1, .int (nI 2)), (2, .int (nI g)), (3, .int w), (4, .int v)]) (st' := [.int (-2)]) (z' := z) rfl trivial ?_
        subst xhQ
        exact ww_iret xCC okX5_republic 17 xhr rfl rfl ⟨_, rfl, (by rw [sRep_b (by have q9 := sTI (k := 2) (by decide); omega)]; exact ⟨rfl, hr, KU_rf z⟩)⟩
    · skip
      have h44 : ¬ (0 ≤ y.toInt ∧ y.toInt ≤ 2) := h44
      refine ww_br xCC okX5_republic 10 (P := 0 = 0) (t1 := 31) (t2 := 21) (r := []) rfl (fun _ => ?_) (fun q => absurd (by decide) q)
      refine ww_blk xCC okX5_republic 16 1 (ps := []) (pc' := 33) (lv' := [(5, .ref 52), (0, .ref 0), (1, .int (nI 2)), (2, .int y), (3, .int w), (4, .int v)]) (st' := [.int (-2)]) (z' := z) rfl trivial ?_
      subst xhQ
      exact ww_iret xCC okX5_republic 17 xhr rfl rfl ⟨_, rfl, (by rw [sRep_b (by have q9 := sTI (k := 2) (by decide); omega)]; exact ⟨rfl, hr, KU_rf z⟩)⟩
  · skip
    rw [hr9]
    subst hx
    show ww xp l xe (xRm (d + 2)) xs xm xar xbl xme xc 9 xD xcs xad shX xAA xQ 5 [(0, .ref 0), (1, .int (nI 3)), (2, .int y), (3, .int w), (4, .int v)] [.ref 54] z
    refine ww_blk xCC okX5_republic 3 3 (ps := []) (pc' := 12) (lv' := [(5, .ref 54), (0, .ref 0), (1, .int (nI 3)), (2, .int y), (3, .int w), (4, .int v)]) (st' := []) (z' := z) rfl trivial ?_
    refine ww_blk xCC okX5_republic 6 3 (ps := []) (pc' := 15) (lv' := [(5, .ref 54), (0, .ref 0), (1, .int (nI 3)), (2, .int y), (3, .int w), (4, .int v)]) (st' := [.int 2, .int 0, .int y]) (z' := z) rfl trivial ?_
    refine ww_callSNz xCC okX5_republic 9 (ix := 52) (t_X5_within l d y 0 2 _) (by omega) (by decide) xyX5_within xiX5_within (Or.inl (lw_gt_of (List.mem_of_getElem? (i := 327) (by decide +kernel)) rfl)) rfl (rest := []) rfl (Nat.le_of_ble_eq_true rfl) rfl (fun z63 h64 => ?_) (fun z63 h64 => ?_)
    · skip
      have h64 : 0 ≤ y.toInt ∧ y.toInt ≤ 2 := h64
      obtain ⟨g, hg, rfl⟩ := sNN (x := y) (n := 3) (by omega) (by omega)
      refine ww_br xCC okX5_republic 10 (P := 1 = 0) (t1 := 31) (t2 := 21) (r := []) rfl (fun q => absurd q (by decide)) (fun _ => ?_)
      refine ww_blk xCC okX5_republic 11 3 (ps := []) (pc' := 25) (lv' := [(5, .ref 54), (0, .ref 0), (1, .int (nI 3)), (2, .int (nI g)), (3, .int w), (4, .int v)]) (st' := [.int 4, .int 0, .int v]) (z' := z) rfl trivial ?_
      refine ww_callSNz xCC okX5_republic 14 (ix := 52) (t_X5_within l d v 0 4 _) (by omega) (by decide) xyX5_within xiX5_within (Or.inl (lw_gt_of (List.mem_of_getElem? (i := 327) (by decide +kernel)) rfl)) rfl (rest := []) rfl (Nat.le_of_ble_eq_true rfl) rfl (fun z66 h67 => ?_) (fun z66 h67 => ?_)
      · skip
        have h67 : 0 ≤ v.toInt ∧ v.toInt ≤ 4 := h67
        obtain ⟨m, hm4, rfl⟩ := sNN (x := v) (n := 5) (by omega) (by omega)
        refine ww_br xCC okX5_republic 15 (P := 1 = 0) (t1 := 31) (t2 := 34) (r := []) rfl (fun q => absurd q (by decide)) (fun _ => ?_)
        refine ww_blk xCC okX5_republic 18 3 (ps := []) (pc' := 40) (lv' := [(5, .ref 54), (0, .ref 0), (1, .int (nI 3)), (2, .int (nI g)), (3, .int w), (4, .int (nI m))]) (st' := [.int (-1), .int (z.1 54 0)]) (z' := z) rfl trivial ?_
        rw [show z.1 54 0 = cI (T 3).1 from (hT 3 (by decide)).2.1]
        refine ww_br xCC okX5_republic 21 (P := (cI (T 3).1) = (-1)) (t1 := 43) (t2 := 46) (r := []) rfl (fun c69 => ?_) (fun c69 => ?_)
        · skip
          have h0 := cI_m (by have q0 := (hT 0 (by decide)).1; have q1 := (hT 1 (by decide)).1; have q2 := (hT 2 (by decide)).1; have q3 := (hT 3 (by decide)).1; omega) c69
          refine ww_blk xCC okX5_republic 22 1 (ps := []) (pc' := 45) (lv' := [(5, .ref 54), (0, .ref 0), (1, .int (nI 3)), (2, .int (nI g)), (3, .int w), (4, .int (nI m))]) (st' := [.int (-11)]) (z' := z) rfl trivial ?_
          subst xhQ
          exact ww_iret xCC okX5_republic 23 xhr rfl rfl ⟨_, rfl, (by rw [sRep_m (by decide) (by omega) (by omega) h0]; exact ⟨rfl, hr, KU_rf z⟩)⟩
        · skip
          have h0 := cI_nm c69
          obtain ⟨n, k, it, hTs, hk2, hn40, hc0, hc1, hcI⟩ := SY_1 (hT 3 (by decide)) h0
          refine ww_blk xCC okX5_republic 24 3 (ps := []) (pc' := 52) (lv' := [(5, .ref 54), (0, .ref 0), (1, .int (nI 3)), (2, .int (nI g)), (3, .int w), (4, .int (nI m))]) (st' := [.int (nI g), .int (z.1 54 0)]) (z' := z) rfl trivial ?_
          rw [show z.1 54 0 = cI (T 3).1 from (hT 3 (by decide)).2.1]
          refine ww_br xCC okX5_republic 27 (P := (cI (T 3).1) = (nI g)) (t1 := 58) (t2 := 55) (r := []) rfl (fun c70 => ?_) (fun c70 => ?_)
          · skip
            have hkg : k = g := (hT_g hTs hk2 (by omega)).mp c70
            rcases (show w.toInt < 0 ∨ 0 ≤ w.toInt by omega) with hw0 | hw0
            · skip
              refine ww_blk xCC okX5_republic 30 6 (ps := []) (pc' := 68) (lv' := [(7, .int 0), (6, .int 0), (5, .ref 54), (0, .ref 0), (1, .int (nI 3)), (2, .int (nI g)), (3, .int w), (4, .int (nI m))]) (st' := [.int (nI m), .int 0]) (z' := z) rfl trivial ?_
              refine ww_br xCC okX5_republic 36 (P := (nI m) ≤ 0) (t1 := 127) (t2 := 71) (r := []) rfl (fun c71 => ?_) (fun c71 => ?_)
              · skip
                replace c71 : m ≤ 0 := (sLE (a := m) (b := 0) (by omega) (by omega)).mp c71
                refine ww_blk xCC okX5_republic 66 1 (ps := []) (pc' := 129) (lv' := [(7, .int 0), (6, .int 0), (5, .ref 54), (0, .ref 0), (1, .int (nI 3)), (2, .int (nI g)), (3, .int w), (4, .int (nI m))]) (st' := [.int 0]) (z' := z) rfl trivial ?_
                subst xhQ
                exact ww_iret xCC okX5_republic 67 xhr rfl rfl ⟨_, rfl, (by rw [sRep_n (by decide) (by omega) (by omega) hTs hkg hw0, if_pos (by omega)]; exact ⟨rfl, hr, KU_rf z⟩)⟩
              · skip
                replace c71 : ¬ m ≤ 0 := fun q => c71 ((sLE (a := m) (b := 0) (by omega) (by omega)).mpr q)
                refine ww_blk xCC okX5_republic 37 9 (ps := []) (pc' := 84) (lv' := [(8, .int (w + (2 * 0))), (7, .int 0), (6, .int 0), (5, .ref 54), (0, .ref 0), (1, .int (nI 3)), (2, .int (nI g)), (3, .int w), (4, .int (nI m))]) (st' := [.int 2, .int (w + (2 * 0)), .ref 54]) (z' := z) rfl trivial ?_
                rw [show w + 2 * (0 : Int32) = w by rw [show (2 : Int32) * 0 = 0 from rfl, Int32.add_zero]]
                refine ww_callVEz xCC okX5_republic 46 (ix := 236) (t_X2_has l d w 2 n (xPull (esS 3) z) hn40 hc1) (by omega) (by decide) xyX2_has xiX2_has (Or.inr (List.mem_of_getElem? (i := 779) (by decide +kernel))) (by decide +kernel) (by decide) (fun q => by cases q) (q0 := 54) rfl rfl rfl rfl (rest := []) rfl (Nat.le_of_ble_eq_true rfl) rfl (fun z72 h73 => ?_) (fun z72 h73 => ?_)
                · skip
                  rw [h73.2, xB_id]
                  replace h73 := h73.1
                  exact absurd h73.1 (by omega)
                · skip
                  rw [h73.2, xB_id]
                  replace h73 := h73.1
                  refine ww_br xCC okX5_republic 47 (P := 0 = 0) (t1 := 90) (t2 := 93) (r := []) rfl (fun _ => ?_) (fun q => absurd (by decide) q)
                  refine ww_blk xCC okX5_republic 48 1 (ps := []) (pc' := 92) (lv' := [(8, .int w), (7, .int 0), (6, .int 0), (5, .ref 54), (0, .ref 0), (1, .int (nI 3)), (2, .int (nI g)), (3, .int w), (4, .int (nI m))]) (st' := [.int (-12)]) (z' := z) rfl trivial ?_
                  subst xhQ
                  exact ww_iret xCC okX5_republic 49 xhr rfl rfl ⟨_, rfl, (by rw [sRep_n (by decide) (by omega) (by omega) hTs hkg hw0, if_neg (by omega)]; exact ⟨rfl, hr, KU_rf z⟩)⟩
            · skip
              obtain ⟨a, ha31, rfl⟩ := sNN31 (x := w) (by omega)
              refine ww_blk xCC okX5_republic 30 4 (ps := []) (pc' := 64) (lv' := [(7, .int 0), (6, .int 0), (5, .ref 54), (0, .ref 0), (1, .int (nI 3)), (2, .int (nI g)), (3, .int (nI a)), (4, .int (nI m))]) (st' := []) (z' := z) rfl trivial ?_
              have L64 : ∀ (n64 : Nat) (e : Nat) (r : sR) (c : Nat) (zL : xMem), m - e < n64 → (sRq it n a m 0 r0 0 = sRq it n a (m - e) e r c) → (RX zL 19 r) → (KU UN z zL) → (r 7 4 ≤ 4) → (e ≤ m) → (a + 2 * e < 2 ^ 31) → ww xp l xe (xRm (d + 2)) xs xm xar xbl xme xc 9 xD xcs xad shX xAA xQ 64 [(7, .int (nI e)), (6, .int (nI c)), (5, .ref 54), (0, .ref 0), (1, .int (nI 3)), (2, .int (nI g)), (3, .int (nI a)), (4, .int (nI m))] [] zL := by
                intro n64
                induction n64 with
                | zero =>
                  intro e r c zL hmu64
                  exact absurd hmu64 (Nat.not_lt_zero _)
                | succ n64 ih64 =>
                  intro e r c zL hmu64 e64_0 e64_1 e64_2 e64_3 e64_4 e64_5
                  refine ww_blk xCC okX5_republic 34 2 (ps := []) (pc' := 68) (lv' := [(7, .int (nI e)), (6, .int (nI c)), (5, .ref 54), (0, .ref 0), (1, .int (nI 3)), (2, .int (nI g)), (3, .int (nI a)), (4, .int (nI m))]) (st' := [.int (nI m), .int (nI e)]) (z' := zL) rfl trivial ?_
                  refine ww_br xCC okX5_republic 36 (P := (nI m) ≤ (nI e)) (t1 := 127) (t2 := 71) (r := []) rfl (fun c75 => ?_) (fun c75 => ?_)
                  · skip
                    replace c75 : m ≤ e := (sLE (a := m) (b := e) (by omega) (by omega)).mp c75
                    refine ww_blk xCC okX5_republic 66 1 (ps := []) (pc' := 129) (lv' := [(7, .int (nI e)), (6, .int (nI c)), (5, .ref 54), (0, .ref 0), (1, .int (nI 3)), (2, .int (nI g)), (3, .int (nI a)), (4, .int (nI m))]) (st' := [.int (nI c)]) (z' := zL) rfl trivial ?_
                    subst xhQ
                    exact ww_iret xCC okX5_republic 67 xhr rfl rfl ⟨_, rfl, (by rw [sRep_y (by decide) (by omega) (by omega) ha31 hTs hkg, e64_0, show m - e = 0 by omega]; exact ⟨rfl, e64_1, e64_2⟩)⟩
                  · skip
                    replace c75 : ¬ m ≤ e := fun q => c75 ((sLE (a := m) (b := e) (by omega) (by omega)).mpr q)
                    refine ww_blk xCC okX5_republic 37 9 (ps := []) (pc' := 84) (lv' := [(8, .int ((nI a) + (2 * (nI e)))), (7, .int (nI e)), (6, .int (nI c)), (5, .ref 54), (0, .ref 0), (1, .int (nI 3)), (2, .int (nI g)), (3, .int (nI a)), (4, .int (nI m))]) (st' := [.int 2, .int ((nI a) + (2 * (nI e))), .ref 54]) (z' := zL) rfl trivial ?_
                    rw [show (2 : Int32) * nI e = nI (2 * e) from pk_mul 2 e]
                    rw [nI_add a (2 * e)]
                    refine ww_callVEz xCC okX5_republic 46 (ix := 236) (t_X2_has l d (nI (a + (2 * e))) 2 n (xPull (esS 3) zL) hn40 ((congrFun (e64_2 54 (by decide)) 1).trans hc1)) (by omega) (by decide) xyX2_has xiX2_has (Or.inr (List.mem_of_getElem? (i := 779) (by decide +kernel))) (by decide +kernel) (by decide) (fun q => by cases q) (q0 := 54) rfl rfl rfl rfl (rest := []) rfl (Nat.le_of_ble_eq_true rfl) rfl (fun z76 h77 => ?_) (fun z76 h77 => ?_)
                    · skip
                      rw [h77.2, xB_id]
                      replace h77 := h77.1
                      rw [sTI (k := a + 2 * e) (by omega)] at h77
                      have hle : a + 2 * e + 2 ≤ n := (by have q := (show (2 : Int32).toInt = 2 from rfl); omega)
                      have hI0 : zL.1 55 (a + 2 * e) = it (a + 2 * e) := (congrFun (e64_2 55 (by decide)) _).trans (hcI _ (by omega))
                      have hI1 : zL.1 55 (a + 2 * e + 1) = it (a + 2 * e + 1) := (congrFun (e64_2 55 (by decide)) _).trans (hcI _ (by omega))
                      refine ww_br xCC okX5_republic 47 (P := 1 = 0) (t1 := 90) (t2 := 93) (r := []) rfl (fun q => absurd q (by decide)) (fun _ => ?_)
                      refine ww_blk xCC okX5_republic 50 11 (ps := [vp_in (nI (a + (2 * e))) 40, vp_in ((nI (a + (2 * e))) + 1) 40]) (pc' := 112) (lv' := [(8, .int (nI (a + (2 * e)))), (7, .int (nI e)), (6, .int (nI c)), (5, .ref 54), (0, .ref 0), (1, .int (nI 3)), (2, .int (nI g)), (3, .int (nI a)), (4, .int (nI m))]) (st' := [.int (zL.1 55 ((nI (a + (2 * e))) + 1).toNatClampNeg), .int (zL.1 55 (nI (a + (2 * e))).toNatClampNeg), .ref 0]) (z' := zL) rfl ⟨(vp_in_nI (by omega) (by decide)), (by rw [show nI (a + 2 * e) + 1 = nI (a + 2 * e + 1) from nI_add _ 1]; exact vp_in_nI (by omega) (by decide))⟩ ?_
                      rw [show nI (a + (2 * e)) + (1 : Int32) = nI ((a + (2 * e)) + 1) from nI_add (a + (2 * e)) 1]
                      rw [sCL (n := ((a + (2 * e)) + 1)) (by omega)]
                      rw [hI1]
                      rw [sCL (n := (a + (2 * e))) (by omega)]
                      rw [hI0]
                      refine ww_callVIi xCC okX5_republic 61 (ix := 248) (t_X5_person l d (it (a + 2 * e)) (it (a + 2 * e + 1)) zL r e64_1 e64_3) (by omega) (by decide) xyX5_person xiX5_person (Or.inl (lw_gt_of (List.mem_of_getElem? (i := 789) (by decide +kernel)) rfl)) rfl rfl rfl (rest := []) rfl (Nat.le_of_ble_eq_true rfl) rfl (fun vP zP hP => ?_)
                      rw [hP.1]
                      refine ww_br xCC okX5_republic 62 (P := ((sPerson r (it (a + 2 * e)) (it (a + 2 * e + 1))).1) < 0) (t1 := 121) (t2 := 118) (r := []) rfl (fun c79 => ?_) (fun c79 => ?_)
                      · skip
                        have hv9 := sL0.mp c79
                        refine ww_blk xCC okX5_republic 64 2 (ps := []) (pc' := 64) (lv' := [(7, .int ((nI e) + 1)), (8, .int (nI (a + (2 * e)))), (6, .int (nI c)), (5, .ref 54), (0, .ref 0), (1, .int (nI 3)), (2, .int (nI g)), (3, .int (nI a)), (4, .int (nI m))]) (st' := []) (z' := zP) rfl trivial ?_
                        rw [show nI e + (1 : Int32) = nI (e + 1) from nI_add e 1]
                        exact ww_cut [0, 2, 3, 4, 5, 6, 7, 8] (xlc rfl (xlc rfl (xlc rfl (xlc rfl (xlc rfl (xlc rfl (xlc rfl (xlc rfl rfl)))))))) rfl rfl (ih64 (e + 1) ((sPerson r (it (a + 2 * e)) (it (a + 2 * e + 1))).2) c zP (by omega) (e64_0.trans (sRq_n (by omega) hle hv9)) hP.2.1 (KU_tr e64_2 hP.2.2) (sPerson_4 e64_3) (by omega) (by omega))
                      · skip
                        have hv9 : ¬ (sPerson r (it (a + 2 * e)) (it (a + 2 * e + 1))).1.toInt < 0 := fun q => c79 (sL0.mpr q)
                        refine ww_blk xCC okX5_republic 63 3 (ps := []) (pc' := 64) (lv' := [(7, .int ((nI e) + 1)), (6, .int ((nI c) + 1)), (8, .int (nI (a + (2 * e)))), (5, .ref 54), (0, .ref 0), (1, .int (nI 3)), (2, .int (nI g)), (3, .int (nI a)), (4, .int (nI m))]) (st' := []) (z' := zP) rfl trivial ?_
                        rw [show nI e + (1 : Int32) = nI (e + 1) from nI_add e 1]
                        rw [show nI c + (1 : Int32) = nI (c + 1) from nI_add c 1]
                        exact ww_cut [0, 1, 3, 4, 5, 6, 7, 8] (xlc rfl (xlc rfl (xlc rfl (xlc rfl (xlc rfl (xlc rfl (xlc rfl (xlc rfl rfl)))))))) rfl rfl (ih64 (e + 1) ((sPerson r (it (a + 2 * e)) (it (a + 2 * e + 1))).2) (c + 1) zP (by omega) (e64_0.trans (sRq_y (by omega) hle hv9)) hP.2.1 (KU_tr e64_2 hP.2.2) (sPerson_4 e64_3) (by omega) (by omega))
                    · skip
                      rw [h77.2, xB_id]
                      replace h77 := h77.1
                      rw [sTI (k := a + 2 * e) (by omega)] at h77
                      have hle : ¬ a + 2 * e + 2 ≤ n := (by have q := (show (2 : Int32).toInt = 2 from rfl); omega)
                      refine ww_br xCC okX5_republic 47 (P := 0 = 0) (t1 := 90) (t2 := 93) (r := []) rfl (fun _ => ?_) (fun q => absurd (by decide) q)
                      refine ww_blk xCC okX5_republic 48 1 (ps := []) (pc' := 92) (lv' := [(8, .int (nI (a + (2 * e)))), (7, .int (nI e)), (6, .int (nI c)), (5, .ref 54), (0, .ref 0), (1, .int (nI 3)), (2, .int (nI g)), (3, .int (nI a)), (4, .int (nI m))]) (st' := [.int (-12)]) (z' := zL) rfl trivial ?_
                      subst xhQ
                      exact ww_iret xCC okX5_republic 49 xhr rfl rfl ⟨_, rfl, (by rw [sRep_y (by decide) (by omega) (by omega) ha31 hTs hkg, e64_0, sRq_o (by omega) hle]; exact ⟨rfl, e64_1, e64_2⟩)⟩
              exact ww_cut [0, 1, 2, 3, 4, 5, 6, 7] (xlc (congrArg Value.int (show (0 : Int32) = nI 0 from rfl)) (xlc (congrArg Value.int (show (0 : Int32) = nI 0 from rfl)) (xlc rfl (xlc rfl (xlc rfl (xlc rfl (xlc rfl (xlc rfl rfl)))))))) rfl rfl (L64 (m - 0 + 1) 0 r0 0 z (Nat.lt_succ_self _) rfl hr (KU_rf z) h74 (by omega) (by omega))
          · skip
            have hkg : k ≠ g := fun q => c70 ((hT_g hTs hk2 (by omega)).mpr q)
            refine ww_blk xCC okX5_republic 28 1 (ps := []) (pc' := 57) (lv' := [(5, .ref 54), (0, .ref 0), (1, .int (nI 3)), (2, .int (nI g)), (3, .int w), (4, .int (nI m))]) (st' := [.int (-13)]) (z' := z) rfl trivial ?_
            subst xhQ
            exact ww_iret xCC okX5_republic 29 xhr rfl rfl ⟨_, rfl, (by rw [sRep_s (by decide) (by omega) (by omega) hTs hkg]; exact ⟨rfl, hr, KU_rf z⟩)⟩
      · skip
        have h67 : ¬ (0 ≤ v.toInt ∧ v.toInt ≤ 4) := h67
        refine ww_br xCC okX5_republic 15 (P := 0 = 0) (t1 := 31) (t2 := 34) (r := []) rfl (fun _ => ?_) (fun q => absurd (by decide) q)
        refine ww_blk xCC okX5_republic 16 1 (ps := []) (pc' := 33) (lv' := [(5, .ref 54), (0, .ref 0), (1, .int (nI 3)), (2, .int (nI g)), (3, .int w), (4, .int v)]) (st' := [.int (-2)]) (z' := z) rfl trivial ?_
        subst xhQ
        exact ww_iret xCC okX5_republic 17 xhr rfl rfl ⟨_, rfl, (by rw [sRep_b (by have q9 := sTI (k := 3) (by decide); omega)]; exact ⟨rfl, hr, KU_rf z⟩)⟩
    · skip
      have h64 : ¬ (0 ≤ y.toInt ∧ y.toInt ≤ 2) := h64
      refine ww_br xCC okX5_republic 10 (P := 0 = 0) (t1 := 31) (t2 := 21) (r := []) rfl (fun _ => ?_) (fun q => absurd (by decide) q)
      refine ww_blk xCC okX5_republic 16 1 (ps := []) (pc' := 33) (lv' := [(5, .ref 54), (0, .ref 0), (1, .int (nI 3)), (2, .int y), (3, .int w), (4, .int v)]) (st' := [.int (-2)]) (z' := z) rfl trivial ?_
      subst xhQ
      exact ww_iret xCC okX5_republic 17 xhr rfl rfl ⟨_, rfl, (by rw [sRep_b (by have q9 := sTI (k := 3) (by decide); omega)]; exact ⟨rfl, hr, KU_rf z⟩)⟩
