/-! LawsLapse's film -/
def UM : List Nat := [16, 48, 49, 50, 51, 52, 53, 54, 55]
theorem SX_U {L : List Nat} {z z' : xMem} {T : Nat → sSh} (h : KU L z z') (hL : ∀ k, k < 8 → 48 + k ∉ L) (hT : SX z T) : SX z' T := fun s hs => SY_of (h _ (hL (2 * s) (by omega))) (by rw [Nat.add_assoc]; exact h _ (hL (2 * s + 1) (by omega))) (hT s hs)
theorem sShU_at {T : Nat → sSh} {s : Nat} {t : sSh} : sShU T s t s = t := by simp [sShU]
theorem SX_cg {z : xMem} {T : Nat → sSh} {s k n : Nat} {f g : Nat → Int32} (h : SX z (sShU T s (k, n, f))) (hg : ∀ i, i < n → f i = g i) : SX z (sShU T s (k, n, g)) := by
  intro u hu
  have q := h u hu
  by_cases e : u = s
  · subst e
    rw [sShU_at] at q ⊢
    obtain ⟨h1, h2, h3⟩ := q
    refine ⟨h1, h2, ?_⟩
    rcases h3 with h3 | ⟨h4, h5, h6⟩
    · exact Or.inl h3
    · exact Or.inr ⟨h4, h5, fun i hi => (h6 i hi).trans (hg i hi)⟩
  · rw [show sShU T s (k, n, g) u = T u by simp [sShU, e]]
    rw [show sShU T s (k, n, f) u = T u by simp [sShU, e]] at q
    exact q
theorem fl_0 {tc : Nat → sTc} {r : sR} {p : Nat} : (fun j => if j < 0 then sCn tc r p j else 0) = fun _ => 0 := by funext j; simp
theorem sN9 : ∀ n, n < 1000 → ¬ nI n = -1 ∧ sNar 1 (nI n) = nI n := by decide +kernel
theorem sCn_16 {tc : Nat → sTc} {r : sR} {p i : Nat} : sNar 1 (sCn tc r p i) = sCn tc r p i := by
  unfold sCn
  split
  · have h := cN_bd tc r p i
    rw [cN_eq]
    exact (sN9 _ (by omega)).2
  · decide
theorem sCn_m {tc : Nat → sTc} {r : sR} {p i : Nat} (h : sCn tc r p i = -1) : sDares tc r p i = false := by
  unfold sCn at h
  split at h
  · have h9 := cN_bd tc r p i
    rw [cN_eq] at h
    exact absurd h (sN9 _ (by omega)).1
  · rename_i q; simpa using q
theorem sCn_nm {tc : Nat → sTc} {r : sR} {p i : Nat} (h : ¬ sCn tc r p i = -1) : sDares tc r p i = true := by
  unfold sCn at h
  split at h
  · assumption
  · exact absurd rfl h
theorem fl_c0 {tc : Nat → sTc} {r : sR} {p i : Nat} (h : sDares tc r p i = false) : nI (sCt (fun d => sDares tc r p d) i) = nI (sCt (fun d => sDares tc r p d) (i + 1)) := by rw [sCt, if_neg (by rw [h]; decide)]
theorem fl_c1 {tc : Nat → sTc} {r : sR} {p i : Nat} (h : sDares tc r p i = true) : nI (sCt (fun d => sDares tc r p d) i + 1) = nI (sCt (fun d => sDares tc r p d) (i + 1)) := by rw [sCt, if_pos h]
theorem fl_s {tc : Nat → sTc} {r : sR} {T : Nat → sSh} {s p i : Nat} : sShU (sShU T s (2, 10, fun j => if j < i then sCn tc r p j else 0)) s (1 + 1, 10, fun j => if j = i then sNar 1 (sCn tc r p i) else if j < i then sCn tc r p j else 0) = sShU T s (2, 10, fun j => if j < i + 1 then sCn tc r p j else 0) := by
  have e : (fun j => if j = i then sNar 1 (sCn tc r p i) else if j < i then sCn tc r p j else 0) = fun j => if j < i + 1 then sCn tc r p j else 0 := by
    funext j
    by_cases q : j = i
    · rw [if_pos q, if_pos (by omega), sCn_16, q]
    · rw [if_neg q]
      by_cases q2 : j < i
      · rw [if_pos q2, if_pos (by omega)]
      · rw [if_neg q2, if_neg (by omega)]
  rw [e]
  funext u
  by_cases q : u = s <;> simp [sShU, q]
set_option maxHeartbeats 4000000 in
set_option maxRecDepth 20000 in
theorem t_X5_film (l : Launch) (d : Nat) (x y : Int32) (z : xMem) (r : sR) (cnt : Nat) (tc : Nat → sTc) (hr : RX z 19 r) (hw : sW r cnt) (ht : TX z 1 cnt tc) (T : Nat → sSh) (hT : SX z T) : XMi l (d + 5) yX5_film cX5_film 7 (some .int) shX [.ref 0, .int x, .int y] z (fun v9 z' => v9 = (sFilm tc r T x y).1 ∧ SX z' (sFilm tc r T x y).2 ∧ KU UM z z') := by
  refine XM.of (by decide) (Nat.le_of_ble_eq_true rfl) (fun xp xe xs xm xar xbl xme xc xD xcs xad xAA xCC xhr => ?_)
  generalize xhQ : MQ xbl _ xar xs 0 0 xAA = xQ
  show ww xp l xe (xRm (d + 5)) xs xm xar xbl xme xc 7 xD xcs xad shX xAA xQ 0 [(0, .ref 0), (1, .int x), (2, .int y)] [] z
  have hb := hw.1
  have h74 : r 7 4 ≤ 4 := hw.2.2.2.2.2.2.1
  refine ww_blk xCC okX5_film 0 2 (ps := []) (pc' := 2) (lv' := [(0, .ref 0), (1, .int x), (2, .int y)]) (st' := [.int x, .ref 0]) (z' := z) rfl trivial ?_
  refine ww_callVI xCC okX5_film 2 (ix := 192) (t_X5_sheetAt l d x z) (by omega) (by decide) xyX5_sheetAt xiX5_sheetAt (Or.inl (lw_gt_of (List.mem_of_getElem? (i := 692) (by decide +kernel)) rfl)) rfl rfl rfl (rest := []) rfl (Nat.le_of_ble_eq_true rfl) rfl (fun r9 z9 h9 => ?_)
  obtain ⟨hz9, hr9⟩ := h9
  rw [hz9]
  rcases hr9 with ⟨hx, hr9⟩ | ⟨hx, hr9⟩ | ⟨hx, hr9⟩ | ⟨hx, hr9⟩ | ⟨hx, hr9⟩
  · skip
    rw [hr9]
    show ww xp l xe (xRm (d + 5)) xs xm xar xbl xme xc 7 xD xcs xad shX xAA xQ 5 [(0, .ref 0), (1, .int x), (2, .int y)] [.null] z
    refine ww_blk xCC okX5_film 3 3 (ps := []) (pc' := 18) (lv' := [(3, .null), (0, .ref 0), (1, .int x), (2, .int y)]) (st' := []) (z' := z) rfl trivial ?_
    refine ww_blk xCC okX5_film 10 1 (ps := []) (pc' := 20) (lv' := [(3, .null), (0, .ref 0), (1, .int x), (2, .int y)]) (st' := [.int (-2)]) (z' := z) rfl trivial ?_
    subst xhQ
    exact ww_iret xCC okX5_film 11 xhr rfl rfl ⟨_, rfl, (by rw [sFilm_n (by omega)]; exact ⟨rfl, hT, KU_rf z⟩)⟩
  · skip
    rw [hr9]
    subst hx
    show ww xp l xe (xRm (d + 5)) xs xm xar xbl xme xc 7 xD xcs xad shX xAA xQ 5 [(0, .ref 0), (1, .int (nI 0)), (2, .int y)] [.ref 48] z
    refine ww_blk xCC okX5_film 3 3 (ps := []) (pc' := 10) (lv' := [(3, .ref 48), (0, .ref 0), (1, .int (nI 0)), (2, .int y)]) (st' := []) (z' := z) rfl trivial ?_
    refine ww_blk xCC okX5_film 6 2 (ps := []) (pc' := 12) (lv' := [(3, .ref 48), (0, .ref 0), (1, .int (nI 0)), (2, .int y)]) (st' := [.int y, .ref 0]) (z' := z) rfl trivial ?_
    refine ww_callVIz xCC okX5_film 8 (ix := 82) (t_X5_isOne l d y z (r 7 4) hr.2.2.2.2.2.2.2.2.2.2.2.2.1 h74) (by omega) (by decide) xyX5_isOne xiX5_isOne (Or.inl (lw_gt_of (List.mem_of_getElem? (i := 340) (by decide +kernel)) rfl)) rfl rfl rfl (rest := []) rfl (Nat.le_of_ble_eq_true rfl) rfl (fun zO hO => ?_) (fun zO hO => ?_)
    · skip
      rw [hO.2]
      obtain ⟨⟨hOa, hOb⟩, -⟩ := hO
      obtain ⟨p, hp, rfl⟩ := sNN (x := y) (n := r 7 4) hOa (by omega)
      refine ww_br xCC okX5_film 9 (P := 1 = 0) (t1 := 18) (t2 := 21) (r := []) rfl (fun q => absurd q (by decide)) (fun _ => ?_)
      refine ww_blk xCC okX5_film 12 3 (ps := []) (pc' := 25) (lv' := [(3, .ref 48), (0, .ref 0), (1, .int (nI 0)), (2, .int (nI p))]) (st' := [.int 10, .int 1, .ref 48]) (z' := z) rfl trivial ?_
      refine ww_callVEv xCC okX5_film 15 (ix := 219) (t_X2_become l d 1 10 (by decide) (xPull (esS 0) z)) (by omega) (by decide) xyX2_become xiX2_become (Or.inr (List.mem_of_getElem? (i := 724) (by decide +kernel))) (by decide +kernel) (by decide) (fun q => by cases q) (q0 := 48) rfl rfl rfl rfl (rest := []) rfl (Nat.le_of_ble_eq_true rfl) rfl (fun zB hB => ?_)
      obtain ⟨zF, hz⟩ : ∃ y, y = xBack (esS 0) (xHasRaw shS) z zB := ⟨_, rfl⟩
      rw [← hz]
      have hS := SX_new (s := 0) (by decide) hT hz (sx_y (g := 1) (n := 10) (by decide) (by decide) hB)
      refine ww_blk xCC okX5_film 16 4 (ps := []) (pc' := 34) (lv' := [(5, .int 0), (4, .int 0), (3, .ref 48), (0, .ref 0), (1, .int (nI 0)), (2, .int (nI p))]) (st' := []) (z' := zF) rfl trivial ?_
      have L34 : ∀ (n34 : Nat) (i : Nat) (zL : xMem), 10 - i < n34 → (i ≤ 10) → (SX zL (sShU T 0 (2, 10, fun j => if j < i then sCn tc r p j else 0))) → (KU UM z zL) → ww xp l xe (xRm (d + 5)) xs xm xar xbl xme xc 7 xD xcs xad shX xAA xQ 34 [(5, .int (nI i)), (4, .int (nI (sCt (fun d => sDares tc r p d) i))), (3, .ref 48), (0, .ref 0), (1, .int (nI 0)), (2, .int (nI p))] [] zL := by
        intro n34
        induction n34 with
        | zero =>
          intro i zL hmu34
          exact absurd hmu34 (Nat.not_lt_zero _)
        | succ n34 ih34 =>
          intro i zL hmu34 e34_0 e34_1 e34_2
          have hrL := RX_U e34_2 (by decide) hr
          have htL := TX_U e34_2 (by decide) ht
          refine ww_blk xCC okX5_film 20 2 (ps := []) (pc' := 38) (lv' := [(5, .int (nI i)), (4, .int (nI (sCt (fun d => sDares tc r p d) i))), (3, .ref 48), (0, .ref 0), (1, .int (nI 0)), (2, .int (nI p))]) (st' := [.int 10, .int (nI i)]) (z' := zL) rfl trivial ?_
          refine ww_br xCC okX5_film 22 (P := 10 ≤ (nI i)) (t1 := 76) (t2 := 41) (r := []) rfl (fun c5 => ?_) (fun c5 => ?_)
          · skip
            replace c5 : 10 ≤ i := (sLE (a := 10) (b := i) (by omega) (by omega)).mp c5
            refine ww_blk xCC okX5_film 39 1 (ps := []) (pc' := 78) (lv' := [(5, .int (nI i)), (4, .int (nI (sCt (fun d => sDares tc r p d) i))), (3, .ref 48), (0, .ref 0), (1, .int (nI 0)), (2, .int (nI p))]) (st' := [.int (nI (sCt (fun d => sDares tc r p d) i))]) (z' := zL) rfl trivial ?_
            subst xhQ
            exact ww_iret xCC okX5_film 40 xhr rfl rfl ⟨_, rfl, (by obtain rfl : i = 10 := (by omega); rw [sFilm_y (by decide) hp h74]; exact ⟨rfl, SX_cg e34_1 (fun j hj => if_pos hj), e34_2⟩)⟩
          · skip
            replace c5 : ¬ 10 ≤ i := fun q => c5 ((sLE (a := 10) (b := i) (by omega) (by omega)).mpr q)
            refine ww_blk xCC okX5_film 23 4 (ps := []) (pc' := 48) (lv' := [(5, .int (nI i)), (4, .int (nI (sCt (fun d => sDares tc r p d) i))), (3, .ref 48), (0, .ref 0), (1, .int (nI 0)), (2, .int (nI p))]) (st' := [.int (nI i), .int (nI p), .ref 19]) (z' := zL) rfl trivial ?_
            refine ww_callVEi xCC okX5_film 27 (ix := 222) (t_X0_costsOrNone l d p i (xPull esN zL) r cnt tc (RX_pull (by decide) hrL) hw (TX_pull (by decide) htL) (by omega) (by omega)) (by omega) (by decide) xyX0_costsOrNone xiX0_costsOrNone (Or.inr (List.mem_of_getElem? (i := 730) (by decide +kernel))) (by decide +kernel) (by decide) (fun q => by cases q) (q0 := 19) rfl rfl rfl rfl (rest := []) rfl (Nat.le_of_ble_eq_true rfl) rfl (fun vcC zcC hcC => ?_)
            have hkC := KU_esN_KN (rw := xHasRaw shR) hcC.2
            obtain ⟨zC, hzC⟩ : ∃ y, y = xBack esN (xHasRaw shR) zL zcC := ⟨_, rfl⟩
            rw [← hzC] at hkC ⊢
            rw [hcC.1]
            have hSC := SX_U hkC (by decide) e34_1
            have hkk := KU_tr e34_2 (KU_mo hkC (by decide))
            refine ww_blk xCC okX5_film 28 4 (ps := []) (pc' := 58) (lv' := [(6, .int (sCn tc r p i)), (5, .int (nI i)), (4, .int (nI (sCt (fun d => sDares tc r p d) i))), (3, .ref 48), (0, .ref 0), (1, .int (nI 0)), (2, .int (nI p))]) (st' := [.int (sCn tc r p i), .int (nI i), .ref 48]) (z' := zC) rfl trivial ?_
            have hY := hSC 0 (by decide)
            rw [sShU_at] at hY
            have hY3 := hY.2.2.resolve_left (by simp)
            refine ww_callVEv xCC okX5_film 32 (ix := 225) (t_X2_put l d i 1 (sCn tc r p i) 10 (xPull (esS 0) zC) (by decide) hY3.2.1 hY.2.1 (by decide) (by omega)) (by omega) (by decide) xyX2_put xiX2_put (Or.inr (List.mem_of_getElem? (i := 731) (by decide +kernel))) (by decide +kernel) (by decide) (fun q => by cases q) (q0 := 48) rfl rfl rfl rfl (rest := []) rfl (Nat.le_of_ble_eq_true rfl) rfl (fun zB2 hB2 => ?_)
            obtain ⟨zE, hz2⟩ : ∃ y, y = xBack (esS 0) (xHasRaw shS) zC zB2 := ⟨_, rfl⟩
            rw [← hz2]
            have hSE := SX_new (s := 0) (by decide) hSC hz2 (sx_p (k := 1) (n := 10) hB2 (by decide) (by decide) hY.2.1 hY3.2.1 hY3.2.2)
            rw [fl_s] at hSE
            refine ww_blk xCC okX5_film 33 2 (ps := []) (pc' := 64) (lv' := [(6, .int (sCn tc r p i)), (5, .int (nI i)), (4, .int (nI (sCt (fun d => sDares tc r p d) i))), (3, .ref 48), (0, .ref 0), (1, .int (nI 0)), (2, .int (nI p))]) (st' := [.int (-1), .int (sCn tc r p i)]) (z' := zE) rfl trivial ?_
            refine ww_br xCC okX5_film 35 (P := (sCn tc r p i) = (-1)) (t1 := 70) (t2 := 67) (r := []) rfl (fun c8 => ?_) (fun c8 => ?_)
            · skip
              have hc64 := c8
              refine ww_blk xCC okX5_film 37 2 (ps := []) (pc' := 34) (lv' := [(5, .int ((nI i) + 1)), (6, .int (sCn tc r p i)), (4, .int (nI (sCt (fun d => sDares tc r p d) i))), (3, .ref 48), (0, .ref 0), (1, .int (nI 0)), (2, .int (nI p))]) (st' := []) (z' := zE) rfl trivial ?_
              rw [show nI i + (1 : Int32) = nI (i + 1) from nI_add i 1]
              exact ww_cut [0, 2, 3, 4, 5, 6] (xlc rfl (xlc (congrArg Value.int (show (nI (sCt (fun d => sDares tc r p d) i) : Int32) = nI (sCt (fun d => sDares tc r p d) (i + 1)) from (fl_c0 (sCn_m hc64)))) (xlc rfl (xlc rfl (xlc rfl (xlc rfl rfl)))))) rfl rfl (ih34 (i + 1) zE (by omega) (by omega) hSE.1 (KU_tr hkk (KU_mo hSE.2 (by decide))))
            · skip
              have hc64 := c8
              refine ww_blk xCC okX5_film 36 3 (ps := []) (pc' := 34) (lv' := [(5, .int ((nI i) + 1)), (4, .int ((nI (sCt (fun d => sDares tc r p d) i)) + 1)), (6, .int (sCn tc r p i)), (3, .ref 48), (0, .ref 0), (1, .int (nI 0)), (2, .int (nI p))]) (st' := []) (z' := zE) rfl trivial ?_
              rw [show nI i + (1 : Int32) = nI (i + 1) from nI_add i 1]
              rw [show nI (sCt (fun d => sDares tc r p d) i) + (1 : Int32) = nI ((sCt (fun d => sDares tc r p d) i) + 1) from nI_add (sCt (fun d => sDares tc r p d) i) 1]
              exact ww_cut [0, 1, 3, 4, 5, 6] (xlc rfl (xlc (congrArg Value.int (show (nI ((sCt (fun d => sDares tc r p d) i) + 1) : Int32) = nI (sCt (fun d => sDares tc r p d) (i + 1)) from (fl_c1 (sCn_nm hc64)))) (xlc rfl (xlc rfl (xlc rfl (xlc rfl rfl)))))) rfl rfl (ih34 (i + 1) zE (by omega) (by omega) hSE.1 (KU_tr hkk (KU_mo hSE.2 (by decide))))
      exact ww_cut [0, 1, 2, 3, 4, 5] (xlc (congrArg Value.int (show (0 : Int32) = nI 0 from rfl)) (xlc (congrArg Value.int (show (0 : Int32) = nI (sCt (fun d => sDares tc r p d) 0) from rfl)) (xlc rfl (xlc rfl (xlc rfl (xlc rfl rfl)))))) rfl rfl (L34 (10 - 0 + 1) 0 zF (Nat.lt_succ_self _) (by omega) (by rw [fl_0]; exact hS.1) (KU_mo hS.2 (by decide)))
    · skip
      rw [hO.2]
      replace hO := hO.1
      refine ww_br xCC okX5_film 9 (P := 0 = 0) (t1 := 18) (t2 := 21) (r := []) rfl (fun _ => ?_) (fun q => absurd (by decide) q)
      refine ww_blk xCC okX5_film 10 1 (ps := []) (pc' := 20) (lv' := [(3, .ref 48), (0, .ref 0), (1, .int (nI 0)), (2, .int y)]) (st' := [.int (-2)]) (z' := z) rfl trivial ?_
      subst xhQ
      exact ww_iret xCC okX5_film 11 xhr rfl rfl ⟨_, rfl, (by rw [sFilm_n (by have q9 := sTI (k := 0) (by decide); omega)]; exact ⟨rfl, hT, KU_rf z⟩)⟩
  · skip
    rw [hr9]
    subst hx
    show ww xp l xe (xRm (d + 5)) xs xm xar xbl xme xc 7 xD xcs xad shX xAA xQ 5 [(0, .ref 0), (1, .int (nI 1)), (2, .int y)] [.ref 50] z
    refine ww_blk xCC okX5_film 3 3 (ps := []) (pc' := 10) (lv' := [(3, .ref 50), (0, .ref 0), (1, .int (nI 1)), (2, .int y)]) (st' := []) (z' := z) rfl trivial ?_
    refine ww_blk xCC okX5_film 6 2 (ps := []) (pc' := 12) (lv' := [(3, .ref 50), (0, .ref 0), (1, .int (nI 1)), (2, .int y)]) (st' := [.int y, .ref 0]) (z' := z) rfl trivial ?_
    refine ww_callVIz xCC okX5_film 8 (ix := 82) (t_X5_isOne l d y z (r 7 4) hr.2.2.2.2.2.2.2.2.2.2.2.2.1 h74) (by omega) (by decide) xyX5_isOne xiX5_isOne (Or.inl (lw_gt_of (List.mem_of_getElem? (i := 340) (by decide +kernel)) rfl)) rfl rfl rfl (rest := []) rfl (Nat.le_of_ble_eq_true rfl) rfl (fun zO hO => ?_) (fun zO hO => ?_)
    · skip
      rw [hO.2]
      obtain ⟨⟨hOa, hOb⟩, -⟩ := hO
      obtain ⟨p, hp, rfl⟩ := sNN (x := y) (n := r 7 4) hOa (by omega)
      refine ww_br xCC okX5_film 9 (P := 1 = 0) (t1 := 18) (t2 := 21) (r := []) rfl (fun q => absurd q (by decide)) (fun _ => ?_)
      refine ww_blk xCC okX5_film 12 3 (ps := []) (pc' := 25) (lv' := [(3, .ref 50), (0, .ref 0), (1, .int (nI 1)), (2, .int (nI p))]) (st' := [.int 10, .int 1, .ref 50]) (z' := z) rfl trivial ?_
      refine ww_callVEv xCC okX5_film 15 (ix := 219) (t_X2_become l d 1 10 (by decide) (xPull (esS 1) z)) (by omega) (by decide) xyX2_become xiX2_become (Or.inr (List.mem_of_getElem? (i := 724) (by decide +kernel))) (by decide +kernel) (by decide) (fun q => by cases q) (q0 := 50) rfl rfl rfl rfl (rest := []) rfl (Nat.le_of_ble_eq_true rfl) rfl (fun zB hB => ?_)
      obtain ⟨zF, hz⟩ : ∃ y, y = xBack (esS 1) (xHasRaw shS) z zB := ⟨_, rfl⟩
      rw [← hz]
      have hS := SX_new (s := 1) (by decide) hT hz (sx_y (g := 1) (n := 10) (by decide) (by decide) hB)
      refine ww_blk xCC okX5_film 16 4 (ps := []) (pc' := 34) (lv' := [(5, .int 0), (4, .int 0), (3, .ref 50), (0, .ref 0), (1, .int (nI 1)), (2, .int (nI p))]) (st' := []) (z' := zF) rfl trivial ?_
      have L34 : ∀ (n34 : Nat) (i : Nat) (zL : xMem), 10 - i < n34 → (i ≤ 10) → (SX zL (sShU T 1 (2, 10, fun j => if j < i then sCn tc r p j else 0))) → (KU UM z zL) → ww xp l xe (xRm (d + 5)) xs xm xar xbl xme xc 7 xD xcs xad shX xAA xQ 34 [(5, .int (nI i)), (4, .int (nI (sCt (fun d => sDares tc r p d) i))), (3, .ref 50), (0, .ref 0), (1, .int (nI 1)), (2, .int (nI p))] [] zL := by
        intro n34
        induction n34 with
        | zero =>
          intro i zL hmu34
          exact absurd hmu34 (Nat.not_lt_zero _)
        | succ n34 ih34 =>
          intro i zL hmu34 e34_0 e34_1 e34_2
          have hrL := RX_U e34_2 (by decide) hr
          have htL := TX_U e34_2 (by decide) ht
          refine ww_blk xCC okX5_film 20 2 (ps := []) (pc' := 38) (lv' := [(5, .int (nI i)), (4, .int (nI (sCt (fun d => sDares tc r p d) i))), (3, .ref 50), (0, .ref 0), (1, .int (nI 1)), (2, .int (nI p))]) (st' := [.int 10, .int (nI i)]) (z' := zL) rfl trivial ?_
          refine ww_br xCC okX5_film 22 (P := 10 ≤ (nI i)) (t1 := 76) (t2 := 41) (r := []) rfl (fun c12 => ?_) (fun c12 => ?_)
          · skip
            replace c12 : 10 ≤ i := (sLE (a := 10) (b := i) (by omega) (by omega)).mp c12
            refine ww_blk xCC okX5_film 39 1 (ps := []) (pc' := 78) (lv' := [(5, .int (nI i)), (4, .int (nI (sCt (fun d => sDares tc r p d) i))), (3, .ref 50), (0, .ref 0), (1, .int (nI 1)), (2, .int (nI p))]) (st' := [.int (nI (sCt (fun d => sDares tc r p d) i))]) (z' := zL) rfl trivial ?_
            subst xhQ
            exact ww_iret xCC okX5_film 40 xhr rfl rfl ⟨_, rfl, (by obtain rfl : i = 10 := (by omega); rw [sFilm_y (by decide) hp h74]; exact ⟨rfl, SX_cg e34_1 (fun j hj => if_pos hj), e34_2⟩)⟩
          · skip
            replace c12 : ¬ 10 ≤ i := fun q => c12 ((sLE (a := 10) (b := i) (by omega) (by omega)).mpr q)
            refine ww_blk xCC okX5_film 23 4 (ps := []) (pc' := 48) (lv' := [(5, .int (nI i)), (4, .int (nI (sCt (fun d => sDares tc r p d) i))), (3, .ref 50), (0, .ref 0), (1, .int (nI 1)), (2, .int (nI p))]) (st' := [.int (nI i), .int (nI p), .ref 19]) (z' := zL) rfl trivial ?_
            refine ww_callVEi xCC okX5_film 27 (ix := 222) (t_X0_costsOrNone l d p i (xPull esN zL) r cnt tc (RX_pull (by decide) hrL) hw (TX_pull (by decide) htL) (by omega) (by omega)) (by omega) (by decide) xyX0_costsOrNone xiX0_costsOrNone (Or.inr (List.mem_of_getElem? (i := 730) (by decide +kernel))) (by decide +kernel) (by decide) (fun q => by cases q) (q0 := 19) rfl rfl rfl rfl (rest := []) rfl (Nat.le_of_ble_eq_true rfl) rfl (fun vcC zcC hcC => ?_)
            have hkC := KU_esN_KN (rw := xHasRaw shR) hcC.2
            obtain ⟨zC, hzC⟩ : ∃ y, y = xBack esN (xHasRaw shR) zL zcC := ⟨_, rfl⟩
            rw [← hzC] at hkC ⊢
            rw [hcC.1]
            have hSC := SX_U hkC (by decide) e34_1
            have hkk := KU_tr e34_2 (KU_mo hkC (by decide))
            refine ww_blk xCC okX5_film 28 4 (ps := []) (pc' := 58) (lv' := [(6, .int (sCn tc r p i)), (5, .int (nI i)), (4, .int (nI (sCt (fun d => sDares tc r p d) i))), (3, .ref 50), (0, .ref 0), (1, .int (nI 1)), (2, .int (nI p))]) (st' := [.int (sCn tc r p i), .int (nI i), .ref 50]) (z' := zC) rfl trivial ?_
            have hY := hSC 1 (by decide)
            rw [sShU_at] at hY
            have hY3 := hY.2.2.resolve_left (by simp)
            refine ww_callVEv xCC okX5_film 32 (ix := 225) (t_X2_put l d i 1 (sCn tc r p i) 10 (xPull (esS 1) zC) (by decide) hY3.2.1 hY.2.1 (by decide) (by omega)) (by omega) (by decide) xyX2_put xiX2_put (Or.inr (List.mem_of_getElem? (i := 731) (by decide +kernel))) (by decide +kernel) (by decide) (fun q => by cases q) (q0 := 50) rfl rfl rfl rfl (rest := []) rfl (Nat.le_of_ble_eq_true rfl) rfl (fun zB2 hB2 => ?_)
            obtain ⟨zE, hz2⟩ : ∃ y, y = xBack (esS 1) (xHasRaw shS) zC zB2 := ⟨_, rfl⟩
            rw [← hz2]
            have hSE := SX_new (s := 1) (by decide) hSC hz2 (sx_p (k := 1) (n := 10) hB2 (by decide) (by decide) hY.2.1 hY3.2.1 hY3.2.2)
            rw [fl_s] at hSE
            refine ww_blk xCC okX5_film 33 2 (ps := []) (pc' := 64) (lv' := [(6, .int (sCn tc r p i)), (5, .int (nI i)), (4, .int (nI (sCt (fun d => sDares tc r p d) i))), (3, .ref 50), (0, .ref 0), (1, .int (nI 1)), (2, .int (nI p))]) (st' := [.int (-1), .int (sCn tc r p i)]) (z' := zE) rfl trivial ?_
            refine ww_br xCC okX5_film 35 (P := (sCn tc r p i) = (-1)) (t1 := 70) (t2 := 67) (r := []) rfl (fun c15 => ?_) (fun c15 => ?_)
            · skip
              have hc64 := c15
              refine ww_blk xCC okX5_film 37 2 (ps := []) (pc' := 34) (lv' := [(5, .int ((nI i) + 1)), (6, .int (sCn tc r p i)), (4, .int (nI (sCt (fun d => sDares tc r p d) i))), (3, .ref 50), (0, .ref 0), (1, .int (nI 1)), (2, .int (nI p))]) (st' := []) (z' := zE) rfl trivial ?_
              rw [show nI i + (1 : Int32) = nI (i + 1) from nI_add i 1]
              exact ww_cut [0, 2, 3, 4, 5, 6] (xlc rfl (xlc (congrArg Value.int (show (nI (sCt (fun d => sDares tc r p d) i) : Int32) = nI (sCt (fun d => sDares tc r p d) (i + 1)) from (fl_c0 (sCn_m hc64)))) (xlc rfl (xlc rfl (xlc rfl (xlc rfl rfl)))))) rfl rfl (ih34 (i + 1) zE (by omega) (by omega) hSE.1 (KU_tr hkk (KU_mo hSE.2 (by decide))))
            · skip
              have hc64 := c15
              refine ww_blk xCC okX5_film 36 3 (ps := []) (pc' := 34) (lv' := [(5, .int ((nI i) + 1)), (4, .int ((nI (sCt (fun d => sDares tc r p d) i)) + 1)), (6, .int (sCn tc r p i)), (3, .ref 50), (0, .ref 0), (1, .int (nI 1)), (2, .int (nI p))]) (st' := []) (z' := zE) rfl trivial ?_
              rw [show nI i + (1 : Int32) = nI (i + 1) from nI_add i 1]
              rw [show nI (sCt (fun d => sDares tc r p d) i) + (1 : Int32) = nI ((sCt (fun d => sDares tc r p d) i) + 1) from nI_add (sCt (fun d => sDares tc r p d) i) 1]
              exact ww_cut [0, 1, 3, 4, 5, 6] (xlc rfl (xlc (congrArg Value.int (show (nI ((sCt (fun d => sDares tc r p d) i) + 1) : Int32) = nI (sCt (fun d => sDares tc r p d) (i + 1)) from (fl_c1 (sCn_nm hc64)))) (xlc rfl (xlc rfl (xlc rfl (xlc rfl rfl)))))) rfl rfl (ih34 (i + 1) zE (by omega) (by omega) hSE.1 (KU_tr hkk (KU_mo hSE.2 (by decide))))
      exact ww_cut [0, 1, 2, 3, 4, 5] (xlc (congrArg Value.int (show (0 : Int32) = nI 0 from rfl)) (xlc (congrArg Value.int (show (0 : Int32) = nI (sCt (fun d => sDares tc r p d) 0) from rfl)) (xlc rfl (xlc rfl (xlc rfl (xlc rfl rfl)))))) rfl rfl (L34 (10 - 0 + 1) 0 zF (Nat.lt_succ_self _) (by omega) (by rw [fl_0]; exact hS.1) (KU_mo hS.2 (by decide)))
    · skip
      rw [hO.2]
      replace hO := hO.1
      refine ww_br xCC okX5_film 9 (P := 0 = 0) (t1 := 18) (t2 := 21) (r := []) rfl (fun _ => ?_) (fun q => absurd (by decide) q)
      refine ww_blk xCC okX5_film 10 1 (ps := []) (pc' := 20) (lv' := [(3, .ref 50), (0, .ref 0), (1, .int (nI 1)), (2, .int y)]) (st' := [.int (-2)]) (z' := z) rfl trivial ?_
      subst xhQ
      exact ww_iret xCC okX5_film 11 xhr rfl rfl ⟨_, rfl, (by rw [sFilm_n (by have q9 := sTI (k := 1) (by decide); omega)]; exact ⟨rfl, hT, KU_rf z⟩)⟩
  · skip
    rw [hr9]
    subst hx
    show ww xp l xe (xRm (d + 5)) xs xm xar xbl xme xc 7 xD xcs xad shX xAA xQ 5 [(0, .ref 0), (1, .int (nI 2)), (2, .int y)] [.ref 52] z
    refine ww_blk xCC okX5_film 3 3 (ps := []) (pc' := 10) (lv' := [(3, .ref 52), (0, .ref 0), (1, .int (nI 2)), (2, .int y)]) (st' := []) (z' := z) rfl trivial ?_
    refine ww_blk xCC okX5_film 6 2 (ps := []) (pc' := 12) (lv' := [(3, .ref 52), (0, .ref 0), (1, .int (nI 2)), (2, .int y)]) (st' := [.int y, .ref 0]) (z' := z) rfl trivial ?_
    refine ww_callVIz xCC okX5_film 8 (ix := 82) (t_X5_isOne l d y z (r 7 4) hr.2.2.2.2.2.2.2.2.2.2.2.2.1 h74) (by omega) (by decide) xyX5_isOne xiX5_isOne (Or.inl (lw_gt_of (List.mem_of_getElem? (i := 340) (by decide +kernel)) rfl)) rfl rfl rfl (rest := []) rfl (Nat.le_of_ble_eq_true rfl) rfl (fun zO hO => ?_) (fun zO hO => ?_)
    · skip
      rw [hO.2]
      obtain ⟨⟨hOa, hOb⟩, -⟩ := hO
      obtain ⟨p, hp, rfl⟩ := sNN (x := y) (n := r 7 4) hOa (by omega)
      refine ww_br xCC okX5_film 9 (P := 1 = 0) (t1 := 18) (t2 := 21) (r := []) rfl (fun q => absurd q (by decide)) (fun _ => ?_)
      refine ww_blk xCC okX5_film 12 3 (ps := []) (pc' := 25) (lv' := [(3, .ref 52), (0, .ref 0), (1, .int (nI 2)), (2, .int (nI p))]) (st' := [.int 10, .int 1, .ref 52]) (z' := z) rfl trivial ?_
      refine ww_callVEv xCC okX5_film 15 (ix := 219) (t_X2_become l d 1 10 (by decide) (xPull (esS 2) z)) (by omega) (by decide) xyX2_become xiX2_become (Or.inr (List.mem_of_getElem? (i := 724) (by decide +kernel))) (by decide +kernel) (by decide) (fun q => by cases q) (q0 := 52) rfl rfl rfl rfl (rest := []) rfl (Nat.le_of_ble_eq_true rfl) rfl (fun zB hB => ?_)
      obtain ⟨zF, hz⟩ : ∃ y, y = xBack (esS 2) (xHasRaw shS) z zB := ⟨_, rfl⟩
      rw [← hz]
      have hS := SX_new (s := 2) (by decide) hT hz (sx_y (g := 1) (n := 10) (by decide) (by decide) hB)
      refine ww_blk xCC okX5_film 16 4 (ps := []) (pc' := 34) (lv' := [(5, .int 0), (4, .int 0), (3, .ref 52), (0, .ref 0), (1, .int (nI 2)), (2, .int (nI p))]) (st' := []) (z' := zF) rfl trivial ?_
      have L34 : ∀ (n34 : Nat) (i : Nat) (zL : xMem), 10 - i < n34 → (i ≤ 10) → (SX zL (sShU T 2 (2, 10, fun j => if j < i then sCn tc r p j else 0))) → (KU UM z zL) → ww xp l xe (xRm (d + 5)) xs xm xar xbl xme xc 7 xD xcs xad shX xAA xQ 34 [(5, .int (nI i)), (4, .int (nI (sCt (fun d => sDares tc r p d) i))), (3, .ref 52), (0, .ref 0), (1, .int (nI 2)), (2, .int (nI p))] [] zL := by
        intro n34
        induction n34 with
        | zero =>
          intro i zL hmu34
          exact absurd hmu34 (Nat.not_lt_zero _)
        | succ n34 ih34 =>
          intro i zL hmu34 e34_0 e34_1 e34_2
          have hrL := RX_U e34_2 (by decide) hr
          have htL := TX_U e34_2 (by decide) ht
          refine ww_blk xCC okX5_film 20 2 (ps := []) (pc' := 38) (lv' := [(5, .int (nI i)), (4, .int (nI (sCt (fun d => sDares tc r p d) i))), (3, .ref 52), (0, .ref 0), (1, .int (nI 2)), (2, .int (nI p))]) (st' := [.int 10, .int (nI i)]) (z' := zL) rfl trivial ?_
          refine ww_br xCC okX5_film 22 (P := 10 ≤ (nI i)) (t1 := 76) (t2 := 41) (r := []) rfl (fun c19 => ?_) (fun c19 => ?_)
          · skip
            replace c19 : 10 ≤ i := (sLE (a := 10) (b := i) (by omega) (by omega)).mp c19
            refine ww_blk xCC okX5_film 39 1 (ps := []) (pc' := 78) (lv' := [(5, .int (nI i)), (4, .int (nI (sCt (fun d => sDares tc r p d) i))), (3, .ref 52), (0, .ref 0), (1, .int (nI 2)), (2, .int (nI p))]) (st' := [.int (nI (sCt (fun d => sDares tc r p d) i))]) (z' := zL) rfl trivial ?_
            subst xhQ
            exact ww_iret xCC okX5_film 40 xhr rfl rfl ⟨_, rfl, (by obtain rfl : i = 10 := (by omega); rw [sFilm_y (by decide) hp h74]; exact ⟨rfl, SX_cg e34_1 (fun j hj => if_pos hj), e34_2⟩)⟩
          · skip
            replace c19 : ¬ 10 ≤ i := fun q => c19 ((sLE (a := 10) (b := i) (by omega) (by omega)).mpr q)
            refine ww_blk xCC okX5_film 23 4 (ps := []) (pc' := 48) (lv' := [(5, .int (nI i)), (4, .int (nI (sCt (fun d => sDares tc r p d) i))), (3, .ref 52), (0, .ref 0), (1, .int (nI 2)), (2, .int (nI p))]) (st' := [.int (nI i), .int (nI p), .ref 19]) (z' := zL) rfl trivial ?_
            refine ww_callVEi xCC okX5_film 27 (ix := 222) (t_X0_costsOrNone l d p i (xPull esN zL) r cnt tc (RX_pull (by decide) hrL) hw (TX_pull (by decide) htL) (by omega) (by omega)) (by omega) (by decide) xyX0_costsOrNone xiX0_costsOrNone (Or.inr (List.mem_of_getElem? (i := 730) (by decide +kernel))) (by decide +kernel) (by decide) (fun q => by cases q) (q0 := 19) rfl rfl rfl rfl (rest := []) rfl (Nat.le_of_ble_eq_true rfl) rfl (fun vcC zcC hcC => ?_)
            have hkC := KU_esN_KN (rw := xHasRaw shR) hcC.2
            obtain ⟨zC, hzC⟩ : ∃ y, y = xBack esN (xHasRaw shR) zL zcC := ⟨_, rfl⟩
            rw [← hzC] at hkC ⊢
            rw [hcC.1]
            have hSC := SX_U hkC (by decide) e34_1
            have hkk := KU_tr e34_2 (KU_mo hkC (by decide))
            refine ww_blk xCC okX5_film 28 4 (ps := []) (pc' := 58) (lv' := [(6, .int (sCn tc r p i)), (5, .int (nI i)), (4, .int (nI (sCt (fun d => sDares tc r p d) i))), (3, .ref 52), (0, .ref 0), (1, .int (nI 2)), (2, .int (nI p))]) (st' := [.int (sCn tc r p i), .int (nI i), .ref 52]) (z' := zC) rfl trivial ?_
            have hY := hSC 2 (by decide)
            rw [sShU_at] at hY
            have hY3 := hY.2.2.resolve_left (by simp)
            refine ww_callVEv xCC okX5_film 32 (ix := 225) (t_X2_put l d i 1 (sCn tc r p i) 10 (xPull (esS 2) zC) (by decide) hY3.2.1 hY.2.1 (by decide) (by omega)) (by omega) (by decide) xyX2_put xiX2_put (Or.inr (List.mem_of_getElem? (i := 731) (by decide +kernel))) (by decide +kernel) (by decide) (fun q => by cases q) (q0 := 52) rfl rfl rfl rfl (rest := []) rfl (Nat.le_of_ble_eq_true rfl) rfl (fun zB2 hB2 => ?_)
            obtain ⟨zE, hz2⟩ : ∃ y, y = xBack (esS 2) (xHasRaw shS) zC zB2 := ⟨_, rfl⟩
            rw [← hz2]
            have hSE := SX_new (s := 2) (by decide) hSC hz2 (sx_p (k := 1) (n := 10) hB2 (by decide) (by decide) hY.2.1 hY3.2.1 hY3.2.2)
            rw [fl_s] at hSE
            refine ww_blk xCC okX5_film 33 2 (ps := []) (pc' := 64) (lv' := [(6, .int (sCn tc r p i)), (5, .int (nI i)), (4, .int (nI (sCt (fun d => sDares tc r p d) i))), (3, .ref 52), (0, .ref 0), (1, .int (nI 2)), (2, .int (nI p))]) (st' := [.int (-1), .int (sCn tc r p i)]) (z' := zE) rfl trivial ?_
            refine ww_br xCC okX5_film 35 (P := (sCn tc r p i) = (-1)) (t1 := 70) (t2 := 67) (r := []) rfl (fun c22 => ?_) (fun c22 => ?_)
            · skip
              have hc64 := c22
              refine ww_blk xCC okX5_film 37 2 (ps := []) (pc' := 34) (lv' := [(5, .int ((nI i) + 1)), (6, .int (sCn tc r p i)), (4, .int (nI (sCt (fun d => sDares tc r p d) i))), (3, .ref 52), (0, .ref 0), (1, .int (nI 2)), (2, .int (nI p))]) (st' := []) (z' := zE) rfl trivial ?_
              rw [show nI i + (1 : Int32) = nI (i + 1) from nI_add i 1]
              exact ww_cut [0, 2, 3, 4, 5, 6] (xlc rfl (xlc (congrArg Value.int (show (nI (sCt (fun d => sDares tc r p d) i) : Int32) = nI (sCt (fun d => sDares tc r p d) (i + 1)) from (fl_c0 (sCn_m hc64)))) (xlc rfl (xlc rfl (xlc rfl (xlc rfl rfl)))))) rfl rfl (ih34 (i + 1) zE (by omega) (by omega) hSE.1 (KU_tr hkk (KU_mo hSE.2 (by decide))))
            · skip
              have hc64 := c22
              refine ww_blk xCC okX5_film 36 3 (ps := []) (pc' := 34) (lv' := [(5, .int ((nI i) + 1)), (4, .int ((nI (sCt (fun d => sDares tc r p d) i)) + 1)), (6, .int (sCn tc r p i)), (3, .ref 52), (0, .ref 0), (1, .int (nI 2)), (2, .int (nI p))]) (st' := []) (z' := zE) rfl trivial ?_
              rw [show nI i + (1 : Int32) = nI (i + 1) from nI_add i 1]
              rw [show nI (sCt (fun d => sDares tc r p d) i) + (1 : Int32) = nI ((sCt (fun d => sDares tc r p d) i) + 1) from nI_add (sCt (fun d => sDares tc r p d) i) 1]
              exact ww_cut [0, 1, 3, 4, 5, 6] (xlc rfl (xlc (congrArg Value.int (show (nI ((sCt (fun d => sDares tc r p d) i) + 1) : Int32) = nI (sCt (fun d => sDares tc r p d) (i + 1)) from (fl_c1 (sCn_nm hc64)))) (xlc rfl (xlc rfl (xlc rfl (xlc rfl rfl)))))) rfl rfl (ih34 (i + 1) zE (by omega) (by omega) hSE.1 (KU_tr hkk (KU_mo hSE.2 (by decide))))
      exact ww_cut [0, 1, 2, 3, 4, 5] (xlc (congrArg Value.int (show (0 : Int32) = nI 0 from rfl)) (xlc (congrArg Value.int (show (0 : Int32) = nI (sCt (fun d => sDares tc r p d) 0) from rfl)) (xlc rfl (xlc rfl (xlc rfl (xlc rfl rfl)))))) rfl rfl (L34 (10 - 0 + 1) 0 zF (Nat.lt_succ_self _) (by omega) (by rw [fl_0]; exact hS.1) (KU_mo hS.2 (by decide)))
    · skip
      rw [hO.2]
      replace hO := hO.1
      refine ww_br xCC okX5_film 9 (P := 0 = 0) (t1 := 18) (t2 := 21) (r := []) rfl (fun _ => ?_) (fun q => absurd (by decide) q)
      refine ww_blk xCC okX5_film 10 1 (ps := []) (pc' := 20) (lv' := [(3, .ref 52), (0, .ref 0), (1, .int (nI 2)), (2, .int y)]) (st' := [.int (-2)]) (z' := z) rfl trivial ?_
      subst xhQ
      exact ww_iret xCC okX5_film 11 xhr rfl rfl ⟨_, rfl, (by rw [sFilm_n (by have q9 := sTI (k := 2) (by decide); omega)]; exact ⟨rfl, hT, KU_rf z⟩)⟩
  · skip
    rw [hr9]
    subst hx
    show ww xp l xe (xRm (d + 5)) xs xm xar xbl xme xc 7 xD xcs xad shX xAA xQ 5 [(0, .ref 0), (1, .int (nI 3)), (2, .int y)] [.ref 54] z
    refine ww_blk xCC okX5_film 3 3 (ps := []) (pc' := 10) (lv' := [(3, .ref 54), (0, .ref 0), (1, .int (nI 3)), (2, .int y)]) (st' := []) (z' := z) rfl trivial ?_
    refine ww_blk xCC okX5_film 6 2 (ps := []) (pc' := 12) (lv' := [(3, .ref 54), (0, .ref 0), (1, .int (nI 3)), (2, .int y)]) (st' := [.int y, .ref 0]) (z' := z) rfl trivial ?_
    refine ww_callVIz xCC okX5_film 8 (ix := 82) (t_X5_isOne l d y z (r 7 4) hr.2.2.2.2.2.2.2.2.2.2.2.2.1 h74) (by omega) (by decide) xyX5_isOne xiX5_isOne (Or.inl (lw_gt_of (List.mem_of_getElem? (i := 340) (by decide +kernel)) rfl)) rfl rfl rfl (rest := []) rfl (Nat.le_of_ble_eq_true rfl) rfl (fun zO hO => ?_) (fun zO hO => ?_)
    · skip
      rw [hO.2]
      obtain ⟨⟨hOa, hOb⟩, -⟩ := hO
      obtain ⟨p, hp, rfl⟩ := sNN (x := y) (n := r 7 4) hOa (by omega)
      refine ww_br xCC okX5_film 9 (P := 1 = 0) (t1 := 18) (t2 := 21) (r := []) rfl (fun q => absurd q (by decide)) (fun _ => ?_)
      refine ww_blk xCC okX5_film 12 3 (ps := []) (pc' := 25) (lv' := [(3, .ref 54), (0, .ref 0), (1, .int (nI 3)), (2, .int (nI p))]) (st' := [.int 10, .int 1, .ref 54]) (z' := z) rfl trivial ?_
      refine ww_callVEv xCC okX5_film 15 (ix := 219) (t_X2_become l d 1 10 (by decide) (xPull (esS 3) z)) (by omega) (by decide) xyX2_become xiX2_become (Or.inr (List.mem_of_getElem? (i := 724) (by decide +kernel))) (by decide +kernel) (by decide) (fun q => by cases q) (q0 := 54) rfl rfl rfl rfl (rest := []) rfl (Nat.le_of_ble_eq_true rfl) rfl (fun zB hB => ?_)
      obtain ⟨zF, hz⟩ : ∃ y, y = xBack (esS 3) (xHasRaw shS) z zB := ⟨_, rfl⟩
      rw [← hz]
      have hS := SX_new (s := 3) (by decide) hT hz (sx_y (g := 1) (n := 10) (by decide) (by decide) hB)
      refine ww_blk xCC okX5_film 16 4 (ps := []) (pc' := 34) (lv' := [(5, .int 0), (4, .int 0), (3, .ref 54), (0, .ref 0), (1, .int (nI 3)), (2, .int (nI p))]) (st' := []) (z' := zF) rfl trivial ?_
      have L34 : ∀ (n34 : Nat) (i : Nat) (zL : xMem), 10 - i < n34 → (i ≤ 10) → (SX zL (sShU T 3 (2, 10, fun j => if j < i then sCn tc r p j else 0))) → (KU UM z zL) → ww xp l xe (xRm (d + 5)) xs xm xar xbl xme xc 7 xD xcs xad shX xAA xQ 34 [(5, .int (nI i)), (4, .int (nI (sCt (fun d => sDares tc r p d) i))), (3, .ref 54), (0, .ref 0), (1, .int (nI 3)), (2, .int (nI p))] [] zL := by
        intro n34
        induction n34 with
        | zero =>
          intro i zL hmu34
          exact absurd hmu34 (Nat.not_lt_zero _)
        | succ n34 ih34 =>
          intro i zL hmu34 e34_0 e34_1 e34_2
          have hrL := RX_U e34_2 (by decide) hr
          have htL := TX_U e34_2 (by decide) ht
          refine ww_blk xCC okX5_film 20 2 (ps := []) (pc' := 38) (lv' := [(5, .int (nI i)), (4, .int (nI (sCt (fun d => sDares tc r p d) i))), (3, .ref 54), (0, .ref 0), (1, .int (nI 3)), (2, .int (nI p))]) (st' := [.int 10, .int (nI i)]) (z' := zL) rfl trivial ?_
          refine ww_br xCC okX5_film 22 (P := 10 ≤ (nI i)) (t1 := 76) (t2 := 41) (r := []) rfl (fun c26 => ?_) (fun c26 => ?_)
          · skip
            replace c26 : 10 ≤ i := (sLE (a := 10) (b := i) (by omega) (by omega)).mp c26
            refine ww_blk xCC okX5_film 39 1 (ps := []) (pc' := 78) (lv' := [(5, .int (nI i)), (4, .int (nI (sCt (fun d => sDares tc r p d) i))), (3, .ref 54), (0, .ref 0), (1, .int (nI 3)), (2, .int (nI p))]) (st' := [.int (nI (sCt (fun d => sDares tc r p d) i))]) (z' := zL) rfl trivial ?_
            subst xhQ
            exact ww_iret xCC okX5_film 40 xhr rfl rfl ⟨_, rfl, (by obtain rfl : i = 10 := (by omega); rw [sFilm_y (by decide) hp h74]; exact ⟨rfl, SX_cg e34_1 (fun j hj => if_pos hj), e34_2⟩)⟩
          · skip
            replace c26 : ¬ 10 ≤ i := fun q => c26 ((sLE (a := 10) (b := i) (by omega) (by omega)).mpr q)
            refine ww_blk xCC okX5_film 23 4 (ps := []) (pc' := 48) (lv' := [(5, .int (nI i)), (4, .int (nI (sCt (fun d => sDares tc r p d) i))), (3, .ref 54), (0, .ref 0), (1, .int (nI 3)), (2, .int (nI p))]) (st' := [.int (nI i), .int (nI p), .ref 19]) (z' := zL) rfl trivial ?_
            refine ww_callVEi xCC okX5_film 27 (ix := 222) (t_X0_costsOrNone l d p i (xPull esN zL) r cnt tc (RX_pull (by decide) hrL) hw (TX_pull (by decide) htL) (by omega) (by omega)) (by omega) (by decide) xyX0_costsOrNone xiX0_costsOrNone (Or.inr (List.mem_of_getElem? (i := 730) (by decide +kernel))) (by decide +kernel) (by decide) (fun q => by cases q) (q0 := 19) rfl rfl rfl rfl (rest := []) rfl (Nat.le_of_ble_eq_true rfl) rfl (fun vcC zcC hcC => ?_)
            have hkC := KU_esN_KN (rw := xHasRaw shR) hcC.2
            obtain ⟨zC, hzC⟩ : ∃ y, y = xBack esN (xHasRaw shR) zL zcC := ⟨_, rfl⟩
            rw [← hzC] at hkC ⊢
            rw [hcC.1]
            have hSC := SX_U hkC (by decide) e34_1
            have hkk := KU_tr e34_2 (KU_mo hkC (by decide))
            refine ww_blk xCC okX5_film 28 4 (ps := []) (pc' := 58) (lv' := [(6, .int (sCn tc r p i)), (5, .int (nI i)), (4, .int (nI (sCt (fun d => sDares tc r p d) i))), (3, .ref 54), (0, .ref 0), (1, .int (nI 3)), (2, .int (nI p))]) (st' := [.int (sCn tc r p i), .int (nI i), .ref 54]) (z' := zC) rfl trivial ?_
            have hY := hSC 3 (by decide)
            rw [sShU_at] at hY
            have hY3 := hY.2.2.resolve_left (by simp)
            refine ww_callVEv xCC okX5_film 32 (ix := 225) (t_X2_put l d i 1 (sCn tc r p i) 10 (xPull (esS 3) zC) (by decide) hY3.2.1 hY.2.1 (by decide) (by omega)) (by omega) (by decide) xyX2_put xiX2_put (Or.inr (List.mem_of_getElem? (i := 731) (by decide +kernel))) (by decide +kernel) (by decide) (fun q => by cases q) (q0 := 54) rfl rfl rfl rfl (rest := []) rfl (Nat.le_of_ble_eq_true rfl) rfl (fun zB2 hB2 => ?_)
            obtain ⟨zE, hz2⟩ : ∃ y, y = xBack (esS 3) (xHasRaw shS) zC zB2 := ⟨_, rfl⟩
            rw [← hz2]
            have hSE := SX_new (s := 3) (by decide) hSC hz2 (sx_p (k := 1) (n := 10) hB2 (by decide) (by decide) hY.2.1 hY3.2.1 hY3.2.2)
            rw [fl_s] at hSE
            refine ww_blk xCC okX5_film 33 2 (ps := []) (pc' := 64) (lv' := [(6, .int (sCn tc r p i)), (5, .int (nI i)), (4, .int (nI (sCt (fun d => sDares tc r p d) i))), (3, .ref 54), (0, .ref 0), (1, .int (nI 3)), (2, .int (nI p))]) (st' := [.int (-1), .int (sCn tc r p i)]) (z' := zE) rfl trivial ?_
            refine ww_br xCC okX5_film 35 (P := (sCn tc r p i) = (-1)) (t1 := 70) (t2 := 67) (r := []) rfl (fun c29 => ?_) (fun c29 => ?_)
            · skip
              have hc64 := c29
              refine ww_blk xCC okX5_film 37 2 (ps := []) (pc' := 34) (lv' := [(5, .int ((nI i) + 1)), (6, .int (sCn tc r p i)), (4, .int (nI (sCt (fun d => sDares tc r p d) i))), (3, .ref 54), (0, .ref 0), (1, .int (nI 3)), (2, .int (nI p))]) (st' := []) (z' := zE) rfl trivial ?_
              rw [show nI i + (1 : Int32) = nI (i + 1) from nI_add i 1]
              exact ww_cut [0, 2, 3, 4, 5, 6] (xlc rfl (xlc (congrArg Value.int (show (nI (sCt (fun d => sDares tc r p d) i) : Int32) = nI (sCt (fun d => sDares tc r p d) (i + 1)) from (fl_c0 (sCn_m hc64)))) (xlc rfl (xlc rfl (xlc rfl (xlc rfl rfl)))))) rfl rfl (ih34 (i + 1) zE (by omega) (by omega) hSE.1 (KU_tr hkk (KU_mo hSE.2 (by decide))))
            · skip
              have hc64 := c29
              refine ww_blk xCC okX5_film 36 3 (ps := []) (pc' := 34) (lv' := [(5, .int ((nI i) + 1)), (4, .int ((nI (sCt (fun d => sDares tc r p d) i)) + 1)), (6, .int (sCn tc r p i)), (3, .ref 54), (0, .ref 0), (1, .int (nI 3)), (2, .int (nI p))]) (st' := []) (z' := zE) rfl trivial ?_
              rw [show nI i + (1 : Int32) = nI (i + 1) from nI_add i 1]
              rw [show nI (sCt (fun d => sDares tc r p d) i) + (1 : Int32) = nI ((sCt (fun d => sDares tc r p d) i) + 1) from nI_add (sCt (fun d => sDares tc r p d) i) 1]
              exact ww_cut [0, 1, 3, 4, 5, 6] (xlc rfl (xlc (congrArg Value.int (show (nI ((sCt (fun d => sDares tc r p d) i) + 1) : Int32) = nI (sCt (fun d => sDares tc r p d) (i + 1)) from (fl_c1 (sCn_nm hc64)))) (xlc rfl (xlc rfl (xlc rfl (xlc rfl rfl)))))) rfl rfl (ih34 (i + 1) zE (by omega) (by omega) hSE.1 (KU_tr hkk (KU_mo hSE.2 (by decide))))
      exact ww_cut [0, 1, 2, 3, 4, 5] (xlc (congrArg Value.int (show (0 : Int32) = nI 0 from rfl)) (xlc (congrArg Value.int (show (0 : Int32) = nI (sCt (fun d => sDares tc r p d) 0) from rfl)) (xlc rfl (xlc rfl (xlc rfl (xlc rfl rfl)))))) rfl rfl (L34 (10 - 0 + 1) 0 zF (Nat.lt_succ_self _) (by omega) (by rw [fl_0]; exact hS.1) (KU_mo hS.2 (by decide)))
    · skip
      rw [hO.2]
      replace hO := hO.1
      refine ww_br xCC okX5_film 9 (P := 0 = 0) (t1 := 18) (t2 := 21) (r := []) rfl (fun _ => ?_) (fun q => absurd (by decide) q)
      refine ww_blk xCC okX5_film 10 1 (ps := []) (pc' := 20) (lv' := [(3, .ref 54), (0, .ref 0), (1, .int (nI 3)), (2, .int y)]) (st' := [.int (-2)]) (z' := z) rfl trivial ?_
      subst xhQ
      exact ww_iret xCC okX5_film 11 xhr rfl rfl ⟨_, rfl, (by rw [sFilm_n (by have q9 := sTI (k := 3) (by decide); omega)]; exact ⟨rfl, hT, KU_rf z⟩)⟩
