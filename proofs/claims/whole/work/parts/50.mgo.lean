/-! years run on: the model's all, go -/
def sWill (tc : Nat → sTc) (r : sR) (p e : Nat) : Bool := (!decide (nI (r 1 e &&& sAl (r 0) 8) &&& (nI (r 7 0) ^^^ (-1)) = 0)) && sCan tc r p e
theorem sWill_a {tc : Nat → sTc} {r : sR} {p e : Nat} (h : nI (r 1 e &&& sAl (r 0) 8) &&& (nI (r 7 0) ^^^ (-1)) = 0) : sWill tc r p e = false := by unfold sWill; rw [decide_eq_true h]; rfl
theorem sWill_b {tc : Nat → sTc} {r : sR} {p e : Nat} (h : sCan tc r p e = false) : sWill tc r p e = false := by simp [sWill, h]
theorem sWill_c {tc : Nat → sTc} {r : sR} {p e : Nat} (h : ¬ nI (r 1 e &&& sAl (r 0) 8) &&& (nI (r 7 0) ^^^ (-1)) = 0) (h2 : sCan tc r p e = true) : sWill tc r p e = true := by unfold sWill; rw [h2, decide_eq_false h]; rfl
def sFi (f : Nat → Bool) : Nat → Nat
  | 0 => 10
  | k + 1 => if sFi f k < 10 then sFi f k else if f k = true then k else 10
def fI (n : Nat) : Int32 := if n < 10 then nI n else -1
theorem fI_y {n : Nat} (h : n < 10) : fI n = nI n := if_pos h
theorem fI_n {n : Nat} (h : 10 ≤ n) : fI n = -1 := if_neg (by omega)
theorem sNm1 : ∀ n, n < 10 → ¬ nI n = -1 := by decide
theorem fI_m {n : Nat} (h : fI n = -1) : ¬ n < 10 := fun q => sNm1 n q ((fI_y q).symm.trans h)
theorem sFi_y {f : Nat → Bool} {i : Nat} (h : fI (sFi f i) = -1) (hi : i < 10) (hf : f i = true) : nI i = fI (sFi f (i + 1)) := by
  have := fI_m h
  rw [sFi, if_neg this, if_pos hf, fI_y hi]
theorem sFi_n {f : Nat → Bool} {i : Nat} (h : fI (sFi f i) = -1) (hf : f i = false) : -1 = fI (sFi f (i + 1)) := by
  have := fI_m h
  rw [sFi, if_neg this, if_neg (by rw [hf]; decide)]
  rfl
theorem sFi_st {f : Nat → Bool} {i : Nat} (hq : sFi f i < 10) : ∀ k, sFi f (i + k) = sFi f i
  | 0 => rfl
  | k + 1 => by
    have e := sFi_st hq k
    show sFi f (i + k + 1) = _
    rw [sFi, e, if_pos hq]
def sAp (tc : Nat → sTc) (r : sR) : Nat → sR × Nat
  | 0 => (r, 0)
  | k + 1 => if sFi (sWill tc (sAp tc r k).1 k) 10 < 10 then (sDone tc (sAp tc r k).1 k (sFi (sWill tc (sAp tc r k).1 k) 10), (sAp tc r k).2 + 1) else sAp tc r k
def sAll (tc : Nat → sTc) (r : sR) : sR × Nat := sAp tc r (r 7 4)
theorem sAll_of {tc : Nat → sTc} {r0 r : sR} {p n : Nat} (h : sAp tc r0 p = (r, n)) (hp : p = r0 7 4) : sAll tc r0 = (r, n) := by rw [sAll, ← hp, h]
theorem sAp_y {tc : Nat → sTc} {r0 r : sR} {p n i : Nat} (h : sAp tc r0 p = (r, n)) (hi : i ≤ 10) (hq : sFi (sWill tc r p) i < 10) : sAp tc r0 (p + 1) = (sDone tc r p (sFi (sWill tc r p) i), n + 1) := by
  have e := sFi_st hq (10 - i)
  rw [show i + (10 - i) = 10 by omega] at e
  rw [sAp, h]
  simp only [e]
  rw [if_pos hq]
theorem sAp_n {tc : Nat → sTc} {r0 r : sR} {p n i : Nat} (h : sAp tc r0 p = (r, n)) (hi : i ≤ 10) (hi2 : 10 ≤ i) (hq : 10 ≤ sFi (sWill tc r p) i) : sAp tc r0 (p + 1) = (r, n) := by
  have e : i = 10 := by omega
  subst e
  rw [sAp, h]
  simp only
  rw [if_neg (by omega)]
theorem sAp_w {tc : Nat → sTc} {r : sR} {cnt : Nat} (hw : sW r cnt) : ∀ k, sW (sAp tc r k).1 cnt ∧ (sAp tc r k).1 7 2 = r 7 2
  | 0 => ⟨hw, rfl⟩
  | k + 1 => by
    have h := sAp_w (tc := tc) hw k
    rw [sAp]
    split
    · exact ⟨sW_done h.1 _ _, h.2⟩
    · exact h
theorem sAp_yr (tc : Nat → sTc) (r : sR) : ∀ k, (sAp tc r k).1 7 2 = r 7 2
  | 0 => rfl
  | k + 1 => by
    have h := sAp_yr tc r k
    rw [sAp]
    split
    · exact h
    · exact h
theorem sW_all {tc : Nat → sTc} {r : sR} {cnt : Nat} (hw : sW r cnt) : sW (sAll tc r).1 cnt := (sAp_w hw _).1
theorem sAll_y {tc : Nat → sTc} {r : sR} : (sAll tc r).1 7 2 = r 7 2 := sAp_yr tc r _
theorem sEnd_y {r : sR} : sEnd r 7 2 = r 7 2 + 1 := by simp [sEnd]
def sGo (tc : Nat → sTc) (r : sR) : Nat → sR × Nat
  | 0 => (r, 0)
  | k + 1 => (sEnd (sAll tc (sGo tc r k).1).1, (sGo tc r k).2 + (sAll tc (sGo tc r k).1).2)
theorem sGo_s {tc : Nat → sTc} {r0 r : sR} {t k : Nat} (h : sGo tc r0 t = (r, k)) : sGo tc r0 (t + 1) = (sEnd (sAll tc r).1, k + (sAll tc r).2) := by rw [sGo, h]
set_option maxHeartbeats 4000000 in
set_option maxRecDepth 20000 in
theorem t_X6_all (l : Launch) (d : Nat) (z : xMem) (r0 : sR) (cnt : Nat) (tc : Nat → sTc) (hr : RM z r0) (hw0 : sW r0 cnt) (ht : TM z cnt tc) : XMi l (d + 311) yX6_all cX6_all 5 (some .int) shM [.ref 0] z (fun v z' => v = nI (sAll tc r0).2 ∧ RM z' (sAll tc r0).1 ∧ KO z z') := by
  refine XM.of (by decide) (Nat.le_of_ble_eq_true rfl) (fun xp xe xs xm xar xbl xme xc xD xcs xad xAA xCC xhr => ?_)
  generalize xhQ : MQ xbl _ xar xs 0 0 xAA = xQ
  show ww xp l xe (xRm (d + 311)) xs xm xar xbl xme xc 5 xD xcs xad shM xAA xQ 0 [(0, .ref 0)] [] z
  refine ww_blk xCC okX6_all 0 4 (ps := []) (pc' := 4) (lv' := [(2, .int 0), (1, .int 0), (0, .ref 0)]) (st' := []) (z' := z) rfl trivial ?_
  have L4 : ∀ (n4 : Nat) (p : Nat) (r : sR) (n : Nat) (zL : xMem), r 7 4 - p < n4 → (sAp tc r0 p = (r, n)) → (RM zL r) → (sW r cnt) → (KO z zL) → (p ≤ r 7 4) → (r 7 4 = r0 7 4) → ww xp l xe (xRm (d + 311)) xs xm xar xbl xme xc 5 xD xcs xad shM xAA xQ 4 [(2, .int (nI p)), (1, .int (nI n)), (0, .ref 0)] [] zL := by
    intro n4
    induction n4 with
    | zero =>
      intro p r n zL hmu4
      exact absurd hmu4 (Nat.not_lt_zero _)
    | succ n4 ih4 =>
      intro p r n zL hmu4 e4_0 e4_1 e4_2 e4_3 e4_4 e4_5
      have hrL := e4_1
      have hw := e4_2
      have htL := TM_KO e4_3 ht
      have hb := hw.1
      have h74 : r 7 4 ≤ 4 := hw.2.2.2.2.2.2.1
      refine ww_blk xCC okX6_all 4 3 (ps := []) (pc' := 9) (lv' := [(2, .int (nI p)), (1, .int (nI n)), (0, .ref 0)]) (st' := [.int (zL.1 0 15), .int (nI p)]) (z' := zL) rfl trivial ?_
      rw [hrL.2.2.2.2.2.2.2.2.2.2.2.1]
      refine ww_br xCC okX6_all 7 (P := (nI (r 7 4)) ≤ (nI p)) (t1 := 94) (t2 := 12) (r := []) rfl (fun c1 => ?_) (fun c1 => ?_)
      · skip
        replace c1 : (r 7 4) ≤ p := (sLE (a := (r 7 4)) (b := p) (by omega) (by omega)).mp c1
        refine ww_blk xCC okX6_all 52 1 (ps := []) (pc' := 95) (lv' := [(2, .int (nI p)), (1, .int (nI n)), (0, .ref 0)]) (st' := [.int (nI n)]) (z' := zL) rfl trivial ?_
        subst xhQ
        exact ww_iret xCC okX6_all 53 xhr rfl rfl ⟨_, rfl, (by rw [sAll_of e4_0 (by omega)]; exact ⟨rfl, e4_1, e4_3⟩)⟩
      · skip
        replace c1 : ¬ (r 7 4) ≤ p := fun q => c1 ((sLE (a := (r 7 4)) (b := p) (by omega) (by omega)).mpr q)
        refine ww_blk xCC okX6_all 8 4 (ps := []) (pc' := 17) (lv' := [(4, .int 0), (3, .int (-1)), (2, .int (nI p)), (1, .int (nI n)), (0, .ref 0)]) (st' := []) (z' := zL) rfl trivial ?_
        have L17 : ∀ (n17 : Nat) (i : Nat) (zI : xMem), 10 - i < n17 → (i ≤ 10) → (KM zL zI) → ww xp l xe (xRm (d + 311)) xs xm xar xbl xme xc 5 xD xcs xad shM xAA xQ 17 [(4, .int (nI i)), (3, .int (fI (sFi (sWill tc r p) i))), (2, .int (nI p)), (1, .int (nI n)), (0, .ref 0)] [] zI := by
          intro n17
          induction n17 with
          | zero =>
            intro i zI hmu17
            exact absurd hmu17 (Nat.not_lt_zero _)
          | succ n17 ih17 =>
            intro i zI hmu17 e17_0 e17_1
            have hrI := RM_K e17_1 hrL
            have htI := TM_K e17_1 htL
            have hbi := hb i
            refine ww_blk xCC okX6_all 12 2 (ps := []) (pc' := 21) (lv' := [(4, .int (nI i)), (3, .int (fI (sFi (sWill tc r p) i))), (2, .int (nI p)), (1, .int (nI n)), (0, .ref 0)]) (st' := [.int 10, .int (nI i)]) (z' := zI) rfl trivial ?_
            refine ww_br xCC okX6_all 14 (P := 10 ≤ (nI i)) (t1 := 74) (t2 := 24) (r := []) rfl (fun c2 => ?_) (fun c2 => ?_)
            · skip
              replace c2 : 10 ≤ i := (sLE (a := 10) (b := i) (by omega) (by omega)).mp c2
              rcases Nat.lt_or_ge (sFi (sWill tc r p) i) 10 with hq | hq
              · skip
                rw [fI_y hq]
                refine ww_blk xCC okX6_all 42 2 (ps := []) (pc' := 76) (lv' := [(4, .int (nI i)), (3, .int (nI (sFi (sWill tc r p) i))), (2, .int (nI p)), (1, .int (nI n)), (0, .ref 0)]) (st' := [.int (-1), .int (nI (sFi (sWill tc r p) i))]) (z' := zI) rfl trivial ?_
                refine ww_br xCC okX6_all 44 (P := (nI (sFi (sWill tc r p) i)) = (-1)) (t1 := 88) (t2 := 79) (r := []) rfl (fun c3 => absurd c3 (sNm1 _ hq)) (fun c3 => ?_)
                refine ww_blk xCC okX6_all 45 3 (ps := []) (pc' := 82) (lv' := [(4, .int (nI i)), (3, .int (nI (sFi (sWill tc r p) i))), (2, .int (nI p)), (1, .int (nI n)), (0, .ref 0)]) (st' := [.int (nI (sFi (sWill tc r p) i)), .int (nI p), .ref 0]) (z' := zI) rfl trivial ?_
                refine ww_callVIv xCC okX6_all 48 (ix := 283) (t_X6_done l d p (sFi (sWill tc r p) i) zI r cnt tc hrI hw htI (by omega) (by omega)) (by omega) (by decide) xyX6_done xiX6_done (Or.inl (lw_gt_of (List.mem_of_getElem? (i := 1129) (by decide +kernel)) rfl)) rfl rfl rfl (rest := []) rfl (Nat.le_of_ble_eq_true rfl) rfl (fun zD hD => ?_)
                refine ww_blk xCC okX6_all 49 3 (ps := []) (pc' := 4) (lv' := [(2, .int ((nI p) + 1)), (1, .int ((nI n) + 1)), (4, .int (nI i)), (3, .int (nI (sFi (sWill tc r p) i))), (0, .ref 0)]) (st' := []) (z' := zD) rfl trivial ?_
                exact ww_cut [0, 1, 4] (xlc (congrArg Value.int (show ((nI p) + 1 : Int32) = nI (p + 1) from nI_1 p)) (xlc (congrArg Value.int (show ((nI n) + 1 : Int32) = nI (n + 1) from nI_1 n)) (xlc rfl rfl))) rfl rfl (ih4 (p + 1) (sDone tc r p (sFi (sWill tc r p) i)) (n + 1) zD (show r 7 4 - (p + 1) < n4 by omega) (sAp_y e4_0 (by omega) hq) hD.1 (sW_done hw p _) (KO_tr (KO_tr e4_3 (KO_of e17_1)) hD.2) (show p + 1 ≤ r 7 4 by omega) e4_5)
              · skip
                rw [fI_n hq]
                refine ww_blk xCC okX6_all 42 2 (ps := []) (pc' := 76) (lv' := [(4, .int (nI i)), (3, .int (-1)), (2, .int (nI p)), (1, .int (nI n)), (0, .ref 0)]) (st' := [.int (-1), .int (-1)]) (z' := zI) rfl trivial ?_
                refine ww_br xCC okX6_all 44 (P := (-1) = (-1)) (t1 := 88) (t2 := 79) (r := []) rfl (fun _ => ?_) (fun q => absurd (by decide) q)
                refine ww_blk xCC okX6_all 50 2 (ps := []) (pc' := 4) (lv' := [(2, .int ((nI p) + 1)), (4, .int (nI i)), (3, .int (-1)), (1, .int (nI n)), (0, .ref 0)]) (st' := []) (z' := zI) rfl trivial ?_
                exact ww_cut [0, 3, 4] (xlc (congrArg Value.int (show ((nI p) + 1 : Int32) = nI (p + 1) from nI_1 p)) (xlc rfl (xlc rfl rfl))) rfl rfl (ih4 (p + 1) r n zI (by omega) (by first | exact absurd (fI_n hq) h26 | exact sAp_n e4_0 (by omega) (by omega) hq) hrI hw (KO_tr e4_3 (KO_of e17_1)) (by omega) e4_5)
            · skip
              replace c2 : ¬ 10 ≤ i := fun q => c2 ((sLE (a := 10) (b := i) (by omega) (by omega)).mpr q)
              refine ww_blk xCC okX6_all 15 2 (ps := []) (pc' := 26) (lv' := [(4, .int (nI i)), (3, .int (fI (sFi (sWill tc r p) i))), (2, .int (nI p)), (1, .int (nI n)), (0, .ref 0)]) (st' := [.int (-1), .int (fI (sFi (sWill tc r p) i))]) (z' := zI) rfl trivial ?_
              refine ww_br xCC okX6_all 17 (P := (fI (sFi (sWill tc r p) i)) = (-1)) (t1 := 29) (t2 := 74) (r := []) rfl (fun c6 => ?_) (fun c6 => ?_)
              · skip
                have h26 := c6
                refine ww_blk xCC okX6_all 18 5 (ps := [vp_in (nI i) 10]) (pc' := 37) (lv' := [(4, .int (nI i)), (3, .int (fI (sFi (sWill tc r p) i))), (2, .int (nI p)), (1, .int (nI n)), (0, .ref 0)]) (st' := [.ref 0, .int (zI.1 5 (nI i).toNatClampNeg)]) (z' := zI) rfl (vp_in_nI (by omega) (by decide)) ?_
                rw [sCL (n := i) (by omega)]
                rw [hrI.2.1 i]
                refine ww_callVIi xCC okX6_all 23 (ix := 119) (t_X6_alive l d zI (r 0) hrI.1 (fun j => Nat.lt_of_le_of_lt (hb j).1 (by decide))) (by omega) (by decide) xyX6_alive xiX6_alive (Or.inl (lw_gt_of (List.mem_of_getElem? (i := 1007) (by decide +kernel)) rfl)) rfl rfl rfl (rest := [.int (nI (r 1 i))]) rfl (Nat.le_of_ble_eq_true rfl) rfl (fun v9 z7 h8 => ?_)
                rw [h8.1, h8.2]
                refine ww_blk xCC okX6_all 24 6 (ps := []) (pc' := 48) (lv' := [(4, .int (nI i)), (3, .int (fI (sFi (sWill tc r p) i))), (2, .int (nI p)), (1, .int (nI n)), (0, .ref 0)]) (st' := [.int (((nI (r 1 i)) &&& (nI (sAl (r 0) 8))) &&& ((zI.1 0 9) ^^^ (-1)))]) (z' := zI) rfl trivial ?_
                rw [fa_and (r 1 i) (sAl (r 0) 8)]
                rw [hrI.2.2.2.2.2.2.2.1]
                refine ww_br xCC okX6_all 30 (P := ((nI ((r 1 i) &&& (sAl (r 0) 8))) &&& ((nI (r 7 0)) ^^^ (-1))) = 0) (t1 := 66) (t2 := 51) (r := []) rfl (fun c10 => ?_) (fun c10 => ?_)
                · skip
                  have h48 := c10
                  refine ww_blk xCC okX6_all 38 4 (ps := []) (pc' := 17) (lv' := [(4, .int ((nI i) + 1)), (3, .int (-1)), (2, .int (nI p)), (1, .int (nI n)), (0, .ref 0)]) (st' := []) (z' := zI) rfl trivial ?_
                  exact ww_cut [0, 1, 2, 3, 4] (xlc (congrArg Value.int (show ((nI i) + 1 : Int32) = nI (i + 1) from nI_1 i)) (xlc (congrArg Value.int (show ((-1) : Int32) = fI (sFi (sWill tc r p) (i + 1)) from sFi_n h26 (sWill_a h48))) (xlc rfl (xlc rfl (xlc rfl rfl))))) rfl rfl (ih17 (i + 1) zI (by omega) (by omega) e17_1)
                · skip
                  have h48 := c10
                  refine ww_blk xCC okX6_all 31 3 (ps := []) (pc' := 55) (lv' := [(4, .int (nI i)), (3, .int (fI (sFi (sWill tc r p) i))), (2, .int (nI p)), (1, .int (nI n)), (0, .ref 0)]) (st' := [.int (nI i), .int (nI p), .ref 0]) (z' := zI) rfl trivial ?_
                  refine ww_callVIz xCC okX6_all 34 (ix := 279) (t_X6_can l d p i zI r cnt tc hrI hw htI (by omega) (by omega)) (by omega) (by decide) xyX6_can xiX6_can (Or.inl (lw_gt_of (List.mem_of_getElem? (i := 992) (by decide +kernel)) rfl)) rfl rfl rfl (rest := []) rfl (Nat.le_of_ble_eq_true rfl) rfl (fun zS11 hS11 => ?_) (fun zS11 hS11 => ?_)
                  · skip
                    have hrS11 := RM_K hS11.2 hrI
                    have htS11 := TM_K hS11.2 htI
                    have hKS11 := KM_tr e17_1 hS11.2
                    refine ww_br xCC okX6_all 35 (P := 1 = 0) (t1 := 66) (t2 := 61) (r := []) rfl (fun q => absurd q (by decide)) (fun _ => ?_)
                    refine ww_blk xCC okX6_all 36 2 (ps := []) (pc' := 67) (lv' := [(4, .int (nI i)), (3, .int (fI (sFi (sWill tc r p) i))), (2, .int (nI p)), (1, .int (nI n)), (0, .ref 0)]) (st' := [.int (nI i)]) (z' := zS11) rfl trivial ?_
                    refine ww_blk xCC okX6_all 39 3 (ps := []) (pc' := 17) (lv' := [(4, .int ((nI i) + 1)), (3, .int (nI i)), (2, .int (nI p)), (1, .int (nI n)), (0, .ref 0)]) (st' := []) (z' := zS11) rfl trivial ?_
                    exact ww_cut [0, 1, 2, 3, 4] (xlc (congrArg Value.int (show ((nI i) + 1 : Int32) = nI (i + 1) from nI_1 i)) (xlc (congrArg Value.int (show (nI i : Int32) = fI (sFi (sWill tc r p) (i + 1)) from sFi_y h26 (by omega) (sWill_c h48 hS11.1))) (xlc rfl (xlc rfl (xlc rfl rfl))))) rfl rfl (ih17 (i + 1) zS11 (by omega) (by omega) hKS11)
                  · skip
                    have hrS11 := RM_K hS11.2 hrI
                    have htS11 := TM_K hS11.2 htI
                    have hKS11 := KM_tr e17_1 hS11.2
                    refine ww_br xCC okX6_all 35 (P := 0 = 0) (t1 := 66) (t2 := 61) (r := []) rfl (fun _ => ?_) (fun q => absurd (by decide) q)
                    refine ww_blk xCC okX6_all 38 4 (ps := []) (pc' := 17) (lv' := [(4, .int ((nI i) + 1)), (3, .int (-1)), (2, .int (nI p)), (1, .int (nI n)), (0, .ref 0)]) (st' := []) (z' := zS11) rfl trivial ?_
                    exact ww_cut [0, 1, 2, 3, 4] (xlc (congrArg Value.int (show ((nI i) + 1 : Int32) = nI (i + 1) from nI_1 i)) (xlc (congrArg Value.int (show ((-1) : Int32) = fI (sFi (sWill tc r p) (i + 1)) from sFi_n h26 (sWill_b hS11.1))) (xlc rfl (xlc rfl (xlc rfl rfl))))) rfl rfl (ih17 (i + 1) zS11 (by omega) (by omega) hKS11)
              · skip
                have h26 := c6
                rcases Nat.lt_or_ge (sFi (sWill tc r p) i) 10 with hq | hq
                · skip
                  rw [fI_y hq]
                  refine ww_blk xCC okX6_all 42 2 (ps := []) (pc' := 76) (lv' := [(4, .int (nI i)), (3, .int (nI (sFi (sWill tc r p) i))), (2, .int (nI p)), (1, .int (nI n)), (0, .ref 0)]) (st' := [.int (-1), .int (nI (sFi (sWill tc r p) i))]) (z' := zI) rfl trivial ?_
                  refine ww_br xCC okX6_all 44 (P := (nI (sFi (sWill tc r p) i)) = (-1)) (t1 := 88) (t2 := 79) (r := []) rfl (fun c14 => absurd c14 (sNm1 _ hq)) (fun c14 => ?_)
                  refine ww_blk xCC okX6_all 45 3 (ps := []) (pc' := 82) (lv' := [(4, .int (nI i)), (3, .int (nI (sFi (sWill tc r p) i))), (2, .int (nI p)), (1, .int (nI n)), (0, .ref 0)]) (st' := [.int (nI (sFi (sWill tc r p) i)), .int (nI p), .ref 0]) (z' := zI) rfl trivial ?_
                  refine ww_callVIv xCC okX6_all 48 (ix := 283) (t_X6_done l d p (sFi (sWill tc r p) i) zI r cnt tc hrI hw htI (by omega) (by omega)) (by omega) (by decide) xyX6_done xiX6_done (Or.inl (lw_gt_of (List.mem_of_getElem? (i := 1129) (by decide +kernel)) rfl)) rfl rfl rfl (rest := []) rfl (Nat.le_of_ble_eq_true rfl) rfl (fun zD hD => ?_)
                  refine ww_blk xCC okX6_all 49 3 (ps := []) (pc' := 4) (lv' := [(2, .int ((nI p) + 1)), (1, .int ((nI n) + 1)), (4, .int (nI i)), (3, .int (nI (sFi (sWill tc r p) i))), (0, .ref 0)]) (st' := []) (z' := zD) rfl trivial ?_
                  exact ww_cut [0, 1, 4] (xlc (congrArg Value.int (show ((nI p) + 1 : Int32) = nI (p + 1) from nI_1 p)) (xlc (congrArg Value.int (show ((nI n) + 1 : Int32) = nI (n + 1) from nI_1 n)) (xlc rfl rfl))) rfl rfl (ih4 (p + 1) (sDone tc r p (sFi (sWill tc r p) i)) (n + 1) zD (show r 7 4 - (p + 1) < n4 by omega) (sAp_y e4_0 (by omega) hq) hD.1 (sW_done hw p _) (KO_tr (KO_tr e4_3 (KO_of e17_1)) hD.2) (show p + 1 ≤ r 7 4 by omega) e4_5)
                · skip
                  rw [fI_n hq]
                  refine ww_blk xCC okX6_all 42 2 (ps := []) (pc' := 76) (lv' := [(4, .int (nI i)), (3, .int (-1)), (2, .int (nI p)), (1, .int (nI n)), (0, .ref 0)]) (st' := [.int (-1), .int (-1)]) (z' := zI) rfl trivial ?_
                  refine ww_br xCC okX6_all 44 (P := (-1) = (-1)) (t1 := 88) (t2 := 79) (r := []) rfl (fun _ => ?_) (fun q => absurd (by decide) q)
                  refine ww_blk xCC okX6_all 50 2 (ps := []) (pc' := 4) (lv' := [(2, .int ((nI p) + 1)), (4, .int (nI i)), (3, .int (-1)), (1, .int (nI n)), (0, .ref 0)]) (st' := []) (z' := zI) rfl trivial ?_
                  exact ww_cut [0, 3, 4] (xlc (congrArg Value.int (show ((nI p) + 1 : Int32) = nI (p + 1) from nI_1 p)) (xlc rfl (xlc rfl rfl))) rfl rfl (ih4 (p + 1) r n zI (by omega) (by first | exact absurd (fI_n hq) h26 | exact sAp_n e4_0 (by omega) (by omega) hq) hrI hw (KO_tr e4_3 (KO_of e17_1)) (by omega) e4_5)
        exact ww_cut [0, 1, 2, 3, 4] (xlc (congrArg Value.int (show (0 : Int32) = nI 0 from rfl)) (xlc (congrArg Value.int (show ((-1) : Int32) = fI (sFi (sWill tc r p) 0) from rfl)) (xlc rfl (xlc rfl (xlc rfl rfl))))) rfl rfl (L17 (10 - 0 + 1) 0 zL (Nat.lt_succ_self _) (by omega) (KM_rf zL))
  exact ww_cut [0, 1, 2] (xlc (congrArg Value.int (show (0 : Int32) = nI 0 from rfl)) (xlc (congrArg Value.int (show (0 : Int32) = nI 0 from rfl)) (xlc rfl rfl))) rfl rfl (L4 (r0 7 4 - 0 + 1) 0 r0 0 z (Nat.lt_succ_self _) rfl hr hw0 (KO_rf z) (by omega) rfl)

set_option maxHeartbeats 4000000 in
set_option maxRecDepth 20000 in
theorem t_X6_go (l : Launch) (d : Nat) (m : Nat) (z : xMem) (r0 : sR) (cnt : Nat) (tc : Nat → sTc) (hr : RM z r0) (hw0 : sW r0 cnt) (ht : TM z cnt tc) (hm : m ≤ 1000) (hY : r0 7 2 + m ≤ 100000) : XMi l (d + 312) yX6_go cX6_go 4 (some .int) shM [.ref 0, .int (nI m)] z (fun v z' => v = nI (sGo tc r0 m).2 ∧ RM z' (sGo tc r0 m).1 ∧ sW (sGo tc r0 m).1 cnt ∧ KO z z') := by
  refine XM.of (by decide) (Nat.le_of_ble_eq_true rfl) (fun xp xe xs xm xar xbl xme xc xD xcs xad xAA xCC xhr => ?_)
  generalize xhQ : MQ xbl _ xar xs 0 0 xAA = xQ
  show ww xp l xe (xRm (d + 312)) xs xm xar xbl xme xc 4 xD xcs xad shM xAA xQ 0 [(0, .ref 0), (1, .int (nI m))] [] z
  refine ww_blk xCC okX6_go 0 4 (ps := []) (pc' := 4) (lv' := [(3, .int 0), (2, .int 0), (0, .ref 0), (1, .int (nI m))]) (st' := []) (z' := z) rfl trivial ?_
  have L4 : ∀ (n4 : Nat) (t : Nat) (r : sR) (k : Nat) (zL : xMem), m - t < n4 → (sGo tc r0 t = (r, k)) → (RM zL r) → (sW r cnt) → (KO z zL) → (t ≤ m) → (r 7 2 = r0 7 2 + t) → ww xp l xe (xRm (d + 312)) xs xm xar xbl xme xc 4 xD xcs xad shM xAA xQ 4 [(3, .int (nI t)), (2, .int (nI k)), (0, .ref 0), (1, .int (nI m))] [] zL := by
    intro n4
    induction n4 with
    | zero =>
      intro t r k zL hmu4
      exact absurd hmu4 (Nat.not_lt_zero _)
    | succ n4 ih4 =>
      intro t r k zL hmu4 e4_0 e4_1 e4_2 e4_3 e4_4 e4_5
      have hrL := e4_1
      have hw := e4_2
      have htL := TM_KO e4_3 ht
      refine ww_blk xCC okX6_go 4 2 (ps := []) (pc' := 6) (lv' := [(3, .int (nI t)), (2, .int (nI k)), (0, .ref 0), (1, .int (nI m))]) (st' := [.int (nI m), .int (nI t)]) (z' := zL) rfl trivial ?_
      refine ww_br xCC okX6_go 6 (P := (nI m) ≤ (nI t)) (t1 := 27) (t2 := 9) (r := []) rfl (fun c1 => ?_) (fun c1 => ?_)
      · skip
        replace c1 : m ≤ t := (sLE (a := m) (b := t) (by omega) (by omega)).mp c1
        refine ww_blk xCC okX6_go 17 1 (ps := []) (pc' := 28) (lv' := [(3, .int (nI t)), (2, .int (nI k)), (0, .ref 0), (1, .int (nI m))]) (st' := [.int (nI k)]) (z' := zL) rfl trivial ?_
        subst xhQ
        exact ww_iret xCC okX6_go 18 xhr rfl rfl ⟨_, rfl, (by rw [show m = t by omega, e4_0]; exact ⟨rfl, e4_1, e4_2, e4_3⟩)⟩
      · skip
        replace c1 : ¬ m ≤ t := fun q => c1 ((sLE (a := m) (b := t) (by omega) (by omega)).mpr q)
        refine ww_blk xCC okX6_go 7 2 (ps := []) (pc' := 11) (lv' := [(3, .int (nI t)), (2, .int (nI k)), (0, .ref 0), (1, .int (nI m))]) (st' := [.ref 0, .int (nI k)]) (z' := zL) rfl trivial ?_
        refine ww_callVIi xCC okX6_go 9 (ix := 290) (t_X6_all l d zL r cnt tc hrL hw htL) (by omega) (by decide) xyX6_all xiX6_all (Or.inl (lw_gt_of (List.mem_of_getElem? (i := 1155) (by decide +kernel)) rfl)) rfl rfl rfl (rest := [.int (nI k)]) rfl (Nat.le_of_ble_eq_true rfl) rfl (fun vA zA hA => ?_)
        rw [hA.1]
        have hwA := sW_all (tc := tc) hw
        refine ww_blk xCC okX6_go 10 3 (ps := []) (pc' := 17) (lv' := [(2, .int ((nI k) + (nI (sAll tc r).2))), (3, .int (nI t)), (0, .ref 0), (1, .int (nI m))]) (st' := [.ref 0]) (z' := zA) rfl trivial ?_
        refine ww_callVIi xCC okX6_go 13 (ix := 287) (t_X6_ends l (d + 310) zA (sAll tc r).1 cnt hA.2.1 hwA) (by omega) (by decide) xyX6_ends xiX6_ends (Or.inl (lw_gt_of (List.mem_of_getElem? (i := 1138) (by decide +kernel)) rfl)) rfl rfl rfl (rest := []) rfl (Nat.le_of_ble_eq_true rfl) rfl (fun vB zB hB => ?_)
        refine ww_blk xCC okX6_go 14 3 (ps := []) (pc' := 4) (lv' := [(3, .int ((nI t) + 1)), (2, .int ((nI k) + (nI (sAll tc r).2))), (0, .ref 0), (1, .int (nI m))]) (st' := []) (z' := zB) rfl trivial ?_
        exact ww_cut [0, 1, 2, 3] (xlc (congrArg Value.int (show ((nI t) + 1 : Int32) = nI (t + 1) from nI_1 t)) (xlc (congrArg Value.int (show ((nI k) + (nI (sAll tc r).2) : Int32) = nI (k + (sAll tc r).2) from nI_add _ _)) (xlc rfl (xlc rfl rfl)))) rfl rfl (ih4 (t + 1) (sEnd (sAll tc r).1) (k + (sAll tc r).2) zB (by omega) (sGo_s e4_0) hB.2.1 (sW_end hwA (by rw [sAll_y, e4_5]; omega)) (KO_tr e4_3 (KO_tr hA.2.2 hB.2.2)) (by omega) (by rw [sEnd_y, sAll_y, e4_5]; omega))
  exact ww_cut [0, 1, 2, 3] (xlc (congrArg Value.int (show (0 : Int32) = nI 0 from rfl)) (xlc (congrArg Value.int (show (0 : Int32) = nI 0 from rfl)) (xlc rfl (xlc rfl rfl)))) rfl rfl (L4 (m - 0 + 1) 0 r0 0 z (Nat.lt_succ_self _) rfl hr hw0 (KO_rf z) (by omega) rfl)
