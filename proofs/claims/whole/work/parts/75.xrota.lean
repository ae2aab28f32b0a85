/-! the class's rota -/
theorem sAnd2 {i a : Nat} (hi : i < 10) (ha : a < 1024) : (nI a &&& nI (2 ^ i) = 0) ↔ a.testBit i = false := by
  rw [← sSh1 i hi]
  exact sAnd1 i hi a ha
def BX (z : xMem) (q : Nat) (b : sBt) : Prop := z.1 q 5 = cI b.2.1 ∧ b.2.1 ≤ 11 ∧ (b.2.1 = 0 ∨ (z.1 q 4 = nI b.1 ∧ z.1 q 6 = nI b.2.2 ∧ b.2.2 ≤ 4000))
/-- nothing changed but the best way -/
def KV (z z' : xMem) : Prop := (∀ q, q ≠ 0 → z'.1 q = z.1 q) ∧ z'.1 0 3 = z.1 0 3
theorem KV_rf (z : xMem) : KV z z := ⟨fun _ _ => rfl, rfl⟩
theorem KV_tr {a b c : xMem} (h1 : KV a b) (h2 : KV b c) : KV a c := ⟨fun q h => (h2.1 q h).trans (h1.1 q h), h2.2.trans h1.2⟩
theorem KV_3 {z : xMem} {x y v : Int32} : KV z (mPut (mPut (mPut z 0 4 x) 0 5 y) 0 6 v) := ⟨fun q hq => (mPut_nq hq).trans ((mPut_nq hq).trans (mPut_nq hq)), (mPut_nj (by decide)).trans ((mPut_nj (by decide)).trans (mPut_nj (by decide)))⟩
theorem cI_gt {m n : Nat} (h : m < 2 ^ 30) (h2 : n < 2 ^ 30) : nI n < cI m ↔ n + 1 < m := by
  rw [Int32.lt_iff_toInt_lt, cI_T (by omega), nI_toInt (by omega)]; omega
theorem BX_n {z : xMem} {w n c b1 b2 b3 : Nat} (hB : BX z 0 (b1, b2, b3)) (h : ¬ b2 < n + 1) (h2 : ¬ b2 = n + 1 ∨ ¬ c < b3) : BX z 0 (sWg (b1, b2, b3) w n c) := by
  unfold sWg
  rw [if_neg (fun q => q.elim h (fun q => h2.elim (fun w => w q.1) (fun w => w q.2)))]
  exact hB
theorem BX_w {z : xMem} {w n c b1 b2 b3 : Nat} (hc : c ≤ 4000) (hn : n ≤ 10) (h : b2 < n + 1 ∨ (b2 = n + 1 ∧ c < b3)) : BX (mPut (mPut (mPut z 0 4 (nI w)) 0 5 (nI n)) 0 6 (nI c)) 0 (sWg (b1, b2, b3) w n c) := by
  unfold sWg
  rw [if_pos h]
  refine ⟨?_, ?_, Or.inr ⟨?_, ?_, hc⟩⟩
  · simp [mPut_rd]; rfl
  · show n + 1 ≤ 11; omega
  · simp [mPut_rd]
  · simp [mPut_rd]
def RT (z : xMem) (pp : Nat) (ab br : Nat → Nat) (co : Nat → Nat → Nat) : Prop := z.1 0 3 = nI pp ∧ pp ≤ 4 ∧ (∀ q, q < pp → z.1 1 q = nI (ab q)) ∧ (∀ j, j < 10 → z.1 2 j = nI (br j)) ∧ ∀ q, q < pp → ∀ e, e < 10 → z.1 3 (10 * q + e) = nI (co q e)
theorem RT_K {z z' : xMem} {pp : Nat} {ab br : Nat → Nat} {co : Nat → Nat → Nat} (h : KV z z') (hR : RT z pp ab br co) : RT z' pp ab br co :=
  ⟨h.2.trans hR.1, hR.2.1, fun q hq => by rw [h.1 1 (by decide)]; exact hR.2.2.1 q hq, fun j hj => by rw [h.1 2 (by decide)]; exact hR.2.2.2.1 j hj, fun q hq e he => by rw [h.1 3 (by decide)]; exact hR.2.2.2.2 q hq e he⟩
def PC (l : Launch) (pp : Nat) (ab br : Nat → Nat) (co : Nat → Nat → Nat) (k : Nat) : Prop := ∀ (d p u w s c b1 b2 b3 : Nat) (z : xMem), RT z pp ab br co → BX z 0 (b1, b2, b3) → p + k = pp → u < 1024 → s < 256 → c ≤ 999 * p → XMv l (d + k + 1) yX1_place cX1_place 10 none shRo [.ref 0, .int (nI p), .int (nI w), .int (nI u), .int (nI s), .int (nI c)] z (fun z' => BX z' 0 (sGv ab br co k p u w s c (b1, b2, b3)) ∧ KV z z')
set_option maxHeartbeats 4000000 in
set_option maxRecDepth 20000 in
theorem t_X1_weigh (l : Launch) (d : Nat) (w n c b1 b2 b3 : Nat) (z : xMem) (hB : BX z 0 (b1, b2, b3)) (hn : n ≤ 10) (hc : c ≤ 4000) : XMv l d yX1_weigh cX1_weigh 4 none shRo [.ref 0, .int (nI w), .int (nI n), .int (nI c)] z (fun z' => BX z' 0 (sWg (b1, b2, b3) w n c) ∧ KV z z') := by
  refine XM.of (by decide) (Nat.le_of_ble_eq_true rfl) (fun xp xe xs xm xar xbl xme xc xD xcs xad xAA xCC xhr => ?_)
  generalize xhQ : MQ xbl _ xar xs 0 0 xAA = xQ
  show ww xp l xe (xRm d) xs xm xar xbl xme xc 4 xD xcs xad shRo xAA xQ 0 [(0, .ref 0), (1, .int (nI w)), (2, .int (nI n)), (3, .int (nI c))] [] z
  have hb2 : b2 ≤ 11 := hB.2.1
  refine ww_blk xCC okX1_weigh 0 3 (ps := []) (pc' := 5) (lv' := [(0, .ref 0), (1, .int (nI w)), (2, .int (nI n)), (3, .int (nI c))]) (st' := [.int (z.1 0 5), .int (nI n)]) (z' := z) rfl trivial ?_
  rw [show z.1 0 5 = cI b2 from hB.1]
  refine ww_br xCC okX1_weigh 3 (P := (nI n) < (cI b2)) (t1 := 24) (t2 := 8) (r := []) rfl (fun c1 => ?_) (fun c1 => ?_)
  · skip
    have h5 := (cI_gt (m := b2) (n := n) (by omega) (by omega)).mp c1
    subst xhQ
    exact ww_vret xCC okX1_weigh 12 xhr rfl ⟨rfl, ⟨BX_n hB (by omega) (by omega), KV_rf z⟩⟩
  · skip
    have h5 : ¬ n + 1 < b2 := fun q => c1 ((cI_gt (m := b2) (n := n) (by omega) (by omega)).mpr q)
    refine ww_blk xCC okX1_weigh 4 3 (ps := []) (pc' := 13) (lv' := [(0, .ref 0), (1, .int (nI w)), (2, .int (nI n)), (3, .int (nI c))]) (st' := [.int (z.1 0 5), .int (nI n)]) (z' := z) rfl trivial ?_
    rw [show z.1 0 5 = cI b2 from hB.1]
    refine ww_br xCC okX1_weigh 7 (P := (nI n) = (cI b2)) (t1 := 16) (t2 := 25) (r := []) rfl (fun c2 => ?_) (fun c2 => ?_)
    · skip
      have h13 := (cI_eq (m := b2) (n := n) (by omega) (by omega)).mp c2
      have hq := hB.2.2.resolve_left (fun q => by simp at q; omega)
      have hb36 : z.1 0 6 = nI b3 := hq.2.1
      have hb3 : b3 ≤ 4000 := hq.2.2
      refine ww_blk xCC okX1_weigh 8 3 (ps := []) (pc' := 21) (lv' := [(0, .ref 0), (1, .int (nI w)), (2, .int (nI n)), (3, .int (nI c))]) (st' := [.int (z.1 0 6), .int (nI c)]) (z' := z) rfl trivial ?_
      rw [show z.1 0 6 = nI b3 from hb36]
      refine ww_br xCC okX1_weigh 11 (P := (nI c) < (nI b3)) (t1 := 25) (t2 := 24) (r := []) rfl (fun c3 => ?_) (fun c3 => ?_)
      · skip
        replace c3 : c < b3 := (sLT (a := c) (b := b3) (by omega) (by omega)).mp c3
        refine ww_blk xCC okX1_weigh 13 9 (ps := []) (pc' := 40) (lv' := [(0, .ref 0), (1, .int (nI w)), (2, .int (nI n)), (3, .int (nI c))]) (st' := []) (z' := (mPut (mPut (mPut z 0 4 (nI w)) 0 5 (nI n)) 0 6 (nI c))) rfl trivial ?_
        subst xhQ
        exact ww_vret xCC okX1_weigh 22 xhr rfl ⟨rfl, ⟨BX_w hc hn (by omega), KV_3⟩⟩
      · skip
        replace c3 : ¬ c < b3 := fun q => c3 ((sLT (a := c) (b := b3) (by omega) (by omega)).mpr q)
        subst xhQ
        exact ww_vret xCC okX1_weigh 12 xhr rfl ⟨rfl, ⟨BX_n hB (by omega) (by omega), KV_rf z⟩⟩
    · skip
      have h13 : ¬ b2 = n + 1 := fun q => c2 ((cI_eq (m := b2) (n := n) (by omega) (by omega)).mpr q)
      refine ww_blk xCC okX1_weigh 13 9 (ps := []) (pc' := 40) (lv' := [(0, .ref 0), (1, .int (nI w)), (2, .int (nI n)), (3, .int (nI c))]) (st' := []) (z' := (mPut (mPut (mPut z 0 4 (nI w)) 0 5 (nI n)) 0 6 (nI c))) rfl trivial ?_
      subst xhQ
      exact ww_vret xCC okX1_weigh 22 xhr rfl ⟨rfl, ⟨BX_w hc hn (by omega), KV_3⟩⟩

set_option maxHeartbeats 4000000 in
set_option maxRecDepth 20000 in
theorem t_X1_place_s (l : Launch) (d : Nat) (pp : Nat) (ab br : Nat → Nat) (co : Nat → Nat → Nat) (hab : ∀ q, ab q < 1024) (hbr : ∀ q, br q < 256) (hco : ∀ q e, co q e ≤ 999) (k : Nat) (ih : ∀ k2, k = k2 + 1 → PC l pp ab br co k2) (p u w s c b1 b2 b3 : Nat) (z : xMem) (hR : RT z pp ab br co) (hB : BX z 0 (b1, b2, b3)) (hpk : p + k = pp) (hu : u < 1024) (hs : s < 256) (hc : c ≤ 999 * p) : XMv l (d + k + 1) yX1_place cX1_place 10 none shRo [.ref 0, .int (nI p), .int (nI w), .int (nI u), .int (nI s), .int (nI c)] z (fun z' => BX z' 0 (sGv ab br co k p u w s c (b1, b2, b3)) ∧ KV z z') := by
  refine XM.of (by decide) (Nat.le_of_ble_eq_true rfl) (fun xp xe xs xm xar xbl xme xc xD xcs xad xAA xCC xhr => ?_)
  generalize xhQ : MQ xbl _ xar xs 0 0 xAA = xQ
  show ww xp l xe (xRm (d + k + 1)) xs xm xar xbl xme xc 10 xD xcs xad shRo xAA xQ 0 [(0, .ref 0), (1, .int (nI p)), (2, .int (nI w)), (3, .int (nI u)), (4, .int (nI s)), (5, .int (nI c))] [] z
  have hp4 : pp ≤ 4 := hR.2.1
  have habp := hab p
  refine ww_blk xCC okX1_place 0 3 (ps := []) (pc' := 5) (lv' := [(0, .ref 0), (1, .int (nI p)), (2, .int (nI w)), (3, .int (nI u)), (4, .int (nI s)), (5, .int (nI c))]) (st' := [.int (z.1 0 3), .int (nI p)]) (z' := z) rfl trivial ?_
  rw [show z.1 0 3 = nI pp from hR.1]
  refine ww_br xCC okX1_place 3 (P := (nI pp) ≤ (nI p)) (t1 := 13) (t2 := 8) (r := []) rfl (fun c1 => ?_) (fun c1 => ?_)
  · skip
    replace c1 : pp ≤ p := (sLE (a := pp) (b := p) (by omega) (by omega)).mp c1
    have hk0 : k = 0 := by omega
    refine ww_blk xCC okX1_place 7 3 (ps := []) (pc' := 17) (lv' := [(0, .ref 0), (1, .int (nI p)), (2, .int (nI w)), (3, .int (nI u)), (4, .int (nI s)), (5, .int (nI c))]) (st' := [.int (nI s), .int (nI w), .ref 0]) (z' := z) rfl trivial ?_
    refine ww_callSNi xCC okX1_place 10 (ix := 50) (t_J6_bitCount_0f7a4 l d s (by omega) _) (by omega) (by decide) xyJ6_bitCount_0f7a4 xiJ6_bitCount_0f7a4 (Or.inl (lw_gt_of (List.mem_of_getElem? (i := 655) (by decide +kernel)) rfl)) rfl (rest := [.int (nI w), .ref 0]) rfl (Nat.le_of_ble_eq_true rfl) rfl (fun v4 z2 h3 => ?_)
    rw [h3]
    refine ww_blk xCC okX1_place 11 1 (ps := []) (pc' := 22) (lv' := [(0, .ref 0), (1, .int (nI p)), (2, .int (nI w)), (3, .int (nI u)), (4, .int (nI s)), (5, .int (nI c))]) (st' := [.int (nI c), .int (nI (sPop s)), .int (nI w), .ref 0]) (z' := z) rfl trivial ?_
    refine ww_callVIv xCC okX1_place 12 (ix := 55) (t_X1_weigh l d w (sPop s) c b1 b2 b3 z hB (sPop_le s (by omega)) (by omega)) (by omega) (by decide) xyX1_weigh xiX1_weigh (Or.inl (lw_gt_of (List.mem_of_getElem? (i := 656) (by decide +kernel)) rfl)) rfl rfl rfl (rest := []) rfl (Nat.le_of_ble_eq_true rfl) rfl (fun zW hW => ?_)
    subst xhQ
    exact ww_vret xCC okX1_place 13 xhr rfl ⟨rfl, (by rw [hk0]; exact ⟨hW.1, hW.2⟩)⟩
  · skip
    replace c1 : ¬ pp ≤ p := fun q => c1 ((sLE (a := pp) (b := p) (by omega) (by omega)).mpr q)
    obtain ⟨k2, hk⟩ : ∃ k2, k = k2 + 1 := ⟨k - 1, by omega⟩
    have ih2 := ih k2 hk
    refine ww_blk xCC okX1_place 4 2 (ps := []) (pc' := 10) (lv' := [(0, .ref 0), (1, .int (nI p)), (2, .int (nI w)), (3, .int (nI u)), (4, .int (nI s)), (5, .int (nI c))]) (st' := [.int 4, .int (nI p)]) (z' := z) rfl trivial ?_
    refine ww_br xCC okX1_place 6 (P := (nI p) < 4) (t1 := 26) (t2 := 13) (r := []) rfl (fun c6 => ?_) (fun c6 => absurd ((sLT (b := 4) (by omega) (by decide)).mpr (by omega)) c6)
    refine ww_blk xCC okX1_place 14 12 (ps := []) (pc' := 43) (lv' := [(6, .int ((nI w) * 11)), (0, .ref 0), (1, .int (nI p)), (2, .int (nI w)), (3, .int (nI u)), (4, .int (nI s)), (5, .int (nI c))]) (st' := [.int (nI c), .int (nI s), .int (nI u), .int ((nI w) * 11), .int ((nI p) + 1), .ref 0]) (z' := z) rfl trivial ?_
    rw [show nI w * (11 : Int32) = nI (11 * w) from (pk_mul w 11).trans (by rw [Nat.mul_comm])]
    rw [show nI p + (1 : Int32) = nI (p + 1) from nI_add p 1]
    refine ww_callSIv xCC okX1_place 26 (ix := 46) (ih2 d (p + 1) u (11 * w) s c b1 b2 b3 z hR hB (by omega) hu hs (by omega)) (by omega) (by decide) xyX1_place xiX1_place (Or.inl (lw_gt_of (List.mem_of_getElem? (i := 652) (by decide +kernel)) rfl)) rfl (rest := []) rfl (Nat.le_of_ble_eq_true rfl) rfl (fun zA hA => ?_)
    refine ww_blk xCC okX1_place 27 11 (ps := [vp_in (nI p) 4]) (pc' := 61) (lv' := [(8, .int 0), (7, .int ((zA.1 1 (nI p).toNatClampNeg) &&& ((nI u) ^^^ (-1)))), (6, .int (nI (11 * w))), (0, .ref 0), (1, .int (nI p)), (2, .int (nI w)), (3, .int (nI u)), (4, .int (nI s)), (5, .int (nI c))]) (st' := []) (z' := zA) rfl (vp_in_nI (by omega) (by decide)) ?_
    rw [sCL (n := p) (by omega)]
    rw [show zA.1 1 p = nI (ab p) from (congrFun (hA.2.1 1 (by decide)) p).trans (hR.2.2.1 p (by omega))]
    rw [fa_andn (a := (ab p)) (b := u) (by omega)]
    have L61 : ∀ (n61 : Nat) (i : Nat) (x1 : Nat) (x2 : Nat) (x3 : Nat) (zL : xMem), 10 - i < n61 → (i ≤ 10) → (sGl (fun i b => sGv ab br co k2 (p + 1) (u ||| 2 ^ i) (11 * w + i + 1) (s ||| br i) (c + co p i) b) (ab p &&& (u ^^^ 1023)) i (sGv ab br co k2 (p + 1) u (11 * w) s c (b1, b2, b3)) = (x1, x2, x3)) → (BX zL 0 (x1, x2, x3)) → (KV z zL) → ww xp l xe (xRm (d + k + 1)) xs xm xar xbl xme xc 10 xD xcs xad shRo xAA xQ 61 [(8, .int (nI i)), (7, .int (nI ((ab p) &&& (u ^^^ 1023)))), (6, .int (nI (11 * w))), (0, .ref 0), (1, .int (nI p)), (2, .int (nI w)), (3, .int (nI u)), (4, .int (nI s)), (5, .int (nI c))] [] zL := by
      intro n61
      induction n61 with
      | zero =>
        intro i x1 x2 x3 zL hmu61
        exact absurd hmu61 (Nat.not_lt_zero _)
      | succ n61 ih61 =>
        intro i x1 x2 x3 zL hmu61 e61_0 e61_1 e61_2 e61_3
        have hcoi := hco p i
        refine ww_blk xCC okX1_place 38 2 (ps := []) (pc' := 65) (lv' := [(8, .int (nI i)), (7, .int (nI ((ab p) &&& (u ^^^ 1023)))), (6, .int (nI (11 * w))), (0, .ref 0), (1, .int (nI p)), (2, .int (nI w)), (3, .int (nI u)), (4, .int (nI s)), (5, .int (nI c))]) (st' := [.int 10, .int (nI i)]) (z' := zL) rfl trivial ?_
        refine ww_br xCC okX1_place 40 (P := 10 ≤ (nI i)) (t1 := 136) (t2 := 68) (r := []) rfl (fun c8 => ?_) (fun c8 => ?_)
        · skip
          replace c8 : 10 ≤ i := (sLE (a := 10) (b := i) (by omega) (by omega)).mp c8
          subst xhQ
          exact ww_vret xCC okX1_place 83 xhr rfl ⟨rfl, (by rw [hk, sGv_s, show (10 : Nat) = i by omega, e61_1]; exact ⟨e61_2, e61_3⟩)⟩
        · skip
          replace c8 : ¬ 10 ≤ i := fun q => c8 ((sLE (a := 10) (b := i) (by omega) (by omega)).mpr q)
          refine ww_blk xCC okX1_place 41 5 (ps := []) (pc' := 75) (lv' := [(8, .int (nI i)), (7, .int (nI ((ab p) &&& (u ^^^ 1023)))), (6, .int (nI (11 * w))), (0, .ref 0), (1, .int (nI p)), (2, .int (nI w)), (3, .int (nI u)), (4, .int (nI s)), (5, .int (nI c))]) (st' := [.int ((nI ((ab p) &&& (u ^^^ 1023))) &&& (1 <<< ((nI i) &&& 31)))]) (z' := zL) rfl trivial ?_
          rw [sSh1 i (by omega)]
          refine ww_br xCC okX1_place 46 (P := ((nI ((ab p) &&& (u ^^^ 1023))) &&& (nI (2 ^ i))) = 0) (t1 := 78) (t2 := 81) (r := []) rfl (fun c9 => ?_) (fun c9 => ?_)
          · skip
            have h75 : (ab p &&& (u ^^^ 1023)).testBit i = false := (sAnd2 (by omega) (sAnd_lt habp)).mp c9
            refine ww_blk xCC okX1_place 47 1 (ps := []) (pc' := 130) (lv' := [(8, .int (nI i)), (7, .int (nI ((ab p) &&& (u ^^^ 1023)))), (6, .int (nI (11 * w))), (0, .ref 0), (1, .int (nI p)), (2, .int (nI w)), (3, .int (nI u)), (4, .int (nI s)), (5, .int (nI c))]) (st' := []) (z' := zL) rfl trivial ?_
            refine ww_blk xCC okX1_place 81 2 (ps := []) (pc' := 61) (lv' := [(8, .int ((nI i) + 1)), (7, .int (nI ((ab p) &&& (u ^^^ 1023)))), (6, .int (nI (11 * w))), (0, .ref 0), (1, .int (nI p)), (2, .int (nI w)), (3, .int (nI u)), (4, .int (nI s)), (5, .int (nI c))]) (st' := []) (z' := zL) rfl trivial ?_
            rw [show nI i + (1 : Int32) = nI (i + 1) from nI_add i 1]
            exact ww_cut [0, 1, 2, 3, 4, 5, 6, 7, 8] (xlc rfl (xlc rfl (xlc rfl (xlc rfl (xlc rfl (xlc rfl (xlc rfl (xlc rfl (xlc rfl rfl))))))))) rfl rfl (ih61 (i + 1) x1 x2 x3 zL (by omega) (by omega) (sGl_n e61_1 (by rw [h75]; decide)) e61_2 e61_3)
          · skip
            have h75 : (ab p &&& (u ^^^ 1023)).testBit i = true := (Bool.eq_false_or_eq_true _).resolve_right (fun q => c9 ((sAnd2 (by omega) (sAnd_lt habp)).mpr q))
            refine ww_blk xCC okX1_place 48 32 (ps := [vp_in (((nI p) * 10) + (nI i)) 40, vp_in (nI i) 10]) (pc' := 127) (lv' := [(9, .int ((nI c) + (zL.1 3 (((nI p) * 10) + (nI i)).toNatClampNeg))), (8, .int (nI i)), (7, .int (nI ((ab p) &&& (u ^^^ 1023)))), (6, .int (nI (11 * w))), (0, .ref 0), (1, .int (nI p)), (2, .int (nI w)), (3, .int (nI u)), (4, .int (nI s)), (5, .int (nI c))]) (st' := [.int ((nI c) + (zL.1 3 (((nI p) * 10) + (nI i)).toNatClampNeg)), .int ((nI s) ||| (zL.1 2 (nI i).toNatClampNeg)), .int ((nI u) ||| (1 <<< ((nI i) &&& 31))), .int (((nI (11 * w)) + (nI i)) + 1), .int ((nI p) + 1), .ref 0]) (z' := zL) rfl ⟨(by rw [show nI p * (10 : Int32) = nI (10 * p) from (pk_mul p 10).trans (by rw [Nat.mul_comm]), nI_add]; exact vp_in_nI (by omega) (by decide)), (vp_in_nI (by omega) (by decide))⟩ ?_
            rw [show nI p * (10 : Int32) = nI (10 * p) from (pk_mul p 10).trans (by rw [Nat.mul_comm])]
            rw [nI_add (10 * p) i]
            rw [sCL (n := ((10 * p) + i)) (by omega)]
            rw [show zL.1 3 (10 * p + i) = nI (co p i) from (congrFun (e61_3.1 3 (by decide)) _).trans (hR.2.2.2.2 p (by omega) i (by omega))]
            rw [nI_add c (co p i)]
            rw [sCL (n := i) (by omega)]
            rw [show zL.1 2 i = nI (br i) from (congrFun (e61_3.1 2 (by decide)) i).trans (hR.2.2.2.1 i (by omega))]
            rw [fa_or s (br i)]
            rw [sSh1 i (by omega)]
            rw [fa_or u (2 ^ i)]
            rw [nI_add (11 * w) i]
            rw [show nI ((11 * w) + i) + (1 : Int32) = nI (((11 * w) + i) + 1) from nI_add ((11 * w) + i) 1]
            rw [show nI p + (1 : Int32) = nI (p + 1) from nI_add p 1]
            refine ww_callSIv xCC okX1_place 80 (ix := 46) (ih2 d (p + 1) (u ||| 2 ^ i) (11 * w + i + 1) (s ||| br i) (c + co p i) x1 x2 x3 zL (RT_K e61_3 hR) e61_2 (by omega) (sOr1 hu (by omega)) (Nat.or_lt_two_pow (n := 8) hs (hbr i)) (by have := hco p i; omega)) (by omega) (by decide) xyX1_place xiX1_place (Or.inl (lw_gt_of (List.mem_of_getElem? (i := 652) (by decide +kernel)) rfl)) rfl (rest := []) rfl (Nat.le_of_ble_eq_true rfl) rfl (fun zC hC => ?_)
            refine ww_blk xCC okX1_place 81 2 (ps := []) (pc' := 61) (lv' := [(8, .int ((nI i) + 1)), (9, .int (nI (c + (co p i)))), (7, .int (nI ((ab p) &&& (u ^^^ 1023)))), (6, .int (nI (11 * w))), (0, .ref 0), (1, .int (nI p)), (2, .int (nI w)), (3, .int (nI u)), (4, .int (nI s)), (5, .int (nI c))]) (st' := []) (z' := zC) rfl trivial ?_
            rw [show nI i + (1 : Int32) = nI (i + 1) from nI_add i 1]
            exact ww_cut [0, 2, 3, 4, 5, 6, 7, 8, 9] (xlc rfl (xlc rfl (xlc rfl (xlc rfl (xlc rfl (xlc rfl (xlc rfl (xlc rfl (xlc rfl rfl))))))))) rfl rfl (ih61 (i + 1) ((sGv ab br co k2 (p + 1) (u ||| 2 ^ i) (11 * w + i + 1) (s ||| br i) (c + co p i) (x1, x2, x3)).1) ((sGv ab br co k2 (p + 1) (u ||| 2 ^ i) (11 * w + i + 1) (s ||| br i) (c + co p i) (x1, x2, x3)).2.1) ((sGv ab br co k2 (p + 1) (u ||| 2 ^ i) (11 * w + i + 1) (s ||| br i) (c + co p i) (x1, x2, x3)).2.2) zC (by omega) (by omega) (sGl_y e61_1 h75) hC.1 (KV_tr e61_3 hC.2))
    exact ww_cut [0, 1, 2, 3, 4, 5, 6, 7, 8] (xlc (congrArg Value.int (show (0 : Int32) = nI 0 from rfl)) (xlc rfl (xlc rfl (xlc rfl (xlc rfl (xlc rfl (xlc rfl (xlc rfl (xlc rfl rfl))))))))) rfl rfl (L61 (10 - 0 + 1) 0 ((sGv ab br co k2 (p + 1) u (11 * w) s c (b1, b2, b3)).1) ((sGv ab br co k2 (p + 1) u (11 * w) s c (b1, b2, b3)).2.1) ((sGv ab br co k2 (p + 1) u (11 * w) s c (b1, b2, b3)).2.2) zA (Nat.lt_succ_self _) (by omega) rfl hA.1 hA.2)

theorem p_all (l : Launch) (pp : Nat) (ab br : Nat → Nat) (co : Nat → Nat → Nat) (hab : ∀ q, ab q < 1024) (hbr : ∀ q, br q < 256) (hco : ∀ q e, co q e ≤ 999) : ∀ k, PC l pp ab br co k
  | 0 => fun d p u w s c b1 b2 b3 z hR hB hpk hu hs hc => t_X1_place_s l d pp ab br co hab hbr hco 0 (fun k2 h => absurd h (by omega)) p u w s c b1 b2 b3 z hR hB hpk hu hs hc
  | k + 1 => fun d p u w s c b1 b2 b3 z hR hB hpk hu hs hc => t_X1_place_s l d pp ab br co hab hbr hco (k + 1) (fun k2 h => (show k = k2 from by omega) ▸ p_all l pp ab br co hab hbr hco k) p u w s c b1 b2 b3 z hR hB hpk hu hs hc
def esRo : List Nat := [24, 25, 26, 27]
/-- seeking so far: the breaks; the rows -/
def SK (r : sR) (z z' : xMem) (i : Nat) : Prop := (∀ q, q < 24 → q ≠ 23 → z'.1 q = z.1 q) ∧ z'.1 24 3 = nI (r 7 4) ∧ ∀ j, j < i → z'.1 26 j = nI (r 1 j &&& sAl (r 0) 8)
theorem SK_0 {r : sR} {z : xMem} {x : Int32} (h : x = nI (r 7 4)) : SK r z (mPut z 24 3 x) 0 := ⟨fun q hq _ => mPut_nq (by omega), mPut_at.trans h, fun j hj => absurd hj (Nat.not_lt_zero j)⟩
theorem SK_1 {r : sR} {z b : xMem} {i : Nat} (h : SK r z b i) : SK r z (mPut b 26 i (nI (r 1 i &&& sAl (r 0) 8))) (i + 1) :=
  ⟨fun q hq h23 => (mPut_nq (by omega)).trans (h.1 q hq h23), (congrFun (mPut_nq (by decide)) 3).trans h.2.1, fun j hj => by
    by_cases e : j = i
    · rw [e]; exact mPut_at
    · rw [mPut_nj e]; exact h.2.2 j (by omega)⟩
def SB (tc : Nat → sTc) (r : sR) (z z' : xMem) (p : Nat) : Prop := (∀ q, q < 24 → q ≠ 23 → z'.1 q = z.1 q) ∧ z'.1 24 3 = nI (r 7 4) ∧ (∀ j, j < 10 → z'.1 26 j = nI (r 1 j &&& sAl (r 0) 8)) ∧ (∀ q, q < p → z'.1 25 q = nI (sAl (sCf tc r q) 10)) ∧ ∀ q, q < p → ∀ e, e < 10 → z'.1 27 (10 * q + e) = nI (cN tc r q e)
theorem ST_0 {tc : Nat → sTc} {r : sR} {z b : xMem} {i : Nat} (h : SK r z b i) (hi : 10 ≤ i) : SB tc r z b 0 := ⟨h.1, h.2.1, fun j hj => h.2.2 j (by omega), fun q hq => absurd hq (Nat.not_lt_zero q), fun q hq => absurd hq (Nat.not_lt_zero q)⟩
theorem ST_K {tc : Nat → sTc} {r : sR} {z a b : xMem} {p : Nat} (h : SB tc r z a p) (k : KN a b) : SB tc r z b p :=
  ⟨fun q hq h23 => (k q h23).trans (h.1 q hq h23), (congrFun (k 24 (by decide)) 3).trans h.2.1, fun j hj => by rw [k 26 (by decide)]; exact h.2.2.1 j hj, fun q hq => by rw [k 25 (by decide)]; exact h.2.2.2.1 q hq, fun q hq e he => by rw [k 27 (by decide)]; exact h.2.2.2.2 q hq e he⟩
def SI (tc : Nat → sTc) (r : sR) (z z' : xMem) (p e : Nat) : Prop := SB tc r z z' p ∧ z'.1 25 p = nI (sAl (sCf tc r p) 10) ∧ ∀ f, f < e → z'.1 27 (10 * p + f) = nI (cN tc r p f)
theorem SI_0 {tc : Nat → sTc} {r : sR} {z a : xMem} {p : Nat} (h : SB tc r z a p) : SI tc r z (mPut a 25 p (nI (sAl (sCf tc r p) 10))) p 0 :=
  ⟨⟨fun q hq h23 => (mPut_nq (by omega)).trans (h.1 q hq h23), (congrFun (mPut_nq (by decide)) 3).trans h.2.1, fun j hj => by rw [mPut_nq (by decide)]; exact h.2.2.1 j hj, fun q hq => by rw [mPut_nj (by omega)]; exact h.2.2.2.1 q hq, fun q hq e he => by rw [mPut_nq (by decide)]; exact h.2.2.2.2 q hq e he⟩, mPut_at, fun f hf => absurd hf (Nat.not_lt_zero f)⟩
theorem SI_K {tc : Nat → sTc} {r : sR} {z a b : xMem} {p e : Nat} (h : SI tc r z a p e) (k : KN a b) : SI tc r z b p e :=
  ⟨ST_K h.1 k, by rw [k 25 (by decide)]; exact h.2.1, fun f hf => by rw [k 27 (by decide)]; exact h.2.2 f hf⟩
theorem SI_1 {tc : Nat → sTc} {r : sR} {z a : xMem} {p e : Nat} (h : SI tc r z a p e) (he : e < 10) : SI tc r z (mPut a 27 (10 * p + e) (nI (cN tc r p e))) p (e + 1) :=
  ⟨⟨fun q hq h23 => (mPut_nq (by omega)).trans (h.1.1 q hq h23), (congrFun (mPut_nq (by decide)) 3).trans h.1.2.1, fun j hj => by rw [mPut_nq (by decide)]; exact h.1.2.2.1 j hj, fun q hq => by rw [mPut_nq (by decide)]; exact h.1.2.2.2.1 q hq, fun q hq f hf => by rw [mPut_nj (by omega)]; exact h.1.2.2.2.2 q hq f hf⟩, by rw [mPut_nq (by decide)]; exact h.2.1, fun f hf => by
    by_cases q : f = e
    · rw [q]; exact mPut_at
    · rw [mPut_nj (by omega)]; exact h.2.2 f (by omega)⟩
theorem ST_s {tc : Nat → sTc} {r : sR} {z a : xMem} {p e : Nat} (h : SI tc r z a p e) (he : 10 ≤ e) : SB tc r z a (p + 1) :=
  ⟨h.1.1, h.1.2.1, h.1.2.2.1, fun q hq => by
    by_cases k : q = p
    · rw [k]; exact h.2.1
    · exact h.1.2.2.2.1 q (by omega), fun q hq f hf => by
    by_cases k : q = p
    · rw [k]; exact h.2.2 f (by omega)
    · exact h.1.2.2.2.2 q (by omega) f hf⟩
theorem RT_pull {tc : Nat → sTc} {r : sR} {z b : xMem} {p : Nat} {x : Int32} (h : SB tc r z b p) (h74 : r 7 4 ≤ 4) (hp : r 7 4 ≤ p) : RT (xPull esRo (mPut b 24 5 x)) (r 7 4) (fun q => sAl (sCf tc r q) 10) (fun j => r 1 j &&& sAl (r 0) 8) (cN tc r) := by
  refine ⟨?_, h74, fun q hq => ?_, fun j hj => ?_, fun q hq e he => ?_⟩
  · show (mPut b 24 5 x).1 24 3 = _
    rw [mPut_nj (by decide)]; exact h.2.1
  · show (mPut b 24 5 x).1 25 q = _
    rw [mPut_nq (by decide)]; exact h.2.2.2.1 q (by omega)
  · show (mPut b 24 5 x).1 26 j = _
    rw [mPut_nq (by decide)]; exact h.2.2.1 j hj
  · show (mPut b 24 5 x).1 27 (10 * q + e) = _
    rw [mPut_nq (by decide)]; exact h.2.2.2.2 q (by omega) e he
theorem BX_00 (b : xMem) : BX (xPull esRo (mPut b 24 5 (-1))) 0 (0, 0, 0) := ⟨(show (mPut b 24 5 (-1)).1 24 5 = -1 from mPut_at), Nat.zero_le _, Or.inl rfl⟩
theorem BX_back24 {rw : Bool} {z zn : xMem} {b : sBt} (h : BX zn 0 b) : BX (xBack esRo rw z zn) 24 b := h
theorem SK_back {tc : Nat → sTc} {r : sR} {rw : Bool} {z b zn : xMem} {p q : Nat} {x : Int32} (h : SB tc r z b p) (hq : q < 24) (h23 : q ≠ 23) : (xBack esRo rw (mPut b 24 5 x) zn).1 q = z.1 q := by
  have e : ∀ q, q < 24 → xIx esRo q 0 = none := by decide
  rw [xBack_no (e q hq), mPut_nq (by omega)]
  exact h.1 q hq h23

set_option maxHeartbeats 4000000 in
set_option maxRecDepth 20000 in
theorem t_X1_seek (l : Launch) (d : Nat) (z : xMem) (r : sR) (cnt : Nat) (tc : Nat → sTc) (hr : RX z 0 r) (hw : sW r cnt) (ht : TX z 8 cnt tc) : XMv l (d + 6) yX1_seek cX1_seek 4 none shRRo [.ref 24, .ref 0] z (fun z' => BX z' 24 (sRB tc r) ∧ ∀ q, q < 24 → q ≠ 23 → z'.1 q = z.1 q) := by
  refine XM.of (by decide) (Nat.le_of_ble_eq_true rfl) (fun xp xe xs xm xar xbl xme xc xD xcs xad xAA xCC xhr => ?_)
  generalize xhQ : MQ xbl _ xar xs 0 0 xAA = xQ
  show ww xp l xe (xRm (d + 6)) xs xm xar xbl xme xc 4 xD xcs xad shRRo xAA xQ 0 [(0, .ref 24), (1, .ref 0)] [] z
  have hb := hw.1
  have h74 : r 7 4 ≤ 4 := hw.2.2.2.2.2.2.1
  have hrp : z.1 0 9 = nI (r 7 4) := hr.2.2.2.2.2.2.2.2.2.2.2.2.1
  refine ww_blk xCC okX1_seek 0 6 (ps := []) (pc' := 10) (lv' := [(2, .int 0), (0, .ref 24), (1, .ref 0)]) (st' := []) (z' := (mPut z 24 3 (z.1 0 9))) rfl trivial ?_
  rw [hrp]
  have L10 : ∀ (n10 : Nat) (i : Nat) (zL : xMem), 10 - i < n10 → (i ≤ 10) → (SK r z zL i) → ww xp l xe (xRm (d + 6)) xs xm xar xbl xme xc 4 xD xcs xad shRRo xAA xQ 10 [(2, .int (nI i)), (0, .ref 24), (1, .ref 0)] [] zL := by
    intro n10
    induction n10 with
    | zero =>
      intro i zL hmu10
      exact absurd hmu10 (Nat.not_lt_zero _)
    | succ n10 ih10 =>
      intro i zL hmu10 e10_0 e10_1
      have hrL := RX_of (b := 0) (b' := 0) (fun k hk => e10_1.1 _ (by omega) (by omega)) hr
      refine ww_blk xCC okX1_seek 6 2 (ps := []) (pc' := 13) (lv' := [(2, .int (nI i)), (0, .ref 24), (1, .ref 0)]) (st' := [.int 10, .int (nI i)]) (z' := zL) rfl trivial ?_
      refine ww_br xCC okX1_seek 8 (P := 10 ≤ (nI i)) (t1 := 39) (t2 := 16) (r := []) rfl (fun c1 => ?_) (fun c1 => ?_)
      · skip
        replace c1 : 10 ≤ i := (sLE (a := 10) (b := i) (by omega) (by omega)).mp c1
        refine ww_blk xCC okX1_seek 22 2 (ps := []) (pc' := 41) (lv' := [(2, .int 0), (0, .ref 24), (1, .ref 0)]) (st' := []) (z' := zL) rfl trivial ?_
        have L41 : ∀ (n41 : Nat) (p : Nat) (zP : xMem), r 7 4 - p < n41 → (p ≤ r 7 4) → (SB tc r z zP p) → ww xp l xe (xRm (d + 6)) xs xm xar xbl xme xc 4 xD xcs xad shRRo xAA xQ 41 [(2, .int (nI p)), (0, .ref 24), (1, .ref 0)] [] zP := by
          intro n41
          induction n41 with
          | zero =>
            intro p zP hmu41
            exact absurd hmu41 (Nat.not_lt_zero _)
          | succ n41 ih41 =>
            intro p zP hmu41 e41_0 e41_1
            have hrP := RX_of (b := 0) (b' := 0) (fun k hk => e41_1.1 _ (by omega) (by omega)) hr
            have htP := TX_of (t := 8) (t' := 8) (fun k hk => e41_1.1 _ (by omega) (by omega)) ht
            have hT := e41_1
            refine ww_blk xCC okX1_seek 24 3 (ps := []) (pc' := 46) (lv' := [(2, .int (nI p)), (0, .ref 24), (1, .ref 0)]) (st' := [.int (zP.1 24 3), .int (nI p)]) (z' := zP) rfl trivial ?_
            rw [show zP.1 24 3 = nI (r 7 4) from e41_1.2.1]
            refine ww_br xCC okX1_seek 27 (P := (nI (r 7 4)) ≤ (nI p)) (t1 := 97) (t2 := 49) (r := []) rfl (fun c2 => ?_) (fun c2 => ?_)
            · skip
              replace c2 : (r 7 4) ≤ p := (sLE (a := (r 7 4)) (b := p) (by omega) (by omega)).mp c2
              refine ww_blk xCC okX1_seek 56 10 (ps := []) (pc' := 111) (lv' := [(2, .int (nI p)), (0, .ref 24), (1, .ref 0)]) (st' := [.int 0, .int (zP.1 0 3), .int 0, .int 0, .int 0, .ref 24]) (z' := (mPut zP 24 5 (-1))) rfl trivial ?_
              rw [show zP.1 0 3 = nI (r 7 0) from hrP.2.2.2.2.2.2.2.2.1]
              refine ww_callSEv xCC okX1_seek 66 (ix := 46) (p_all l (r 7 4) (fun q => sAl (sCf tc r q) 10) (fun j => r 1 j &&& sAl (r 0) 8) (cN tc r) (fun q => sAl_lt _ 10) (fun j => Nat.lt_of_le_of_lt Nat.and_le_left (hb j).2.1) (cN_bd tc r) (r 7 4) d 0 0 0 (r 7 0) 0 0 0 0 (xPull esRo (mPut zP 24 5 (-1))) (RT_pull hT h74 (by omega)) (BX_00 zP) (by omega) (by decide) hw.2.1 (by omega)) (by omega) (by decide) xyX1_place xiX1_place (Or.inl (lw_gt_of (List.mem_of_getElem? (i := 652) (by decide +kernel)) rfl)) (by decide +kernel) (by decide) (fun q => by cases q) rfl (rest := []) rfl (Nat.le_of_ble_eq_true rfl) rfl (fun zW hW => ?_)
              subst xhQ
              exact ww_vret xCC okX1_seek 67 xhr rfl ⟨rfl, ⟨BX_back24 hW.1, fun q hq h23 => SK_back hT hq h23⟩⟩
            · skip
              replace c2 : ¬ (r 7 4) ≤ p := fun q => c2 ((sLE (a := (r 7 4)) (b := p) (by omega) (by omega)).mpr q)
              refine ww_blk xCC okX1_seek 28 5 (ps := []) (pc' := 56) (lv' := [(2, .int (nI p)), (0, .ref 24), (1, .ref 0)]) (st' := [.int (nI p), .ref 0, .int (nI p), .ref 25]) (z' := zP) rfl trivial ?_
              refine ww_callVEi xCC okX1_seek 33 (ix := 32) (t_X0_deedsFor l d p (xPull esRS zP) r cnt tc (RX_pull (by decide) hrP) hw (TX_pull (by decide) htP) (by omega)) (by omega) (by decide) xyX0_deedsFor xiX0_deedsFor (Or.inr (List.mem_of_getElem? (i := 650) (by decide +kernel))) (by decide +kernel) (by decide) (fun q => by cases q) (q0 := 0) rfl rfl rfl rfl (rest := [.int (nI p), .ref 25]) rfl (Nat.le_of_ble_eq_true rfl) rfl (fun vD zD hD => ?_)
              have hKN := KN_back (rw := xHasRaw shR) hD.2
              obtain ⟨zE, hzzE⟩ : ∃ y, y = xBack esRS (xHasRaw shR) zP zD := ⟨_, rfl⟩
              rw [← hzzE] at hKN ⊢
              rw [hD.1]
              refine ww_blk xCC okX1_seek 34 3 (ps := [vp_in (nI p) 4]) (pc' := 62) (lv' := [(3, .int 0), (2, .int (nI p)), (0, .ref 24), (1, .ref 0)]) (st' := []) (z' := (mPut zE 25 (nI p).toNatClampNeg (nI (sAl (sCf tc r p) 10)))) rfl (vp_in_nI (by omega) (by decide)) ?_
              rw [sCL (n := p) (by omega)]
              have L62 : ∀ (n62 : Nat) (e : Nat) (zI : xMem), 10 - e < n62 → (e ≤ 10) → (SI tc r z zI p e) → ww xp l xe (xRm (d + 6)) xs xm xar xbl xme xc 4 xD xcs xad shRRo xAA xQ 62 [(3, .int (nI e)), (2, .int (nI p)), (0, .ref 24), (1, .ref 0)] [] zI := by
                intro n62
                induction n62 with
                | zero =>
                  intro e zI hmu62
                  exact absurd hmu62 (Nat.not_lt_zero _)
                | succ n62 ih62 =>
                  intro e zI hmu62 e62_0 e62_1
                  have hrI := RX_of (b := 0) (b' := 0) (fun k hk => e62_1.1.1 _ (by omega) (by omega)) hr
                  have htI := TX_of (t := 8) (t' := 8) (fun k hk => e62_1.1.1 _ (by omega) (by omega)) ht
                  refine ww_blk xCC okX1_seek 37 2 (ps := []) (pc' := 65) (lv' := [(3, .int (nI e)), (2, .int (nI p)), (0, .ref 24), (1, .ref 0)]) (st' := [.int 10, .int (nI e)]) (z' := zI) rfl trivial ?_
                  refine ww_br xCC okX1_seek 39 (P := 10 ≤ (nI e)) (t1 := 91) (t2 := 68) (r := []) rfl (fun c4 => ?_) (fun c4 => ?_)
                  · skip
                    replace c4 : 10 ≤ e := (sLE (a := 10) (b := e) (by omega) (by omega)).mp c4
                    refine ww_blk xCC okX1_seek 54 2 (ps := []) (pc' := 41) (lv' := [(2, .int ((nI p) + 1)), (3, .int (nI e)), (0, .ref 24), (1, .ref 0)]) (st' := []) (z' := zI) rfl trivial ?_
                    rw [show nI p + (1 : Int32) = nI (p + 1) from nI_add p 1]
                    exact ww_cut [0, 2, 3] (xlc rfl (xlc rfl (xlc rfl rfl))) rfl rfl (ih41 (p + 1) zI (by omega) (by omega) (ST_s e62_1 (by omega)))
                  · skip
                    replace c4 : ¬ 10 ≤ e := fun q => c4 ((sLE (a := 10) (b := e) (by omega) (by omega)).mpr q)
                    refine ww_blk xCC okX1_seek 40 10 (ps := []) (pc' := 81) (lv' := [(3, .int (nI e)), (2, .int (nI p)), (0, .ref 24), (1, .ref 0)]) (st' := [.int (nI e), .int (nI p), .ref 0, .int (((nI p) * 10) + (nI e)), .ref 27]) (z' := zI) rfl trivial ?_
                    rw [show nI p * (10 : Int32) = nI (10 * p) from (pk_mul p 10).trans (by rw [Nat.mul_comm])]
                    rw [nI_add (10 * p) e]
                    refine ww_callVEi xCC okX1_seek 50 (ix := 36) (t_X0_costs l (d + 1) p e (xPull esRS zI) r cnt tc (RX_pull (by decide) hrI) hw (TX_pull (by decide) htI) (by omega) (by omega)) (by omega) (by decide) xyX0_costs xiX0_costs (Or.inr (List.mem_of_getElem? (i := 651) (by decide +kernel))) (by decide +kernel) (by decide) (fun q => by cases q) (q0 := 0) rfl rfl rfl rfl (rest := [.int (nI ((10 * p) + e)), .ref 27]) rfl (Nat.le_of_ble_eq_true rfl) rfl (fun vC zC hC => ?_)
                    have hKN := KN_back (rw := xHasRaw shR) hC.2
                    obtain ⟨zG, hzzG⟩ : ∃ y, y = xBack esRS (xHasRaw shR) zI zC := ⟨_, rfl⟩
                    rw [← hzzG] at hKN ⊢
                    rw [hC.1]
                    refine ww_blk xCC okX1_seek 51 3 (ps := [vp_in (nI ((10 * p) + e)) 40]) (pc' := 62) (lv' := [(3, .int ((nI e) + 1)), (2, .int (nI p)), (0, .ref 24), (1, .ref 0)]) (st' := []) (z' := (mPut zG 27 (nI ((10 * p) + e)).toNatClampNeg (sCosts tc r p e))) rfl (vp_in_nI (by omega) (by decide)) ?_
                    rw [show nI e + (1 : Int32) = nI (e + 1) from nI_add e 1]
                    rw [sCL (n := ((10 * p) + e)) (by omega)]
                    rw [cN_eq]
                    exact ww_cut [0, 1, 2, 3] (xlc rfl (xlc rfl (xlc rfl (xlc rfl rfl)))) rfl rfl (ih62 (e + 1) (mPut zG 27 ((10 * p) + e) (nI (cN tc r p e))) (by omega) (by omega) (SI_1 (SI_K e62_1 hKN) (by omega)))
              exact ww_cut [0, 1, 2, 3] (xlc (congrArg Value.int (show (0 : Int32) = nI 0 from rfl)) (xlc rfl (xlc rfl (xlc rfl rfl)))) rfl rfl (L62 (10 - 0 + 1) 0 (mPut zE 25 p (nI (sAl (sCf tc r p) 10))) (Nat.lt_succ_self _) (by omega) (SI_0 (ST_K e41_1 hKN)))
        exact ww_cut [0, 1, 2] (xlc (congrArg Value.int (show (0 : Int32) = nI 0 from rfl)) (xlc rfl (xlc rfl rfl))) rfl rfl (L41 (r 7 4 - 0 + 1) 0 zL (Nat.lt_succ_self _) (by omega) (ST_0 e10_1 (by omega)))
      · skip
        replace c1 : ¬ 10 ≤ i := fun q => c1 ((sLE (a := 10) (b := i) (by omega) (by omega)).mpr q)
        refine ww_blk xCC okX1_seek 9 13 (ps := [vp_in (nI i) 10, vp_in (nI i) 10]) (pc' := 10) (lv' := [(2, .int ((nI i) + 1)), (0, .ref 24), (1, .ref 0)]) (st' := []) (z' := (mPut zL 26 (nI i).toNatClampNeg ((zL.1 2 (nI i).toNatClampNeg) &&& (zL.1 0 2)))) rfl ⟨(vp_in_nI (by omega) (by decide)), (vp_in_nI (by omega) (by decide))⟩ ?_
        rw [show nI i + (1 : Int32) = nI (i + 1) from nI_add i 1]
        rw [sCL (n := i) (by omega)]
        rw [show zL.1 2 i = nI (r 1 i) from hrL.2.1 i]
        rw [show zL.1 0 2 = nI (sAl (r 0) 8) from hrL.2.2.2.2.2.2.2.1]
        rw [fa_and (r 1 i) (sAl (r 0) 8)]
        exact ww_cut [0, 1, 2] (xlc rfl (xlc rfl (xlc rfl rfl))) rfl rfl (ih10 (i + 1) (mPut zL 26 i (nI ((r 1 i) &&& (sAl (r 0) 8)))) (by omega) (by omega) (SK_1 e10_1))
  exact ww_cut [0, 1, 2] (xlc (congrArg Value.int (show (0 : Int32) = nI 0 from rfl)) (xlc rfl (xlc rfl rfl))) rfl rfl (L10 (10 - 0 + 1) 0 (mPut z 24 3 (nI (r 7 4))) (Nat.lt_succ_self _) (by omega) (SK_0 rfl))
