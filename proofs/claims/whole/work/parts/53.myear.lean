/-! the model's year; what the running of years leaves alone -/
def sOut (r s : sR) : Prop := ∀ q j, ¬ ((q = 0 ∧ j < 8) ∨ ((q = 5 ∨ q = 6) ∧ j < 4) ∨ (q = 7 ∧ (j = 0 ∨ j = 2 ∨ j = 3))) → s q j = r q j
theorem sOut_tr {a b c : sR} (h : sOut a b) (h2 : sOut b c) : sOut a c := fun q j hn => (h2 q j hn).trans (h q j hn)
theorem sOut_done {tc : Nat → sTc} {r : sR} {p e : Nat} (hp : p < 4) : sOut r (sDone tc r p e) := by
  intro q j hn
  unfold sDone
  grind
theorem sOut_end {r : sR} (h : r 7 4 ≤ 4) : sOut r (sEnd r) := by
  intro q j hn
  simp only [sEnd, sE2, sE1]
  grind
theorem sOut_ap {tc : Nat → sTc} {r : sR} : ∀ k, k ≤ 4 → sOut r (sAp tc r k).1
  | 0, _ => fun _ _ _ => rfl
  | k + 1, h => by
    have e := sOut_ap (tc := tc) (r := r) k (by omega)
    rw [sAp]
    split
    · exact sOut_tr e (sOut_done (by omega))
    · exact e
theorem sOut_go {tc : Nat → sTc} {r : sR} (h : r 7 4 ≤ 4) : ∀ k, sOut r (sGo tc r k).1
  | 0 => fun _ _ _ => rfl
  | k + 1 => by
    have e := sOut_go (tc := tc) h k
    have e4 : (sGo tc r k).1 7 4 = r 7 4 := e 7 4 (by decide)
    have a := sOut_ap (tc := tc) (r := (sGo tc r k).1) ((sGo tc r k).1 7 4) (by omega)
    have a4 : (sAll tc (sGo tc r k).1).1 7 4 = (sGo tc r k).1 7 4 := a 7 4 (by decide)
    exact sOut_tr (sOut_tr e a) (sOut_end (r := (sAll tc (sGo tc r k).1).1) (by omega))
theorem WD_of {z a b : xMem} {r s : sR} (hA : WC z a) (hK : KO a b) (hr : RM z r) (hs : RM b s) (ho : sOut r s) : WD z b := by
  obtain ⟨w1, w2, w3, w4, w5, w6⟩ := hA
  have h8 : b.1 8 = a.1 8 := hK.1 8 (by decide) (by decide) (by decide)
  refine ⟨fun q h0 h4 h7 h8 => (hK.1 q h0 h4 h7).trans (w1 q h8), fun j hj => (hK.2 j hj).trans (congrFun (w1 0 (by decide)) j), fun j hj => ?_, fun j hj => ?_, ?_, ?_, ?_, fun j hj => ?_, fun j hj => ?_⟩
  · rw [h8]; exact w2 j hj
  · rw [h8]; exact w3 j hj
  · rw [h8]; exact w4
  · rw [h8]; exact w5
  · rw [h8]; exact w6
  · obtain ⟨a1, a2, a3, a4, a5, a6, a7, -⟩ := hr
    obtain ⟨b1, b2, b3, b4, b5, b6, b7, -⟩ := hs
    have ho4 := ho 4 (j / 4) (by omega)
    have ho5 := ho 5 (j / 4) (by omega)
    have ho6 := ho 6 (j / 4) (by omega)
    have ho3 := ho 3 (j / 4) (by omega)
    rcases (show j = 4 * (j / 4) ∨ j = 4 * (j / 4) + 1 ∨ j = 4 * (j / 4) + 2 ∨ j = 4 * (j / 4) + 3 by omega) with e | e | e | e
    · rw [e, b4, a4, ho4]
    · rw [e, b5, a5, ho5]
    · rw [e, b6, a6, ho6]
    · rw [e, b7, a7, ho3]
  · rw [hs.1, hr.1, ho 0 j (by omega)]
theorem RM_KS {z z' : xMem} {r : sR} (h : KS z z') (hr : RM z r) : RM z' r := by
  obtain ⟨a1, a2, a3, a4, a5, a6, a7, b1, b2, b3, b4, b5, b6⟩ := hr
  refine ⟨fun j => ?_, fun j => ?_, fun j => ?_, fun j => ?_, fun j => ?_, fun j => ?_, fun j => ?_, ?_, ?_, ?_, ?_, ?_, ?_⟩
  · rw [h.1 4 (by decide) (by decide)]; exact a1 j
  · rw [h.1 5 (by decide) (by decide)]; exact a2 j
  · rw [h.1 6 (by decide) (by decide)]; exact a3 j
  · rw [h.1 7 (by decide) (by decide)]; exact a4 j
  · rw [h.1 7 (by decide) (by decide)]; exact a5 j
  · rw [h.1 7 (by decide) (by decide)]; exact a6 j
  · rw [h.1 7 (by decide) (by decide)]; exact a7 j
  · rw [h.2 9 (by omega)]; exact b1
  · rw [h.2 7 (by omega)]; exact b2
  · rw [h.2 8 (by omega)]; exact b3
  · rw [h.2 10 (by omega)]; exact b4
  · rw [h.2 15 (by omega)]; exact b5
  · rw [h.2 4 (by omega)]; exact b6
set_option maxHeartbeats 4000000 in
set_option maxRecDepth 20000 in
theorem t_X6_year (l : Launch) (d : Nat) (z : xMem) (r : sR) (cnt : Nat) (hr : RM z r) (hw : sW r cnt) : XMi l (d + 2) yX6_year cX6_year 1 (some .int) shM [.ref 0] z (fun v z' => (r 7 2 = 999 ∧ v = -3 ∧ z' = z) ∨ (¬ r 7 2 = 999 ∧ v = sEv r ∧ RM z' (sEnd r) ∧ KO z z')) := by
  refine XM.of (by decide) (Nat.le_of_ble_eq_true rfl) (fun xp xe xs xm xar xbl xme xc xD xcs xad xAA xCC xhr => ?_)
  generalize xhQ : MQ xbl _ xar xs 0 0 xAA = xQ
  show ww xp l xe (xRm (d + 2)) xs xm xar xbl xme xc 1 xD xcs xad shM xAA xQ 0 [(0, .ref 0)] [] z
  have hy := hw.2.2.2.2.1
  refine ww_blk xCC okX6_year 0 3 (ps := []) (pc' := 7) (lv' := [(0, .ref 0)]) (st' := [.int 999, .int (z.1 0 8)]) (z' := z) rfl trivial ?_
  rw [hr.2.2.2.2.2.2.2.2.2.1]
  refine ww_br xCC okX6_year 3 (P := (nI (r 7 2)) = 999) (t1 := 10) (t2 := 15) (r := []) rfl (fun c1 => ?_) (fun c1 => ?_)
  · skip
    replace c1 : (r 7 2) = 999 := (sEQ (a := (r 7 2)) (b := 999) (by omega) (by omega)).mp c1
    refine ww_blk xCC okX6_year 4 2 (ps := []) (pc' := 19) (lv' := [(0, .ref 0)]) (st' := [.int (-3)]) (z' := z) rfl trivial ?_
    subst xhQ
    exact ww_iret xCC okX6_year 8 xhr rfl rfl ⟨_, rfl, (Or.inl ⟨by assumption, rfl, rfl⟩)⟩
  · skip
    replace c1 : ¬ (r 7 2) = 999 := fun q => c1 ((sEQ (a := (r 7 2)) (b := 999) (by omega) (by omega)).mpr q)
    refine ww_blk xCC okX6_year 6 1 (ps := []) (pc' := 16) (lv' := [(0, .ref 0)]) (st' := [.ref 0]) (z' := z) rfl trivial ?_
    refine ww_callVIi xCC okX6_year 7 (ix := 287) (t_X6_ends l d z r cnt hr hw) (by omega) (by decide) xyX6_ends xiX6_ends (Or.inl (lw_gt_of (List.mem_of_getElem? (i := 1138) (by decide +kernel)) rfl)) rfl rfl rfl (rest := []) rfl (Nat.le_of_ble_eq_true rfl) rfl (fun vB zB hB => ?_)
    subst xhQ
    exact ww_iret xCC okX6_year 8 xhr rfl rfl ⟨_, rfl, (Or.inr ⟨by assumption, hB⟩)⟩
