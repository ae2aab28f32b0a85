/-! LawsLapse's fitting values -/
def esHS0 : List Nat := [27, 28, 29, 30, 31, 32, 33, 34, 1, 2, 3, 4, 5, 6, 7, 8, 9, 10, 11, 12, 13, 14, 15, 16, 48, 49]
def esNS0 : List Nat := [19, 20, 21, 22, 23, 24, 25, 26, 1, 2, 3, 4, 5, 6, 7, 8, 9, 10, 11, 12, 13, 14, 15, 16, 48, 49]
theorem KU_esHS0_KN {rw : Bool} {z zn : xMem} (h : KN (xPull esHS0 z) zn) : KU U0 z (xBack esHS0 rw z zn) := KU_back (I := [23]) (fun i hi => h i (by simpa using hi)) (by decide)
theorem KU_esNS0_KN {rw : Bool} {z zn : xMem} (h : KN (xPull esNS0 z) zn) : KU U0 z (xBack esNS0 rw z zn) := KU_back (I := [23]) (fun i hi => h i (by simpa using hi)) (by decide)
def esHS1 : List Nat := [27, 28, 29, 30, 31, 32, 33, 34, 1, 2, 3, 4, 5, 6, 7, 8, 9, 10, 11, 12, 13, 14, 15, 16, 50, 51]
def esNS1 : List Nat := [19, 20, 21, 22, 23, 24, 25, 26, 1, 2, 3, 4, 5, 6, 7, 8, 9, 10, 11, 12, 13, 14, 15, 16, 50, 51]
theorem KU_esHS1_KN {rw : Bool} {z zn : xMem} (h : KN (xPull esHS1 z) zn) : KU U0 z (xBack esHS1 rw z zn) := KU_back (I := [23]) (fun i hi => h i (by simpa using hi)) (by decide)
theorem KU_esNS1_KN {rw : Bool} {z zn : xMem} (h : KN (xPull esNS1 z) zn) : KU U0 z (xBack esNS1 rw z zn) := KU_back (I := [23]) (fun i hi => h i (by simpa using hi)) (by decide)
def esHS2 : List Nat := [27, 28, 29, 30, 31, 32, 33, 34, 1, 2, 3, 4, 5, 6, 7, 8, 9, 10, 11, 12, 13, 14, 15, 16, 52, 53]
def esNS2 : List Nat := [19, 20, 21, 22, 23, 24, 25, 26, 1, 2, 3, 4, 5, 6, 7, 8, 9, 10, 11, 12, 13, 14, 15, 16, 52, 53]
theorem KU_esHS2_KN {rw : Bool} {z zn : xMem} (h : KN (xPull esHS2 z) zn) : KU U0 z (xBack esHS2 rw z zn) := KU_back (I := [23]) (fun i hi => h i (by simpa using hi)) (by decide)
theorem KU_esNS2_KN {rw : Bool} {z zn : xMem} (h : KN (xPull esNS2 z) zn) : KU U0 z (xBack esNS2 rw z zn) := KU_back (I := [23]) (fun i hi => h i (by simpa using hi)) (by decide)
def esHS3 : List Nat := [27, 28, 29, 30, 31, 32, 33, 34, 1, 2, 3, 4, 5, 6, 7, 8, 9, 10, 11, 12, 13, 14, 15, 16, 54, 55]
def esNS3 : List Nat := [19, 20, 21, 22, 23, 24, 25, 26, 1, 2, 3, 4, 5, 6, 7, 8, 9, 10, 11, 12, 13, 14, 15, 16, 54, 55]
theorem KU_esHS3_KN {rw : Bool} {z zn : xMem} (h : KN (xPull esHS3 z) zn) : KU U0 z (xBack esHS3 rw z zn) := KU_back (I := [23]) (fun i hi => h i (by simpa using hi)) (by decide)
theorem KU_esNS3_KN {rw : Bool} {z zn : xMem} (h : KN (xPull esNS3 z) zn) : KU U0 z (xBack esNS3 rw z zn) := KU_back (I := [23]) (fun i hi => h i (by simpa using hi)) (by decide)
theorem sF1_k (f : Nat → Bool) : ∀ k, sF1 f k ≤ k
  | 0 => Nat.le_refl 0
  | k + 1 => by
    have := sF1_k f k
    rw [sF1]
    repeat' split
    all_goals omega
theorem fb_1 {f : Nat → Bool} {v : Nat} (hv : v < 10) (hf : f v = true) : nI (sAl (sFb f) v) ||| ((1 : Int32) <<< (nI v &&& 31)) = nI (sAl (sFb f) (v + 1)) := by
  rw [sOr_bit v hv _ (sAl_lt _ v), sAl, if_pos (by unfold sFb; rw [if_pos ⟨hv, hf⟩]; decide)]
theorem fb_0 {f : Nat → Bool} {v : Nat} (hf : f v = false) : nI (sAl (sFb f) v) = nI (sAl (sFb f) (v + 1)) := by
  rw [sAl, if_neg (by unfold sFb; rw [if_neg (fun q => by rw [hf] at q; exact absurd q.2 (by decide))]; decide)]
theorem ct_1 {f : Nat → Bool} {v : Nat} (hf : f v = true) : nI (sCt f v + 1) = nI (sCt f (v + 1)) := by rw [sCt, if_pos hf]
theorem ct_0 {f : Nat → Bool} {v : Nat} (hf : f v = false) : nI (sCt f v) = nI (sCt f (v + 1)) := by rw [sCt, if_neg (by rw [hf]; decide)]
/-- a republic that differs from r in one value alone -/
def LK (r rq : sR) (g p cnt : Nat) : Prop := (∀ v, sLay rq g p v = sLay r g p v) ∧ sW rq cnt ∧ sSub rq ∧ sZ rq ∧ rq 7 4 = r 7 4
theorem LK_0 {r : sR} {g p cnt : Nat} (hw : sW r cnt) (hS : sSub r) (hZ : sZ r) : LK r r g p cnt := ⟨fun _ => rfl, hw, hS, hZ, rfl⟩
theorem sLay_h0 {r : sR} {g p v : Nat} (hg : g = 2 ∨ g = 5 ∨ g = 7 ∨ g = 8 ∨ g = 9) : sLay r g p v 0 = r 0 ∧ sLay r g p v 7 0 = r 7 0 ∧ sLay r g p v 7 4 = r 7 4 := by
  refine ⟨?_, ?_, ?_⟩
  · funext j
    rcases hg with rfl | rfl | rfl | rfl | rfl <;> simp [sLay]
  · rcases hg with rfl | rfl | rfl | rfl | rfl <;> simp [sLay]
  · rcases hg with rfl | rfl | rfl | rfl | rfl <;> simp [sLay]
theorem sZ_lay {r : sR} {g p v : Nat} (hg : g = 2 ∨ g = 5 ∨ g = 7 ∨ g = 8 ∨ g = 9) (hp : p < 4) (h : sZ r) : sZ (sLay r g p v) := by
  intro j
  obtain ⟨h1, h2, h3⟩ := h j
  refine ⟨fun q => ?_, fun q => ?_, fun q => ?_⟩
  · rw [(sLay_h0 hg).1]; exact h1 q
  · rcases hg with rfl | rfl | rfl | rfl | rfl <;> simpa [sLay] using h2 q
  · have e : ¬ j = p := by omega
    rcases hg with rfl | rfl | rfl | rfl | rfl <;> simpa [sLay, e] using h3 q
theorem LK_s {r rq : sR} {g p cnt v : Nat} (_ : LK r rq g p cnt) (hw : sW r cnt) (hZ : sZ r) (hS : sSub r) (hg : g = 2 ∨ g = 5 ∨ g = 7 ∨ g = 8 ∨ g = 9) (hv : v ≤ sLst g cnt) (hp : p < r 7 4) (hc : 1 ≤ cnt) : LK r (sLay r g p v) g p cnt := by
  have h74 := hw.2.2.2.2.2.2.1
  refine ⟨fun b => sLay_2 hg, sW_lay hw hg hv hc, fun i hi => ?_, sZ_lay hg (by omega) hZ, (sLay_h0 hg).2.2⟩
  rw [(sLay_h0 hg).2.1] at hi
  rw [(sLay_h0 hg).1]
  exact hS i hi
set_option maxHeartbeats 4000000 in
set_option maxRecDepth 20000 in
theorem t_X5_fittingBits_0 (l : Launch) (d : Nat) (z : xMem) (r : sR) (cnt : Nat) (tc : Nat → sTc) (hr : RX z 27 r) (hw : sW r cnt) (ht : TX z 1 cnt tc) (hS : sSub r) (hZ : sZ r) (n : Nat) (it : Nat → Int32) (hn : n ≤ 10) (h48 : z.1 48 1 = nI n) (hit : ∀ i, i < n → z.1 49 i = it i) (u g p : Nat) (B : Nat) (hB10 : B ≤ 10) (hug : (if u = 13 then 9 else u) = g) (hu : u ≤ 8 ∨ u = 13) (hg : g = 2 ∨ g = 5 ∨ g = 7 ∨ g = 8 ∨ g = 9) (hI : u = 13 ∨ sIs (r 7 4) (nI p) u) (hp : p < r 7 4) (hB : ∀ v, v < B → v ≤ sLst g cnt) : XMi l (d + 6) yX5_fittingBits cX5_fittingBits 7 (some .int) shX [.ref 0, .ref 48, .int (nI p), .int (nI u), .int (nI B)] z (fun v9 z' => v9 = nI (sAl (sFb (sFt tc r g p it n)) B) ∧ TH z' ∧ KU UH z z') := by
  refine XM.of (by decide) (Nat.le_of_ble_eq_true rfl) (fun xp xe xs xm xar xbl xme xc xD xcs xad xAA xCC xhr => ?_)
  generalize xhQ : MQ xbl _ xar xs 0 0 xAA = xQ
  show ww xp l xe (xRm (d + 6)) xs xm xar xbl xme xc 7 xD xcs xad shX xAA xQ 0 [(0, .ref 0), (1, .ref 48), (2, .int (nI p)), (3, .int (nI u)), (4, .int (nI B))] [] z
  have h74 : r 7 4 ≤ 4 := hw.2.2.2.2.2.2.1
  have hl99 := sLst_le g cnt ht.2.2.1
  refine ww_blk xCC okX5_fittingBits 0 4 (ps := []) (pc' := 6) (lv' := [(6, .int 0), (5, .int 0), (0, .ref 0), (1, .ref 48), (2, .int (nI p)), (3, .int (nI u)), (4, .int (nI B))]) (st' := []) (z' := z) rfl trivial ?_
  have L6 : ∀ (n6 : Nat) (v : Nat) (rq : sR) (zL : xMem), B - v < n6 → (RX zL 27 rq) → (LK r rq g p cnt) → (KU UH z zL) → (v ≤ B) → ww xp l xe (xRm (d + 6)) xs xm xar xbl xme xc 7 xD xcs xad shX xAA xQ 6 [(6, .int (nI v)), (5, .int (nI (sAl (sFb (sFt tc r g p it n)) v))), (0, .ref 0), (1, .ref 48), (2, .int (nI p)), (3, .int (nI u)), (4, .int (nI B))] [] zL := by
    intro n6
    induction n6 with
    | zero =>
      intro v rq zL hmu6
      exact absurd hmu6 (Nat.not_lt_zero _)
    | succ n6 ih6 =>
      intro v rq zL hmu6 e6_0 e6_1 e6_2 e6_3
      have hrL := e6_0
      have hLK := e6_1
      refine ww_blk xCC okX5_fittingBits 4 2 (ps := []) (pc' := 10) (lv' := [(6, .int (nI v)), (5, .int (nI (sAl (sFb (sFt tc r g p it n)) v))), (0, .ref 0), (1, .ref 48), (2, .int (nI p)), (3, .int (nI u)), (4, .int (nI B))]) (st' := [.int (nI B), .int (nI v)]) (z' := zL) rfl trivial ?_
      refine ww_br xCC okX5_fittingBits 6 (P := (nI B) ≤ (nI v)) (t1 := 52) (t2 := 13) (r := []) rfl (fun c1 => ?_) (fun c1 => ?_)
      · skip
        replace c1 : B ≤ v := (sLE (a := B) (b := v) (by omega) (by omega)).mp c1
        refine ww_blk xCC okX5_fittingBits 28 1 (ps := []) (pc' := 54) (lv' := [(6, .int (nI v)), (5, .int (nI (sAl (sFb (sFt tc r g p it n)) v))), (0, .ref 0), (1, .ref 48), (2, .int (nI p)), (3, .int (nI u)), (4, .int (nI B))]) (st' := [.int (nI (sAl (sFb (sFt tc r g p it n)) v))]) (z' := zL) rfl trivial ?_
        subst xhQ
        exact ww_iret xCC okX5_fittingBits 29 xhr rfl rfl ⟨_, rfl, ⟨(by rw [show v = B by omega]), ⟨rq, hrL, hLK.2.2.2.1⟩, e6_2⟩⟩
      · skip
        replace c1 : ¬ B ≤ v := fun q => c1 ((sLE (a := B) (b := v) (by omega) (by omega)).mpr q)
        refine ww_blk xCC okX5_fittingBits 7 5 (ps := []) (pc' := 21) (lv' := [(6, .int (nI v)), (5, .int (nI (sAl (sFb (sFt tc r g p it n)) v))), (0, .ref 0), (1, .ref 48), (2, .int (nI p)), (3, .int (nI u)), (4, .int (nI B))]) (st' := [.int (nI v), .int (nI u), .int (nI p), .ref 27]) (z' := zL) rfl trivial ?_
        refine ww_callVEv xCC okX5_fittingBits 12 (ix := 71) (t_X0_put l d u v (nI p) (xPull esH zL) rq cnt (RX_pull (by decide) hrL) hLK.2.1 hLK.2.2.1 (by omega) hu (by rw [hLK.2.2.2.2]; exact hI)) (by omega) (by decide) xyX0_put xiX0_put (Or.inr (List.mem_of_getElem? (i := 396) (by decide +kernel))) (by decide +kernel) (by decide) (fun q => by cases q) (q0 := 27) rfl rfl rfl rfl (rest := []) rfl (Nat.le_of_ble_eq_true rfl) rfl (fun zcP hcP => ?_)
        have hkP := KU_esH_KQ (rw := xHasRaw shR) hcP.2
        obtain ⟨zP, hzP⟩ : ∃ y, y = xBack esH (xHasRaw shR) zL zcP := ⟨_, rfl⟩
        rw [← hzP] at hkP ⊢
        have hrP := RX_back (es := esH) (rw := xHasRaw shR) (z := zL) (b := 27) (by decide) hcP.1
        rw [← hzP, hug, sTN (by omega), hLK.1] at hrP
        have hkP := KU_tr e6_2 hkP
        have htP := TX_U hkP (by decide) ht
        have hLP := LK_s hLK hw hZ hS hg (hB v (by omega)) hp ht.2.1
        refine ww_blk xCC okX5_fittingBits 13 4 (ps := []) (pc' := 30) (lv' := [(6, .int (nI v)), (5, .int (nI (sAl (sFb (sFt tc r g p it n)) v))), (0, .ref 0), (1, .ref 48), (2, .int (nI p)), (3, .int (nI u)), (4, .int (nI B))]) (st' := [.int (nI p), .ref 48, .ref 27]) (z' := zP) rfl trivial ?_
        refine ww_callVEi xCC okX5_fittingBits 17 (ix := 200) (t_X0_firstOtherwise l d p (xPull esHS0 zP) (sLay r g p v) cnt tc (RX_pull (by decide) hrP) hLP.2.1 (TX_pull (by decide) htP) n it hn ((congrFun (hkP 48 (by decide)) 1).trans h48) (fun i hi => (congrFun (hkP 49 (by decide)) i).trans (hit i hi)) (by omega)) (by omega) (by decide) xyX0_firstOtherwise xiX0_firstOtherwise (Or.inr (List.mem_of_getElem? (i := 696) (by decide +kernel))) (by decide +kernel) (by decide) (fun q => by cases q) (q0 := 27) rfl rfl rfl rfl (rest := []) rfl (Nat.le_of_ble_eq_true rfl) rfl (fun vcO zcO hcO => ?_)
        have hkO := KU_esHS0_KN (rw := xHasRaw shRS) hcO.2
        obtain ⟨zO, hzO⟩ : ∃ y, y = xBack esHS0 (xHasRaw shRS) zP zcO := ⟨_, rfl⟩
        rw [← hzO] at hkO ⊢
        rw [hcO.1]
        have hrO := RX_U hkO (by decide) hrP
        have hkk := KU_tr hkP (KU_mo hkO (by decide))
        refine ww_blk xCC okX5_fittingBits 18 1 (ps := []) (pc' := 34) (lv' := [(6, .int (nI v)), (5, .int (nI (sAl (sFb (sFt tc r g p it n)) v))), (0, .ref 0), (1, .ref 48), (2, .int (nI p)), (3, .int (nI u)), (4, .int (nI B))]) (st' := [.int (-1), .int (cI (sF1 (sOt tc (sLay r g p v) p it) n))]) (z' := zO) rfl trivial ?_
        refine ww_br xCC okX5_fittingBits 19 (P := (cI (sF1 (sOt tc (sLay r g p v) p it) n)) = (-1)) (t1 := 37) (t2 := 46) (r := []) rfl (fun c5 => ?_) (fun c5 => ?_)
        · skip
          have hf : sFt tc r g p it n v = true := by unfold sFt; exact decide_eq_true (cI_m (by have := sF1_k (sOt tc (sLay r g p v) p it) n; omega) c5)
          refine ww_blk xCC okX5_fittingBits 20 8 (ps := []) (pc' := 6) (lv' := [(6, .int ((nI v) + 1)), (5, .int ((nI (sAl (sFb (sFt tc r g p it n)) v)) ||| (1 <<< ((nI v) &&& 31)))), (0, .ref 0), (1, .ref 48), (2, .int (nI p)), (3, .int (nI u)), (4, .int (nI B))]) (st' := []) (z' := zO) rfl trivial ?_
          rw [show nI v + (1 : Int32) = nI (v + 1) from nI_add v 1]
          exact ww_cut [0, 1, 2, 3, 4, 5, 6] (xlc rfl (xlc (congrArg Value.int (show ((nI (sAl (sFb (sFt tc r g p it n)) v)) ||| (1 <<< ((nI v) &&& 31)) : Int32) = nI (sAl (sFb (sFt tc r g p it n)) (v + 1)) from (fb_1 (by omega) hf))) (xlc rfl (xlc rfl (xlc rfl (xlc rfl (xlc rfl rfl))))))) rfl rfl (ih6 (v + 1) (sLay r g p v) zO (by omega) hrO hLP hkk (by omega))
        · skip
          have hf : sFt tc r g p it n v = false := by unfold sFt; exact decide_eq_false (cI_nm c5)
          refine ww_blk xCC okX5_fittingBits 26 2 (ps := []) (pc' := 6) (lv' := [(6, .int ((nI v) + 1)), (5, .int (nI (sAl (sFb (sFt tc r g p it n)) v))), (0, .ref 0), (1, .ref 48), (2, .int (nI p)), (3, .int (nI u)), (4, .int (nI B))]) (st' := []) (z' := zO) rfl trivial ?_
          rw [show nI v + (1 : Int32) = nI (v + 1) from nI_add v 1]
          exact ww_cut [0, 1, 2, 3, 4, 5, 6] (xlc rfl (xlc (congrArg Value.int (show (nI (sAl (sFb (sFt tc r g p it n)) v) : Int32) = nI (sAl (sFb (sFt tc r g p it n)) (v + 1)) from (fb_0 hf))) (xlc rfl (xlc rfl (xlc rfl (xlc rfl (xlc rfl rfl))))))) rfl rfl (ih6 (v + 1) (sLay r g p v) zO (by omega) hrO hLP hkk (by omega))
  exact ww_cut [0, 1, 2, 3, 4, 5, 6] (xlc (congrArg Value.int (show (0 : Int32) = nI 0 from rfl)) (xlc (congrArg Value.int (show (0 : Int32) = nI (sAl (sFb (sFt tc r g p it n)) 0) from rfl)) (xlc rfl (xlc rfl (xlc rfl (xlc rfl (xlc rfl rfl))))))) rfl rfl (L6 (B - 0 + 1) 0 r z (Nat.lt_succ_self _) hr (LK_0 hw hS hZ) (KU_rf z) (by omega))

set_option maxHeartbeats 4000000 in
set_option maxRecDepth 20000 in
theorem t_X5_howManyFit_0 (l : Launch) (d : Nat) (z : xMem) (r : sR) (cnt : Nat) (tc : Nat → sTc) (hr : RX z 27 r) (hw : sW r cnt) (ht : TX z 1 cnt tc) (hS : sSub r) (hZ : sZ r) (n : Nat) (it : Nat → Int32) (hn : n ≤ 10) (h48 : z.1 48 1 = nI n) (hit : ∀ i, i < n → z.1 49 i = it i) (u g p : Nat)  (hug : (if u = 13 then 9 else u) = g) (hu : u ≤ 8 ∨ u = 13) (hg : g = 2 ∨ g = 5 ∨ g = 7 ∨ g = 8 ∨ g = 9) (hI : u = 13 ∨ sIs (r 7 4) (nI p) u) (hp : p < r 7 4) (hB : ∀ v, v < 100 → v ≤ sLst g cnt) : XMi l (d + 6) yX5_howManyFit cX5_howManyFit 6 (some .int) shX [.ref 0, .ref 48, .int (nI p), .int (nI u)] z (fun v9 z' => v9 = nI (sCt (sFt tc r g p it n) 100) ∧ TH z' ∧ KU UH z z') := by
  refine XM.of (by decide) (Nat.le_of_ble_eq_true rfl) (fun xp xe xs xm xar xbl xme xc xD xcs xad xAA xCC xhr => ?_)
  generalize xhQ : MQ xbl _ xar xs 0 0 xAA = xQ
  show ww xp l xe (xRm (d + 6)) xs xm xar xbl xme xc 6 xD xcs xad shX xAA xQ 0 [(0, .ref 0), (1, .ref 48), (2, .int (nI p)), (3, .int (nI u))] [] z
  have h74 : r 7 4 ≤ 4 := hw.2.2.2.2.2.2.1
  have hl99 := sLst_le g cnt ht.2.2.1
  refine ww_blk xCC okX5_howManyFit 0 4 (ps := []) (pc' := 6) (lv' := [(5, .int 0), (4, .int 0), (0, .ref 0), (1, .ref 48), (2, .int (nI p)), (3, .int (nI u))]) (st' := []) (z' := z) rfl trivial ?_
  have L6 : ∀ (n6 : Nat) (v : Nat) (rq : sR) (zL : xMem), 100 - v < n6 → (RX zL 27 rq) → (LK r rq g p cnt) → (KU UH z zL) → (v ≤ 100) → ww xp l xe (xRm (d + 6)) xs xm xar xbl xme xc 6 xD xcs xad shX xAA xQ 6 [(5, .int (nI v)), (4, .int (nI (sCt (sFt tc r g p it n) v))), (0, .ref 0), (1, .ref 48), (2, .int (nI p)), (3, .int (nI u))] [] zL := by
    intro n6
    induction n6 with
    | zero =>
      intro v rq zL hmu6
      exact absurd hmu6 (Nat.not_lt_zero _)
    | succ n6 ih6 =>
      intro v rq zL hmu6 e6_0 e6_1 e6_2 e6_3
      have hrL := e6_0
      have hLK := e6_1
      refine ww_blk xCC okX5_howManyFit 4 2 (ps := []) (pc' := 10) (lv' := [(5, .int (nI v)), (4, .int (nI (sCt (sFt tc r g p it n) v))), (0, .ref 0), (1, .ref 48), (2, .int (nI p)), (3, .int (nI u))]) (st' := [.int 100, .int (nI v)]) (z' := zL) rfl trivial ?_
      refine ww_br xCC okX5_howManyFit 6 (P := 100 ≤ (nI v)) (t1 := 46) (t2 := 13) (r := []) rfl (fun c1 => ?_) (fun c1 => ?_)
      · skip
        replace c1 : 100 ≤ v := (sLE (a := 100) (b := v) (by omega) (by omega)).mp c1
        refine ww_blk xCC okX5_howManyFit 23 1 (ps := []) (pc' := 48) (lv' := [(5, .int (nI v)), (4, .int (nI (sCt (sFt tc r g p it n) v))), (0, .ref 0), (1, .ref 48), (2, .int (nI p)), (3, .int (nI u))]) (st' := [.int (nI (sCt (sFt tc r g p it n) v))]) (z' := zL) rfl trivial ?_
        subst xhQ
        exact ww_iret xCC okX5_howManyFit 24 xhr rfl rfl ⟨_, rfl, ⟨(by rw [show v = 100 by omega]), ⟨rq, hrL, hLK.2.2.2.1⟩, e6_2⟩⟩
      · skip
        replace c1 : ¬ 100 ≤ v := fun q => c1 ((sLE (a := 100) (b := v) (by omega) (by omega)).mpr q)
        refine ww_blk xCC okX5_howManyFit 7 5 (ps := []) (pc' := 21) (lv' := [(5, .int (nI v)), (4, .int (nI (sCt (sFt tc r g p it n) v))), (0, .ref 0), (1, .ref 48), (2, .int (nI p)), (3, .int (nI u))]) (st' := [.int (nI v), .int (nI u), .int (nI p), .ref 27]) (z' := zL) rfl trivial ?_
        refine ww_callVEv xCC okX5_howManyFit 12 (ix := 71) (t_X0_put l d u v (nI p) (xPull esH zL) rq cnt (RX_pull (by decide) hrL) hLK.2.1 hLK.2.2.1 (by omega) hu (by rw [hLK.2.2.2.2]; exact hI)) (by omega) (by decide) xyX0_put xiX0_put (Or.inr (List.mem_of_getElem? (i := 396) (by decide +kernel))) (by decide +kernel) (by decide) (fun q => by cases q) (q0 := 27) rfl rfl rfl rfl (rest := []) rfl (Nat.le_of_ble_eq_true rfl) rfl (fun zcP hcP => ?_)
        have hkP := KU_esH_KQ (rw := xHasRaw shR) hcP.2
        obtain ⟨zP, hzP⟩ : ∃ y, y = xBack esH (xHasRaw shR) zL zcP := ⟨_, rfl⟩
        rw [← hzP] at hkP ⊢
        have hrP := RX_back (es := esH) (rw := xHasRaw shR) (z := zL) (b := 27) (by decide) hcP.1
        rw [← hzP, hug, sTN (by omega), hLK.1] at hrP
        have hkP := KU_tr e6_2 hkP
        have htP := TX_U hkP (by decide) ht
        have hLP := LK_s hLK hw hZ hS hg (hB v (by omega)) hp ht.2.1
        refine ww_blk xCC okX5_howManyFit 13 4 (ps := []) (pc' := 30) (lv' := [(5, .int (nI v)), (4, .int (nI (sCt (sFt tc r g p it n) v))), (0, .ref 0), (1, .ref 48), (2, .int (nI p)), (3, .int (nI u))]) (st' := [.int (nI p), .ref 48, .ref 27]) (z' := zP) rfl trivial ?_
        refine ww_callVEi xCC okX5_howManyFit 17 (ix := 200) (t_X0_firstOtherwise l d p (xPull esHS0 zP) (sLay r g p v) cnt tc (RX_pull (by decide) hrP) hLP.2.1 (TX_pull (by decide) htP) n it hn ((congrFun (hkP 48 (by decide)) 1).trans h48) (fun i hi => (congrFun (hkP 49 (by decide)) i).trans (hit i hi)) (by omega)) (by omega) (by decide) xyX0_firstOtherwise xiX0_firstOtherwise (Or.inr (List.mem_of_getElem? (i := 696) (by decide +kernel))) (by decide +kernel) (by decide) (fun q => by cases q) (q0 := 27) rfl rfl rfl rfl (rest := []) rfl (Nat.le_of_ble_eq_true rfl) rfl (fun vcO zcO hcO => ?_)
        have hkO := KU_esHS0_KN (rw := xHasRaw shRS) hcO.2
        obtain ⟨zO, hzO⟩ : ∃ y, y = xBack esHS0 (xHasRaw shRS) zP zcO := ⟨_, rfl⟩
        rw [← hzO] at hkO ⊢
        rw [hcO.1]
        have hrO := RX_U hkO (by decide) hrP
        have hkk := KU_tr hkP (KU_mo hkO (by decide))
        refine ww_blk xCC okX5_howManyFit 18 1 (ps := []) (pc' := 34) (lv' := [(5, .int (nI v)), (4, .int (nI (sCt (sFt tc r g p it n) v))), (0, .ref 0), (1, .ref 48), (2, .int (nI p)), (3, .int (nI u))]) (st' := [.int (-1), .int (cI (sF1 (sOt tc (sLay r g p v) p it) n))]) (z' := zO) rfl trivial ?_
        refine ww_br xCC okX5_howManyFit 19 (P := (cI (sF1 (sOt tc (sLay r g p v) p it) n)) = (-1)) (t1 := 37) (t2 := 40) (r := []) rfl (fun c5 => ?_) (fun c5 => ?_)
        · skip
          have hf : sFt tc r g p it n v = true := by unfold sFt; exact decide_eq_true (cI_m (by have := sF1_k (sOt tc (sLay r g p v) p it) n; omega) c5)
          refine ww_blk xCC okX5_howManyFit 20 3 (ps := []) (pc' := 6) (lv' := [(5, .int ((nI v) + 1)), (4, .int ((nI (sCt (sFt tc r g p it n) v)) + 1)), (0, .ref 0), (1, .ref 48), (2, .int (nI p)), (3, .int (nI u))]) (st' := []) (z' := zO) rfl trivial ?_
          rw [show nI v + (1 : Int32) = nI (v + 1) from nI_add v 1]
          rw [show nI (sCt (sFt tc r g p it n) v) + (1 : Int32) = nI ((sCt (sFt tc r g p it n) v) + 1) from nI_add (sCt (sFt tc r g p it n) v) 1]
          exact ww_cut [0, 1, 2, 3, 4, 5] (xlc rfl (xlc (congrArg Value.int (show (nI ((sCt (sFt tc r g p it n) v) + 1) : Int32) = nI (sCt (sFt tc r g p it n) (v + 1)) from (ct_1 hf))) (xlc rfl (xlc rfl (xlc rfl (xlc rfl rfl)))))) rfl rfl (ih6 (v + 1) (sLay r g p v) zO (by omega) hrO hLP hkk (by omega))
        · skip
          have hf : sFt tc r g p it n v = false := by unfold sFt; exact decide_eq_false (cI_nm c5)
          refine ww_blk xCC okX5_howManyFit 21 2 (ps := []) (pc' := 6) (lv' := [(5, .int ((nI v) + 1)), (4, .int (nI (sCt (sFt tc r g p it n) v))), (0, .ref 0), (1, .ref 48), (2, .int (nI p)), (3, .int (nI u))]) (st' := []) (z' := zO) rfl trivial ?_
          rw [show nI v + (1 : Int32) = nI (v + 1) from nI_add v 1]
          exact ww_cut [0, 1, 2, 3, 4, 5] (xlc rfl (xlc (congrArg Value.int (show (nI (sCt (sFt tc r g p it n) v) : Int32) = nI (sCt (sFt tc r g p it n) (v + 1)) from (ct_0 hf))) (xlc rfl (xlc rfl (xlc rfl (xlc rfl rfl)))))) rfl rfl (ih6 (v + 1) (sLay r g p v) zO (by omega) hrO hLP hkk (by omega))
  exact ww_cut [0, 1, 2, 3, 4, 5] (xlc (congrArg Value.int (show (0 : Int32) = nI 0 from rfl)) (xlc (congrArg Value.int (show (0 : Int32) = nI (sCt (sFt tc r g p it n) 0) from rfl)) (xlc rfl (xlc rfl (xlc rfl (xlc rfl rfl)))))) rfl rfl (L6 (100 - 0 + 1) 0 r z (Nat.lt_succ_self _) hr (LK_0 hw hS hZ) (KU_rf z) (by omega))

set_option maxHeartbeats 4000000 in
set_option maxRecDepth 20000 in
theorem t_X5_leastFitting_0 (l : Launch) (d : Nat) (z : xMem) (r : sR) (cnt : Nat) (tc : Nat → sTc) (hr : RX z 27 r) (hw : sW r cnt) (ht : TX z 1 cnt tc) (hS : sSub r) (hZ : sZ r) (n : Nat) (it : Nat → Int32) (hn : n ≤ 10) (h48 : z.1 48 1 = nI n) (hit : ∀ i, i < n → z.1 49 i = it i) (u g p : Nat)  (hug : (if u = 13 then 9 else u) = g) (hu : u ≤ 8 ∨ u = 13) (hg : g = 2 ∨ g = 5 ∨ g = 7 ∨ g = 8 ∨ g = 9) (hI : u = 13 ∨ sIs (r 7 4) (nI p) u) (hp : p < r 7 4) (hB : ∀ v, v < 100 → v ≤ sLst g cnt) : XMi l (d + 6) yX5_leastFitting cX5_leastFitting 5 (some .int) shX [.ref 0, .ref 48, .int (nI p), .int (nI u)] z (fun v9 z' => v9 = cI (sF1 (sFt tc r g p it n) 100) ∧ TH z' ∧ KU UH z z') := by
  refine XM.of (by decide) (Nat.le_of_ble_eq_true rfl) (fun xp xe xs xm xar xbl xme xc xD xcs xad xAA xCC xhr => ?_)
  generalize xhQ : MQ xbl _ xar xs 0 0 xAA = xQ
  show ww xp l xe (xRm (d + 6)) xs xm xar xbl xme xc 5 xD xcs xad shX xAA xQ 0 [(0, .ref 0), (1, .ref 48), (2, .int (nI p)), (3, .int (nI u))] [] z
  have h74 : r 7 4 ≤ 4 := hw.2.2.2.2.2.2.1
  have hl99 := sLst_le g cnt ht.2.2.1
  refine ww_blk xCC okX5_leastFitting 0 2 (ps := []) (pc' := 3) (lv' := [(4, .int 0), (0, .ref 0), (1, .ref 48), (2, .int (nI p)), (3, .int (nI u))]) (st' := []) (z' := z) rfl trivial ?_
  have L3 : ∀ (n3 : Nat) (v : Nat) (rq : sR) (zL : xMem), 100 - v < n3 → (RX zL 27 rq) → (LK r rq g p cnt) → (KU UH z zL) → (v ≤ 100) → (sF1 (sFt tc r g p it n) v = 0) → ww xp l xe (xRm (d + 6)) xs xm xar xbl xme xc 5 xD xcs xad shX xAA xQ 3 [(4, .int (nI v)), (0, .ref 0), (1, .ref 48), (2, .int (nI p)), (3, .int (nI u))] [] zL := by
    intro n3
    induction n3 with
    | zero =>
      intro v rq zL hmu3
      exact absurd hmu3 (Nat.not_lt_zero _)
    | succ n3 ih3 =>
      intro v rq zL hmu3 e3_0 e3_1 e3_2 e3_3 e3_4
      have hrL := e3_0
      have hLK := e3_1
      refine ww_blk xCC okX5_leastFitting 2 2 (ps := []) (pc' := 7) (lv' := [(4, .int (nI v)), (0, .ref 0), (1, .ref 48), (2, .int (nI p)), (3, .int (nI u))]) (st' := [.int 100, .int (nI v)]) (z' := zL) rfl trivial ?_
      refine ww_br xCC okX5_leastFitting 4 (P := 100 ≤ (nI v)) (t1 := 43) (t2 := 10) (r := []) rfl (fun c1 => ?_) (fun c1 => ?_)
      · skip
        replace c1 : 100 ≤ v := (sLE (a := 100) (b := v) (by omega) (by omega)).mp c1
        refine ww_blk xCC okX5_leastFitting 22 1 (ps := []) (pc' := 44) (lv' := [(4, .int (nI v)), (0, .ref 0), (1, .ref 48), (2, .int (nI p)), (3, .int (nI u))]) (st' := [.int (-1)]) (z' := zL) rfl trivial ?_
        subst xhQ
        exact ww_iret xCC okX5_leastFitting 23 xhr rfl rfl ⟨_, rfl, ⟨(by rw [show v = 100 by omega] at e3_4; rw [e3_4]; rfl), ⟨rq, hrL, hLK.2.2.2.1⟩, e3_2⟩⟩
      · skip
        replace c1 : ¬ 100 ≤ v := fun q => c1 ((sLE (a := 100) (b := v) (by omega) (by omega)).mpr q)
        refine ww_blk xCC okX5_leastFitting 5 5 (ps := []) (pc' := 18) (lv' := [(4, .int (nI v)), (0, .ref 0), (1, .ref 48), (2, .int (nI p)), (3, .int (nI u))]) (st' := [.int (nI v), .int (nI u), .int (nI p), .ref 27]) (z' := zL) rfl trivial ?_
        refine ww_callVEv xCC okX5_leastFitting 10 (ix := 71) (t_X0_put l d u v (nI p) (xPull esH zL) rq cnt (RX_pull (by decide) hrL) hLK.2.1 hLK.2.2.1 (by omega) hu (by rw [hLK.2.2.2.2]; exact hI)) (by omega) (by decide) xyX0_put xiX0_put (Or.inr (List.mem_of_getElem? (i := 396) (by decide +kernel))) (by decide +kernel) (by decide) (fun q => by cases q) (q0 := 27) rfl rfl rfl rfl (rest := []) rfl (Nat.le_of_ble_eq_true rfl) rfl (fun zcP hcP => ?_)
        have hkP := KU_esH_KQ (rw := xHasRaw shR) hcP.2
        obtain ⟨zP, hzP⟩ : ∃ y, y = xBack esH (xHasRaw shR) zL zcP := ⟨_, rfl⟩
        rw [← hzP] at hkP ⊢
        have hrP := RX_back (es := esH) (rw := xHasRaw shR) (z := zL) (b := 27) (by decide) hcP.1
        rw [← hzP, hug, sTN (by omega), hLK.1] at hrP
        have hkP := KU_tr e3_2 hkP
        have htP := TX_U hkP (by decide) ht
        have hLP := LK_s hLK hw hZ hS hg (hB v (by omega)) hp ht.2.1
        refine ww_blk xCC okX5_leastFitting 11 4 (ps := []) (pc' := 27) (lv' := [(4, .int (nI v)), (0, .ref 0), (1, .ref 48), (2, .int (nI p)), (3, .int (nI u))]) (st' := [.int (nI p), .ref 48, .ref 27]) (z' := zP) rfl trivial ?_
        refine ww_callVEi xCC okX5_leastFitting 15 (ix := 200) (t_X0_firstOtherwise l d p (xPull esHS0 zP) (sLay r g p v) cnt tc (RX_pull (by decide) hrP) hLP.2.1 (TX_pull (by decide) htP) n it hn ((congrFun (hkP 48 (by decide)) 1).trans h48) (fun i hi => (congrFun (hkP 49 (by decide)) i).trans (hit i hi)) (by omega)) (by omega) (by decide) xyX0_firstOtherwise xiX0_firstOtherwise (Or.inr (List.mem_of_getElem? (i := 696) (by decide +kernel))) (by decide +kernel) (by decide) (fun q => by cases q) (q0 := 27) rfl rfl rfl rfl (rest := []) rfl (Nat.le_of_ble_eq_true rfl) rfl (fun vcO zcO hcO => ?_)
        have hkO := KU_esHS0_KN (rw := xHasRaw shRS) hcO.2
        obtain ⟨zO, hzO⟩ : ∃ y, y = xBack esHS0 (xHasRaw shRS) zP zcO := ⟨_, rfl⟩
        rw [← hzO] at hkO ⊢
        rw [hcO.1]
        have hrO := RX_U hkO (by decide) hrP
        have hkk := KU_tr hkP (KU_mo hkO (by decide))
        refine ww_blk xCC okX5_leastFitting 16 1 (ps := []) (pc' := 31) (lv' := [(4, .int (nI v)), (0, .ref 0), (1, .ref 48), (2, .int (nI p)), (3, .int (nI u))]) (st' := [.int (-1), .int (cI (sF1 (sOt tc (sLay r g p v) p it) n))]) (z' := zO) rfl trivial ?_
        refine ww_br xCC okX5_leastFitting 17 (P := (cI (sF1 (sOt tc (sLay r g p v) p it) n)) = (-1)) (t1 := 34) (t2 := 37) (r := []) rfl (fun c5 => ?_) (fun c5 => ?_)
        · skip
          have hf : sFt tc r g p it n v = true := by unfold sFt; exact decide_eq_true (cI_m (by have := sF1_k (sOt tc (sLay r g p v) p it) n; omega) c5)
          refine ww_blk xCC okX5_leastFitting 18 1 (ps := []) (pc' := 36) (lv' := [(4, .int (nI v)), (0, .ref 0), (1, .ref 48), (2, .int (nI p)), (3, .int (nI u))]) (st' := [.int (nI v)]) (z' := zO) rfl trivial ?_
          subst xhQ
          exact ww_iret xCC okX5_leastFitting 19 xhr rfl rfl ⟨_, rfl, ⟨(by rw [sF1_at e3_4 (show v < 100 by omega) hf]; exact cI_s v), ⟨_, hrO, hLP.2.2.2.1⟩, hkk⟩⟩
        · skip
          have hf : sFt tc r g p it n v = false := by unfold sFt; exact decide_eq_false (cI_nm c5)
          refine ww_blk xCC okX5_leastFitting 20 2 (ps := []) (pc' := 3) (lv' := [(4, .int ((nI v) + 1)), (0, .ref 0), (1, .ref 48), (2, .int (nI p)), (3, .int (nI u))]) (st' := []) (z' := zO) rfl trivial ?_
          rw [show nI v + (1 : Int32) = nI (v + 1) from nI_add v 1]
          exact ww_cut [0, 1, 2, 3, 4] (xlc rfl (xlc rfl (xlc rfl (xlc rfl (xlc rfl rfl))))) rfl rfl (ih3 (v + 1) (sLay r g p v) zO (by omega) hrO hLP hkk (by omega) (sF1_n e3_4 hf))
  exact ww_cut [0, 1, 2, 3, 4] (xlc (congrArg Value.int (show (0 : Int32) = nI 0 from rfl)) (xlc rfl (xlc rfl (xlc rfl (xlc rfl rfl))))) rfl rfl (L3 (100 - 0 + 1) 0 r z (Nat.lt_succ_self _) hr (LK_0 hw hS hZ) (KU_rf z) (by omega) rfl)

set_option maxHeartbeats 4000000 in
set_option maxRecDepth 20000 in
theorem t_X5_fittingBits_1 (l : Launch) (d : Nat) (z : xMem) (r : sR) (cnt : Nat) (tc : Nat → sTc) (hr : RX z 27 r) (hw : sW r cnt) (ht : TX z 1 cnt tc) (hS : sSub r) (hZ : sZ r) (n : Nat) (it : Nat → Int32) (hn : n ≤ 10) (h48 : z.1 50 1 = nI n) (hit : ∀ i, i < n → z.1 51 i = it i) (u g p : Nat) (B : Nat) (hB10 : B ≤ 10) (hug : (if u = 13 then 9 else u) = g) (hu : u ≤ 8 ∨ u = 13) (hg : g = 2 ∨ g = 5 ∨ g = 7 ∨ g = 8 ∨ g = 9) (hI : u = 13 ∨ sIs (r 7 4) (nI p) u) (hp : p < r 7 4) (hB : ∀ v, v < B → v ≤ sLst g cnt) : XMi l (d + 6) yX5_fittingBits cX5_fittingBits 7 (some .int) shX [.ref 0, .ref 50, .int (nI p), .int (nI u), .int (nI B)] z (fun v9 z' => v9 = nI (sAl (sFb (sFt tc r g p it n)) B) ∧ TH z' ∧ KU UH z z') := by
  refine XM.of (by decide) (Nat.le_of_ble_eq_true rfl) (fun xp xe xs xm xar xbl xme xc xD xcs xad xAA xCC xhr => ?_)
  generalize xhQ : MQ xbl _ xar xs 0 0 xAA = xQ
  show ww xp l xe (xRm (d + 6)) xs xm xar xbl xme xc 7 xD xcs xad shX xAA xQ 0 [(0, .ref 0), (1, .ref 50), (2, .int (nI p)), (3, .int (nI u)), (4, .int (nI B))] [] z
  have h74 : r 7 4 ≤ 4 := hw.2.2.2.2.2.2.1
  have hl99 := sLst_le g cnt ht.2.2.1
  refine ww_blk xCC okX5_fittingBits 0 4 (ps := []) (pc' := 6) (lv' := [(6, .int 0), (5, .int 0), (0, .ref 0), (1, .ref 50), (2, .int (nI p)), (3, .int (nI u)), (4, .int (nI B))]) (st' := []) (z' := z) rfl trivial ?_
  have L6 : ∀ (n6 : Nat) (v : Nat) (rq : sR) (zL : xMem), B - v < n6 → (RX zL 27 rq) → (LK r rq g p cnt) → (KU UH z zL) → (v ≤ B) → ww xp l xe (xRm (d + 6)) xs xm xar xbl xme xc 7 xD xcs xad shX xAA xQ 6 [(6, .int (nI v)), (5, .int (nI (sAl (sFb (sFt tc r g p it n)) v))), (0, .ref 0), (1, .ref 50), (2, .int (nI p)), (3, .int (nI u)), (4, .int (nI B))] [] zL := by
    intro n6
    induction n6 with
    | zero =>
      intro v rq zL hmu6
      exact absurd hmu6 (Nat.not_lt_zero _)
    | succ n6 ih6 =>
      intro v rq zL hmu6 e6_0 e6_1 e6_2 e6_3
      have hrL := e6_0
      have hLK := e6_1
      refine ww_blk xCC okX5_fittingBits 4 2 (ps := []) (pc' := 10) (lv' := [(6, .int (nI v)), (5, .int (nI (sAl (sFb (sFt tc r g p it n)) v))), (0, .ref 0), (1, .ref 50), (2, .int (nI p)), (3, .int (nI u)), (4, .int (nI B))]) (st' := [.int (nI B), .int (nI v)]) (z' := zL) rfl trivial ?_
      refine ww_br xCC okX5_fittingBits 6 (P := (nI B) ≤ (nI v)) (t1 := 52) (t2 := 13) (r := []) rfl (fun c1 => ?_) (fun c1 => ?_)
      · skip
        replace c1 : B ≤ v := (sLE (a := B) (b := v) (by omega) (by omega)).mp c1
        refine ww_blk xCC okX5_fittingBits 28 1 (ps := []) (pc' := 54) (lv' := [(6, .int (nI v)), (5, .int (nI (sAl (sFb (sFt tc r g p it n)) v))), (0, .ref 0), (1, .ref 50), (2, .int (nI p)), (3, .int (nI u)), (4, .int (nI B))]) (st' := [.int (nI (sAl (sFb (sFt tc r g p it n)) v))]) (z' := zL) rfl trivial ?_
        subst xhQ
        exact ww_iret xCC okX5_fittingBits 29 xhr rfl rfl ⟨_, rfl, ⟨(by rw [show v = B by omega]), ⟨rq, hrL, hLK.2.2.2.1⟩, e6_2⟩⟩
      · skip
        replace c1 : ¬ B ≤ v := fun q => c1 ((sLE (a := B) (b := v) (by omega) (by omega)).mpr q)
        refine ww_blk xCC okX5_fittingBits 7 5 (ps := []) (pc' := 21) (lv' := [(6, .int (nI v)), (5, .int (nI (sAl (sFb (sFt tc r g p it n)) v))), (0, .ref 0), (1, .ref 50), (2, .int (nI p)), (3, .int (nI u)), (4, .int (nI B))]) (st' := [.int (nI v), .int (nI u), .int (nI p), .ref 27]) (z' := zL) rfl trivial ?_
        refine ww_callVEv xCC okX5_fittingBits 12 (ix := 71) (t_X0_put l d u v (nI p) (xPull esH zL) rq cnt (RX_pull (by decide) hrL) hLK.2.1 hLK.2.2.1 (by omega) hu (by rw [hLK.2.2.2.2]; exact hI)) (by omega) (by decide) xyX0_put xiX0_put (Or.inr (List.mem_of_getElem? (i := 396) (by decide +kernel))) (by decide +kernel) (by decide) (fun q => by cases q) (q0 := 27) rfl rfl rfl rfl (rest := []) rfl (Nat.le_of_ble_eq_true rfl) rfl (fun zcP hcP => ?_)
        have hkP := KU_esH_KQ (rw := xHasRaw shR) hcP.2
        obtain ⟨zP, hzP⟩ : ∃ y, y = xBack esH (xHasRaw shR) zL zcP := ⟨_, rfl⟩
        rw [← hzP] at hkP ⊢
        have hrP := RX_back (es := esH) (rw := xHasRaw shR) (z := zL) (b := 27) (by decide) hcP.1
        rw [← hzP, hug, sTN (by omega), hLK.1] at hrP
        have hkP := KU_tr e6_2 hkP
        have htP := TX_U hkP (by decide) ht
        have hLP := LK_s hLK hw hZ hS hg (hB v (by omega)) hp ht.2.1
        refine ww_blk xCC okX5_fittingBits 13 4 (ps := []) (pc' := 30) (lv' := [(6, .int (nI v)), (5, .int (nI (sAl (sFb (sFt tc r g p it n)) v))), (0, .ref 0), (1, .ref 50), (2, .int (nI p)), (3, .int (nI u)), (4, .int (nI B))]) (st' := [.int (nI p), .ref 50, .ref 27]) (z' := zP) rfl trivial ?_
        refine ww_callVEi xCC okX5_fittingBits 17 (ix := 200) (t_X0_firstOtherwise l d p (xPull esHS1 zP) (sLay r g p v) cnt tc (RX_pull (by decide) hrP) hLP.2.1 (TX_pull (by decide) htP) n it hn ((congrFun (hkP 50 (by decide)) 1).trans h48) (fun i hi => (congrFun (hkP 51 (by decide)) i).trans (hit i hi)) (by omega)) (by omega) (by decide) xyX0_firstOtherwise xiX0_firstOtherwise (Or.inr (List.mem_of_getElem? (i := 696) (by decide +kernel))) (by decide +kernel) (by decide) (fun q => by cases q) (q0 := 27) rfl rfl rfl rfl (rest := []) rfl (Nat.le_of_ble_eq_true rfl) rfl (fun vcO zcO hcO => ?_)
        have hkO := KU_esHS1_KN (rw := xHasRaw shRS) hcO.2
        obtain ⟨zO, hzO⟩ : ∃ y, y = xBack esHS1 (xHasRaw shRS) zP zcO := ⟨_, rfl⟩
        rw [← hzO] at hkO ⊢
        rw [hcO.1]
        have hrO := RX_U hkO (by decide) hrP
        have hkk := KU_tr hkP (KU_mo hkO (by decide))
        refine ww_blk xCC okX5_fittingBits 18 1 (ps := []) (pc' := 34) (lv' := [(6, .int (nI v)), (5, .int (nI (sAl (sFb (sFt tc r g p it n)) v))), (0, .ref 0), (1, .ref 50), (2, .int (nI p)), (3, .int (nI u)), (4, .int (nI B))]) (st' := [.int (-1), .int (cI (sF1 (sOt tc (sLay r g p v) p it) n))]) (z' := zO) rfl trivial ?_
        refine ww_br xCC okX5_fittingBits 19 (P := (cI (sF1 (sOt tc (sLay r g p v) p it) n)) = (-1)) (t1 := 37) (t2 := 46) (r := []) rfl (fun c5 => ?_) (fun c5 => ?_)
        · skip
          have hf : sFt tc r g p it n v = true := by unfold sFt; exact decide_eq_true (cI_m (by have := sF1_k (sOt tc (sLay r g p v) p it) n; omega) c5)
          refine ww_blk xCC okX5_fittingBits 20 8 (ps := []) (pc' := 6) (lv' := [(6, .int ((nI v) + 1)), (5, .int ((nI (sAl (sFb (sFt tc r g p it n)) v)) ||| (1 <<< ((nI v) &&& 31)))), (0, .ref 0), (1, .ref 50), (2, .int (nI p)), (3, .int (nI u)), (4, .int (nI B))]) (st' := []) (z' := zO) rfl trivial ?_
          rw [show nI v + (1 : Int32) = nI (v + 1) from nI_add v 1]
          exact ww_cut [0, 1, 2, 3, 4, 5, 6] (xlc rfl (xlc (congrArg Value.int (show ((nI (sAl (sFb (sFt tc r g p it n)) v)) ||| (1 <<< ((nI v) &&& 31)) : Int32) = nI (sAl (sFb (sFt tc r g p it n)) (v + 1)) from (fb_1 (by omega) hf))) (xlc rfl (xlc rfl (xlc rfl (xlc rfl (xlc rfl rfl))))))) rfl rfl (ih6 (v + 1) (sLay r g p v) zO (by omega) hrO hLP hkk (by omega))
        · skip
          have hf : sFt tc r g p it n v = false := by unfold sFt; exact decide_eq_false (cI_nm c5)
          refine ww_blk xCC okX5_fittingBits 26 2 (ps := []) (pc' := 6) (lv' := [(6, .int ((nI v) + 1)), (5, .int (nI (sAl (sFb (sFt tc r g p it n)) v))), (0, .ref 0), (1, .ref 50), (2, .int (nI p)), (3, .int (nI u)), (4, .int (nI B))]) (st' := []) (z' := zO) rfl trivial ?_
          rw [show nI v + (1 : Int32) = nI (v + 1) from nI_add v 1]
          exact ww_cut [0, 1, 2, 3, 4, 5, 6] (xlc rfl (xlc (congrArg Value.int (show (nI (sAl (sFb (sFt tc r g p it n)) v) : Int32) = nI (sAl (sFb (sFt tc r g p it n)) (v + 1)) from (fb_0 hf))) (xlc rfl (xlc rfl (xlc rfl (xlc rfl (xlc rfl rfl))))))) rfl rfl (ih6 (v + 1) (sLay r g p v) zO (by omega) hrO hLP hkk (by omega))
  exact ww_cut [0, 1, 2, 3, 4, 5, 6] (xlc (congrArg Value.int (show (0 : Int32) = nI 0 from rfl)) (xlc (congrArg Value.int (show (0 : Int32) = nI (sAl (sFb (sFt tc r g p it n)) 0) from rfl)) (xlc rfl (xlc rfl (xlc rfl (xlc rfl (xlc rfl rfl))))))) rfl rfl (L6 (B - 0 + 1) 0 r z (Nat.lt_succ_self _) hr (LK_0 hw hS hZ) (KU_rf z) (by omega))

set_option maxHeartbeats 4000000 in
set_option maxRecDepth 20000 in
theorem t_X5_howManyFit_1 (l : Launch) (d : Nat) (z : xMem) (r : sR) (cnt : Nat) (tc : Nat → sTc) (hr : RX z 27 r) (hw : sW r cnt) (ht : TX z 1 cnt tc) (hS : sSub r) (hZ : sZ r) (n : Nat) (it : Nat → Int32) (hn : n ≤ 10) (h48 : z.1 50 1 = nI n) (hit : ∀ i, i < n → z.1 51 i = it i) (u g p : Nat)  (hug : (if u = 13 then 9 else u) = g) (hu : u ≤ 8 ∨ u = 13) (hg : g = 2 ∨ g = 5 ∨ g = 7 ∨ g = 8 ∨ g = 9) (hI : u = 13 ∨ sIs (r 7 4) (nI p) u) (hp : p < r 7 4) (hB : ∀ v, v < 100 → v ≤ sLst g cnt) : XMi l (d + 6) yX5_howManyFit cX5_howManyFit 6 (some .int) shX [.ref 0, .ref 50, .int (nI p), .int (nI u)] z (fun v9 z' => v9 = nI (sCt (sFt tc r g p it n) 100) ∧ TH z' ∧ KU UH z z') := by
  refine XM.of (by decide) (Nat.le_of_ble_eq_true rfl) (fun xp xe xs xm xar xbl xme xc xD xcs xad xAA xCC xhr => ?_)
  generalize xhQ : MQ xbl _ xar xs 0 0 xAA = xQ
  show ww xp l xe (xRm (d + 6)) xs xm xar xbl xme xc 6 xD xcs xad shX xAA xQ 0 [(0, .ref 0), (1, .ref 50), (2, .int (nI p)), (3, .int (nI u))] [] z
  have h74 : r 7 4 ≤ 4 := hw.2.2.2.2.2.2.1
  have hl99 := sLst_le g cnt ht.2.2.1
  refine ww_blk xCC okX5_howManyFit 0 4 (ps := []) (pc' := 6) (lv' := [(5, .int 0), (4, .int 0), (0, .ref 0), (1, .ref 50), (2, .int (nI p)), (3, .int (nI u))]) (st' := []) (z' := z) rfl trivial ?_
  have L6 : ∀ (n6 : Nat) (v : Nat) (rq : sR) (zL : xMem), 100 - v < n6 → (RX zL 27 rq) → (LK r rq g p cnt) → (KU UH z zL) → (v ≤ 100) → ww xp l xe (xRm (d + 6)) xs xm xar xbl xme xc 6 xD xcs xad shX xAA xQ 6 [(5, .int (nI v)), (4, .int (nI (sCt (sFt tc r g p it n) v))), (0, .ref 0), (1, .ref 50), (2, .int (nI p)), (3, .int (nI u))] [] zL := by
    intro n6
    induction n6 with
    | zero =>
      intro v rq zL hmu6
      exact absurd hmu6 (Nat.not_lt_zero _)
    | succ n6 ih6 =>
      intro v rq zL hmu6 e6_0 e6_1 e6_2 e6_3
      have hrL := e6_0
      have hLK := e6_1
      refine ww_blk xCC okX5_howManyFit 4 2 (ps := []) (pc' := 10) (lv' := [(5, .int (nI v)), (4, .int (nI (sCt (sFt tc r g p it n) v))), (0, .ref 0), (1, .ref 50), (2, .int (nI p)), (3, .int (nI u))]) (st' := [.int 100, .int (nI v)]) (z' := zL) rfl trivial ?_
      refine ww_br xCC okX5_howManyFit 6 (P := 100 ≤ (nI v)) (t1 := 46) (t2 := 13) (r := []) rfl (fun c1 => ?_) (fun c1 => ?_)
      · skip
        replace c1 : 100 ≤ v := (sLE (a := 100) (b := v) (by omega) (by omega)).mp c1
        refine ww_blk xCC okX5_howManyFit 23 1 (ps := []) (pc' := 48) (lv' := [(5, .int (nI v)), (4, .int (nI (sCt (sFt tc r g p it n) v))), (0, .ref 0), (1, .ref 50), (2, .int (nI p)), (3, .int (nI u))]) (st' := [.int (nI (sCt (sFt tc r g p it n) v))]) (z' := zL) rfl trivial ?_
        subst xhQ
        exact ww_iret xCC okX5_howManyFit 24 xhr rfl rfl ⟨_, rfl, ⟨(by rw [show v = 100 by omega]), ⟨rq, hrL, hLK.2.2.2.1⟩, e6_2⟩⟩
      · skip
        replace c1 : ¬ 100 ≤ v := fun q => c1 ((sLE (a := 100) (b := v) (by omega) (by omega)).mpr q)
        refine ww_blk xCC okX5_howManyFit 7 5 (ps := []) (pc' := 21) (lv' := [(5, .int (nI v)), (4, .int (nI (sCt (sFt tc r g p it n) v))), (0, .ref 0), (1, .ref 50), (2, .int (nI p)), (3, .int (nI u))]) (st' := [.int (nI v), .int (nI u), .int (nI p), .ref 27]) (z' := zL) rfl trivial ?_
        refine ww_callVEv xCC okX5_howManyFit 12 (ix := 71) (t_X0_put l d u v (nI p) (xPull esH zL) rq cnt (RX_pull (by decide) hrL) hLK.2.1 hLK.2.2.1 (by omega) hu (by rw [hLK.2.2.2.2]; exact hI)) (by omega) (by decide) xyX0_put xiX0_put (Or.inr (List.mem_of_getElem? (i := 396) (by decide +kernel))) (by decide +kernel) (by decide) (fun q => by cases q) (q0 := 27) rfl rfl rfl rfl (rest := []) rfl (Nat.le_of_ble_eq_true rfl) rfl (fun zcP hcP => ?_)
        have hkP := KU_esH_KQ (rw := xHasRaw shR) hcP.2
        obtain ⟨zP, hzP⟩ : ∃ y, y = xBack esH (xHasRaw shR) zL zcP := ⟨_, rfl⟩
        rw [← hzP] at hkP ⊢
        have hrP := RX_back (es := esH) (rw := xHasRaw shR) (z := zL) (b := 27) (by decide) hcP.1
        rw [← hzP, hug, sTN (by omega), hLK.1] at hrP
        have hkP := KU_tr e6_2 hkP
        have htP := TX_U hkP (by decide) ht
        have hLP := LK_s hLK hw hZ hS hg (hB v (by omega)) hp ht.2.1
        refine ww_blk xCC okX5_howManyFit 13 4 (ps := []) (pc' := 30) (lv' := [(5, .int (nI v)), (4, .int (nI (sCt (sFt tc r g p it n) v))), (0, .ref 0), (1, .ref 50), (2, .int (nI p)), (3, .int (nI u))]) (st' := [.int (nI p), .ref 50, .ref 27]) (z' := zP) rfl trivial ?_
        refine ww_callVEi xCC okX5_howManyFit 17 (ix := 200) (t_X0_firstOtherwise l d p (xPull esHS1 zP) (sLay r g p v) cnt tc (RX_pull (by decide) hrP) hLP.2.1 (TX_pull (by decide) htP) n it hn ((congrFun (hkP 50 (by decide)) 1).trans h48) (fun i hi => (congrFun (hkP 51 (by decide)) i).trans (hit i hi)) (by omega)) (by omega) (by decide) xyX0_firstOtherwise xiX0_firstOtherwise (Or.inr (List.mem_of_getElem? (i := 696) (by decide +kernel))) (by decide +kernel) (by decide) (fun q => by cases q) (q0 := 27) rfl rfl rfl rfl (rest := []) rfl (Nat.le_of_ble_eq_true rfl) rfl (fun vcO zcO hcO => ?_)
        have hkO := KU_esHS1_KN (rw := xHasRaw shRS) hcO.2
        obtain ⟨zO, hzO⟩ : ∃ y, y = xBack esHS1 (xHasRaw shRS) zP zcO := ⟨_, rfl⟩
        rw [← hzO] at hkO ⊢
        rw [hcO.1]
        have hrO := RX_U hkO (by decide) hrP
        have hkk := KU_tr hkP (KU_mo hkO (by decide))
        refine ww_blk xCC okX5_howManyFit 18 1 (ps := []) (pc' := 34) (lv' := [(5, .int (nI v)), (4, .int (nI (sCt (sFt tc r g p it n) v))), (0, .ref 0), (1, .ref 50), (2, .int (nI p)), (3, .int (nI u))]) (st' := [.int (-1), .int (cI (sF1 (sOt tc (sLay r g p v) p it) n))]) (z' := zO) rfl trivial ?_
        refine ww_br xCC okX5_howManyFit 19 (P := (cI (sF1 (sOt tc (sLay r g p v) p it) n)) = (-1)) (t1 := 37) (t2 := 40) (r := []) rfl (fun c5 => ?_) (fun c5 => ?_)
        · skip
          have hf : sFt tc r g p it n v = true := by unfold sFt; exact decide_eq_true (cI_m (by have := sF1_k (sOt tc (sLay r g p v) p it) n; omega) c5)
          refine ww_blk xCC okX5_howManyFit 20 3 (ps := []) (pc' := 6) (lv' := [(5, .int ((nI v) + 1)), (4, .int ((nI (sCt (sFt tc r g p it n) v)) + 1)), (0, .ref 0), (1, .ref 50), (2, .int (nI p)), (3, .int (nI u))]) (st' := []) (z' := zO) rfl trivial ?_
          rw [show nI v + (1 : Int32) = nI (v + 1) from nI_add v 1]
          rw [show nI (sCt (sFt tc r g p it n) v) + (1 : Int32) = nI ((sCt (sFt tc r g p it n) v) + 1) from nI_add (sCt (sFt tc r g p it n) v) 1]
          exact ww_cut [0, 1, 2, 3, 4, 5] (xlc rfl (xlc (congrArg Value.int (show (nI ((sCt (sFt tc r g p it n) v) + 1) : Int32) = nI (sCt (sFt tc r g p it n) (v + 1)) from (ct_1 hf))) (xlc rfl (xlc rfl (xlc rfl (xlc rfl rfl)))))) rfl rfl (ih6 (v + 1) (sLay r g p v) zO (by omega) hrO hLP hkk (by omega))
        · skip
          have hf : sFt tc r g p it n v = false := by unfold sFt; exact decide_eq_false (cI_nm c5)
          refine ww_blk xCC okX5_howManyFit 21 2 (ps := []) (pc' := 6) (lv' := [(5, .int ((nI v) + 1)), (4, .int (nI (sCt (sFt tc r g p it n) v))), (0, .ref 0), (1, .ref 50), (2, .int (nI p)), (3, .int (nI u))]) (st' := []) (z' := zO) rfl trivial ?_
          rw [show nI v + (1 : Int32) = nI (v + 1) from nI_add v 1]
          exact ww_cut [0, 1, 2, 3, 4, 5] (xlc rfl (xlc (congrArg Value.int (show (nI (sCt (sFt tc r g p it n) v) : Int32) = nI (sCt (sFt tc r g p it n) (v + 1)) from (ct_0 hf))) (xlc rfl (xlc rfl (xlc rfl (xlc rfl rfl)))))) rfl rfl (ih6 (v + 1) (sLay r g p v) zO (by omega) hrO hLP hkk (by omega))
  exact ww_cut [0, 1, 2, 3, 4, 5] (xlc (congrArg Value.int (show (0 : Int32) = nI 0 from rfl)) (xlc (congrArg Value.int (show (0 : Int32) = nI (sCt (sFt tc r g p it n) 0) from rfl)) (xlc rfl (xlc rfl (xlc rfl (xlc rfl rfl)))))) rfl rfl (L6 (100 - 0 + 1) 0 r z (Nat.lt_succ_self _) hr (LK_0 hw hS hZ) (KU_rf z) (by omega))

set_option maxHeartbeats 4000000 in
set_option maxRecDepth 20000 in
theorem t_X5_leastFitting_1 (l : Launch) (d : Nat) (z : xMem) (r : sR) (cnt : Nat) (tc : Nat → sTc) (hr : RX z 27 r) (hw : sW r cnt) (ht : TX z 1 cnt tc) (hS : sSub r) (hZ : sZ r) (n : Nat) (it : Nat → Int32) (hn : n ≤ 10) (h48 : z.1 50 1 = nI n) (hit : ∀ i, i < n → z.1 51 i = it i) (u g p : Nat)  (hug : (if u = 13 then 9 else u) = g) (hu : u ≤ 8 ∨ u = 13) (hg : g = 2 ∨ g = 5 ∨ g = 7 ∨ g = 8 ∨ g = 9) (hI : u = 13 ∨ sIs (r 7 4) (nI p) u) (hp : p < r 7 4) (hB : ∀ v, v < 100 → v ≤ sLst g cnt) : XMi l (d + 6) yX5_leastFitting cX5_leastFitting 5 (some .int) shX [.ref 0, .ref 50, .int (nI p), .int (nI u)] z (fun v9 z' => v9 = cI (sF1 (sFt tc r g p it n) 100) ∧ TH z' ∧ KU UH z z') := by
  refine XM.of (by decide) (Nat.le_of_ble_eq_true rfl) (fun xp xe xs xm xar xbl xme xc xD xcs xad xAA xCC xhr => ?_)
  generalize xhQ : MQ xbl _ xar xs 0 0 xAA = xQ
  show ww xp l xe (xRm (d + 6)) xs xm xar xbl xme xc 5 xD xcs xad shX xAA xQ 0 [(0, .ref 0), (1, .ref 50), (2, .int (nI p)), (3, .int (nI u))] [] z
  have h74 : r 7 4 ≤ 4 := hw.2.2.2.2.2.2.1
  have hl99 := sLst_le g cnt ht.2.2.1
  refine ww_blk xCC okX5_leastFitting 0 2 (ps := []) (pc' := 3) (lv' := [(4, .int 0), (0, .ref 0), (1, .ref 50), (2, .int (nI p)), (3, .int (nI u))]) (st' := []) (z' := z) rfl trivial ?_
  have L3 : ∀ (n3 : Nat) (v : Nat) (rq : sR) (zL : xMem), 100 - v < n3 → (RX zL 27 rq) → (LK r rq g p cnt) → (KU UH z zL) → (v ≤ 100) → (sF1 (sFt tc r g p it n) v = 0) → ww xp l xe (xRm (d + 6)) xs xm xar xbl xme xc 5 xD xcs xad shX xAA xQ 3 [(4, .int (nI v)), (0, .ref 0), (1, .ref 50), (2, .int (nI p)), (3, .int (nI u))] [] zL := by
    intro n3
    induction n3 with
    | zero =>
      intro v rq zL hmu3
      exact absurd hmu3 (Nat.not_lt_zero _)
    | succ n3 ih3 =>
      intro v rq zL hmu3 e3_0 e3_1 e3_2 e3_3 e3_4
      have hrL := e3_0
      have hLK := e3_1
      refine ww_blk xCC okX5_leastFitting 2 2 (ps := []) (pc' := 7) (lv' := [(4, .int (nI v)), (0, .ref 0), (1, .ref 50), (2, .int (nI p)), (3, .int (nI u))]) (st' := [.int 100, .int (nI v)]) (z' := zL) rfl trivial ?_
      refine ww_br xCC okX5_leastFitting 4 (P := 100 ≤ (nI v)) (t1 := 43) (t2 := 10) (r := []) rfl (fun c1 => ?_) (fun c1 => ?_)
      · skip
        replace c1 : 100 ≤ v := (sLE (a := 100) (b := v) (by omega) (by omega)).mp c1
        refine ww_blk xCC okX5_leastFitting 22 1 (ps := []) (pc' := 44) (lv' := [(4, .int (nI v)), (0, .ref 0), (1, .ref 50), (2, .int (nI p)), (3, .int (nI u))]) (st' := [.int (-1)]) (z' := zL) rfl trivial ?_
        subst xhQ
        exact ww_iret xCC okX5_leastFitting 23 xhr rfl rfl ⟨_, rfl, ⟨(by rw [show v = 100 by omega] at e3_4; rw [e3_4]; rfl), ⟨rq, hrL, hLK.2.2.2.1⟩, e3_2⟩⟩
      · skip
        replace c1 : ¬ 100 ≤ v := fun q => c1 ((sLE (a := 100) (b := v) (by omega) (by omega)).mpr q)
        refine ww_blk xCC okX5_leastFitting 5 5 (ps := []) (pc' := 18) (lv' := [(4, .int (nI v)), (0, .ref 0), (1, .ref 50), (2, .int (nI p)), (3, .int (nI u))]) (st' := [.int (nI v), .int (nI u), .int (nI p), .ref 27]) (z' := zL) rfl trivial ?_
        refine ww_callVEv xCC okX5_leastFitting 10 (ix := 71) (t_X0_put l d u v (nI p) (xPull esH zL) rq cnt (RX_pull (by decide) hrL) hLK.2.1 hLK.2.2.1 (by omega) hu (by rw [hLK.2.2.2.2]; exact hI)) (by omega) (by decide) xyX0_put xiX0_put (Or.inr (List.mem_of_getElem? (i := 396) (by decide +kernel))) (by decide +kernel) (by decide) (fun q => by cases q) (q0 := 27) rfl rfl rfl rfl (rest := []) rfl (Nat.le_of_ble_eq_true rfl) rfl (fun zcP hcP => ?_)
        have hkP := KU_esH_KQ (rw := xHasRaw shR) hcP.2
        obtain ⟨zP, hzP⟩ : ∃ y, y = xBack esH (xHasRaw shR) zL zcP := ⟨_, rfl⟩
        rw [← hzP] at hkP ⊢
        have hrP := RX_back (es := esH) (rw := xHasRaw shR) (z := zL) (b := 27) (by decide) hcP.1
        rw [← hzP, hug, sTN (by omega), hLK.1] at hrP
        have hkP := KU_tr e3_2 hkP
        have htP := TX_U hkP (by decide) ht
        have hLP := LK_s hLK hw hZ hS hg (hB v (by omega)) hp ht.2.1
        refine ww_blk xCC okX5_leastFitting 11 4 (ps := []) (pc' := 27) (lv' := [(4, .int (nI v)), (0, .ref 0), (1, .ref 50), (2, .int (nI p)), (3, .int (nI u))]) (st' := [.int (nI p), .ref 50, .ref 27]) (z' := zP) rfl trivial ?_
        refine ww_callVEi xCC okX5_leastFitting 15 (ix := 200) (t_X0_firstOtherwise l d p (xPull esHS1 zP) (sLay r g p v) cnt tc (RX_pull (by decide) hrP) hLP.2.1 (TX_pull (by decide) htP) n it hn ((congrFun (hkP 50 (by decide)) 1).trans h48) (fun i hi => (congrFun (hkP 51 (by decide)) i).trans (hit i hi)) (by omega)) (by omega) (by decide) xyX0_firstOtherwise xiX0_firstOtherwise (Or.inr (List.mem_of_getElem? (i := 696) (by decide +kernel))) (by decide +kernel) (by decide) (fun q => by cases q) (q0 := 27) rfl rfl rfl rfl (rest := []) rfl (Nat.le_of_ble_eq_true rfl) rfl (fun vcO zcO hcO => ?_)
        have hkO := KU_esHS1_KN (rw := xHasRaw shRS) hcO.2
        obtain ⟨zO, hzO⟩ : ∃ y, y = xBack esHS1 (xHasRaw shRS) zP zcO := ⟨_, rfl⟩
        rw [← hzO] at hkO ⊢
        rw [hcO.1]
        have hrO := RX_U hkO (by decide) hrP
        have hkk := KU_tr hkP (KU_mo hkO (by decide))
        refine ww_blk xCC okX5_leastFitting 16 1 (ps := []) (pc' := 31) (lv' := [(4, .int (nI v)), (0, .ref 0), (1, .ref 50), (2, .int (nI p)), (3, .int (nI u))]) (st' := [.int (-1), .int (cI (sF1 (sOt tc (sLay r g p v) p it) n))]) (z' := zO) rfl trivial ?_
        refine ww_br xCC okX5_leastFitting 17 (P := (cI (sF1 (sOt tc (sLay r g p v) p it) n)) = (-1)) (t1 := 34) (t2 := 37) (r := []) rfl (fun c5 => ?_) (fun c5 => ?_)
        · skip
          have hf : sFt tc r g p it n v = true := by unfold sFt; exact decide_eq_true (cI_m (by have := sF1_k (sOt tc (sLay r g p v) p it) n; omega) c5)
          refine ww_blk xCC okX5_leastFitting 18 1 (ps := []) (pc' := 36) (lv' := [(4, .int (nI v)), (0, .ref 0), (1, .ref 50), (2, .int (nI p)), (3, .int (nI u))]) (st' := [.int (nI v)]) (z' := zO) rfl trivial ?_
          subst xhQ
          exact ww_iret xCC okX5_leastFitting 19 xhr rfl rfl ⟨_, rfl, ⟨(by rw [sF1_at e3_4 (show v < 100 by omega) hf]; exact cI_s v), ⟨_, hrO, hLP.2.2.2.1⟩, hkk⟩⟩
        · skip
          have hf : sFt tc r g p it n v = false := by unfold sFt; exact decide_eq_false (cI_nm c5)
          refine ww_blk xCC okX5_leastFitting 20 2 (ps := []) (pc' := 3) (lv' := [(4, .int ((nI v) + 1)), (0, .ref 0), (1, .ref 50), (2, .int (nI p)), (3, .int (nI u))]) (st' := []) (z' := zO) rfl trivial ?_
          rw [show nI v + (1 : Int32) = nI (v + 1) from nI_add v 1]
          exact ww_cut [0, 1, 2, 3, 4] (xlc rfl (xlc rfl (xlc rfl (xlc rfl (xlc rfl rfl))))) rfl rfl (ih3 (v + 1) (sLay r g p v) zO (by omega) hrO hLP hkk (by omega) (sF1_n e3_4 hf))
  exact ww_cut [0, 1, 2, 3, 4] (xlc (congrArg Value.int (show (0 : Int32) = nI 0 from rfl)) (xlc rfl (xlc rfl (xlc rfl (xlc rfl rfl))))) rfl rfl (L3 (100 - 0 + 1) 0 r z (Nat.lt_succ_self _) hr (LK_0 hw hS hZ) (KU_rf z) (by omega) rfl)

set_option maxHeartbeats 4000000 in
set_option maxRecDepth 20000 in
theorem t_X5_fittingBits_2 (l : Launch) (d : Nat) (z : xMem) (r : sR) (cnt : Nat) (tc : Nat → sTc) (hr : RX z 27 r) (hw : sW r cnt) (ht : TX z 1 cnt tc) (hS : sSub r) (hZ : sZ r) (n : Nat) (it : Nat → Int32) (hn : n ≤ 10) (h48 : z.1 52 1 = nI n) (hit : ∀ i, i < n → z.1 53 i = it i) (u g p : Nat) (B : Nat) (hB10 : B ≤ 10) (hug : (if u = 13 then 9 else u) = g) (hu : u ≤ 8 ∨ u = 13) (hg : g = 2 ∨ g = 5 ∨ g = 7 ∨ g = 8 ∨ g = 9) (hI : u = 13 ∨ sIs (r 7 4) (nI p) u) (hp : p < r 7 4) (hB : ∀ v, v < B → v ≤ sLst g cnt) : XMi l (d + 6) yX5_fittingBits cX5_fittingBits 7 (some .int) shX [.ref 0, .ref 52, .int (nI p), .int (nI u), .int (nI B)] z (fun v9 z' => v9 = nI (sAl (sFb (sFt tc r g p it n)) B) ∧ TH z' ∧ KU UH z z') := by
  refine XM.of (by decide) (Nat.le_of_ble_eq_true rfl) (fun xp xe xs xm xar xbl xme xc xD xcs xad xAA xCC xhr => ?_)
  generalize xhQ : MQ xbl _ xar xs 0 0 xAA = xQ
  show ww xp l xe (xRm (d + 6)) xs xm xar xbl xme xc 7 xD xcs xad shX xAA xQ 0 [(0, .ref 0), (1, .ref 52), (2, .int (nI p)), (3, .int (nI u)), (4, .int (nI B))] [] z
  have h74 : r 7 4 ≤ 4 := hw.2.2.2.2.2.2.1
  have hl99 := sLst_le g cnt ht.2.2.1
  refine ww_blk xCC okX5_fittingBits 0 4 (ps := []) (pc' := 6) (lv' := [(6, .int 0), (5, .int 0), (0, .ref 0), (1, .ref 52), (2, .int (nI p)), (3, .int (nI u)), (4, .int (nI B))]) (st' := []) (z' := z) rfl trivial ?_
  have L6 : ∀ (n6 : Nat) (v : Nat) (rq : sR) (zL : xMem), B - v < n6 → (RX zL 27 rq) → (LK r rq g p cnt) → (KU UH z zL) → (v ≤ B) → ww xp l xe (xRm (d + 6)) xs xm xar xbl xme xc 7 xD xcs xad shX xAA xQ 6 [(6, .int (nI v)), (5, .int (nI (sAl (sFb (sFt tc r g p it n)) v))), (0, .ref 0), (1, .ref 52), (2, .int (nI p)), (3, .int (nI u)), (4, .int (nI B))] [] zL := by
    intro n6
    induction n6 with
    | zero =>
      intro v rq zL hmu6
      exact absurd hmu6 (Nat.not_lt_zero _)
    | succ n6 ih6 =>
      intro v rq zL hmu6 e6_0 e6_1 e6_2 e6_3
      have hrL := e6_0
      have hLK := e6_1
      refine ww_blk xCC okX5_fittingBits 4 2 (ps := []) (pc' := 10) (lv' := [(6, .int (nI v)), (5, .int (nI (sAl (sFb (sFt tc r g p it n)) v))), (0, .ref 0), (1, .ref 52), (2, .int (nI p)), (3, .int (nI u)), (4, .int (nI B))]) (st' := [.int (nI B), .int (nI v)]) (z' := zL) rfl trivial ?_
      refine ww_br xCC okX5_fittingBits 6 (P := (nI B) ≤ (nI v)) (t1 := 52) (t2 := 13) (r := []) rfl (fun c1 => ?_) (fun c1 => ?_)
      · skip
        replace c1 : B ≤ v := (sLE (a := B) (b := v) (by omega) (by omega)).mp c1
        refine ww_blk xCC okX5_fittingBits 28 1 (ps := []) (pc' := 54) (lv' := [(6, .int (nI v)), (5, .int (nI (sAl (sFb (sFt tc r g p it n)) v))), (0, .ref 0), (1, .ref 52), (2, .int (nI p)), (3, .int (nI u)), (4, .int (nI B))]) (st' := [.int (nI (sAl (sFb (sFt tc r g p it n)) v))]) (z' := zL) rfl trivial ?_
        subst xhQ
        exact ww_iret xCC okX5_fittingBits 29 xhr rfl rfl ⟨_, rfl, ⟨(by rw [show v = B by omega]), ⟨rq, hrL, hLK.2.2.2.1⟩, e6_2⟩⟩
      · skip
        replace c1 : ¬ B ≤ v := fun q => c1 ((sLE (a := B) (b := v) (by omega) (by omega)).mpr q)
        refine ww_blk xCC okX5_fittingBits 7 5 (ps := []) (pc' := 21) (lv' := [(6, .int (nI v)), (5, .int (nI (sAl (sFb (sFt tc r g p it n)) v))), (0, .ref 0), (1, .ref 52), (2, .int (nI p)), (3, .int (nI u)), (4, .int (nI B))]) (st' := [.int (nI v), .int (nI u), .int (nI p), .ref 27]) (z' := zL) rfl trivial ?_
        refine ww_callVEv xCC okX5_fittingBits 12 (ix := 71) (t_X0_put l d u v (nI p) (xPull esH zL) rq cnt (RX_pull (by decide) hrL) hLK.2.1 hLK.2.2.1 (by omega) hu (by rw [hLK.2.2.2.2]; exact hI)) (by omega) (by decide) xyX0_put xiX0_put (Or.inr (List.mem_of_getElem? (i := 396) (by decide +kernel))) (by decide +kernel) (by decide) (fun q => by cases q) (q0 := 27) rfl rfl rfl rfl (rest := []) rfl (Nat.le_of_ble_eq_true rfl) rfl (fun zcP hcP => ?_)
        have hkP := KU_esH_KQ (rw := xHasRaw shR) hcP.2
        obtain ⟨zP, hzP⟩ : ∃ y, y = xBack esH (xHasRaw shR) zL zcP := ⟨_, rfl⟩
        rw [← hzP] at hkP ⊢
        have hrP := RX_back (es := esH) (rw := xHasRaw shR) (z := zL) (b := 27) (by decide) hcP.1
        rw [← hzP, hug, sTN (by omega), hLK.1] at hrP
        have hkP := KU_tr e6_2 hkP
        have htP := TX_U hkP (by decide) ht
        have hLP := LK_s hLK hw hZ hS hg (hB v (by omega)) hp ht.2.1
        refine ww_blk xCC okX5_fittingBits 13 4 (ps := []) (pc' := 30) (lv' := [(6, .int (nI v)), (5, .int (nI (sAl (sFb (sFt tc r g p it n)) v))), (0, .ref 0), (1, .ref 52), (2, .int (nI p)), (3, .int (nI u)), (4, .int (nI B))]) (st' := [.int (nI p), .ref 52, .ref 27]) (z' := zP) rfl trivial ?_
        refine ww_callVEi xCC okX5_fittingBits 17 (ix := 200) (t_X0_firstOtherwise l d p (xPull esHS2 zP) (sLay r g p v) cnt tc (RX_pull (by decide) hrP) hLP.2.1 (TX_pull (by decide) htP) n it hn ((congrFun (hkP 52 (by decide)) 1).trans h48) (fun i hi => (congrFun (hkP 53 (by decide)) i).trans (hit i hi)) (by omega)) (by omega) (by decide) xyX0_firstOtherwise xiX0_firstOtherwise (Or.inr (List.mem_of_getElem? (i := 696) (by decide +kernel))) (by decide +kernel) (by decide) (fun q => by cases q) (q0 := 27) rfl rfl rfl rfl (rest := []) rfl (Nat.le_of_ble_eq_true rfl) rfl (fun vcO zcO hcO => ?_)
        have hkO := KU_esHS2_KN (rw := xHasRaw shRS) hcO.2
        obtain ⟨zO, hzO⟩ : ∃ y, y = xBack esHS2 (xHasRaw shRS) zP zcO := ⟨_, rfl⟩
        rw [← hzO] at hkO ⊢
        rw [hcO.1]
        have hrO := RX_U hkO (by decide) hrP
        have hkk := KU_tr hkP (KU_mo hkO (by decide))
        refine ww_blk xCC okX5_fittingBits 18 1 (ps := []) (pc' := 34) (lv' := [(6, .int (nI v)), (5, .int (nI (sAl (sFb (sFt tc r g p it n)) v))), (0, .ref 0), (1, .ref 52), (2, .int (nI p)), (3, .int (nI u)), (4, .int (nI B))]) (st' := [.int (-1), .int (cI (sF1 (sOt tc (sLay r g p v) p it) n))]) (z' := zO) rfl trivial ?_
        refine ww_br xCC okX5_fittingBits 19 (P := (cI (sF1 (sOt tc (sLay r g p v) p it) n)) = (-1)) (t1 := 37) (t2 := 46) (r := []) rfl (fun c5 => ?_) (fun c5 => ?_)
        · skip
          have hf : sFt tc r g p it n v = true := by unfold sFt; exact decide_eq_true (cI_m (by have := sF1_k (sOt tc (sLay r g p v) p it) n; omega) c5)
          refine ww_blk xCC okX5_fittingBits 20 8 (ps := []) (pc' := 6) (lv' := [(6, .int ((nI v) + 1)), (5, .int ((nI (sAl (sFb (sFt tc r g p it n)) v)) ||| (1 <<< ((nI v) &&& 31)))), (0, .ref 0), (1, .ref 52), (2, .int (nI p)), (3, .int (nI u)), (4, .int (nI B))]) (st' := []) (z' := zO) rfl trivial ?_
          rw [show nI v + (1 : Int32) = nI (v + 1) from nI_add v 1]
          exact ww_cut [0, 1, 2, 3, 4, 5, 6] (xlc rfl (xlc (congrArg Value.int (show ((nI (sAl (sFb (sFt tc r g p it n)) v)) ||| (1 <<< ((nI v) &&& 31)) : Int32) = nI (sAl (sFb (sFt tc r g p it n)) (v + 1)) from (fb_1 (by omega) hf))) (xlc rfl (xlc rfl (xlc rfl (xlc rfl (xlc rfl rfl))))))) rfl rfl (ih6 (v + 1) (sLay r g p v) zO (by omega) hrO hLP hkk (by omega))
        · skip
          have hf : sFt tc r g p it n v = false := by unfold sFt; exact decide_eq_false (cI_nm c5)
          refine ww_blk xCC okX5_fittingBits 26 2 (ps := []) (pc' := 6) (lv' := [(6, .int ((nI v) + 1)), (5, .int (nI (sAl (sFb (sFt tc r g p it n)) v))), (0, .ref 0), (1, .ref 52), (2, .int (nI p)), (3, .int (nI u)), (4, .int (nI B))]) (st' := []) (z' := zO) rfl trivial ?_
          rw [show nI v + (1 : Int32) = nI (v + 1) from nI_add v 1]
          exact ww_cut [0, 1, 2, 3, 4, 5, 6] (xlc rfl (xlc (congrArg Value.int (show (nI (sAl (sFb (sFt tc r g p it n)) v) : Int32) = nI (sAl (sFb (sFt tc r g p it n)) (v + 1)) from (fb_0 hf))) (xlc rfl (xlc rfl (xlc rfl (xlc rfl (xlc rfl rfl))))))) rfl rfl (ih6 (v + 1) (sLay r g p v) zO (by omega) hrO hLP hkk (by omega))
  exact ww_cut [0, 1, 2, 3, 4, 5, 6] (xlc (congrArg Value.int (show (0 : Int32) = nI 0 from rfl)) (xlc (congrArg Value.int (show (0 : Int32) = nI (sAl (sFb (sFt tc r g p it n)) 0) from rfl)) (xlc rfl (xlc rfl (xlc rfl (xlc rfl (xlc rfl rfl))))))) rfl rfl (L6 (B - 0 + 1) 0 r z (Nat.lt_succ_self _) hr (LK_0 hw hS hZ) (KU_rf z) (by omega))

set_option maxHeartbeats 4000000 in
set_option maxRecDepth 20000 in
theorem t_X5_howManyFit_2 (l : Launch) (d : Nat) (z : xMem) (r : sR) (cnt : Nat) (tc : Nat → sTc) (hr : RX z 27 r) (hw : sW r cnt) (ht : TX z 1 cnt tc) (hS : sSub r) (hZ : sZ r) (n : Nat) (it : Nat → Int32) (hn : n ≤ 10) (h48 : z.1 52 1 = nI n) (hit : ∀ i, i < n → z.1 53 i = it i) (u g p : Nat)  (hug : (if u = 13 then 9 else u) = g) (hu : u ≤ 8 ∨ u = 13) (hg : g = 2 ∨ g = 5 ∨ g = 7 ∨ g = 8 ∨ g = 9) (hI : u = 13 ∨ sIs (r 7 4) (nI p) u) (hp : p < r 7 4) (hB : ∀ v, v < 100 → v ≤ sLst g cnt) : XMi l (d + 6) yX5_howManyFit cX5_howManyFit 6 (some .int) shX [.ref 0, .ref 52, .int (nI p), .int (nI u)] z (fun v9 z' => v9 = nI (sCt (sFt tc r g p it n) 100) ∧ TH z' ∧ KU UH z z') := by
  refine XM.of (by decide) (Nat.le_of_ble_eq_true rfl) (fun xp xe xs xm xar xbl xme xc xD xcs xad xAA xCC xhr => ?_)
  generalize xhQ : MQ xbl _ xar xs 0 0 xAA = xQ
  show ww xp l xe (xRm (d + 6)) xs xm xar xbl xme xc 6 xD xcs xad shX xAA xQ 0 [(0, .ref 0), (1, .ref 52), (2, .int (nI p)), (3, .int (nI u))] [] z
  have h74 : r 7 4 ≤ 4 := hw.2.2.2.2.2.2.1
  have hl99 := sLst_le g cnt ht.2.2.1
  refine ww_blk xCC okX5_howManyFit 0 4 (ps := []) (pc' := 6) (lv' := [(5, .int 0), (4, .int 0), (0, .ref 0), (1, .ref 52), (2, .int (nI p)), (3, .int (nI u))]) (st' := []) (z' := z) rfl trivial ?_
  have L6 : ∀ (n6 : Nat) (v : Nat) (rq : sR) (zL : xMem), 100 - v < n6 → (RX zL 27 rq) → (LK r rq g p cnt) → (KU UH z zL) → (v ≤ 100) → ww xp l xe (xRm (d + 6)) xs xm xar xbl xme xc 6 xD xcs xad shX xAA xQ 6 [(5, .int (nI v)), (4, .int (nI (sCt (sFt tc r g p it n) v))), (0, .ref 0), (1, .ref 52), (2, .int (nI p)), (3, .int (nI u))] [] zL := by
    intro n6
    induction n6 with
    | zero =>
      intro v rq zL hmu6
      exact absurd hmu6 (Nat.not_lt_zero _)
    | succ n6 ih6 =>
      intro v rq zL hmu6 e6_0 e6_1 e6_2 e6_3
      have hrL := e6_0
      have hLK := e6_1
      refine ww_blk xCC okX5_howManyFit 4 2 (ps := []) (pc' := 10) (lv' := [(5, .int (nI v)), (4, .int (nI (sCt (sFt tc r g p it n) v))), (0, .ref 0), (1, .ref 52), (2, .int (nI p)), (3, .int (nI u))]) (st' := [.int 100, .int (nI v)]) (z' := zL) rfl trivial ?_
      refine ww_br xCC okX5_howManyFit 6 (P := 100 ≤ (nI v)) (t1 := 46) (t2 := 13) (r := []) rfl (fun c1 => ?_) (fun c1 => ?_)
      · skip
        replace c1 : 100 ≤ v := (sLE (a := 100) (b := v) (by omega) (by omega)).mp c1
        refine ww_blk xCC okX5_howManyFit 23 1 (ps := []) (pc' := 48) (lv' := [(5, .int (nI v)), (4, .int (nI (sCt (sFt tc r g p it n) v))), (0, .ref 0), (1, .ref 52), (2, .int (nI p)), (3, .int (nI u))]) (st' := [.int (nI (sCt (sFt tc r g p it n) v))]) (z' := zL) rfl trivial ?_
        subst xhQ
        exact ww_iret xCC okX5_howManyFit 24 xhr rfl rfl ⟨_, rfl, ⟨(by rw [show v = 100 by omega]), ⟨rq, hrL, hLK.2.2.2.1⟩, e6_2⟩⟩
      · skip
        replace c1 : ¬ 100 ≤ v := fun q => c1 ((sLE (a := 100) (b := v) (by omega) (by omega)).mpr q)
        refine ww_blk xCC okX5_howManyFit 7 5 (ps := []) (pc' := 21) (lv' := [(5, .int (nI v)), (4, .int (nI (sCt (sFt tc r g p it n) v))), (0, .ref 0), (1, .ref 52), (2, .int (nI p)), (3, .int (nI u))]) (st' := [.int (nI v), .int (nI u), .int (nI p), .ref 27]) (z' := zL) rfl trivial ?_
        refine ww_callVEv xCC okX5_howManyFit 12 (ix := 71) (t_X0_put l d u v (nI p) (xPull esH zL) rq cnt (RX_pull (by decide) hrL) hLK.2.1 hLK.2.2.1 (by omega) hu (by rw [hLK.2.2.2.2]; exact hI)) (by omega) (by decide) xyX0_put xiX0_put (Or.inr (List.mem_of_getElem? (i := 396) (by decide +kernel))) (by decide +kernel) (by decide) (fun q => by cases q) (q0 := 27) rfl rfl rfl rfl (rest := []) rfl (Nat.le_of_ble_eq_true rfl) rfl (fun zcP hcP => ?_)
        have hkP := KU_esH_KQ (rw := xHasRaw shR) hcP.2
        obtain ⟨zP, hzP⟩ : ∃ y, y = xBack esH (xHasRaw shR) zL zcP := ⟨_, rfl⟩
        rw [← hzP] at hkP ⊢
        have hrP := RX_back (es := esH) (rw := xHasRaw shR) (z := zL) (b := 27) (by decide) hcP.1
        rw [← hzP, hug, sTN (by omega), hLK.1] at hrP
        have hkP := KU_tr e6_2 hkP
        have htP := TX_U hkP (by decide) ht
        have hLP := LK_s hLK hw hZ hS hg (hB v (by omega)) hp ht.2.1
        refine ww_blk xCC okX5_howManyFit 13 4 (ps := []) (pc' := 30) (lv' := [(5, .int (nI v)), (4, .int (nI (sCt (sFt tc r g p it n) v))), (0, .ref 0), (1, .ref 52), (2, .int (nI p)), (3, .int (nI u))]) (st' := [.int (nI p), .ref 52, .ref 27]) (z' := zP) rfl trivial ?_
        refine ww_callVEi xCC okX5_howManyFit 17 (ix := 200) (t_X0_firstOtherwise l d p (xPull esHS2 zP) (sLay r g p v) cnt tc (RX_pull (by decide) hrP) hLP.2.1 (TX_pull (by decide) htP) n it hn ((congrFun (hkP 52 (by decide)) 1).trans h48) (fun i hi => (congrFun (hkP 53 (by decide)) i).trans (hit i hi)) (by omega)) (by omega) (by decide) xyX0_firstOtherwise xiX0_firstOtherwise (Or.inr (List.mem_of_getElem? (i := 696) (by decide +kernel))) (by decide +kernel) (by decide) (fun q => by cases q) (q0 := 27) rfl rfl rfl rfl (rest := []) rfl (Nat.le_of_ble_eq_true rfl) rfl (fun vcO zcO hcO => ?_)
        have hkO := KU_esHS2_KN (rw := xHasRaw shRS) hcO.2
        obtain ⟨zO, hzO⟩ : ∃ y, y = xBack esHS2 (xHasRaw shRS) zP zcO := ⟨_, rfl⟩
        rw [← hzO] at hkO ⊢
        rw [hcO.1]
        have hrO := RX_U hkO (by decide) hrP
        have hkk := KU_tr hkP (KU_mo hkO (by decide))
        refine ww_blk xCC okX5_howManyFit 18 1 (ps := []) (pc' := 34) (lv' := [(5, .int (nI v)), (4, .int (nI (sCt (sFt tc r g p it n) v))), (0, .ref 0), (1, .ref 52), (2, .int (nI p)), (3, .int (nI u))]) (st' := [.int (-1), .int (cI (sF1 (sOt tc (sLay r g p v) p it) n))]) (z' := zO) rfl trivial ?_
        refine ww_br xCC okX5_howManyFit 19 (P := (cI (sF1 (sOt tc (sLay r g p v) p it) n)) = (-1)) (t1 := 37) (t2 := 40) (r := []) rfl (fun c5 => ?_) (fun c5 => ?_)
        · skip
          have hf : sFt tc r g p it n v = true := by unfold sFt; exact decide_eq_true (cI_m (by have := sF1_k (sOt tc (sLay r g p v) p it) n; omega) c5)
          refine ww_blk xCC okX5_howManyFit 20 3 (ps := []) (pc' := 6) (lv' := [(5, .int ((nI v) + 1)), (4, .int ((nI (sCt (sFt tc r g p it n) v)) + 1)), (0, .ref 0), (1, .ref 52), (2, .int (nI p)), (3, .int (nI u))]) (st' := []) (z' := zO) rfl trivial ?_
          rw [show nI v + (1 : Int32) = nI (v + 1) from nI_add v 1]
          rw [show nI (sCt (sFt tc r g p it n) v) + (1 : Int32) = nI ((sCt (sFt tc r g p it n) v) + 1) from nI_add (sCt (sFt tc r g p it n) v) 1]
          exact ww_cut [0, 1, 2, 3, 4, 5] (xlc rfl (xlc (congrArg Value.int (show (nI ((sCt (sFt tc r g p it n) v) + 1) : Int32) = nI (sCt (sFt tc r g p it n) (v + 1)) from (ct_1 hf))) (xlc rfl (xlc rfl (xlc rfl (xlc rfl rfl)))))) rfl rfl (ih6 (v + 1) (sLay r g p v) zO (by omega) hrO hLP hkk (by omega))
        · skip
          have hf : sFt tc r g p it n v = false := by unfold sFt; exact decide_eq_false (cI_nm c5)
          refine ww_blk xCC okX5_howManyFit 21 2 (ps := []) (pc' := 6) (lv' := [(5, .int ((nI v) + 1)), (4, .int (nI (sCt (sFt tc r g p it n) v))), (0, .ref 0), (1, .ref 52), (2, .int (nI p)), (3, .int (nI u))]) (st' := []) (z' := zO) rfl trivial ?_
          rw [show nI v + (1 : Int32) = nI (v + 1) from nI_add v 1]
          exact ww_cut [0, 1, 2, 3, 4, 5] (xlc rfl (xlc (congrArg Value.int (show (nI (sCt (sFt tc r g p it n) v) : Int32) = nI (sCt (sFt tc r g p it n) (v + 1)) from (ct_0 hf))) (xlc rfl (xlc rfl (xlc rfl (xlc rfl rfl)))))) rfl rfl (ih6 (v + 1) (sLay r g p v) zO (by omega) hrO hLP hkk (by omega))
  exact ww_cut [0, 1, 2, 3, 4, 5] (xlc (congrArg Value.int (show (0 : Int32) = nI 0 from rfl)) (xlc (congrArg Value.int (show (0 : Int32) = nI (sCt (sFt tc r g p it n) 0) from rfl)) (xlc rfl (xlc rfl (xlc rfl (xlc rfl rfl)))))) rfl rfl (L6 (100 - 0 + 1) 0 r z (Nat.lt_succ_self _) hr (LK_0 hw hS hZ) (KU_rf z) (by omega))

set_option maxHeartbeats 4000000 in
set_option maxRecDepth 20000 in
theorem t_X5_leastFitting_2 (l : Launch) (d : Nat) (z : xMem) (r : sR) (cnt : Nat) (tc : Nat → sTc) (hr : RX z 27 r) (hw : sW r cnt) (ht : TX z 1 cnt tc) (hS : sSub r) (hZ : sZ r) (n : Nat) (it : Nat → Int32) (hn : n ≤ 10) (h48 : z.1 52 1 = nI n) (hit : ∀ i, i < n → z.1 53 i = it i) (u g p : Nat)  (hug : (if u = 13 then 9 else u) = g) (hu : u ≤ 8 ∨ u = 13) (hg : g = 2 ∨ g = 5 ∨ g = 7 ∨ g = 8 ∨ g = 9) (hI : u = 13 ∨ sIs (r 7 4) (nI p) u) (hp : p < r 7 4) (hB : ∀ v, v < 100 → v ≤ sLst g cnt) : XMi l (d + 6) yX5_leastFitting cX5_leastFitting 5 (some .int) shX [.ref 0, .ref 52, .int (nI p), .int (nI u)] z (fun v9 z' => v9 = cI (sF1 (sFt tc r g p it n) 100) ∧ TH z' ∧ KU UH z z') := by
  refine XM.of (by decide) (Nat.le_of_ble_eq_true rfl) (fun xp xe xs xm xar xbl xme xc xD xcs xad xAA xCC xhr => ?_)
  generalize xhQ : MQ xbl _ xar xs 0 0 xAA = xQ
  show ww xp l xe (xRm (d + 6)) xs xm xar xbl xme xc 5 xD xcs xad shX xAA xQ 0 [(0, .ref 0), (1, .ref 52), (2, .int (nI p)), (3, .int (nI u))] [] z
  have h74 : r 7 4 ≤ 4 := hw.2.2.2.2.2.2.1
  have hl99 := sLst_le g cnt ht.2.2.1
  refine ww_blk xCC okX5_leastFitting 0 2 (ps := []) (pc' := 3) (lv' := [(4, .int 0), (0, .ref 0), (1, .ref 52), (2, .int (nI p)), (3, .int (nI u))]) (st' := []) (z' := z) rfl trivial ?_
  have L3 : ∀ (n3 : Nat) (v : Nat) (rq : sR) (zL : xMem), 100 - v < n3 → (RX zL 27 rq) → (LK r rq g p cnt) → (KU UH z zL) → (v ≤ 100) → (sF1 (sFt tc r g p it n) v = 0) → ww xp l xe (xRm (d + 6)) xs xm xar xbl xme xc 5 xD xcs xad shX xAA xQ 3 [(4, .int (nI v)), (0, .ref 0), (1, .ref 52), (2, .int (nI p)), (3, .int (nI u))] [] zL := by
    intro n3
    induction n3 with
    | zero =>
      intro v rq zL hmu3
      exact absurd hmu3 (Nat.not_lt_zero _)
    | succ n3 ih3 =>
      intro v rq zL hmu3 e3_0 e3_1 e3_2 e3_3 e3_4
      have hrL := e3_0
      have hLK := e3_1
      refine ww_blk xCC okX5_leastFitting 2 2 (ps := []) (pc' := 7) (lv' := [(4, .int (nI v)), (0, .ref 0), (1, .ref 52), (2, .int (nI p)), (3, .int (nI u))]) (st' := [.int 100, .int (nI v)]) (z' := zL) rfl trivial ?_
      refine ww_br xCC okX5_leastFitting 4 (P := 100 ≤ (nI v)) (t1 := 43) (t2 := 10) (r := []) rfl (fun c1 => ?_) (fun c1 => ?_)
      · skip
        replace c1 : 100 ≤ v := (sLE (a := 100) (b := v) (by omega) (by omega)).mp c1
        refine ww_blk xCC okX5_leastFitting 22 1 (ps := []) (pc' := 44) (lv' := [(4, .int (nI v)), (0, .ref 0), (1, .ref 52), (2, .int (nI p)), (3, .int (nI u))]) (st' := [.int (-1)]) (z' := zL) rfl trivial ?_
        subst xhQ
        exact ww_iret xCC okX5_leastFitting 23 xhr rfl rfl ⟨_, rfl, ⟨(by rw [show v = 100 by omega] at e3_4; rw [e3_4]; rfl), ⟨rq, hrL, hLK.2.2.2.1⟩, e3_2⟩⟩
      · skip
        replace c1 : ¬ 100 ≤ v := fun q => c1 ((sLE (a := 100) (b := v) (by omega) (by omega)).mpr q)
        refine ww_blk xCC okX5_leastFitting 5 5 (ps := []) (pc' := 18) (lv' := [(4, .int (nI v)), (0, .ref 0), (1, .ref 52), (2, .int (nI p)), (3, .int (nI u))]) (st' := [.int (nI v), .int (nI u), .int (nI p), .ref 27]) (z' := zL) rfl trivial ?_
        refine ww_callVEv xCC okX5_leastFitting 10 (ix := 71) (t_X0_put l d u v (nI p) (xPull esH zL) rq cnt (RX_pull (by decide) hrL) hLK.2.1 hLK.2.2.1 (by omega) hu (by rw [hLK.2.2.2.2]; exact hI)) (by omega) (by decide) xyX0_put xiX0_put (Or.inr (List.mem_of_getElem? (i := 396) (by decide +kernel))) (by decide +kernel) (by decide) (fun q => by cases q) (q0 := 27) rfl rfl rfl rfl (rest := []) rfl (Nat.le_of_ble_eq_true rfl) rfl (fun zcP hcP => ?_)
        have hkP := KU_esH_KQ (rw := xHasRaw shR) hcP.2
        obtain ⟨zP, hzP⟩ : ∃ y, y = xBack esH (xHasRaw shR) zL zcP := ⟨_, rfl⟩
        rw [← hzP] at hkP ⊢
        have hrP := RX_back (es := esH) (rw := xHasRaw shR) (z := zL) (b := 27) (by decide) hcP.1
        rw [← hzP, hug, sTN (by omega), hLK.1] at hrP
        have hkP := KU_tr e3_2 hkP
        have htP := TX_U hkP (by decide) ht
        have hLP := LK_s hLK hw hZ hS hg (hB v (by omega)) hp ht.2.1
        refine ww_blk xCC okX5_leastFitting 11 4 (ps := []) (pc' := 27) (lv' := [(4, .int (nI v)), (0, .ref 0), (1, .ref 52), (2, .int (nI p)), (3, .int (nI u))]) (st' := [.int (nI p), .ref 52, .ref 27]) (z' := zP) rfl trivial ?_
        refine ww_callVEi xCC okX5_leastFitting 15 (ix := 200) (t_X0_firstOtherwise l d p (xPull esHS2 zP) (sLay r g p v) cnt tc (RX_pull (by decide) hrP) hLP.2.1 (TX_pull (by decide) htP) n it hn ((congrFun (hkP 52 (by decide)) 1).trans h48) (fun i hi => (congrFun (hkP 53 (by decide)) i).trans (hit i hi)) (by omega)) (by omega) (by decide) xyX0_firstOtherwise xiX0_firstOtherwise (Or.inr (List.mem_of_getElem? (i := 696) (by decide +kernel))) (by decide +kernel) (by decide) (fun q => by cases q) (q0 := 27) rfl rfl rfl rfl (rest := []) rfl (Nat.le_of_ble_eq_true rfl) rfl (fun vcO zcO hcO => ?_)
        have hkO := KU_esHS2_KN (rw := xHasRaw shRS) hcO.2
        obtain ⟨zO, hzO⟩ : ∃ y, y = xBack esHS2 (xHasRaw shRS) zP zcO := ⟨_, rfl⟩
        rw [← hzO] at hkO ⊢
        rw [hcO.1]
        have hrO := RX_U hkO (by decide) hrP
        have hkk := KU_tr hkP (KU_mo hkO (by decide))
        refine ww_blk xCC okX5_leastFitting 16 1 (ps := []) (pc' := 31) (lv' := [(4, .int (nI v)), (0, .ref 0), (1, .ref 52), (2, .int (nI p)), (3, .int (nI u))]) (st' := [.int (-1), .int (cI (sF1 (sOt tc (sLay r g p v) p it) n))]) (z' := zO) rfl trivial ?_
        refine ww_br xCC okX5_leastFitting 17 (P := (cI (sF1 (sOt tc (sLay r g p v) p it) n)) = (-1)) (t1 := 34) (t2 := 37) (r := []) rfl (fun c5 => ?_) (fun c5 => ?_)
        · skip
          have hf : sFt tc r g p it n v = true := by unfold sFt; exact decide_eq_true (cI_m (by have := sF1_k (sOt tc (sLay r g p v) p it) n; omega) c5)
          refine ww_blk xCC okX5_leastFitting 18 1 (ps := []) (pc' := 36) (lv' := [(4, .int (nI v)), (0, .ref 0), (1, .ref 52), (2, .int (nI p)), (3, .int (nI u))]) (st' := [.int (nI v)]) (z' := zO) rfl trivial ?_
          subst xhQ
          exact ww_iret xCC okX5_leastFitting 19 xhr rfl rfl ⟨_, rfl, ⟨(by rw [sF1_at e3_4 (show v < 100 by omega) hf]; exact cI_s v), ⟨_, hrO, hLP.2.2.2.1⟩, hkk⟩⟩
        · skip
          have hf : sFt tc r g p it n v = false := by unfold sFt; exact decide_eq_false (cI_nm c5)
          refine ww_blk xCC okX5_leastFitting 20 2 (ps := []) (pc' := 3) (lv' := [(4, .int ((nI v) + 1)), (0, .ref 0), (1, .ref 52), (2, .int (nI p)), (3, .int (nI u))]) (st' := []) (z' := zO) rfl trivial ?_
          rw [show nI v + (1 : Int32) = nI (v + 1) from nI_add v 1]
          exact ww_cut [0, 1, 2, 3, 4] (xlc rfl (xlc rfl (xlc rfl (xlc rfl (xlc rfl rfl))))) rfl rfl (ih3 (v + 1) (sLay r g p v) zO (by omega) hrO hLP hkk (by omega) (sF1_n e3_4 hf))
  exact ww_cut [0, 1, 2, 3, 4] (xlc (congrArg Value.int (show (0 : Int32) = nI 0 from rfl)) (xlc rfl (xlc rfl (xlc rfl (xlc rfl rfl))))) rfl rfl (L3 (100 - 0 + 1) 0 r z (Nat.lt_succ_self _) hr (LK_0 hw hS hZ) (KU_rf z) (by omega) rfl)

set_option maxHeartbeats 4000000 in
set_option maxRecDepth 20000 in
theorem t_X5_fittingBits_3 (l : Launch) (d : Nat) (z : xMem) (r : sR) (cnt : Nat) (tc : Nat → sTc) (hr : RX z 27 r) (hw : sW r cnt) (ht : TX z 1 cnt tc) (hS : sSub r) (hZ : sZ r) (n : Nat) (it : Nat → Int32) (hn : n ≤ 10) (h48 : z.1 54 1 = nI n) (hit : ∀ i, i < n → z.1 55 i = it i) (u g p : Nat) (B : Nat) (hB10 : B ≤ 10) (hug : (if u = 13 then 9 else u) = g) (hu : u ≤ 8 ∨ u = 13) (hg : g = 2 ∨ g = 5 ∨ g = 7 ∨ g = 8 ∨ g = 9) (hI : u = 13 ∨ sIs (r 7 4) (nI p) u) (hp : p < r 7 4) (hB : ∀ v, v < B → v ≤ sLst g cnt) : XMi l (d + 6) yX5_fittingBits cX5_fittingBits 7 (some .int) shX [.ref 0, .ref 54, .int (nI p), .int (nI u), .int (nI B)] z (fun v9 z' => v9 = nI (sAl (sFb (sFt tc r g p it n)) B) ∧ TH z' ∧ KU UH z z') := by
  refine XM.of (by decide) (Nat.le_of_ble_eq_true rfl) (fun xp xe xs xm xar xbl xme xc xD xcs xad xAA xCC xhr => ?_)
  generalize xhQ : MQ xbl _ xar xs 0 0 xAA = xQ
  show ww xp l xe (xRm (d + 6)) xs xm xar xbl xme xc 7 xD xcs xad shX xAA xQ 0 [(0, .ref 0), (1, .ref 54), (2, .int (nI p)), (3, .int (nI u)), (4, .int (nI B))] [] z
  have h74 : r 7 4 ≤ 4 := hw.2.2.2.2.2.2.1
  have hl99 := sLst_le g cnt ht.2.2.1
  refine ww_blk xCC okX5_fittingBits 0 4 (ps := []) (pc' := 6) (lv' := [(6, .int 0), (5, .int 0), (0, .ref 0), (1, .ref 54), (2, .int (nI p)), (3, .int (nI u)), (4, .int (nI B))]) (st' := []) (z' := z) rfl trivial ?_
  have L6 : ∀ (n6 : Nat) (v : Nat) (rq : sR) (zL : xMem), B - v < n6 → (RX zL 27 rq) → (LK r rq g p cnt) → (KU UH z zL) → (v ≤ B) → ww xp l xe (xRm (d + 6)) xs xm xar xbl xme xc 7 xD xcs xad shX xAA xQ 6 [(6, .int (nI v)), (5, .int (nI (sAl (sFb (sFt tc r g p it n)) v))), (0, .ref 0), (1, .ref 54), (2, .int (nI p)), (3, .int (nI u)), (4, .int (nI B))] [] zL := by
    intro n6
    induction n6 with
    | zero =>
      intro v rq zL hmu6
      exact absurd hmu6 (Nat.not_lt_zero _)
    | succ n6 ih6 =>
      intro v rq zL hmu6 e6_0 e6_1 e6_2 e6_3
      have hrL := e6_0
      have hLK := e6_1
      refine ww_blk xCC okX5_fittingBits 4 2 (ps := []) (pc' := 10) (lv' := [(6, .int (nI v)), (5, .int (nI (sAl (sFb (sFt tc r g p it n)) v))), (0, .ref 0), (1, .ref 54), (2, .int (nI p)), (3, .int (nI u)), (4, .int (nI B))]) (st' := [.int (nI B), .int (nI v)]) (z' := zL) rfl trivial ?_
      refine ww_br xCC okX5_fittingBits 6 (P := (nI B) ≤ (nI v)) (t1 := 52) (t2 := 13) (r := []) rfl (fun c1 => ?_) (fun c1 => ?_)
      · skip
        replace c1 : B ≤ v := (sLE (a := B) (b := v) (by omega) (by omega)).mp c1
        refine ww_blk xCC okX5_fittingBits 28 1 (ps := []) (pc' := 54) (lv' := [(6, .int (nI v)), (5, .int (nI (sAl (sFb (sFt tc r g p it n)) v))), (0, .ref 0), (1, .ref 54), (2, .int (nI p)), (3, .int (nI u)), (4, .int (nI B))]) (st' := [.int (nI (sAl (sFb (sFt tc r g p it n)) v))]) (z' := zL) rfl trivial ?_
        subst xhQ
        exact ww_iret xCC okX5_fittingBits 29 xhr rfl rfl ⟨_, rfl, ⟨(by rw [show v = B by omega]), ⟨rq, hrL, hLK.2.2.2.1⟩, e6_2⟩⟩
      · skip
        replace c1 : ¬ B ≤ v := fun q => c1 ((sLE (a := B) (b := v) (by omega) (by omega)).mpr q)
        refine ww_blk xCC okX5_fittingBits 7 5 (ps := []) (pc' := 21) (lv' := [(6, .int (nI v)), (5, .int (nI (sAl (sFb (sFt tc r g p it n)) v))), (0, .ref 0), (1, .ref 54), (2, .int (nI p)), (3, .int (nI u)), (4, .int (nI B))]) (st' := [.int (nI v), .int (nI u), .int (nI p), .ref 27]) (z' := zL) rfl trivial ?_
        refine ww_callVEv xCC okX5_fittingBits 12 (ix := 71) (t_X0_put l d u v (nI p) (xPull esH zL) rq cnt (RX_pull (by decide) hrL) hLK.2.1 hLK.2.2.1 (by omega) hu (by rw [hLK.2.2.2.2]; exact hI)) (by omega) (by decide) xyX0_put xiX0_put (Or.inr (List.mem_of_getElem? (i := 396) (by decide +kernel))) (by decide +kernel) (by decide) (fun q => by cases q) (q0 := 27) rfl rfl rfl rfl (rest := []) rfl (Nat.le_of_ble_eq_true rfl) rfl (fun zcP hcP => ?_)
        have hkP := KU_esH_KQ (rw := xHasRaw shR) hcP.2
        obtain ⟨zP, hzP⟩ : ∃ y, y = xBack esH (xHasRaw shR) zL zcP := ⟨_, rfl⟩
        rw [← hzP] at hkP ⊢
        have hrP := RX_back (es := esH) (rw := xHasRaw shR) (z := zL) (b := 27) (by decide) hcP.1
        rw [← hzP, hug, sTN (by omega), hLK.1] at hrP
        have hkP := KU_tr e6_2 hkP
        have htP := TX_U hkP (by decide) ht
        have hLP := LK_s hLK hw hZ hS hg (hB v (by omega)) hp ht.2.1
        refine ww_blk xCC okX5_fittingBits 13 4 (ps := []) (pc' := 30) (lv' := [(6, .int (nI v)), (5, .int (nI (sAl (sFb (sFt tc r g p it n)) v))), (0, .ref 0), (1, .ref 54), (2, .int (nI p)), (3, .int (nI u)), (4, .int (nI B))]) (st' := [.int (nI p), .ref 54, .ref 27]) (z' := zP) rfl trivial ?_
        refine ww_callVEi xCC okX5_fittingBits 17 (ix := 200) (t_X0_firstOtherwise l d p (xPull esHS3 zP) (sLay r g p v) cnt tc (RX_pull (by decide) hrP) hLP.2.1 (TX_pull (by decide) htP) n it hn ((congrFun (hkP 54 (by decide)) 1).trans h48) (fun i hi => (congrFun (hkP 55 (by decide)) i).trans (hit i hi)) (by omega)) (by omega) (by decide) xyX0_firstOtherwise xiX0_firstOtherwise (Or.inr (List.mem_of_getElem? (i := 696) (by decide +kernel))) (by decide +kernel) (by decide) (fun q => by cases q) (q0 := 27) rfl rfl rfl rfl (rest := []) rfl (Nat.le_of_ble_eq_true rfl) rfl (fun vcO zcO hcO => ?_)
        have hkO := KU_esHS3_KN (rw := xHasRaw shRS) hcO.2
        obtain ⟨zO, hzO⟩ : ∃ y, y = xBack esHS3 (xHasRaw shRS) zP zcO := ⟨_, rfl⟩
        rw [← hzO] at hkO ⊢
        rw [hcO.1]
        have hrO := RX_U hkO (by decide) hrP
        have hkk := KU_tr hkP (KU_mo hkO (by decide))
        refine ww_blk xCC okX5_fittingBits 18 1 (ps := []) (pc' := 34) (lv' := [(6, .int (nI v)), (5, .int (nI (sAl (sFb (sFt tc r g p it n)) v))), (0, .ref 0), (1, .ref 54), (2, .int (nI p)), (3, .int (nI u)), (4, .int (nI B))]) (st' := [.int (-1), .int (cI (sF1 (sOt tc (sLay r g p v) p it) n))]) (z' := zO) rfl trivial ?_
        refine ww_br xCC okX5_fittingBits 19 (P := (cI (sF1 (sOt tc (sLay r g p v) p it) n)) = (-1)) (t1 := 37) (t2 := 46) (r := []) rfl (fun c5 => ?_) (fun c5 => ?_)
        · skip
          have hf : sFt tc r g p it n v = true := by unfold sFt; exact decide_eq_true (cI_m (by have := sF1_k (sOt tc (sLay r g p v) p it) n; omega) c5)
          refine ww_blk xCC okX5_fittingBits 20 8 (ps := []) (pc' := 6) (lv' := [(6, .int ((nI v) + 1)), (5, .int ((nI (sAl (sFb (sFt tc r g p it n)) v)) ||| (1 <<< ((nI v) &&& 31)))), (0, .ref 0), (1, .ref 54), (2, .int (nI p)), (3, .int (nI u)), (4, .int (nI B))]) (st' := []) (z' := zO) rfl trivial ?_
          rw [show nI v + (1 : Int32) = nI (v + 1) from nI_add v 1]
          exact ww_cut [0, 1, 2, 3, 4, 5, 6] (xlc rfl (xlc (congrArg Value.int (show ((nI (sAl (sFb (sFt tc r g p it n)) v)) ||| (1 <<< ((nI v) &&& 31)) : Int32) = nI (sAl (sFb (sFt tc r g p it n)) (v + 1)) from (fb_1 (by omega) hf))) (xlc rfl (xlc rfl (xlc rfl (xlc rfl (xlc rfl rfl))))))) rfl rfl (ih6 (v + 1) (sLay r g p v) zO (by omega) hrO hLP hkk (by omega))
        · skip
          have hf : sFt tc r g p it n v = false := by unfold sFt; exact decide_eq_false (cI_nm c5)
          refine ww_blk xCC okX5_fittingBits 26 2 (ps := []) (pc' := 6) (lv' := [(6, .int ((nI v) + 1)), (5, .int (nI (sAl (sFb (sFt tc r g p it n)) v))), (0, .ref 0), (1, .ref 54), (2, .int (nI p)), (3, .int (nI u)), (4, .int (nI B))]) (st' := []) (z' := zO) rfl trivial ?_
          rw [show nI v + (1 : Int32) = nI (v + 1) from nI_add v 1]
          exact ww_cut [0, 1, 2, 3, 4, 5, 6] (xlc rfl (xlc (congrArg Value.int (show (nI (sAl (sFb (sFt tc r g p it n)) v) : Int32) = nI (sAl (sFb (sFt tc r g p it n)) (v + 1)) from (fb_0 hf))) (xlc rfl (xlc rfl (xlc rfl (xlc rfl (xlc rfl rfl))))))) rfl rfl (ih6 (v + 1) (sLay r g p v) zO (by omega) hrO hLP hkk (by omega))
  exact ww_cut [0, 1, 2, 3, 4, 5, 6] (xlc (congrArg Value.int (show (0 : Int32) = nI 0 from rfl)) (xlc (congrArg Value.int (show (0 : Int32) = nI (sAl (sFb (sFt tc r g p it n)) 0) from rfl)) (xlc rfl (xlc rfl (xlc rfl (xlc rfl (xlc rfl rfl))))))) rfl rfl (L6 (B - 0 + 1) 0 r z (Nat.lt_succ_self _) hr (LK_0 hw hS hZ) (KU_rf z) (by omega))

set_option maxHeartbeats 4000000 in
set_option maxRecDepth 20000 in
theorem t_X5_howManyFit_3 (l : Launch) (d : Nat) (z : xMem) (r : sR) (cnt : Nat) (tc : Nat → sTc) (hr : RX z 27 r) (hw : sW r cnt) (ht : TX z 1 cnt tc) (hS : sSub r) (hZ : sZ r) (n : Nat) (it : Nat → Int32) (hn : n ≤ 10) (h48 : z.1 54 1 = nI n) (hit : ∀ i, i < n → z.1 55 i = it i) (u g p : Nat)  (hug : (if u = 13 then 9 else u) = g) (hu : u ≤ 8 ∨ u = 13) (hg : g = 2 ∨ g = 5 ∨ g = 7 ∨ g = 8 ∨ g = 9) (hI : u = 13 ∨ sIs (r 7 4) (nI p) u) (hp : p < r 7 4) (hB : ∀ v, v < 100 → v ≤ sLst g cnt) : XMi l (d + 6) yX5_howManyFit cX5_howManyFit 6 (some .int) shX [.ref 0, .ref 54, .int (nI p), .int (nI u)] z (fun v9 z' => v9 = nI (sCt (sFt tc r g p it n) 100) ∧ TH z' ∧ KU UH z z') := by
  refine XM.of (by decide) (Nat.le_of_ble_eq_true rfl) (fun xp xe xs xm xar xbl xme xc xD xcs xad xAA xCC xhr => ?_)
  generalize xhQ : MQ xbl _ xar xs 0 0 xAA = xQ
  show ww xp l xe (xRm (d + 6)) xs xm xar xbl xme xc 6 xD xcs xad shX xAA xQ 0 [(0, .ref 0), (1, .ref 54), (2, .int (nI p)), (3, .int (nI u))] [] z
  have h74 : r 7 4 ≤ 4 := hw.2.2.2.2.2.2.1
  have hl99 := sLst_le g cnt ht.2.2.1
  refine ww_blk xCC okX5_howManyFit 0 4 (ps := []) (pc' := 6) (lv' := [(5, .int 0), (4, .int 0), (0, .ref 0), (1, .ref 54), (2, .int (nI p)), (3, .int (nI u))]) (st' := []) (z' := z) rfl trivial ?_
  have L6 : ∀ (n6 : Nat) (v : Nat) (rq : sR) (zL : xMem), 100 - v < n6 → (RX zL 27 rq) → (LK r rq g p cnt) → (KU UH z zL) → (v ≤ 100) → ww xp l xe (xRm (d + 6)) xs xm xar xbl xme xc 6 xD xcs xad shX xAA xQ 6 [(5, .int (nI v)), (4, .int (nI (sCt (sFt tc r g p it n) v))), (0, .ref 0), (1, .ref 54), (2, .int (nI p)), (3, .int (nI u))] [] zL := by
    intro n6
    induction n6 with
    | zero =>
      intro v rq zL hmu6
      exact absurd hmu6 (Nat.not_lt_zero _)
    | succ n6 ih6 =>
      intro v rq zL hmu6 e6_0 e6_1 e6_2 e6_3
      have hrL := e6_0
      have hLK := e6_1
      refine ww_blk xCC okX5_howManyFit 4 2 (ps := []) (pc' := 10) (lv' := [(5, .int (nI v)), (4, .int (nI (sCt (sFt tc r g p it n) v))), (0, .ref 0), (1, .ref 54), (2, .int (nI p)), (3, .int (nI u))]) (st' := [.int 100, .int (nI v)]) (z' := zL) rfl trivial ?_
      refine ww_br xCC okX5_howManyFit 6 (P := 100 ≤ (nI v)) (t1 := 46) (t2 := 13) (r := []) rfl (fun c1 => ?_) (fun c1 => ?_)
      · skip
        replace c1 : 100 ≤ v := (sLE (a := 100) (b := v) (by omega) (by omega)).mp c1
        refine ww_blk xCC okX5_howManyFit 23 1 (ps := []) (pc' := 48) (lv' := [(5, .int (nI v)), (4, .int (nI (sCt (sFt tc r g p it n) v))), (0, .ref 0), (1, .ref 54), (2, .int (nI p)), (3, .int (nI u))]) (st' := [.int (nI (sCt (sFt tc r g p it n) v))]) (z' := zL) rfl trivial ?_
        subst xhQ
        exact ww_iret xCC okX5_howManyFit 24 xhr rfl rfl ⟨_, rfl, ⟨(by rw [show v = 100 by omega]), ⟨rq, hrL, hLK.2.2.2.1⟩, e6_2⟩⟩
      · skip
        replace c1 : ¬ 100 ≤ v := fun q => c1 ((sLE (a := 100) (b := v) (by omega) (by omega)).mpr q)
        refine ww_blk xCC okX5_howManyFit 7 5 (ps := []) (pc' := 21) (lv' := [(5, .int (nI v)), (4, .int (nI (sCt (sFt tc r g p it n) v))), (0, .ref 0), (1, .ref 54), (2, .int (nI p)), (3, .int (nI u))]) (st' := [.int (nI v), .int (nI u), .int (nI p), .ref 27]) (z' := zL) rfl trivial ?_
        refine ww_callVEv xCC okX5_howManyFit 12 (ix := 71) (t_X0_put l d u v (nI p) (xPull esH zL) rq cnt (RX_pull (by decide) hrL) hLK.2.1 hLK.2.2.1 (by omega) hu (by rw [hLK.2.2.2.2]; exact hI)) (by omega) (by decide) xyX0_put xiX0_put (Or.inr (List.mem_of_getElem? (i := 396) (by decide +kernel))) (by decide +kernel) (by decide) (fun q => by cases q) (q0 := 27) rfl rfl rfl rfl (rest := []) rfl (Nat.le_of_ble_eq_true rfl) rfl (fun zcP hcP => ?_)
        have hkP := KU_esH_KQ (rw := xHasRaw shR) hcP.2
        obtain ⟨zP, hzP⟩ : ∃ y, y = xBack esH (xHasRaw shR) zL zcP := ⟨_, rfl⟩
        rw [← hzP] at hkP ⊢
        have hrP := RX_back (es := esH) (rw := xHasRaw shR) (z := zL) (b := 27) (by decide) hcP.1
        rw [← hzP, hug, sTN (by omega), hLK.1] at hrP
        have hkP := KU_tr e6_2 hkP
        have htP := TX_U hkP (by decide) ht
        have hLP := LK_s hLK hw hZ hS hg (hB v (by omega)) hp ht.2.1
        refine ww_blk xCC okX5_howManyFit 13 4 (ps := []) (pc' := 30) (lv' := [(5, .int (nI v)), (4, .int (nI (sCt (sFt tc r g p it n) v))), (0, .ref 0), (1, .ref 54), (2, .int (nI p)), (3, .int (nI u))]) (st' := [.int (nI p), .ref 54, .ref 27]) (z' := zP) rfl trivial ?_
        refine ww_callVEi xCC okX5_howManyFit 17 (ix := 200) (t_X0_firstOtherwise l d p (xPull esHS3 zP) (sLay r g p v) cnt tc (RX_pull (by decide) hrP) hLP.2.1 (TX_pull (by decide) htP) n it hn ((congrFun (hkP 54 (by decide)) 1).trans h48) (fun i hi => (congrFun (hkP 55 (by decide)) i).trans (hit i hi)) (by omega)) (by omega) (by decide) xyX0_firstOtherwise xiX0_firstOtherwise (Or.inr (List.mem_of_getElem? (i := 696) (by decide +kernel))) (by decide +kernel) (by decide) (fun q => by cases q) (q0 := 27) rfl rfl rfl rfl (rest := []) rfl (Nat.le_of_ble_eq_true rfl) rfl (fun vcO zcO hcO => ?_)
        have hkO := KU_esHS3_KN (rw := xHasRaw shRS) hcO.2
        obtain ⟨zO, hzO⟩ : ∃ y, y = xBack esHS3 (xHasRaw shRS) zP zcO := ⟨_, rfl⟩
        rw [← hzO] at hkO ⊢
        rw [hcO.1]
        have hrO := RX_U hkO (by decide) hrP
        have hkk := KU_tr hkP (KU_mo hkO (by decide))
        refine ww_blk xCC okX5_howManyFit 18 1 (ps := []) (pc' := 34) (lv' := [(5, .int (nI v)), (4, .int (nI (sCt (sFt tc r g p it n) v))), (0, .ref 0), (1, .ref 54), (2, .int (nI p)), (3, .int (nI u))]) (st' := [.int (-1), .int (cI (sF1 (sOt tc (sLay r g p v) p it) n))]) (z' := zO) rfl trivial ?_
        refine ww_br xCC okX5_howManyFit 19 (P := (cI (sF1 (sOt tc (sLay r g p v) p it) n)) = (-1)) (t1 := 37) (t2 := 40) (r := []) rfl (fun c5 => ?_) (fun c5 => ?_)
        · skip
          have hf : sFt tc r g p it n v = true := by unfold sFt; exact decide_eq_true (cI_m (by have := sF1_k (sOt tc (sLay r g p v) p it) n; omega) c5)
          refine ww_blk xCC okX5_howManyFit 20 3 (ps := []) (pc' := 6) (lv' := [(5, .int ((nI v) + 1)), (4, .int ((nI (sCt (sFt tc r g p it n) v)) + 1)), (0, .ref 0), (1, .ref 54), (2, .int (nI p)), (3, .int (nI u))]) (st' := []) (z' := zO) rfl trivial ?_
          rw [show nI v + (1 : Int32) = nI (v + 1) from nI_add v 1]
          rw [show nI (sCt (sFt tc r g p it n) v) + (1 : Int32) = nI ((sCt (sFt tc r g p it n) v) + 1) from nI_add (sCt (sFt tc r g p it n) v) 1]
          exact ww_cut [0, 1, 2, 3, 4, 5] (xlc rfl (xlc (congrArg Value.int (show (nI ((sCt (sFt tc r g p it n) v) + 1) : Int32) = nI (sCt (sFt tc r g p it n) (v + 1)) from (ct_1 hf))) (xlc rfl (xlc rfl (xlc rfl (xlc rfl rfl)))))) rfl rfl (ih6 (v + 1) (sLay r g p v) zO (by omega) hrO hLP hkk (by omega))
        · skip
          have hf : sFt tc r g p it n v = false := by unfold sFt; exact decide_eq_false (cI_nm c5)
          refine ww_blk xCC okX5_howManyFit 21 2 (ps := []) (pc' := 6) (lv' := [(5, .int ((nI v) + 1)), (4, .int (nI (sCt (sFt tc r g p it n) v))), (0, .ref 0), (1, .ref 54), (2, .int (nI p)), (3, .int (nI u))]) (st' := []) (z' := zO) rfl trivial ?_
          rw [show nI v + (1 : Int32) = nI (v + 1) from nI_add v 1]
          exact ww_cut [0, 1, 2, 3, 4, 5] (xlc rfl (xlc (congrArg Value.int (show (nI (sCt (sFt tc r g p it n) v) : Int32) = nI (sCt (sFt tc r g p it n) (v + 1)) from (ct_0 hf))) (xlc rfl (xlc rfl (xlc rfl (xlc rfl rfl)))))) rfl rfl (ih6 (v + 1) (sLay r g p v) zO (by omega) hrO hLP hkk (by omega))
  exact ww_cut [0, 1, 2, 3, 4, 5] (xlc (congrArg Value.int (show (0 : Int32) = nI 0 from rfl)) (xlc (congrArg Value.int (show (0 : Int32) = nI (sCt (sFt tc r g p it n) 0) from rfl)) (xlc rfl (xlc rfl (xlc rfl (xlc rfl rfl)))))) rfl rfl (L6 (100 - 0 + 1) 0 r z (Nat.lt_succ_self _) hr (LK_0 hw hS hZ) (KU_rf z) (by omega))

set_option maxHeartbeats 4000000 in
set_option maxRecDepth 20000 in
theorem t_X5_leastFitting_3 (l : Launch) (d : Nat) (z : xMem) (r : sR) (cnt : Nat) (tc : Nat → sTc) (hr : RX z 27 r) (hw : sW r cnt) (ht : TX z 1 cnt tc) (hS : sSub r) (hZ : sZ r) (n : Nat) (it : Nat → Int32) (hn : n ≤ 10) (h48 : z.1 54 1 = nI n) (hit : ∀ i, i < n → z.1 55 i = it i) (u g p : Nat)  (hug : (if u = 13 then 9 else u) = g) (hu : u ≤ 8 ∨ u = 13) (hg : g = 2 ∨ g = 5 ∨ g = 7 ∨ g = 8 ∨ g = 9) (hI : u = 13 ∨ sIs (r 7 4) (nI p) u) (hp : p < r 7 4) (hB : ∀ v, v < 100 → v ≤ sLst g cnt) : XMi l (d + 6) yX5_leastFitting cX5_leastFitting 5 (some .int) shX [.ref 0, .ref 54, .int (nI p), .int (nI u)] z (fun v9 z' => v9 = cI (sF1 (sFt tc r g p it n) 100) ∧ TH z' ∧ KU UH z z') := by
  refine XM.of (by decide) (Nat.le_of_ble_eq_true rfl) (fun xp xe xs xm xar xbl xme xc xD xcs xad xAA xCC xhr => ?_)
  generalize xhQ : MQ xbl _ xar xs 0 0 xAA = xQ
  show ww xp l xe (xRm (d + 6)) xs xm xar xbl xme xc 5 xD xcs xad shX xAA xQ 0 [(0, .ref 0), (1, .ref 54), (2, .int (nI p)), (3, .int (nI u))] [] z
  have h74 : r 7 4 ≤ 4 := hw.2.2.2.2.2.2.1
  have hl99 := sLst_le g cnt ht.2.2.1
  refine ww_blk xCC okX5_leastFitting 0 2 (ps := []) (pc' := 3) (lv' := [(4, .int 0), (0, .ref 0), (1, .ref 54), (2, .int (nI p)), (3, .int (nI u))]) (st' := []) (z' := z) rfl trivial ?_
  have L3 : ∀ (n3 : Nat) (v : Nat) (rq : sR) (zL : xMem), 100 - v < n3 → (RX zL 27 rq) → (LK r rq g p cnt) → (KU UH z zL) → (v ≤ 100) → (sF1 (sFt tc r g p it n) v = 0) → ww xp l xe (xRm (d + 6)) xs xm xar xbl xme xc 5 xD xcs xad shX xAA xQ 3 [(4, .int (nI v)), (0, .ref 0), (1, .ref 54), (2, .int (nI p)), (3, .int (nI u))] [] zL := by
    intro n3
    induction n3 with
    | zero =>
      intro v rq zL hmu3
      exact absurd hmu3 (Nat.not_lt_zero _)
    | succ n3 ih3 =>
      intro v rq zL hmu3 e3_0 e3_1 e3_2 e3_3 e3_4
      have hrL := e3_0
      have hLK := e3_1
      refine ww_blk xCC okX5_leastFitting 2 2 (ps := []) (pc' := 7) (lv' := [(4, .int (nI v)), (0, .ref 0), (1, .ref 54), (2, .int (nI p)), (3, .int (nI u))]) (st' := [.int 100, .int (nI v)]) (z' := zL) rfl trivial ?_
      refine ww_br xCC okX5_leastFitting 4 (P := 100 ≤ (nI v)) (t1 := 43) (t2 := 10) (r := []) rfl (fun c1 => ?_) (fun c1 => ?_)
      · skip
        replace c1 : 100 ≤ v := (sLE (a := 100) (b := v) (by omega) (by omega)).mp c1
        refine ww_blk xCC okX5_leastFitting 22 1 (ps := []) (pc' := 44) (lv' := [(4, .int (nI v)), (0, .ref 0), (1, .ref 54), (2, .int (nI p)), (3, .int (nI u))]) (st' := [.int (-1)]) (z' := zL) rfl trivial ?_
        subst xhQ
        exact ww_iret xCC okX5_leastFitting 23 xhr rfl rfl ⟨_, rfl, ⟨(by rw [show v = 100 by omega] at e3_4; rw [e3_4]; rfl), ⟨rq, hrL, hLK.2.2.2.1⟩, e3_2⟩⟩
      · skip
        replace c1 : ¬ 100 ≤ v := fun q => c1 ((sLE (a := 100) (b := v) (by omega) (by omega)).mpr q)
        refine ww_blk xCC okX5_leastFitting 5 5 (ps := []) (pc' := 18) (lv' := [(4, .int (nI v)), (0, .ref 0), (1, .ref 54), (2, .int (nI p)), (3, .int (nI u))]) (st' := [.int (nI v), .int (nI u), .int (nI p), .ref 27]) (z' := zL) rfl trivial ?_
        refine ww_callVEv xCC okX5_leastFitting 10 (ix := 71) (t_X0_put l d u v (nI p) (xPull esH zL) rq cnt (RX_pull (by decide) hrL) hLK.2.1 hLK.2.2.1 (by omega) hu (by rw [hLK.2.2.2.2]; exact hI)) (by omega) (by decide) xyX0_put xiX0_put (Or.inr (List.mem_of_getElem? (i := 396) (by decide +kernel))) (by decide +kernel) (by decide) (fun q => by cases q) (q0 := 27) rfl rfl rfl rfl (rest := []) rfl (Nat.le_of_ble_eq_true rfl) rfl (fun zcP hcP => ?_)
        have hkP := KU_esH_KQ (rw := xHasRaw shR) hcP.2
        obtain ⟨zP, hzP⟩ : ∃ y, y = xBack esH (xHasRaw shR) zL zcP := ⟨_, rfl⟩
        rw [← hzP] at hkP ⊢
        have hrP := RX_back (es := esH) (rw := xHasRaw shR) (z := zL) (b := 27) (by decide) hcP.1
        rw [← hzP, hug, sTN (by omega), hLK.1] at hrP
        have hkP := KU_tr e3_2 hkP
        have htP := TX_U hkP (by decide) ht
        have hLP := LK_s hLK hw hZ hS hg (hB v (by omega)) hp ht.2.1
        refine ww_blk xCC okX5_leastFitting 11 4 (ps := []) (pc' := 27) (lv' := [(4, .int (nI v)), (0, .ref 0), (1, .ref 54), (2, .int (nI p)), (3, .int (nI u))]) (st' := [.int (nI p), .ref 54, .ref 27]) (z' := zP) rfl trivial ?_
        refine ww_callVEi xCC okX5_leastFitting 15 (ix := 200) (t_X0_firstOtherwise l d p (xPull esHS3 zP) (sLay r g p v) cnt tc (RX_pull (by decide) hrP) hLP.2.1 (TX_pull (by decide) htP) n it hn ((congrFun (hkP 54 (by decide)) 1).trans h48) (fun i hi => (congrFun (hkP 55 (by decide)) i).trans (hit i hi)) (by omega)) (by omega) (by decide) xyX0_firstOtherwise xiX0_firstOtherwise (Or.inr (List.mem_of_getElem? (i := 696) (by decide +kernel))) (by decide +kernel) (by decide) (fun q => by cases q) (q0 := 27) rfl rfl rfl rfl (rest := []) rfl (Nat.le_of_ble_eq_true rfl) rfl (fun vcO zcO hcO => ?_)
        have hkO := KU_esHS3_KN (rw := xHasRaw shRS) hcO.2
        obtain ⟨zO, hzO⟩ : ∃ y, y = xBack esHS3 (xHasRaw shRS) zP zcO := ⟨_, rfl⟩
        rw [← hzO] at hkO ⊢
        rw [hcO.1]
        have hrO := RX_U hkO (by decide) hrP
        have hkk := KU_tr hkP (KU_mo hkO (by decide))
        refine ww_blk xCC okX5_leastFitting 16 1 (ps := []) (pc' := 31) (lv' := [(4, .int (nI v)), (0, .ref 0), (1, .ref 54), (2, .int (nI p)), (3, .int (nI u))]) (st' := [.int (-1), .int (cI (sF1 (sOt tc (sLay r g p v) p it) n))]) (z' := zO) rfl trivial ?_
        refine ww_br xCC okX5_leastFitting 17 (P := (cI (sF1 (sOt tc (sLay r g p v) p it) n)) = (-1)) (t1 := 34) (t2 := 37) (r := []) rfl (fun c5 => ?_) (fun c5 => ?_)
        · skip
          have hf : sFt tc r g p it n v = true := by unfold sFt; exact decide_eq_true (cI_m (by have := sF1_k (sOt tc (sLay r g p v) p it) n; omega) c5)
          refine ww_blk xCC okX5_leastFitting 18 1 (ps := []) (pc' := 36) (lv' := [(4, .int (nI v)), (0, .ref 0), (1, .ref 54), (2, .int (nI p)), (3, .int (nI u))]) (st' := [.int (nI v)]) (z' := zO) rfl trivial ?_
          subst xhQ
          exact ww_iret xCC okX5_leastFitting 19 xhr rfl rfl ⟨_, rfl, ⟨(by rw [sF1_at e3_4 (show v < 100 by omega) hf]; exact cI_s v), ⟨_, hrO, hLP.2.2.2.1⟩, hkk⟩⟩
        · skip
          have hf : sFt tc r g p it n v = false := by unfold sFt; exact decide_eq_false (cI_nm c5)
          refine ww_blk xCC okX5_leastFitting 20 2 (ps := []) (pc' := 3) (lv' := [(4, .int ((nI v) + 1)), (0, .ref 0), (1, .ref 54), (2, .int (nI p)), (3, .int (nI u))]) (st' := []) (z' := zO) rfl trivial ?_
          rw [show nI v + (1 : Int32) = nI (v + 1) from nI_add v 1]
          exact ww_cut [0, 1, 2, 3, 4] (xlc rfl (xlc rfl (xlc rfl (xlc rfl (xlc rfl rfl))))) rfl rfl (ih3 (v + 1) (sLay r g p v) zO (by omega) hrO hLP hkk (by omega) (sF1_n e3_4 hf))
  exact ww_cut [0, 1, 2, 3, 4] (xlc (congrArg Value.int (show (0 : Int32) = nI 0 from rfl)) (xlc rfl (xlc rfl (xlc rfl (xlc rfl rfl))))) rfl rfl (L3 (100 - 0 + 1) 0 r z (Nat.lt_succ_self _) hr (LK_0 hw hS hZ) (KU_rf z) (by omega) rfl)
