/-! the class's reads -/
theorem ww_putq {p : Program} {l : Launch} {e : Env} {R : Room} {s : State} {m : MethodId} {args : Array Value} {below : List Frame} {meth : Method} {c : Code} {own : String} {cc : ByteArray} {nL : Nat} {D : va_G} {cs : Nat → ClassId} {ad : Nat → Nat} {A : Nat → Prop} {Q : State → Prop}
    (C : xC p R s m args meth c own cc nL D cs ad shT A) {K : List xI} (hK : K.all (xOk own cc) = true) (a9 : Nat) {ix w : Nat} {v : Int32} {u : Int64} {pc : Nat} {lv : xLv} {r : List Value} {z : xMem} (h0 : K[a9]? = some (pc, .putfield ix, (w, 3, 5, 9), v, u))
    (k : ww p l e R s m args below meth c nL D cs ad shT2 A Q (pc + 3) lv r z) : ww p l e R s m args below meth c nL D cs ad shT A Q pc lv (.ref 2 :: .ref 0 :: r) z := by
  have hd := xK_d hK h0
  have hok := xOk_i (List.all_eq_true.mp hK _ (List.mem_of_getElem? h0))
  obtain ⟨hx, hb, hml, hown, hts, hlk, hKK, hi1, hi2, hA, hE, hR⟩ := C
  dsimp only at hd hok
  simp only [xOkI] at hok
  obtain ⟨Cn, T, N, hcl⟩ : ∃ Cn T N, classes[3]? = some (Cn, T, N) := ⟨_, _, _, rfl⟩
  rw [hcl] at hok
  simp only [Bool.and_eq_true, Bool.or_eq_true, decide_eq_true_eq, Bool.not_eq_true'] at hok
  obtain ⟨⟨⟨hbN, hw⟩, hfin⟩, hty⟩ := hok
  obtain ⟨hu, ⟨ty, htyok⟩, hnm⟩ := lw_cls hcl
  intro H locs ls hP hS hl
  have hD : va_D A (xW ad cs z 0 shT) := xW_D hi1 hi2
  have hset : (xW ad cs z 0 shT).set 0 (ad 0, .inr (3, (xFs (xV ad z 0) 0 [5, 0, 0, 0, 0, 2, 0]).set 5 (.ref (ad 2)))) = xW ad cs z 0 shT2 := rfl
  have kk2 : ∀ (H1 : Heap) (locs1 : List Loc), va_P D classes ((xW ad cs z 0 shT).set 0 (ad 0, .inr (3, (xFs (xV ad z 0) 0 [5, 0, 0, 0, 0, 2, 0]).set 5 (.ref (ad 2))))) H1 → va_D A ((xW ad cs z 0 shT).set 0 (ad 0, .inr (3, (xFs (xV ad z 0) 0 [5, 0, 0, 0, 0, 2, 0]).set 5 (.ref (ad 2))))) → va_S A s.heap H1 locs1 → W p l e R s m args below meth c H1 locs1 0 0 Q (F0 m (pc + 3) ls (r.map (xR ad))) := by
    intro H1 locs1 hP1 _ hS1
    rw [hset] at hP1
    exact k H1 locs1 ls hP1 hS1 hl
  show W p l e R s m args below meth c H locs 0 0 Q (F0 m pc ls (.ref (ad 2) :: .ref (ad 0) :: r.map (xR ad)))
  rcases hw with hw | hw
  · exact va_put (D := D) (C := Cn) (T := T) (N := N) (ci := 3) hx hb hts hu ty htyok hnm hown hKK hP hD hS 0 (xW_at (rfl : shT[0]? = _)) hcl 5 hbN (hts _ (lw_mem hw rfl)) (fun _ h9 => h9) hfin hty rfl rfl (by rw [xFs_len]; decide) hd kk2
  · exact va_putN (D := D) (C := Cn) (T := T) (N := N) (ci := 3) hx hb hts hu ty htyok hnm hown hKK hP hD hS 0 (xW_at (rfl : shT[0]? = _)) hcl 5 hbN (va_Nw.use rfl (hE.2.2.2.2.1 _ (List.mem_of_getElem? hw) rfl)) (fun _ h9 => h9) hfin hty rfl rfl (by rw [xFs_len]; decide) hd kk2
theorem xC_T2 {p : Program} {R : Room} {s : State} {m : MethodId} {args : Array Value} {meth : Method} {c : Code} {own : String} {cc : ByteArray} {nL : Nat} {D : va_G} {cs : Nat → ClassId} {ad : Nat → Nat} {A : Nat → Prop} (C : xC p R s m args meth c own cc nL D cs ad shT A) : xC p R s m args meth c own cc nL D cs ad shT2 A := C
theorem ww_T2 {p : Program} {l : Launch} {e : Env} {R : Room} {s : State} {m : MethodId} {args : Array Value} {below : List Frame} {meth : Method} {c : Code} {nL : Nat} {D : va_G} {cs : Nat → ClassId} {ad : Nat → Nat} {A : Nat → Prop} {Q : State → Prop} {pc : Nat} {lv : xLv} {st : List Value} {z : xMem}
    (k : ww p l e R s m args below meth c nL D cs ad shT A Q pc lv st (z.1, z.2.1, .ref (ad 2))) : ww p l e R s m args below meth c nL D cs ad shT2 A Q pc lv st z := k
/-- nothing changed of the bytes -/
def KD (z z' : xMem) : Prop := z'.1 1 = z.1 1 ∧ ∀ j, j < 2 → z'.1 0 j = z.1 0 j
theorem KD_tr {a b c : xMem} (h1 : KD a b) (h2 : KD b c) : KD a c := ⟨h2.1.trans h1.1, fun j h => (h2.2 j h).trans (h1.2 j h)⟩
theorem KD_C {a b : xMem} (h : KC a b) : KD a b := ⟨h.1 1 (by decide) (by decide), h.2⟩
theorem KD_e {a b : xMem} {j : Nat} {x : Int32} (h : KD a b) : KD a (mPut b 3 j x) := ⟨(mPut_nq (by decide)).trans h.1, fun j hj => (congrFun (mPut_nq (by decide)) j).trans (h.2 j hj)⟩
theorem TQ_r {z : xMem} {n : Nat} {bt : Nat → Nat} {x y : Int32} (h : TQ z n bt) : TQ (mPut (mPut z 0 6 x) 0 3 y) n bt := by
  obtain ⟨a1, a2, a3, a4⟩ := h
  refine ⟨?_, a2, fun i hi => ?_, a4⟩
  · simp [mPut_rd, a1]
  · simp [mPut_rd, a3 i hi]
theorem gX_00 {z z' : xMem} {n : Nat} {bt : Nat → Nat} {y : Int32} (h : TQ z n bt) (hs : tkX z' bt n 0 ∧ K3 (mPut (mPut z 0 6 0) 0 3 y) z') : gX z' bt n 0 [] :=
  ⟨TQ_K hs.2 (TQ_r h), hs.1, Nat.zero_le _, ⟨(hs.2.2 6 (by omega)).trans ((mPut_nj (by decide)).trans mPut_at), fun i hi => absurd hi (Nat.not_lt_zero i)⟩, Nat.le_refl _⟩
theorem KD_0 {z z' : xMem} {x y : Int32} (hs : K3 (mPut (mPut z 0 6 x) 0 3 y) z') : KD z z' := by
  refine ⟨(hs.1 1 (by decide)).trans ((mPut_nq (by decide)).trans (mPut_nq (by decide))), fun j hj => ?_⟩
  rw [hs.2 j (by omega), mPut_nj (by omega), mPut_nj (by omega)]
theorem gX_e {z : xMem} {bt : Nat → Nat} {n pos j : Nat} {ws : List Nat} {x : Int32} (h : gX z bt n pos ws) : gX (mPut z 3 j x) bt n pos ws := by
  obtain ⟨⟨a1, a2, a3, a4⟩, ⟨b1, b2, b3⟩, hp, ⟨c1, c2⟩, hl0⟩ := h
  refine ⟨⟨?_, a2, fun i hi => ?_, a4⟩, ⟨?_, ?_, ?_⟩, hp, ⟨?_, fun i hi => ?_⟩, hl0⟩
  · simp [mPut_rd, a1]
  · simp [mPut_rd, a3 i hi]
  · simp [mPut_rd, b1]
  · simp [mPut_rd, b2]
  · simp [mPut_rd, b3]
  · simp [mPut_rd, c1]
  · simp [mPut_rd]; simpa using c2 i hi
theorem TXk_r {z : xMem} {bt : Nat → Nat} {n p3 : Nat} {x1 x2 x3 : List Nat} (h : gX z bt n p3 (x1 ++ x2 ++ x3)) (hn : n ≤ 160) (h0 : z.1 3 0 = nI x1.length) (h1 : z.1 3 1 = nI (x1 ++ x2).length) (h2 : z.1 3 2 = nI (x1 ++ x2 ++ x3).length) (hok : tOk x1 ∧ tOk x2 ∧ tOk x3) : TXk z 2 3 (x1, x2, x3) := by
  have hl := h.2.2.2.2
  have hp := h.2.2.1
  simp only [List.length_append] at hl h1 h2
  refine ⟨h0, h1, h2, by show x1.length + x2.length + x3.length ≤ 160; omega, fun i hi => ?_, hok⟩
  have hi : i < x1.length + x2.length + x3.length := hi
  have q := h.2.2.2.1.2 i (by simp only [List.length_append]; omega)
  rw [q, List.append_assoc]
set_option maxHeartbeats 4000000 in
set_option maxRecDepth 20000 in
theorem t_X3_reads (l : Launch) (d : Nat) (z : xMem) (n : Nat) (bt : Nat → Nat) (hQ : TQ z n bt) (tag : Nat) (f1 f2 f3 : List Nat) (p : Nat) (hT : pTx bt n 300 = (tag, (f1, f2, f3), p)) (ht : tag ≠ 0) : XMz l (d + 310) yX3_reads cX3_reads 4 (some .boolean) shT [.ref 0, .ref 2, .ref 3] z (fun z' => tag = 1 ∧ TXk z' 2 3 (f1, f2, f3) ∧ KD z z') (fun z' => tag = 2 ∧ z'.1 0 2 = nI p ∧ KD z z') := by
  obtain ⟨t1, x1, p1, hP1, htP1, hcP1⟩ := pTx_of hT ht
  have htlx0 := pTok_lt bt n 0
  refine XM.of (by decide) (Nat.le_of_ble_eq_true rfl) (fun xp xe xs xm xar xbl xme xc xD xcs xad xAA xCC0 xhr => ?_)
  generalize xhQ : MQ xbl _ xar xs 0 0 xAA = xQ
  have xCC := xC_T2 xCC0
  show ww xp l xe (xRm (d + 310)) xs xm xar xbl xme xc 4 xD xcs xad shT xAA xQ 0 [(0, .ref 0), (1, .ref 2), (2, .ref 3)] [] z
  refine ww_blk xCC0 okX3_reads 0 2 (ps := []) (pc' := 2) (lv' := [(0, .ref 0), (1, .ref 2), (2, .ref 3)]) (st' := [.ref 2, .ref 0]) (z' := z) rfl trivial ?_
  refine ww_putq xCC0 okX3_reads 2 rfl ?_
  show ww xp l xe (xRm (d + 310)) xs xm xar xbl xme xc 4 xD xcs xad shT2 xAA xQ 5 [(0, .ref 0), (1, .ref 2), (2, .ref 3)] [] z
  refine ww_blk xCC okX3_reads 3 7 (ps := []) (pc' := 16) (lv' := [(0, .ref 0), (1, .ref 2), (2, .ref 3)]) (st' := [.ref 0]) (z' := (mPut (mPut z 0 6 0) 0 3 0)) rfl trivial ?_
  refine ww_callVIv xCC okX3_reads 10 (ix := 28) (t_X3_step l (d + 300) n 0 bt (mPut (mPut z 0 6 0) 0 3 0) (TQ_r hQ) (by simp [mPut_rd]; rfl) (Nat.zero_le _)) (by omega) (by decide) xyX3_step xiX3_step (Or.inl (lw_gt_of (List.mem_of_getElem? (i := 448) (by decide +kernel)) rfl)) rfl rfl rfl (rest := []) rfl (Nat.le_of_ble_eq_true rfl) rfl (fun zA hA => ?_)
  have hG0 : gX zA bt n 0 [] := gX_00 hQ hA
  have hK0 : KD z zA := KD_0 hA.2
  refine ww_blk xCC okX3_reads 11 4 (ps := []) (pc' := 23) (lv' := [(3, .int 0), (0, .ref 0), (1, .ref 2), (2, .ref 3)]) (st' := [.int 3, .int 0]) (z' := zA) rfl trivial ?_
  refine ww_br xCC okX3_reads 15 (P := 3 ≤ 0) (t1 := 81) (t2 := 26) (r := []) rfl (fun q => absurd q (by decide)) (fun _ => ?_)
  refine ww_blk xCC okX3_reads 16 5 (ps := []) (pc' := 35) (lv' := [(3, .int 0), (0, .ref 0), (1, .ref 2), (2, .ref 3)]) (st' := [.int (10015 + 0), .int (zA.1 0 4)]) (z' := zA) rfl trivial ?_
  rw [show (10015 : Int32) + 0 = 10015 from rfl]
  rw [show zA.1 0 4 = nI (pTok bt n 0).1 from hG0.2.1.2.2]
  refine ww_br xCC okX3_reads 21 (P := (nI ((pTok bt n 0).1)) = 10015) (t1 := 40) (t2 := 38) (r := []) rfl (fun c3 => ?_) (fun c3 => ?_)
  · skip
    replace c3 : ((pTok bt n 0).1) = 10015 := (sEQ (a := ((pTok bt n 0).1)) (b := 10015) (by omega) (by omega)).mp c3
    have hop1 : (pTok bt n 0).1 = 10015 := by omega
    refine ww_blk xCC okX3_reads 24 1 (ps := []) (pc' := 41) (lv' := [(3, .int 0), (0, .ref 0), (1, .ref 2), (2, .ref 3)]) (st' := [.ref 0]) (z' := zA) rfl trivial ?_
    refine ww_callVIv xCC okX3_reads 25 (ix := 28) (t_X3_step l (d + 300) n _ bt zA hG0.1 hG0.2.1.2.1 (pTok_le hG0.2.2.1).1) (by omega) (by decide) xyX3_step xiX3_step (Or.inl (lw_gt_of (List.mem_of_getElem? (i := 448) (by decide +kernel)) rfl)) rfl rfl rfl (rest := []) rfl (Nat.le_of_ble_eq_true rfl) rfl (fun zS0 hS0 => ?_)
    have hGS0 := gX_step hG0 hS0
    have hKS0 := KC_3 hS0.2
    refine ww_blk xCC okX3_reads 26 2 (ps := []) (pc' := 46) (lv' := [(3, .int 0), (0, .ref 0), (1, .ref 2), (2, .ref 3)]) (st' := [.int 0, .ref 0]) (z' := zS0) rfl trivial ?_
    obtain ⟨u1, y1, q1, hu1, htu1, hcu1⟩ := pPt_key hP1 htP1 hop1
    refine ww_callVIz xCC okX3_reads 28 (ix := 34) ((x_all l bt n 300).1 d zS0 0 (pTok bt n 0).2.2 ([] : List Nat) u1 y1 q1 hGS0 hu1 htu1 (by decide)) (by omega) (by decide) xyX3_either xiX3_either (Or.inl (lw_gt_of (List.mem_of_getElem? (i := 534) (by decide +kernel)) rfl)) rfl rfl rfl (rest := []) rfl (Nat.le_of_ble_eq_true rfl) rfl (fun zB0 hB0 => ?_) (fun zB0 hB0 => ?_)
    · skip
      obtain ⟨-, hcw1⟩ := hcu1.resolve_left (fun q => absurd (hB0.1.symm.trans q.1) (by decide))
      have hGB0 : gX zB0 bt n q1 (([] : List Nat) ++ y1) := hB0.2.1
      have hKB0 := KC_tr hKS0 hB0.2.2
      have htl1 := pTok_lt bt n q1
      refine ww_br xCC okX3_reads 29 (P := 1 = 0) (t1 := 62) (t2 := 52) (r := []) rfl (fun q => absurd q (by decide)) (fun _ => ?_)
      refine ww_blk xCC okX3_reads 30 3 (ps := []) (pc' := 59) (lv' := [(3, .int 0), (0, .ref 0), (1, .ref 2), (2, .ref 3)]) (st' := [.int 10020, .int (zB0.1 0 4)]) (z' := zB0) rfl trivial ?_
      rw [show zB0.1 0 4 = nI (pTok bt n q1).1 from hGB0.2.1.2.2]
      refine ww_br xCC okX3_reads 33 (P := (nI ((pTok bt n q1).1)) = 10020) (t1 := 64) (t2 := 62) (r := []) rfl (fun c6 => ?_) (fun c6 => ?_)
      · skip
        replace c6 : ((pTok bt n q1).1) = 10020 := (sEQ (a := ((pTok bt n q1).1)) (b := 10020) (by omega) (by omega)).mp c6
        obtain ⟨-, htk1, hxk1, hpk1⟩ := hcw1.resolve_right (fun q => by have := q.1; omega)
        refine ww_blk xCC okX3_reads 36 1 (ps := []) (pc' := 65) (lv' := [(3, .int 0), (0, .ref 0), (1, .ref 2), (2, .ref 3)]) (st' := [.ref 0]) (z' := zB0) rfl trivial ?_
        refine ww_callVIv xCC okX3_reads 37 (ix := 28) (t_X3_step l (d + 300) n _ bt zB0 hGB0.1 hGB0.2.1.2.1 (pTok_le hGB0.2.2.1).1) (by omega) (by decide) xyX3_step xiX3_step (Or.inl (lw_gt_of (List.mem_of_getElem? (i := 448) (by decide +kernel)) rfl)) rfl rfl rfl (rest := []) rfl (Nat.le_of_ble_eq_true rfl) rfl (fun zT0 hT0 => ?_)
        have hGT0 := gX_step hGB0 hT0
        have hKT0 := KC_tr hKB0 (KC_3 hT0.2)
        refine ww_blk xCC okX3_reads 38 5 (ps := [vp_in 0 3]) (pc' := 75) (lv' := [(3, .int 0), (0, .ref 0), (1, .ref 2), (2, .ref 3)]) (st' := []) (z' := (mPut zT0 3 0 (zT0.1 0 6))) rfl (show vp_in 0 3 from (by unfold vp_in; decide)) ?_
        rw [show zT0.1 0 6 = nI (([] : List Nat) ++ y1).length from hGT0.2.2.2.1.1]
        obtain ⟨z1, hz1⟩ : ∃ y, y = (mPut zT0 3 0 (nI ((([] : List Nat) ++ y1).length))) := ⟨_, rfl⟩
        rw [← hz1]
        have hG1 : gX z1 bt n p1 x1 := by rw [hz1, hpk1]; exact gX_e (by rw [hxk1]; exact hGT0)
        have hK1 : KD z z1 := by rw [hz1]; exact KD_e (KD_tr hK0 (KD_C hKT0))
        have hE1_0 : z1.1 3 0 = nI (x1).length := by rw [hz1]; exact mPut_at.trans (by rw [hxk1]; try rfl)
        obtain ⟨-, t2, x2, p2, hP2, htP2, hcP2⟩ := hcP1.resolve_left (fun q => absurd (htk1.symm.trans q.1) (by decide))
        have htlx1 := pTok_lt bt n p1
        refine ww_blk xCC okX3_reads 43 2 (ps := []) (pc' := 21) (lv' := [(3, .int (0 + 1)), (0, .ref 0), (1, .ref 2), (2, .ref 3)]) (st' := []) (z' := z1) rfl trivial ?_
        rw [show (0 : Int32) + 1 = 1 from rfl]
        refine ww_blk xCC okX3_reads 13 2 (ps := []) (pc' := 23) (lv' := [(3, .int 1), (0, .ref 0), (1, .ref 2), (2, .ref 3)]) (st' := [.int 3, .int 1]) (z' := z1) rfl trivial ?_
        refine ww_br xCC okX3_reads 15 (P := 3 ≤ 1) (t1 := 81) (t2 := 26) (r := []) rfl (fun q => absurd q (by decide)) (fun _ => ?_)
        refine ww_blk xCC okX3_reads 16 5 (ps := []) (pc' := 35) (lv' := [(3, .int 1), (0, .ref 0), (1, .ref 2), (2, .ref 3)]) (st' := [.int (10015 + 1), .int (z1.1 0 4)]) (z' := z1) rfl trivial ?_
        rw [show (10015 : Int32) + 1 = 10016 from rfl]
        rw [show z1.1 0 4 = nI (pTok bt n p1).1 from hG1.2.1.2.2]
        refine ww_br xCC okX3_reads 21 (P := (nI ((pTok bt n p1).1)) = 10016) (t1 := 40) (t2 := 38) (r := []) rfl (fun c9 => ?_) (fun c9 => ?_)
        · skip
          replace c9 : ((pTok bt n p1).1) = 10016 := (sEQ (a := ((pTok bt n p1).1)) (b := 10016) (by omega) (by omega)).mp c9
          have hop2 : (pTok bt n p1).1 = 10016 := by omega
          refine ww_blk xCC okX3_reads 24 1 (ps := []) (pc' := 41) (lv' := [(3, .int 1), (0, .ref 0), (1, .ref 2), (2, .ref 3)]) (st' := [.ref 0]) (z' := z1) rfl trivial ?_
          refine ww_callVIv xCC okX3_reads 25 (ix := 28) (t_X3_step l (d + 300) n _ bt z1 hG1.1 hG1.2.1.2.1 (pTok_le hG1.2.2.1).1) (by omega) (by decide) xyX3_step xiX3_step (Or.inl (lw_gt_of (List.mem_of_getElem? (i := 448) (by decide +kernel)) rfl)) rfl rfl rfl (rest := []) rfl (Nat.le_of_ble_eq_true rfl) rfl (fun zS1 hS1 => ?_)
          have hGS1 := gX_step hG1 hS1
          have hKS1 := KC_3 hS1.2
          refine ww_blk xCC okX3_reads 26 2 (ps := []) (pc' := 46) (lv' := [(3, .int 1), (0, .ref 0), (1, .ref 2), (2, .ref 3)]) (st' := [.int 0, .ref 0]) (z' := zS1) rfl trivial ?_
          obtain ⟨u2, y2, q2, hu2, htu2, hcu2⟩ := pPt_key hP2 htP2 hop2
          refine ww_callVIz xCC okX3_reads 28 (ix := 34) ((x_all l bt n 300).1 d zS1 0 (pTok bt n p1).2.2 x1 u2 y2 q2 hGS1 hu2 htu2 (by decide)) (by omega) (by decide) xyX3_either xiX3_either (Or.inl (lw_gt_of (List.mem_of_getElem? (i := 534) (by decide +kernel)) rfl)) rfl rfl rfl (rest := []) rfl (Nat.le_of_ble_eq_true rfl) rfl (fun zB1 hB1 => ?_) (fun zB1 hB1 => ?_)
          · skip
            obtain ⟨-, hcw2⟩ := hcu2.resolve_left (fun q => absurd (hB1.1.symm.trans q.1) (by decide))
            have hGB1 : gX zB1 bt n q2 (x1 ++ y2) := hB1.2.1
            have hKB1 := KC_tr hKS1 hB1.2.2
            have htl2 := pTok_lt bt n q2
            refine ww_br xCC okX3_reads 29 (P := 1 = 0) (t1 := 62) (t2 := 52) (r := []) rfl (fun q => absurd q (by decide)) (fun _ => ?_)
            refine ww_blk xCC okX3_reads 30 3 (ps := []) (pc' := 59) (lv' := [(3, .int 1), (0, .ref 0), (1, .ref 2), (2, .ref 3)]) (st' := [.int 10020, .int (zB1.1 0 4)]) (z' := zB1) rfl trivial ?_
            rw [show zB1.1 0 4 = nI (pTok bt n q2).1 from hGB1.2.1.2.2]
            refine ww_br xCC okX3_reads 33 (P := (nI ((pTok bt n q2).1)) = 10020) (t1 := 64) (t2 := 62) (r := []) rfl (fun c12 => ?_) (fun c12 => ?_)
            · skip
              replace c12 : ((pTok bt n q2).1) = 10020 := (sEQ (a := ((pTok bt n q2).1)) (b := 10020) (by omega) (by omega)).mp c12
              obtain ⟨-, htk2, hxk2, hpk2⟩ := hcw2.resolve_right (fun q => by have := q.1; omega)
              refine ww_blk xCC okX3_reads 36 1 (ps := []) (pc' := 65) (lv' := [(3, .int 1), (0, .ref 0), (1, .ref 2), (2, .ref 3)]) (st' := [.ref 0]) (z' := zB1) rfl trivial ?_
              refine ww_callVIv xCC okX3_reads 37 (ix := 28) (t_X3_step l (d + 300) n _ bt zB1 hGB1.1 hGB1.2.1.2.1 (pTok_le hGB1.2.2.1).1) (by omega) (by decide) xyX3_step xiX3_step (Or.inl (lw_gt_of (List.mem_of_getElem? (i := 448) (by decide +kernel)) rfl)) rfl rfl rfl (rest := []) rfl (Nat.le_of_ble_eq_true rfl) rfl (fun zT1 hT1 => ?_)
              have hGT1 := gX_step hGB1 hT1
              have hKT1 := KC_tr hKB1 (KC_3 hT1.2)
              refine ww_blk xCC okX3_reads 38 5 (ps := [vp_in 1 3]) (pc' := 75) (lv' := [(3, .int 1), (0, .ref 0), (1, .ref 2), (2, .ref 3)]) (st' := []) (z' := (mPut zT1 3 1 (zT1.1 0 6))) rfl (show vp_in 1 3 from (by unfold vp_in; decide)) ?_
              rw [show zT1.1 0 6 = nI (x1 ++ y2).length from hGT1.2.2.2.1.1]
              obtain ⟨z2, hz2⟩ : ∃ y, y = (mPut zT1 3 1 (nI ((x1 ++ y2).length))) := ⟨_, rfl⟩
              rw [← hz2]
              have hG2 : gX z2 bt n p2 (x1 ++ x2) := by rw [hz2, hpk2]; exact gX_e (by rw [hxk2]; exact hGT1)
              have hK2 : KD z z2 := by rw [hz2]; exact KD_e (KD_tr hK1 (KD_C hKT1))
              have hE2_1 : z2.1 3 1 = nI ((x1 ++ x2)).length := by rw [hz2]; exact mPut_at.trans (by rw [hxk2]; try rfl)
              have hE2_0 : z2.1 3 0 = nI (x1).length := by rw [hz2]; exact (mPut_nj (by decide)).trans ((congrFun (hKT1.1 3 (by decide) (by decide)) 0).trans hE1_0)
              obtain ⟨-, t3, x3, p3, hP3, htP3, hcP3⟩ := hcP2.resolve_left (fun q => absurd (htk2.symm.trans q.1) (by decide))
              have htlx2 := pTok_lt bt n p2
              refine ww_blk xCC okX3_reads 43 2 (ps := []) (pc' := 21) (lv' := [(3, .int (1 + 1)), (0, .ref 0), (1, .ref 2), (2, .ref 3)]) (st' := []) (z' := z2) rfl trivial ?_
              rw [show (1 : Int32) + 1 = 2 from rfl]
              refine ww_blk xCC okX3_reads 13 2 (ps := []) (pc' := 23) (lv' := [(3, .int 2), (0, .ref 0), (1, .ref 2), (2, .ref 3)]) (st' := [.int 3, .int 2]) (z' := z2) rfl trivial ?_
              refine ww_br xCC okX3_reads 15 (P := 3 ≤ 2) (t1 := 81) (t2 := 26) (r := []) rfl (fun q => absurd q (by decide)) (fun _ => ?_)
              refine ww_blk xCC okX3_reads 16 5 (ps := []) (pc' := 35) (lv' := [(3, .int 2), (0, .ref 0), (1, .ref 2), (2, .ref 3)]) (st' := [.int (10015 + 2), .int (z2.1 0 4)]) (z' := z2) rfl trivial ?_
              rw [show (10015 : Int32) + 2 = 10017 from rfl]
              rw [show z2.1 0 4 = nI (pTok bt n p2).1 from hG2.2.1.2.2]
              refine ww_br xCC okX3_reads 21 (P := (nI ((pTok bt n p2).1)) = 10017) (t1 := 40) (t2 := 38) (r := []) rfl (fun c15 => ?_) (fun c15 => ?_)
              · skip
                replace c15 : ((pTok bt n p2).1) = 10017 := (sEQ (a := ((pTok bt n p2).1)) (b := 10017) (by omega) (by omega)).mp c15
                have hop3 : (pTok bt n p2).1 = 10017 := by omega
                refine ww_blk xCC okX3_reads 24 1 (ps := []) (pc' := 41) (lv' := [(3, .int 2), (0, .ref 0), (1, .ref 2), (2, .ref 3)]) (st' := [.ref 0]) (z' := z2) rfl trivial ?_
                refine ww_callVIv xCC okX3_reads 25 (ix := 28) (t_X3_step l (d + 300) n _ bt z2 hG2.1 hG2.2.1.2.1 (pTok_le hG2.2.2.1).1) (by omega) (by decide) xyX3_step xiX3_step (Or.inl (lw_gt_of (List.mem_of_getElem? (i := 448) (by decide +kernel)) rfl)) rfl rfl rfl (rest := []) rfl (Nat.le_of_ble_eq_true rfl) rfl (fun zS2 hS2 => ?_)
                have hGS2 := gX_step hG2 hS2
                have hKS2 := KC_3 hS2.2
                refine ww_blk xCC okX3_reads 26 2 (ps := []) (pc' := 46) (lv' := [(3, .int 2), (0, .ref 0), (1, .ref 2), (2, .ref 3)]) (st' := [.int 0, .ref 0]) (z' := zS2) rfl trivial ?_
                obtain ⟨u3, y3, q3, hu3, htu3, hcu3⟩ := pPt_key hP3 htP3 hop3
                refine ww_callVIz xCC okX3_reads 28 (ix := 34) ((x_all l bt n 300).1 d zS2 0 (pTok bt n p2).2.2 (x1 ++ x2) u3 y3 q3 hGS2 hu3 htu3 (by decide)) (by omega) (by decide) xyX3_either xiX3_either (Or.inl (lw_gt_of (List.mem_of_getElem? (i := 534) (by decide +kernel)) rfl)) rfl rfl rfl (rest := []) rfl (Nat.le_of_ble_eq_true rfl) rfl (fun zB2 hB2 => ?_) (fun zB2 hB2 => ?_)
                · skip
                  obtain ⟨-, hcw3⟩ := hcu3.resolve_left (fun q => absurd (hB2.1.symm.trans q.1) (by decide))
                  have hGB2 : gX zB2 bt n q3 ((x1 ++ x2) ++ y3) := hB2.2.1
                  have hKB2 := KC_tr hKS2 hB2.2.2
                  have htl3 := pTok_lt bt n q3
                  refine ww_br xCC okX3_reads 29 (P := 1 = 0) (t1 := 62) (t2 := 52) (r := []) rfl (fun q => absurd q (by decide)) (fun _ => ?_)
                  refine ww_blk xCC okX3_reads 30 3 (ps := []) (pc' := 59) (lv' := [(3, .int 2), (0, .ref 0), (1, .ref 2), (2, .ref 3)]) (st' := [.int 10020, .int (zB2.1 0 4)]) (z' := zB2) rfl trivial ?_
                  rw [show zB2.1 0 4 = nI (pTok bt n q3).1 from hGB2.2.1.2.2]
                  refine ww_br xCC okX3_reads 33 (P := (nI ((pTok bt n q3).1)) = 10020) (t1 := 64) (t2 := 62) (r := []) rfl (fun c18 => ?_) (fun c18 => ?_)
                  · skip
                    replace c18 : ((pTok bt n q3).1) = 10020 := (sEQ (a := ((pTok bt n q3).1)) (b := 10020) (by omega) (by omega)).mp c18
                    obtain ⟨-, htk3, hxk3, hpk3⟩ := hcw3.resolve_right (fun q => by have := q.1; omega)
                    refine ww_blk xCC okX3_reads 36 1 (ps := []) (pc' := 65) (lv' := [(3, .int 2), (0, .ref 0), (1, .ref 2), (2, .ref 3)]) (st' := [.ref 0]) (z' := zB2) rfl trivial ?_
                    refine ww_callVIv xCC okX3_reads 37 (ix := 28) (t_X3_step l (d + 300) n _ bt zB2 hGB2.1 hGB2.2.1.2.1 (pTok_le hGB2.2.2.1).1) (by omega) (by decide) xyX3_step xiX3_step (Or.inl (lw_gt_of (List.mem_of_getElem? (i := 448) (by decide +kernel)) rfl)) rfl rfl rfl (rest := []) rfl (Nat.le_of_ble_eq_true rfl) rfl (fun zT2 hT2 => ?_)
                    have hGT2 := gX_step hGB2 hT2
                    have hKT2 := KC_tr hKB2 (KC_3 hT2.2)
                    refine ww_blk xCC okX3_reads 38 5 (ps := [vp_in 2 3]) (pc' := 75) (lv' := [(3, .int 2), (0, .ref 0), (1, .ref 2), (2, .ref 3)]) (st' := []) (z' := (mPut zT2 3 2 (zT2.1 0 6))) rfl (show vp_in 2 3 from (by unfold vp_in; decide)) ?_
                    rw [show zT2.1 0 6 = nI ((x1 ++ x2) ++ y3).length from hGT2.2.2.2.1.1]
                    obtain ⟨z3, hz3⟩ : ∃ y, y = (mPut zT2 3 2 (nI (((x1 ++ x2) ++ y3).length))) := ⟨_, rfl⟩
                    rw [← hz3]
                    have hG3 : gX z3 bt n p3 (x1 ++ x2 ++ x3) := by rw [hz3, hpk3]; exact gX_e (by rw [hxk3]; exact hGT2)
                    have hK3 : KD z z3 := by rw [hz3]; exact KD_e (KD_tr hK2 (KD_C hKT2))
                    have hE3_2 : z3.1 3 2 = nI ((x1 ++ x2 ++ x3)).length := by rw [hz3]; exact mPut_at.trans (by rw [hxk3]; try rfl)
                    have hE3_0 : z3.1 3 0 = nI (x1).length := by rw [hz3]; exact (mPut_nj (by decide)).trans ((congrFun (hKT2.1 3 (by decide) (by decide)) 0).trans hE2_0)
                    have hE3_1 : z3.1 3 1 = nI ((x1 ++ x2)).length := by rw [hz3]; exact (mPut_nj (by decide)).trans ((congrFun (hKT2.1 3 (by decide) (by decide)) 1).trans hE2_1)
                    obtain ⟨-, hcE⟩ := hcP3.resolve_left (fun q => absurd (htk3.symm.trans q.1) (by decide))
                    have htlx3 := pTok_lt bt n p3
                    refine ww_blk xCC okX3_reads 43 2 (ps := []) (pc' := 21) (lv' := [(3, .int (2 + 1)), (0, .ref 0), (1, .ref 2), (2, .ref 3)]) (st' := []) (z' := z3) rfl trivial ?_
                    rw [show (2 : Int32) + 1 = 3 from rfl]
                    refine ww_blk xCC okX3_reads 13 2 (ps := []) (pc' := 23) (lv' := [(3, .int 3), (0, .ref 0), (1, .ref 2), (2, .ref 3)]) (st' := [.int 3, .int 3]) (z' := z3) rfl trivial ?_
                    refine ww_br xCC okX3_reads 15 (P := 3 ≤ 3) (t1 := 81) (t2 := 26) (r := []) rfl (fun _ => ?_) (fun q => absurd (by decide) q)
                    refine ww_blk xCC okX3_reads 45 3 (ps := []) (pc' := 88) (lv' := [(3, .int 3), (0, .ref 0), (1, .ref 2), (2, .ref 3)]) (st' := [.int 10021, .int (z3.1 0 4)]) (z' := z3) rfl trivial ?_
                    rw [show z3.1 0 4 = nI (pTok bt n p3).1 from hG3.2.1.2.2]
                    refine ww_br xCC okX3_reads 48 (P := (nI ((pTok bt n p3).1)) = 10021) (t1 := 91) (t2 := 95) (r := []) rfl (fun c21 => ?_) (fun c21 => ?_)
                    · skip
                      replace c21 : ((pTok bt n p3).1) = 10021 := (sEQ (a := ((pTok bt n p3).1)) (b := 10021) (by omega) (by omega)).mp c21
                      obtain ⟨-, htag, e1, e2, e3⟩ := hcE.resolve_right (fun q => by have := q.1; omega)
                      refine ww_blk xCC okX3_reads 49 2 (ps := []) (pc' := 96) (lv' := [(3, .int 3), (0, .ref 0), (1, .ref 2), (2, .ref 3)]) (st' := [.int 1]) (z' := z3) rfl trivial ?_
                      refine ww_T2 ?_
                      subst xhQ
                      exact ww_iret xCC0 okX3_reads 52 xhr rfl (by decide) (Or.inl ⟨rfl, ⟨htag, (by have q := pTx_dp (show pTx bt n 300 = (1, (f1, f2, f3), p) by rw [hT, htag]); rw [e1, e2, e3] at q ⊢; exact TXk_r hG3 hQ.2.1 hE3_0 hE3_1 hE3_2 q : TXk z3 2 3 (f1, f2, f3)), hK3⟩⟩)
                    · skip
                      replace c21 : ¬ ((pTok bt n p3).1) = 10021 := fun q => c21 ((sEQ (a := ((pTok bt n p3).1)) (b := 10021) (by omega) (by omega)).mpr q)
                      obtain ⟨-, htag, hp⟩ := hcE.resolve_left (fun q => by have := q.1; omega)
                      refine ww_blk xCC okX3_reads 51 1 (ps := []) (pc' := 96) (lv' := [(3, .int 3), (0, .ref 0), (1, .ref 2), (2, .ref 3)]) (st' := [.int 0]) (z' := z3) rfl trivial ?_
                      refine ww_T2 ?_
                      subst xhQ
                      exact ww_iret xCC0 okX3_reads 52 xhr rfl (by decide) (Or.inr ⟨rfl, ⟨htag, (by rw [hp]; exact hG3.2.1.1), hK3⟩⟩)
                  · skip
                    replace c18 : ¬ ((pTok bt n q3).1) = 10020 := fun q => c18 ((sEQ (a := ((pTok bt n q3).1)) (b := 10020) (by omega) (by omega)).mpr q)
                    obtain ⟨-, htk, hpk⟩ := hcw3.resolve_left (fun q => by have := q.1; omega)
                    obtain ⟨-, htag, hp⟩ := hcP3.resolve_right (fun q => by have := q.1; omega)
                    refine ww_blk xCC okX3_reads 34 1 (ps := []) (pc' := 63) (lv' := [(3, .int 2), (0, .ref 0), (1, .ref 2), (2, .ref 3)]) (st' := [.int 0]) (z' := zB2) rfl trivial ?_
                    refine ww_T2 ?_
                    subst xhQ
                    exact ww_iret xCC0 okX3_reads 35 xhr rfl (by decide) (Or.inr ⟨rfl, ⟨htag, (by rw [hp, hpk]; exact hGB2.2.1.1), KD_tr hK2 (KD_C hKB2)⟩⟩)
                · skip
                  obtain ⟨-, htk, hpk⟩ := hcu3.resolve_right (fun q => absurd (hB2.1.symm.trans q.1) (by decide))
                  have hKB2 := KC_tr hKS2 hB2.2.2
                  refine ww_br xCC okX3_reads 29 (P := 0 = 0) (t1 := 62) (t2 := 52) (r := []) rfl (fun _ => ?_) (fun q => absurd (by decide) q)
                  obtain ⟨-, htag, hp⟩ := hcP3.resolve_right (fun q => by have := q.1; omega)
                  refine ww_blk xCC okX3_reads 34 1 (ps := []) (pc' := 63) (lv' := [(3, .int 2), (0, .ref 0), (1, .ref 2), (2, .ref 3)]) (st' := [.int 0]) (z' := zB2) rfl trivial ?_
                  refine ww_T2 ?_
                  subst xhQ
                  exact ww_iret xCC0 okX3_reads 35 xhr rfl (by decide) (Or.inr ⟨rfl, ⟨htag, (by rw [hp, hpk]; exact hB2.2.1), KD_tr hK2 (KD_C hKB2)⟩⟩)
              · skip
                replace c15 : ¬ ((pTok bt n p2).1) = 10017 := fun q => c15 ((sEQ (a := ((pTok bt n p2).1)) (b := 10017) (by omega) (by omega)).mpr q)
                have hno := pPt_no hP3 (show (pTok bt n p2).1 ≠ 10017 by omega)
                obtain ⟨-, htag, hp⟩ := hcP3.resolve_right (fun q => by have := q.1; omega)
                refine ww_blk xCC okX3_reads 22 1 (ps := []) (pc' := 39) (lv' := [(3, .int 2), (0, .ref 0), (1, .ref 2), (2, .ref 3)]) (st' := [.int 0]) (z' := z2) rfl trivial ?_
                refine ww_T2 ?_
                subst xhQ
                exact ww_iret xCC0 okX3_reads 23 xhr rfl (by decide) (Or.inr ⟨rfl, ⟨htag, (by rw [hp, hno.2]; exact hG2.2.1.1), hK2⟩⟩)
            · skip
              replace c12 : ¬ ((pTok bt n q2).1) = 10020 := fun q => c12 ((sEQ (a := ((pTok bt n q2).1)) (b := 10020) (by omega) (by omega)).mpr q)
              obtain ⟨-, htk, hpk⟩ := hcw2.resolve_left (fun q => by have := q.1; omega)
              obtain ⟨-, htag, hp⟩ := hcP2.resolve_right (fun q => by have := q.1; omega)
              refine ww_blk xCC okX3_reads 34 1 (ps := []) (pc' := 63) (lv' := [(3, .int 1), (0, .ref 0), (1, .ref 2), (2, .ref 3)]) (st' := [.int 0]) (z' := zB1) rfl trivial ?_
              refine ww_T2 ?_
              subst xhQ
              exact ww_iret xCC0 okX3_reads 35 xhr rfl (by decide) (Or.inr ⟨rfl, ⟨htag, (by rw [hp, hpk]; exact hGB1.2.1.1), KD_tr hK1 (KD_C hKB1)⟩⟩)
          · skip
            obtain ⟨-, htk, hpk⟩ := hcu2.resolve_right (fun q => absurd (hB1.1.symm.trans q.1) (by decide))
            have hKB1 := KC_tr hKS1 hB1.2.2
            refine ww_br xCC okX3_reads 29 (P := 0 = 0) (t1 := 62) (t2 := 52) (r := []) rfl (fun _ => ?_) (fun q => absurd (by decide) q)
            obtain ⟨-, htag, hp⟩ := hcP2.resolve_right (fun q => by have := q.1; omega)
            refine ww_blk xCC okX3_reads 34 1 (ps := []) (pc' := 63) (lv' := [(3, .int 1), (0, .ref 0), (1, .ref 2), (2, .ref 3)]) (st' := [.int 0]) (z' := zB1) rfl trivial ?_
            refine ww_T2 ?_
            subst xhQ
            exact ww_iret xCC0 okX3_reads 35 xhr rfl (by decide) (Or.inr ⟨rfl, ⟨htag, (by rw [hp, hpk]; exact hB1.2.1), KD_tr hK1 (KD_C hKB1)⟩⟩)
        · skip
          replace c9 : ¬ ((pTok bt n p1).1) = 10016 := fun q => c9 ((sEQ (a := ((pTok bt n p1).1)) (b := 10016) (by omega) (by omega)).mpr q)
          have hno := pPt_no hP2 (show (pTok bt n p1).1 ≠ 10016 by omega)
          obtain ⟨-, htag, hp⟩ := hcP2.resolve_right (fun q => by have := q.1; omega)
          refine ww_blk xCC okX3_reads 22 1 (ps := []) (pc' := 39) (lv' := [(3, .int 1), (0, .ref 0), (1, .ref 2), (2, .ref 3)]) (st' := [.int 0]) (z' := z1) rfl trivial ?_
          refine ww_T2 ?_
          subst xhQ
          exact ww_iret xCC0 okX3_reads 23 xhr rfl (by decide) (Or.inr ⟨rfl, ⟨htag, (by rw [hp, hno.2]; exact hG1.2.1.1), hK1⟩⟩)
      · skip
        replace c6 : ¬ ((pTok bt n q1).1) = 10020 := fun q => c6 ((sEQ (a := ((pTok bt n q1).1)) (b := 10020) (by omega) (by omega)).mpr q)
        obtain ⟨-, htk, hpk⟩ := hcw1.resolve_left (fun q => by have := q.1; omega)
        obtain ⟨-, htag, hp⟩ := hcP1.resolve_right (fun q => by have := q.1; omega)
        refine ww_blk xCC okX3_reads 34 1 (ps := []) (pc' := 63) (lv' := [(3, .int 0), (0, .ref 0), (1, .ref 2), (2, .ref 3)]) (st' := [.int 0]) (z' := zB0) rfl trivial ?_
        refine ww_T2 ?_
        subst xhQ
        exact ww_iret xCC0 okX3_reads 35 xhr rfl (by decide) (Or.inr ⟨rfl, ⟨htag, (by rw [hp, hpk]; exact hGB0.2.1.1), KD_tr hK0 (KD_C hKB0)⟩⟩)
    · skip
      obtain ⟨-, htk, hpk⟩ := hcu1.resolve_right (fun q => absurd (hB0.1.symm.trans q.1) (by decide))
      have hKB0 := KC_tr hKS0 hB0.2.2
      refine ww_br xCC okX3_reads 29 (P := 0 = 0) (t1 := 62) (t2 := 52) (r := []) rfl (fun _ => ?_) (fun q => absurd (by decide) q)
      obtain ⟨-, htag, hp⟩ := hcP1.resolve_right (fun q => by have := q.1; omega)
      refine ww_blk xCC okX3_reads 34 1 (ps := []) (pc' := 63) (lv' := [(3, .int 0), (0, .ref 0), (1, .ref 2), (2, .ref 3)]) (st' := [.int 0]) (z' := zB0) rfl trivial ?_
      refine ww_T2 ?_
      subst xhQ
      exact ww_iret xCC0 okX3_reads 35 xhr rfl (by decide) (Or.inr ⟨rfl, ⟨htag, (by rw [hp, hpk]; exact hB0.2.1), KD_tr hK0 (KD_C hKB0)⟩⟩)
  · skip
    replace c3 : ¬ ((pTok bt n 0).1) = 10015 := fun q => c3 ((sEQ (a := ((pTok bt n 0).1)) (b := 10015) (by omega) (by omega)).mpr q)
    have hno := pPt_no hP1 (show (pTok bt n 0).1 ≠ 10015 by omega)
    obtain ⟨-, htag, hp⟩ := hcP1.resolve_right (fun q => by have := q.1; omega)
    refine ww_blk xCC okX3_reads 22 1 (ps := []) (pc' := 39) (lv' := [(3, .int 0), (0, .ref 0), (1, .ref 2), (2, .ref 3)]) (st' := [.int 0]) (z' := zA) rfl trivial ?_
    refine ww_T2 ?_
    subst xhQ
    exact ww_iret xCC0 okX3_reads 23 xhr rfl (by decide) (Or.inr ⟨rfl, ⟨htag, (by rw [hp, hno.2]; exact hG0.2.1.1), hK0⟩⟩)
