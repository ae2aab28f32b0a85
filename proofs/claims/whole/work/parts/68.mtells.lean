/-! the model's tells -/
def sVr (u : Nat) : Nat := if u = 1 then 8 else if u = 2 then 5 else if u < 5 then 2 else if u < 7 then 7 else 9
def sVal (r : sR) (g o : Nat) : Nat := if g = 2 then r 7 2 else if g = 5 then r 4 o else if g = 7 then r 6 o else if g = 8 then r 3 o else r 7 5
def sLst (g cnt : Nat) : Nat := if g = 9 then cnt - 1 else if g = 8 then 5 else if g = 5 then 9 else 99
theorem sLst_le (g cnt : Nat) (h : cnt ≤ 6) : sLst g cnt ≤ 99 := by unfold sLst; (repeat' split) <;> omega
theorem sVal_lt {r : sR} {cnt g o : Nat} (h : sW r cnt) (hc : cnt ≤ 6) : sVal r g o < 2 ^ 30 := by
  have h1 := h.1 o
  have h2 := h.2
  unfold sVal
  (repeat' split) <;> omega
theorem sIs_g {g p k : Nat} (hg : g = 2 ∨ g = 5 ∨ g = 7 ∨ g = 8 ∨ g = 9) (hp : p < k) (hk : k ≤ 4) : g = 9 ∨ sIs 4 (nI p) g := by
  unfold sIs
  rw [sTI (k := p) (by omega)]
  omega
theorem sTold_v {tc : Nat → sTc} {r : sR} {g p : Nat} (hg : g = 2 ∨ g = 5 ∨ g = 7 ∨ g = 8 ∨ g = 9) (h9 : ¬ g = 9) (hk : r 7 4 ≤ 4) (hp : p < r 7 4) : sTold tc r (nI p) (nI g) = nI (sVal r g p) := by
  rw [sTold_y (by omega) (by unfold sIs; rw [sTI (k := p) (by omega)]; omega)]
  unfold sTld sVal
  rw [sTN (k := p) (by omega)]
  rcases hg with rfl | rfl | rfl | rfl | rfl
  · rfl
  · rfl
  · rfl
  · rfl
  · exact absurd rfl h9
theorem sLay_id {r : sR} {g o : Nat} (hg : g = 2 ∨ g = 5 ∨ g = 7 ∨ g = 8 ∨ g = 9) : sLay r g o (sVal r g o) = r := by
  funext q j
  rcases hg with rfl | rfl | rfl | rfl | rfl <;> simp only [sLay, sVal] <;> simp <;> (intro h1 h2; rw [h1, h2])
theorem sLay_2 {r : sR} {g o b v : Nat} (hg : g = 2 ∨ g = 5 ∨ g = 7 ∨ g = 8 ∨ g = 9) : sLay (sLay r g o b) g o v = sLay r g o v := by
  funext q j
  rcases hg with rfl | rfl | rfl | rfl | rfl <;> simp [sLay] <;> grind
theorem sW_lay {r : sR} {cnt g o v : Nat} (h : sW r cnt) (hg : g = 2 ∨ g = 5 ∨ g = 7 ∨ g = 8 ∨ g = 9) (hv : v ≤ sLst g cnt) (hc : 1 ≤ cnt) : sW (sLay r g o v) cnt := by
  refine ⟨fun j => ?_, ?_⟩
  · have h1 := h.1 j
    rcases hg with rfl | rfl | rfl | rfl | rfl <;> simp [sLst] at hv <;> simp [sLay] <;> (repeat' split) <;> omega
  · have h1 := h.2
    rcases hg with rfl | rfl | rfl | rfl | rfl <;> simp [sLst] at hv <;> simp [sLay] <;> omega
/-- whether one were as told, had one that value -/
def sFt (tc : Nat → sTc) (r : sR) (g p : Nat) (it : Nat → Int32) (n : Nat) (v : Nat) : Bool := decide (sF1 (sOt tc (sLay r g p v) p it) n = 0)
def sFb (f : Nat → Bool) (i : Nat) : Nat := if i < 10 ∧ f i = true then 1 else 0
theorem sAl_fb (f : Nat → Bool) : ∀ k, sAl (sFb f) k < 1024
  | 0 => (by decide : 0 < 1024)
  | k + 1 => by
    have e := sAl_fb f k
    rw [sAl]
    split
    · rename_i h
      have hk : k < 10 := by
        unfold sFb at h
        split at h
        · rename_i w; exact w.1
        · omega
      have e1 := sAl_lt (sFb f) k
      have e2 : 2 ^ k + 2 ^ k ≤ 2 ^ 10 := by
        rw [show 2 ^ k + 2 ^ k = 2 ^ (k + 1) by rw [Nat.pow_succ]; omega]
        exact Nat.pow_le_pow_right (by decide) (by omega)
      omega
    · exact e
theorem sOr2 {a v : Nat} (h : a < 2 ^ v) : a + 2 ^ v = 2 ^ v ||| a := by
  have e := Nat.two_pow_add_eq_or_of_lt h 1
  rw [Nat.mul_one] at e
  rw [Nat.add_comm, e]
theorem sSt_y {f : Nat → Bool} {st v N : Nat} (h : st < 1024 ∧ st ||| sAl (sFb f) (v + 1) = N) (hv : v < 10) (hf : f v = true) : st ||| 2 ^ v < 1024 ∧ (st ||| 2 ^ v) ||| sAl (sFb f) v = N := by
  refine ⟨sOr1 h.1 hv, ?_⟩
  rw [← h.2, sAl, if_pos (by unfold sFb; rw [if_pos ⟨hv, hf⟩]; decide), sOr2 (sAl_lt _ v), Nat.or_assoc]
theorem sSt_n {f : Nat → Bool} {st v N : Nat} (h : st < 1024 ∧ st ||| sAl (sFb f) (v + 1) = N) (hf : 10 ≤ v ∨ f v = false) : st < 1024 ∧ st ||| sAl (sFb f) v = N := by
  refine ⟨h.1, ?_⟩
  rw [← h.2, sAl, if_neg (by unfold sFb; rw [if_neg (fun q => hf.elim (fun w => by omega) (fun w => by rw [w] at q; exact absurd q.2 (by decide)))]; decide)]
theorem sF1_d {f : Nat → Bool} {v le N : Nat} (h : N = if sF1 f (v + 1) = 0 then le else sF1 f (v + 1)) (hf : f v = true) : N = if sF1 f v = 0 then v + 1 else sF1 f v := by
  rw [h, sF1]
  by_cases e : sF1 f v = 0
  · rw [if_pos e, if_pos hf, if_neg (Nat.succ_ne_zero v), if_pos e]
  · rw [if_neg e, if_neg e, if_neg e]
theorem sF1_e {f : Nat → Bool} {v le N : Nat} (h : N = if sF1 f (v + 1) = 0 then le else sF1 f (v + 1)) (hf : f v = false) : N = if sF1 f v = 0 then le else sF1 f v := by
  rw [h, sF1]
  by_cases e : sF1 f v = 0
  · rw [if_pos e, hf, if_pos e]; rfl
  · rw [if_neg e]
theorem cI_p (v : Nat) : nI v + (-1) = cI v := by
  unfold cI
  cases v with
  | zero => rw [if_pos rfl]; decide
  | succ k => rw [if_neg (Nat.succ_ne_zero k), pk_m1]; rfl
theorem cI_lt0 {q : Nat} (h : q < 2 ^ 30) (c : cI q < 0) : q = 0 := by
  rw [Int32.lt_iff_toInt_lt, cI_T (by omega), show (0 : Int32).toInt = 0 from by decide] at c
  omega
theorem sOr0 (a : Nat) : nI a ||| 0 = nI a := by
  have := fa_or a 0
  rw [Nat.or_zero] at this
  exact this
/-- nothing changed but what can be laid, and scratch -/
def KE (z z' : xMem) : Prop := (∀ q, q ≠ 0 → ¬ (4 ≤ q ∧ q ≤ 7) → z'.1 q = z.1 q) ∧ ∀ j, (j ≠ 4 ∧ ¬ (7 ≤ j ∧ j ≤ 9) ∧ (j < 16 ∨ 30 < j)) → z'.1 0 j = z.1 0 j
theorem KE_K {a b : xMem} (h : KM a b) : KE a b := ⟨fun q h0 _ => h.1 q h0, fun j hj => h.2 j (by omega)⟩
theorem KE_L {a b : xMem} (h : KL a b) : KE a b := ⟨fun q h0 h1 => h.1 q h0 h1, fun j hj => h.2 j (by omega)⟩
theorem KE_tr {a b c : xMem} (h1 : KE a b) (h2 : KE b c) : KE a c := ⟨fun q h h' => (h2.1 q h h').trans (h1.1 q h h'), fun j h => (h2.2 j h).trans (h1.2 j h)⟩
theorem TM_KE {z z' : xMem} {cnt : Nat} {tc : Nat → sTc} (h : KE z z') (ht : TM z cnt tc) : TM z' cnt tc := by
  obtain ⟨h1, h2, h3, h4⟩ := ht
  refine ⟨(h.2 3 (by omega)).trans h1, h2, h3, fun t hl => ?_⟩
  obtain ⟨bt, n, p, a1, a2, a3, a4, a5⟩ := h4 t hl
  exact ⟨bt, n, p, by rw [h.1 2 (by decide) (by decide)]; exact a1, a2, fun i hi => by rw [h.1 1 (by decide) (by decide)]; exact a3 i hi, a4, a5⟩
theorem KM_RM {z z' : xMem} {r : sR} (h : KE z z') (hr : RM z r) (hr' : RM z' r) : KM z z' := by
  obtain ⟨a1, a2, a3, a4, a5, a6, a7, b1, b2, b3, b4, b5, b6⟩ := hr
  obtain ⟨a1', a2', a3', a4', a5', a6', a7', b1', b2', b3', b4', b5', b6'⟩ := hr'
  refine ⟨fun q h0 => ?_, fun j hj => ?_⟩
  · by_cases e : 4 ≤ q ∧ q ≤ 7
    · rcases (show q = 4 ∨ q = 5 ∨ q = 6 ∨ q = 7 by omega) with rfl | rfl | rfl | rfl
      · exact funext fun j => (a1' j).trans (a1 j).symm
      · exact funext fun j => (a2' j).trans (a2 j).symm
      · exact funext fun j => (a3' j).trans (a3 j).symm
      · funext j
        obtain ⟨p, hp⟩ : ∃ p, p = j / 4 := ⟨_, rfl⟩
        rcases (show j = 4 * p ∨ j = 4 * p + 1 ∨ j = 4 * p + 2 ∨ j = 4 * p + 3 by omega) with e | e | e | e <;> rw [e]
        · exact (a4' p).trans (a4 p).symm
        · exact (a5' p).trans (a5 p).symm
        · exact (a6' p).trans (a6 p).symm
        · exact (a7' p).trans (a7 p).symm
    · exact h.1 q h0 e
  · by_cases e : j = 4
    · rw [e, b6', b6]
    · by_cases e7 : j = 7
      · rw [e7, b2', b2]
      · by_cases e8 : j = 8
        · rw [e8, b3', b3]
        · by_cases e9 : j = 9
          · rw [e9, b1', b1]
          · exact h.2 j (by omega)
def sTl (tc : Nat → sTc) (cnt : Nat) (r : sR) (g p : Nat) (it : Nat → Int32) (n u : Nat) : Int32 :=
  if u = 3 ∨ u = 5 then nI (sCt (sFt tc r g p it n) (sLst g cnt + 1)) else if u = 4 ∨ u = 6 then cI (sF1 (sFt tc r g p it n) (sLst g cnt + 1)) else nI (sAl (sFb (sFt tc r g p it n)) (sLst g cnt + 1))
def sTells (tc : Nat → sTc) (cnt : Nat) (r : sR) (T : Nat → sSh) (x y w : Int32) : Int32 :=
  if 0 ≤ x.toInt ∧ x.toInt ≤ 3 ∧ 0 ≤ y.toInt ∧ y.toInt < r 7 4 ∧ 0 ≤ w.toInt ∧ w.toInt ≤ 8 then
    (if (T x.toInt.toNat).1 = 0 then -11 else if 10 < (T x.toInt.toNat).2.1 then -2
     else if w.toInt.toNat = 0 then cI (sF1 (sOt tc r y.toInt.toNat (T x.toInt.toNat).2.2) (T x.toInt.toNat).2.1)
     else if w.toInt.toNat = 8 then nI (sAl (sLf tc r (T x.toInt.toNat).2.2 (T x.toInt.toNat).2.1) (r 7 4))
     else sTl tc cnt r (sVr w.toInt.toNat) y.toInt.toNat (T x.toInt.toNat).2.2 (T x.toInt.toNat).2.1 w.toInt.toNat)
  else -2
theorem sTells_m {tc : Nat → sTc} {cnt : Nat} {r : sR} {T : Nat → sSh} {s p u : Nat} (hs : s < 4) (hp : p < r 7 4) (h74 : r 7 4 ≤ 4) (hu : u < 9) (h : (T s).1 = 0) : sTells tc cnt r T (nI s) (nI p) (nI u) = -11 := by
  unfold sTells
  rw [sTN (k := s) (by omega), sTN (k := p) (by omega), sTN (k := u) (by omega), sTI (k := s) (by omega), sTI (k := p) (by omega), sTI (k := u) (by omega), if_pos (by omega), if_pos h]
theorem sTells_y {tc : Nat → sTc} {cnt : Nat} {r : sR} {T : Nat → sSh} {s p u n k : Nat} {it : Nat → Int32} (hs : s < 4) (hp : p < r 7 4) (h74 : r 7 4 ≤ 4) (hu : u < 9) (h : T s = (k + 1, n, it)) : sTells tc cnt r T (nI s) (nI p) (nI u) = if 10 < n then -2 else if u = 0 then cI (sF1 (sOt tc r p it) n) else if u = 8 then nI (sAl (sLf tc r it n) (r 7 4)) else sTl tc cnt r (sVr u) p it n u := by
  unfold sTells
  rw [sTN (k := s) (by omega), sTN (k := p) (by omega), sTN (k := u) (by omega), sTI (k := s) (by omega), sTI (k := p) (by omega), sTI (k := u) (by omega), if_pos (by omega), h, if_neg (Nat.succ_ne_zero k)]
set_option maxHeartbeats 4000000 in
set_option maxRecDepth 20000 in
theorem t_X6_tells (l : Launch) (d : Nat) (x y w : Int32) (z : xMem) (r : sR) (cnt : Nat) (tc : Nat → sTc) (hr : RM z r) (hw : sW r cnt) (ht : TM z cnt tc) (T : Nat → sSh) (hT : SM z T) : XMi l (d + 314) yX6_tells cX6_tells 11 (some .int) shM [.ref 0, .int x, .int y, .int w] z (fun v9 z' => v9 = sTells tc cnt r T x y w ∧ KM z z') := by
  refine XM.of (by decide) (Nat.le_of_ble_eq_true rfl) (fun xp xe xs xm xar xbl xme xc xD xcs xad xAA xCC xhr => ?_)
  generalize xhQ : MQ xbl _ xar xs 0 0 xAA = xQ
  show ww xp l xe (xRm (d + 314)) xs xm xar xbl xme xc 11 xD xcs xad shM xAA xQ 0 [(0, .ref 0), (1, .int x), (2, .int y), (3, .int w)] [] z
  have hb := hw.1
  have h74 : r 7 4 ≤ 4 := hw.2.2.2.2.2.2.1
  have hc6 : cnt ≤ 6 := ht.2.2.1
  have hc1 : 1 ≤ cnt := ht.2.1
  refine ww_blk xCC okX6_tells 0 1 (ps := []) (pc' := 1) (lv' := [(0, .ref 0), (1, .int x), (2, .int y), (3, .int w)]) (st' := [.int x]) (z' := z) rfl trivial ?_
  refine ww_callSNz xCC okX6_tells 1 (ix := 337) (t_X6_isSheet l d x _) (by omega) (by decide) xyX6_isSheet xiX6_isSheet (Or.inl (lw_gt_of (List.mem_of_getElem? (i := 1212) (by decide +kernel)) rfl)) rfl (rest := []) rfl (Nat.le_of_ble_eq_true rfl) rfl (fun z1 h2 => ?_) (fun z1 h2 => ?_)
  · skip
    have h2 : 0 ≤ x.toInt ∧ x.toInt ≤ 3 := h2
    obtain ⟨s, hs, rfl⟩ := sNN (x := x) (n := 4) h2.1 (by omega)
    refine ww_br xCC okX6_tells 2 (P := 1 = 0) (t1 := 27) (t2 := 7) (r := []) rfl (fun q => absurd q (by decide)) (fun _ => ?_)
    refine ww_blk xCC okX6_tells 3 2 (ps := []) (pc' := 9) (lv' := [(0, .ref 0), (1, .int (nI s)), (2, .int y), (3, .int w)]) (st' := [.int y, .ref 0]) (z' := z) rfl trivial ?_
    refine ww_callVIz xCC okX6_tells 5 (ix := 97) (t_X6_isOne l d y z (r 7 4) hr.2.2.2.2.2.2.2.2.2.2.2.1 h74) (by omega) (by decide) xyX6_isOne xiX6_isOne (Or.inl (lw_gt_of (List.mem_of_getElem? (i := 976) (by decide +kernel)) rfl)) rfl rfl rfl (rest := []) rfl (Nat.le_of_ble_eq_true rfl) rfl (fun zO hO => ?_) (fun zO hO => ?_)
    · skip
      rw [hO.2]
      obtain ⟨⟨hOa, hOb⟩, -⟩ := hO
      obtain ⟨p, hp, rfl⟩ := sNN (x := y) (n := r 7 4) hOa (by omega)
      refine ww_br xCC okX6_tells 6 (P := 1 = 0) (t1 := 27) (t2 := 15) (r := []) rfl (fun q => absurd q (by decide)) (fun _ => ?_)
      refine ww_blk xCC okX6_tells 7 4 (ps := []) (pc' := 21) (lv' := [(0, .ref 0), (1, .int (nI s)), (2, .int (nI p)), (3, .int w)]) (st' := [.long 8, .long 0, .long w.toInt64]) (z' := z) rfl trivial ?_
      refine ww_callSNz xCC okX6_tells 11 (ix := 82) (t_X6_in l d w.toInt64 0 8 w.toInt 0 8 (Int32.toInt_toInt64 _) rfl rfl  _) (by omega) (by decide) xyX6_in xiX6_in (Or.inl (lw_gt_of (List.mem_of_getElem? (i := 962) (by decide +kernel)) rfl)) rfl (rest := []) rfl (Nat.le_of_ble_eq_true rfl) rfl (fun z5 h6 => ?_) (fun z5 h6 => ?_)
      · skip
        have h6 : 0 ≤ w.toInt ∧ w.toInt ≤ 8 := h6
        obtain ⟨u, hu, rfl⟩ := sNN (x := w) (n := 9) (by omega) (by omega)
        refine ww_br xCC okX6_tells 12 (P := 1 = 0) (t1 := 27) (t2 := 30) (r := []) rfl (fun q => absurd q (by decide)) (fun _ => ?_)
        refine ww_blk xCC okX6_tells 15 4 (ps := [vp_in (nI s) 4]) (pc' := 36) (lv' := [(0, .ref 0), (1, .int (nI s)), (2, .int (nI p)), (3, .int (nI u))]) (st' := [.int (z.1 14 (nI s).toNatClampNeg)]) (z' := z) rfl (vp_in_nI (by omega) (by decide)) ?_
        rw [sCL (n := s) (by omega)]
        refine ww_br xCC okX6_tells 19 (P := (z.1 14 s) = 0) (t1 := 39) (t2 := 42) (r := []) rfl (fun c8 => ?_) (fun c8 => ?_)
        · skip
          have hm := SM_0 hT (s := s) (by omega) c8
          refine ww_blk xCC okX6_tells 20 1 (ps := []) (pc' := 41) (lv' := [(0, .ref 0), (1, .int (nI s)), (2, .int (nI p)), (3, .int (nI u))]) (st' := [.int (-11)]) (z' := z) rfl trivial ?_
          subst xhQ
          exact ww_iret xCC okX6_tells 21 xhr rfl rfl ⟨_, rfl, ⟨(by rw [sTells_m hs hp h74 hu hm]), KM_rf z⟩⟩
        · skip
          obtain ⟨n, k9, it, hTs, hk, hn40, h14, h15, h16, hit⟩ := SM_1 hT (s := s) (by omega) c8
          refine ww_blk xCC okX6_tells 22 5 (ps := [vp_in (nI s) 4]) (pc' := 50) (lv' := [(0, .ref 0), (1, .int (nI s)), (2, .int (nI p)), (3, .int (nI u))]) (st' := [.int 10, .int (z.1 16 (nI s).toNatClampNeg)]) (z' := z) rfl (vp_in_nI (by omega) (by decide)) ?_
          rw [sCL (n := s) (by omega)]
          rw [h16]
          refine ww_br xCC okX6_tells 27 (P := (nI n) ≤ 10) (t1 := 56) (t2 := 53) (r := []) rfl (fun c9 => ?_) (fun c9 => ?_)
          · skip
            replace c9 : n ≤ 10 := (sLE (a := n) (b := 10) (by omega) (by omega)).mp c9
            have hn : n ≤ 10 := by omega
            refine ww_blk xCC okX6_tells 30 1 (ps := []) (pc' := 57) (lv' := [(0, .ref 0), (1, .int (nI s)), (2, .int (nI p)), (3, .int (nI u))]) (st' := [.int (nI u)]) (z' := z) rfl trivial ?_
            refine ww_br xCC okX6_tells 31 (P := (nI u) = 0) (t1 := 66) (t2 := 60) (r := []) rfl (fun c10 => ?_) (fun c10 => ?_)
            · skip
              replace c10 : u = 0 := (sEQ (a := u) (b := 0) (by omega) (by omega)).mp c10
              refine ww_blk xCC okX6_tells 35 1 (ps := []) (pc' := 67) (lv' := [(0, .ref 0), (1, .int (nI s)), (2, .int (nI p)), (3, .int (nI u))]) (st' := [.int (nI u)]) (z' := z) rfl trivial ?_
              refine ww_br xCC okX6_tells 36 (P := (nI u) = 0) (t1 := 70) (t2 := 79) (r := []) rfl (fun c11 => ?_) (fun c11 => ?_)
              · skip
                replace c11 : u = 0 := (sEQ (a := u) (b := 0) (by omega) (by omega)).mp c11
                refine ww_blk xCC okX6_tells 37 3 (ps := []) (pc' := 73) (lv' := [(0, .ref 0), (1, .int (nI s)), (2, .int (nI p)), (3, .int (nI u))]) (st' := [.int (nI p), .int (nI s), .ref 0]) (z' := z) rfl trivial ?_
                refine ww_callVIi xCC okX6_tells 40 (ix := 334) (t_X6_firstOther l d p z r cnt tc hr hw ht s n it hs hn h16 hit (by omega)) (by omega) (by decide) xyX6_firstOther xiX6_firstOther (Or.inl (lw_gt_of (List.mem_of_getElem? (i := 1216) (by decide +kernel)) rfl)) rfl rfl rfl (rest := []) rfl (Nat.le_of_ble_eq_true rfl) rfl (fun v13 zS12 hS12 => ?_)
                have hrS12 := RM_K hS12.2 hr
                have htS12 := TM_K hS12.2 ht
                have hKS12 := KM_tr (KM_rf z) hS12.2
                rw [hS12.1]
                refine ww_blk xCC okX6_tells 41 1 (ps := []) (pc' := 84) (lv' := [(0, .ref 0), (1, .int (nI s)), (2, .int (nI p)), (3, .int (nI u))]) (st' := [.int (cI (sF1 (sOt tc r p it) n))]) (z' := zS12) rfl trivial ?_
                subst xhQ
                exact ww_iret xCC okX6_tells 45 xhr rfl rfl ⟨_, rfl, ⟨(by rw [sTells_y hs hp h74 hu hTs, if_neg (by omega), if_pos (by omega)]), hKS12⟩⟩
              · skip
                replace c11 : ¬ u = 0 := fun q => c11 ((sEQ (a := u) (b := 0) (by omega) (by omega)).mpr q)
                refine ww_blk xCC okX6_tells 42 2 (ps := []) (pc' := 81) (lv' := [(0, .ref 0), (1, .int (nI s)), (2, .int (nI p)), (3, .int (nI u))]) (st' := [.int (nI s), .ref 0]) (z' := z) rfl trivial ?_
                refine ww_callVIi xCC okX6_tells 44 (ix := 342) (t_X6_likeSet l d z r cnt tc hr hw ht s n it hs hn h16 hit) (by omega) (by decide) xyX6_likeSet xiX6_likeSet (Or.inl (lw_gt_of (List.mem_of_getElem? (i := 1220) (by decide +kernel)) rfl)) rfl rfl rfl (rest := []) rfl (Nat.le_of_ble_eq_true rfl) rfl (fun vK zK hK9 => ?_)
                rw [hK9.1]
                subst xhQ
                exact ww_iret xCC okX6_tells 45 xhr rfl rfl ⟨_, rfl, ⟨(by rw [sTells_y hs hp h74 hu hTs, if_neg (by omega), if_neg (by omega), if_pos (by omega)]), hK9.2⟩⟩
            · skip
              replace c10 : ¬ u = 0 := fun q => c10 ((sEQ (a := u) (b := 0) (by omega) (by omega)).mpr q)
              refine ww_blk xCC okX6_tells 32 2 (ps := []) (pc' := 63) (lv' := [(0, .ref 0), (1, .int (nI s)), (2, .int (nI p)), (3, .int (nI u))]) (st' := [.int 8, .int (nI u)]) (z' := z) rfl trivial ?_
              refine ww_br xCC okX6_tells 34 (P := (nI u) = 8) (t1 := 66) (t2 := 85) (r := []) rfl (fun c14 => ?_) (fun c14 => ?_)
              · skip
                replace c14 : u = 8 := (sEQ (a := u) (b := 8) (by omega) (by omega)).mp c14
                refine ww_blk xCC okX6_tells 35 1 (ps := []) (pc' := 67) (lv' := [(0, .ref 0), (1, .int (nI s)), (2, .int (nI p)), (3, .int (nI u))]) (st' := [.int (nI u)]) (z' := z) rfl trivial ?_
                refine ww_br xCC okX6_tells 36 (P := (nI u) = 0) (t1 := 70) (t2 := 79) (r := []) rfl (fun c15 => ?_) (fun c15 => ?_)
                · skip
                  replace c15 : u = 0 := (sEQ (a := u) (b := 0) (by omega) (by omega)).mp c15
                  refine ww_blk xCC okX6_tells 37 3 (ps := []) (pc' := 73) (lv' := [(0, .ref 0), (1, .int (nI s)), (2, .int (nI p)), (3, .int (nI u))]) (st' := [.int (nI p), .int (nI s), .ref 0]) (z' := z) rfl trivial ?_
                  refine ww_callVIi xCC okX6_tells 40 (ix := 334) (t_X6_firstOther l d p z r cnt tc hr hw ht s n it hs hn h16 hit (by omega)) (by omega) (by decide) xyX6_firstOther xiX6_firstOther (Or.inl (lw_gt_of (List.mem_of_getElem? (i := 1216) (by decide +kernel)) rfl)) rfl rfl rfl (rest := []) rfl (Nat.le_of_ble_eq_true rfl) rfl (fun v17 zS16 hS16 => ?_)
                  have hrS16 := RM_K hS16.2 hr
                  have htS16 := TM_K hS16.2 ht
                  have hKS16 := KM_tr (KM_rf z) hS16.2
                  rw [hS16.1]
                  refine ww_blk xCC okX6_tells 41 1 (ps := []) (pc' := 84) (lv' := [(0, .ref 0), (1, .int (nI s)), (2, .int (nI p)), (3, .int (nI u))]) (st' := [.int (cI (sF1 (sOt tc r p it) n))]) (z' := zS16) rfl trivial ?_
                  subst xhQ
                  exact ww_iret xCC okX6_tells 45 xhr rfl rfl ⟨_, rfl, ⟨(by rw [sTells_y hs hp h74 hu hTs, if_neg (by omega), if_pos (by omega)]), hKS16⟩⟩
                · skip
                  replace c15 : ¬ u = 0 := fun q => c15 ((sEQ (a := u) (b := 0) (by omega) (by omega)).mpr q)
                  refine ww_blk xCC okX6_tells 42 2 (ps := []) (pc' := 81) (lv' := [(0, .ref 0), (1, .int (nI s)), (2, .int (nI p)), (3, .int (nI u))]) (st' := [.int (nI s), .ref 0]) (z' := z) rfl trivial ?_
                  refine ww_callVIi xCC okX6_tells 44 (ix := 342) (t_X6_likeSet l d z r cnt tc hr hw ht s n it hs hn h16 hit) (by omega) (by decide) xyX6_likeSet xiX6_likeSet (Or.inl (lw_gt_of (List.mem_of_getElem? (i := 1220) (by decide +kernel)) rfl)) rfl rfl rfl (rest := []) rfl (Nat.le_of_ble_eq_true rfl) rfl (fun vK zK hK9 => ?_)
                  rw [hK9.1]
                  subst xhQ
                  exact ww_iret xCC okX6_tells 45 xhr rfl rfl ⟨_, rfl, ⟨(by rw [sTells_y hs hp h74 hu hTs, if_neg (by omega), if_neg (by omega), if_pos (by omega)]), hK9.2⟩⟩
              · skip
                replace c14 : ¬ u = 8 := fun q => c14 ((sEQ (a := u) (b := 8) (by omega) (by omega)).mpr q)
                have L128 : ∀ (g : Nat), (g = sVr u) → ww xp l xe (xRm (d + 314)) xs xm xar xbl xme xc 11 xD xcs xad shM xAA xQ 128 [(4, .int (nI g)), (0, .ref 0), (1, .int (nI s)), (2, .int (nI p)), (3, .int (nI u))] [] z := by
                  intro g e128_0
                  have hl9 := sLst_le g cnt hc6
                  have hg7 : g = 2 ∨ g = 5 ∨ g = 7 ∨ g = 8 ∨ g = 9 := by rw [e128_0]; unfold sVr; (repeat' split) <;> omega
                  have hg9 : g ≤ 9 := by omega
                  have L151 : ∀ (z1 : xMem), (RM z1 r) → (KM z z1) → ww xp l xe (xRm (d + 314)) xs xm xar xbl xme xc 11 xD xcs xad shM xAA xQ 151 [(5, .int (nI (sVal r g p))), (4, .int (nI g)), (0, .ref 0), (1, .int (nI s)), (2, .int (nI p)), (3, .int (nI u))] [] z1 := by
                    intro z1 e151_0 e151_1
                    have L206 : ∀ (n206 : Nat) (q : Nat) (stt : Nat) (ct : Nat) (le : Nat) (b : Nat) (zL : xMem), q < n206 → (q ≤ sLst g cnt + 1) → (stt < 1024 ∧ stt ||| sAl (sFb (sFt tc r g p it n)) q = sAl (sFb (sFt tc r g p it n)) (sLst g cnt + 1)) → (ct + sCt (sFt tc r g p it n) q = sCt (sFt tc r g p it n) (sLst g cnt + 1)) → (sF1 (sFt tc r g p it n) (sLst g cnt + 1) = if sF1 (sFt tc r g p it n) q = 0 then le else sF1 (sFt tc r g p it n) q) → (RM zL (sLay r g p b)) → (sW (sLay r g p b) cnt) → (KE z zL) → ww xp l xe (xRm (d + 314)) xs xm xar xbl xme xc 11 xD xcs xad shM xAA xQ 206 [(10, .int (cI q)), (7, .int (nI stt)), (8, .int (nI ct)), (9, .int (cI le)), (5, .int (nI (sVal r g p))), (4, .int (nI g)), (0, .ref 0), (1, .int (nI s)), (2, .int (nI p)), (3, .int (nI u))] [] zL := by
                      intro n206
                      induction n206 with
                      | zero =>
                        intro q stt ct le b zL hmu206
                        exact absurd hmu206 (Nat.not_lt_zero _)
                      | succ n206 ih206 =>
                        intro q stt ct le b zL hmu206 e206_0 e206_1 e206_2 e206_3 e206_4 e206_5 e206_6
                        refine ww_blk xCC okX6_tells 107 1 (ps := []) (pc' := 208) (lv' := [(10, .int (cI q)), (7, .int (nI stt)), (8, .int (nI ct)), (9, .int (cI le)), (5, .int (nI (sVal r g p))), (4, .int (nI g)), (0, .ref 0), (1, .int (nI s)), (2, .int (nI p)), (3, .int (nI u))]) (st' := [.int (cI q)]) (z' := zL) rfl trivial ?_
                        refine ww_br xCC okX6_tells 108 (P := (cI q) < 0) (t1 := 263) (t2 := 211) (r := []) rfl (fun c18 => ?_) (fun c18 => ?_)
                        · skip
                          have hq0 : q = 0 := cI_lt0 (by have := sLst_le g cnt hc6; omega) c18
                          refine ww_blk xCC okX6_tells 136 4 (ps := []) (pc' := 269) (lv' := [(10, .int (cI q)), (7, .int (nI stt)), (8, .int (nI ct)), (9, .int (cI le)), (5, .int (nI (sVal r g p))), (4, .int (nI g)), (0, .ref 0), (1, .int (nI s)), (2, .int (nI p)), (3, .int (nI u))]) (st' := [.int (nI (sVal r g p)), .int (nI p), .int (nI g), .ref 0]) (z' := zL) rfl trivial ?_
                          refine ww_callVIv xCC okX6_tells 140 (ix := 112) (t_X6_lays l d g (sVal r g p) (nI p) zL (sLay r g p b) e206_4 (fun j => (e206_5.1 j).1) (sVal_lt hw hc6) (by omega) (sIs_g hg7 hp h74)) (by omega) (by decide) xyX6_lays xiX6_lays (Or.inl (lw_gt_of (List.mem_of_getElem? (i := 1089) (by decide +kernel)) rfl)) rfl rfl rfl (rest := []) rfl (Nat.le_of_ble_eq_true rfl) rfl (fun zE hE => ?_)
                          have hrE : RM zE r := by have q := hE.1; rw [sTN (k := p) (by omega), sLay_2 hg7, sLay_id hg7] at q; exact q
                          have hKE := KM_RM (KE_tr e206_6 (KE_L hE.2)) hr hrE
                          refine ww_blk xCC okX6_tells 141 2 (ps := []) (pc' := 274) (lv' := [(10, .int (cI q)), (7, .int (nI stt)), (8, .int (nI ct)), (9, .int (cI le)), (5, .int (nI (sVal r g p))), (4, .int (nI g)), (0, .ref 0), (1, .int (nI s)), (2, .int (nI p)), (3, .int (nI u))]) (st' := [.int 3, .int (nI u)]) (z' := zE) rfl trivial ?_
                          refine ww_br xCC okX6_tells 143 (P := (nI u) = 3) (t1 := 282) (t2 := 277) (r := []) rfl (fun c20 => ?_) (fun c20 => ?_)
                          · skip
                            replace c20 : u = 3 := (sEQ (a := u) (b := 3) (by omega) (by omega)).mp c20
                            refine ww_blk xCC okX6_tells 147 2 (ps := []) (pc' := 305) (lv' := [(10, .int (cI q)), (7, .int (nI stt)), (8, .int (nI ct)), (9, .int (cI le)), (5, .int (nI (sVal r g p))), (4, .int (nI g)), (0, .ref 0), (1, .int (nI s)), (2, .int (nI p)), (3, .int (nI u))]) (st' := [.int (nI ct)]) (z' := zE) rfl trivial ?_
                            subst xhQ
                            exact ww_iret xCC okX6_tells 158 xhr rfl rfl ⟨_, rfl, ⟨(by rw [sTells_y hs hp h74 hu hTs, if_neg (by omega), if_neg (by omega), if_neg (by omega), ← e128_0, sTl, show sFt tc r g p it n = sFt tc r g p it n from rfl]; rw [if_pos (by omega)]; have := e206_2; rw [show q = 0 by omega] at this; rw [← this]; rfl), hKE⟩⟩
                          · skip
                            replace c20 : ¬ u = 3 := fun q => c20 ((sEQ (a := u) (b := 3) (by omega) (by omega)).mpr q)
                            refine ww_blk xCC okX6_tells 144 2 (ps := []) (pc' := 279) (lv' := [(10, .int (cI q)), (7, .int (nI stt)), (8, .int (nI ct)), (9, .int (cI le)), (5, .int (nI (sVal r g p))), (4, .int (nI g)), (0, .ref 0), (1, .int (nI s)), (2, .int (nI p)), (3, .int (nI u))]) (st' := [.int 5, .int (nI u)]) (z' := zE) rfl trivial ?_
                            refine ww_br xCC okX6_tells 146 (P := (nI u) = 5) (t1 := 282) (t2 := 287) (r := []) rfl (fun c21 => ?_) (fun c21 => ?_)
                            · skip
                              replace c21 : u = 5 := (sEQ (a := u) (b := 5) (by omega) (by omega)).mp c21
                              refine ww_blk xCC okX6_tells 147 2 (ps := []) (pc' := 305) (lv' := [(10, .int (cI q)), (7, .int (nI stt)), (8, .int (nI ct)), (9, .int (cI le)), (5, .int (nI (sVal r g p))), (4, .int (nI g)), (0, .ref 0), (1, .int (nI s)), (2, .int (nI p)), (3, .int (nI u))]) (st' := [.int (nI ct)]) (z' := zE) rfl trivial ?_
                              subst xhQ
                              exact ww_iret xCC okX6_tells 158 xhr rfl rfl ⟨_, rfl, ⟨(by rw [sTells_y hs hp h74 hu hTs, if_neg (by omega), if_neg (by omega), if_neg (by omega), ← e128_0, sTl, show sFt tc r g p it n = sFt tc r g p it n from rfl]; rw [if_pos (by omega)]; have := e206_2; rw [show q = 0 by omega] at this; rw [← this]; rfl), hKE⟩⟩
                            · skip
                              replace c21 : ¬ u = 5 := fun q => c21 ((sEQ (a := u) (b := 5) (by omega) (by omega)).mpr q)
                              refine ww_blk xCC okX6_tells 149 2 (ps := []) (pc' := 289) (lv' := [(10, .int (cI q)), (7, .int (nI stt)), (8, .int (nI ct)), (9, .int (cI le)), (5, .int (nI (sVal r g p))), (4, .int (nI g)), (0, .ref 0), (1, .int (nI s)), (2, .int (nI p)), (3, .int (nI u))]) (st' := [.int 4, .int (nI u)]) (z' := zE) rfl trivial ?_
                              refine ww_br xCC okX6_tells 151 (P := (nI u) = 4) (t1 := 298) (t2 := 292) (r := []) rfl (fun c22 => ?_) (fun c22 => ?_)
                              · skip
                                replace c22 : u = 4 := (sEQ (a := u) (b := 4) (by omega) (by omega)).mp c22
                                refine ww_blk xCC okX6_tells 155 2 (ps := []) (pc' := 305) (lv' := [(10, .int (cI q)), (7, .int (nI stt)), (8, .int (nI ct)), (9, .int (cI le)), (5, .int (nI (sVal r g p))), (4, .int (nI g)), (0, .ref 0), (1, .int (nI s)), (2, .int (nI p)), (3, .int (nI u))]) (st' := [.int (cI le)]) (z' := zE) rfl trivial ?_
                                subst xhQ
                                exact ww_iret xCC okX6_tells 158 xhr rfl rfl ⟨_, rfl, ⟨(by rw [sTells_y hs hp h74 hu hTs, if_neg (by omega), if_neg (by omega), if_neg (by omega), ← e128_0, sTl, show sFt tc r g p it n = sFt tc r g p it n from rfl]; rw [if_neg (by omega), if_pos (by omega)]; have := e206_3; rw [show q = 0 by omega] at this; rw [this]; rfl), hKE⟩⟩
                              · skip
                                replace c22 : ¬ u = 4 := fun q => c22 ((sEQ (a := u) (b := 4) (by omega) (by omega)).mpr q)
                                refine ww_blk xCC okX6_tells 152 2 (ps := []) (pc' := 295) (lv' := [(10, .int (cI q)), (7, .int (nI stt)), (8, .int (nI ct)), (9, .int (cI le)), (5, .int (nI (sVal r g p))), (4, .int (nI g)), (0, .ref 0), (1, .int (nI s)), (2, .int (nI p)), (3, .int (nI u))]) (st' := [.int 6, .int (nI u)]) (z' := zE) rfl trivial ?_
                                refine ww_br xCC okX6_tells 154 (P := (nI u) = 6) (t1 := 298) (t2 := 303) (r := []) rfl (fun c23 => ?_) (fun c23 => ?_)
                                · skip
                                  replace c23 : u = 6 := (sEQ (a := u) (b := 6) (by omega) (by omega)).mp c23
                                  refine ww_blk xCC okX6_tells 155 2 (ps := []) (pc' := 305) (lv' := [(10, .int (cI q)), (7, .int (nI stt)), (8, .int (nI ct)), (9, .int (cI le)), (5, .int (nI (sVal r g p))), (4, .int (nI g)), (0, .ref 0), (1, .int (nI s)), (2, .int (nI p)), (3, .int (nI u))]) (st' := [.int (cI le)]) (z' := zE) rfl trivial ?_
                                  subst xhQ
                                  exact ww_iret xCC okX6_tells 158 xhr rfl rfl ⟨_, rfl, ⟨(by rw [sTells_y hs hp h74 hu hTs, if_neg (by omega), if_neg (by omega), if_neg (by omega), ← e128_0, sTl, show sFt tc r g p it n = sFt tc r g p it n from rfl]; rw [if_neg (by omega), if_pos (by omega)]; have := e206_3; rw [show q = 0 by omega] at this; rw [this]; rfl), hKE⟩⟩
                                · skip
                                  replace c23 : ¬ u = 6 := fun q => c23 ((sEQ (a := u) (b := 6) (by omega) (by omega)).mpr q)
                                  refine ww_blk xCC okX6_tells 157 1 (ps := []) (pc' := 305) (lv' := [(10, .int (cI q)), (7, .int (nI stt)), (8, .int (nI ct)), (9, .int (cI le)), (5, .int (nI (sVal r g p))), (4, .int (nI g)), (0, .ref 0), (1, .int (nI s)), (2, .int (nI p)), (3, .int (nI u))]) (st' := [.int (nI stt)]) (z' := zE) rfl trivial ?_
                                  subst xhQ
                                  exact ww_iret xCC okX6_tells 158 xhr rfl rfl ⟨_, rfl, ⟨(by rw [sTells_y hs hp h74 hu hTs, if_neg (by omega), if_neg (by omega), if_neg (by omega), ← e128_0, sTl, show sFt tc r g p it n = sFt tc r g p it n from rfl]; rw [if_neg (by omega), if_neg (by omega)]; have := e206_1.2; rw [show q = 0 by omega] at this; rw [← this]; exact congrArg nI (Nat.or_zero _).symm), hKE⟩⟩
                        · skip
                          have hq0 : ¬ q = 0 := fun e => c18 (by rw [e]; decide)
                          obtain ⟨v, rfl⟩ : ∃ v, q = v + 1 := ⟨q - 1, by omega⟩
                          rw [← cI_s v]
                          refine ww_blk xCC okX6_tells 109 4 (ps := []) (pc' := 217) (lv' := [(10, .int (nI v)), (7, .int (nI stt)), (8, .int (nI ct)), (9, .int (cI le)), (5, .int (nI (sVal r g p))), (4, .int (nI g)), (0, .ref 0), (1, .int (nI s)), (2, .int (nI p)), (3, .int (nI u))]) (st' := [.int (nI v), .int (nI p), .int (nI g), .ref 0]) (z' := zL) rfl trivial ?_
                          refine ww_callVIv xCC okX6_tells 113 (ix := 112) (t_X6_lays l d g v (nI p) zL (sLay r g p b) e206_4 (fun j => (e206_5.1 j).1) (by have := sLst_le g cnt hc6; omega) (by omega) (sIs_g hg7 hp h74)) (by omega) (by decide) xyX6_lays xiX6_lays (Or.inl (lw_gt_of (List.mem_of_getElem? (i := 1089) (by decide +kernel)) rfl)) rfl rfl rfl (rest := []) rfl (Nat.le_of_ble_eq_true rfl) rfl (fun zY hY => ?_)
                          have hrY : RM zY (sLay r g p v) := by have q := hY.1; rw [sTN (k := p) (by omega), sLay_2 hg7] at q; exact q
                          have hwY : sW (sLay r g p v) cnt := sW_lay hw hg7 (by omega) (by omega)
                          have hKY := KE_tr e206_6 (KE_L hY.2)
                          refine ww_blk xCC okX6_tells 114 3 (ps := []) (pc' := 223) (lv' := [(10, .int (nI v)), (7, .int (nI stt)), (8, .int (nI ct)), (9, .int (cI le)), (5, .int (nI (sVal r g p))), (4, .int (nI g)), (0, .ref 0), (1, .int (nI s)), (2, .int (nI p)), (3, .int (nI u))]) (st' := [.int (nI p), .int (nI s), .ref 0]) (z' := zY) rfl trivial ?_
                          refine ww_callVIi xCC okX6_tells 117 (ix := 334) (t_X6_firstOther l d p zY (sLay r g p v) cnt tc hrY hwY (TM_KE hKY ht) s n it hs (by omega) ((congrFun (hKY.1 16 (by decide) (by decide)) s).trans h16) (fun q hq => (congrFun (hKY.1 17 (by decide) (by decide)) _).trans (hit q hq)) (by omega)) (by omega) (by decide) xyX6_firstOther xiX6_firstOther (Or.inl (lw_gt_of (List.mem_of_getElem? (i := 1216) (by decide +kernel)) rfl)) rfl rfl rfl (rest := []) rfl (Nat.le_of_ble_eq_true rfl) rfl (fun vF zF hF => ?_)
                          rw [hF.1]
                          have hrF := RM_K hF.2 hrY
                          have hwF := hwY
                          have hKF := KE_tr hKY (KE_K hF.2)
                          refine ww_blk xCC okX6_tells 118 1 (ps := []) (pc' := 227) (lv' := [(10, .int (nI v)), (7, .int (nI stt)), (8, .int (nI ct)), (9, .int (cI le)), (5, .int (nI (sVal r g p))), (4, .int (nI g)), (0, .ref 0), (1, .int (nI s)), (2, .int (nI p)), (3, .int (nI u))]) (st' := [.int (-1), .int (cI (sF1 (sOt tc (sLay r g p v) p it) n))]) (z' := zF) rfl trivial ?_
                          refine ww_br xCC okX6_tells 119 (P := (cI (sF1 (sOt tc (sLay r g p v) p it) n)) = (-1)) (t1 := 230) (t2 := 257) (r := []) rfl (fun c25 => ?_) (fun c25 => ?_)
                          · skip
                            have hfit : (sFt tc r g p it n) v = true := decide_eq_true (cI_m (by have := sF1_le (sOt tc (sLay r g p v) p it) n; omega) c25)
                            refine ww_blk xCC okX6_tells 120 3 (ps := []) (pc' := 236) (lv' := [(10, .int (nI v)), (7, .int (nI stt)), (8, .int (nI ct)), (9, .int (cI le)), (5, .int (nI (sVal r g p))), (4, .int (nI g)), (0, .ref 0), (1, .int (nI s)), (2, .int (nI p)), (3, .int (nI u))]) (st' := [.int 10, .int (nI v), .int (nI stt)]) (z' := zF) rfl trivial ?_
                            refine ww_br xCC okX6_tells 123 (P := 10 ≤ (nI v)) (t1 := 246) (t2 := 239) (r := [.int (nI stt)]) rfl (fun c26 => ?_) (fun c26 => ?_)
                            · skip
                              replace c26 : 10 ≤ v := (sLE (a := 10) (b := v) (by omega) (by omega)).mp c26
                              refine ww_blk xCC okX6_tells 128 8 (ps := []) (pc' := 206) (lv' := [(10, .int ((nI v) + (-1))), (9, .int (nI v)), (8, .int ((nI ct) + 1)), (7, .int ((nI stt) ||| 0)), (5, .int (nI (sVal r g p))), (4, .int (nI g)), (0, .ref 0), (1, .int (nI s)), (2, .int (nI p)), (3, .int (nI u))]) (st' := []) (z' := zF) rfl trivial ?_
                              rw [show nI ct + (1 : Int32) = nI (ct + 1) from nI_add ct 1]
                              rw [sOr0 stt]
                              exact ww_cut [0, 3, 2, 1, 4, 5, 6, 7, 8, 9] (xlc (congrArg Value.int (show ((nI v) + (-1) : Int32) = cI v from (cI_p v))) (xlc rfl (xlc rfl (xlc (congrArg Value.int (show (nI v : Int32) = cI (v + 1) from (cI_s v))) (xlc rfl (xlc rfl (xlc rfl (xlc rfl (xlc rfl (xlc rfl rfl)))))))))) rfl rfl (ih206 v stt (ct + 1) (v + 1) v zF (by omega) (by omega) (sSt_n e206_1 (Or.inl (by omega))) (by rw [← e206_2, sCt, if_pos hfit]; omega) (sF1_d e206_3 hfit) hrF hwF hKF)
                            · skip
                              replace c26 : ¬ 10 ≤ v := fun q => c26 ((sLE (a := 10) (b := v) (by omega) (by omega)).mpr q)
                              refine ww_blk xCC okX6_tells 124 4 (ps := []) (pc' := 247) (lv' := [(10, .int (nI v)), (7, .int (nI stt)), (8, .int (nI ct)), (9, .int (cI le)), (5, .int (nI (sVal r g p))), (4, .int (nI g)), (0, .ref 0), (1, .int (nI s)), (2, .int (nI p)), (3, .int (nI u))]) (st' := [.int (1 <<< ((nI v) &&& 31)), .int (nI stt)]) (z' := zF) rfl trivial ?_
                              rw [sSh1 v (by omega)]
                              refine ww_blk xCC okX6_tells 129 7 (ps := []) (pc' := 206) (lv' := [(10, .int ((nI v) + (-1))), (9, .int (nI v)), (8, .int ((nI ct) + 1)), (7, .int ((nI stt) ||| (nI (2 ^ v)))), (5, .int (nI (sVal r g p))), (4, .int (nI g)), (0, .ref 0), (1, .int (nI s)), (2, .int (nI p)), (3, .int (nI u))]) (st' := []) (z' := zF) rfl trivial ?_
                              rw [show nI ct + (1 : Int32) = nI (ct + 1) from nI_add ct 1]
                              rw [fa_or stt (2 ^ v)]
                              exact ww_cut [0, 3, 2, 1, 4, 5, 6, 7, 8, 9] (xlc (congrArg Value.int (show ((nI v) + (-1) : Int32) = cI v from (cI_p v))) (xlc rfl (xlc rfl (xlc (congrArg Value.int (show (nI v : Int32) = cI (v + 1) from (cI_s v))) (xlc rfl (xlc rfl (xlc rfl (xlc rfl (xlc rfl (xlc rfl rfl)))))))))) rfl rfl (ih206 v (stt ||| (2 ^ v)) (ct + 1) (v + 1) v zF (by omega) (by omega) (sSt_y e206_1 (by omega) hfit) (by rw [← e206_2, sCt, if_pos hfit]; omega) (sF1_d e206_3 hfit) hrF hwF hKF)
                          · skip
                            have hfit : (sFt tc r g p it n) v = false := decide_eq_false (cI_nm c25)
                            refine ww_blk xCC okX6_tells 134 2 (ps := []) (pc' := 206) (lv' := [(10, .int ((nI v) + (-1))), (7, .int (nI stt)), (8, .int (nI ct)), (9, .int (cI le)), (5, .int (nI (sVal r g p))), (4, .int (nI g)), (0, .ref 0), (1, .int (nI s)), (2, .int (nI p)), (3, .int (nI u))]) (st' := []) (z' := zF) rfl trivial ?_
                            exact ww_cut [0, 1, 2, 3, 4, 5, 6, 7, 8, 9] (xlc (congrArg Value.int (show ((nI v) + (-1) : Int32) = cI v from (cI_p v))) (xlc rfl (xlc rfl (xlc rfl (xlc rfl (xlc rfl (xlc rfl (xlc rfl (xlc rfl (xlc rfl rfl)))))))))) rfl rfl (ih206 v stt ct le v zF (by omega) (by omega) (sSt_n e206_1 (Or.inr hfit)) (by rw [← e206_2, sCt, if_neg (by rw [hfit]; decide)]) (sF1_e e206_3 hfit) hrF hwF hKF)
                    refine ww_blk xCC okX6_tells 79 2 (ps := []) (pc' := 155) (lv' := [(5, .int (nI (sVal r g p))), (4, .int (nI g)), (0, .ref 0), (1, .int (nI s)), (2, .int (nI p)), (3, .int (nI u))]) (st' := [.int 9, .int (nI g)]) (z' := z1) rfl trivial ?_
                    refine ww_br xCC okX6_tells 81 (P := (nI g) = 9) (t1 := 158) (t2 := 167) (r := []) rfl (fun c27 => ?_) (fun c27 => ?_)
                    · skip
                      replace c27 : g = 9 := (sEQ (a := g) (b := 9) (by omega) (by omega)).mp c27
                      refine ww_blk xCC okX6_tells 82 5 (ps := []) (pc' := 191) (lv' := [(5, .int (nI (sVal r g p))), (4, .int (nI g)), (0, .ref 0), (1, .int (nI s)), (2, .int (nI p)), (3, .int (nI u))]) (st' := [.int ((z1.1 0 3) - 1)]) (z' := z1) rfl trivial ?_
                      rw [show z1.1 0 3 = nI cnt from (e151_1.2 3 (by omega)).trans ht.1]
                      rw [show nI cnt - 1 = nI (cnt - 1) from pk_sub (b := 1) (by omega)]
                      refine ww_blk xCC okX6_tells 98 9 (ps := []) (pc' := 206) (lv' := [(10, .int (nI (cnt - 1))), (9, .int (-1)), (8, .int 0), (7, .int 0), (6, .int (nI (cnt - 1))), (5, .int (nI (sVal r g p))), (4, .int (nI g)), (0, .ref 0), (1, .int (nI s)), (2, .int (nI p)), (3, .int (nI u))]) (st' := []) (z' := z1) rfl trivial ?_
                      exact ww_cut [0, 3, 2, 1, 5, 6, 7, 8, 9, 10] (xlc (congrArg Value.int (show (nI (cnt - 1) : Int32) = cI (sLst g cnt + 1) from (by rw [← cI_s]; unfold sLst; rw [if_pos (by omega)]))) (xlc (congrArg Value.int (show (0 : Int32) = nI 0 from rfl)) (xlc (congrArg Value.int (show (0 : Int32) = nI 0 from rfl)) (xlc (congrArg Value.int (show ((-1) : Int32) = cI 0 from rfl)) (xlc rfl (xlc rfl (xlc rfl (xlc rfl (xlc rfl (xlc rfl rfl)))))))))) rfl rfl (L206 (sLst g cnt + 1 + 1) (sLst g cnt + 1) 0 0 0 (sVal r g p) z1 (Nat.lt_succ_self _) (Nat.le_refl _) ⟨by decide, Nat.zero_or _⟩ (Nat.zero_add _) (by split <;> (first | rfl | omega)) (by rw [sLay_id hg7]; exact e151_0) (by rw [sLay_id hg7]; exact hw) (KE_K e151_1))
                    · skip
                      replace c27 : ¬ g = 9 := fun q => c27 ((sEQ (a := g) (b := 9) (by omega) (by omega)).mpr q)
                      refine ww_blk xCC okX6_tells 87 2 (ps := []) (pc' := 171) (lv' := [(5, .int (nI (sVal r g p))), (4, .int (nI g)), (0, .ref 0), (1, .int (nI s)), (2, .int (nI p)), (3, .int (nI u))]) (st' := [.int 8, .int (nI g)]) (z' := z1) rfl trivial ?_
                      refine ww_br xCC okX6_tells 89 (P := (nI g) = 8) (t1 := 174) (t2 := 178) (r := []) rfl (fun c28 => ?_) (fun c28 => ?_)
                      · skip
                        replace c28 : g = 8 := (sEQ (a := g) (b := 8) (by omega) (by omega)).mp c28
                        refine ww_blk xCC okX6_tells 90 2 (ps := []) (pc' := 191) (lv' := [(5, .int (nI (sVal r g p))), (4, .int (nI g)), (0, .ref 0), (1, .int (nI s)), (2, .int (nI p)), (3, .int (nI u))]) (st' := [.int 5]) (z' := z1) rfl trivial ?_
                        refine ww_blk xCC okX6_tells 98 9 (ps := []) (pc' := 206) (lv' := [(10, .int 5), (9, .int (-1)), (8, .int 0), (7, .int 0), (6, .int 5), (5, .int (nI (sVal r g p))), (4, .int (nI g)), (0, .ref 0), (1, .int (nI s)), (2, .int (nI p)), (3, .int (nI u))]) (st' := []) (z' := z1) rfl trivial ?_
                        exact ww_cut [0, 3, 2, 1, 5, 6, 7, 8, 9, 10] (xlc (congrArg Value.int (show (5 : Int32) = cI (sLst g cnt + 1) from (by rw [← cI_s]; unfold sLst; rw [if_neg (by omega), if_pos (by omega)]; rfl))) (xlc (congrArg Value.int (show (0 : Int32) = nI 0 from rfl)) (xlc (congrArg Value.int (show (0 : Int32) = nI 0 from rfl)) (xlc (congrArg Value.int (show ((-1) : Int32) = cI 0 from rfl)) (xlc rfl (xlc rfl (xlc rfl (xlc rfl (xlc rfl (xlc rfl rfl)))))))))) rfl rfl (L206 (sLst g cnt + 1 + 1) (sLst g cnt + 1) 0 0 0 (sVal r g p) z1 (Nat.lt_succ_self _) (Nat.le_refl _) ⟨by decide, Nat.zero_or _⟩ (Nat.zero_add _) (by split <;> (first | rfl | omega)) (by rw [sLay_id hg7]; exact e151_0) (by rw [sLay_id hg7]; exact hw) (KE_K e151_1))
                      · skip
                        replace c28 : ¬ g = 8 := fun q => c28 ((sEQ (a := g) (b := 8) (by omega) (by omega)).mpr q)
                        refine ww_blk xCC okX6_tells 92 2 (ps := []) (pc' := 181) (lv' := [(5, .int (nI (sVal r g p))), (4, .int (nI g)), (0, .ref 0), (1, .int (nI s)), (2, .int (nI p)), (3, .int (nI u))]) (st' := [.int 5, .int (nI g)]) (z' := z1) rfl trivial ?_
                        refine ww_br xCC okX6_tells 94 (P := (nI g) = 5) (t1 := 184) (t2 := 189) (r := []) rfl (fun c29 => ?_) (fun c29 => ?_)
                        · skip
                          replace c29 : g = 5 := (sEQ (a := g) (b := 5) (by omega) (by omega)).mp c29
                          refine ww_blk xCC okX6_tells 95 2 (ps := []) (pc' := 191) (lv' := [(5, .int (nI (sVal r g p))), (4, .int (nI g)), (0, .ref 0), (1, .int (nI s)), (2, .int (nI p)), (3, .int (nI u))]) (st' := [.int 9]) (z' := z1) rfl trivial ?_
                          refine ww_blk xCC okX6_tells 98 9 (ps := []) (pc' := 206) (lv' := [(10, .int 9), (9, .int (-1)), (8, .int 0), (7, .int 0), (6, .int 9), (5, .int (nI (sVal r g p))), (4, .int (nI g)), (0, .ref 0), (1, .int (nI s)), (2, .int (nI p)), (3, .int (nI u))]) (st' := []) (z' := z1) rfl trivial ?_
                          exact ww_cut [0, 3, 2, 1, 5, 6, 7, 8, 9, 10] (xlc (congrArg Value.int (show (9 : Int32) = cI (sLst g cnt + 1) from (by rw [← cI_s]; unfold sLst; rw [if_neg (by omega), if_neg (by omega), if_pos (by omega)]; rfl))) (xlc (congrArg Value.int (show (0 : Int32) = nI 0 from rfl)) (xlc (congrArg Value.int (show (0 : Int32) = nI 0 from rfl)) (xlc (congrArg Value.int (show ((-1) : Int32) = cI 0 from rfl)) (xlc rfl (xlc rfl (xlc rfl (xlc rfl (xlc rfl (xlc rfl rfl)))))))))) rfl rfl (L206 (sLst g cnt + 1 + 1) (sLst g cnt + 1) 0 0 0 (sVal r g p) z1 (Nat.lt_succ_self _) (Nat.le_refl _) ⟨by decide, Nat.zero_or _⟩ (Nat.zero_add _) (by split <;> (first | rfl | omega)) (by rw [sLay_id hg7]; exact e151_0) (by rw [sLay_id hg7]; exact hw) (KE_K e151_1))
                        · skip
                          replace c29 : ¬ g = 5 := fun q => c29 ((sEQ (a := g) (b := 5) (by omega) (by omega)).mpr q)
                          refine ww_blk xCC okX6_tells 97 10 (ps := []) (pc' := 206) (lv' := [(10, .int 99), (9, .int (-1)), (8, .int 0), (7, .int 0), (6, .int 99), (5, .int (nI (sVal r g p))), (4, .int (nI g)), (0, .ref 0), (1, .int (nI s)), (2, .int (nI p)), (3, .int (nI u))]) (st' := []) (z' := z1) rfl trivial ?_
                          exact ww_cut [0, 3, 2, 1, 5, 6, 7, 8, 9, 10] (xlc (congrArg Value.int (show (99 : Int32) = cI (sLst g cnt + 1) from (by rw [← cI_s]; unfold sLst; rw [if_neg (by omega), if_neg (by omega), if_neg (by omega)]; rfl))) (xlc (congrArg Value.int (show (0 : Int32) = nI 0 from rfl)) (xlc (congrArg Value.int (show (0 : Int32) = nI 0 from rfl)) (xlc (congrArg Value.int (show ((-1) : Int32) = cI 0 from rfl)) (xlc rfl (xlc rfl (xlc rfl (xlc rfl (xlc rfl (xlc rfl rfl)))))))))) rfl rfl (L206 (sLst g cnt + 1 + 1) (sLst g cnt + 1) 0 0 0 (sVal r g p) z1 (Nat.lt_succ_self _) (Nat.le_refl _) ⟨by decide, Nat.zero_or _⟩ (Nat.zero_add _) (by split <;> (first | rfl | omega)) (by rw [sLay_id hg7]; exact e151_0) (by rw [sLay_id hg7]; exact hw) (KE_K e151_1))
                  refine ww_blk xCC okX6_tells 68 2 (ps := []) (pc' := 132) (lv' := [(4, .int (nI g)), (0, .ref 0), (1, .int (nI s)), (2, .int (nI p)), (3, .int (nI u))]) (st' := [.int 9, .int (nI g)]) (z' := z) rfl trivial ?_
                  refine ww_br xCC okX6_tells 70 (P := (nI g) = 9) (t1 := 135) (t2 := 142) (r := []) rfl (fun c30 => ?_) (fun c30 => ?_)
                  · skip
                    replace c30 : g = 9 := (sEQ (a := g) (b := 9) (by omega) (by omega)).mp c30
                    refine ww_blk xCC okX6_tells 71 3 (ps := []) (pc' := 149) (lv' := [(4, .int (nI g)), (0, .ref 0), (1, .int (nI s)), (2, .int (nI p)), (3, .int (nI u))]) (st' := [.int (z.1 0 4)]) (z' := z) rfl trivial ?_
                    rw [hr.2.2.2.2.2.2.2.2.2.2.2.2]
                    refine ww_blk xCC okX6_tells 78 1 (ps := []) (pc' := 151) (lv' := [(5, .int (nI (r 7 5))), (4, .int (nI g)), (0, .ref 0), (1, .int (nI s)), (2, .int (nI p)), (3, .int (nI u))]) (st' := []) (z' := z) rfl trivial ?_
                    exact ww_cut [0, 1, 2, 3, 4, 5] (xlc (congrArg Value.int (show (nI (r 7 5) : Int32) = nI (sVal r g p) from (by rw [show g = 9 by omega]; rfl))) (xlc rfl (xlc rfl (xlc rfl (xlc rfl (xlc rfl rfl)))))) rfl rfl (L151 z hr (KM_rf z))
                  · skip
                    replace c30 : ¬ g = 9 := fun q => c30 ((sEQ (a := g) (b := 9) (by omega) (by omega)).mpr q)
                    refine ww_blk xCC okX6_tells 74 3 (ps := []) (pc' := 146) (lv' := [(4, .int (nI g)), (0, .ref 0), (1, .int (nI s)), (2, .int (nI p)), (3, .int (nI u))]) (st' := [.int (nI g), .int (nI p), .ref 0]) (z' := z) rfl trivial ?_
                    refine ww_callVIi xCC okX6_tells 77 (ix := 108) (t_X6_told l d (nI p) (nI g) z r cnt tc hr hw ht) (by omega) (by decide) xyX6_told xiX6_told (Or.inl (lw_gt_of (List.mem_of_getElem? (i := 983) (by decide +kernel)) rfl)) rfl rfl rfl (rest := []) rfl (Nat.le_of_ble_eq_true rfl) rfl (fun vT zT hT9 => ?_)
                    rw [show vT = nI (sVal r g p) from hT9.1.trans (sTold_v (by unfold sVr at e128_0; (repeat' split at e128_0) <;> omega) (by omega) h74 hp)]
                    refine ww_blk xCC okX6_tells 78 1 (ps := []) (pc' := 151) (lv' := [(5, .int (nI (sVal r g p))), (4, .int (nI g)), (0, .ref 0), (1, .int (nI s)), (2, .int (nI p)), (3, .int (nI u))]) (st' := []) (z' := zT) rfl trivial ?_
                    exact ww_cut [0, 1, 2, 3, 4, 5] (xlc rfl (xlc rfl (xlc rfl (xlc rfl (xlc rfl (xlc rfl rfl)))))) rfl rfl (L151 zT (RM_K hT9.2 hr) hT9.2)
                refine ww_blk xCC okX6_tells 46 2 (ps := []) (pc' := 87) (lv' := [(0, .ref 0), (1, .int (nI s)), (2, .int (nI p)), (3, .int (nI u))]) (st' := [.int 1, .int (nI u)]) (z' := z) rfl trivial ?_
                refine ww_br xCC okX6_tells 48 (P := (nI u) = 1) (t1 := 90) (t2 := 95) (r := []) rfl (fun c31 => ?_) (fun c31 => ?_)
                · skip
                  replace c31 : u = 1 := (sEQ (a := u) (b := 1) (by omega) (by omega)).mp c31
                  refine ww_blk xCC okX6_tells 49 2 (ps := []) (pc' := 126) (lv' := [(0, .ref 0), (1, .int (nI s)), (2, .int (nI p)), (3, .int (nI u))]) (st' := [.int 8]) (z' := z) rfl trivial ?_
                  refine ww_blk xCC okX6_tells 67 1 (ps := []) (pc' := 128) (lv' := [(4, .int 8), (0, .ref 0), (1, .int (nI s)), (2, .int (nI p)), (3, .int (nI u))]) (st' := []) (z' := z) rfl trivial ?_
                  exact ww_cut [0, 1, 2, 3, 4] (xlc (congrArg Value.int (show (8 : Int32) = nI 8 from rfl)) (xlc rfl (xlc rfl (xlc rfl (xlc rfl rfl))))) rfl rfl (L128 8 (by unfold sVr; (repeat' split) <;> omega))
                · skip
                  replace c31 : ¬ u = 1 := fun q => c31 ((sEQ (a := u) (b := 1) (by omega) (by omega)).mpr q)
                  refine ww_blk xCC okX6_tells 51 2 (ps := []) (pc' := 97) (lv' := [(0, .ref 0), (1, .int (nI s)), (2, .int (nI p)), (3, .int (nI u))]) (st' := [.int 2, .int (nI u)]) (z' := z) rfl trivial ?_
                  refine ww_br xCC okX6_tells 53 (P := (nI u) = 2) (t1 := 100) (t2 := 104) (r := []) rfl (fun c32 => ?_) (fun c32 => ?_)
                  · skip
                    replace c32 : u = 2 := (sEQ (a := u) (b := 2) (by omega) (by omega)).mp c32
                    refine ww_blk xCC okX6_tells 54 2 (ps := []) (pc' := 126) (lv' := [(0, .ref 0), (1, .int (nI s)), (2, .int (nI p)), (3, .int (nI u))]) (st' := [.int 5]) (z' := z) rfl trivial ?_
                    refine ww_blk xCC okX6_tells 67 1 (ps := []) (pc' := 128) (lv' := [(4, .int 5), (0, .ref 0), (1, .int (nI s)), (2, .int (nI p)), (3, .int (nI u))]) (st' := []) (z' := z) rfl trivial ?_
                    exact ww_cut [0, 1, 2, 3, 4] (xlc (congrArg Value.int (show (5 : Int32) = nI 5 from rfl)) (xlc rfl (xlc rfl (xlc rfl (xlc rfl rfl))))) rfl rfl (L128 5 (by unfold sVr; (repeat' split) <;> omega))
                  · skip
                    replace c32 : ¬ u = 2 := fun q => c32 ((sEQ (a := u) (b := 2) (by omega) (by omega)).mpr q)
                    refine ww_blk xCC okX6_tells 56 2 (ps := []) (pc' := 106) (lv' := [(0, .ref 0), (1, .int (nI s)), (2, .int (nI p)), (3, .int (nI u))]) (st' := [.int 5, .int (nI u)]) (z' := z) rfl trivial ?_
                    refine ww_br xCC okX6_tells 58 (P := 5 ≤ (nI u)) (t1 := 113) (t2 := 109) (r := []) rfl (fun c33 => ?_) (fun c33 => ?_)
                    · skip
                      replace c33 : 5 ≤ u := (sLE (a := 5) (b := u) (by omega) (by omega)).mp c33
                      refine ww_blk xCC okX6_tells 61 2 (ps := []) (pc' := 116) (lv' := [(0, .ref 0), (1, .int (nI s)), (2, .int (nI p)), (3, .int (nI u))]) (st' := [.int 7, .int (nI u)]) (z' := z) rfl trivial ?_
                      refine ww_br xCC okX6_tells 63 (P := 7 ≤ (nI u)) (t1 := 124) (t2 := 119) (r := []) rfl (fun c34 => ?_) (fun c34 => ?_)
                      · skip
                        replace c34 : 7 ≤ u := (sLE (a := 7) (b := u) (by omega) (by omega)).mp c34
                        refine ww_blk xCC okX6_tells 66 2 (ps := []) (pc' := 128) (lv' := [(4, .int 9), (0, .ref 0), (1, .int (nI s)), (2, .int (nI p)), (3, .int (nI u))]) (st' := []) (z' := z) rfl trivial ?_
                        exact ww_cut [0, 1, 2, 3, 4] (xlc (congrArg Value.int (show (9 : Int32) = nI 9 from rfl)) (xlc rfl (xlc rfl (xlc rfl (xlc rfl rfl))))) rfl rfl (L128 9 (by unfold sVr; (repeat' split) <;> omega))
                      · skip
                        replace c34 : ¬ 7 ≤ u := fun q => c34 ((sLE (a := 7) (b := u) (by omega) (by omega)).mpr q)
                        refine ww_blk xCC okX6_tells 64 2 (ps := []) (pc' := 126) (lv' := [(0, .ref 0), (1, .int (nI s)), (2, .int (nI p)), (3, .int (nI u))]) (st' := [.int 7]) (z' := z) rfl trivial ?_
                        refine ww_blk xCC okX6_tells 67 1 (ps := []) (pc' := 128) (lv' := [(4, .int 7), (0, .ref 0), (1, .int (nI s)), (2, .int (nI p)), (3, .int (nI u))]) (st' := []) (z' := z) rfl trivial ?_
                        exact ww_cut [0, 1, 2, 3, 4] (xlc (congrArg Value.int (show (7 : Int32) = nI 7 from rfl)) (xlc rfl (xlc rfl (xlc rfl (xlc rfl rfl))))) rfl rfl (L128 7 (by unfold sVr; (repeat' split) <;> omega))
                    · skip
                      replace c33 : ¬ 5 ≤ u := fun q => c33 ((sLE (a := 5) (b := u) (by omega) (by omega)).mpr q)
                      refine ww_blk xCC okX6_tells 59 2 (ps := []) (pc' := 126) (lv' := [(0, .ref 0), (1, .int (nI s)), (2, .int (nI p)), (3, .int (nI u))]) (st' := [.int 2]) (z' := z) rfl trivial ?_
                      refine ww_blk xCC okX6_tells 67 1 (ps := []) (pc' := 128) (lv' := [(4, .int 2), (0, .ref 0), (1, .int (nI s)), (2, .int (nI p)), (3, .int (nI u))]) (st' := []) (z' := z) rfl trivial ?_
                      exact ww_cut [0, 1, 2, 3, 4] (xlc (congrArg Value.int (show (2 : Int32) = nI 2 from rfl)) (xlc rfl (xlc rfl (xlc rfl (xlc rfl rfl))))) rfl rfl (L128 2 (by unfold sVr; (repeat' split) <;> omega))
          · skip
            replace c9 : ¬ n ≤ 10 := fun q => c9 ((sLE (a := n) (b := 10) (by omega) (by omega)).mpr q)
            refine ww_blk xCC okX6_tells 28 1 (ps := []) (pc' := 55) (lv' := [(0, .ref 0), (1, .int (nI s)), (2, .int (nI p)), (3, .int (nI u))]) (st' := [.int (-2)]) (z' := z) rfl trivial ?_
            subst xhQ
            exact ww_iret xCC okX6_tells 29 xhr rfl rfl ⟨_, rfl, ⟨(by rw [sTells_y hs hp h74 hu hTs, if_pos (by omega)]), KM_rf z⟩⟩
      · skip
        have h6 : ¬ (0 ≤ w.toInt ∧ w.toInt ≤ 8) := h6
        refine ww_br xCC okX6_tells 12 (P := 0 = 0) (t1 := 27) (t2 := 30) (r := []) rfl (fun _ => ?_) (fun q => absurd (by decide) q)
        refine ww_blk xCC okX6_tells 13 1 (ps := []) (pc' := 29) (lv' := [(0, .ref 0), (1, .int (nI s)), (2, .int (nI p)), (3, .int w)]) (st' := [.int (-2)]) (z' := z) rfl trivial ?_
        subst xhQ
        exact ww_iret xCC okX6_tells 14 xhr rfl rfl ⟨_, rfl, ⟨(by unfold sTells; rw [if_neg (by omega)]), KM_rf z⟩⟩
    · skip
      rw [hO.2]
      replace hO := hO.1
      refine ww_br xCC okX6_tells 6 (P := 0 = 0) (t1 := 27) (t2 := 15) (r := []) rfl (fun _ => ?_) (fun q => absurd (by decide) q)
      refine ww_blk xCC okX6_tells 13 1 (ps := []) (pc' := 29) (lv' := [(0, .ref 0), (1, .int (nI s)), (2, .int y), (3, .int w)]) (st' := [.int (-2)]) (z' := z) rfl trivial ?_
      subst xhQ
      exact ww_iret xCC okX6_tells 14 xhr rfl rfl ⟨_, rfl, ⟨(by unfold sTells; rw [if_neg (by omega)]), KM_rf z⟩⟩
  · skip
    have h2 : ¬ (0 ≤ x.toInt ∧ x.toInt ≤ 3) := h2
    refine ww_br xCC okX6_tells 2 (P := 0 = 0) (t1 := 27) (t2 := 7) (r := []) rfl (fun _ => ?_) (fun q => absurd (by decide) q)
    refine ww_blk xCC okX6_tells 13 1 (ps := []) (pc' := 29) (lv' := [(0, .ref 0), (1, .int x), (2, .int y), (3, .int w)]) (st' := [.int (-2)]) (z' := z) rfl trivial ?_
    subst xhQ
    exact ww_iret xCC okX6_tells 14 xhr rfl rfl ⟨_, rfl, ⟨(by unfold sTells; rw [if_neg (by omega)]), KM_rf z⟩⟩
