/-! the class's tape: tokens -/
/-- the tape: n bytes -/
def TQ (z : xMem) (n : Nat) (bt : Nat → Nat) : Prop := z.1 0 1 = nI n ∧ n ≤ 160 ∧ (∀ i, i < n → z.1 1 i = nI (bt i)) ∧ ∀ i, bt i < 256
/-- nothing changed but the place behind -/
def KB (z z' : xMem) : Prop := (∀ q, q ≠ 0 → z'.1 q = z.1 q) ∧ ∀ j, j ≠ 3 → z'.1 0 j = z.1 0 j
theorem KB_rf (z : xMem) : KB z z := ⟨fun _ _ => rfl, fun _ _ => rfl⟩
theorem KB_put {a b : xMem} {x : Int32} (h : KB a b) : KB a (mPut b 0 3 x) := ⟨fun q hq => (mPut_nq hq).trans (h.1 q hq), fun j hj => (mPut_nj hj).trans (h.2 j hj)⟩
/-- nothing changed but the token at hand -/
def K3 (z z' : xMem) : Prop := (∀ q, q ≠ 0 → z'.1 q = z.1 q) ∧ ∀ j, (j < 2 ∨ 4 < j) → z'.1 0 j = z.1 0 j
theorem K3_rf (z : xMem) : K3 z z := ⟨fun _ _ => rfl, fun _ _ => rfl⟩
theorem K3_tr {a b c : xMem} (h1 : K3 a b) (h2 : K3 b c) : K3 a c := ⟨fun q h => (h2.1 q h).trans (h1.1 q h), fun j h => (h2.2 j h).trans (h1.2 j h)⟩
theorem K3_B {a b : xMem} (h : KB a b) : K3 a b := ⟨h.1, fun j hj => h.2 j (by omega)⟩
theorem K3_put {a b : xMem} {j : Nat} {x : Int32} (h : K3 a b) (hj : 2 ≤ j ∧ j ≤ 4) : K3 a (mPut b 0 j x) := ⟨fun q hq => (mPut_nq hq).trans (h.1 q hq), fun i hi => (mPut_nj (by omega)).trans (h.2 i hi)⟩
theorem K3_2 {a b : xMem} {x : Int32} (h : K3 a b) : K3 a (mPut b 0 2 x) := K3_put h (by omega)
theorem K3_3 {a b : xMem} {x : Int32} (h : K3 a b) : K3 a (mPut b 0 3 x) := K3_put h (by omega)
theorem K3_4 {a b : xMem} {x : Int32} (h : K3 a b) : K3 a (mPut b 0 4 x) := K3_put h (by omega)
theorem TQ_K {z z' : xMem} {n : Nat} {bt : Nat → Nat} (h : K3 z z') (ht : TQ z n bt) : TQ z' n bt := ⟨(h.2 1 (by omega)).trans ht.1, ht.2.1, fun i hi => by rw [h.1 1 (by decide)]; exact ht.2.2.1 i hi, ht.2.2.2⟩
theorem TQ_B {z z' : xMem} {n : Nat} {bt : Nat → Nat} (h : KB z z') (ht : TQ z n bt) : TQ z' n bt := TQ_K (K3_B h) ht
/-- the token from pos on is at hand -/
def tkX (z : xMem) (bt : Nat → Nat) (n pos : Nat) : Prop := z.1 0 2 = nI (pTok bt n pos).2.1 ∧ z.1 0 3 = nI (pTok bt n pos).2.2 ∧ z.1 0 4 = nI (pTok bt n pos).1
theorem tkX_of {z : xMem} {bt : Nat → Nat} {n pos c a b : Nat} (h : pTok bt n pos = (c, a, b)) (h2 : z.1 0 2 = nI a) (h3 : z.1 0 3 = nI b) (h4 : z.1 0 4 = nI c) : tkX z bt n pos := by
  unfold tkX
  rw [h]
  exact ⟨h2, h3, h4⟩
theorem dV_s (bt : Nat → Nat) (a k : Nat) (h : 48 ≤ bt (a + k)) : nI (pVal bt a k) * 10 + nI (bt (a + k)) - 48 = nI (pVal bt a (k + 1)) := by
  rw [pVal, show nI (pVal bt a k) * (10 : Int32) = nI (pVal bt a k * 10) from pk_mul _ 10, nI_add, show (48 : Int32) = nI 48 from rfl, pk_sub (by omega)]
  congr 1
  omega
theorem pSg_no : ∀ c, c < 256 → (¬ (c = 40 ∨ c = 41 ∨ c = 59 ∨ c = 43 ∨ c = 45 ∨ c = 42 ∨ c = 60 ∨ c = 61)) → pSg c = 10022 := by decide +kernel
/-- the words' letters -/
theorem sS_w : ∀ w, w < 12 → ∀ i, (pWl w).getD i 0 < 256 := by
  intro w hw i
  by_cases h : i < 6
  · exact (sS_b6 w hw i h).2.2
  · rw [List.getD_eq_getElem?_getD, List.getElem?_eq_none (by have := (sS_len w hw).2; rw [(sS_len w hw).1] at this; omega)]
    decide
theorem sSp_y {w : List Nat} {bt : Nat → Nat} {a b : Nat} (h : b - a = w.length) (h2 : ∀ j, j < w.length → bt (a + j) = w.getD j 0) : pSp w bt a b = true := by
  unfold pSp
  rw [decide_eq_true h, Bool.true_and, List.all_eq_true]
  intro x hx
  exact decide_eq_true (h2 x (List.mem_range.mp hx))
theorem sSp_n1 {w : List Nat} {bt : Nat → Nat} {a b : Nat} (h : ¬ b - a = w.length) : pSp w bt a b = false := by
  unfold pSp
  rw [decide_eq_false h, Bool.false_and]
theorem sSp_n2 {w : List Nat} {bt : Nat → Nat} {a b j : Nat} (hj : j < w.length) (h : ¬ bt (a + j) = w.getD j 0) : pSp w bt a b = false := by
  unfold pSp
  rw [Bool.and_eq_false_iff]
  right
  rw [List.all_eq_false]
  exact ⟨j, List.mem_range.mpr hj, by rw [decide_eq_false h]; decide⟩
set_option maxHeartbeats 4000000 in
set_option maxRecDepth 20000 in
theorem t_X5_within (l : Launch) (d : Nat) (v a b : Int32) (z : xMem) : XMz l d yX5_within cX5_within 3 (some .boolean) [] [.int v, .int a, .int b] z (fun _ => a.toInt ≤ v.toInt ∧ v.toInt ≤ b.toInt) (fun _ => ¬ (a.toInt ≤ v.toInt ∧ v.toInt ≤ b.toInt)) := by
  refine XM.of (by decide) (Nat.le_of_ble_eq_true rfl) (fun xp xe xs xm xar xbl xme xc xD xcs xad xAA xCC xhr => ?_)
  generalize xhQ : MQ xbl _ xar xs 0 0 xAA = xQ
  show ww xp l xe (xRm d) xs xm xar xbl xme xc 3 xD xcs xad [] xAA xQ 0 [(0, .int v), (1, .int a), (2, .int b)] [] z
  refine ww_blk xCC okX5_within 0 2 (ps := []) (pc' := 2) (lv' := [(0, .int v), (1, .int a), (2, .int b)]) (st' := [.int a, .int v]) (z' := z) rfl trivial ?_
  refine ww_br xCC okX5_within 2 (P := v < a) (t1 := 14) (t2 := 5) (r := []) rfl (fun c1 => ?_) (fun c1 => ?_)
  · skip
    refine ww_blk xCC okX5_within 8 1 (ps := []) (pc' := 15) (lv' := [(0, .int v), (1, .int a), (2, .int b)]) (st' := [.int 0]) (z' := z) rfl trivial ?_
    subst xhQ
    exact ww_iret xCC okX5_within 9 xhr rfl (by decide) (Or.inr ⟨rfl, (by simp only [Int32.lt_iff_toInt_lt, Int32.le_iff_toInt_le] at *; omega)⟩)
  · skip
    refine ww_blk xCC okX5_within 3 2 (ps := []) (pc' := 7) (lv' := [(0, .int v), (1, .int a), (2, .int b)]) (st' := [.int b, .int v]) (z' := z) rfl trivial ?_
    refine ww_br xCC okX5_within 5 (P := b < v) (t1 := 14) (t2 := 10) (r := []) rfl (fun c2 => ?_) (fun c2 => ?_)
    · skip
      refine ww_blk xCC okX5_within 8 1 (ps := []) (pc' := 15) (lv' := [(0, .int v), (1, .int a), (2, .int b)]) (st' := [.int 0]) (z' := z) rfl trivial ?_
      subst xhQ
      exact ww_iret xCC okX5_within 9 xhr rfl (by decide) (Or.inr ⟨rfl, (by simp only [Int32.lt_iff_toInt_lt, Int32.le_iff_toInt_le] at *; omega)⟩)
    · skip
      refine ww_blk xCC okX5_within 6 2 (ps := []) (pc' := 15) (lv' := [(0, .int v), (1, .int a), (2, .int b)]) (st' := [.int 1]) (z' := z) rfl trivial ?_
      subst xhQ
      exact ww_iret xCC okX5_within 9 xhr rfl (by decide) (Or.inl ⟨rfl, (by simp only [Int32.lt_iff_toInt_lt, Int32.le_iff_toInt_le] at *; omega)⟩)

set_option maxHeartbeats 4000000 in
set_option maxRecDepth 20000 in
theorem t_X3_isLetter (l : Launch) (d : Nat) (c : Nat) (hc : c < 256) (z : xMem) : XMz l (d + 1) yX3_isLetter cX3_isLetter 1 (some .boolean) [] [.int (nI c)] z (fun _ => pLe c = true) (fun _ => pLe c = false) := by
  refine XM.of (by decide) (Nat.le_of_ble_eq_true rfl) (fun xp xe xs xm xar xbl xme xc xD xcs xad xAA xCC xhr => ?_)
  generalize xhQ : MQ xbl _ xar xs 0 0 xAA = xQ
  show ww xp l xe (xRm (d + 1)) xs xm xar xbl xme xc 1 xD xcs xad [] xAA xQ 0 [(0, .int (nI c))] [] z
  refine ww_blk xCC okX3_isLetter 0 3 (ps := []) (pc' := 5) (lv' := [(0, .int (nI c))]) (st' := [.int 122, .int 97, .int (nI c)]) (z' := z) rfl trivial ?_
  refine ww_callSNz xCC okX3_isLetter 3 (ix := 83) (t_X5_within l d (nI c) 97 122 _) (by omega) (by decide) xyX5_within xiX5_within (Or.inr (List.mem_of_getElem? (i := 455) (by decide +kernel))) rfl (rest := []) rfl (Nat.le_of_ble_eq_true rfl) rfl (fun z1 h2 => ?_) (fun z1 h2 => ?_)
  · skip
    have h2 : 97 ≤ (nI c).toInt ∧ (nI c).toInt ≤ 122 := h2
    have h9 := h2
    rw [sTI (k := c) (by omega)] at h9
    subst xhQ
    exact ww_iret xCC okX3_isLetter 4 xhr rfl (by decide) (Or.inl ⟨rfl, (pLe_iff.mpr (by omega))⟩)
  · skip
    have h2 : ¬ (97 ≤ (nI c).toInt ∧ (nI c).toInt ≤ 122) := h2
    have h9 := h2
    rw [sTI (k := c) (by omega)] at h9
    subst xhQ
    exact ww_iret xCC okX3_isLetter 4 xhr rfl (by decide) (Or.inr ⟨rfl, (pLe_no.mpr (by omega))⟩)

set_option maxHeartbeats 4000000 in
set_option maxRecDepth 20000 in
theorem t_X3_isDigit (l : Launch) (d : Nat) (c : Nat) (hc : c < 256) (z : xMem) : XMz l (d + 1) yX3_isDigit cX3_isDigit 1 (some .boolean) [] [.int (nI c)] z (fun _ => pDi c = true) (fun _ => pDi c = false) := by
  refine XM.of (by decide) (Nat.le_of_ble_eq_true rfl) (fun xp xe xs xm xar xbl xme xc xD xcs xad xAA xCC xhr => ?_)
  generalize xhQ : MQ xbl _ xar xs 0 0 xAA = xQ
  show ww xp l xe (xRm (d + 1)) xs xm xar xbl xme xc 1 xD xcs xad [] xAA xQ 0 [(0, .int (nI c))] [] z
  refine ww_blk xCC okX3_isDigit 0 3 (ps := []) (pc' := 5) (lv' := [(0, .int (nI c))]) (st' := [.int 57, .int 48, .int (nI c)]) (z' := z) rfl trivial ?_
  refine ww_callSNz xCC okX3_isDigit 3 (ix := 83) (t_X5_within l d (nI c) 48 57 _) (by omega) (by decide) xyX5_within xiX5_within (Or.inr (List.mem_of_getElem? (i := 455) (by decide +kernel))) rfl (rest := []) rfl (Nat.le_of_ble_eq_true rfl) rfl (fun z1 h2 => ?_) (fun z1 h2 => ?_)
  · skip
    have h2 : 48 ≤ (nI c).toInt ∧ (nI c).toInt ≤ 57 := h2
    have h9 := h2
    rw [sTI (k := c) (by omega)] at h9
    subst xhQ
    exact ww_iret xCC okX3_isDigit 4 xhr rfl (by decide) (Or.inl ⟨rfl, (pDi_iff.mpr (by omega))⟩)
  · skip
    have h2 : ¬ (48 ≤ (nI c).toInt ∧ (nI c).toInt ≤ 57) := h2
    have h9 := h2
    rw [sTI (k := c) (by omega)] at h9
    subst xhQ
    exact ww_iret xCC okX3_isDigit 4 xhr rfl (by decide) (Or.inr ⟨rfl, (pDi_no.mpr (by omega))⟩)

set_option maxHeartbeats 4000000 in
set_option maxRecDepth 20000 in
theorem t_X3_signOf (l : Launch) (d : Nat) (c : Nat) (hc : c < 256) (z : xMem) : XMi l d yX3_signOf cX3_signOf 1 (some .int) [] [.int (nI c)] z (fun v _ => v = nI (pSg c)) := by
  refine XM.of (by decide) (Nat.le_of_ble_eq_true rfl) (fun xp xe xs xm xar xbl xme xc xD xcs xad xAA xCC xhr => ?_)
  generalize xhQ : MQ xbl _ xar xs 0 0 xAA = xQ
  show ww xp l xe (xRm d) xs xm xar xbl xme xc 1 xD xcs xad [] xAA xQ 0 [(0, .int (nI c))] [] z
  refine ww_blk xCC okX3_signOf 0 1 (ps := []) (pc' := 1) (lv' := [(0, .int (nI c))]) (st' := [.int (nI c)]) (z' := z) rfl trivial ?_
  refine ww_sw xCC okX3_signOf 1 (x := (nI c)) (L := [(40, 104), (41, 108), (42, 124), (43, 116), (44, 136), (45, 120), (46, 136), (47, 136), (48, 136), (49, 136), (50, 136), (51, 136), (52, 136), (53, 136), (54, 136), (55, 136), (56, 136), (57, 136), (58, 136), (59, 112), (60, 128), (61, 132)]) (P := (nI c).toInt < 40 ∨ 61 < (nI c).toInt) (t0 := 136) (r := []) rfl (fun c1 => ?_) (And.intro (fun c1 => ?_) (And.intro (fun c1 => ?_) (And.intro (fun c1 => ?_) (And.intro (fun c1 => ?_) (And.intro (fun c1 => ?_) (And.intro (fun c1 => ?_) (And.intro (fun c1 => ?_) (And.intro (fun c1 => ?_) (And.intro (fun c1 => ?_) (And.intro (fun c1 => ?_) (And.intro (fun c1 => ?_) (And.intro (fun c1 => ?_) (And.intro (fun c1 => ?_) (And.intro (fun c1 => ?_) (And.intro (fun c1 => ?_) (And.intro (fun c1 => ?_) (And.intro (fun c1 => ?_) (And.intro (fun c1 => ?_) (And.intro (fun c1 => ?_) (And.intro (fun c1 => ?_) (And.intro (fun c1 => ?_) ((fun c1 => ?_)))))))))))))))))))))))
  · skip
    rw [sTI (k := c) (by omega)] at c1
    refine ww_blk xCC okX3_signOf 18 1 (ps := []) (pc' := 139) (lv' := [(0, .int (nI c))]) (st' := [.int 10022]) (z' := z) rfl trivial ?_
    subst xhQ
    exact ww_iret xCC okX3_signOf 19 xhr rfl rfl ⟨_, rfl, (by rw [pSg_no c hc (by omega)]; rfl)⟩
  · have c1 : (nI c) = 40 := c1
    replace c1 : c = 40 := (sEQ (a := c) (b := 40) (by omega) (by omega)).mp c1
    show ww xp l xe (xRm d) xs xm xar xbl xme xc 1 xD xcs xad [] xAA xQ 104 [(0, .int (nI c))] [] z
    refine ww_blk xCC okX3_signOf 2 1 (ps := []) (pc' := 107) (lv' := [(0, .int (nI c))]) (st' := [.int 10018]) (z' := z) rfl trivial ?_
    subst xhQ
    exact ww_iret xCC okX3_signOf 3 xhr rfl rfl ⟨_, rfl, (by rw [show c = 40 by omega]; rfl)⟩
  · have c1 : (nI c) = 41 := c1
    replace c1 : c = 41 := (sEQ (a := c) (b := 41) (by omega) (by omega)).mp c1
    show ww xp l xe (xRm d) xs xm xar xbl xme xc 1 xD xcs xad [] xAA xQ 108 [(0, .int (nI c))] [] z
    refine ww_blk xCC okX3_signOf 4 1 (ps := []) (pc' := 111) (lv' := [(0, .int (nI c))]) (st' := [.int 10019]) (z' := z) rfl trivial ?_
    subst xhQ
    exact ww_iret xCC okX3_signOf 5 xhr rfl rfl ⟨_, rfl, (by rw [show c = 41 by omega]; rfl)⟩
  · have c1 : (nI c) = 42 := c1
    replace c1 : c = 42 := (sEQ (a := c) (b := 42) (by omega) (by omega)).mp c1
    show ww xp l xe (xRm d) xs xm xar xbl xme xc 1 xD xcs xad [] xAA xQ 124 [(0, .int (nI c))] [] z
    refine ww_blk xCC okX3_signOf 12 1 (ps := []) (pc' := 127) (lv' := [(0, .int (nI c))]) (st' := [.int 10012]) (z' := z) rfl trivial ?_
    subst xhQ
    exact ww_iret xCC okX3_signOf 13 xhr rfl rfl ⟨_, rfl, (by rw [show c = 42 by omega]; rfl)⟩
  · have c1 : (nI c) = 43 := c1
    replace c1 : c = 43 := (sEQ (a := c) (b := 43) (by omega) (by omega)).mp c1
    show ww xp l xe (xRm d) xs xm xar xbl xme xc 1 xD xcs xad [] xAA xQ 116 [(0, .int (nI c))] [] z
    refine ww_blk xCC okX3_signOf 8 1 (ps := []) (pc' := 119) (lv' := [(0, .int (nI c))]) (st' := [.int 10010]) (z' := z) rfl trivial ?_
    subst xhQ
    exact ww_iret xCC okX3_signOf 9 xhr rfl rfl ⟨_, rfl, (by rw [show c = 43 by omega]; rfl)⟩
  · have c1 : (nI c) = 44 := c1
    replace c1 : c = 44 := (sEQ (a := c) (b := 44) (by omega) (by omega)).mp c1
    show ww xp l xe (xRm d) xs xm xar xbl xme xc 1 xD xcs xad [] xAA xQ 136 [(0, .int (nI c))] [] z
    refine ww_blk xCC okX3_signOf 18 1 (ps := []) (pc' := 139) (lv' := [(0, .int (nI c))]) (st' := [.int 10022]) (z' := z) rfl trivial ?_
    subst xhQ
    exact ww_iret xCC okX3_signOf 19 xhr rfl rfl ⟨_, rfl, (by rw [show c = 44 by omega]; rfl)⟩
  · have c1 : (nI c) = 45 := c1
    replace c1 : c = 45 := (sEQ (a := c) (b := 45) (by omega) (by omega)).mp c1
    show ww xp l xe (xRm d) xs xm xar xbl xme xc 1 xD xcs xad [] xAA xQ 120 [(0, .int (nI c))] [] z
    refine ww_blk xCC okX3_signOf 10 1 (ps := []) (pc' := 123) (lv' := [(0, .int (nI c))]) (st' := [.int 10011]) (z' := z) rfl trivial ?_
    subst xhQ
    exact ww_iret xCC okX3_signOf 11 xhr rfl rfl ⟨_, rfl, (by rw [show c = 45 by omega]; rfl)⟩
  · have c1 : (nI c) = 46 := c1
    replace c1 : c = 46 := (sEQ (a := c) (b := 46) (by omega) (by omega)).mp c1
    show ww xp l xe (xRm d) xs xm xar xbl xme xc 1 xD xcs xad [] xAA xQ 136 [(0, .int (nI c))] [] z
    refine ww_blk xCC okX3_signOf 18 1 (ps := []) (pc' := 139) (lv' := [(0, .int (nI c))]) (st' := [.int 10022]) (z' := z) rfl trivial ?_
    subst xhQ
    exact ww_iret xCC okX3_signOf 19 xhr rfl rfl ⟨_, rfl, (by rw [show c = 46 by omega]; rfl)⟩
  · have c1 : (nI c) = 47 := c1
    replace c1 : c = 47 := (sEQ (a := c) (b := 47) (by omega) (by omega)).mp c1
    show ww xp l xe (xRm d) xs xm xar xbl xme xc 1 xD xcs xad [] xAA xQ 136 [(0, .int (nI c))] [] z
    refine ww_blk xCC okX3_signOf 18 1 (ps := []) (pc' := 139) (lv' := [(0, .int (nI c))]) (st' := [.int 10022]) (z' := z) rfl trivial ?_
    subst xhQ
    exact ww_iret xCC okX3_signOf 19 xhr rfl rfl ⟨_, rfl, (by rw [show c = 47 by omega]; rfl)⟩
  · have c1 : (nI c) = 48 := c1
    replace c1 : c = 48 := (sEQ (a := c) (b := 48) (by omega) (by omega)).mp c1
    show ww xp l xe (xRm d) xs xm xar xbl xme xc 1 xD xcs xad [] xAA xQ 136 [(0, .int (nI c))] [] z
    refine ww_blk xCC okX3_signOf 18 1 (ps := []) (pc' := 139) (lv' := [(0, .int (nI c))]) (st' := [.int 10022]) (z' := z) rfl trivial ?_
    subst xhQ
    exact ww_iret xCC okX3_signOf 19 xhr rfl rfl ⟨_, rfl, (by rw [show c = 48 by omega]; rfl)⟩
  · have c1 : (nI c) = 49 := c1
    replace c1 : c = 49 := (sEQ (a := c) (b := 49) (by omega) (by omega)).mp c1
    show ww xp l xe (xRm d) xs xm xar xbl xme xc 1 xD xcs xad [] xAA xQ 136 [(0, .int (nI c))] [] z
    refine ww_blk xCC okX3_signOf 18 1 (ps := []) (pc' := 139) (lv' := [(0, .int (nI c))]) (st' := [.int 10022]) (z' := z) rfl trivial ?_
    subst xhQ
    exact ww_iret xCC okX3_signOf 19 xhr rfl rfl ⟨_, rfl, (by rw [show c = 49 by omega]; rfl)⟩
  · have c1 : (nI c) = 50 := c1
    replace c1 : c = 50 := (sEQ (a := c) (b := 50) (by omega) (by omega)).mp c1
    show ww xp l xe (xRm d) xs xm xar xbl xme xc 1 xD xcs xad [] xAA xQ 136 [(0, .int (nI c))] [] z
    refine ww_blk xCC okX3_signOf 18 1 (ps := []) (pc' := 139) (lv' := [(0, .int (nI c))]) (st' := [.int 10022]) (z' := z) rfl trivial ?_
    subst xhQ
    exact ww_iret xCC okX3_signOf 19 xhr rfl rfl ⟨_, rfl, (by rw [show c = 50 by omega]; rfl)⟩
  · have c1 : (nI c) = 51 := c1
    replace c1 : c = 51 := (sEQ (a := c) (b := 51) (by omega) (by omega)).mp c1
    show ww xp l xe (xRm d) xs xm xar xbl xme xc 1 xD xcs xad [] xAA xQ 136 [(0, .int (nI c))] [] z
    refine ww_blk xCC okX3_signOf 18 1 (ps := []) (pc' := 139) (lv' := [(0, .int (nI c))]) (st' := [.int 10022]) (z' := z) rfl trivial ?_
    subst xhQ
    exact ww_iret xCC okX3_signOf 19 xhr rfl rfl ⟨_, rfl, (by rw [show c = 51 by omega]; rfl)⟩
  · have c1 : (nI c) = 52 := c1
    replace c1 : c = 52 := (sEQ (a := c) (b := 52) (by omega) (by omega)).mp c1
    show ww xp l xe (xRm d) xs xm xar xbl xme xc 1 xD xcs xad [] xAA xQ 136 [(0, .int (nI c))] [] z
    refine ww_blk xCC okX3_signOf 18 1 (ps := []) (pc' := 139) (lv' := [(0, .int (nI c))]) (st' := [.int 10022]) (z' := z) rfl trivial ?_
    subst xhQ
    exact ww_iret xCC okX3_signOf 19 xhr rfl rfl ⟨_, rfl, (by rw [show c = 52 by omega]; rfl)⟩
  · have c1 : (nI c) = 53 := c1
    replace c1 : c = 53 := (sEQ (a := c) (b := 53) (by omega) (by omega)).mp c1
    show ww xp l xe (xRm d) xs xm xar xbl xme xc 1 xD xcs xad [] xAA xQ 136 [(0, .int (nI c))] [] z
    refine ww_blk xCC okX3_signOf 18 1 (ps := []) (pc' := 139) (lv' := [(0, .int (nI c))]) (st' := [.int 10022]) (z' := z) rfl trivial ?_
    subst xhQ
    exact ww_iret xCC okX3_signOf 19 xhr rfl rfl ⟨_, rfl, (by rw [show c = 53 by omega]; rfl)⟩
  · have c1 : (nI c) = 54 := c1
    replace c1 : c = 54 := (sEQ (a := c) (b := 54) (by omega) (by omega)).mp c1
    show ww xp l xe (xRm d) xs xm xar xbl xme xc 1 xD xcs xad [] xAA xQ 136 [(0, .int (nI c))] [] z
    refine ww_blk xCC okX3_signOf 18 1 (ps := []) (pc' := 139) (lv' := [(0, .int (nI c))]) (st' := [.int 10022]) (z' := z) rfl trivial ?_
    subst xhQ
    exact ww_iret xCC okX3_signOf 19 xhr rfl rfl ⟨_, rfl, (by rw [show c = 54 by omega]; rfl)⟩
  · have c1 : (nI c) = 55 := c1
    replace c1 : c = 55 := (sEQ (a := c) (b := 55) (by omega) (by omega)).mp c1
    show ww xp l xe (xRm d) xs xm xar xbl xme xc 1 xD xcs xad [] xAA xQ 136 [(0, .int (nI c))] [] z
    refine ww_blk xCC okX3_signOf 18 1 (ps := []) (pc' := 139) (lv' := [(0, .int (nI c))]) (st' := [.int 10022]) (z' := z) rfl trivial ?_
    subst xhQ
    exact ww_iret xCC okX3_signOf 19 xhr rfl rfl ⟨_, rfl, (by rw [show c = 55 by omega]; rfl)⟩
  · have c1 : (nI c) = 56 := c1
    replace c1 : c = 56 := (sEQ (a := c) (b := 56) (by omega) (by omega)).mp c1
    show ww xp l xe (xRm d) xs xm xar xbl xme xc 1 xD xcs xad [] xAA xQ 136 [(0, .int (nI c))] [] z
    refine ww_blk xCC okX3_signOf 18 1 (ps := []) (pc' := 139) (lv' := [(0, .int (nI c))]) (st' := [.int 10022]) (z' := z) rfl trivial ?_
    subst xhQ
    exact ww_iret xCC okX3_signOf 19 xhr rfl rfl ⟨_, rfl, (by rw [show c = 56 by omega]; rfl)⟩
  · have c1 : (nI c) = 57 := c1
    replace c1 : c = 57 := (sEQ (a := c) (b := 57) (by omega) (by omega)).mp c1
    show ww xp l xe (xRm d) xs xm xar xbl xme xc 1 xD xcs xad [] xAA xQ 136 [(0, .int (nI c))] [] z
    refine ww_blk xCC okX3_signOf 18 1 (ps := []) (pc' := 139) (lv' := [(0, .int (nI c))]) (st' := [.int 10022]) (z' := z) rfl trivial ?_
    subst xhQ
    exact ww_iret xCC okX3_signOf 19 xhr rfl rfl ⟨_, rfl, (by rw [show c = 57 by omega]; rfl)⟩
  · have c1 : (nI c) = 58 := c1
    replace c1 : c = 58 := (sEQ (a := c) (b := 58) (by omega) (by omega)).mp c1
    show ww xp l xe (xRm d) xs xm xar xbl xme xc 1 xD xcs xad [] xAA xQ 136 [(0, .int (nI c))] [] z
    refine ww_blk xCC okX3_signOf 18 1 (ps := []) (pc' := 139) (lv' := [(0, .int (nI c))]) (st' := [.int 10022]) (z' := z) rfl trivial ?_
    subst xhQ
    exact ww_iret xCC okX3_signOf 19 xhr rfl rfl ⟨_, rfl, (by rw [show c = 58 by omega]; rfl)⟩
  · have c1 : (nI c) = 59 := c1
    replace c1 : c = 59 := (sEQ (a := c) (b := 59) (by omega) (by omega)).mp c1
    show ww xp l xe (xRm d) xs xm xar xbl xme xc 1 xD xcs xad [] xAA xQ 112 [(0, .int (nI c))] [] z
    refine ww_blk xCC okX3_signOf 6 1 (ps := []) (pc' := 115) (lv' := [(0, .int (nI c))]) (st' := [.int 10020]) (z' := z) rfl trivial ?_
    subst xhQ
    exact ww_iret xCC okX3_signOf 7 xhr rfl rfl ⟨_, rfl, (by rw [show c = 59 by omega]; rfl)⟩
  · have c1 : (nI c) = 60 := c1
    replace c1 : c = 60 := (sEQ (a := c) (b := 60) (by omega) (by omega)).mp c1
    show ww xp l xe (xRm d) xs xm xar xbl xme xc 1 xD xcs xad [] xAA xQ 128 [(0, .int (nI c))] [] z
    refine ww_blk xCC okX3_signOf 14 1 (ps := []) (pc' := 131) (lv' := [(0, .int (nI c))]) (st' := [.int 10008]) (z' := z) rfl trivial ?_
    subst xhQ
    exact ww_iret xCC okX3_signOf 15 xhr rfl rfl ⟨_, rfl, (by rw [show c = 60 by omega]; rfl)⟩
  · have c1 : (nI c) = 61 := c1
    replace c1 : c = 61 := (sEQ (a := c) (b := 61) (by omega) (by omega)).mp c1
    show ww xp l xe (xRm d) xs xm xar xbl xme xc 1 xD xcs xad [] xAA xQ 132 [(0, .int (nI c))] [] z
    refine ww_blk xCC okX3_signOf 16 1 (ps := []) (pc' := 135) (lv' := [(0, .int (nI c))]) (st' := [.int 10009]) (z' := z) rfl trivial ?_
    subst xhQ
    exact ww_iret xCC okX3_signOf 17 xhr rfl rfl ⟨_, rfl, (by rw [show c = 61 by omega]; rfl)⟩

set_option maxHeartbeats 4000000 in
set_option maxRecDepth 20000 in
theorem t_X3_digits (l : Launch) (d : Nat) (n a : Nat) (bt : Nat → Nat) (z : xMem) (ht : TQ z n bt) (hpl : z.1 0 2 = nI a) (hbe : z.1 0 3 = nI a) (han : a ≤ n) : XMi l (d + 2) yX3_digits cX3_digits 2 (some .int) shT2 [.ref 0] z (fun v z' => v = nI (if 4 < pRun pDi bt n a - a then 10022 else pVal bt a (pRun pDi bt n a - a)) ∧ z'.1 0 3 = nI (pRun pDi bt n a) ∧ KB z z') := by
  refine XM.of (by decide) (Nat.le_of_ble_eq_true rfl) (fun xp xe xs xm xar xbl xme xc xD xcs xad xAA xCC xhr => ?_)
  generalize xhQ : MQ xbl _ xar xs 0 0 xAA = xQ
  show ww xp l xe (xRm (d + 2)) xs xm xar xbl xme xc 2 xD xcs xad shT2 xAA xQ 0 [(0, .ref 0)] [] z
  have hn := ht.2.1
  refine ww_blk xCC okX3_digits 0 2 (ps := []) (pc' := 2) (lv' := [(1, .int 0), (0, .ref 0)]) (st' := []) (z' := z) rfl trivial ?_
  have L2 : ∀ (n2 : Nat) (k : Nat) (zL : xMem), n - (a + k) < n2 → (zL.1 0 3 = nI (a + k)) → (KB z zL) → (pRun pDi bt n a = pRun pDi bt n (a + k)) → (a + k ≤ n) → ww xp l xe (xRm (d + 2)) xs xm xar xbl xme xc 2 xD xcs xad shT2 xAA xQ 2 [(1, .int (nI (pVal bt a k))), (0, .ref 0)] [] zL := by
    intro n2
    induction n2 with
    | zero =>
      intro k zL hmu2
      exact absurd hmu2 (Nat.not_lt_zero _)
    | succ n2 ih2 =>
      intro k zL hmu2 e2_0 e2_1 e2_2 e2_3
      refine ww_blk xCC okX3_digits 2 4 (ps := []) (pc' := 10) (lv' := [(1, .int (nI (pVal bt a k))), (0, .ref 0)]) (st' := [.int (zL.1 0 1), .int (zL.1 0 3)]) (z' := zL) rfl trivial ?_
      rw [show zL.1 0 1 = nI n from (e2_1.2 1 (by decide)).trans ht.1]
      rw [e2_0]
      refine ww_br xCC okX3_digits 6 (P := (nI n) ≤ (nI (a + k))) (t1 := 59) (t2 := 13) (r := []) rfl (fun c1 => ?_) (fun c1 => ?_)
      · skip
        replace c1 : n ≤ (a + k) := (sLE (a := n) (b := (a + k)) (by omega) (by omega)).mp c1
        have hend : pRun pDi bt n a = a + k := by rw [e2_2]; exact pRun_end (by omega)
        refine ww_blk xCC okX3_digits 33 6 (ps := []) (pc' := 69) (lv' := [(1, .int (nI (pVal bt a k))), (0, .ref 0)]) (st' := [.int 4, .int ((zL.1 0 3) - (zL.1 0 2))]) (z' := zL) rfl trivial ?_
        rw [e2_0]
        rw [show zL.1 0 2 = nI a from (e2_1.2 2 (by decide)).trans hpl]
        rw [show nI (a + k) - nI a = nI k from (pk_sub (by omega)).trans (by rw [Nat.add_sub_cancel_left])]
        refine ww_br xCC okX3_digits 39 (P := (nI k) ≤ 4) (t1 := 78) (t2 := 72) (r := []) rfl (fun c2 => ?_) (fun c2 => ?_)
        · skip
          replace c2 : k ≤ 4 := (sLE (a := k) (b := 4) (by omega) (by omega)).mp c2
          refine ww_blk xCC okX3_digits 42 1 (ps := []) (pc' := 79) (lv' := [(1, .int (nI (pVal bt a k))), (0, .ref 0)]) (st' := [.int (nI (pVal bt a k))]) (z' := zL) rfl trivial ?_
          subst xhQ
          exact ww_iret xCC okX3_digits 43 xhr rfl rfl ⟨_, rfl, ⟨(by rw [hend, Nat.add_sub_cancel_left, if_neg (by omega)]), (by rw [hend]; exact e2_0), e2_1⟩⟩
        · skip
          replace c2 : ¬ k ≤ 4 := fun q => c2 ((sLE (a := k) (b := 4) (by omega) (by omega)).mpr q)
          refine ww_blk xCC okX3_digits 40 2 (ps := []) (pc' := 79) (lv' := [(1, .int (nI (pVal bt a k))), (0, .ref 0)]) (st' := [.int 10022]) (z' := zL) rfl trivial ?_
          subst xhQ
          exact ww_iret xCC okX3_digits 43 xhr rfl rfl ⟨_, rfl, ⟨(by rw [hend, Nat.add_sub_cancel_left, if_pos (by omega)]; rfl), (by rw [hend]; exact e2_0), e2_1⟩⟩
      · skip
        replace c1 : ¬ n ≤ (a + k) := fun q => c1 ((sLE (a := n) (b := (a + k)) (by omega) (by omega)).mpr q)
        refine ww_blk xCC okX3_digits 7 5 (ps := [vp_in (zL.1 0 3) 160]) (pc' := 22) (lv' := [(1, .int (nI (pVal bt a k))), (0, .ref 0)]) (st' := [.int (zL.1 1 (zL.1 0 3).toNatClampNeg)]) (z' := zL) rfl (by rw [e2_0]; exact vp_in_nI (by omega) (by decide)) ?_
        rw [e2_0]
        rw [sCL (n := (a + k)) (by omega)]
        rw [show zL.1 1 (a + k) = nI (bt (a + k)) from (congrFun (e2_1.1 1 (by decide)) _).trans (ht.2.2.1 _ (by omega))]
        refine ww_callSNz xCC okX3_digits 12 (ix := 73) (t_X3_isDigit l d (bt (a + k)) (ht.2.2.2 _) _) (by omega) (by decide) xyX3_isDigit xiX3_isDigit (Or.inl (lw_gt_of (List.mem_of_getElem? (i := 524) (by decide +kernel)) rfl)) rfl (rest := []) rfl (Nat.le_of_ble_eq_true rfl) rfl (fun z3 h4 => ?_) (fun z3 h4 => ?_)
        · skip
          have h25 := h4
          refine ww_br xCC okX3_digits 13 (P := 1 = 0) (t1 := 59) (t2 := 28) (r := []) rfl (fun q => absurd q (by decide)) (fun _ => ?_)
          refine ww_blk xCC okX3_digits 14 19 (ps := [vp_in (zL.1 0 3) 160]) (pc' := 2) (lv' := [(1, .int ((((nI (pVal bt a k)) * 10) + (zL.1 1 (zL.1 0 3).toNatClampNeg)) - 48)), (0, .ref 0)]) (st' := []) (z' := (mPut zL 0 3 ((zL.1 0 3) + 1))) rfl (by rw [e2_0]; exact vp_in_nI (by omega) (by decide)) ?_
          rw [e2_0]
          rw [sCL (n := (a + k)) (by omega)]
          rw [show zL.1 1 (a + k) = nI (bt (a + k)) from (congrFun (e2_1.1 1 (by decide)) _).trans (ht.2.2.1 _ (by omega))]
          rw [show nI (a + k) + (1 : Int32) = nI (a + k + 1) from nI_add _ 1]
          exact ww_cut [0, 1] (xlc (congrArg Value.int (show ((((nI (pVal bt a k)) * 10) + (nI (bt (a + k)))) - 48 : Int32) = nI (pVal bt a (k + 1)) from (dV_s bt a k (pDi_iff.mp h25).1))) (xlc rfl rfl)) rfl rfl (ih2 (k + 1) (mPut zL 0 3 (nI (a + k + 1))) (by omega) mPut_at (KB_put e2_1) (e2_2.trans (pRun_go (by omega) h25)) (by omega))
        · skip
          have h25 := h4
          have hend : pRun pDi bt n a = a + k := by rw [e2_2]; exact pRun_end (fun q => by rw [h25] at q; exact absurd q.2 (by decide))
          refine ww_br xCC okX3_digits 13 (P := 0 = 0) (t1 := 59) (t2 := 28) (r := []) rfl (fun _ => ?_) (fun q => absurd (by decide) q)
          refine ww_blk xCC okX3_digits 33 6 (ps := []) (pc' := 69) (lv' := [(1, .int (nI (pVal bt a k))), (0, .ref 0)]) (st' := [.int 4, .int ((zL.1 0 3) - (zL.1 0 2))]) (z' := zL) rfl trivial ?_
          rw [e2_0]
          rw [show zL.1 0 2 = nI a from (e2_1.2 2 (by decide)).trans hpl]
          rw [show nI (a + k) - nI a = nI k from (pk_sub (by omega)).trans (by rw [Nat.add_sub_cancel_left])]
          refine ww_br xCC okX3_digits 39 (P := (nI k) ≤ 4) (t1 := 78) (t2 := 72) (r := []) rfl (fun c7 => ?_) (fun c7 => ?_)
          · skip
            replace c7 : k ≤ 4 := (sLE (a := k) (b := 4) (by omega) (by omega)).mp c7
            refine ww_blk xCC okX3_digits 42 1 (ps := []) (pc' := 79) (lv' := [(1, .int (nI (pVal bt a k))), (0, .ref 0)]) (st' := [.int (nI (pVal bt a k))]) (z' := zL) rfl trivial ?_
            subst xhQ
            exact ww_iret xCC okX3_digits 43 xhr rfl rfl ⟨_, rfl, ⟨(by rw [hend, Nat.add_sub_cancel_left, if_neg (by omega)]), (by rw [hend]; exact e2_0), e2_1⟩⟩
          · skip
            replace c7 : ¬ k ≤ 4 := fun q => c7 ((sLE (a := k) (b := 4) (by omega) (by omega)).mpr q)
            refine ww_blk xCC okX3_digits 40 2 (ps := []) (pc' := 79) (lv' := [(1, .int (nI (pVal bt a k))), (0, .ref 0)]) (st' := [.int 10022]) (z' := zL) rfl trivial ?_
            subst xhQ
            exact ww_iret xCC okX3_digits 43 xhr rfl rfl ⟨_, rfl, ⟨(by rw [hend, Nat.add_sub_cancel_left, if_pos (by omega)]; rfl), (by rw [hend]; exact e2_0), e2_1⟩⟩
  exact ww_cut [0, 1] (xlc (congrArg Value.int (show (0 : Int32) = nI (pVal bt a 0) from rfl)) (xlc rfl rfl)) rfl rfl (L2 (n - (a + 0) + 1) 0 z (Nat.lt_succ_self _) hbe (KB_rf z) rfl han)

set_option maxHeartbeats 4000000 in
set_option maxRecDepth 20000 in
theorem t_X3_spells (l : Launch) (d : Nat) (w n a b : Nat) (bt : Nat → Nat) (z : xMem) (ht : TQ z n bt) (hpl : z.1 0 2 = nI a) (hbe : z.1 0 3 = nI b) (hab : a ≤ b) (hbn : b ≤ n) (hw : w < 12) : XMz l (d + 6) yX3_spells cX3_spells 4 (some .boolean) shT2 [.ref 0, .ref (2000 + w)] z (fun z' => pSp (pWl w) bt a b = true ∧ z' = z) (fun z' => pSp (pWl w) bt a b = false ∧ z' = z) := by
  refine XM.of (by decide) (Nat.le_of_ble_eq_true rfl) (fun xp xe xs xm xar xbl xme xc xD xcs xad xAA xCC xhr => ?_)
  generalize xhQ : MQ xbl _ xar xs 0 0 xAA = xQ
  show ww xp l xe (xRm (d + 6)) xs xm xar xbl xme xc 4 xD xcs xad shT2 xAA xQ 0 [(0, .ref 0), (1, .ref (2000 + w))] [] z
  have hn := ht.2.1
  have hL6 := (sS_len w hw).2
  rw [(sS_len w hw).1] at hL6
  have hbt := ht.2.2.2
  have hwb := sS_w w hw
  refine ww_blk xCC okX3_spells 0 1 (ps := []) (pc' := 1) (lv' := [(0, .ref 0), (1, .ref (2000 + w))]) (st' := [.ref (2000 + w)]) (z' := z) rfl trivial ?_
  refine ww_callVSi xCC okX3_spells 1 (ix := 115) (t_J0_length_8abf5 l d w hw _) (by omega) (by decide) xyJ0_length_8abf5 xiJ0_length_8abf5 (Or.inl (lw_gt_of (List.mem_of_getElem? (i := 465) (by decide +kernel)) rfl)) hw rfl rfl (rest := []) rfl (Nat.le_of_ble_eq_true rfl) rfl (fun v3 z1 h2 => ?_)
  rw [h2, (sS_len w hw).1]
  refine ww_blk xCC okX3_spells 2 7 (ps := []) (pc' := 15) (lv' := [(2, .int (nI ((pWl w).length))), (0, .ref 0), (1, .ref (2000 + w))]) (st' := [.int (nI ((pWl w).length)), .int ((z.1 0 3) - (z.1 0 2))]) (z' := z) rfl trivial ?_
  rw [hbe]
  rw [hpl]
  rw [show nI b - nI a = nI (b - a) from pk_sub (by omega)]
  refine ww_br xCC okX3_spells 9 (P := (nI (b - a)) = (nI ((pWl w).length))) (t1 := 20) (t2 := 18) (r := []) rfl (fun c4 => ?_) (fun c4 => ?_)
  · skip
    replace c4 : (b - a) = ((pWl w).length) := (sEQ (a := (b - a)) (b := ((pWl w).length)) (by omega) (by omega)).mp c4
    have h15 := c4
    refine ww_blk xCC okX3_spells 12 2 (ps := []) (pc' := 22) (lv' := [(3, .int 0), (2, .int (nI ((pWl w).length))), (0, .ref 0), (1, .ref (2000 + w))]) (st' := []) (z' := z) rfl trivial ?_
    have L22 : ∀ (n22 : Nat) (i : Nat), (pWl w).length - i < n22 → (i ≤ (pWl w).length) → (∀ j, j < i → bt (a + j) = (pWl w).getD j 0) → ww xp l xe (xRm (d + 6)) xs xm xar xbl xme xc 4 xD xcs xad shT2 xAA xQ 22 [(3, .int (nI i)), (2, .int (nI ((pWl w).length))), (0, .ref 0), (1, .ref (2000 + w))] [] z := by
      intro n22
      induction n22 with
      | zero =>
        intro i hmu22
        exact absurd hmu22 (Nat.not_lt_zero _)
      | succ n22 ih22 =>
        intro i hmu22 e22_0 e22_1
        have hbi := hbt (a + i)
        have hwi := hwb i
        refine ww_blk xCC okX3_spells 14 2 (ps := []) (pc' := 24) (lv' := [(3, .int (nI i)), (2, .int (nI ((pWl w).length))), (0, .ref 0), (1, .ref (2000 + w))]) (st' := [.int (nI ((pWl w).length)), .int (nI i)]) (z' := z) rfl trivial ?_
        refine ww_br xCC okX3_spells 16 (P := (nI ((pWl w).length)) ≤ (nI i)) (t1 := 54) (t2 := 27) (r := []) rfl (fun c5 => ?_) (fun c5 => ?_)
        · skip
          replace c5 : ((pWl w).length) ≤ i := (sLE (a := ((pWl w).length)) (b := i) (by omega) (by omega)).mp c5
          refine ww_blk xCC okX3_spells 32 1 (ps := []) (pc' := 55) (lv' := [(3, .int (nI i)), (2, .int (nI ((pWl w).length))), (0, .ref 0), (1, .ref (2000 + w))]) (st' := [.int 1]) (z' := z) rfl trivial ?_
          subst xhQ
          exact ww_iret xCC okX3_spells 33 xhr rfl (by decide) (Or.inl ⟨rfl, ⟨(sSp_y h15 (fun j hj => e22_1 j (by omega))), rfl⟩⟩)
        · skip
          replace c5 : ¬ ((pWl w).length) ≤ i := fun q => c5 ((sLE (a := ((pWl w).length)) (b := i) (by omega) (by omega)).mpr q)
          refine ww_blk xCC okX3_spells 17 9 (ps := [vp_in ((z.1 0 2) + (nI i)) 160]) (pc' := 40) (lv' := [(3, .int (nI i)), (2, .int (nI ((pWl w).length))), (0, .ref 0), (1, .ref (2000 + w))]) (st' := [.int (nI i), .ref (2000 + w), .int (z.1 1 ((z.1 0 2) + (nI i)).toNatClampNeg)]) (z' := z) rfl (by rw [hpl, show nI a + nI i = nI (a + i) from nI_add a i]; exact vp_in_nI (by omega) (by decide)) ?_
          rw [hpl]
          rw [show nI a + nI i = nI (a + i) from nI_add a i]
          rw [sCL (n := (a + i)) (by omega)]
          rw [ht.2.2.1 (a + i) (by omega)]
          refine ww_callVSi xCC okX3_spells 26 (ix := 120) (t_J0_charAt_5068e l d w i hw (by rw [(sS_len w hw).1]; omega) _) (by omega) (by decide) xyJ0_charAt_5068e xiJ0_charAt_5068e (Or.inl (lw_gt_of (List.mem_of_getElem? (i := 475) (by decide +kernel)) rfl)) hw rfl rfl (rest := [.int (nI (bt (a + i)))]) rfl (Nat.le_of_ble_eq_true rfl) rfl (fun v8 z6 h7 => ?_)
          rw [h7]
          refine ww_br xCC okX3_spells 27 (P := (nI (bt (a + i))) = (nI ((pWl w).getD i 0))) (t1 := 48) (t2 := 46) (r := []) rfl (fun c9 => ?_) (fun c9 => ?_)
          · skip
            replace c9 : (bt (a + i)) = ((pWl w).getD i 0) := (sEQ (a := (bt (a + i))) (b := ((pWl w).getD i 0)) (by omega) (by omega)).mp c9
            have h43 := c9
            refine ww_blk xCC okX3_spells 30 2 (ps := []) (pc' := 22) (lv' := [(3, .int ((nI i) + 1)), (2, .int (nI ((pWl w).length))), (0, .ref 0), (1, .ref (2000 + w))]) (st' := []) (z' := z) rfl trivial ?_
            rw [show nI i + (1 : Int32) = nI (i + 1) from nI_add i 1]
            exact ww_cut [0, 1, 2, 3] (xlc rfl (xlc rfl (xlc rfl (xlc rfl rfl)))) rfl rfl (ih22 (i + 1) (by omega) (by omega) (fun j hj => by rcases Nat.lt_succ_iff_lt_or_eq.mp hj with q | q; exact e22_1 j q; rw [q]; exact h43))
          · skip
            replace c9 : ¬ (bt (a + i)) = ((pWl w).getD i 0) := fun q => c9 ((sEQ (a := (bt (a + i))) (b := ((pWl w).getD i 0)) (by omega) (by omega)).mpr q)
            have h43 := c9
            refine ww_blk xCC okX3_spells 28 1 (ps := []) (pc' := 47) (lv' := [(3, .int (nI i)), (2, .int (nI ((pWl w).length))), (0, .ref 0), (1, .ref (2000 + w))]) (st' := [.int 0]) (z' := z) rfl trivial ?_
            subst xhQ
            exact ww_iret xCC okX3_spells 29 xhr rfl (by decide) (Or.inr ⟨rfl, ⟨(sSp_n2 (j := i) (by omega) h43), rfl⟩⟩)
    exact ww_cut [0, 1, 2, 3] (xlc (congrArg Value.int (show (0 : Int32) = nI 0 from rfl)) (xlc rfl (xlc rfl (xlc rfl rfl)))) rfl rfl (L22 ((pWl w).length - 0 + 1) 0 (Nat.lt_succ_self _) (Nat.zero_le _) (fun j hj => absurd hj (Nat.not_lt_zero j)))
  · skip
    replace c4 : ¬ (b - a) = ((pWl w).length) := fun q => c4 ((sEQ (a := (b - a)) (b := ((pWl w).length)) (by omega) (by omega)).mpr q)
    have h15 := c4
    refine ww_blk xCC okX3_spells 10 1 (ps := []) (pc' := 19) (lv' := [(2, .int (nI ((pWl w).length))), (0, .ref 0), (1, .ref (2000 + w))]) (st' := [.int 0]) (z' := z) rfl trivial ?_
    subst xhQ
    exact ww_iret xCC okX3_spells 11 xhr rfl (by decide) (Or.inr ⟨rfl, ⟨(sSp_n1 h15), rfl⟩⟩)

set_option maxHeartbeats 4000000 in
set_option maxRecDepth 20000 in
theorem t_X3_word (l : Launch) (d : Nat) (n a : Nat) (bt : Nat → Nat) (z : xMem) (ht : TQ z n bt) (hpl : z.1 0 2 = nI a) (hbe : z.1 0 3 = nI a) (han : a ≤ n) : XMi l (d + 7) yX3_word cX3_word 1 (some .int) shT2 [.ref 0] z (fun v z' => v = nI (pWd bt a (pRun pLe bt n a) pWords) ∧ z'.1 0 3 = nI (pRun pLe bt n a) ∧ KB z z') := by
  refine XM.of (by decide) (Nat.le_of_ble_eq_true rfl) (fun xp xe xs xm xar xbl xme xc xD xcs xad xAA xCC xhr => ?_)
  generalize xhQ : MQ xbl _ xar xs 0 0 xAA = xQ
  show ww xp l xe (xRm (d + 7)) xs xm xar xbl xme xc 1 xD xcs xad shT2 xAA xQ 0 [(0, .ref 0)] [] z
  have hn := ht.2.1
  have L0 : ∀ (n0 : Nat) (k : Nat) (zL : xMem), n - (a + k) < n0 → (zL.1 0 3 = nI (a + k)) → (KB z zL) → (pRun pLe bt n a = pRun pLe bt n (a + k)) → (a + k ≤ n) → ww xp l xe (xRm (d + 7)) xs xm xar xbl xme xc 1 xD xcs xad shT2 xAA xQ 0 [(0, .ref 0)] [] zL := by
    intro n0
    induction n0 with
    | zero =>
      intro k zL hmu0
      exact absurd hmu0 (Nat.not_lt_zero _)
    | succ n0 ih0 =>
      intro k zL hmu0 e0_0 e0_1 e0_2 e0_3
      refine ww_blk xCC okX3_word 0 4 (ps := []) (pc' := 8) (lv' := [(0, .ref 0)]) (st' := [.int (zL.1 0 1), .int (zL.1 0 3)]) (z' := zL) rfl trivial ?_
      rw [show zL.1 0 1 = nI n from (e0_1.2 1 (by decide)).trans ht.1]
      rw [e0_0]
      refine ww_br xCC okX3_word 4 (P := (nI n) ≤ (nI (a + k))) (t1 := 39) (t2 := 11) (r := []) rfl (fun c1 => ?_) (fun c1 => ?_)
      · skip
        replace c1 : n ≤ (a + k) := (sLE (a := n) (b := (a + k)) (by omega) (by omega)).mp c1
        have hend : pRun pLe bt n a = a + k := by rw [e0_2]; exact pRun_end (by omega)
        have L39 : (pRun pLe bt n a = a + k) → ww xp l xe (xRm (d + 7)) xs xm xar xbl xme xc 1 xD xcs xad shT2 xAA xQ 39 [(0, .ref 0)] [] zL := by
          intro  e39_0
          have hend := e39_0
          refine ww_blk xCC okX3_word 19 2 (ps := []) (pc' := 42) (lv' := [(0, .ref 0)]) (st' := [.ref 2000, .ref 0]) (z' := zL) rfl trivial ?_
          refine ww_callVIz xCC okX3_word 21 (ix := 89) (t_X3_spells l d 0 n a (pRun pLe bt n a) bt zL (TQ_B e0_1 ht) ((e0_1.2 2 (by decide)).trans hpl) (by rw [e0_0, ← hend]) (pRun_ge _ _ _ _) (pRun_le _ _ _ _ han) (by decide)) (by omega) (by decide) xyX3_spells xiX3_spells (Or.inl (lw_gt_of (List.mem_of_getElem? (i := 461) (by decide +kernel)) rfl)) rfl rfl rfl (rest := []) rfl (Nat.le_of_ble_eq_true rfl) rfl (fun z2 h3 => ?_) (fun z2 h3 => ?_)
          · skip
            rw [h3.2]
            have hs0 := h3.1
            rw [show pWl 0 = [104, 97, 114, 109] from rfl] at hs0
            refine ww_br xCC okX3_word 22 (P := 1 = 0) (t1 := 52) (t2 := 48) (r := []) rfl (fun q => absurd q (by decide)) (fun _ => ?_)
            refine ww_blk xCC okX3_word 23 1 (ps := []) (pc' := 51) (lv' := [(0, .ref 0)]) (st' := [.int 10000]) (z' := zL) rfl trivial ?_
            subst xhQ
            exact ww_iret xCC okX3_word 24 xhr rfl rfl ⟨_, rfl, ⟨(by simp only [pWd, pWords, hs0, if_true, Bool.false_eq_true, if_false]; rfl), (by rw [hend]; exact e0_0), e0_1⟩⟩
          · skip
            rw [h3.2]
            have hs0 := h3.1
            rw [show pWl 0 = [104, 97, 114, 109] from rfl] at hs0
            refine ww_br xCC okX3_word 22 (P := 0 = 0) (t1 := 52) (t2 := 48) (r := []) rfl (fun _ => ?_) (fun q => absurd (by decide) q)
            refine ww_blk xCC okX3_word 25 2 (ps := []) (pc' := 55) (lv' := [(0, .ref 0)]) (st' := [.ref 2001, .ref 0]) (z' := zL) rfl trivial ?_
            refine ww_callVIz xCC okX3_word 27 (ix := 89) (t_X3_spells l d 1 n a (pRun pLe bt n a) bt zL (TQ_B e0_1 ht) ((e0_1.2 2 (by decide)).trans hpl) (by rw [e0_0, ← hend]) (pRun_ge _ _ _ _) (pRun_le _ _ _ _ han) (by decide)) (by omega) (by decide) xyX3_spells xiX3_spells (Or.inl (lw_gt_of (List.mem_of_getElem? (i := 461) (by decide +kernel)) rfl)) rfl rfl rfl (rest := []) rfl (Nat.le_of_ble_eq_true rfl) rfl (fun z6 h7 => ?_) (fun z6 h7 => ?_)
            · skip
              rw [h7.2]
              have hs1 := h7.1
              rw [show pWl 1 = [108, 97, 119, 115] from rfl] at hs1
              refine ww_br xCC okX3_word 28 (P := 1 = 0) (t1 := 65) (t2 := 61) (r := []) rfl (fun q => absurd q (by decide)) (fun _ => ?_)
              refine ww_blk xCC okX3_word 29 1 (ps := []) (pc' := 64) (lv' := [(0, .ref 0)]) (st' := [.int 10001]) (z' := zL) rfl trivial ?_
              subst xhQ
              exact ww_iret xCC okX3_word 30 xhr rfl rfl ⟨_, rfl, ⟨(by simp only [pWd, pWords, hs0, hs1, if_true, Bool.false_eq_true, if_false]; rfl), (by rw [hend]; exact e0_0), e0_1⟩⟩
            · skip
              rw [h7.2]
              have hs1 := h7.1
              rw [show pWl 1 = [108, 97, 119, 115] from rfl] at hs1
              refine ww_br xCC okX3_word 28 (P := 0 = 0) (t1 := 65) (t2 := 61) (r := []) rfl (fun _ => ?_) (fun q => absurd (by decide) q)
              refine ww_blk xCC okX3_word 31 2 (ps := []) (pc' := 68) (lv' := [(0, .ref 0)]) (st' := [.ref 2002, .ref 0]) (z' := zL) rfl trivial ?_
              refine ww_callVIz xCC okX3_word 33 (ix := 89) (t_X3_spells l d 2 n a (pRun pLe bt n a) bt zL (TQ_B e0_1 ht) ((e0_1.2 2 (by decide)).trans hpl) (by rw [e0_0, ← hend]) (pRun_ge _ _ _ _) (pRun_le _ _ _ _ han) (by decide)) (by omega) (by decide) xyX3_spells xiX3_spells (Or.inl (lw_gt_of (List.mem_of_getElem? (i := 461) (by decide +kernel)) rfl)) rfl rfl rfl (rest := []) rfl (Nat.le_of_ble_eq_true rfl) rfl (fun z10 h11 => ?_) (fun z10 h11 => ?_)
              · skip
                rw [h11.2]
                have hs2 := h11.1
                rw [show pWl 2 = [110, 117, 109, 98, 101, 114] from rfl] at hs2
                refine ww_br xCC okX3_word 34 (P := 1 = 0) (t1 := 78) (t2 := 74) (r := []) rfl (fun q => absurd q (by decide)) (fun _ => ?_)
                refine ww_blk xCC okX3_word 35 1 (ps := []) (pc' := 77) (lv' := [(0, .ref 0)]) (st' := [.int 10002]) (z' := zL) rfl trivial ?_
                subst xhQ
                exact ww_iret xCC okX3_word 36 xhr rfl rfl ⟨_, rfl, ⟨(by simp only [pWd, pWords, hs0, hs1, hs2, if_true, Bool.false_eq_true, if_false]; rfl), (by rw [hend]; exact e0_0), e0_1⟩⟩
              · skip
                rw [h11.2]
                have hs2 := h11.1
                rw [show pWl 2 = [110, 117, 109, 98, 101, 114] from rfl] at hs2
                refine ww_br xCC okX3_word 34 (P := 0 = 0) (t1 := 78) (t2 := 74) (r := []) rfl (fun _ => ?_) (fun q => absurd (by decide) q)
                refine ww_blk xCC okX3_word 37 2 (ps := []) (pc' := 81) (lv' := [(0, .ref 0)]) (st' := [.ref 2003, .ref 0]) (z' := zL) rfl trivial ?_
                refine ww_callVIz xCC okX3_word 39 (ix := 89) (t_X3_spells l d 3 n a (pRun pLe bt n a) bt zL (TQ_B e0_1 ht) ((e0_1.2 2 (by decide)).trans hpl) (by rw [e0_0, ← hend]) (pRun_ge _ _ _ _) (pRun_le _ _ _ _ han) (by decide)) (by omega) (by decide) xyX3_spells xiX3_spells (Or.inl (lw_gt_of (List.mem_of_getElem? (i := 461) (by decide +kernel)) rfl)) rfl rfl rfl (rest := []) rfl (Nat.le_of_ble_eq_true rfl) rfl (fun z14 h15 => ?_) (fun z14 h15 => ?_)
                · skip
                  rw [h15.2]
                  have hs3 := h15.1
                  rw [show pWl 3 = [121, 101, 97, 114] from rfl] at hs3
                  refine ww_br xCC okX3_word 40 (P := 1 = 0) (t1 := 91) (t2 := 87) (r := []) rfl (fun q => absurd q (by decide)) (fun _ => ?_)
                  refine ww_blk xCC okX3_word 41 1 (ps := []) (pc' := 90) (lv' := [(0, .ref 0)]) (st' := [.int 10003]) (z' := zL) rfl trivial ?_
                  subst xhQ
                  exact ww_iret xCC okX3_word 42 xhr rfl rfl ⟨_, rfl, ⟨(by simp only [pWd, pWords, hs0, hs1, hs2, hs3, if_true, Bool.false_eq_true, if_false]; rfl), (by rw [hend]; exact e0_0), e0_1⟩⟩
                · skip
                  rw [h15.2]
                  have hs3 := h15.1
                  rw [show pWl 3 = [121, 101, 97, 114] from rfl] at hs3
                  refine ww_br xCC okX3_word 40 (P := 0 = 0) (t1 := 91) (t2 := 87) (r := []) rfl (fun _ => ?_) (fun q => absurd (by decide) q)
                  refine ww_blk xCC okX3_word 43 2 (ps := []) (pc' := 94) (lv' := [(0, .ref 0)]) (st' := [.ref 2004, .ref 0]) (z' := zL) rfl trivial ?_
                  refine ww_callVIz xCC okX3_word 45 (ix := 89) (t_X3_spells l d 4 n a (pRun pLe bt n a) bt zL (TQ_B e0_1 ht) ((e0_1.2 2 (by decide)).trans hpl) (by rw [e0_0, ← hend]) (pRun_ge _ _ _ _) (pRun_le _ _ _ _ han) (by decide)) (by omega) (by decide) xyX3_spells xiX3_spells (Or.inl (lw_gt_of (List.mem_of_getElem? (i := 461) (by decide +kernel)) rfl)) rfl rfl rfl (rest := []) rfl (Nat.le_of_ble_eq_true rfl) rfl (fun z18 h19 => ?_) (fun z18 h19 => ?_)
                  · skip
                    rw [h19.2]
                    have hs4 := h19.1
                    rw [show pWl 4 = [115, 101, 114, 118, 101, 100] from rfl] at hs4
                    refine ww_br xCC okX3_word 46 (P := 1 = 0) (t1 := 104) (t2 := 100) (r := []) rfl (fun q => absurd q (by decide)) (fun _ => ?_)
                    refine ww_blk xCC okX3_word 47 1 (ps := []) (pc' := 103) (lv' := [(0, .ref 0)]) (st' := [.int 10004]) (z' := zL) rfl trivial ?_
                    subst xhQ
                    exact ww_iret xCC okX3_word 48 xhr rfl rfl ⟨_, rfl, ⟨(by simp only [pWd, pWords, hs0, hs1, hs2, hs3, hs4, if_true, Bool.false_eq_true, if_false]; rfl), (by rw [hend]; exact e0_0), e0_1⟩⟩
                  · skip
                    rw [h19.2]
                    have hs4 := h19.1
                    rw [show pWl 4 = [115, 101, 114, 118, 101, 100] from rfl] at hs4
                    refine ww_br xCC okX3_word 46 (P := 0 = 0) (t1 := 104) (t2 := 100) (r := []) rfl (fun _ => ?_) (fun q => absurd (by decide) q)
                    refine ww_blk xCC okX3_word 49 2 (ps := []) (pc' := 107) (lv' := [(0, .ref 0)]) (st' := [.ref 2005, .ref 0]) (z' := zL) rfl trivial ?_
                    refine ww_callVIz xCC okX3_word 51 (ix := 89) (t_X3_spells l d 5 n a (pRun pLe bt n a) bt zL (TQ_B e0_1 ht) ((e0_1.2 2 (by decide)).trans hpl) (by rw [e0_0, ← hend]) (pRun_ge _ _ _ _) (pRun_le _ _ _ _ han) (by decide)) (by omega) (by decide) xyX3_spells xiX3_spells (Or.inl (lw_gt_of (List.mem_of_getElem? (i := 461) (by decide +kernel)) rfl)) rfl rfl rfl (rest := []) rfl (Nat.le_of_ble_eq_true rfl) rfl (fun z22 h23 => ?_) (fun z22 h23 => ?_)
                    · skip
                      rw [h23.2]
                      have hs5 := h23.1
                      rw [show pWl 5 = [97, 108, 105, 118, 101] from rfl] at hs5
                      refine ww_br xCC okX3_word 52 (P := 1 = 0) (t1 := 117) (t2 := 113) (r := []) rfl (fun q => absurd q (by decide)) (fun _ => ?_)
                      refine ww_blk xCC okX3_word 53 1 (ps := []) (pc' := 116) (lv' := [(0, .ref 0)]) (st' := [.int 10005]) (z' := zL) rfl trivial ?_
                      subst xhQ
                      exact ww_iret xCC okX3_word 54 xhr rfl rfl ⟨_, rfl, ⟨(by simp only [pWd, pWords, hs0, hs1, hs2, hs3, hs4, hs5, if_true, Bool.false_eq_true, if_false]; rfl), (by rw [hend]; exact e0_0), e0_1⟩⟩
                    · skip
                      rw [h23.2]
                      have hs5 := h23.1
                      rw [show pWl 5 = [97, 108, 105, 118, 101] from rfl] at hs5
                      refine ww_br xCC okX3_word 52 (P := 0 = 0) (t1 := 117) (t2 := 113) (r := []) rfl (fun _ => ?_) (fun q => absurd (by decide) q)
                      refine ww_blk xCC okX3_word 55 2 (ps := []) (pc' := 120) (lv' := [(0, .ref 0)]) (st' := [.ref 2006, .ref 0]) (z' := zL) rfl trivial ?_
                      refine ww_callVIz xCC okX3_word 57 (ix := 89) (t_X3_spells l d 6 n a (pRun pLe bt n a) bt zL (TQ_B e0_1 ht) ((e0_1.2 2 (by decide)).trans hpl) (by rw [e0_0, ← hend]) (pRun_ge _ _ _ _) (pRun_le _ _ _ _ han) (by decide)) (by omega) (by decide) xyX3_spells xiX3_spells (Or.inl (lw_gt_of (List.mem_of_getElem? (i := 461) (by decide +kernel)) rfl)) rfl rfl rfl (rest := []) rfl (Nat.le_of_ble_eq_true rfl) rfl (fun z26 h27 => ?_) (fun z26 h27 => ?_)
                      · skip
                        rw [h27.2]
                        have hs6 := h27.1
                        rw [show pWl 6 = [100, 97, 114, 101, 115] from rfl] at hs6
                        refine ww_br xCC okX3_word 58 (P := 1 = 0) (t1 := 130) (t2 := 126) (r := []) rfl (fun q => absurd q (by decide)) (fun _ => ?_)
                        refine ww_blk xCC okX3_word 59 1 (ps := []) (pc' := 129) (lv' := [(0, .ref 0)]) (st' := [.int 10015]) (z' := zL) rfl trivial ?_
                        subst xhQ
                        exact ww_iret xCC okX3_word 60 xhr rfl rfl ⟨_, rfl, ⟨(by simp only [pWd, pWords, hs0, hs1, hs2, hs3, hs4, hs5, hs6, if_true, Bool.false_eq_true, if_false]; rfl), (by rw [hend]; exact e0_0), e0_1⟩⟩
                      · skip
                        rw [h27.2]
                        have hs6 := h27.1
                        rw [show pWl 6 = [100, 97, 114, 101, 115] from rfl] at hs6
                        refine ww_br xCC okX3_word 58 (P := 0 = 0) (t1 := 130) (t2 := 126) (r := []) rfl (fun _ => ?_) (fun q => absurd (by decide) q)
                        refine ww_blk xCC okX3_word 61 2 (ps := []) (pc' := 133) (lv' := [(0, .ref 0)]) (st' := [.ref 2007, .ref 0]) (z' := zL) rfl trivial ?_
                        refine ww_callVIz xCC okX3_word 63 (ix := 89) (t_X3_spells l d 7 n a (pRun pLe bt n a) bt zL (TQ_B e0_1 ht) ((e0_1.2 2 (by decide)).trans hpl) (by rw [e0_0, ← hend]) (pRun_ge _ _ _ _) (pRun_le _ _ _ _ han) (by decide)) (by omega) (by decide) xyX3_spells xiX3_spells (Or.inl (lw_gt_of (List.mem_of_getElem? (i := 461) (by decide +kernel)) rfl)) rfl rfl rfl (rest := []) rfl (Nat.le_of_ble_eq_true rfl) rfl (fun z30 h31 => ?_) (fun z30 h31 => ?_)
                        · skip
                          rw [h31.2]
                          have hs7 := h31.1
                          rw [show pWl 7 = [104, 97, 114, 109, 115] from rfl] at hs7
                          refine ww_br xCC okX3_word 64 (P := 1 = 0) (t1 := 143) (t2 := 139) (r := []) rfl (fun q => absurd q (by decide)) (fun _ => ?_)
                          refine ww_blk xCC okX3_word 65 1 (ps := []) (pc' := 142) (lv' := [(0, .ref 0)]) (st' := [.int 10016]) (z' := zL) rfl trivial ?_
                          subst xhQ
                          exact ww_iret xCC okX3_word 66 xhr rfl rfl ⟨_, rfl, ⟨(by simp only [pWd, pWords, hs0, hs1, hs2, hs3, hs4, hs5, hs6, hs7, if_true, Bool.false_eq_true, if_false]; rfl), (by rw [hend]; exact e0_0), e0_1⟩⟩
                        · skip
                          rw [h31.2]
                          have hs7 := h31.1
                          rw [show pWl 7 = [104, 97, 114, 109, 115] from rfl] at hs7
                          refine ww_br xCC okX3_word 64 (P := 0 = 0) (t1 := 143) (t2 := 139) (r := []) rfl (fun _ => ?_) (fun q => absurd (by decide) q)
                          refine ww_blk xCC okX3_word 67 2 (ps := []) (pc' := 146) (lv' := [(0, .ref 0)]) (st' := [.ref 2008, .ref 0]) (z' := zL) rfl trivial ?_
                          refine ww_callVIz xCC okX3_word 69 (ix := 89) (t_X3_spells l d 8 n a (pRun pLe bt n a) bt zL (TQ_B e0_1 ht) ((e0_1.2 2 (by decide)).trans hpl) (by rw [e0_0, ← hend]) (pRun_ge _ _ _ _) (pRun_le _ _ _ _ han) (by decide)) (by omega) (by decide) xyX3_spells xiX3_spells (Or.inl (lw_gt_of (List.mem_of_getElem? (i := 461) (by decide +kernel)) rfl)) rfl rfl rfl (rest := []) rfl (Nat.le_of_ble_eq_true rfl) rfl (fun z34 h35 => ?_) (fun z34 h35 => ?_)
                          · skip
                            rw [h35.2]
                            have hs8 := h35.1
                            rw [show pWl 8 = [115, 105, 116, 115] from rfl] at hs8
                            refine ww_br xCC okX3_word 70 (P := 1 = 0) (t1 := 156) (t2 := 152) (r := []) rfl (fun q => absurd q (by decide)) (fun _ => ?_)
                            refine ww_blk xCC okX3_word 71 1 (ps := []) (pc' := 155) (lv' := [(0, .ref 0)]) (st' := [.int 10017]) (z' := zL) rfl trivial ?_
                            subst xhQ
                            exact ww_iret xCC okX3_word 72 xhr rfl rfl ⟨_, rfl, ⟨(by simp only [pWd, pWords, hs0, hs1, hs2, hs3, hs4, hs5, hs6, hs7, hs8, if_true, Bool.false_eq_true, if_false]; rfl), (by rw [hend]; exact e0_0), e0_1⟩⟩
                          · skip
                            rw [h35.2]
                            have hs8 := h35.1
                            rw [show pWl 8 = [115, 105, 116, 115] from rfl] at hs8
                            refine ww_br xCC okX3_word 70 (P := 0 = 0) (t1 := 156) (t2 := 152) (r := []) rfl (fun _ => ?_) (fun q => absurd (by decide) q)
                            refine ww_blk xCC okX3_word 73 2 (ps := []) (pc' := 159) (lv' := [(0, .ref 0)]) (st' := [.ref 2009, .ref 0]) (z' := zL) rfl trivial ?_
                            refine ww_callVIz xCC okX3_word 75 (ix := 89) (t_X3_spells l d 9 n a (pRun pLe bt n a) bt zL (TQ_B e0_1 ht) ((e0_1.2 2 (by decide)).trans hpl) (by rw [e0_0, ← hend]) (pRun_ge _ _ _ _) (pRun_le _ _ _ _ han) (by decide)) (by omega) (by decide) xyX3_spells xiX3_spells (Or.inl (lw_gt_of (List.mem_of_getElem? (i := 461) (by decide +kernel)) rfl)) rfl rfl rfl (rest := []) rfl (Nat.le_of_ble_eq_true rfl) rfl (fun z38 h39 => ?_) (fun z38 h39 => ?_)
                            · skip
                              rw [h39.2]
                              have hs9 := h39.1
                              rw [show pWl 9 = [111, 114] from rfl] at hs9
                              refine ww_br xCC okX3_word 76 (P := 1 = 0) (t1 := 169) (t2 := 165) (r := []) rfl (fun q => absurd q (by decide)) (fun _ => ?_)
                              refine ww_blk xCC okX3_word 77 1 (ps := []) (pc' := 168) (lv' := [(0, .ref 0)]) (st' := [.int 10006]) (z' := zL) rfl trivial ?_
                              subst xhQ
                              exact ww_iret xCC okX3_word 78 xhr rfl rfl ⟨_, rfl, ⟨(by simp only [pWd, pWords, hs0, hs1, hs2, hs3, hs4, hs5, hs6, hs7, hs8, hs9, if_true, Bool.false_eq_true, if_false]; rfl), (by rw [hend]; exact e0_0), e0_1⟩⟩
                            · skip
                              rw [h39.2]
                              have hs9 := h39.1
                              rw [show pWl 9 = [111, 114] from rfl] at hs9
                              refine ww_br xCC okX3_word 76 (P := 0 = 0) (t1 := 169) (t2 := 165) (r := []) rfl (fun _ => ?_) (fun q => absurd (by decide) q)
                              refine ww_blk xCC okX3_word 79 2 (ps := []) (pc' := 172) (lv' := [(0, .ref 0)]) (st' := [.ref 2010, .ref 0]) (z' := zL) rfl trivial ?_
                              refine ww_callVIz xCC okX3_word 81 (ix := 89) (t_X3_spells l d 10 n a (pRun pLe bt n a) bt zL (TQ_B e0_1 ht) ((e0_1.2 2 (by decide)).trans hpl) (by rw [e0_0, ← hend]) (pRun_ge _ _ _ _) (pRun_le _ _ _ _ han) (by decide)) (by omega) (by decide) xyX3_spells xiX3_spells (Or.inl (lw_gt_of (List.mem_of_getElem? (i := 461) (by decide +kernel)) rfl)) rfl rfl rfl (rest := []) rfl (Nat.le_of_ble_eq_true rfl) rfl (fun z42 h43 => ?_) (fun z42 h43 => ?_)
                              · skip
                                rw [h43.2]
                                have hs10 := h43.1
                                rw [show pWl 10 = [97, 110, 100] from rfl] at hs10
                                refine ww_br xCC okX3_word 82 (P := 1 = 0) (t1 := 182) (t2 := 178) (r := []) rfl (fun q => absurd q (by decide)) (fun _ => ?_)
                                refine ww_blk xCC okX3_word 83 1 (ps := []) (pc' := 181) (lv' := [(0, .ref 0)]) (st' := [.int 10007]) (z' := zL) rfl trivial ?_
                                subst xhQ
                                exact ww_iret xCC okX3_word 84 xhr rfl rfl ⟨_, rfl, ⟨(by simp only [pWd, pWords, hs0, hs1, hs2, hs3, hs4, hs5, hs6, hs7, hs8, hs9, hs10, if_true, Bool.false_eq_true, if_false]; rfl), (by rw [hend]; exact e0_0), e0_1⟩⟩
                              · skip
                                rw [h43.2]
                                have hs10 := h43.1
                                rw [show pWl 10 = [97, 110, 100] from rfl] at hs10
                                refine ww_br xCC okX3_word 82 (P := 0 = 0) (t1 := 182) (t2 := 178) (r := []) rfl (fun _ => ?_) (fun q => absurd (by decide) q)
                                refine ww_blk xCC okX3_word 85 2 (ps := []) (pc' := 185) (lv' := [(0, .ref 0)]) (st' := [.ref 2011, .ref 0]) (z' := zL) rfl trivial ?_
                                refine ww_callVIz xCC okX3_word 87 (ix := 89) (t_X3_spells l d 11 n a (pRun pLe bt n a) bt zL (TQ_B e0_1 ht) ((e0_1.2 2 (by decide)).trans hpl) (by rw [e0_0, ← hend]) (pRun_ge _ _ _ _) (pRun_le _ _ _ _ han) (by decide)) (by omega) (by decide) xyX3_spells xiX3_spells (Or.inl (lw_gt_of (List.mem_of_getElem? (i := 461) (by decide +kernel)) rfl)) rfl rfl rfl (rest := []) rfl (Nat.le_of_ble_eq_true rfl) rfl (fun z46 h47 => ?_) (fun z46 h47 => ?_)
                                · skip
                                  rw [h47.2]
                                  have hs11 := h47.1
                                  rw [show pWl 11 = [110, 111, 116] from rfl] at hs11
                                  refine ww_br xCC okX3_word 88 (P := 1 = 0) (t1 := 195) (t2 := 191) (r := []) rfl (fun q => absurd q (by decide)) (fun _ => ?_)
                                  refine ww_blk xCC okX3_word 89 1 (ps := []) (pc' := 194) (lv' := [(0, .ref 0)]) (st' := [.int 10013]) (z' := zL) rfl trivial ?_
                                  subst xhQ
                                  exact ww_iret xCC okX3_word 90 xhr rfl rfl ⟨_, rfl, ⟨(by simp only [pWd, pWords, hs0, hs1, hs2, hs3, hs4, hs5, hs6, hs7, hs8, hs9, hs10, hs11, if_true, Bool.false_eq_true, if_false]; rfl), (by rw [hend]; exact e0_0), e0_1⟩⟩
                                · skip
                                  rw [h47.2]
                                  have hs11 := h47.1
                                  rw [show pWl 11 = [110, 111, 116] from rfl] at hs11
                                  refine ww_br xCC okX3_word 88 (P := 0 = 0) (t1 := 195) (t2 := 191) (r := []) rfl (fun _ => ?_) (fun q => absurd (by decide) q)
                                  refine ww_blk xCC okX3_word 91 1 (ps := []) (pc' := 198) (lv' := [(0, .ref 0)]) (st' := [.int 10022]) (z' := zL) rfl trivial ?_
                                  subst xhQ
                                  exact ww_iret xCC okX3_word 92 xhr rfl rfl ⟨_, rfl, ⟨(by simp only [pWd, pWords, hs0, hs1, hs2, hs3, hs4, hs5, hs6, hs7, hs8, hs9, hs10, hs11, if_true, Bool.false_eq_true, if_false]; rfl), (by rw [hend]; exact e0_0), e0_1⟩⟩
        exact ww_cut [0] (xlc rfl rfl) rfl rfl (L39  hend)
      · skip
        replace c1 : ¬ n ≤ (a + k) := fun q => c1 ((sLE (a := n) (b := (a + k)) (by omega) (by omega)).mpr q)
        refine ww_blk xCC okX3_word 5 5 (ps := [vp_in (zL.1 0 3) 160]) (pc' := 20) (lv' := [(0, .ref 0)]) (st' := [.int (zL.1 1 (zL.1 0 3).toNatClampNeg)]) (z' := zL) rfl (by rw [e0_0]; exact vp_in_nI (by omega) (by decide)) ?_
        rw [e0_0]
        rw [sCL (n := (a + k)) (by omega)]
        rw [show zL.1 1 (a + k) = nI (bt (a + k)) from (congrFun (e0_1.1 1 (by decide)) _).trans (ht.2.2.1 _ (by omega))]
        refine ww_callSNz xCC okX3_word 10 (ix := 66) (t_X3_isLetter l d (bt (a + k)) (ht.2.2.2 _) _) (by omega) (by decide) xyX3_isLetter xiX3_isLetter (Or.inl (lw_gt_of (List.mem_of_getElem? (i := 452) (by decide +kernel)) rfl)) rfl (rest := []) rfl (Nat.le_of_ble_eq_true rfl) rfl (fun z50 h51 => ?_) (fun z50 h51 => ?_)
        · skip
          have h25 := h51
          refine ww_br xCC okX3_word 11 (P := 1 = 0) (t1 := 39) (t2 := 26) (r := []) rfl (fun q => absurd q (by decide)) (fun _ => ?_)
          refine ww_blk xCC okX3_word 12 7 (ps := []) (pc' := 0) (lv' := [(0, .ref 0)]) (st' := []) (z' := (mPut zL 0 3 ((zL.1 0 3) + 1))) rfl trivial ?_
          rw [e0_0]
          rw [show nI (a + k) + (1 : Int32) = nI (a + k + 1) from nI_add _ 1]
          exact ww_cut [0] (xlc rfl rfl) rfl rfl (ih0 (k + 1) (mPut zL 0 3 (nI (a + k + 1))) (by omega) mPut_at (KB_put e0_1) (e0_2.trans (pRun_go (by omega) h25)) (by omega))
        · skip
          have h25 := h51
          have hend : pRun pLe bt n a = a + k := by rw [e0_2]; exact pRun_end (fun q => by rw [h25] at q; exact absurd q.2 (by decide))
          refine ww_br xCC okX3_word 11 (P := 0 = 0) (t1 := 39) (t2 := 26) (r := []) rfl (fun _ => ?_) (fun q => absurd (by decide) q)
          have L39 : (pRun pLe bt n a = a + k) → ww xp l xe (xRm (d + 7)) xs xm xar xbl xme xc 1 xD xcs xad shT2 xAA xQ 39 [(0, .ref 0)] [] zL := by
            intro  e39_0
            have hend := e39_0
            refine ww_blk xCC okX3_word 19 2 (ps := []) (pc' := 42) (lv' := [(0, .ref 0)]) (st' := [.ref 2000, .ref 0]) (z' := zL) rfl trivial ?_
            refine ww_callVIz xCC okX3_word 21 (ix := 89) (t_X3_spells l d 0 n a (pRun pLe bt n a) bt zL (TQ_B e0_1 ht) ((e0_1.2 2 (by decide)).trans hpl) (by rw [e0_0, ← hend]) (pRun_ge _ _ _ _) (pRun_le _ _ _ _ han) (by decide)) (by omega) (by decide) xyX3_spells xiX3_spells (Or.inl (lw_gt_of (List.mem_of_getElem? (i := 461) (by decide +kernel)) rfl)) rfl rfl rfl (rest := []) rfl (Nat.le_of_ble_eq_true rfl) rfl (fun z54 h55 => ?_) (fun z54 h55 => ?_)
            · skip
              rw [h55.2]
              have hs0 := h55.1
              rw [show pWl 0 = [104, 97, 114, 109] from rfl] at hs0
              refine ww_br xCC okX3_word 22 (P := 1 = 0) (t1 := 52) (t2 := 48) (r := []) rfl (fun q => absurd q (by decide)) (fun _ => ?_)
              refine ww_blk xCC okX3_word 23 1 (ps := []) (pc' := 51) (lv' := [(0, .ref 0)]) (st' := [.int 10000]) (z' := zL) rfl trivial ?_
              subst xhQ
              exact ww_iret xCC okX3_word 24 xhr rfl rfl ⟨_, rfl, ⟨(by simp only [pWd, pWords, hs0, if_true, Bool.false_eq_true, if_false]; rfl), (by rw [hend]; exact e0_0), e0_1⟩⟩
            · skip
              rw [h55.2]
              have hs0 := h55.1
              rw [show pWl 0 = [104, 97, 114, 109] from rfl] at hs0
              refine ww_br xCC okX3_word 22 (P := 0 = 0) (t1 := 52) (t2 := 48) (r := []) rfl (fun _ => ?_) (fun q => absurd (by decide) q)
              refine ww_blk xCC okX3_word 25 2 (ps := []) (pc' := 55) (lv' := [(0, .ref 0)]) (st' := [.ref 2001, .ref 0]) (z' := zL) rfl trivial ?_
              refine ww_callVIz xCC okX3_word 27 (ix := 89) (t_X3_spells l d 1 n a (pRun pLe bt n a) bt zL (TQ_B e0_1 ht) ((e0_1.2 2 (by decide)).trans hpl) (by rw [e0_0, ← hend]) (pRun_ge _ _ _ _) (pRun_le _ _ _ _ han) (by decide)) (by omega) (by decide) xyX3_spells xiX3_spells (Or.inl (lw_gt_of (List.mem_of_getElem? (i := 461) (by decide +kernel)) rfl)) rfl rfl rfl (rest := []) rfl (Nat.le_of_ble_eq_true rfl) rfl (fun z58 h59 => ?_) (fun z58 h59 => ?_)
              · skip
                rw [h59.2]
                have hs1 := h59.1
                rw [show pWl 1 = [108, 97, 119, 115] from rfl] at hs1
                refine ww_br xCC okX3_word 28 (P := 1 = 0) (t1 := 65) (t2 := 61) (r := []) rfl (fun q => absurd q (by decide)) (fun _ => ?_)
                refine ww_blk xCC okX3_word 29 1 (ps := []) (pc' := 64) (lv' := [(0, .ref 0)]) (st' := [.int 10001]) (z' := zL) rfl trivial ?_
                subst xhQ
                exact ww_iret xCC okX3_word 30 xhr rfl rfl ⟨_, rfl, ⟨(by simp only [pWd, pWords, hs0, hs1, if_true, Bool.false_eq_true, if_false]; rfl), (by rw [hend]; exact e0_0), e0_1⟩⟩
              · skip
                rw [h59.2]
                have hs1 := h59.1
                rw [show pWl 1 = [108, 97, 119, 115] from rfl] at hs1
                refine ww_br xCC okX3_word 28 (P := 0 = 0) (t1 := 65) (t2 := 61) (r := []) rfl (fun _ => ?_) (fun q => absurd (by decide) q)
                refine ww_blk xCC okX3_word 31 2 (ps := []) (pc' := 68) (lv' := [(0, .ref 0)]) (st' := [.ref 2002, .ref 0]) (z' := zL) rfl trivial ?_
                refine ww_callVIz xCC okX3_word 33 (ix := 89) (t_X3_spells l d 2 n a (pRun pLe bt n a) bt zL (TQ_B e0_1 ht) ((e0_1.2 2 (by decide)).trans hpl) (by rw [e0_0, ← hend]) (pRun_ge _ _ _ _) (pRun_le _ _ _ _ han) (by decide)) (by omega) (by decide) xyX3_spells xiX3_spells (Or.inl (lw_gt_of (List.mem_of_getElem? (i := 461) (by decide +kernel)) rfl)) rfl rfl rfl (rest := []) rfl (Nat.le_of_ble_eq_true rfl) rfl (fun z62 h63 => ?_) (fun z62 h63 => ?_)
                · skip
                  rw [h63.2]
                  have hs2 := h63.1
                  rw [show pWl 2 = [110, 117, 109, 98, 101, 114] from rfl] at hs2
                  refine ww_br xCC okX3_word 34 (P := 1 = 0) (t1 := 78) (t2 := 74) (r := []) rfl (fun q => absurd q (by decide)) (fun _ => ?_)
                  refine ww_blk xCC okX3_word 35 1 (ps := []) (pc' := 77) (lv' := [(0, .ref 0)]) (st' := [.int 10002]) (z' := zL) rfl trivial ?_
                  subst xhQ
                  exact ww_iret xCC okX3_word 36 xhr rfl rfl ⟨_, rfl, ⟨(by simp only [pWd, pWords, hs0, hs1, hs2, if_true, Bool.false_eq_true, if_false]; rfl), (by rw [hend]; exact e0_0), e0_1⟩⟩
                · skip
                  rw [h63.2]
                  have hs2 := h63.1
                  rw [show pWl 2 = [110, 117, 109, 98, 101, 114] from rfl] at hs2
                  refine ww_br xCC okX3_word 34 (P := 0 = 0) (t1 := 78) (t2 := 74) (r := []) rfl (fun _ => ?_) (fun q => absurd (by decide) q)
                  refine ww_blk xCC okX3_word 37 2 (ps := []) (pc' := 81) (lv' := [(0, .ref 0)]) (st' := [.ref 2003, .ref 0]) (z' := zL) rfl trivial ?_
                  refine ww_callVIz xCC okX3_word 39 (ix := 89) (t_X3_spells l d 3 n a (pRun pLe bt n a) bt zL (TQ_B e0_1 ht) ((e0_1.2 2 (by decide)).trans hpl) (by rw [e0_0, ← hend]) (pRun_ge _ _ _ _) (pRun_le _ _ _ _ han) (by decide)) (by omega) (by decide) xyX3_spells xiX3_spells (Or.inl (lw_gt_of (List.mem_of_getElem? (i := 461) (by decide +kernel)) rfl)) rfl rfl rfl (rest := []) rfl (Nat.le_of_ble_eq_true rfl) rfl (fun z66 h67 => ?_) (fun z66 h67 => ?_)
                  · skip
                    rw [h67.2]
                    have hs3 := h67.1
                    rw [show pWl 3 = [121, 101, 97, 114] from rfl] at hs3
                    refine ww_br xCC okX3_word 40 (P := 1 = 0) (t1 := 91) (t2 := 87) (r := []) rfl (fun q => absurd q (by decide)) (fun _ => ?_)
                    refine ww_blk xCC okX3_word 41 1 (ps := []) (pc' := 90) (lv' := [(0, .ref 0)]) (st' := [.int 10003]) (z' := zL) rfl trivial ?_
                    subst xhQ
                    exact ww_iret xCC okX3_word 42 xhr rfl rfl ⟨_, rfl, ⟨(by simp only [pWd, pWords, hs0, hs1, hs2, hs3, if_true, Bool.false_eq_true, if_false]; rfl), (by rw [hend]; exact e0_0), e0_1⟩⟩
                  · skip
                    rw [h67.2]
                    have hs3 := h67.1
                    rw [show pWl 3 = [121, 101, 97, 114] from rfl] at hs3
                    refine ww_br xCC okX3_word 40 (P := 0 = 0) (t1 := 91) (t2 := 87) (r := []) rfl (fun _ => ?_) (fun q => absurd (by decide) q)
                    refine ww_blk xCC okX3_word 43 2 (ps := []) (pc' := 94) (lv' := [(0, .ref 0)]) (st' := [.ref 2004, .ref 0]) (z' := zL) rfl trivial ?_
                    refine ww_callVIz xCC okX3_word 45 (ix := 89) (t_X3_spells l d 4 n a (pRun pLe bt n a) bt zL (TQ_B e0_1 ht) ((e0_1.2 2 (by decide)).trans hpl) (by rw [e0_0, ← hend]) (pRun_ge _ _ _ _) (pRun_le _ _ _ _ han) (by decide)) (by omega) (by decide) xyX3_spells xiX3_spells (Or.inl (lw_gt_of (List.mem_of_getElem? (i := 461) (by decide +kernel)) rfl)) rfl rfl rfl (rest := []) rfl (Nat.le_of_ble_eq_true rfl) rfl (fun z70 h71 => ?_) (fun z70 h71 => ?_)
                    · skip
                      rw [h71.2]
                      have hs4 := h71.1
                      rw [show pWl 4 = [115, 101, 114, 118, 101, 100] from rfl] at hs4
                      refine ww_br xCC okX3_word 46 (P := 1 = 0) (t1 := 104) (t2 := 100) (r := []) rfl (fun q => absurd q (by decide)) (fun _ => ?_)
                      refine ww_blk xCC okX3_word 47 1 (ps := []) (pc' := 103) (lv' := [(0, .ref 0)]) (st' := [.int 10004]) (z' := zL) rfl trivial ?_
                      subst xhQ
                      exact ww_iret xCC okX3_word 48 xhr rfl rfl ⟨_, rfl, ⟨(by simp only [pWd, pWords, hs0, hs1, hs2, hs3, hs4, if_true, Bool.false_eq_true, if_false]; rfl), (by rw [hend]; exact e0_0), e0_1⟩⟩
                    · skip
                      rw [h71.2]
                      have hs4 := h71.1
                      rw [show pWl 4 = [115, 101, 114, 118, 101, 100] from rfl] at hs4
                      refine ww_br xCC okX3_word 46 (P := 0 = 0) (t1 := 104) (t2 := 100) (r := []) rfl (fun _ => ?_) (fun q => absurd (by decide) q)
                      refine ww_blk xCC okX3_word 49 2 (ps := []) (pc' := 107) (lv' := [(0, .ref 0)]) (st' := [.ref 2005, .ref 0]) (z' := zL) rfl trivial ?_
                      refine ww_callVIz xCC okX3_word 51 (ix := 89) (t_X3_spells l d 5 n a (pRun pLe bt n a) bt zL (TQ_B e0_1 ht) ((e0_1.2 2 (by decide)).trans hpl) (by rw [e0_0, ← hend]) (pRun_ge _ _ _ _) (pRun_le _ _ _ _ han) (by decide)) (by omega) (by decide) xyX3_spells xiX3_spells (Or.inl (lw_gt_of (List.mem_of_getElem? (i := 461) (by decide +kernel)) rfl)) rfl rfl rfl (rest := []) rfl (Nat.le_of_ble_eq_true rfl) rfl (fun z74 h75 => ?_) (fun z74 h75 => ?_)
                      · skip
                        rw [h75.2]
                        have hs5 := h75.1
                        rw [show pWl 5 = [97, 108, 105, 118, 101] from rfl] at hs5
                        refine ww_br xCC okX3_word 52 (P := 1 = 0) (t1 := 117) (t2 := 113) (r := []) rfl (fun q => absurd q (by decide)) (fun _ => ?_)
                        refine ww_blk xCC okX3_word 53 1 (ps := []) (pc' := 116) (lv' := [(0, .ref 0)]) (st' := [.int 10005]) (z' := zL) rfl trivial ?_
                        subst xhQ
                        exact ww_iret xCC okX3_word 54 xhr rfl rfl ⟨_, rfl, ⟨(by simp only [pWd, pWords, hs0, hs1, hs2, hs3, hs4, hs5, if_true, Bool.false_eq_true, if_false]; rfl), (by rw [hend]; exact e0_0), e0_1⟩⟩
                      · skip
                        rw [h75.2]
                        have hs5 := h75.1
                        rw [show pWl 5 = [97, 108, 105, 118, 101] from rfl] at hs5
                        refine ww_br xCC okX3_word 52 (P := 0 = 0) (t1 := 117) (t2 := 113) (r := []) rfl (fun _ => ?_) (fun q => absurd (by decide) q)
                        refine ww_blk xCC okX3_word 55 2 (ps := []) (pc' := 120) (lv' := [(0, .ref 0)]) (st' := [.ref 2006, .ref 0]) (z' := zL) rfl trivial ?_
                        refine ww_callVIz xCC okX3_word 57 (ix := 89) (t_X3_spells l d 6 n a (pRun pLe bt n a) bt zL (TQ_B e0_1 ht) ((e0_1.2 2 (by decide)).trans hpl) (by rw [e0_0, ← hend]) (pRun_ge _ _ _ _) (pRun_le _ _ _ _ han) (by decide)) (by omega) (by decide) xyX3_spells xiX3_spells (Or.inl (lw_gt_of (List.mem_of_getElem? (i := 461) (by decide +kernel)) rfl)) rfl rfl rfl (rest := []) rfl (Nat.le_of_ble_eq_true rfl) rfl (fun z78 h79 => ?_) (fun z78 h79 => ?_)
                        · skip
                          rw [h79.2]
                          have hs6 := h79.1
                          rw [show pWl 6 = [100, 97, 114, 101, 115] from rfl] at hs6
                          refine ww_br xCC okX3_word 58 (P := 1 = 0) (t1 := 130) (t2 := 126) (r := []) rfl (fun q => absurd q (by decide)) (fun _ => ?_)
                          refine ww_blk xCC okX3_word 59 1 (ps := []) (pc' := 129) (lv' := [(0, .ref 0)]) (st' := [.int 10015]) (z' := zL) rfl trivial ?_
                          subst xhQ
                          exact ww_iret xCC okX3_word 60 xhr rfl rfl ⟨_, rfl, ⟨(by simp only [pWd, pWords, hs0, hs1, hs2, hs3, hs4, hs5, hs6, if_true, Bool.false_eq_true, if_false]; rfl), (by rw [hend]; exact e0_0), e0_1⟩⟩
                        · skip
                          rw [h79.2]
                          have hs6 := h79.1
                          rw [show pWl 6 = [100, 97, 114, 101, 115] from rfl] at hs6
                          refine ww_br xCC okX3_word 58 (P := 0 = 0) (t1 := 130) (t2 := 126) (r := []) rfl (fun _ => ?_) (fun q => absurd (by decide) q)
                          refine ww_blk xCC okX3_word 61 2 (ps := []) (pc' := 133) (lv' := [(0, .ref 0)]) (st' := [.ref 2007, .ref 0]) (z' := zL) rfl trivial ?_
                          refine ww_callVIz xCC okX3_word 63 (ix := 89) (t_X3_spells l d 7 n a (pRun pLe bt n a) bt zL (TQ_B e0_1 ht) ((e0_1.2 2 (by decide)).trans hpl) (by rw [e0_0, ← hend]) (pRun_ge _ _ _ _) (pRun_le _ _ _ _ han) (by decide)) (by omega) (by decide) xyX3_spells xiX3_spells (Or.inl (lw_gt_of (List.mem_of_getElem? (i := 461) (by decide +kernel)) rfl)) rfl rfl rfl (rest := []) rfl (Nat.le_of_ble_eq_true rfl) rfl (fun z82 h83 => ?_) (fun z82 h83 => ?_)
                          · skip
                            rw [h83.2]
                            have hs7 := h83.1
                            rw [show pWl 7 = [104, 97, 114, 109, 115] from rfl] at hs7
                            refine ww_br xCC okX3_word 64 (P := 1 = 0) (t1 := 143) (t2 := 139) (r := []) rfl (fun q => absurd q (by decide)) (fun _ => ?_)
                            refine ww_blk xCC okX3_word 65 1 (ps := []) (pc' := 142) (lv' := [(0, .ref 0)]) (st' := [.int 10016]) (z' := zL) rfl trivial ?_
                            subst xhQ
                            exact ww_iret xCC okX3_word 66 xhr rfl rfl ⟨_, rfl, ⟨(by simp only [pWd, pWords, hs0, hs1, hs2, hs3, hs4, hs5, hs6, hs7, if_true, Bool.false_eq_true, if_false]; rfl), (by rw [hend]; exact e0_0), e0_1⟩⟩
                          · skip
                            rw [h83.2]
                            have hs7 := h83.1
                            rw [show pWl 7 = [104, 97, 114, 109, 115] from rfl] at hs7
                            refine ww_br xCC okX3_word 64 (P := 0 = 0) (t1 := 143) (t2 := 139) (r := []) rfl (fun _ => ?_) (fun q => absurd (by decide) q)
                            refine ww_blk xCC okX3_word 67 2 (ps := []) (pc' := 146) (lv' := [(0, .ref 0)]) (st' := [.ref 2008, .ref 0]) (z' := zL) rfl trivial ?_
                            refine ww_callVIz xCC okX3_word 69 (ix := 89) (t_X3_spells l d 8 n a (pRun pLe bt n a) bt zL (TQ_B e0_1 ht) ((e0_1.2 2 (by decide)).trans hpl) (by rw [e0_0, ← hend]) (pRun_ge _ _ _ _) (pRun_le _ _ _ _ han) (by decide)) (by omega) (by decide) xyX3_spells xiX3_spells (Or.inl (lw_gt_of (List.mem_of_getElem? (i := 461) (by decide +kernel)) rfl)) rfl rfl rfl (rest := []) rfl (Nat.le_of_ble_eq_true rfl) rfl (fun z86 h87 => ?_) (fun z86 h87 => ?_)
                            · skip
                              rw [h87.2]
                              have hs8 := h87.1
                              rw [show pWl 8 = [115, 105, 116, 115] from rfl] at hs8
                              refine ww_br xCC okX3_word 70 (P := 1 = 0) (t1 := 156) (t2 := 152) (r := []) rfl (fun q => absurd q (by decide)) (fun _ => ?_)
                              refine ww_blk xCC okX3_word 71 1 (ps := []) (pc' := 155) (lv' := [(0, .ref 0)]) (st' := [.int 10017]) (z' := zL) rfl trivial ?_
                              subst xhQ
                              exact ww_iret xCC okX3_word 72 xhr rfl rfl ⟨_, rfl, ⟨(by simp only [pWd, pWords, hs0, hs1, hs2, hs3, hs4, hs5, hs6, hs7, hs8, if_true, Bool.false_eq_true, if_false]; rfl), (by rw [hend]; exact e0_0), e0_1⟩⟩
                            · skip
                              rw [h87.2]
                              have hs8 := h87.1
                              rw [show pWl 8 = [115, 105, 116, 115] from rfl] at hs8
                              refine ww_br xCC okX3_word 70 (P := 0 = 0) (t1 := 156) (t2 := 152) (r := []) rfl (fun _ => ?_) (fun q => absurd (by decide) q)
                              refine ww_blk xCC okX3_word 73 2 (ps := []) (pc' := 159) (lv' := [(0, .ref 0)]) (st' := [.ref 2009, .ref 0]) (z' := zL) rfl trivial ?_
                              refine ww_callVIz xCC okX3_word 75 (ix := 89) (t_X3_spells l d 9 n a (pRun pLe bt n a) bt zL (TQ_B e0_1 ht) ((e0_1.2 2 (by decide)).trans hpl) (by rw [e0_0, ← hend]) (pRun_ge _ _ _ _) (pRun_le _ _ _ _ han) (by decide)) (by omega) (by decide) xyX3_spells xiX3_spells (Or.inl (lw_gt_of (List.mem_of_getElem? (i := 461) (by decide +kernel)) rfl)) rfl rfl rfl (rest := []) rfl (Nat.le_of_ble_eq_true rfl) rfl (fun z90 h91 => ?_) (fun z90 h91 => ?_)
                              · skip
                                rw [h91.2]
                                have hs9 := h91.1
                                rw [show pWl 9 = [111, 114] from rfl] at hs9
                                refine ww_br xCC okX3_word 76 (P := 1 = 0) (t1 := 169) (t2 := 165) (r := []) rfl (fun q => absurd q (by decide)) (fun _ => ?_)
                                refine ww_blk xCC okX3_word 77 1 (ps := []) (pc' := 168) (lv' := [(0, .ref 0)]) (st' := [.int 10006]) (z' := zL) rfl trivial ?_
                                subst xhQ
                                exact ww_iret xCC okX3_word 78 xhr rfl rfl ⟨_, rfl, ⟨(by simp only [pWd, pWords, hs0, hs1, hs2, hs3, hs4, hs5, hs6, hs7, hs8, hs9, if_true, Bool.false_eq_true, if_false]; rfl), (by rw [hend]; exact e0_0), e0_1⟩⟩
                              · skip
                                rw [h91.2]
                                have hs9 := h91.1
                                rw [show pWl 9 = [111, 114] from rfl] at hs9
                                refine ww_br xCC okX3_word 76 (P := 0 = 0) (t1 := 169) (t2 := 165) (r := []) rfl (fun _ => ?_) (fun q => absurd (by decide) q)
                                refine ww_blk xCC okX3_word 79 2 (ps := []) (pc' := 172) (lv' := [(0, .ref 0)]) (st' := [.ref 2010, .ref 0]) (z' := zL) rfl trivial ?_
                                refine ww_callVIz xCC okX3_word 81 (ix := 89) (t_X3_spells l d 10 n a (pRun pLe bt n a) bt zL (TQ_B e0_1 ht) ((e0_1.2 2 (by decide)).trans hpl) (by rw [e0_0, ← hend]) (pRun_ge _ _ _ _) (pRun_le _ _ _ _ han) (by decide)) (by omega) (by decide) xyX3_spells xiX3_spells (Or.inl (lw_gt_of (List.mem_of_getElem? (i := 461) (by decide +kernel)) rfl)) rfl rfl rfl (rest := []) rfl (Nat.le_of_ble_eq_true rfl) rfl (fun z94 h95 => ?_) (fun z94 h95 => ?_)
                                · skip
                                  rw [h95.2]
                                  have hs10 := h95.1
                                  rw [show pWl 10 = [97, 110, 100] from rfl] at hs10
                                  refine ww_br xCC okX3_word 82 (P := 1 = 0) (t1 := 182) (t2 := 178) (r := []) rfl (fun q => absurd q (by decide)) (fun _ => ?_)
                                  refine ww_blk xCC okX3_word 83 1 (ps := []) (pc' := 181) (lv' := [(0, .ref 0)]) (st' := [.int 10007]) (z' := zL) rfl trivial ?_
                                  subst xhQ
                                  exact ww_iret xCC okX3_word 84 xhr rfl rfl ⟨_, rfl, ⟨(by simp only [pWd, pWords, hs0, hs1, hs2, hs3, hs4, hs5, hs6, hs7, hs8, hs9, hs10, if_true, Bool.false_eq_true, if_false]; rfl), (by rw [hend]; exact e0_0), e0_1⟩⟩
                                · skip
                                  rw [h95.2]
                                  have hs10 := h95.1
                                  rw [show pWl 10 = [97, 110, 100] from rfl] at hs10
                                  refine ww_br xCC okX3_word 82 (P := 0 = 0) (t1 := 182) (t2 := 178) (r := []) rfl (fun _ => ?_) (fun q => absurd (by decide) q)
                                  refine ww_blk xCC okX3_word 85 2 (ps := []) (pc' := 185) (lv' := [(0, .ref 0)]) (st' := [.ref 2011, .ref 0]) (z' := zL) rfl trivial ?_
                                  refine ww_callVIz xCC okX3_word 87 (ix := 89) (t_X3_spells l d 11 n a (pRun pLe bt n a) bt zL (TQ_B e0_1 ht) ((e0_1.2 2 (by decide)).trans hpl) (by rw [e0_0, ← hend]) (pRun_ge _ _ _ _) (pRun_le _ _ _ _ han) (by decide)) (by omega) (by decide) xyX3_spells xiX3_spells (Or.inl (lw_gt_of (List.mem_of_getElem? (i := 461) (by decide +kernel)) rfl)) rfl rfl rfl (rest := []) rfl (Nat.le_of_ble_eq_true rfl) rfl (fun z98 h99 => ?_) (fun z98 h99 => ?_)
                                  · skip
                                    rw [h99.2]
                                    have hs11 := h99.1
                                    rw [show pWl 11 = [110, 111, 116] from rfl] at hs11
                                    refine ww_br xCC okX3_word 88 (P := 1 = 0) (t1 := 195) (t2 := 191) (r := []) rfl (fun q => absurd q (by decide)) (fun _ => ?_)
                                    refine ww_blk xCC okX3_word 89 1 (ps := []) (pc' := 194) (lv' := [(0, .ref 0)]) (st' := [.int 10013]) (z' := zL) rfl trivial ?_
                                    subst xhQ
                                    exact ww_iret xCC okX3_word 90 xhr rfl rfl ⟨_, rfl, ⟨(by simp only [pWd, pWords, hs0, hs1, hs2, hs3, hs4, hs5, hs6, hs7, hs8, hs9, hs10, hs11, if_true, Bool.false_eq_true, if_false]; rfl), (by rw [hend]; exact e0_0), e0_1⟩⟩
                                  · skip
                                    rw [h99.2]
                                    have hs11 := h99.1
                                    rw [show pWl 11 = [110, 111, 116] from rfl] at hs11
                                    refine ww_br xCC okX3_word 88 (P := 0 = 0) (t1 := 195) (t2 := 191) (r := []) rfl (fun _ => ?_) (fun q => absurd (by decide) q)
                                    refine ww_blk xCC okX3_word 91 1 (ps := []) (pc' := 198) (lv' := [(0, .ref 0)]) (st' := [.int 10022]) (z' := zL) rfl trivial ?_
                                    subst xhQ
                                    exact ww_iret xCC okX3_word 92 xhr rfl rfl ⟨_, rfl, ⟨(by simp only [pWd, pWords, hs0, hs1, hs2, hs3, hs4, hs5, hs6, hs7, hs8, hs9, hs10, hs11, if_true, Bool.false_eq_true, if_false]; rfl), (by rw [hend]; exact e0_0), e0_1⟩⟩
          exact ww_cut [0] (xlc rfl rfl) rfl rfl (L39  hend)
  exact ww_cut [0] (xlc rfl rfl) rfl rfl (L0 (n - (a + 0) + 1) 0 z (Nat.lt_succ_self _) hbe (KB_rf z) rfl han)

set_option maxHeartbeats 4000000 in
set_option maxRecDepth 20000 in
theorem t_X3_step (l : Launch) (d : Nat) (n pos : Nat) (bt : Nat → Nat) (z : xMem) (ht : TQ z n bt) (hbe : z.1 0 3 = nI pos) (hpos : pos ≤ n) : XMv l (d + 8) yX3_step cX3_step 1 none shT2 [.ref 0] z (fun z' => tkX z' bt n pos ∧ K3 z z') := by
  refine XM.of (by decide) (Nat.le_of_ble_eq_true rfl) (fun xp xe xs xm xar xbl xme xc xD xcs xad xAA xCC xhr => ?_)
  generalize xhQ : MQ xbl _ xar xs 0 0 xAA = xQ
  show ww xp l xe (xRm (d + 8)) xs xm xar xbl xme xc 1 xD xcs xad shT2 xAA xQ 0 [(0, .ref 0)] [] z
  have hn := ht.2.1
  have L0 : ∀ (n0 : Nat) (a : Nat) (zL : xMem), n - a < n0 → (zL.1 0 3 = nI a) → (KB z zL) → (pRun pBl bt n pos = pRun pBl bt n a) → (a ≤ n) → ww xp l xe (xRm (d + 8)) xs xm xar xbl xme xc 1 xD xcs xad shT2 xAA xQ 0 [(0, .ref 0)] [] zL := by
    intro n0
    induction n0 with
    | zero =>
      intro a zL hmu0
      exact absurd hmu0 (Nat.not_lt_zero _)
    | succ n0 ih0 =>
      intro a zL hmu0 e0_0 e0_1 e0_2 e0_3
      have hLn := e0_3
      have hba := ht.2.2.2 a
      refine ww_blk xCC okX3_step 0 4 (ps := []) (pc' := 8) (lv' := [(0, .ref 0)]) (st' := [.int (zL.1 0 1), .int (zL.1 0 3)]) (z' := zL) rfl trivial ?_
      rw [show zL.1 0 1 = nI n from (e0_1.2 1 (by decide)).trans ht.1]
      rw [e0_0]
      refine ww_br xCC okX3_step 4 (P := (nI n) ≤ (nI a)) (t1 := 52) (t2 := 11) (r := []) rfl (fun c1 => ?_) (fun c1 => ?_)
      · skip
        replace c1 : n ≤ a := (sLE (a := n) (b := a) (by omega) (by omega)).mp c1
        have hend : pRun pBl bt n pos = a := by rw [e0_2]; exact pRun_end (by omega)
        have L52 : (pRun pBl bt n pos = a) → ww xp l xe (xRm (d + 8)) xs xm xar xbl xme xc 1 xD xcs xad shT2 xAA xQ 52 [(0, .ref 0)] [] zL := by
          intro  e52_0
          have hend := e52_0
          refine ww_blk xCC okX3_step 26 8 (ps := []) (pc' := 68) (lv' := [(0, .ref 0)]) (st' := [.int (zL.1 0 1), .int (zL.1 0 3)]) (z' := (mPut zL 0 2 (zL.1 0 3))) rfl trivial ?_
          rw [show zL.1 0 1 = nI n from (e0_1.2 1 (by decide)).trans ht.1]
          rw [e0_0]
          refine ww_br xCC okX3_step 34 (P := (nI a) < (nI n)) (t1 := 81) (t2 := 71) (r := []) rfl (fun c2 => ?_) (fun c2 => ?_)
          · skip
            replace c2 : a < n := (sLT (a := a) (b := n) (by omega) (by omega)).mp c2
            refine ww_blk xCC okX3_step 39 5 (ps := [vp_in (nI a) 160]) (pc' := 90) (lv' := [(0, .ref 0)]) (st' := [.int (zL.1 1 (nI a).toNatClampNeg)]) (z' := (mPut zL 0 2 (nI a))) rfl (vp_in_nI (by omega) (by decide)) ?_
            rw [sCL (n := a) (by omega)]
            rw [show zL.1 1 a = nI (bt a) from (congrFun (e0_1.1 1 (by decide)) _).trans (ht.2.2.1 _ (by omega))]
            refine ww_callSNz xCC okX3_step 44 (ix := 66) (t_X3_isLetter l (d + 5) (bt a) (ht.2.2.2 a) _) (by omega) (by decide) xyX3_isLetter xiX3_isLetter (Or.inl (lw_gt_of (List.mem_of_getElem? (i := 452) (by decide +kernel)) rfl)) rfl (rest := []) rfl (Nat.le_of_ble_eq_true rfl) rfl (fun z3 h4 => ?_) (fun z3 h4 => ?_)
            · skip
              have hisLetter := h4
              refine ww_br xCC okX3_step 45 (P := 1 = 0) (t1 := 107) (t2 := 96) (r := []) rfl (fun q => absurd q (by decide)) (fun _ => ?_)
              refine ww_blk xCC okX3_step 46 2 (ps := []) (pc' := 98) (lv' := [(0, .ref 0)]) (st' := [.ref 0, .ref 0]) (z' := (mPut zL 0 2 (nI a))) rfl trivial ?_
              refine ww_callVIi xCC okX3_step 48 (ix := 69) (t_X3_word l d n a bt (mPut zL 0 2 (nI a)) (TQ_K (K3_2 (K3_B e0_1)) ht) mPut_at ((mPut_nj (by decide)).trans e0_0) hLn) (by omega) (by decide) xyX3_word xiX3_word (Or.inl (lw_gt_of (List.mem_of_getElem? (i := 456) (by decide +kernel)) rfl)) rfl rfl rfl (rest := [.ref 0]) rfl (Nat.le_of_ble_eq_true rfl) rfl (fun vW zW hW => ?_)
              rw [hW.1]
              refine ww_blk xCC okX3_step 49 2 (ps := []) (pc' := 159) (lv' := [(0, .ref 0)]) (st' := []) (z' := (mPut zW 0 4 (nI (pWd bt a (pRun pLe bt n a) pWords)))) rfl trivial ?_
              subst xhQ
              exact ww_vret xCC okX3_step 77 xhr rfl ⟨rfl, ⟨tkX_of (pTok_word hend (by omega) hisLetter) ((mPut_nj (by decide)).trans ((hW.2.2.2 2 (by decide)).trans mPut_at)) ((mPut_nj (by decide)).trans hW.2.1) mPut_at, K3_4 (K3_tr (K3_2 (K3_B e0_1)) (K3_B hW.2.2))⟩⟩
            · skip
              have hisLetter := h4
              refine ww_br xCC okX3_step 45 (P := 0 = 0) (t1 := 107) (t2 := 96) (r := []) rfl (fun _ => ?_) (fun q => absurd (by decide) q)
              refine ww_blk xCC okX3_step 51 5 (ps := [vp_in (nI a) 160]) (pc' := 116) (lv' := [(0, .ref 0)]) (st' := [.int (zL.1 1 (nI a).toNatClampNeg)]) (z' := (mPut zL 0 2 (nI a))) rfl (vp_in_nI (by omega) (by decide)) ?_
              rw [sCL (n := a) (by omega)]
              rw [show zL.1 1 a = nI (bt a) from (congrFun (e0_1.1 1 (by decide)) _).trans (ht.2.2.1 _ (by omega))]
              refine ww_callSNz xCC okX3_step 56 (ix := 73) (t_X3_isDigit l (d + 5) (bt a) (ht.2.2.2 a) _) (by omega) (by decide) xyX3_isDigit xiX3_isDigit (Or.inl (lw_gt_of (List.mem_of_getElem? (i := 524) (by decide +kernel)) rfl)) rfl (rest := []) rfl (Nat.le_of_ble_eq_true rfl) rfl (fun z7 h8 => ?_) (fun z7 h8 => ?_)
              · skip
                have hisDigit := h8
                refine ww_br xCC okX3_step 57 (P := 1 = 0) (t1 := 133) (t2 := 122) (r := []) rfl (fun q => absurd q (by decide)) (fun _ => ?_)
                refine ww_blk xCC okX3_step 58 2 (ps := []) (pc' := 124) (lv' := [(0, .ref 0)]) (st' := [.ref 0, .ref 0]) (z' := (mPut zL 0 2 (nI a))) rfl trivial ?_
                refine ww_callVIi xCC okX3_step 60 (ix := 76) (t_X3_digits l (d + 5) n a bt (mPut zL 0 2 (nI a)) (TQ_K (K3_2 (K3_B e0_1)) ht) mPut_at ((mPut_nj (by decide)).trans e0_0) hLn) (by omega) (by decide) xyX3_digits xiX3_digits (Or.inl (lw_gt_of (List.mem_of_getElem? (i := 527) (by decide +kernel)) rfl)) rfl rfl rfl (rest := [.ref 0]) rfl (Nat.le_of_ble_eq_true rfl) rfl (fun vW zW hW => ?_)
                rw [hW.1]
                refine ww_blk xCC okX3_step 61 2 (ps := []) (pc' := 159) (lv' := [(0, .ref 0)]) (st' := []) (z' := (mPut zW 0 4 (nI (if 4 < pRun pDi bt n a - a then 10022 else pVal bt a (pRun pDi bt n a - a))))) rfl trivial ?_
                subst xhQ
                exact ww_vret xCC okX3_step 77 xhr rfl ⟨rfl, ⟨tkX_of (pTok_dig hend (by omega) hisLetter hisDigit) ((mPut_nj (by decide)).trans ((hW.2.2.2 2 (by decide)).trans mPut_at)) ((mPut_nj (by decide)).trans hW.2.1) mPut_at, K3_4 (K3_tr (K3_2 (K3_B e0_1)) (K3_B hW.2.2))⟩⟩
              · skip
                have hisDigit := h8
                refine ww_br xCC okX3_step 57 (P := 0 = 0) (t1 := 133) (t2 := 122) (r := []) rfl (fun _ => ?_) (fun q => absurd (by decide) q)
                refine ww_blk xCC okX3_step 63 12 (ps := [vp_in (nI a) 160]) (pc' := 153) (lv' := [(0, .ref 0)]) (st' := [.int (zL.1 1 (nI a).toNatClampNeg), .ref 0]) (z' := (mPut (mPut zL 0 2 (nI a)) 0 3 ((zL.1 0 3) + 1))) rfl (vp_in_nI (by omega) (by decide)) ?_
                rw [sCL (n := a) (by omega)]
                rw [show zL.1 1 a = nI (bt a) from (congrFun (e0_1.1 1 (by decide)) _).trans (ht.2.2.1 _ (by omega))]
                rw [e0_0]
                rw [show nI a + (1 : Int32) = nI (a + 1) from nI_add _ 1]
                refine ww_callSNi xCC okX3_step 75 (ix := 79) (t_X3_signOf l (d + 5) (bt a) (ht.2.2.2 a) _) (by omega) (by decide) xyX3_signOf xiX3_signOf (Or.inl (lw_gt_of (List.mem_of_getElem? (i := 531) (by decide +kernel)) rfl)) rfl (rest := [.ref 0]) rfl (Nat.le_of_ble_eq_true rfl) rfl (fun vW z11 h12 => ?_)
                rw [h12]
                refine ww_blk xCC okX3_step 76 1 (ps := []) (pc' := 159) (lv' := [(0, .ref 0)]) (st' := []) (z' := (mPut (mPut (mPut zL 0 2 (nI a)) 0 3 (nI (a + 1))) 0 4 (nI (pSg (bt a))))) rfl trivial ?_
                subst xhQ
                exact ww_vret xCC okX3_step 77 xhr rfl ⟨rfl, ⟨tkX_of (pTok_sig hend (by omega) hisLetter hisDigit) (by simp [mPut_rd]) (by simp [mPut_rd]) (by simp [mPut_rd]), K3_4 (K3_3 (K3_2 (K3_B e0_1)))⟩⟩
          · skip
            replace c2 : ¬ a < n := fun q => c2 ((sLT (a := a) (b := n) (by omega) (by omega)).mpr q)
            refine ww_blk xCC okX3_step 35 4 (ps := []) (pc' := 159) (lv' := [(0, .ref 0)]) (st' := []) (z' := (mPut (mPut zL 0 2 (nI a)) 0 4 10021)) rfl trivial ?_
            subst xhQ
            exact ww_vret xCC okX3_step 77 xhr rfl ⟨rfl, ⟨tkX_of (c := 10021) (a := a) (b := a) (by rw [pTok_end (by omega), hend]) (by simp [mPut_rd]) (by simp [mPut_rd, e0_0]) (by simp [mPut_rd]; rfl), K3_4 (K3_2 (K3_B e0_1))⟩⟩
        exact ww_cut [0] (xlc rfl rfl) rfl rfl (L52  hend)
      · skip
        replace c1 : ¬ n ≤ a := fun q => c1 ((sLE (a := n) (b := a) (by omega) (by omega)).mpr q)
        refine ww_blk xCC okX3_step 5 6 (ps := [vp_in (zL.1 0 3) 160]) (pc' := 22) (lv' := [(0, .ref 0)]) (st' := [.int 32, .int (zL.1 1 (zL.1 0 3).toNatClampNeg)]) (z' := zL) rfl (by rw [e0_0]; exact vp_in_nI (by omega) (by decide)) ?_
        rw [e0_0]
        rw [sCL (n := a) (by omega)]
        rw [show zL.1 1 a = nI (bt a) from (congrFun (e0_1.1 1 (by decide)) _).trans (ht.2.2.1 _ (by omega))]
        refine ww_br xCC okX3_step 11 (P := (nI (bt a)) = 32) (t1 := 39) (t2 := 25) (r := []) rfl (fun c13 => ?_) (fun c13 => ?_)
        · skip
          replace c13 : (bt a) = 32 := (sEQ (a := (bt a)) (b := 32) (by omega) (by omega)).mp c13
          have hbl : pBl (bt a) = true := pBl_iff.mpr (Or.inl c13)
          refine ww_blk xCC okX3_step 19 7 (ps := []) (pc' := 0) (lv' := [(0, .ref 0)]) (st' := []) (z' := (mPut zL 0 3 ((zL.1 0 3) + 1))) rfl trivial ?_
          rw [e0_0]
          rw [show nI a + (1 : Int32) = nI (a + 1) from nI_add _ 1]
          exact ww_cut [0] (xlc rfl rfl) rfl rfl (ih0 (a + 1) (mPut zL 0 3 (nI (a + 1))) (by omega) mPut_at (KB_put e0_1) (e0_2.trans (pRun_go (by omega) hbl)) (by omega))
        · skip
          replace c13 : ¬ (bt a) = 32 := fun q => c13 ((sEQ (a := (bt a)) (b := 32) (by omega) (by omega)).mpr q)
          refine ww_blk xCC okX3_step 12 6 (ps := [vp_in (zL.1 0 3) 160]) (pc' := 36) (lv' := [(0, .ref 0)]) (st' := [.int 10, .int (zL.1 1 (zL.1 0 3).toNatClampNeg)]) (z' := zL) rfl (by rw [e0_0]; exact vp_in_nI (by omega) (by decide)) ?_
          rw [e0_0]
          rw [sCL (n := a) (by omega)]
          rw [show zL.1 1 a = nI (bt a) from (congrFun (e0_1.1 1 (by decide)) _).trans (ht.2.2.1 _ (by omega))]
          refine ww_br xCC okX3_step 18 (P := (nI (bt a)) = 10) (t1 := 39) (t2 := 52) (r := []) rfl (fun c14 => ?_) (fun c14 => ?_)
          · skip
            replace c14 : (bt a) = 10 := (sEQ (a := (bt a)) (b := 10) (by omega) (by omega)).mp c14
            have hbl : pBl (bt a) = true := pBl_iff.mpr (Or.inr c14)
            refine ww_blk xCC okX3_step 19 7 (ps := []) (pc' := 0) (lv' := [(0, .ref 0)]) (st' := []) (z' := (mPut zL 0 3 ((zL.1 0 3) + 1))) rfl trivial ?_
            rw [e0_0]
            rw [show nI a + (1 : Int32) = nI (a + 1) from nI_add _ 1]
            exact ww_cut [0] (xlc rfl rfl) rfl rfl (ih0 (a + 1) (mPut zL 0 3 (nI (a + 1))) (by omega) mPut_at (KB_put e0_1) (e0_2.trans (pRun_go (by omega) hbl)) (by omega))
          · skip
            replace c14 : ¬ (bt a) = 10 := fun q => c14 ((sEQ (a := (bt a)) (b := 10) (by omega) (by omega)).mpr q)
            have hend : pRun pBl bt n pos = a := by rw [e0_2]; exact pRun_end (fun q => by have := pBl_iff.mp q.2; omega)
            have L52 : (pRun pBl bt n pos = a) → ww xp l xe (xRm (d + 8)) xs xm xar xbl xme xc 1 xD xcs xad shT2 xAA xQ 52 [(0, .ref 0)] [] zL := by
              intro  e52_0
              have hend := e52_0
              refine ww_blk xCC okX3_step 26 8 (ps := []) (pc' := 68) (lv' := [(0, .ref 0)]) (st' := [.int (zL.1 0 1), .int (zL.1 0 3)]) (z' := (mPut zL 0 2 (zL.1 0 3))) rfl trivial ?_
              rw [show zL.1 0 1 = nI n from (e0_1.2 1 (by decide)).trans ht.1]
              rw [e0_0]
              refine ww_br xCC okX3_step 34 (P := (nI a) < (nI n)) (t1 := 81) (t2 := 71) (r := []) rfl (fun c15 => ?_) (fun c15 => ?_)
              · skip
                replace c15 : a < n := (sLT (a := a) (b := n) (by omega) (by omega)).mp c15
                refine ww_blk xCC okX3_step 39 5 (ps := [vp_in (nI a) 160]) (pc' := 90) (lv' := [(0, .ref 0)]) (st' := [.int (zL.1 1 (nI a).toNatClampNeg)]) (z' := (mPut zL 0 2 (nI a))) rfl (vp_in_nI (by omega) (by decide)) ?_
                rw [sCL (n := a) (by omega)]
                rw [show zL.1 1 a = nI (bt a) from (congrFun (e0_1.1 1 (by decide)) _).trans (ht.2.2.1 _ (by omega))]
                refine ww_callSNz xCC okX3_step 44 (ix := 66) (t_X3_isLetter l (d + 5) (bt a) (ht.2.2.2 a) _) (by omega) (by decide) xyX3_isLetter xiX3_isLetter (Or.inl (lw_gt_of (List.mem_of_getElem? (i := 452) (by decide +kernel)) rfl)) rfl (rest := []) rfl (Nat.le_of_ble_eq_true rfl) rfl (fun z16 h17 => ?_) (fun z16 h17 => ?_)
                · skip
                  have hisLetter := h17
                  refine ww_br xCC okX3_step 45 (P := 1 = 0) (t1 := 107) (t2 := 96) (r := []) rfl (fun q => absurd q (by decide)) (fun _ => ?_)
                  refine ww_blk xCC okX3_step 46 2 (ps := []) (pc' := 98) (lv' := [(0, .ref 0)]) (st' := [.ref 0, .ref 0]) (z' := (mPut zL 0 2 (nI a))) rfl trivial ?_
                  refine ww_callVIi xCC okX3_step 48 (ix := 69) (t_X3_word l d n a bt (mPut zL 0 2 (nI a)) (TQ_K (K3_2 (K3_B e0_1)) ht) mPut_at ((mPut_nj (by decide)).trans e0_0) hLn) (by omega) (by decide) xyX3_word xiX3_word (Or.inl (lw_gt_of (List.mem_of_getElem? (i := 456) (by decide +kernel)) rfl)) rfl rfl rfl (rest := [.ref 0]) rfl (Nat.le_of_ble_eq_true rfl) rfl (fun vW zW hW => ?_)
                  rw [hW.1]
                  refine ww_blk xCC okX3_step 49 2 (ps := []) (pc' := 159) (lv' := [(0, .ref 0)]) (st' := []) (z' := (mPut zW 0 4 (nI (pWd bt a (pRun pLe bt n a) pWords)))) rfl trivial ?_
                  subst xhQ
                  exact ww_vret xCC okX3_step 77 xhr rfl ⟨rfl, ⟨tkX_of (pTok_word hend (by omega) hisLetter) ((mPut_nj (by decide)).trans ((hW.2.2.2 2 (by decide)).trans mPut_at)) ((mPut_nj (by decide)).trans hW.2.1) mPut_at, K3_4 (K3_tr (K3_2 (K3_B e0_1)) (K3_B hW.2.2))⟩⟩
                · skip
                  have hisLetter := h17
                  refine ww_br xCC okX3_step 45 (P := 0 = 0) (t1 := 107) (t2 := 96) (r := []) rfl (fun _ => ?_) (fun q => absurd (by decide) q)
                  refine ww_blk xCC okX3_step 51 5 (ps := [vp_in (nI a) 160]) (pc' := 116) (lv' := [(0, .ref 0)]) (st' := [.int (zL.1 1 (nI a).toNatClampNeg)]) (z' := (mPut zL 0 2 (nI a))) rfl (vp_in_nI (by omega) (by decide)) ?_
                  rw [sCL (n := a) (by omega)]
                  rw [show zL.1 1 a = nI (bt a) from (congrFun (e0_1.1 1 (by decide)) _).trans (ht.2.2.1 _ (by omega))]
                  refine ww_callSNz xCC okX3_step 56 (ix := 73) (t_X3_isDigit l (d + 5) (bt a) (ht.2.2.2 a) _) (by omega) (by decide) xyX3_isDigit xiX3_isDigit (Or.inl (lw_gt_of (List.mem_of_getElem? (i := 524) (by decide +kernel)) rfl)) rfl (rest := []) rfl (Nat.le_of_ble_eq_true rfl) rfl (fun z20 h21 => ?_) (fun z20 h21 => ?_)
                  · skip
                    have hisDigit := h21
                    refine ww_br xCC okX3_step 57 (P := 1 = 0) (t1 := 133) (t2 := 122) (r := []) rfl (fun q => absurd q (by decide)) (fun _ => ?_)
                    refine ww_blk xCC okX3_step 58 2 (ps := []) (pc' := 124) (lv' := [(0, .ref 0)]) (st' := [.ref 0, .ref 0]) (z' := (mPut zL 0 2 (nI a))) rfl trivial ?_
                    refine ww_callVIi xCC okX3_step 60 (ix := 76) (t_X3_digits l (d + 5) n a bt (mPut zL 0 2 (nI a)) (TQ_K (K3_2 (K3_B e0_1)) ht) mPut_at ((mPut_nj (by decide)).trans e0_0) hLn) (by omega) (by decide) xyX3_digits xiX3_digits (Or.inl (lw_gt_of (List.mem_of_getElem? (i := 527) (by decide +kernel)) rfl)) rfl rfl rfl (rest := [.ref 0]) rfl (Nat.le_of_ble_eq_true rfl) rfl (fun vW zW hW => ?_)
                    rw [hW.1]
                    refine ww_blk xCC okX3_step 61 2 (ps := []) (pc' := 159) (lv' := [(0, .ref 0)]) (st' := []) (z' := (mPut zW 0 4 (nI (if 4 < pRun pDi bt n a - a then 10022 else pVal bt a (pRun pDi bt n a - a))))) rfl trivial ?_
                    subst xhQ
                    exact ww_vret xCC okX3_step 77 xhr rfl ⟨rfl, ⟨tkX_of (pTok_dig hend (by omega) hisLetter hisDigit) ((mPut_nj (by decide)).trans ((hW.2.2.2 2 (by decide)).trans mPut_at)) ((mPut_nj (by decide)).trans hW.2.1) mPut_at, K3_4 (K3_tr (K3_2 (K3_B e0_1)) (K3_B hW.2.2))⟩⟩
                  · skip
                    have hisDigit := h21
                    refine ww_br xCC okX3_step 57 (P := 0 = 0) (t1 := 133) (t2 := 122) (r := []) rfl (fun _ => ?_) (fun q => absurd (by decide) q)
                    refine ww_blk xCC okX3_step 63 12 (ps := [vp_in (nI a) 160]) (pc' := 153) (lv' := [(0, .ref 0)]) (st' := [.int (zL.1 1 (nI a).toNatClampNeg), .ref 0]) (z' := (mPut (mPut zL 0 2 (nI a)) 0 3 ((zL.1 0 3) + 1))) rfl (vp_in_nI (by omega) (by decide)) ?_
                    rw [sCL (n := a) (by omega)]
                    rw [show zL.1 1 a = nI (bt a) from (congrFun (e0_1.1 1 (by decide)) _).trans (ht.2.2.1 _ (by omega))]
                    rw [e0_0]
                    rw [show nI a + (1 : Int32) = nI (a + 1) from nI_add _ 1]
                    refine ww_callSNi xCC okX3_step 75 (ix := 79) (t_X3_signOf l (d + 5) (bt a) (ht.2.2.2 a) _) (by omega) (by decide) xyX3_signOf xiX3_signOf (Or.inl (lw_gt_of (List.mem_of_getElem? (i := 531) (by decide +kernel)) rfl)) rfl (rest := [.ref 0]) rfl (Nat.le_of_ble_eq_true rfl) rfl (fun vW z24 h25 => ?_)
                    rw [h25]
                    refine ww_blk xCC okX3_step 76 1 (ps := []) (pc' := 159) (lv' := [(0, .ref 0)]) (st' := []) (z' := (mPut (mPut (mPut zL 0 2 (nI a)) 0 3 (nI (a + 1))) 0 4 (nI (pSg (bt a))))) rfl trivial ?_
                    subst xhQ
                    exact ww_vret xCC okX3_step 77 xhr rfl ⟨rfl, ⟨tkX_of (pTok_sig hend (by omega) hisLetter hisDigit) (by simp [mPut_rd]) (by simp [mPut_rd]) (by simp [mPut_rd]), K3_4 (K3_3 (K3_2 (K3_B e0_1)))⟩⟩
              · skip
                replace c15 : ¬ a < n := fun q => c15 ((sLT (a := a) (b := n) (by omega) (by omega)).mpr q)
                refine ww_blk xCC okX3_step 35 4 (ps := []) (pc' := 159) (lv' := [(0, .ref 0)]) (st' := []) (z' := (mPut (mPut zL 0 2 (nI a)) 0 4 10021)) rfl trivial ?_
                subst xhQ
                exact ww_vret xCC okX3_step 77 xhr rfl ⟨rfl, ⟨tkX_of (c := 10021) (a := a) (b := a) (by rw [pTok_end (by omega), hend]) (by simp [mPut_rd]) (by simp [mPut_rd, e0_0]) (by simp [mPut_rd]; rfl), K3_4 (K3_2 (K3_B e0_1))⟩⟩
            exact ww_cut [0] (xlc rfl rfl) rfl rfl (L52  hend)
  exact ww_cut [0] (xlc rfl rfl) rfl rfl (L0 (n - pos + 1) pos z (Nat.lt_succ_self _) hbe (KB_rf z) rfl hpos)

set_option maxHeartbeats 4000000 in
set_option maxRecDepth 20000 in
theorem t_X3_write (l : Launch) (d : Nat) (c w : Nat) (z : xMem) (hw : z.1 0 6 = nI w) (hl : w < 160) : XMv l d yX3_write cX3_write 2 none shT2 [.ref 0, .int (nI c)] z (fun z' => z' = mPut (mPut z 2 w (nI c)) 0 6 (nI (w + 1))) := by
  refine XM.of (by decide) (Nat.le_of_ble_eq_true rfl) (fun xp xe xs xm xar xbl xme xc xD xcs xad xAA xCC xhr => ?_)
  generalize xhQ : MQ xbl _ xar xs 0 0 xAA = xQ
  show ww xp l xe (xRm d) xs xm xar xbl xme xc 2 xD xcs xad shT2 xAA xQ 0 [(0, .ref 0), (1, .int (nI c))] [] z
  refine ww_blk xCC okX3_write 0 3 (ps := []) (pc' := 7) (lv' := [(0, .ref 0), (1, .int (nI c))]) (st' := []) (z' := z) rfl trivial ?_
  refine ww_blk xCC okX3_write 3 5 (ps := []) (pc' := 16) (lv' := [(0, .ref 0), (1, .int (nI c))]) (st' := [.int 160, .int (z.1 0 6)]) (z' := z) rfl trivial ?_
  rw [hw]
  refine ww_br xCC okX3_write 8 (P := (nI w) < 160) (t1 := 20) (t2 := 19) (r := []) rfl (fun c1 => ?_) (fun c1 => absurd ((sLT (b := 160) (by omega) (by decide)).mpr hl) c1)
  refine ww_blk xCC okX3_write 10 12 (ps := [vp_in (z.1 0 6) 160]) (pc' := 40) (lv' := [(0, .ref 0), (1, .int (nI c))]) (st' := []) (z' := (mPut (mPut z 2 (z.1 0 6).toNatClampNeg (nI c)) 0 6 ((z.1 0 6) + 1))) rfl (by rw [hw]; exact vp_in_nI (by omega) (by decide)) ?_
  rw [hw]
  rw [sCL (n := w) (by omega)]
  rw [show nI w + (1 : Int32) = nI (w + 1) from nI_add w 1]
  subst xhQ
  exact ww_vret xCC okX3_write 22 xhr rfl ⟨rfl, rfl⟩

set_option maxHeartbeats 4000000 in
set_option maxRecDepth 20000 in
theorem t_X3_add (l : Launch) (d : Nat) (n b : Nat) (z : xMem) (h1 : z.1 0 1 = nI n) (hn : n < 160) : XMv l d yX3_add cX3_add 2 none shT [.ref 0, .int (nI b)] z (fun z' => z' = mPut (mPut z 1 n (nI b)) 0 1 (nI (n + 1))) := by
  refine XM.of (by decide) (Nat.le_of_ble_eq_true rfl) (fun xp xe xs xm xar xbl xme xc xD xcs xad xAA xCC xhr => ?_)
  generalize xhQ : MQ xbl _ xar xs 0 0 xAA = xQ
  show ww xp l xe (xRm d) xs xm xar xbl xme xc 2 xD xcs xad shT xAA xQ 0 [(0, .ref 0), (1, .int (nI b))] [] z
  refine ww_blk xCC okX3_add 0 3 (ps := []) (pc' := 7) (lv' := [(0, .ref 0), (1, .int (nI b))]) (st' := [.int 160, .int (z.1 0 1)]) (z' := z) rfl trivial ?_
  rw [h1]
  refine ww_br xCC okX3_add 3 (P := (nI n) < 160) (t1 := 11) (t2 := 10) (r := []) rfl (fun c1 => ?_) (fun c1 => absurd ((sLT (b := 160) (by omega) (by decide)).mpr hn) c1)
  refine ww_blk xCC okX3_add 5 12 (ps := [vp_in (z.1 0 1) 160]) (pc' := 31) (lv' := [(0, .ref 0), (1, .int (nI b))]) (st' := []) (z' := (mPut (mPut z 1 (z.1 0 1).toNatClampNeg (nI b)) 0 1 ((z.1 0 1) + 1))) rfl (by rw [h1]; exact vp_in_nI (by omega) (by decide)) ?_
  rw [h1]
  rw [sCL (n := n) (by omega)]
  rw [show nI n + (1 : Int32) = nI (n + 1) from nI_add n 1]
  subst xhQ
  exact ww_vret xCC okX3_add 17 xhr rfl ⟨rfl, rfl⟩
