/-! the JDK's text rows: a String constant lies outside the world -/
section XST
variable {p : Program} {l : Launch} {e : Env} {R : Room} {s : State} {m : MethodId} {args : Array Value} {below : List Frame} {meth : Method} {c : Code} {own : String} {cc : ByteArray} {nL : Nat} {D : va_G} {cs : Nat → ClassId} {ad : Nat → Nat} {sh : xSh} {A : Nat → Prop} {Q : State → Prop}
theorem ww_sval (C : xC p R s m args meth c own cc nL D cs ad sh A) {i pc ix : Nat} {lv : xLv} {st : List Value} {z : xMem} (hi : i < 12) (hd : decode cc pc = .ok (.getfield ix, 3)) (hk : Cond.fieldLink own ix "java/lang/String" "value" "[B" ∈ lw_gt) (k : ww p l e R s m args below meth c nL D cs ad sh A Q (pc + 3) lv (.ref (3000 + i) :: st) z) : ww p l e R s m args below meth c nL D cs ad sh A Q pc lv (.ref (2000 + i) :: st) z := by
  obtain ⟨hx, hb, hml, hown, hts, hlk, hK, hi1, hi2, hA, hE, hR⟩ := C
  intro H locs ls hP hS hl
  exact vk_getf hx hb (hE.2.1.1 i hi).2.2.1 hS hown (hts _ hk) (fun _ h => h) hd (k H locs ls hP hS hl)
theorem ww_scod (C : xC p R s m args meth c own cc nL D cs ad sh A) {i pc ix : Nat} {lv : xLv} {st : List Value} {z : xMem} (hi : i < 12) (hd : decode cc pc = .ok (.getfield ix, 3)) (hk : Cond.fieldLink own ix "java/lang/String" "coder" "B" ∈ lw_gt) (k : ww p l e R s m args below meth c nL D cs ad sh A Q (pc + 3) lv (.int 0 :: st) z) : ww p l e R s m args below meth c nL D cs ad sh A Q pc lv (.ref (2000 + i) :: st) z := by
  obtain ⟨hx, hb, hml, hown, hts, hlk, hK, hi1, hi2, hA, hE, hR⟩ := C
  intro H locs ls hP hS hl
  exact vk_getf hx hb (hE.2.1.1 i hi).2.1 hS hown (hts _ hk) (fun _ h => h) hd (k H locs ls hP hS hl)
theorem ww_slen (C : xC p R s m args meth c own cc nL D cs ad sh A) {i pc : Nat} {lv : xLv} {st : List Value} {z : xMem} (hi : i < 12) (hd : decode cc pc = .ok (.arraylength, 1)) (k : ww p l e R s m args below meth c nL D cs ad sh A Q (pc + 1) lv (.int (nI (xStrL.getD i 0)) :: st) z) : ww p l e R s m args below meth c nL D cs ad sh A Q pc lv (.ref (3000 + i) :: st) z := by
  obtain ⟨hx, hb, hml, hown, hts, hlk, hK, hi1, hi2, hA, hE, hR⟩ := C
  intro H locs ls hP hS hl
  exact va_tlen hx hb (hE.2.1.1 i hi).2.2.2 hS rfl hd (k H locs ls hP hS hl)
theorem ww_sbyt (C : xC p R s m args meth c own cc nL D cs ad sh A) {i j pc : Nat} {lv : xLv} {st : List Value} {z : xMem} (hi : i < 12) (hj : j < xStrL.getD i 0) (hj2 : j < 2 ^ 31) (hd : decode cc pc = .ok (.baload, 1)) (k : ww p l e R s m args below meth c nL D cs ad sh A Q (pc + 1) lv (.int ((xStrB.getD i []).getD j 0) :: st) z) : ww p l e R s m args below meth c nL D cs ad sh A Q pc lv (.int (nI j) :: .ref (3000 + i) :: st) z := by
  obtain ⟨hx, hb, hml, hown, hts, hlk, hK, hi1, hi2, hA, hE, hR⟩ := C
  intro H locs ls hP hS hl
  have hlen : ∀ q, q < 12 → xStrL.getD q 0 < 2 ^ 31 := by decide
  exact va_tb hx hb (hE.2.1.1 i hi).2.2.2 hS (vp_in_nI hj (hlen i hi)) (by rw [nI_clamp hj2]; rfl) hd (k H locs ls hP hS hl)
theorem ww_scs (C : xC p R s m args meth c own cc nL D cs ad sh A) {pc ix : Nat} {lv : xLv} {st : List Value} {z : xMem} (hd : decode cc pc = .ok (.getstatic ix, 3)) (hk : Cond.fieldLink own ix "java/lang/String" "COMPACT_STRINGS" "Z" ∈ lw_gt) (k : ww p l e R s m args below meth c nL D cs ad sh A Q (pc + 3) lv (.int 1 :: st) z) : ww p l e R s m args below meth c nL D cs ad sh A Q pc lv st z := by
  obtain ⟨hx, hb, hml, hown, hts, hlk, hK, hi1, hi2, hA, hE, hR⟩ := C
  intro H locs ls hP hS hl
  exact va_gets hx hb hE.2.2.2.1 hS hown (hts _ hk) (fun _ h => h) hd (k H locs ls hP hS hl)
theorem ww_sfm (C : xC p R s m args meth c own cc nL D cs ad sh A) {pc ix : Nat} {lv : xLv} {st : List Value} {z : xMem} (hd : decode cc pc = .ok (.getstatic ix, 3)) (hk : Cond.fieldLink own ix "jdk/internal/util/Preconditions" "SIOOBE_FORMATTER" "Ljava/util/function/BiFunction;" ∈ lw_gt) (k : ∀ v : Value, v = .null ∨ v = .ref 4000 → ww p l e R s m args below meth c nL D cs ad sh A Q (pc + 3) lv (v :: st) z) : ww p l e R s m args below meth c nL D cs ad sh A Q pc lv st z := by
  obtain ⟨hx, hb, hml, hown, hts, hlk, hK, hi1, hi2, hA, hE, hR⟩ := C
  intro H locs ls hP hS hl
  rcases hE.2.2.2.2.2 with h | h
  · exact va_gets hx hb h hS hown (hts _ hk) (fun _ h => h) hd (k .null (Or.inl rfl) H locs ls hP hS hl)
  · exact va_gets hx hb h hS hown (hts _ hk) (fun _ h => h) hd (k (.ref 4000) (Or.inr rfl) H locs ls hP hS hl)
theorem ww_i2c (C : xC p R s m args meth c own cc nL D cs ad sh A) {pc b : Nat} {lv : xLv} {st : List Value} {z : xMem} (hbb : b < 256) (hd : decode cc pc = .ok (.i2c, 1)) (k : ww p l e R s m args below meth c nL D cs ad sh A Q (pc + 1) lv (.int (nI b) :: st) z) : ww p l e R s m args below meth c nL D cs ad sh A Q pc lv (.int (nI b) :: st) z := by
  obtain ⟨hx, hb, hml, hown, hts, hlk, hK, hi1, hi2, hA, hE, hR⟩ := C
  intro H locs ls hP hS hl
  have hc : ∀ b, b < 256 → ((nI b).toUInt32 % 65536).toInt32 = nI b := by decide +kernel
  exact lv_i2c hx hb hd (hc b hbb) (k H locs ls hP hS hl)
/-- a call of a String constant's method -/
theorem ww_callVS {d dc : Nat} (C : xC p (xRm d) s m args meth c own cc nL D cs ad sh A) {K : List xI} (hK : K.all (xOk own cc) = true) (a : Nat) {ix : Nat} {y : MethodName} {cy : ByteArray} {maxLy : Nat} {rety : Option FieldType} {n : Nat} {as rest : List Value} {i0 : Nat} {z : xMem} {post : Option Value → xMem → Prop} {pc : Nat} {lv : xLv}
    (hM : XM l dc y cy maxLy rety [] (.ref (2000 + i0) :: as) (xPull [] z) post) (hd : dc < d) (hm : maxLy ≤ 20) (hy : xY y cy maxLy rety n) (hyi : Cond.instanceMethod y ∈ lw_gt ∧ Cond.selects y.cls y y ∈ lw_gt) (hlk : xLk own ix y)
    (hi0 : i0 < 12) (hcls : y.cls = "java/lang/String") (hn : as.length = n) {st : List Value} (hst : st = (as.map (xR (xEs []))).reverse ++ .ref (2000 + i0) :: rest) (hrest : (rest.map Value.category).sum ≤ 8) (h : (K[a]?).map (fun q => (q.1, q.2.1)) = some (pc, .invokevirtual ix))
    (kk : ∀ (r : Option Value) (z' : xMem), post r z' → ww p l e (xRm d) s m args below meth c nL D cs ad sh A Q (pc + 3) lv ((r.map (xR (xEs []))).toList ++ rest) (xBack [] (xHasRaw []) z z')) : ww p l e (xRm d) s m args below meth c nL D cs ad sh A Q pc lv st z := by
  have C0 := C
  obtain ⟨hx, hb, hml, hown, hts, hlocks, hCK, hi1, hi2, hA, hE, hR⟩ := C0
  cases hx0 : K[a]? with
  | none => rw [hx0] at h; cases h
  | some x =>
    rw [hx0] at h
    obtain ⟨pc0, i, y9⟩ := x
    simp only [Option.map_some, Option.some.injEq, Prod.mk.injEq] at h
    obtain ⟨h1, h2⟩ := h
    have hdg := xK_d hK hx0
    dsimp only at hdg
    rw [h1, h2] at hdg
    intro H locs ls hP hS hl
    have hs : xSub sh [] [] = true := by rfl
    have hpre := xCall_pre C (as := .ref (2000 + i0) :: as) hs (Nat.zero_le _) hP hS
    have hMe := hM D cs (fun q => ad (xEs [] q)) H.size
    have hrec := vk_recv hE.2.1 hi0 hS
    rw [← hcls] at hrec
    have hpv : PreV s H y.cls (ad (2000 + i0)) (xPc D cs (fun q => ad (xEs [] q)) [] H.size (.ref (2000 + i0) :: as) (xPull [] z)) (as.map (xR (fun q => ad (xEs [] q)))) :=
      ⟨xPc_blind, hrec, fun U hU hW => hpre U hU hW⟩
    have hfull : (st.map (xR ad)) = (as.map (xR (fun q => ad (xEs [] q)))).reverse ++ .ref (ad (2000 + i0)) :: rest.map (xR ad) := by
      rw [hst]
      simp only [List.map_append, List.map_reverse, List.map_map, List.map_cons]
      congr 2
      apply List.map_congr_left
      intro v _
      exact xR_xR ad [] v
    have hrun : va_Run p l e (xRm d) s m args below meth c H locs 0 0 0 0 (F0 m pc ls (st.map (xR ad))) (rest.map (xR ad)) (xQc D cs (fun q => ad (xEs [] q)) [] (xA (fun q => ad (xEs [] q)) 0 H.size) post (Value.ref (ad (2000 + i0)) :: as.map (xR (fun q => ad (xEs [] q)))).toArray) (xA (fun q => ad (xEs [] q)) 0 H.size) := by
      rcases hlk with hlk | hlk
      · exact va_runV (C := y.cls) (n := n) ⟨hx, hb, hml, hown, hts⟩ hMe ⟨callB_of n hts (lw_in hy.1) rfl rfl rfl (hts _ hy.2.1) (hts _ hlk) hy.2.2 (xFit hd hm), hts _ hyi.1, hts _ hyi.2⟩ hpv rfl (by rw [List.length_map]; exact hn) hl.1 hfull (lv_room (by rw [xR_sum]; exact hrest)) hdg ⟨Nat.zero_le _, Nat.zero_le _⟩
      · exact va_runVN (C := y.cls) (n := n) ⟨hx, hb, hml, hown, hts⟩ hMe ⟨va_cnB n hts (lw_in hy.1) rfl rfl rfl (hE.2.2.2.2.1 _ hlk rfl) (hts _ hy.2.1) hy.2.2 (xFit hd hm), hts _ hyi.1, hts _ hyi.2⟩ hpv rfl (by rw [List.length_map]; exact hn) hl.1 hfull (lv_room (by rw [xR_sum]; exact hrest)) hdg ⟨Nat.zero_le _, Nat.zero_le _⟩
    exact xCall_go C hs (fun q => by cases q) hP hS hrun (fun r z' hp H1 locs1 hP1 hS1 => kk r z' hp H1 locs1 ls hP1 hS1 hl)
theorem ww_callVSi {d dc : Nat} (C : xC p (xRm d) s m args meth c own cc nL D cs ad sh A) {K : List xI} (hK : K.all (xOk own cc) = true) (a : Nat) {ix : Nat} {y : MethodName} {cy : ByteArray} {maxLy : Nat} {rety : Option FieldType} {n : Nat} {as rest : List Value} {i0 : Nat} {z : xMem} {P : Int32 → xMem → Prop} {pc : Nat} {lv : xLv}
    (hM : XMi l dc y cy maxLy rety [] (.ref (2000 + i0) :: as) (xPull [] z) P) (hd : dc < d) (hm : maxLy ≤ 20) (hy : xY y cy maxLy rety n) (hyi : Cond.instanceMethod y ∈ lw_gt ∧ Cond.selects y.cls y y ∈ lw_gt) (hlk : xLk own ix y)
    (hi0 : i0 < 12) (hcls : y.cls = "java/lang/String") (hn : as.length = n) {st : List Value} (hst : st = (as.map (xR (xEs []))).reverse ++ .ref (2000 + i0) :: rest) (hrest : (rest.map Value.category).sum ≤ 8) (h : (K[a]?).map (fun q => (q.1, q.2.1)) = some (pc, .invokevirtual ix))
    (kk : ∀ (v : Int32) (z' : xMem), P v z' → ww p l e (xRm d) s m args below meth c nL D cs ad sh A Q (pc + 3) lv (.int v :: rest) z) : ww p l e (xRm d) s m args below meth c nL D cs ad sh A Q pc lv st z :=
  ww_callVS C hK a hM hd hm hy hyi hlk hi0 hcls hn hst hrest h (fun r z' hp => by
    obtain ⟨v, rfl, h9⟩ := hp
    exact kk v z' h9)
theorem ww_callVSz {d dc : Nat} (C : xC p (xRm d) s m args meth c own cc nL D cs ad sh A) {K : List xI} (hK : K.all (xOk own cc) = true) (a : Nat) {ix : Nat} {y : MethodName} {cy : ByteArray} {maxLy : Nat} {rety : Option FieldType} {n : Nat} {as rest : List Value} {i0 : Nat} {z : xMem} {P N0 : xMem → Prop} {pc : Nat} {lv : xLv}
    (hM : XMz l dc y cy maxLy rety [] (.ref (2000 + i0) :: as) (xPull [] z) P N0) (hd : dc < d) (hm : maxLy ≤ 20) (hy : xY y cy maxLy rety n) (hyi : Cond.instanceMethod y ∈ lw_gt ∧ Cond.selects y.cls y y ∈ lw_gt) (hlk : xLk own ix y)
    (hi0 : i0 < 12) (hcls : y.cls = "java/lang/String") (hn : as.length = n) {st : List Value} (hst : st = (as.map (xR (xEs []))).reverse ++ .ref (2000 + i0) :: rest) (hrest : (rest.map Value.category).sum ≤ 8) (h : (K[a]?).map (fun q => (q.1, q.2.1)) = some (pc, .invokevirtual ix))
    (k1 : ∀ z' : xMem, P z' → ww p l e (xRm d) s m args below meth c nL D cs ad sh A Q (pc + 3) lv (.int 1 :: rest) z) (k0 : ∀ z' : xMem, N0 z' → ww p l e (xRm d) s m args below meth c nL D cs ad sh A Q (pc + 3) lv (.int 0 :: rest) z) : ww p l e (xRm d) s m args below meth c nL D cs ad sh A Q pc lv st z :=
  ww_callVS C hK a hM hd hm hy hyi hlk hi0 hcls hn hst hrest h (fun r z' hp => by
    rcases hp with ⟨rfl, h9⟩ | ⟨rfl, h9⟩
    · exact k1 z' h9
    · exact k0 z' h9)
end XST
def pWl (w : Nat) : List Nat := (pWords.getD w ([], 0)).1
theorem sS_len : ∀ i, i < 12 → xStrL.getD i 0 = (pWl i).length ∧ xStrL.getD i 0 ≤ 6 := by decide
theorem sS_shr : ∀ i, i < 12 → nI (xStrL.getD i 0) >>> ((0 : Int32) &&& 31) = nI (xStrL.getD i 0) := by decide
theorem sS_b6 : ∀ i, i < 12 → ∀ j, j < 6 → (xStrB.getD i []).getD j 0 = nI ((pWl i).getD j 0) ∧ nI ((pWl i).getD j 0) &&& 255 = nI ((pWl i).getD j 0) ∧ (pWl i).getD j 0 < 256 := by decide
theorem sS_byt (i : Nat) (hi : i < 12) (j : Nat) (hj : j < xStrL.getD i 0) : (xStrB.getD i []).getD j 0 = nI ((pWl i).getD j 0) ∧ nI ((pWl i).getD j 0) &&& 255 = nI ((pWl i).getD j 0) ∧ (pWl i).getD j 0 < 256 := sS_b6 i hi j (by have := (sS_len i hi).2; omega)
theorem sS_nar : ∀ b, b < 256 → narrow .char (.int (nI b)) = .int (nI b) := by decide +kernel
def kJ3_checkIndex_8e157 : List xI := [(0, .iload_n 0, (0, 0, 0, 0), 0, 0), (1, .ifCond .lt 8, (0, 0, 0, 0), 0, 0), (4, .iload_n 0, (0, 0, 0, 0), 0, 0), (5, .iload_n 1, (0, 0, 0, 0), 0, 0), (6, .if_icmp .lt 10, (0, 0, 0, 0), 0, 0), (16, .iload_n 0, (0, 0, 0, 0), 0, 0), (17, .ireturn, (0, 0, 0, 0), 0, 0)]
theorem okJ3_checkIndex_8e157 : kJ3_checkIndex_8e157.all (xOk RJ3 cJ3_checkIndex_8e157) = true := by decide +kernel
set_option maxHeartbeats 4000000 in
set_option maxRecDepth 20000 in
theorem t_J3_checkIndex_8e157 (l : Launch) (d : Nat) (k n : Nat) (v : Value) (hv : v = .null ∨ v = .ref 4000) (hk : k < n) (hn : n < 2 ^ 31) (z : xMem) : XMi l d yJ3_checkIndex_8e157 cJ3_checkIndex_8e157 3 (some .int) [] [.int (nI k), .int (nI n), v] z (fun u _ => u = nI k) := by
  rcases hv with rfl | rfl
  · refine XM.of (by decide) (Nat.le_of_ble_eq_true rfl) (fun xp xe xs xm xar xbl xme xc xD xcs xad xAA xCC xhr => ?_)
    generalize xhQ : MQ xbl _ xar xs 0 0 xAA = xQ
    show ww xp l xe (xRm d) xs xm xar xbl xme xc 3 xD xcs xad [] xAA xQ 0 [(0, .int (nI k)), (1, .int (nI n)), (2, .null)] [] z
    refine ww_blk xCC okJ3_checkIndex_8e157 0 1 (ps := []) (pc' := 1) (lv' := [(0, .int (nI k)), (1, .int (nI n)), (2, .null)]) (st' := [.int (nI k)]) (z' := z) rfl trivial ?_
    refine ww_br xCC okJ3_checkIndex_8e157 1 (P := nI k < 0) (t1 := 9) (t2 := 4) (r := []) rfl (fun q => absurd q (nI_pos (by omega))) (fun _ => ?_)
    refine ww_blk xCC okJ3_checkIndex_8e157 2 2 (ps := []) (pc' := 6) (lv' := [(0, .int (nI k)), (1, .int (nI n)), (2, .null)]) (st' := [.int (nI n), .int (nI k)]) (z' := z) rfl trivial ?_
    refine ww_br xCC okJ3_checkIndex_8e157 4 (P := nI k < nI n) (t1 := 16) (t2 := 9) (r := []) rfl (fun _ => ?_) (fun q => absurd (nI_lt hk hn) q)
    refine ww_blk xCC okJ3_checkIndex_8e157 5 1 (ps := []) (pc' := 17) (lv' := [(0, .int (nI k)), (1, .int (nI n)), (2, .null)]) (st' := [.int (nI k)]) (z' := z) rfl trivial ?_
    subst xhQ
    exact ww_iret xCC okJ3_checkIndex_8e157 6 xhr rfl rfl ⟨_, rfl, rfl⟩
  · refine XM.of (by decide) (Nat.le_of_ble_eq_true rfl) (fun xp xe xs xm xar xbl xme xc xD xcs xad xAA xCC xhr => ?_)
    generalize xhQ : MQ xbl _ xar xs 0 0 xAA = xQ
    show ww xp l xe (xRm d) xs xm xar xbl xme xc 3 xD xcs xad [] xAA xQ 0 [(0, .int (nI k)), (1, .int (nI n)), (2, .ref 4000)] [] z
    refine ww_blk xCC okJ3_checkIndex_8e157 0 1 (ps := []) (pc' := 1) (lv' := [(0, .int (nI k)), (1, .int (nI n)), (2, .ref 4000)]) (st' := [.int (nI k)]) (z' := z) rfl trivial ?_
    refine ww_br xCC okJ3_checkIndex_8e157 1 (P := nI k < 0) (t1 := 9) (t2 := 4) (r := []) rfl (fun q => absurd q (nI_pos (by omega))) (fun _ => ?_)
    refine ww_blk xCC okJ3_checkIndex_8e157 2 2 (ps := []) (pc' := 6) (lv' := [(0, .int (nI k)), (1, .int (nI n)), (2, .ref 4000)]) (st' := [.int (nI n), .int (nI k)]) (z' := z) rfl trivial ?_
    refine ww_br xCC okJ3_checkIndex_8e157 4 (P := nI k < nI n) (t1 := 16) (t2 := 9) (r := []) rfl (fun _ => ?_) (fun q => absurd (nI_lt hk hn) q)
    refine ww_blk xCC okJ3_checkIndex_8e157 5 1 (ps := []) (pc' := 17) (lv' := [(0, .int (nI k)), (1, .int (nI n)), (2, .ref 4000)]) (st' := [.int (nI k)]) (z' := z) rfl trivial ?_
    subst xhQ
    exact ww_iret xCC okJ3_checkIndex_8e157 6 xhr rfl rfl ⟨_, rfl, rfl⟩
def kJ0_checkIndex_df160 : List xI := [(0, .iload_n 0, (0, 0, 0, 0), 0, 0), (1, .iload_n 1, (0, 0, 0, 0), 0, 0), (5, .invokestatic 1059, (0, 3, 0, 0), 0, 0), (8, .pop, (0, 0, 0, 0), 0, 0), (9, .return_, (0, 0, 0, 0), 0, 0)]
theorem okJ0_checkIndex_df160 : kJ0_checkIndex_df160.all (xOk RJ0 cJ0_checkIndex_df160) = true := by decide +kernel
set_option maxHeartbeats 4000000 in
set_option maxRecDepth 20000 in
theorem t_J0_checkIndex_df160 (l : Launch) (d : Nat) (k n : Nat) (hk : k < n) (hn : n < 2 ^ 31) (z : xMem) : XMv l (d + 1) yJ0_checkIndex_df160 cJ0_checkIndex_df160 2 none [] [.int (nI k), .int (nI n)] z (fun _ => True) := by
  refine XM.of (by decide) (Nat.le_of_ble_eq_true rfl) (fun xp xe xs xm xar xbl xme xc xD xcs xad xAA xCC xhr => ?_)
  generalize xhQ : MQ xbl _ xar xs 0 0 xAA = xQ
  show ww xp l xe (xRm (d + 1)) xs xm xar xbl xme xc 2 xD xcs xad [] xAA xQ 0 [(0, .int (nI k)), (1, .int (nI n))] [] z
  refine ww_blk xCC okJ0_checkIndex_df160 0 2 (ps := []) (pc' := 2) (lv' := [(0, .int (nI k)), (1, .int (nI n))]) (st' := [.int (nI n), .int (nI k)]) (z' := z) rfl trivial ?_
  refine ww_sfm xCC (by decide +kernel) (ix := 1053) (lw_gt_of (List.mem_of_getElem? (i := 489) (by decide +kernel)) rfl) (fun v hv => ?_)
  refine ww_callSNi xCC okJ0_checkIndex_df160 2 (ix := 1059) (t_J3_checkIndex_8e157 l d k n v hv hk hn _) (by omega) (by decide) xyJ3_checkIndex_8e157 xiJ3_checkIndex_8e157 (Or.inl (lw_gt_of (List.mem_of_getElem? (i := 491) (by decide +kernel)) rfl)) rfl (rest := []) (by rcases hv with rfl | rfl <;> rfl) (Nat.le_of_ble_eq_true rfl) rfl (fun v9 z9 h9 => ?_)
  refine ww_blk xCC okJ0_checkIndex_df160 3 1 (ps := []) (pc' := 9) (lv' := [(0, .int (nI k)), (1, .int (nI n))]) (st' := []) (z' := z) rfl trivial ?_
  subst xhQ
  exact ww_vret xCC okJ0_checkIndex_df160 4 xhr rfl ⟨rfl, trivial⟩
def kJ0_coder_7d493 : List xI := [(3, .ifCond .eq 10, (0, 0, 0, 0), 0, 0), (6, .aload_n 0, (0, 0, 0, 0), 0, 0), (10, .goto 4, (0, 0, 0, 0), 0, 0), (13, .iconst 1, (0, 0, 0, 0), 1, 0), (14, .ireturn, (0, 0, 0, 0), 0, 0)]
theorem okJ0_coder_7d493 : kJ0_coder_7d493.all (xOk RJ0 cJ0_coder_7d493) = true := by decide +kernel
set_option maxHeartbeats 4000000 in
set_option maxRecDepth 20000 in
theorem t_J0_coder_7d493 (l : Launch) (d : Nat) (i : Nat) (hi : i < 12) (z : xMem) : XMi l d yJ0_coder_7d493 cJ0_coder_7d493 1 (some .byte) [] [.ref (2000 + i)] z (fun v _ => v = 0) := by
  refine XM.of (by decide) (Nat.le_of_ble_eq_true rfl) (fun xp xe xs xm xar xbl xme xc xD xcs xad xAA xCC xhr => ?_)
  generalize xhQ : MQ xbl _ xar xs 0 0 xAA = xQ
  show ww xp l xe (xRm d) xs xm xar xbl xme xc 1 xD xcs xad [] xAA xQ 0 [(0, .ref (2000 + i))] [] z
  refine ww_scs xCC (by decide +kernel) (ix := 38) (lw_gt_of (List.mem_of_getElem? (i := 473) (by decide +kernel)) rfl) ?_
  refine ww_br xCC okJ0_coder_7d493 0 (P := (1 : Int32) = 0) (t1 := 13) (t2 := 6) (r := []) rfl (fun q => absurd q (by decide)) (fun _ => ?_)
  refine ww_blk xCC okJ0_coder_7d493 1 1 (ps := []) (pc' := 7) (lv' := [(0, .ref (2000 + i))]) (st' := [.ref (2000 + i)]) (z' := z) rfl trivial ?_
  refine ww_scod xCC hi (by decide +kernel) (ix := 15) (lw_gt_of (List.mem_of_getElem? (i := 1281) (by decide +kernel)) rfl) ?_
  refine ww_blk xCC okJ0_coder_7d493 2 1 (ps := []) (pc' := 14) (lv' := [(0, .ref (2000 + i))]) (st' := [.int 0]) (z' := z) rfl trivial ?_
  subst xhQ
  exact ww_iret xCC okJ0_coder_7d493 4 xhr rfl (by decide) ⟨_, rfl, rfl⟩
def kJ0_isLatin1_aae02 : List xI := [(3, .ifCond .eq 14, (0, 0, 0, 0), 0, 0), (6, .aload_n 0, (0, 0, 0, 0), 0, 0), (10, .ifCond .ne 7, (0, 0, 0, 0), 0, 0), (13, .iconst 1, (0, 0, 0, 0), 1, 0), (14, .goto 4, (0, 0, 0, 0), 0, 0), (17, .iconst 0, (0, 0, 0, 0), 0, 0), (18, .ireturn, (0, 0, 0, 0), 0, 0)]
theorem okJ0_isLatin1_aae02 : kJ0_isLatin1_aae02.all (xOk RJ0 cJ0_isLatin1_aae02) = true := by decide +kernel
set_option maxHeartbeats 4000000 in
set_option maxRecDepth 20000 in
theorem t_J0_isLatin1_aae02 (l : Launch) (d : Nat) (i : Nat) (hi : i < 12) (z : xMem) : XMz l d yJ0_isLatin1_aae02 cJ0_isLatin1_aae02 1 (some .boolean) [] [.ref (2000 + i)] z (fun _ => True) (fun _ => False) := by
  refine XM.of (by decide) (Nat.le_of_ble_eq_true rfl) (fun xp xe xs xm xar xbl xme xc xD xcs xad xAA xCC xhr => ?_)
  generalize xhQ : MQ xbl _ xar xs 0 0 xAA = xQ
  show ww xp l xe (xRm d) xs xm xar xbl xme xc 1 xD xcs xad [] xAA xQ 0 [(0, .ref (2000 + i))] [] z
  refine ww_scs xCC (by decide +kernel) (ix := 38) (lw_gt_of (List.mem_of_getElem? (i := 473) (by decide +kernel)) rfl) ?_
  refine ww_br xCC okJ0_isLatin1_aae02 0 (P := (1 : Int32) = 0) (t1 := 17) (t2 := 6) (r := []) rfl (fun q => absurd q (by decide)) (fun _ => ?_)
  refine ww_blk xCC okJ0_isLatin1_aae02 1 1 (ps := []) (pc' := 7) (lv' := [(0, .ref (2000 + i))]) (st' := [.ref (2000 + i)]) (z' := z) rfl trivial ?_
  refine ww_scod xCC hi (by decide +kernel) (ix := 15) (lw_gt_of (List.mem_of_getElem? (i := 1281) (by decide +kernel)) rfl) ?_
  refine ww_br xCC okJ0_isLatin1_aae02 2 (P := (0 : Int32) = 0) (t1 := 13) (t2 := 17) (r := []) rfl (fun _ => ?_) (fun q => absurd rfl q)
  refine ww_blk xCC okJ0_isLatin1_aae02 3 2 (ps := []) (pc' := 18) (lv' := [(0, .ref (2000 + i))]) (st' := [.int 1]) (z' := z) rfl trivial ?_
  subst xhQ
  exact ww_iret xCC okJ0_isLatin1_aae02 6 xhr rfl (by decide) (Or.inl ⟨rfl, trivial⟩)
def kJ0_length_8abf5 : List xI := [(0, .aload_n 0, (0, 0, 0, 0), 0, 0), (5, .aload_n 0, (0, 0, 0, 0), 0, 0), (6, .invokevirtual 335, (0, 0, 0, 0), 0, 0), (9, .ishr, (0, 0, 0, 0), 0, 0), (10, .ireturn, (0, 0, 0, 0), 0, 0)]
theorem okJ0_length_8abf5 : kJ0_length_8abf5.all (xOk RJ0 cJ0_length_8abf5) = true := by decide +kernel
set_option maxHeartbeats 4000000 in
set_option maxRecDepth 20000 in
theorem t_J0_length_8abf5 (l : Launch) (d : Nat) (i : Nat) (hi : i < 12) (z : xMem) : XMi l (d + 1) yJ0_length_8abf5 cJ0_length_8abf5 1 (some .int) [] [.ref (2000 + i)] z (fun v _ => v = nI (xStrL.getD i 0)) := by
  refine XM.of (by decide) (Nat.le_of_ble_eq_true rfl) (fun xp xe xs xm xar xbl xme xc xD xcs xad xAA xCC xhr => ?_)
  generalize xhQ : MQ xbl _ xar xs 0 0 xAA = xQ
  show ww xp l xe (xRm (d + 1)) xs xm xar xbl xme xc 1 xD xcs xad [] xAA xQ 0 [(0, .ref (2000 + i))] [] z
  refine ww_blk xCC okJ0_length_8abf5 0 1 (ps := []) (pc' := 1) (lv' := [(0, .ref (2000 + i))]) (st' := [.ref (2000 + i)]) (z' := z) rfl trivial ?_
  refine ww_sval xCC hi (by decide +kernel) (ix := 9) (lw_gt_of (List.mem_of_getElem? (i := 1280) (by decide +kernel)) rfl) ?_
  refine ww_slen xCC hi (by decide +kernel) ?_
  refine ww_blk xCC okJ0_length_8abf5 1 1 (ps := []) (pc' := 6) (lv' := [(0, .ref (2000 + i))]) (st' := [.ref (2000 + i), .int (nI (xStrL.getD i 0))]) (z' := z) rfl trivial ?_
  refine ww_callVSi xCC okJ0_length_8abf5 2 (ix := 335) (t_J0_coder_7d493 l d i hi _) (by omega) (by decide) xyJ0_coder_7d493 xiJ0_coder_7d493 (Or.inl (lw_gt_of (List.mem_of_getElem? (i := 469) (by decide +kernel)) rfl)) hi rfl rfl (rest := [.int (nI (xStrL.getD i 0))]) rfl (Nat.le_of_ble_eq_true rfl) rfl (fun v9 z9 h9 => ?_)
  rw [h9]
  refine ww_blk xCC okJ0_length_8abf5 3 1 (ps := []) (pc' := 10) (lv' := [(0, .ref (2000 + i))]) (st' := [.int (nI (xStrL.getD i 0) >>> ((0 : Int32) &&& 31))]) (z' := z) rfl trivial ?_
  subst xhQ
  exact ww_iret xCC okJ0_length_8abf5 4 xhr rfl rfl ⟨_, rfl, sS_shr i hi⟩
def kJ1_charAt_3b067 : List xI := [(0, .iload_n 1, (0, 0, 0, 0), 0, 0), (1, .aload_n 0, (0, 0, 0, 0), 0, 0), (3, .invokestatic 9, (0, 3, 0, 0), 0, 0), (6, .aload_n 0, (0, 0, 0, 0), 0, 0), (7, .iload_n 1, (0, 0, 0, 0), 0, 0), (9, .sipush 255, (0, 0, 0, 0), 255, 0), (12, .iand, (0, 0, 0, 0), 0, 0), (14, .ireturn, (0, 0, 0, 0), 0, 0)]
theorem okJ1_charAt_3b067 : kJ1_charAt_3b067.all (xOk RJ1 cJ1_charAt_3b067) = true := by decide +kernel
set_option maxHeartbeats 4000000 in
set_option maxRecDepth 20000 in
theorem t_J1_charAt_3b067 (l : Launch) (d : Nat) (i j : Nat) (hi : i < 12) (hj : j < xStrL.getD i 0) (z : xMem) : XMi l (d + 2) yJ1_charAt_3b067 cJ1_charAt_3b067 2 (some .char) [] [.ref (3000 + i), .int (nI j)] z (fun v _ => v = nI ((pWl i).getD j 0)) := by
  refine XM.of (by decide) (Nat.le_of_ble_eq_true rfl) (fun xp xe xs xm xar xbl xme xc xD xcs xad xAA xCC xhr => ?_)
  generalize xhQ : MQ xbl _ xar xs 0 0 xAA = xQ
  show ww xp l xe (xRm (d + 2)) xs xm xar xbl xme xc 2 xD xcs xad [] xAA xQ 0 [(0, .ref (3000 + i)), (1, .int (nI j))] [] z
  have hj6 := sS_len i hi
  have hb := sS_byt i hi j hj
  refine ww_blk xCC okJ1_charAt_3b067 0 2 (ps := []) (pc' := 2) (lv' := [(0, .ref (3000 + i)), (1, .int (nI j))]) (st' := [.ref (3000 + i), .int (nI j)]) (z' := z) rfl trivial ?_
  refine ww_slen xCC hi (by decide +kernel) ?_
  refine ww_callSNv xCC okJ1_charAt_3b067 2 (ix := 9) (t_J0_checkIndex_df160 l d j (xStrL.getD i 0) hj (by omega) _) (by omega) (by decide) xyJ0_checkIndex_df160 xiJ0_checkIndex_df160 (Or.inl (lw_gt_of (List.mem_of_getElem? (i := 486) (by decide +kernel)) rfl)) rfl (rest := []) rfl (Nat.le_of_ble_eq_true rfl) rfl (fun z9 h9 => ?_)
  refine ww_blk xCC okJ1_charAt_3b067 3 2 (ps := []) (pc' := 8) (lv' := [(0, .ref (3000 + i)), (1, .int (nI j))]) (st' := [.int (nI j), .ref (3000 + i)]) (z' := z) rfl trivial ?_
  refine ww_sbyt xCC hi hj (by omega) (by decide +kernel) ?_
  rw [hb.1]
  refine ww_blk xCC okJ1_charAt_3b067 5 2 (ps := []) (pc' := 13) (lv' := [(0, .ref (3000 + i)), (1, .int (nI j))]) (st' := [.int (nI ((pWl i).getD j 0) &&& 255)]) (z' := z) rfl trivial ?_
  rw [hb.2.1]
  refine ww_i2c xCC hb.2.2 (by decide +kernel) ?_
  subst xhQ
  exact ww_iret xCC okJ1_charAt_3b067 7 xhr rfl (sS_nar _ hb.2.2) ⟨_, rfl, rfl⟩
def kJ0_charAt_5068e : List xI := [(0, .aload_n 0, (0, 0, 0, 0), 0, 0), (1, .invokevirtual 492, (0, 0, 0, 0), 0, 0), (4, .ifCond .eq 12, (0, 0, 0, 0), 0, 0), (7, .aload_n 0, (0, 0, 0, 0), 0, 0), (11, .iload_n 1, (0, 0, 0, 0), 0, 0), (12, .invokestatic 495, (0, 3, 0, 0), 0, 0), (15, .ireturn, (0, 0, 0, 0), 0, 0), (16, .aload_n 0, (0, 0, 0, 0), 0, 0), (20, .iload_n 1, (0, 0, 0, 0), 0, 0), (21, .invokestatic 498, (0, 3, 0, 0), 0, 0), (24, .ireturn, (0, 0, 0, 0), 0, 0)]
theorem okJ0_charAt_5068e : kJ0_charAt_5068e.all (xOk RJ0 cJ0_charAt_5068e) = true := by decide +kernel
set_option maxHeartbeats 4000000 in
set_option maxRecDepth 20000 in
theorem t_J0_charAt_5068e (l : Launch) (d : Nat) (i j : Nat) (hi : i < 12) (hj : j < xStrL.getD i 0) (z : xMem) : XMi l (d + 3) yJ0_charAt_5068e cJ0_charAt_5068e 2 (some .char) [] [.ref (2000 + i), .int (nI j)] z (fun v _ => v = nI ((pWl i).getD j 0)) := by
  refine XM.of (by decide) (Nat.le_of_ble_eq_true rfl) (fun xp xe xs xm xar xbl xme xc xD xcs xad xAA xCC xhr => ?_)
  generalize xhQ : MQ xbl _ xar xs 0 0 xAA = xQ
  show ww xp l xe (xRm (d + 3)) xs xm xar xbl xme xc 2 xD xcs xad [] xAA xQ 0 [(0, .ref (2000 + i)), (1, .int (nI j))] [] z
  have hb := sS_byt i hi j hj
  refine ww_blk xCC okJ0_charAt_5068e 0 1 (ps := []) (pc' := 1) (lv' := [(0, .ref (2000 + i)), (1, .int (nI j))]) (st' := [.ref (2000 + i)]) (z' := z) rfl trivial ?_
  refine ww_callVSz xCC okJ0_charAt_5068e 1 (ix := 492) (t_J0_isLatin1_aae02 l d i hi _) (by omega) (by decide) xyJ0_isLatin1_aae02 xiJ0_isLatin1_aae02 (Or.inl (lw_gt_of (List.mem_of_getElem? (i := 479) (by decide +kernel)) rfl)) hi rfl rfl (rest := []) rfl (Nat.le_of_ble_eq_true rfl) rfl (fun z9 h9 => ?_) (fun z9 h9 => absurd h9 id)
  refine ww_br xCC okJ0_charAt_5068e 2 (P := (1 : Int32) = 0) (t1 := 16) (t2 := 7) (r := []) rfl (fun q => absurd q (by decide)) (fun _ => ?_)
  refine ww_blk xCC okJ0_charAt_5068e 3 1 (ps := []) (pc' := 8) (lv' := [(0, .ref (2000 + i)), (1, .int (nI j))]) (st' := [.ref (2000 + i)]) (z' := z) rfl trivial ?_
  refine ww_sval xCC hi (by decide +kernel) (ix := 9) (lw_gt_of (List.mem_of_getElem? (i := 1280) (by decide +kernel)) rfl) ?_
  refine ww_blk xCC okJ0_charAt_5068e 4 1 (ps := []) (pc' := 12) (lv' := [(0, .ref (2000 + i)), (1, .int (nI j))]) (st' := [.int (nI j), .ref (3000 + i)]) (z' := z) rfl trivial ?_
  refine ww_callSNi xCC okJ0_charAt_5068e 5 (ix := 495) (t_J1_charAt_3b067 l d i j hi hj _) (by omega) (by decide) xyJ1_charAt_3b067 xiJ1_charAt_3b067 (Or.inl (lw_gt_of (List.mem_of_getElem? (i := 483) (by decide +kernel)) rfl)) rfl (rest := []) rfl (Nat.le_of_ble_eq_true rfl) rfl (fun v9 z9 h8 => ?_)
  rw [h8]
  subst xhQ
  exact ww_iret xCC okJ0_charAt_5068e 6 xhr rfl (sS_nar _ hb.2.2) ⟨_, rfl, rfl⟩
