section XCB
variable {p : Program} {l : Launch} {e : Env} {R : Room} {s : State} {m : MethodId} {args : Array Value} {below : List Frame} {meth : Method} {c : Code} {own : String} {cc : ByteArray} {nL : Nat} {D : va_G} {cs : Nat → ClassId} {ad : Nat → Nat} {sh : xSh} {A : Nat → Prop} {Q : State → Prop}
def mPut (z : xMem) (q j : Nat) (x : Int32) : xMem := (xUp z.1 q (upd (z.1 q) j x), z.2)
def mPutL (z : xMem) (q j : Nat) (x : Int64) : xMem := (z.1, xUp z.2.1 q (vp_updL (z.2.1 q) j x), z.2.2)
def mCpy (z : xMem) (q0 q1 : Nat) (sp dp n : Int32) : xMem := (xUp z.1 q1 (va_cpy (z.1 q0) (z.1 q1) sp.toNatClampNeg dp.toNatClampNeg n.toNatClampNeg), z.2)
abbrev XMi (l : Launch) (d : Nat) (y : MethodName) (cc : ByteArray) (maxL : Nat) (ret : Option FieldType) (sh : xSh) (as : List Value) (z : xMem) (P : Int32 → xMem → Prop) : Prop := XM l d y cc maxL ret sh as z (fun r z' => ∃ v : Int32, r = some (.int v) ∧ P v z')
abbrev XMl (l : Launch) (d : Nat) (y : MethodName) (cc : ByteArray) (maxL : Nat) (ret : Option FieldType) (sh : xSh) (as : List Value) (z : xMem) (P : Int64 → xMem → Prop) : Prop := XM l d y cc maxL ret sh as z (fun r z' => ∃ v : Int64, r = some (.long v) ∧ P v z')
abbrev XMv (l : Launch) (d : Nat) (y : MethodName) (cc : ByteArray) (maxL : Nat) (ret : Option FieldType) (sh : xSh) (as : List Value) (z : xMem) (P : xMem → Prop) : Prop := XM l d y cc maxL ret sh as z (fun r z' => r = none ∧ P z')
abbrev XMz (l : Launch) (d : Nat) (y : MethodName) (cc : ByteArray) (maxL : Nat) (ret : Option FieldType) (sh : xSh) (as : List Value) (z : xMem) (P N : xMem → Prop) : Prop := XM l d y cc maxL ret sh as z (fun r z' => (r = some (.int 1) ∧ P z') ∨ (r = some (.int 0) ∧ N z'))
theorem xCallI_pre (C : xC p R s m args meth c own cc nL D cs ad sh A) {as : List Value} {z : xMem} {H : Heap} {locs : List Loc} (hP : va_P D classes (xW ad cs z 0 sh) H) (hS : va_S A s.heap H locs) : ∀ U : State, U.heap = H → s.WarmedH U.vm → xPc D cs ad sh H.size as z (as.map (xR ad)).toArray U := by
  obtain ⟨hx, hb, hml, hown, hts, hlk, hK, hi1, hi2, hA, hE, hR⟩ := C
  intro U hU hW
  refine ⟨rfl, by rw [hU], by rw [hU]; exact hP, va_K.moved hW.alike hK, hi1, ?_⟩
  rw [hU]
  refine ((hE.kept (H1 := H) (fun a h1 h2 => hS.2.1 a h1 h2)).warm hW).narrow ?_
  intro q hq
  rcases hq with ⟨i, hi, rfl⟩ | hq
  · exact hi2 i hi
  · exact hA q (Nat.le_trans hS.1 hq)
theorem xCallI_go (C : xC p R s m args meth c own cc nL D cs ad sh A) {z : xMem} {post : Option Value → xMem → Prop} {H : Heap} {locs : List Loc} {ls : Array Slot} (hS : va_S A s.heap H locs) {pc : Nat} {st0 rest : List Value} {a : Array Value}
    (hr : va_Run p l e R s m args below meth c H locs 0 0 0 0 (F0 m pc ls st0) (rest.map (xR ad)) (xQc D cs ad sh (xA ad sh.length H.size) post a) (xA ad sh.length H.size))
    (kk : ∀ (r : Option Value) (z' : xMem), post r z' → ∀ (H1 : Heap) (locs1 : List Loc), va_P D classes (xW ad cs z' 0 sh) H1 → va_S A s.heap H1 locs1 → W p l e R s m args below meth c H1 locs1 0 0 Q (F0 m (pc + 3) ls ((r.toList ++ rest).map (xR ad)))) : W p l e R s m args below meth c H locs 0 0 Q (F0 m pc ls st0) := by
  have hAi : ∀ q, xA ad sh.length H.size q → A q := by
    intro q hq
    rcases hq with ⟨i, hi, rfl⟩ | hq
    · exact C.2.2.2.2.2.2.2.2.1 i hi
    · exact C.2.2.2.2.2.2.2.2.2.1 q (Nat.le_trans hS.1 hq)
  intro T hT X
  obtain ⟨v, st₀, t, T', L, h0, X', hL, e1, e2, ⟨⟨r, z', hv, hp, hP1⟩, hz, hk⟩, st⟩ := hr T hT X
  rw [h0] at hz hk
  have hSn : va_S A s.heap T'.heap (locs ++ L) := ⟨Nat.le_trans hS.1 (by rw [e1]; exact hz), fun q h1 h2 => by rw [e1, hk q (Nat.lt_of_lt_of_le h1 hS.1) (fun zz => h2 (hAi q zz))]; exact hS.2.1 q h1 h2, fun q hq => by
      rcases List.mem_append.mp hq with h | h
      · exact hS.2.2 q h
      · exact hAi _ (hL q h)⟩
  obtain ⟨t2, a1, b1⟩ := kk r z' hp T'.heap (locs ++ L) (by rw [e1]; exact hP1) hSn T' rfl X'
  refine ⟨t2, st t2 ?_, b1⟩
  have hv2 : v = r.map (xR ad) := by
    cases hv
    rfl
  rw [hv2]
  cases r with
  | none => exact a1
  | some w => exact a1
theorem ww_callVI {d dc : Nat} (C : xC p (xRm d) s m args meth c own cc nL D cs ad sh A) {K : List xI} (hK : K.all (xOk own cc) = true) (a : Nat) {ix : Nat} {y : MethodName} {cy : ByteArray} {maxLy : Nat} {rety : Option FieldType} {n : Nat} {as rest : List Value} {b0 : Nat} {z : xMem} {post : Option Value → xMem → Prop} {pc : Nat} {lv : xLv} {ci : Nat} {T : u_T} {N : Nat} {fs : List Nat}
    (hM : XM l dc y cy maxLy rety sh (.ref b0 :: as) z post) (hd : dc < d) (hm : maxLy ≤ 20) (hy : xY y cy maxLy rety n) (hyi : Cond.instanceMethod y ∈ lw_gt ∧ Cond.selects y.cls y y ∈ lw_gt) (hlk : xLk own ix y)
    (hcell : sh[b0]? = some (0, ci, fs)) (hcls : classes[ci]? = some (y.cls, T, N)) (hn : as.length = n) {st : List Value} (hst : st = as.reverse ++ .ref b0 :: rest) (hrest : (rest.map Value.category).sum ≤ 8) (h : (K[a]?).map (fun q => (q.1, q.2.1)) = some (pc, .invokevirtual ix))
    (kk : ∀ (r : Option Value) (z' : xMem), post r z' → ww p l e (xRm d) s m args below meth c nL D cs ad sh A Q (pc + 3) lv (r.toList ++ rest) z') : ww p l e (xRm d) s m args below meth c nL D cs ad sh A Q pc lv st z := by
  have C0 := C
  obtain ⟨hx, hb, hml, hown, hts, hlocks, hCK, hi1, hi2, hA, hE, hR⟩ := C0
  cases hx0 : K[a]? with
  | none => rw [hx0] at h; cases h
  | some x =>
    rw [hx0] at h
    obtain ⟨pc0, i, y9⟩ := x
    simp only [Option.map_some, Option.some.injEq, Prod.mk.injEq] at h
    obtain ⟨h1, h2⟩ := h
    have hdg := xK_d hK hx0
    dsimp only at hdg
    rw [h1, h2] at hdg
    intro H locs ls hP hS hl
    have hpre := xCallI_pre C (as := .ref b0 :: as) hP hS
    have hMe := hM D cs ad H.size
    have hrec := va_recv hCK hP (ci := ci) (q0 := b0) hcls (xW_at hcell)
    have hpv : PreV s H y.cls (ad b0) (xPc D cs ad sh H.size (.ref b0 :: as) z) (as.map (xR ad)) := ⟨xPc_blind, hrec, fun U hU hW => hpre U hU hW⟩
    have hfull : (st.map (xR ad)) = (as.map (xR ad)).reverse ++ .ref (ad b0) :: rest.map (xR ad) := by
      rw [hst]
      simp only [List.map_append, List.map_reverse, List.map_cons]
      rfl
    have hrun : va_Run p l e (xRm d) s m args below meth c H locs 0 0 0 0 (F0 m pc ls (st.map (xR ad))) (rest.map (xR ad)) (xQc D cs ad sh (xA ad sh.length H.size) post (Value.ref (ad b0) :: as.map (xR ad)).toArray) (xA ad sh.length H.size) := by
      rcases hlk with hlk | hlk
      · exact va_runV (C := y.cls) (n := n) ⟨hx, hb, hml, hown, hts⟩ hMe ⟨callB_of n hts (lw_in hy.1) rfl rfl rfl (hts _ hy.2.1) (hts _ hlk) hy.2.2 (xFit hd hm), hts _ hyi.1, hts _ hyi.2⟩ hpv rfl (by rw [List.length_map]; exact hn) hl.1 hfull (lv_room (by rw [xR_sum]; exact hrest)) hdg ⟨Nat.zero_le _, Nat.zero_le _⟩
      · exact va_runVN (C := y.cls) (n := n) ⟨hx, hb, hml, hown, hts⟩ hMe ⟨va_cnB n hts (lw_in hy.1) rfl rfl rfl (hE.2.2.2.2.1 _ hlk rfl) (hts _ hy.2.1) hy.2.2 (xFit hd hm), hts _ hyi.1, hts _ hyi.2⟩ hpv rfl (by rw [List.length_map]; exact hn) hl.1 hfull (lv_room (by rw [xR_sum]; exact hrest)) hdg ⟨Nat.zero_le _, Nat.zero_le _⟩
    exact xCallI_go C (z := z) hS hrun (fun r z' hp H1 locs1 hP1 hS1 => kk r z' hp H1 locs1 ls hP1 hS1 hl)
theorem ww_callSI {d dc : Nat} (C : xC p (xRm d) s m args meth c own cc nL D cs ad sh A) {K : List xI} (hK : K.all (xOk own cc) = true) (a : Nat) {ix : Nat} {y : MethodName} {cy : ByteArray} {maxLy : Nat} {rety : Option FieldType} {n : Nat} {as rest : List Value} {z : xMem} {post : Option Value → xMem → Prop} {pc : Nat} {lv : xLv}
    (hM : XM l dc y cy maxLy rety sh as z post) (hd : dc < d) (hm : maxLy ≤ 20) (hy : xY y cy maxLy rety n) (hyi : Cond.static y ∈ lw_gt) (hlk : xLk own ix y)
    (hn : as.length = n) {st : List Value} (hst : st = as.reverse ++ rest) (hrest : (rest.map Value.category).sum ≤ 8) (h : (K[a]?).map (fun q => (q.1, q.2.1)) = some (pc, .invokestatic ix))
    (kk : ∀ (r : Option Value) (z' : xMem), post r z' → ww p l e (xRm d) s m args below meth c nL D cs ad sh A Q (pc + 3) lv (r.toList ++ rest) z') : ww p l e (xRm d) s m args below meth c nL D cs ad sh A Q pc lv st z := by
  have C0 := C
  obtain ⟨hx, hb, hml, hown, hts, hlocks, hCK, hi1, hi2, hA, hE, hR⟩ := C0
  cases hx0 : K[a]? with
  | none => rw [hx0] at h; cases h
  | some x =>
    rw [hx0] at h
    obtain ⟨pc0, i, y9⟩ := x
    simp only [Option.map_some, Option.some.injEq, Prod.mk.injEq] at h
    obtain ⟨h1, h2⟩ := h
    have hdg := xK_d hK hx0
    dsimp only at hdg
    rw [h1, h2] at hdg
    intro H locs ls hP hS hl
    have hpre := xCallI_pre C (as := as) hP hS
    have hMe := hM D cs ad H.size
    have hps : PreS s H (xPc D cs ad sh H.size as z) (as.map (xR ad)) := ⟨xPc_blind, fun U hU hW => hpre U hU hW⟩
    have hfull : (st.map (xR ad)) = (as.map (xR ad)).reverse ++ rest.map (xR ad) := by
      rw [hst]
      simp only [List.map_append, List.map_reverse]
    have hrun : va_Run p l e (xRm d) s m args below meth c H locs 0 0 0 0 (F0 m pc ls (st.map (xR ad))) (rest.map (xR ad)) (xQc D cs ad sh (xA ad sh.length H.size) post (as.map (xR ad)).toArray) (xA ad sh.length H.size) := by
      rcases hlk with hlk | hlk
      · exact va_runS (n := n) ⟨hx, hb, hml, hown, hts⟩ hMe ⟨callB_of n hts (lw_in hy.1) rfl rfl rfl (hts _ hy.2.1) (hts _ hlk) hy.2.2 (xFit hd hm), hts _ hyi⟩ hps rfl (by rw [List.length_map]; exact hn) hl.1 hfull (lv_room (by rw [xR_sum]; exact hrest)) hdg ⟨Nat.zero_le _, Nat.zero_le _⟩
      · exact va_runSN (n := n) ⟨hx, hb, hml, hown, hts⟩ hMe ⟨va_cnB n hts (lw_in hy.1) rfl rfl rfl (hE.2.2.2.2.1 _ hlk rfl) (hts _ hy.2.1) hy.2.2 (xFit hd hm), hts _ hyi, trivial⟩ hps rfl (by rw [List.length_map]; exact hn) hl.1 hfull (lv_room (by rw [xR_sum]; exact hrest)) hdg ⟨Nat.zero_le _, Nat.zero_le _⟩
    exact xCallI_go C (z := z) hS hrun (fun r z' hp H1 locs1 hP1 hS1 => kk r z' hp H1 locs1 ls hP1 hS1 hl)

theorem ww_callVIi {d dc : Nat} (C : xC p (xRm d) s m args meth c own cc nL D cs ad sh A) {K : List xI} (hK : K.all (xOk own cc) = true) (a : Nat) {ix : Nat} {y : MethodName} {cy : ByteArray} {maxLy : Nat} {rety : Option FieldType} {n : Nat} {as rest : List Value} {z : xMem} {pc : Nat} {lv : xLv} {b0 : Nat} {ci : Nat} {T : u_T} {N : Nat} {fs : List Nat} {P : Int32 → xMem → Prop}
    (hM : XMi l dc y cy maxLy rety sh (.ref b0 :: as) z P) (hd : dc < d) (hm : maxLy ≤ 20) (hy : xY y cy maxLy rety n) (hyi : Cond.instanceMethod y ∈ lw_gt ∧ Cond.selects y.cls y y ∈ lw_gt) (hlk : xLk own ix y) (hcell : sh[b0]? = some (0, ci, fs)) (hcls : classes[ci]? = some (y.cls, T, N)) (hn : as.length = n) {st : List Value} (hst : st = as.reverse ++ .ref b0 :: rest) (hrest : (rest.map Value.category).sum ≤ 8) (h : (K[a]?).map (fun q => (q.1, q.2.1)) = some (pc, .invokevirtual ix))
    (kk : ∀ (v : Int32) (z' : xMem), P v z' → ww p l e (xRm d) s m args below meth c nL D cs ad sh A Q (pc + 3) lv (.int v :: rest) z') : ww p l e (xRm d) s m args below meth c nL D cs ad sh A Q pc lv st z :=
  ww_callVI C hK a hM hd hm hy hyi hlk hcell hcls hn hst hrest h (fun r z' hp => by
    obtain ⟨v, rfl, h9⟩ := hp
    exact kk v z' h9)
theorem ww_callVIl {d dc : Nat} (C : xC p (xRm d) s m args meth c own cc nL D cs ad sh A) {K : List xI} (hK : K.all (xOk own cc) = true) (a : Nat) {ix : Nat} {y : MethodName} {cy : ByteArray} {maxLy : Nat} {rety : Option FieldType} {n : Nat} {as rest : List Value} {z : xMem} {pc : Nat} {lv : xLv} {b0 : Nat} {ci : Nat} {T : u_T} {N : Nat} {fs : List Nat} {P : Int64 → xMem → Prop}
    (hM : XMl l dc y cy maxLy rety sh (.ref b0 :: as) z P) (hd : dc < d) (hm : maxLy ≤ 20) (hy : xY y cy maxLy rety n) (hyi : Cond.instanceMethod y ∈ lw_gt ∧ Cond.selects y.cls y y ∈ lw_gt) (hlk : xLk own ix y) (hcell : sh[b0]? = some (0, ci, fs)) (hcls : classes[ci]? = some (y.cls, T, N)) (hn : as.length = n) {st : List Value} (hst : st = as.reverse ++ .ref b0 :: rest) (hrest : (rest.map Value.category).sum ≤ 8) (h : (K[a]?).map (fun q => (q.1, q.2.1)) = some (pc, .invokevirtual ix))
    (kk : ∀ (v : Int64) (z' : xMem), P v z' → ww p l e (xRm d) s m args below meth c nL D cs ad sh A Q (pc + 3) lv (.long v :: rest) z') : ww p l e (xRm d) s m args below meth c nL D cs ad sh A Q pc lv st z :=
  ww_callVI C hK a hM hd hm hy hyi hlk hcell hcls hn hst hrest h (fun r z' hp => by
    obtain ⟨v, rfl, h9⟩ := hp
    exact kk v z' h9)
theorem ww_callVIv {d dc : Nat} (C : xC p (xRm d) s m args meth c own cc nL D cs ad sh A) {K : List xI} (hK : K.all (xOk own cc) = true) (a : Nat) {ix : Nat} {y : MethodName} {cy : ByteArray} {maxLy : Nat} {rety : Option FieldType} {n : Nat} {as rest : List Value} {z : xMem} {pc : Nat} {lv : xLv} {b0 : Nat} {ci : Nat} {T : u_T} {N : Nat} {fs : List Nat} {P : xMem → Prop}
    (hM : XMv l dc y cy maxLy rety sh (.ref b0 :: as) z P) (hd : dc < d) (hm : maxLy ≤ 20) (hy : xY y cy maxLy rety n) (hyi : Cond.instanceMethod y ∈ lw_gt ∧ Cond.selects y.cls y y ∈ lw_gt) (hlk : xLk own ix y) (hcell : sh[b0]? = some (0, ci, fs)) (hcls : classes[ci]? = some (y.cls, T, N)) (hn : as.length = n) {st : List Value} (hst : st = as.reverse ++ .ref b0 :: rest) (hrest : (rest.map Value.category).sum ≤ 8) (h : (K[a]?).map (fun q => (q.1, q.2.1)) = some (pc, .invokevirtual ix))
    (kk : ∀ (z' : xMem), P z' → ww p l e (xRm d) s m args below meth c nL D cs ad sh A Q (pc + 3) lv (rest) z') : ww p l e (xRm d) s m args below meth c nL D cs ad sh A Q pc lv st z :=
  ww_callVI C hK a hM hd hm hy hyi hlk hcell hcls hn hst hrest h (fun r z' hp => by
    obtain ⟨rfl, h9⟩ := hp
    exact kk z' h9)
theorem ww_callVIz {d dc : Nat} (C : xC p (xRm d) s m args meth c own cc nL D cs ad sh A) {K : List xI} (hK : K.all (xOk own cc) = true) (a : Nat) {ix : Nat} {y : MethodName} {cy : ByteArray} {maxLy : Nat} {rety : Option FieldType} {n : Nat} {as rest : List Value} {z : xMem} {pc : Nat} {lv : xLv} {b0 : Nat} {ci : Nat} {T : u_T} {N : Nat} {fs : List Nat} {P N0 : xMem → Prop}
    (hM : XMz l dc y cy maxLy rety sh (.ref b0 :: as) z P N0) (hd : dc < d) (hm : maxLy ≤ 20) (hy : xY y cy maxLy rety n) (hyi : Cond.instanceMethod y ∈ lw_gt ∧ Cond.selects y.cls y y ∈ lw_gt) (hlk : xLk own ix y) (hcell : sh[b0]? = some (0, ci, fs)) (hcls : classes[ci]? = some (y.cls, T, N)) (hn : as.length = n) {st : List Value} (hst : st = as.reverse ++ .ref b0 :: rest) (hrest : (rest.map Value.category).sum ≤ 8) (h : (K[a]?).map (fun q => (q.1, q.2.1)) = some (pc, .invokevirtual ix))
    (k1 : ∀ z' : xMem, P z' → ww p l e (xRm d) s m args below meth c nL D cs ad sh A Q (pc + 3) lv (.int 1 :: rest) z') (k0 : ∀ z' : xMem, N0 z' → ww p l e (xRm d) s m args below meth c nL D cs ad sh A Q (pc + 3) lv (.int 0 :: rest) z') : ww p l e (xRm d) s m args below meth c nL D cs ad sh A Q pc lv st z :=
  ww_callVI C hK a hM hd hm hy hyi hlk hcell hcls hn hst hrest h (fun r z' hp => by
    rcases hp with ⟨rfl, h9⟩ | ⟨rfl, h9⟩
    · exact k1 z' h9
    · exact k0 z' h9)
theorem ww_callVEi {d dc : Nat} (C : xC p (xRm d) s m args meth c own cc nL D cs ad sh A) {K : List xI} (hK : K.all (xOk own cc) = true) (a : Nat) {ix : Nat} {y : MethodName} {cy : ByteArray} {maxLy : Nat} {rety : Option FieldType} {n : Nat} {as rest : List Value} {z : xMem} {pc : Nat} {lv : xLv} {shc : xSh} {es : List Nat} {b0 : Nat} {ci : Nat} {T : u_T} {N : Nat} {fs : List Nat} {q0 : Nat} {P : Int32 → xMem → Prop}
    (hM : XMi l dc y cy maxLy rety shc (.ref b0 :: as) (xPull es z) P) (hd : dc < d) (hm : maxLy ≤ 20) (hy : xY y cy maxLy rety n) (hyi : Cond.instanceMethod y ∈ lw_gt ∧ Cond.selects y.cls y y ∈ lw_gt) (hlk : xLk own ix y) (hs : xSub sh es shc = true) (hlen : shc.length ≤ 1000) (hraw : xHasRaw shc = true → ∀ (k n : Nat) (l : List Nat), sh[k]? = some (0, n, l) → 2 ∈ l → xIx es k 0 ≠ none) (hq0 : xEs es b0 = q0) (hcell : sh[q0]? = some (0, ci, fs)) (hcls : classes[ci]? = some (y.cls, T, N)) (hn : as.length = n) {st : List Value} (hst : st = (as.map (xR (xEs es))).reverse ++ .ref q0 :: rest) (hrest : (rest.map Value.category).sum ≤ 8) (h : (K[a]?).map (fun q => (q.1, q.2.1)) = some (pc, .invokevirtual ix))
    (kk : ∀ (v : Int32) (z' : xMem), P v z' → ww p l e (xRm d) s m args below meth c nL D cs ad sh A Q (pc + 3) lv (.int v :: rest) (xBack es (xHasRaw shc) z z')) : ww p l e (xRm d) s m args below meth c nL D cs ad sh A Q pc lv st z :=
  ww_callV C hK a hM hd hm hy hyi hlk hs hlen hraw hq0 hcell hcls hn hst hrest h (fun r z' hp => by
    obtain ⟨v, rfl, h9⟩ := hp
    exact kk v z' h9)
theorem ww_callVEl {d dc : Nat} (C : xC p (xRm d) s m args meth c own cc nL D cs ad sh A) {K : List xI} (hK : K.all (xOk own cc) = true) (a : Nat) {ix : Nat} {y : MethodName} {cy : ByteArray} {maxLy : Nat} {rety : Option FieldType} {n : Nat} {as rest : List Value} {z : xMem} {pc : Nat} {lv : xLv} {shc : xSh} {es : List Nat} {b0 : Nat} {ci : Nat} {T : u_T} {N : Nat} {fs : List Nat} {q0 : Nat} {P : Int64 → xMem → Prop}
    (hM : XMl l dc y cy maxLy rety shc (.ref b0 :: as) (xPull es z) P) (hd : dc < d) (hm : maxLy ≤ 20) (hy : xY y cy maxLy rety n) (hyi : Cond.instanceMethod y ∈ lw_gt ∧ Cond.selects y.cls y y ∈ lw_gt) (hlk : xLk own ix y) (hs : xSub sh es shc = true) (hlen : shc.length ≤ 1000) (hraw : xHasRaw shc = true → ∀ (k n : Nat) (l : List Nat), sh[k]? = some (0, n, l) → 2 ∈ l → xIx es k 0 ≠ none) (hq0 : xEs es b0 = q0) (hcell : sh[q0]? = some (0, ci, fs)) (hcls : classes[ci]? = some (y.cls, T, N)) (hn : as.length = n) {st : List Value} (hst : st = (as.map (xR (xEs es))).reverse ++ .ref q0 :: rest) (hrest : (rest.map Value.category).sum ≤ 8) (h : (K[a]?).map (fun q => (q.1, q.2.1)) = some (pc, .invokevirtual ix))
    (kk : ∀ (v : Int64) (z' : xMem), P v z' → ww p l e (xRm d) s m args below meth c nL D cs ad sh A Q (pc + 3) lv (.long v :: rest) (xBack es (xHasRaw shc) z z')) : ww p l e (xRm d) s m args below meth c nL D cs ad sh A Q pc lv st z :=
  ww_callV C hK a hM hd hm hy hyi hlk hs hlen hraw hq0 hcell hcls hn hst hrest h (fun r z' hp => by
    obtain ⟨v, rfl, h9⟩ := hp
    exact kk v z' h9)
theorem ww_callVEv {d dc : Nat} (C : xC p (xRm d) s m args meth c own cc nL D cs ad sh A) {K : List xI} (hK : K.all (xOk own cc) = true) (a : Nat) {ix : Nat} {y : MethodName} {cy : ByteArray} {maxLy : Nat} {rety : Option FieldType} {n : Nat} {as rest : List Value} {z : xMem} {pc : Nat} {lv : xLv} {shc : xSh} {es : List Nat} {b0 : Nat} {ci : Nat} {T : u_T} {N : Nat} {fs : List Nat} {q0 : Nat} {P : xMem → Prop}
    (hM : XMv l dc y cy maxLy rety shc (.ref b0 :: as) (xPull es z) P) (hd : dc < d) (hm : maxLy ≤ 20) (hy : xY y cy maxLy rety n) (hyi : Cond.instanceMethod y ∈ lw_gt ∧ Cond.selects y.cls y y ∈ lw_gt) (hlk : xLk own ix y) (hs : xSub sh es shc = true) (hlen : shc.length ≤ 1000) (hraw : xHasRaw shc = true → ∀ (k n : Nat) (l : List Nat), sh[k]? = some (0, n, l) → 2 ∈ l → xIx es k 0 ≠ none) (hq0 : xEs es b0 = q0) (hcell : sh[q0]? = some (0, ci, fs)) (hcls : classes[ci]? = some (y.cls, T, N)) (hn : as.length = n) {st : List Value} (hst : st = (as.map (xR (xEs es))).reverse ++ .ref q0 :: rest) (hrest : (rest.map Value.category).sum ≤ 8) (h : (K[a]?).map (fun q => (q.1, q.2.1)) = some (pc, .invokevirtual ix))
    (kk : ∀ (z' : xMem), P z' → ww p l e (xRm d) s m args below meth c nL D cs ad sh A Q (pc + 3) lv (rest) (xBack es (xHasRaw shc) z z')) : ww p l e (xRm d) s m args below meth c nL D cs ad sh A Q pc lv st z :=
  ww_callV C hK a hM hd hm hy hyi hlk hs hlen hraw hq0 hcell hcls hn hst hrest h (fun r z' hp => by
    obtain ⟨rfl, h9⟩ := hp
    exact kk z' h9)
theorem ww_callVEz {d dc : Nat} (C : xC p (xRm d) s m args meth c own cc nL D cs ad sh A) {K : List xI} (hK : K.all (xOk own cc) = true) (a : Nat) {ix : Nat} {y : MethodName} {cy : ByteArray} {maxLy : Nat} {rety : Option FieldType} {n : Nat} {as rest : List Value} {z : xMem} {pc : Nat} {lv : xLv} {shc : xSh} {es : List Nat} {b0 : Nat} {ci : Nat} {T : u_T} {N : Nat} {fs : List Nat} {q0 : Nat} {P N0 : xMem → Prop}
    (hM : XMz l dc y cy maxLy rety shc (.ref b0 :: as) (xPull es z) P N0) (hd : dc < d) (hm : maxLy ≤ 20) (hy : xY y cy maxLy rety n) (hyi : Cond.instanceMethod y ∈ lw_gt ∧ Cond.selects y.cls y y ∈ lw_gt) (hlk : xLk own ix y) (hs : xSub sh es shc = true) (hlen : shc.length ≤ 1000) (hraw : xHasRaw shc = true → ∀ (k n : Nat) (l : List Nat), sh[k]? = some (0, n, l) → 2 ∈ l → xIx es k 0 ≠ none) (hq0 : xEs es b0 = q0) (hcell : sh[q0]? = some (0, ci, fs)) (hcls : classes[ci]? = some (y.cls, T, N)) (hn : as.length = n) {st : List Value} (hst : st = (as.map (xR (xEs es))).reverse ++ .ref q0 :: rest) (hrest : (rest.map Value.category).sum ≤ 8) (h : (K[a]?).map (fun q => (q.1, q.2.1)) = some (pc, .invokevirtual ix))
    (k1 : ∀ z' : xMem, P z' → ww p l e (xRm d) s m args below meth c nL D cs ad sh A Q (pc + 3) lv (.int 1 :: rest) (xBack es (xHasRaw shc) z z')) (k0 : ∀ z' : xMem, N0 z' → ww p l e (xRm d) s m args below meth c nL D cs ad sh A Q (pc + 3) lv (.int 0 :: rest) (xBack es (xHasRaw shc) z z')) : ww p l e (xRm d) s m args below meth c nL D cs ad sh A Q pc lv st z :=
  ww_callV C hK a hM hd hm hy hyi hlk hs hlen hraw hq0 hcell hcls hn hst hrest h (fun r z' hp => by
    rcases hp with ⟨rfl, h9⟩ | ⟨rfl, h9⟩
    · exact k1 z' h9
    · exact k0 z' h9)
theorem ww_callSIi {d dc : Nat} (C : xC p (xRm d) s m args meth c own cc nL D cs ad sh A) {K : List xI} (hK : K.all (xOk own cc) = true) (a : Nat) {ix : Nat} {y : MethodName} {cy : ByteArray} {maxLy : Nat} {rety : Option FieldType} {n : Nat} {as rest : List Value} {z : xMem} {pc : Nat} {lv : xLv} {P : Int32 → xMem → Prop}
    (hM : XMi l dc y cy maxLy rety sh as z P) (hd : dc < d) (hm : maxLy ≤ 20) (hy : xY y cy maxLy rety n) (hyi : Cond.static y ∈ lw_gt) (hlk : xLk own ix y) (hn : as.length = n) {st : List Value} (hst : st = as.reverse ++ rest) (hrest : (rest.map Value.category).sum ≤ 8) (h : (K[a]?).map (fun q => (q.1, q.2.1)) = some (pc, .invokestatic ix))
    (kk : ∀ (v : Int32) (z' : xMem), P v z' → ww p l e (xRm d) s m args below meth c nL D cs ad sh A Q (pc + 3) lv (.int v :: rest) z') : ww p l e (xRm d) s m args below meth c nL D cs ad sh A Q pc lv st z :=
  ww_callSI C hK a hM hd hm hy hyi hlk hn hst hrest h (fun r z' hp => by
    obtain ⟨v, rfl, h9⟩ := hp
    exact kk v z' h9)
theorem ww_callSIl {d dc : Nat} (C : xC p (xRm d) s m args meth c own cc nL D cs ad sh A) {K : List xI} (hK : K.all (xOk own cc) = true) (a : Nat) {ix : Nat} {y : MethodName} {cy : ByteArray} {maxLy : Nat} {rety : Option FieldType} {n : Nat} {as rest : List Value} {z : xMem} {pc : Nat} {lv : xLv} {P : Int64 → xMem → Prop}
    (hM : XMl l dc y cy maxLy rety sh as z P) (hd : dc < d) (hm : maxLy ≤ 20) (hy : xY y cy maxLy rety n) (hyi : Cond.static y ∈ lw_gt) (hlk : xLk own ix y) (hn : as.length = n) {st : List Value} (hst : st = as.reverse ++ rest) (hrest : (rest.map Value.category).sum ≤ 8) (h : (K[a]?).map (fun q => (q.1, q.2.1)) = some (pc, .invokestatic ix))
    (kk : ∀ (v : Int64) (z' : xMem), P v z' → ww p l e (xRm d) s m args below meth c nL D cs ad sh A Q (pc + 3) lv (.long v :: rest) z') : ww p l e (xRm d) s m args below meth c nL D cs ad sh A Q pc lv st z :=
  ww_callSI C hK a hM hd hm hy hyi hlk hn hst hrest h (fun r z' hp => by
    obtain ⟨v, rfl, h9⟩ := hp
    exact kk v z' h9)
theorem ww_callSIv {d dc : Nat} (C : xC p (xRm d) s m args meth c own cc nL D cs ad sh A) {K : List xI} (hK : K.all (xOk own cc) = true) (a : Nat) {ix : Nat} {y : MethodName} {cy : ByteArray} {maxLy : Nat} {rety : Option FieldType} {n : Nat} {as rest : List Value} {z : xMem} {pc : Nat} {lv : xLv} {P : xMem → Prop}
    (hM : XMv l dc y cy maxLy rety sh as z P) (hd : dc < d) (hm : maxLy ≤ 20) (hy : xY y cy maxLy rety n) (hyi : Cond.static y ∈ lw_gt) (hlk : xLk own ix y) (hn : as.length = n) {st : List Value} (hst : st = as.reverse ++ rest) (hrest : (rest.map Value.category).sum ≤ 8) (h : (K[a]?).map (fun q => (q.1, q.2.1)) = some (pc, .invokestatic ix))
    (kk : ∀ (z' : xMem), P z' → ww p l e (xRm d) s m args below meth c nL D cs ad sh A Q (pc + 3) lv (rest) z') : ww p l e (xRm d) s m args below meth c nL D cs ad sh A Q pc lv st z :=
  ww_callSI C hK a hM hd hm hy hyi hlk hn hst hrest h (fun r z' hp => by
    obtain ⟨rfl, h9⟩ := hp
    exact kk z' h9)
theorem ww_callSIz {d dc : Nat} (C : xC p (xRm d) s m args meth c own cc nL D cs ad sh A) {K : List xI} (hK : K.all (xOk own cc) = true) (a : Nat) {ix : Nat} {y : MethodName} {cy : ByteArray} {maxLy : Nat} {rety : Option FieldType} {n : Nat} {as rest : List Value} {z : xMem} {pc : Nat} {lv : xLv} {P N0 : xMem → Prop}
    (hM : XMz l dc y cy maxLy rety sh as z P N0) (hd : dc < d) (hm : maxLy ≤ 20) (hy : xY y cy maxLy rety n) (hyi : Cond.static y ∈ lw_gt) (hlk : xLk own ix y) (hn : as.length = n) {st : List Value} (hst : st = as.reverse ++ rest) (hrest : (rest.map Value.category).sum ≤ 8) (h : (K[a]?).map (fun q => (q.1, q.2.1)) = some (pc, .invokestatic ix))
    (k1 : ∀ z' : xMem, P z' → ww p l e (xRm d) s m args below meth c nL D cs ad sh A Q (pc + 3) lv (.int 1 :: rest) z') (k0 : ∀ z' : xMem, N0 z' → ww p l e (xRm d) s m args below meth c nL D cs ad sh A Q (pc + 3) lv (.int 0 :: rest) z') : ww p l e (xRm d) s m args below meth c nL D cs ad sh A Q pc lv st z :=
  ww_callSI C hK a hM hd hm hy hyi hlk hn hst hrest h (fun r z' hp => by
    rcases hp with ⟨rfl, h9⟩ | ⟨rfl, h9⟩
    · exact k1 z' h9
    · exact k0 z' h9)
theorem ww_callSEi {d dc : Nat} (C : xC p (xRm d) s m args meth c own cc nL D cs ad sh A) {K : List xI} (hK : K.all (xOk own cc) = true) (a : Nat) {ix : Nat} {y : MethodName} {cy : ByteArray} {maxLy : Nat} {rety : Option FieldType} {n : Nat} {as rest : List Value} {z : xMem} {pc : Nat} {lv : xLv} {shc : xSh} {es : List Nat} {P : Int32 → xMem → Prop}
    (hM : XMi l dc y cy maxLy rety shc as (xPull es z) P) (hd : dc < d) (hm : maxLy ≤ 20) (hy : xY y cy maxLy rety n) (hyi : Cond.static y ∈ lw_gt) (hlk : xLk own ix y) (hs : xSub sh es shc = true) (hlen : shc.length ≤ 1000) (hraw : xHasRaw shc = true → ∀ (k n : Nat) (l : List Nat), sh[k]? = some (0, n, l) → 2 ∈ l → xIx es k 0 ≠ none) (hn : as.length = n) {st : List Value} (hst : st = (as.map (xR (xEs es))).reverse ++ rest) (hrest : (rest.map Value.category).sum ≤ 8) (h : (K[a]?).map (fun q => (q.1, q.2.1)) = some (pc, .invokestatic ix))
    (kk : ∀ (v : Int32) (z' : xMem), P v z' → ww p l e (xRm d) s m args below meth c nL D cs ad sh A Q (pc + 3) lv (.int v :: rest) (xBack es (xHasRaw shc) z z')) : ww p l e (xRm d) s m args below meth c nL D cs ad sh A Q pc lv st z :=
  ww_callS C hK a hM hd hm hy hyi hlk hs hlen hraw hn hst hrest h (fun r z' hp => by
    obtain ⟨v, rfl, h9⟩ := hp
    exact kk v z' h9)
theorem ww_callSEl {d dc : Nat} (C : xC p (xRm d) s m args meth c own cc nL D cs ad sh A) {K : List xI} (hK : K.all (xOk own cc) = true) (a : Nat) {ix : Nat} {y : MethodName} {cy : ByteArray} {maxLy : Nat} {rety : Option FieldType} {n : Nat} {as rest : List Value} {z : xMem} {pc : Nat} {lv : xLv} {shc : xSh} {es : List Nat} {P : Int64 → xMem → Prop}
    (hM : XMl l dc y cy maxLy rety shc as (xPull es z) P) (hd : dc < d) (hm : maxLy ≤ 20) (hy : xY y cy maxLy rety n) (hyi : Cond.static y ∈ lw_gt) (hlk : xLk own ix y) (hs : xSub sh es shc = true) (hlen : shc.length ≤ 1000) (hraw : xHasRaw shc = true → ∀ (k n : Nat) (l : List Nat), sh[k]? = some (0, n, l) → 2 ∈ l → xIx es k 0 ≠ none) (hn : as.length = n) {st : List Value} (hst : st = (as.map (xR (xEs es))).reverse ++ rest) (hrest : (rest.map Value.category).sum ≤ 8) (h : (K[a]?).map (fun q => (q.1, q.2.1)) = some (pc, .invokestatic ix))
    (kk : ∀ (v : Int64) (z' : xMem), P v z' → ww p l e (xRm d) s m args below meth c nL D cs ad sh A Q (pc + 3) lv (.long v :: rest) (xBack es (xHasRaw shc) z z')) : ww p l e (xRm d) s m args below meth c nL D cs ad sh A Q pc lv st z :=
  ww_callS C hK a hM hd hm hy hyi hlk hs hlen hraw hn hst hrest h (fun r z' hp => by
    obtain ⟨v, rfl, h9⟩ := hp
    exact kk v z' h9)
theorem ww_callSEv {d dc : Nat} (C : xC p (xRm d) s m args meth c own cc nL D cs ad sh A) {K : List xI} (hK : K.all (xOk own cc) = true) (a : Nat) {ix : Nat} {y : MethodName} {cy : ByteArray} {maxLy : Nat} {rety : Option FieldType} {n : Nat} {as rest : List Value} {z : xMem} {pc : Nat} {lv : xLv} {shc : xSh} {es : List Nat} {P : xMem → Prop}
    (hM : XMv l dc y cy maxLy rety shc as (xPull es z) P) (hd : dc < d) (hm : maxLy ≤ 20) (hy : xY y cy maxLy rety n) (hyi : Cond.static y ∈ lw_gt) (hlk : xLk own ix y) (hs : xSub sh es shc = true) (hlen : shc.length ≤ 1000) (hraw : xHasRaw shc = true → ∀ (k n : Nat) (l : List Nat), sh[k]? = some (0, n, l) → 2 ∈ l → xIx es k 0 ≠ none) (hn : as.length = n) {st : List Value} (hst : st = (as.map (xR (xEs es))).reverse ++ rest) (hrest : (rest.map Value.category).sum ≤ 8) (h : (K[a]?).map (fun q => (q.1, q.2.1)) = some (pc, .invokestatic ix))
    (kk : ∀ (z' : xMem), P z' → ww p l e (xRm d) s m args below meth c nL D cs ad sh A Q (pc + 3) lv (rest) (xBack es (xHasRaw shc) z z')) : ww p l e (xRm d) s m args below meth c nL D cs ad sh A Q pc lv st z :=
  ww_callS C hK a hM hd hm hy hyi hlk hs hlen hraw hn hst hrest h (fun r z' hp => by
    obtain ⟨rfl, h9⟩ := hp
    exact kk z' h9)
theorem ww_callSEz {d dc : Nat} (C : xC p (xRm d) s m args meth c own cc nL D cs ad sh A) {K : List xI} (hK : K.all (xOk own cc) = true) (a : Nat) {ix : Nat} {y : MethodName} {cy : ByteArray} {maxLy : Nat} {rety : Option FieldType} {n : Nat} {as rest : List Value} {z : xMem} {pc : Nat} {lv : xLv} {shc : xSh} {es : List Nat} {P N0 : xMem → Prop}
    (hM : XMz l dc y cy maxLy rety shc as (xPull es z) P N0) (hd : dc < d) (hm : maxLy ≤ 20) (hy : xY y cy maxLy rety n) (hyi : Cond.static y ∈ lw_gt) (hlk : xLk own ix y) (hs : xSub sh es shc = true) (hlen : shc.length ≤ 1000) (hraw : xHasRaw shc = true → ∀ (k n : Nat) (l : List Nat), sh[k]? = some (0, n, l) → 2 ∈ l → xIx es k 0 ≠ none) (hn : as.length = n) {st : List Value} (hst : st = (as.map (xR (xEs es))).reverse ++ rest) (hrest : (rest.map Value.category).sum ≤ 8) (h : (K[a]?).map (fun q => (q.1, q.2.1)) = some (pc, .invokestatic ix))
    (k1 : ∀ z' : xMem, P z' → ww p l e (xRm d) s m args below meth c nL D cs ad sh A Q (pc + 3) lv (.int 1 :: rest) (xBack es (xHasRaw shc) z z')) (k0 : ∀ z' : xMem, N0 z' → ww p l e (xRm d) s m args below meth c nL D cs ad sh A Q (pc + 3) lv (.int 0 :: rest) (xBack es (xHasRaw shc) z z')) : ww p l e (xRm d) s m args below meth c nL D cs ad sh A Q pc lv st z :=
  ww_callS C hK a hM hd hm hy hyi hlk hs hlen hraw hn hst hrest h (fun r z' hp => by
    rcases hp with ⟨rfl, h9⟩ | ⟨rfl, h9⟩
    · exact k1 z' h9
    · exact k0 z' h9)
theorem ww_callSNi {d dc : Nat} (C : xC p (xRm d) s m args meth c own cc nL D cs ad sh A) {K : List xI} (hK : K.all (xOk own cc) = true) (a : Nat) {ix : Nat} {y : MethodName} {cy : ByteArray} {maxLy : Nat} {rety : Option FieldType} {n : Nat} {as rest : List Value} {z : xMem} {pc : Nat} {lv : xLv} {P : Int32 → xMem → Prop}
    (hM : XMi l dc y cy maxLy rety [] as (xPull [] z) P) (hd : dc < d) (hm : maxLy ≤ 20) (hy : xY y cy maxLy rety n) (hyi : Cond.static y ∈ lw_gt) (hlk : xLk own ix y) (hn : as.length = n) {st : List Value} (hst : st = (as.map (xR (xEs []))).reverse ++ rest) (hrest : (rest.map Value.category).sum ≤ 8) (h : (K[a]?).map (fun q => (q.1, q.2.1)) = some (pc, .invokestatic ix))
    (kk : ∀ (v : Int32) (z' : xMem), P v z' → ww p l e (xRm d) s m args below meth c nL D cs ad sh A Q (pc + 3) lv (.int v :: rest) z) : ww p l e (xRm d) s m args below meth c nL D cs ad sh A Q pc lv st z :=
  ww_callS C hK a hM hd hm hy hyi hlk (es := []) (by rfl) (Nat.zero_le _) (fun q => by cases q) hn hst hrest h (fun r z' hp => by
    obtain ⟨v, rfl, h9⟩ := hp
    exact kk v z' h9)
theorem ww_callSNl {d dc : Nat} (C : xC p (xRm d) s m args meth c own cc nL D cs ad sh A) {K : List xI} (hK : K.all (xOk own cc) = true) (a : Nat) {ix : Nat} {y : MethodName} {cy : ByteArray} {maxLy : Nat} {rety : Option FieldType} {n : Nat} {as rest : List Value} {z : xMem} {pc : Nat} {lv : xLv} {P : Int64 → xMem → Prop}
    (hM : XMl l dc y cy maxLy rety [] as (xPull [] z) P) (hd : dc < d) (hm : maxLy ≤ 20) (hy : xY y cy maxLy rety n) (hyi : Cond.static y ∈ lw_gt) (hlk : xLk own ix y) (hn : as.length = n) {st : List Value} (hst : st = (as.map (xR (xEs []))).reverse ++ rest) (hrest : (rest.map Value.category).sum ≤ 8) (h : (K[a]?).map (fun q => (q.1, q.2.1)) = some (pc, .invokestatic ix))
    (kk : ∀ (v : Int64) (z' : xMem), P v z' → ww p l e (xRm d) s m args below meth c nL D cs ad sh A Q (pc + 3) lv (.long v :: rest) z) : ww p l e (xRm d) s m args below meth c nL D cs ad sh A Q pc lv st z :=
  ww_callS C hK a hM hd hm hy hyi hlk (es := []) (by rfl) (Nat.zero_le _) (fun q => by cases q) hn hst hrest h (fun r z' hp => by
    obtain ⟨v, rfl, h9⟩ := hp
    exact kk v z' h9)
theorem ww_callSNv {d dc : Nat} (C : xC p (xRm d) s m args meth c own cc nL D cs ad sh A) {K : List xI} (hK : K.all (xOk own cc) = true) (a : Nat) {ix : Nat} {y : MethodName} {cy : ByteArray} {maxLy : Nat} {rety : Option FieldType} {n : Nat} {as rest : List Value} {z : xMem} {pc : Nat} {lv : xLv} {P : xMem → Prop}
    (hM : XMv l dc y cy maxLy rety [] as (xPull [] z) P) (hd : dc < d) (hm : maxLy ≤ 20) (hy : xY y cy maxLy rety n) (hyi : Cond.static y ∈ lw_gt) (hlk : xLk own ix y) (hn : as.length = n) {st : List Value} (hst : st = (as.map (xR (xEs []))).reverse ++ rest) (hrest : (rest.map Value.category).sum ≤ 8) (h : (K[a]?).map (fun q => (q.1, q.2.1)) = some (pc, .invokestatic ix))
    (kk : ∀ (z' : xMem), P z' → ww p l e (xRm d) s m args below meth c nL D cs ad sh A Q (pc + 3) lv (rest) z) : ww p l e (xRm d) s m args below meth c nL D cs ad sh A Q pc lv st z :=
  ww_callS C hK a hM hd hm hy hyi hlk (es := []) (by rfl) (Nat.zero_le _) (fun q => by cases q) hn hst hrest h (fun r z' hp => by
    obtain ⟨rfl, h9⟩ := hp
    exact kk z' h9)
theorem ww_callSNz {d dc : Nat} (C : xC p (xRm d) s m args meth c own cc nL D cs ad sh A) {K : List xI} (hK : K.all (xOk own cc) = true) (a : Nat) {ix : Nat} {y : MethodName} {cy : ByteArray} {maxLy : Nat} {rety : Option FieldType} {n : Nat} {as rest : List Value} {z : xMem} {pc : Nat} {lv : xLv} {P N0 : xMem → Prop}
    (hM : XMz l dc y cy maxLy rety [] as (xPull [] z) P N0) (hd : dc < d) (hm : maxLy ≤ 20) (hy : xY y cy maxLy rety n) (hyi : Cond.static y ∈ lw_gt) (hlk : xLk own ix y) (hn : as.length = n) {st : List Value} (hst : st = (as.map (xR (xEs []))).reverse ++ rest) (hrest : (rest.map Value.category).sum ≤ 8) (h : (K[a]?).map (fun q => (q.1, q.2.1)) = some (pc, .invokestatic ix))
    (k1 : ∀ z' : xMem, P z' → ww p l e (xRm d) s m args below meth c nL D cs ad sh A Q (pc + 3) lv (.int 1 :: rest) z) (k0 : ∀ z' : xMem, N0 z' → ww p l e (xRm d) s m args below meth c nL D cs ad sh A Q (pc + 3) lv (.int 0 :: rest) z) : ww p l e (xRm d) s m args below meth c nL D cs ad sh A Q pc lv st z :=
  ww_callS C hK a hM hd hm hy hyi hlk (es := []) (by rfl) (Nat.zero_le _) (fun q => by cases q) hn hst hrest h (fun r z' hp => by
    rcases hp with ⟨rfl, h9⟩ | ⟨rfl, h9⟩
    · exact k1 z' h9
    · exact k0 z' h9)
end XCB
