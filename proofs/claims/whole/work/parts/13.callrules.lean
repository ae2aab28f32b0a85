section XCA
variable {p : Program} {l : Launch} {e : Env} {R : Room} {s : State} {m : MethodId} {args : Array Value} {below : List Frame} {meth : Method} {c : Code} {own : String} {cc : ByteArray} {nL : Nat} {D : va_G} {cs : Nat → ClassId} {ad : Nat → Nat} {sh : xSh} {A : Nat → Prop} {Q : State → Prop}
theorem xPc_blind {D : va_G} {cs : Nat → ClassId} {ad : Nat → Nat} {sh : xSh} {sz : Nat} {as : List Value} {z : xMem} : FrameBlind (xPc D cs ad sh sz as z) := by
  intro a U g mk h
  obtain ⟨h1, h2, h3, h4, h5, h6⟩ := h
  exact ⟨h1, h2, h3, va_K.moved (u := U) (U := U.calling g mk a) (Vm.Alike.refl U.vm) h4, h5, h6.blind⟩
theorem xEs_out {es : List Nat} {n q : Nat} (h : es.length = n) (hn : n ≤ 1000) (hq : 1000 ≤ q) : xEs es q = q := by
  unfold xEs
  rw [if_neg (by omega)]
/-- what a call gives its callee -/
theorem xCall_pre (C : xC p R s m args meth c own cc nL D cs ad sh A) {shc : xSh} {es : List Nat} {as : List Value} {z : xMem} {H : Heap} {locs : List Loc} (hs : xSub sh es shc = true) (hlen : shc.length ≤ 1000) (hP : va_P D classes (xW ad cs z 0 sh) H) (hS : va_S A s.heap H locs) : ∀ U : State, U.heap = H → s.WarmedH U.vm → xPc D cs (fun q => ad (xEs es q)) shc H.size as (xPull es z) (as.map (xR (fun q => ad (xEs es q)))).toArray U := by
  obtain ⟨hx, hb, hml, hown, hts, hlk, hK, hi1, hi2, hA, hE, hR⟩ := C
  have hs0 := hs
  simp only [xSub, Bool.and_eq_true, decide_eq_true_eq] at hs
  obtain ⟨⟨hl, hn⟩, he⟩ := hs
  have hat : ∀ i : Nat, i < shc.length → ∃ a : Nat, es[i]? = some a ∧ a < sh.length ∧ xEs es i = a := by
    intro i hi
    have h0 : es[i]? = some (es[i]'(by omega)) := List.getElem?_eq_getElem (by omega)
    have h1 := congrArg (fun L => L[i]?) he
    simp only [List.getElem?_map, h0, List.getElem?_eq_getElem hi, Option.map_some] at h1
    exact ⟨_, h0, (List.getElem?_eq_some_iff.mp (Option.some.inj h1)).1, xEs_at h0⟩
  intro U hU hW
  refine ⟨rfl, by rw [hU], by rw [hU]; exact xSub_P hs0 hP, va_K.moved hW.alike hK, ?_, ?_⟩
  · intro i j hi hj hij
    obtain ⟨a, a1, a2, a3⟩ := hat i hi
    obtain ⟨b, b1, b2, b3⟩ := hat j hj
    dsimp only at hij
    rw [a3, b3] at hij
    have := hi1 a b a2 b2 hij
    subst this
    have e1 := xNd_ix es i 0 a hn a1
    have e2 := xNd_ix es j 0 a hn b1
    rw [e1] at e2
    simpa using e2
  · have hE2 : xEnv (fun q => ad (xEs es q)) A s s.heap := hE.ad (fun q hq => by show ad (xEs es q) = ad q; rw [xEs_out hl hlen hq])
    rw [hU]
    refine ((hE2.kept (H1 := H) (fun a h1 h2 => hS.2.1 a h1 h2)).warm hW).narrow ?_
    intro q hq
    rcases hq with ⟨i, hi, rfl⟩ | hq
    · obtain ⟨a, a1, a2, a3⟩ := hat i hi
      show A (ad (xEs es i))
      rw [a3]
      exact hi2 a a2
    · exact hA q (Nat.le_trans hS.1 hq)
theorem xA_in (C : xC p R s m args meth c own cc nL D cs ad sh A) {shc : xSh} {es : List Nat} {H : Heap} {locs : List Loc} (hs : xSub sh es shc = true) (hS : va_S A s.heap H locs) : ∀ q, xA (fun q => ad (xEs es q)) shc.length H.size q → A q := by
  obtain ⟨hx, hb, hml, hown, hts, hlk, hK, hi1, hi2, hA, hE, hR⟩ := C
  simp only [xSub, Bool.and_eq_true, decide_eq_true_eq] at hs
  obtain ⟨⟨hl, hn⟩, he⟩ := hs
  intro q hq
  rcases hq with ⟨i, hi, rfl⟩ | hq
  · have h0 : es[i]? = some (es[i]'(by omega)) := List.getElem?_eq_getElem (by omega)
    have h1 := congrArg (fun L => L[i]?) he
    simp only [List.getElem?_map, h0, List.getElem?_eq_getElem hi, Option.map_some] at h1
    show A (ad (xEs es i))
    rw [xEs_at h0]
    exact hi2 _ (List.getElem?_eq_some_iff.mp (Option.some.inj h1)).1
  · exact hA q (Nat.le_trans hS.1 hq)
/-- behind a call, whatever its kind -/
theorem xCall_go (C : xC p R s m args meth c own cc nL D cs ad sh A) {shc : xSh} {es : List Nat} {z : xMem} {post : Option Value → xMem → Prop} (hs : xSub sh es shc = true) (hraw : xHasRaw shc = true → ∀ (k n : Nat) (l : List Nat), sh[k]? = some (0, n, l) → 2 ∈ l → xIx es k 0 ≠ none) {H : Heap} {locs : List Loc} {ls : Array Slot} (hP : va_P D classes (xW ad cs z 0 sh) H) (hS : va_S A s.heap H locs) {pc : Nat} {st0 rest : List Value} {a : Array Value}
    (hr : va_Run p l e R s m args below meth c H locs 0 0 0 0 (F0 m pc ls st0) (rest.map (xR ad)) (xQc D cs (fun q => ad (xEs es q)) shc (xA (fun q => ad (xEs es q)) shc.length H.size) post a) (xA (fun q => ad (xEs es q)) shc.length H.size))
    (kk : ∀ (r : Option Value) (z' : xMem), post r z' → ∀ (H1 : Heap) (locs1 : List Loc), va_P D classes (xW ad cs (xBack es (xHasRaw shc) z z') 0 sh) H1 → va_S A s.heap H1 locs1 → W p l e R s m args below meth c H1 locs1 0 0 Q (F0 m (pc + 3) ls (((r.map (xR (xEs es))).toList ++ rest).map (xR ad)))) : W p l e R s m args below meth c H locs 0 0 Q (F0 m pc ls st0) := by
  have hAi := xA_in C hs hS
  have hinj := C.2.2.2.2.2.2.2.1
  intro T hT X
  obtain ⟨v, st₀, t, T', L, h0, X', hL, e1, e2, ⟨⟨r, z', hv, hp, hP1⟩, hz, hk⟩, st⟩ := hr T hT X
  rw [h0] at hz hk
  have hPn := xSub_back (z' := z') (H1 := T'.heap) hs hraw hinj hP rfl (fun q h1 h2 => by rw [e1]; exact hk q h1 h2) (by rw [e1]; exact hP1)
  have hSn : va_S A s.heap T'.heap (locs ++ L) := ⟨Nat.le_trans hS.1 (by rw [e1]; exact hz), fun q h1 h2 => by rw [e1, hk q (Nat.lt_of_lt_of_le h1 hS.1) (fun zz => h2 (hAi q zz))]; exact hS.2.1 q h1 h2, fun q hq => by
      rcases List.mem_append.mp hq with h | h
      · exact hS.2.2 q h
      · exact hAi _ (hL q h)⟩
  obtain ⟨t2, a1, b1⟩ := kk r z' hp T'.heap (locs ++ L) hPn hSn T' rfl X'
  refine ⟨t2, st t2 ?_, b1⟩
  have hv2 : v = r.map (xR (fun q => ad (xEs es q))) := by
    cases hv
    rfl
  rw [hv2]
  cases r with
  | none => exact a1
  | some w =>
    have ew : xR ad (xR (xEs es) w) = xR (fun q => ad (xEs es q)) w := xR_xR ad es w
    simp only [Option.map_some, Option.toList_some, List.map_cons, List.cons_append, List.nil_append, ew] at a1 ⊢
    exact a1
/-- what the tables say of a callee -/
def xY (y : MethodName) (cy : ByteArray) (maxLy : Nat) (rety : Option FieldType) (n : Nat) : Prop := Cond.code y cy maxLy rety ∈ lw_gt ∧ Cond.initialized y.cls ∈ lw_gt ∧ (y.cls ≠ "java/lang/invoke/MethodHandle" ∧ y.cls ≠ "java/lang/invoke/VarHandle" ∧ (parseMethodDescriptor y.desc).map (fun d => d.parameters.length) = some n)
theorem xFit {d dc maxLy : Nat} (h : dc < d) (hm : maxLy ≤ 20) : (xRm dc).frames + 1 ≤ (xRm d).frames ∧ 8 + (maxLy + 11) + (xRm dc).locals ≤ (xRm d).locals := by
  refine ⟨by show dc + 1 + 1 ≤ d + 1; omega, by show 8 + (maxLy + 11) + (40 * dc + 40) ≤ 40 * d + 40; omega⟩
/-- a link of this class's file to a method, its own or a nest mate's -/
def xLk (own : String) (ix : Nat) (y : MethodName) : Prop := Cond.methodLink own ix y ∈ lw_gt ∨ Cond.methodLinkNest own ix y "LawsLapse" ∈ lw_tbl
/-- a call of an object's method -/
theorem ww_callV {d dc : Nat} (C : xC p (xRm d) s m args meth c own cc nL D cs ad sh A) {K : List xI} (hK : K.all (xOk own cc) = true) (a : Nat) {ix : Nat} {y : MethodName} {cy : ByteArray} {maxLy : Nat} {rety : Option FieldType} {n : Nat} {shc : xSh} {es : List Nat} {as rest : List Value} {b0 q0 : Nat} {z : xMem} {post : Option Value → xMem → Prop} {pc : Nat} {lv : xLv} {ci : Nat} {T : u_T} {N : Nat} {fs : List Nat}
    (hM : XM l dc y cy maxLy rety shc (.ref b0 :: as) (xPull es z) post) (hd : dc < d) (hm : maxLy ≤ 20) (hy : xY y cy maxLy rety n) (hyi : Cond.instanceMethod y ∈ lw_gt ∧ Cond.selects y.cls y y ∈ lw_gt) (hlk : xLk own ix y) (hs : xSub sh es shc = true) (hlen : shc.length ≤ 1000) (hraw : xHasRaw shc = true → ∀ (k n : Nat) (l : List Nat), sh[k]? = some (0, n, l) → 2 ∈ l → xIx es k 0 ≠ none)
    (hq0 : xEs es b0 = q0) (hcell : sh[q0]? = some (0, ci, fs)) (hcls : classes[ci]? = some (y.cls, T, N)) (hn : as.length = n) {st : List Value} (hst : st = (as.map (xR (xEs es))).reverse ++ .ref q0 :: rest) (hrest : (rest.map Value.category).sum ≤ 8) (h : (K[a]?).map (fun q => (q.1, q.2.1)) = some (pc, .invokevirtual ix))
    (kk : ∀ (r : Option Value) (z' : xMem), post r z' → ww p l e (xRm d) s m args below meth c nL D cs ad sh A Q (pc + 3) lv ((r.map (xR (xEs es))).toList ++ rest) (xBack es (xHasRaw shc) z z')) : ww p l e (xRm d) s m args below meth c nL D cs ad sh A Q pc lv st z := by
  have C0 := C
  obtain ⟨hx, hb, hml, hown, hts, hlocks, hCK, hi1, hi2, hA, hE, hR⟩ := C0
  cases hx0 : K[a]? with
  | none => rw [hx0] at h; cases h
  | some x =>
    rw [hx0] at h
    obtain ⟨pc0, i, y9⟩ := x
    simp only [Option.map_some, Option.some.injEq, Prod.mk.injEq] at h
    obtain ⟨h1, h2⟩ := h
    have hdg := xK_d hK hx0
    dsimp only at hdg
    rw [h1, h2] at hdg
    intro H locs ls hP hS hl
    have hpre := xCall_pre C (as := .ref b0 :: as) hs hlen hP hS
    have hMe := hM D cs (fun q => ad (xEs es q)) H.size
    have hrec := va_recv hCK hP (ci := ci) (q0 := q0) hcls (xW_at hcell)
    have hpv : PreV s H y.cls (ad q0) (xPc D cs (fun q => ad (xEs es q)) shc H.size (.ref b0 :: as) (xPull es z)) (as.map (xR (fun q => ad (xEs es q)))) := by
      refine ⟨xPc_blind, hrec, fun U hU hW => ?_⟩
      have h9 := hpre U hU hW
      simp only [List.map_cons, xR, hq0] at h9
      exact h9
    have hfull : (st.map (xR ad)) = (as.map (xR (fun q => ad (xEs es q)))).reverse ++ .ref (ad q0) :: rest.map (xR ad) := by
      rw [hst]
      simp only [List.map_append, List.map_reverse, List.map_map, List.map_cons]
      congr 2
      apply List.map_congr_left
      intro v _
      exact xR_xR ad es v
    have hrun : va_Run p l e (xRm d) s m args below meth c H locs 0 0 0 0 (F0 m pc ls (st.map (xR ad))) (rest.map (xR ad)) (xQc D cs (fun q => ad (xEs es q)) shc (xA (fun q => ad (xEs es q)) shc.length H.size) post (Value.ref (ad q0) :: as.map (xR (fun q => ad (xEs es q)))).toArray) (xA (fun q => ad (xEs es q)) shc.length H.size) := by
      rcases hlk with hlk | hlk
      · exact va_runV (C := y.cls) (n := n) ⟨hx, hb, hml, hown, hts⟩ hMe ⟨callB_of n hts (lw_in hy.1) rfl rfl rfl (hts _ hy.2.1) (hts _ hlk) hy.2.2 (xFit hd hm), hts _ hyi.1, hts _ hyi.2⟩ hpv rfl (by rw [List.length_map]; exact hn) hl.1 hfull (lv_room (by rw [xR_sum]; exact hrest)) hdg ⟨Nat.zero_le _, Nat.zero_le _⟩
      · exact va_runVN (C := y.cls) (n := n) ⟨hx, hb, hml, hown, hts⟩ hMe ⟨va_cnB n hts (lw_in hy.1) rfl rfl rfl (hE.2.2.2.2.1 _ hlk rfl) (hts _ hy.2.1) hy.2.2 (xFit hd hm), hts _ hyi.1, hts _ hyi.2⟩ hpv rfl (by rw [List.length_map]; exact hn) hl.1 hfull (lv_room (by rw [xR_sum]; exact hrest)) hdg ⟨Nat.zero_le _, Nat.zero_le _⟩
    exact xCall_go C hs hraw hP hS hrun (fun r z' hp H1 locs1 hP1 hS1 => kk r z' hp H1 locs1 ls hP1 hS1 hl)
/-- a call of a static method -/
theorem ww_callS {d dc : Nat} (C : xC p (xRm d) s m args meth c own cc nL D cs ad sh A) {K : List xI} (hK : K.all (xOk own cc) = true) (a : Nat) {ix : Nat} {y : MethodName} {cy : ByteArray} {maxLy : Nat} {rety : Option FieldType} {n : Nat} {shc : xSh} {es : List Nat} {as rest : List Value} {z : xMem} {post : Option Value → xMem → Prop} {pc : Nat} {lv : xLv}
    (hM : XM l dc y cy maxLy rety shc as (xPull es z) post) (hd : dc < d) (hm : maxLy ≤ 20) (hy : xY y cy maxLy rety n) (hyi : Cond.static y ∈ lw_gt) (hlk : xLk own ix y) (hs : xSub sh es shc = true) (hlen : shc.length ≤ 1000) (hraw : xHasRaw shc = true → ∀ (k n : Nat) (l : List Nat), sh[k]? = some (0, n, l) → 2 ∈ l → xIx es k 0 ≠ none)
    (hn : as.length = n) {st : List Value} (hst : st = (as.map (xR (xEs es))).reverse ++ rest) (hrest : (rest.map Value.category).sum ≤ 8) (h : (K[a]?).map (fun q => (q.1, q.2.1)) = some (pc, .invokestatic ix))
    (kk : ∀ (r : Option Value) (z' : xMem), post r z' → ww p l e (xRm d) s m args below meth c nL D cs ad sh A Q (pc + 3) lv ((r.map (xR (xEs es))).toList ++ rest) (xBack es (xHasRaw shc) z z')) : ww p l e (xRm d) s m args below meth c nL D cs ad sh A Q pc lv st z := by
  have C0 := C
  obtain ⟨hx, hb, hml, hown, hts, hlocks, hCK, hi1, hi2, hA, hE, hR⟩ := C0
  cases hx0 : K[a]? with
  | none => rw [hx0] at h; cases h
  | some x =>
    rw [hx0] at h
    obtain ⟨pc0, i, y9⟩ := x
    simp only [Option.map_some, Option.some.injEq, Prod.mk.injEq] at h
    obtain ⟨h1, h2⟩ := h
    have hdg := xK_d hK hx0
    dsimp only at hdg
    rw [h1, h2] at hdg
    intro H locs ls hP hS hl
    have hpre := xCall_pre C (as := as) hs hlen hP hS
    have hMe := hM D cs (fun q => ad (xEs es q)) H.size
    have hps : PreS s H (xPc D cs (fun q => ad (xEs es q)) shc H.size as (xPull es z)) (as.map (xR (fun q => ad (xEs es q)))) := ⟨xPc_blind, hpre⟩
    have hfull : (st.map (xR ad)) = (as.map (xR (fun q => ad (xEs es q)))).reverse ++ rest.map (xR ad) := by
      rw [hst]
      simp only [List.map_append, List.map_reverse, List.map_map]
      congr 2
      apply List.map_congr_left
      intro v _
      exact xR_xR ad es v
    have hrun : va_Run p l e (xRm d) s m args below meth c H locs 0 0 0 0 (F0 m pc ls (st.map (xR ad))) (rest.map (xR ad)) (xQc D cs (fun q => ad (xEs es q)) shc (xA (fun q => ad (xEs es q)) shc.length H.size) post (as.map (xR (fun q => ad (xEs es q)))).toArray) (xA (fun q => ad (xEs es q)) shc.length H.size) := by
      rcases hlk with hlk | hlk
      · exact va_runS (n := n) ⟨hx, hb, hml, hown, hts⟩ hMe ⟨callB_of n hts (lw_in hy.1) rfl rfl rfl (hts _ hy.2.1) (hts _ hlk) hy.2.2 (xFit hd hm), hts _ hyi⟩ hps rfl (by rw [List.length_map]; exact hn) hl.1 hfull (lv_room (by rw [xR_sum]; exact hrest)) hdg ⟨Nat.zero_le _, Nat.zero_le _⟩
      · exact va_runSN (n := n) ⟨hx, hb, hml, hown, hts⟩ hMe ⟨va_cnB n hts (lw_in hy.1) rfl rfl rfl (hE.2.2.2.2.1 _ hlk rfl) (hts _ hy.2.1) hy.2.2 (xFit hd hm), hts _ hyi, trivial⟩ hps rfl (by rw [List.length_map]; exact hn) hl.1 hfull (lv_room (by rw [xR_sum]; exact hrest)) hdg ⟨Nat.zero_le _, Nat.zero_le _⟩
    exact xCall_go C hs hraw hP hS hrun (fun r z' hp H1 locs1 hP1 hS1 => kk r z' hp H1 locs1 ls hP1 hS1 hl)
end XCA
