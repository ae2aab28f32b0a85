/-! the raw walk: makings, calls, contracts -/
section YRW2
variable {p : Program} {l : Launch} {e : Env} {R : Room} {s : State} {m : MethodId} {args : Array Value} {below : List Frame} {meth : Method} {c : Code} {own : String} {cc : ByteArray} {nL : Nat} {D : va_G} {cs : Nat → ClassId} {A : Nat → Prop} {Q : State → Prop} {nn kk : Nat} {ws : va_W} {pc : Nat} {lv : xLv} {st : List Value}
theorem wr_new (C : yC p R s m args meth c own cc nL D cs A) {ci N ix : Nat} {Cn : String} {T : u_T} {ty : Nat → FieldType} (U : yK ci Cn T N ty) (fs : List Value) (hfs : ∀ j, j < N → defaultValue (ty j) = vp_V fs j) (hd : decode cc pc = .ok (.new ix, 3)) (hcl : Cond.classLink own ix Cn ∈ lw_gt) (hin : Cond.instantiable Cn N ∈ lw_gt) (hini : Cond.initialized Cn ∈ lw_gt) (hc : nn + 1 ≤ R.cells) (hs : kk + N ≤ R.slots) (kn : ∀ a : Nat, wr p l e R s m args below meth c nL D A Q (nn + 1) (kk + N) (ws ++ [yO a ci fs]) (pc + 3) lv (.ref a :: st)) : wr p l e R s m args below meth c nL D A Q nn kk ws pc lv st := by
  obtain ⟨hx, hb, hml, hown, hts, hlk', hK, hA, hE, hR⟩ := C
  obtain ⟨u1, u2, u3, u4⟩ := U
  intro H locs ls hP hD hS hl
  exact va_new (D := D) (ci := ci) (T := T) (N := N) (fs := fs) (tys := xTys cs) hx hb hts u2 ty u3 hown (hts _ hcl) (hts _ hin) (hts _ hini) hK hP hD hS hA u1 hfs hc hs hd (fun q H1 hP1 hD1 hS1 => kn q H1 locs ls hP1 hD1 hS1 hl)
theorem wr_anew (C : yC p R s m args meth c own cc nL D cs A) {n : Int32} {ix : Nat} (N : Nat) (hd : decode cc pc = .ok (.anewarray ix, 3)) (hcl : Cond.classLink own ix "LawsLapse$Sheet" ∈ lw_gt) (h0 : ¬ n < 0) (hN : n.toNatClampNeg = N) (hb9 : N * 4 ≤ 536870912) (hc : nn + 1 ≤ R.cells) (hs : kk + N ≤ R.slots) (kn : ∀ a : Nat, wr p l e R s m args below meth c nL D A Q (nn + 1) (kk + N) (ws ++ [yQ (cs 3) a N []]) (pc + 3) lv (.ref a :: st)) : wr p l e R s m args below meth c nL D A Q nn kk ws pc lv (.int n :: st) := by
  obtain ⟨hx, hb, hml, hown, hts, hlk', hK, hA, hE, hR⟩ := C
  intro H locs ls hP hD hS hl
  refine va_newq hx hb hown (hts _ hcl) hE.2.1 hK hP hD hS hA h0 hN hb9 hc hs hd (fun q cA H1 hK1 hP1 hD1 hS1 => ?_)
  obtain ⟨-, -, -, -, -, h1⟩ := (hK1.2 4 (cA, .object "LawsLapse$Sheet") rfl).2
  obtain ⟨-, -, -, -, -, h2⟩ := (hK.2 3 (cs 3, .object "LawsLapse$Sheet") rfl).2
  cases h1.symm.trans h2
  exact kn q H1 locs ls hP1 hD1 hS1 hl
theorem yUp (L : List Nat) (v : Nat) : va_up (fun j : Nat => L[j]?) L.length (some v) = fun j : Nat => (L ++ [v])[j]? := by
  funext j
  unfold va_up
  by_cases h : j = L.length
  · subst h; simp
  · rw [if_neg h]
    by_cases h2 : j < L.length
    · rw [List.getElem?_append_left h2]
    · have h3 : (L ++ [v]).length = L.length + 1 := by rw [List.length_append]; rfl
      show L[j]? = (L ++ [v])[j]?
      rw [List.getElem?_eq_none (by omega : L.length ≤ j), List.getElem?_eq_none (by omega : (L ++ [v]).length ≤ j)]
theorem wr_aast (C : yC p R s m args meth c own cc nL D cs A) {a N v : Nat} (q0 qk : Nat) {L : List Nat} {vs : List Value} {i : Int32} (hd : decode cc pc = .ok (.aastore, 1)) (he : ws[q0]? = some (yQ (cs 3) a N L)) (hv : ws[qk]? = some (yO v 2 vs)) (hin : vp_in i N) (hi : i.toNatClampNeg = L.length) (kn : wr p l e R s m args below meth c nL D A Q nn kk (ws.set q0 (yQ (cs 3) a N (L ++ [v]))) (pc + 1) lv st) : wr p l e R s m args below meth c nL D A Q nn kk ws pc lv (.ref v :: .int i :: .ref a :: st) := by
  obtain ⟨hx, hb, hml, hown, hts, hlk', hK, hA, hE, hR⟩ := C
  intro H locs ls hP hD hS hl
  refine va_astq (D := D) (tys := xTys cs) (r := (RX2, TX2, 3)) hx hb hK hP hD hS q0 3 qk 2 he rfl hv rfl hin hd (fun H1 locs1 hP1 hD1 hS1 => ?_)
  rw [hi, yUp] at hP1 hD1
  exact kn H1 locs1 ls hP1 hD1 hS1 hl
theorem yInner (c9 : ClassId) (K : Nat) : Jvm.Free.Multi.innerC c9 K (defaultValue .int) = vp_cell c9 (K, .inl (fun _ => 0)) := by
  show ({ cls := c9, slots := Array.replicate K (.int 0), vm := .none } : Cell) = arrV c9 K (fun _ => .int 0)
  rw [← arrV_new]
theorem wr_mna (C : yC p R s m args meth c own cc nL D cs A) {n k : Int32} {ix : Nat} (N K : Nat) (hd : decode cc pc = .ok (.multianewarray ix 2, 4)) (hcl : Cond.classLink own ix "[[I" ∈ lw_gt) (hn : ¬ n < 0) (hk : ¬ k < 0) (hN : n.toNatClampNeg = N) (hM : k.toNatClampNeg = K) (hb1 : N * 4 ≤ 536870912) (hb2 : K * 4 ≤ 536870912) (hb3 : K ≤ 536870912) (hc : nn + (1 + N) ≤ R.cells) (hs : kk + (N + N * K) ≤ R.slots)
    (kn : ∀ (a : Nat) (r : Nat → Nat), wr p l e R s m args below meth c nL D A Q (nn + 1 + N) (kk + N + N * K) ((ws ++ [yQ (cs 2) a N ((List.range N).map r)]) ++ (List.range N).map (fun i => yI cs (r i) K (fun _ => 0))) (pc + 4) lv (.ref a :: st)) : wr p l e R s m args below meth c nL D A Q nn kk ws pc lv (.int k :: .int n :: st) := by
  obtain ⟨hx, hb, hml, hown, hts, hlk', hK, hA, hE, hR⟩ := C
  intro H locs ls hP hD hS hl
  have e0 : ws ++ va_pl [] (fun _ => (Sum.inr (0, []) : va_E)) = ws := List.append_nil ws
  have hcy : s.vm.findClass (FieldType.array .int).toString = some (cs 0) := (hK.2 0 (cs 0, .int) rfl).2
  refine va_mna (X := ws) (L := []) (f := fun _ => (Sum.inr (0, []) : va_E)) (ty := .int) (z := (K, .inl (fun _ => 0))) hx hb hown (hts _ hcl) hE.2.2 (hts _ (lw_gt_of (List.mem_of_getElem? (i := 142) (by decide +kernel)) rfl)) hcy hK (by rw [e0]; exact hP) (by rw [e0]; exact hD) hS hA hn hk hN hM hb1 hb2 hb3 rfl rfl hc hs (fun c9 => yInner c9 K) hd (fun q r cA H1 hr1 hr2 hK1 hP1 hD1 hS1 => ?_)
  have h1 : s.vm.findClass ("[" ++ (FieldType.array .int).toString) = some cA := (hK1.2 4 (cA, .array .int) rfl).2
  have h2 : s.vm.findClass ("[" ++ (FieldType.array .int).toString) = some (cs 2) := (hK.2 2 (cs 2, .array .int) rfl).2
  cases h1.symm.trans h2
  have e1 : (fun i : Nat => if i < N then some (r i) else none) = fun j : Nat => ((List.range N).map r)[j]? := by
    funext j
    rw [List.getElem?_map]
    by_cases h : j < N
    · rw [if_pos h, List.getElem?_range h]; rfl
    · rw [if_neg h, List.getElem?_eq_none (by rw [List.length_range]; omega)]; rfl
  have e2 : va_pl ([] ++ (List.range N).map r) (vr_up (fun _ => (Sum.inr (0, []) : va_E)) ((List.range N).map r) (.inl (cs 0, (K, .inl (fun _ => 0))))) = (List.range N).map (fun i => yI cs (r i) K (fun _ => 0)) := by
    unfold va_pl
    rw [List.nil_append, List.map_map]
    apply List.map_congr_left
    intro i hi
    show (r i, vr_up _ _ _ (r i)) = _
    rw [vr_up_in (List.mem_map.mpr ⟨i, hi, rfl⟩)]
  rw [e1, e2] at hP1 hD1
  exact kn q r H1 locs ls hP1 hD1 hS1 hl
def yQc (D : va_G) (A : Nat → Prop) (post : va_W → Prop) : Array Value → State → Outcome → State → Prop := fun _ st oc t => (∃ ws' : va_W, oc = .returned none ∧ post ws' ∧ va_P D classes ws' t.heap ∧ va_D A ws') ∧ va_F A st t
def yRm (d mc ms : Nat) : Room := { frames := d + 1, cells := mc, slots := ms, locals := 40 * d + 40 }
/-- a contract of a method without an answer, that may make cells -/
def YM (l : Launch) (d mc ms : Nat) (y : MethodName) (cc : ByteArray) (maxL : Nat) (wc : (Nat → ClassId) → va_W) (as : List Value) (post : (Nat → ClassId) → va_W → Prop) : Prop :=
  ∀ (D : va_G) (cs : Nat → ClassId) (sz : Nat), Met l y (xWs y cc maxL none) (yRm d mc ms) (va_Pc as (fun U => U.heap.size = sz ∧ va_P D classes (wc cs) U.heap ∧ va_K D classes (xTys cs) U ∧ va_D (fun _ => True) (wc cs) ∧ yE U)) (yQc D (va_A (wc cs) sz) (post cs)) mc ms (va_A (wc cs) sz)
theorem YM.of {d mc ms : Nat} {y : MethodName} {maxL : Nat} {wc : (Nat → ClassId) → va_W} {as : List Value} {post : (Nat → ClassId) → va_W → Prop} (hy : plainName y.cls = true) (hn : (lg_sl as).length ≤ maxL)
    (body : ∀ (p : Program) (e : Env) (s : State) (m : MethodId) (args : Array Value) (below : List Frame) (meth : Method) (c : Code) (D : va_G) (cs : Nat → ClassId) (A : Nat → Prop), yC p (yRm d mc ms) s m args meth c y.cls cc maxL D cs A → meth.sig.returnType = none → meth.name = y.name → wr p l e (yRm d mc ms) s m args below meth c maxL D A (MQ below (yQc D A (post cs)) args s mc ms A) 0 0 (wc cs) 0 (lv_args 0 as) []) : YM l d mc ms y cc maxL wc as post := by
  intro D cs sz
  refine Met.ofW (cc := cc) (maxL := maxL) (ret := none) hy rfl ?_
  intro p e s m args below meth c s₁ B hml hv
  obtain ⟨rfl, hsz, hP, hK, hD0, hE⟩ := hv
  have hts := atoms_spec (ws := xWs y cc maxL none) B.pre
  have hown : s.vm.findClass y.cls = some m.cls := findClass_of_methodNamed B.named
  subst hsz
  have hD := hD0.self (sz := s.heap.size)
  have hC : yC p (yRm d mc ms) s m as.toArray meth c y.cls cc maxL D cs (va_A (wc cs) s.heap.size) := ⟨B.exec, B.bytes, hml, hown, fun w hw => hts w (List.mem_cons_of_mem _ hw), B.notSynchronized, hK, fun q hq => Or.inr hq, hE, ⟨by show 1 ≤ d + 1; omega, by show 40 ≤ 40 * d + 40; omega⟩⟩
  have hW := body p e s m _ below meth c D cs _ hC B.returns (name_of_methodNamed B.named B.method).1
  have hl := lv_entry as (n := maxL) hn
  rw [lg_entry_eq]
  exact hW s.heap [] _ hP hD va_S.rf hl
theorem wr_ret (C : yC p R s m args meth c own cc nL D cs A) {mc ms : Nat} {post : va_W → Prop} (hr : meth.sig.returnType = none) (hd : decode cc pc = .ok (.return_, 1)) (hn : nn ≤ mc) (hk : kk ≤ ms) (hp : post ws) : wr p l e R s m args below meth c nL D A (MQ below (yQc D A post) args s mc ms A) nn kk ws pc lv [] := by
  obtain ⟨hx, hb, hml, hown, hts, hlk', hK, hA, hE, hR⟩ := C
  intro H locs ls hP hD hS hl
  exact W.widen hn hk (W.vret hx hb hr (fun t ht hW => ⟨⟨ws, rfl, hp, by rw [ht]; exact hP, hD⟩, hS.F ht⟩) hS.2.2 hd)
theorem yPre {D : va_G} {cs : Nat → ClassId} {as : List Value} {wc : va_W} {sz : Nat} : FrameBlind (va_Pc as (fun U => U.heap.size = sz ∧ va_P D classes wc U.heap ∧ va_K D classes (xTys cs) U ∧ va_D (fun _ => True) wc ∧ yE U)) := by
  intro a U g mk h
  obtain ⟨h1, h2, h3, h4, h5, h6⟩ := h
  exact ⟨h1, h2, h3, va_K.moved (u := U) (U := U.calling g mk a) (Vm.Alike.refl U.vm) h4, h5, yE_blind h6⟩
/-- behind such a call -/
theorem yGo (C : yC p R s m args meth c own cc nL D cs A) {mc ms : Nat} {wc wr0 : va_W} {post : va_W → Prop} (isC isR : List Nat) (hC : isC.map (fun i => ws[i]?) = wc.map some) (hR2 : isR.map (fun i => ws[i]?) = wr0.map some) (hn1 : va_nd isR = true) (hdis : ∀ i ∈ isR, i ∉ isC) {H : Heap} {locs : List Loc} {ls : Array Slot} (hP : va_P D classes ws H) (hD : va_D A ws) (hS : va_S A s.heap H locs) (hl : lv_has ls nL lv) {st0 rest : List Value} {a : Array Value}
    (hr : va_Run p l e R s m args below meth c H locs nn kk mc ms (F0 m pc ls st0) rest (yQc D (va_A wc H.size) post a) (va_A wc H.size))
    (kn : ∀ w1 : va_W, post w1 → wr p l e R s m args below meth c nL D A Q (nn + mc) (kk + ms) (wr0 ++ w1) (pc + 3) lv rest) : W p l e R s m args below meth c H locs nn kk Q (F0 m pc ls st0) := by
  have hA := C.2.2.2.2.2.2.2.1
  have hFc := va_free (wc := wc) hD hS hA isC hC
  intro T hT X
  obtain ⟨v, st₀, t, T', L, h0, X', hL, e1, e2, ⟨⟨w1, hv, hp, hP1, hD1⟩, hz, hk⟩, stp⟩ := hr T hT X
  cases hv
  rw [h0] at hz hk
  have hk1 : ∀ q : Nat, q < H.size → ¬ va_A wc H.size q → T'.heap[q]? = H[q]? := fun q h1 h2 => by rw [e1]; exact hk q h1 h2
  have hSn : va_S A s.heap T'.heap (locs ++ L) := ⟨Nat.le_trans hS.1 (by rw [e1]; exact hz), fun q h1 h2 => by rw [hk1 q (Nat.lt_of_lt_of_le h1 hS.1) (fun zz => h2 (hFc q zz))]; exact hS.2.1 q h1 h2, fun q hq => by
      rcases List.mem_append.mp hq with h | h
      · exact hS.2.2 q h
      · exact hFc _ (hL q h)⟩
  obtain ⟨hPn, hDn⟩ := va_join (wr := wr0) (w1 := w1) hP hD isC isR hC hR2 hn1 hdis hk1 hFc (by rw [e1]; exact hP1) hD1
  obtain ⟨t2, a1, b1⟩ := kn w1 hp T'.heap (locs ++ L) ls hPn hDn hSn hl T' rfl X'
  exact ⟨t2, stp t2 a1, b1⟩
theorem yPc (C : yC p R s m args meth c own cc nL D cs A) {wc : va_W} (isC : List Nat) (hC : isC.map (fun i => ws[i]?) = wc.map some) (hn0 : va_nd isC = true) {H : Heap} {locs : List Loc} (hP : va_P D classes ws H) (hD : va_D A ws) (as : List Value) : ∀ U : State, U.heap = H → s.WarmedH U.vm → va_Pc as (fun U => U.heap.size = H.size ∧ va_P D classes wc U.heap ∧ va_K D classes (xTys cs) U ∧ va_D (fun _ => True) wc ∧ yE U) as.toArray U := by
  obtain ⟨hx, hb, hml, hown, hts, hlk', hK, hA, hE, hR⟩ := C
  intro U hU hW
  have hfm : isC.filterMap (fun i => ws[i]?) = wc := by
    have h9 : isC.filterMap (fun i => ws[i]?) = (isC.map (fun i => ws[i]?)).filterMap id := by rw [List.filterMap_map]; rfl
    rw [h9, hC, List.filterMap_map]
    exact List.filterMap_some
  exact ⟨rfl, by rw [hU], by rw [hU]; exact hP.sub isC hfm, va_K.moved hW.alike hK, (hD.sub isC hn0 hC).weaken (fun _ _ _ _ => trivial), yE_warm hW hE⟩
/-- a call of a constructor of ours -/
theorem wr_init (C : yC p R s m args meth c own cc nL D cs A) {mc ms dc n ix b maxLy : Nat} {y : MethodName} {cy : ByteArray} {wc : (Nat → ClassId) → va_W} {wr0 : va_W} {as rest : List Value} {post : (Nat → ClassId) → va_W → Prop} (hM : YM l dc mc ms y cy maxLy wc (.ref b :: as) post) (hd : decode cc pc = .ok (.invokespecial ix, 3)) (hR9 : dc + 2 ≤ R.frames ∧ 8 + (maxLy + 11) + (40 * dc + 40) ≤ R.locals) (hy : xY y cy maxLy none n) (hyn : y.name = "<init>") (hyi : Cond.instanceMethod y ∈ lw_gt) (hlk : xLk own ix y)
    (isC isR : List Nat) (hC : isC.map (fun i => ws[i]?) = (wc cs).map some) (hn0 : va_nd isC = true) (hR2 : isR.map (fun i => ws[i]?) = wr0.map some) (hn1 : va_nd isR = true) (hdis : ∀ i ∈ isR, i ∉ isC) (hn : as.length = n) (hrest : (rest.map Value.category).sum ≤ 8) (hst : st = as.reverse ++ .ref b :: rest) (hf : nn + mc ≤ R.cells ∧ kk + ms ≤ R.slots)
    (kn : ∀ w1 : va_W, post cs w1 → wr p l e R s m args below meth c nL D A Q (nn + mc) (kk + ms) (wr0 ++ w1) (pc + 3) lv rest) : wr p l e R s m args below meth c nL D A Q nn kk ws pc lv st := by
  subst hst
  have C0 := C
  obtain ⟨hx, hb, hml, hown, hts, hlk', hK, hA, hE, hR⟩ := C0
  intro H locs ls hP hD hS hl
  have hMe := hM D cs H.size
  have hpre : PreS s H (va_Pc (.ref b :: as) (fun U => U.heap.size = H.size ∧ va_P D classes (wc cs) U.heap ∧ va_K D classes (xTys cs) U ∧ va_D (fun _ => True) (wc cs) ∧ yE U)) (.ref b :: as) := ⟨yPre, yPc C isC hC hn0 (locs := locs) hP hD (.ref b :: as)⟩
  have hfit : (yRm dc mc ms).frames + 1 ≤ R.frames ∧ 8 + (maxLy + 11) + (yRm dc mc ms).locals ≤ R.locals := ⟨by show dc + 1 + 1 ≤ _; omega, hR9.2⟩
  have hrun : va_Run p l e R s m args below meth c H locs nn kk mc ms (F0 m pc ls (as.reverse ++ .ref b :: rest)) rest (yQc D (va_A (wc cs) H.size) (post cs) (Value.ref b :: as).toArray) (va_A (wc cs) H.size) := by
    rcases hlk with hlk | hlk
    · exact va_runI (n := n) ⟨hx, hb, hml, hown, hts⟩ hMe (cwI n hts (lw_in hy.1) rfl rfl rfl (hts _ hy.2.1) (hts _ hlk) (hts _ hyi) hyn hy.2.2 hfit) hpre rfl hn hl.1 rfl (lv_room hrest) hd hf
    · exact va_runIN (n := n) ⟨hx, hb, hml, hown, hts⟩ hMe ⟨va_cnB n hts (lw_in hy.1) rfl rfl rfl (hE.1 _ hlk rfl) (hts _ hy.2.1) hy.2.2 hfit, hyn, hts _ hyi⟩ hpre rfl hn hl.1 rfl (lv_room hrest) hd hf
  exact yGo C isC isR hC hR2 hn1 hdis hP hD hS hl hrun kn
/-- a call of a method without an answer -/
theorem wr_void (C : yC p R s m args meth c own cc nL D cs A) {mc ms dc n ix b maxLy q0 ci N : Nat} {T : u_T} {fs : List Value} {y : MethodName} {cy : ByteArray} {wc : (Nat → ClassId) → va_W} {wr0 : va_W} {as rest : List Value} {post : (Nat → ClassId) → va_W → Prop} (hM : YM l dc mc ms y cy maxLy wc (.ref b :: as) post) (hd : decode cc pc = .ok (.invokevirtual ix, 3)) (hR9 : dc + 2 ≤ R.frames ∧ 8 + (maxLy + 11) + (40 * dc + 40) ≤ R.locals) (hy : xY y cy maxLy none n) (hyi : Cond.instanceMethod y ∈ lw_gt ∧ Cond.selects y.cls y y ∈ lw_gt) (hlk : Cond.methodLink own ix y ∈ lw_gt) (he : ws[q0]? = some (yO b ci fs)) (hcls : classes[ci]? = some (y.cls, T, N))
    (isC isR : List Nat) (hC : isC.map (fun i => ws[i]?) = (wc cs).map some) (hn0 : va_nd isC = true) (hR2 : isR.map (fun i => ws[i]?) = wr0.map some) (hn1 : va_nd isR = true) (hdis : ∀ i ∈ isR, i ∉ isC) (hn : as.length = n) (hrest : (rest.map Value.category).sum ≤ 8) (hst : st = as.reverse ++ .ref b :: rest) (hf : nn + mc ≤ R.cells ∧ kk + ms ≤ R.slots)
    (kn : ∀ w1 : va_W, post cs w1 → wr p l e R s m args below meth c nL D A Q (nn + mc) (kk + ms) (wr0 ++ w1) (pc + 3) lv rest) : wr p l e R s m args below meth c nL D A Q nn kk ws pc lv st := by
  subst hst
  have C0 := C
  obtain ⟨hx, hb, hml, hown, hts, hlk', hK, hA, hE, hR⟩ := C0
  intro H locs ls hP hD hS hl
  have hMe := hM D cs H.size
  have hrec := va_recv hK hP (ci := ci) (q0 := q0) hcls he
  have hpre := yPc C isC hC hn0 (locs := locs) hP hD (.ref b :: as)
  have hpv : PreV s H y.cls b (va_Pc (.ref b :: as) (fun U => U.heap.size = H.size ∧ va_P D classes (wc cs) U.heap ∧ va_K D classes (xTys cs) U ∧ va_D (fun _ => True) (wc cs) ∧ yE U)) as := ⟨yPre, hrec, hpre⟩
  have hfit : (yRm dc mc ms).frames + 1 ≤ R.frames ∧ 8 + (maxLy + 11) + (yRm dc mc ms).locals ≤ R.locals := ⟨by show dc + 1 + 1 ≤ _; omega, hR9.2⟩
  have hrun : va_Run p l e R s m args below meth c H locs nn kk mc ms (F0 m pc ls (as.reverse ++ .ref b :: rest)) rest (yQc D (va_A (wc cs) H.size) (post cs) (Value.ref b :: as).toArray) (va_A (wc cs) H.size) :=
    va_runV (C := y.cls) (n := n) ⟨hx, hb, hml, hown, hts⟩ hMe ⟨callB_of n hts (lw_in hy.1) rfl rfl rfl (hts _ hy.2.1) (hts _ hlk) hy.2.2 hfit, hts _ hyi.1, hts _ hyi.2⟩ hpv rfl hn hl.1 rfl (lv_room hrest) hd hf
  exact yGo C isC isR hC hR2 hn1 hdis hP hD hS hl hrun kn
end YRW2
