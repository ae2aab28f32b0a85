section XEN
variable {p : Program} {l : Launch} {e : Env} {R : Room} {s : State} {m : MethodId} {args : Array Value} {below : List Frame} {meth : Method} {c : Code} {own : String} {cc : ByteArray} {nL : Nat} {D : va_G} {cs : Nat → ClassId} {ad : Nat → Nat} {sh : xSh} {A : Nat → Prop} {Q : State → Prop}
theorem lv_args_map (ad : Nat → Nat) : ∀ (as : List Value) (k : Nat), lv_args k (as.map (xR ad)) = xL ad (lv_args k as)
  | [], k => rfl
  | v :: as, k => by
    simp only [List.map_cons, lv_args, xR_cat, xL]
    rw [lv_args_map ad as]
    rfl
theorem lg_sl_len (ad : Nat → Nat) : ∀ (as : List Value), (lg_sl (as.map (xR ad))).length = (lg_sl as).length := by
  intro as
  induction as with
  | nil => rfl
  | cons v as ih =>
    cases v <;> simp_all [lg_sl, xR, Value.category]
/-- the end of a method: an int -/
theorem ww_iret {post : Option Value → xMem → Prop} (C : xC p R s m args meth c own cc nL D cs ad sh A) {K : List xI} (hK : K.all (xOk own cc) = true) (a : Nat) {pc : Nat} {lv : xLv} {z : xMem} {v : Int32} {ty : FieldType} (hr : meth.sig.returnType = some ty) (h : (K[a]?).map (fun q => (q.1, q.2.1)) = some (pc, .ireturn)) (hn : narrow ty (.int v) = .int v) (hq : post (some (.int v)) z) : ww p l e R s m args below meth c nL D cs ad sh A (MQ below (xQc D cs ad sh A post) args s 0 0 A) pc lv [.int v] z := by
  obtain ⟨hx, hb, hml, hown, hts, hlk, hCK, hi1, hi2, hA, hE, hR⟩ := C
  cases hx0 : K[a]? with
  | none => rw [hx0] at h; cases h
  | some x =>
    rw [hx0] at h
    obtain ⟨pc0, i, y⟩ := x
    simp only [Option.map_some, Option.some.injEq, Prod.mk.injEq] at h
    obtain ⟨h1, h2⟩ := h
    have hd := xK_d hK hx0
    dsimp only at hd
    rw [h1, h2] at hd
    intro H locs ls hP hS hl
    exact W.zret hx hb hr hn (fun t ht hW => ⟨⟨some (.int v), z, rfl, hq, by rw [ht]; exact hP⟩, hS.F ht⟩) hS.2.2 hd
theorem ww_lret {post : Option Value → xMem → Prop} (C : xC p R s m args meth c own cc nL D cs ad sh A) {K : List xI} (hK : K.all (xOk own cc) = true) (a : Nat) {pc : Nat} {lv : xLv} {z : xMem} {v : Int64} (hr : meth.sig.returnType = some .long) (h : (K[a]?).map (fun q => (q.1, q.2.1)) = some (pc, .lreturn)) (hq : post (some (.long v)) z) : ww p l e R s m args below meth c nL D cs ad sh A (MQ below (xQc D cs ad sh A post) args s 0 0 A) pc lv [.long v] z := by
  obtain ⟨hx, hb, hml, hown, hts, hlk, hCK, hi1, hi2, hA, hE, hR⟩ := C
  cases hx0 : K[a]? with
  | none => rw [hx0] at h; cases h
  | some x =>
    rw [hx0] at h
    obtain ⟨pc0, i, y⟩ := x
    simp only [Option.map_some, Option.some.injEq, Prod.mk.injEq] at h
    obtain ⟨h1, h2⟩ := h
    have hd := xK_d hK hx0
    dsimp only at hd
    rw [h1, h2] at hd
    intro H locs ls hP hS hl
    exact W.lret hx hb hr (fun t ht hW => ⟨⟨some (.long v), z, rfl, hq, by rw [ht]; exact hP⟩, hS.F ht⟩) hS.2.2 hd
theorem ww_vret {post : Option Value → xMem → Prop} (C : xC p R s m args meth c own cc nL D cs ad sh A) {K : List xI} (hK : K.all (xOk own cc) = true) (a : Nat) {pc : Nat} {lv : xLv} {z : xMem} (hr : meth.sig.returnType = none) (h : (K[a]?).map (fun q => (q.1, q.2.1)) = some (pc, .return_)) (hq : post none z) : ww p l e R s m args below meth c nL D cs ad sh A (MQ below (xQc D cs ad sh A post) args s 0 0 A) pc lv [] z := by
  obtain ⟨hx, hb, hml, hown, hts, hlk, hCK, hi1, hi2, hA, hE, hR⟩ := C
  cases hx0 : K[a]? with
  | none => rw [hx0] at h; cases h
  | some x =>
    rw [hx0] at h
    obtain ⟨pc0, i, y⟩ := x
    simp only [Option.map_some, Option.some.injEq, Prod.mk.injEq] at h
    obtain ⟨h1, h2⟩ := h
    have hd := xK_d hK hx0
    dsimp only at hd
    rw [h1, h2] at hd
    intro H locs ls hP hS hl
    exact W.vret hx hb hr (fun t ht hW => ⟨⟨none, z, rfl, hq, by rw [ht]; exact hP⟩, hS.F ht⟩) hS.2.2 hd
theorem ww_aret {post : Option Value → xMem → Prop} (C : xC p R s m args meth c own cc nL D cs ad sh A) {K : List xI} (hK : K.all (xOk own cc) = true) (a : Nat) {pc : Nat} {lv : xLv} {z : xMem} {v : Value} {rt : FieldType} (hr : meth.sig.returnType = some rt) (hrt : (∃ n, rt = .object n) ∨ ∃ t, rt = .array t) (hv : v = .null ∨ ∃ q, v = .ref q) (h : (K[a]?).map (fun q => (q.1, q.2.1)) = some (pc, .areturn)) (hq : post (some v) z) : ww p l e R s m args below meth c nL D cs ad sh A (MQ below (xQc D cs ad sh A post) args s 0 0 A) pc lv [v] z := by
  obtain ⟨hx, hb, hml, hown, hts, hlk, hCK, hi1, hi2, hA, hE, hR⟩ := C
  cases hx0 : K[a]? with
  | none => rw [hx0] at h; cases h
  | some x =>
    rw [hx0] at h
    obtain ⟨pc0, i, y⟩ := x
    simp only [Option.map_some, Option.some.injEq, Prod.mk.injEq] at h
    obtain ⟨h1, h2⟩ := h
    have hd := xK_d hK hx0
    dsimp only at hd
    rw [h1, h2] at hd
    intro H locs ls hP hS hl
    have hv2 : xR ad v = .null ∨ ∃ b, xR ad v = .ref b := by
      rcases hv with rfl | ⟨q, rfl⟩
      · exact Or.inl rfl
      · exact Or.inr ⟨ad q, rfl⟩
    exact W.aret hx hb hr hrt hv2 (fun t ht hW => ⟨⟨some v, z, rfl, hq, by rw [ht]; exact hP⟩, hS.F ht⟩) hS.2.2 hd
/-- a contract out of a walk from the method's entry -/
theorem XM.of {d : Nat} {y : MethodName} {cc : ByteArray} {maxL : Nat} {ret : Option FieldType} {sh : xSh} {as : List Value} {z : xMem} {post : Option Value → xMem → Prop} (hy : plainName y.cls = true) (hn : (lg_sl as).length ≤ maxL)
    (body : ∀ (p : Program) (e : Env) (s : State) (m : MethodId) (args : Array Value) (below : List Frame) (meth : Method) (c : Code) (D : va_G) (cs : Nat → ClassId) (ad : Nat → Nat) (A : Nat → Prop), xC p (xRm d) s m args meth c y.cls cc maxL D cs ad sh A → meth.sig.returnType = ret → ww p l e (xRm d) s m args below meth c maxL D cs ad sh A (MQ below (xQc D cs ad sh A post) args s 0 0 A) 0 (lv_args 0 as) [] z) : XM l d y cc maxL ret sh as z post := by
  intro D cs ad sz
  refine Met.ofW (cc := cc) (maxL := maxL) (ret := ret) hy rfl ?_
  intro p e s m args below meth c s₁ B hml hv
  obtain ⟨rfl, hsz, hP, hK, hinj, hE⟩ := hv
  have hts := atoms_spec (ws := xWs y cc maxL ret) B.pre
  have hown : s.vm.findClass y.cls = some m.cls := findClass_of_methodNamed B.named
  subst hsz
  have hC : xC p (xRm d) s m (as.map (xR ad)).toArray meth c y.cls cc maxL D cs ad sh (xA ad sh.length s.heap.size) := ⟨B.exec, B.bytes, hml, hown, fun w hw => hts w (List.mem_cons_of_mem _ hw), B.notSynchronized, hK, hinj, fun i hi => Or.inl ⟨i, hi, rfl⟩, fun q hq => Or.inr hq, hE, ⟨by show 1 ≤ d + 1; omega, by show 40 ≤ 40 * d + 40; omega⟩⟩
  have hW := body p e s m _ below meth c D cs ad _ hC B.returns
  have hl := lv_entry (as.map (xR ad)) (n := maxL) (by rw [lg_sl_len]; exact hn)
  rw [lg_entry_eq]
  rw [lv_args_map] at hl
  exact hW s.heap [] _ hP va_S.rf hl
end XEN
