/-! the raw walk, for constructors and the law: a world of cells that grows -/
abbrev yI (cs : Nat → ClassId) (a N : Nat) (f : Nat → Int32) : Nat × va_E := (a, Sum.inl (cs 0, (N, Sum.inl f)))
abbrev yB (cs : Nat → ClassId) (a N : Nat) (f : Nat → Int32) : Nat × va_E := (a, Sum.inl (cs 1, (N, Sum.inl f)))
abbrev yQ (c : ClassId) (a N : Nat) (l : List Nat) : Nat × va_E := (a, Sum.inl (c, (N, Sum.inr (Sum.inr (Sum.inr (Sum.inr (fun j : Nat => l[j]?)))))))
abbrev yO (a ci : Nat) (fs : List Value) : Nat × va_E := (a, Sum.inr (ci, fs))
def yE (U : State) : Prop := (∀ w ∈ lw_tbl, xNw w = true → va_Nw w U) ∧ va_AO "LawsLapse$Sheet" U ∧ (Cond.arrayOver (.array .int)).before #[] U = true
theorem yE_warm {s U : State} (hW : s.WarmedH U.vm) (h : yE s) : yE U := ⟨fun w hw hn => xNw_warm hW hn (h.1 w hw hn), h.2.1.moved hW.alike, over_moved hW.alike h.2.2⟩
theorem yE_blind {U : State} {g : JFrame} {mk : MethodId} {a : Array Value} (h : yE U) : yE (U.calling g mk a) := ⟨fun w hw hn => xNw_same (s := U) (U := U.calling g mk a) rfl hn (h.1 w hw hn), h.2.1.moved (Vm.Alike.refl U.vm), over_moved (u := U) (E := U.calling g mk a) (Vm.Alike.refl U.vm) h.2.2⟩
/-- a class of ours, as the tables have it -/
def yK (ci : Nat) (C : String) (T : u_T) (N : Nat) (ty : Nat → FieldType) : Prop := classes[ci]? = some (C, T, N) ∧ (∀ w ∈ u_ws C T N, w ∈ lw_gt) ∧ (∀ k, k < N → parseFieldDescriptor (T k).2.2.1 = some (ty k)) ∧ (∀ a, a < N → ∀ b, b < N → a ≠ b → (T a).2.1 ≠ (T b).2.1)
theorem yK0 : yK 0 RX0 TX0 15 tyX0 := ⟨rfl, lw_u0, tyX0_ok, nmX0⟩
theorem yK1 : yK 1 RX1 TX1 7 tyX1 := ⟨rfl, lw_u1, tyX1_ok, nmX1⟩
theorem yK2 : yK 2 RX2 TX2 3 tyX2 := ⟨rfl, lw_u2, tyX2_ok, nmX2⟩
theorem yK3 : yK 3 RX3 TX3 7 tyX3 := ⟨rfl, lw_u3, tyX3_ok, nmX3⟩
theorem yK4 : yK 4 RX4 TX4 4 tyX4 := ⟨rfl, lw_u4, tyX4_ok, nmX4⟩
theorem yK5 : yK 5 RX5 TX5 8 tyX5 := ⟨rfl, lw_u5, tyX5_ok, nmX5⟩
theorem yK6 : yK 6 RX6 TX6 50 tyX6 := ⟨rfl, lw_u6, tyX6_ok, nmX6⟩
def yC (p : Program) (R : Room) (s : State) (m : MethodId) (args : Array Value) (meth : Method) (c : Code) (own : String) (cc : ByteArray) (nL : Nat) (D : va_G) (cs : Nat → ClassId) (A : Nat → Prop) : Prop :=
  p.tables.exec = Jvm.exec ∧ c.code = cc ∧ c.maxLocals = nL ∧ s.vm.findClass own = some m.cls ∧ (∀ w ∈ lw_gt, w.before args s = true) ∧ meth.locks = false ∧ va_K D classes (xTys cs) s ∧ (∀ q : Nat, s.heap.size ≤ q → A q) ∧ yE s ∧ (1 ≤ R.frames ∧ 40 ≤ R.locals)
def wr (p : Program) (l : Launch) (e : Env) (R : Room) (s : State) (m : MethodId) (args : Array Value) (below : List Frame) (meth : Method) (c : Code) (nL : Nat) (D : va_G) (A : Nat → Prop) (Q : State → Prop) (nn kk : Nat) (ws : va_W) (pc : Nat) (lv : xLv) (st : List Value) : Prop :=
  ∀ (H : Heap) (locs : List Loc) (ls : Array Slot), va_P D classes ws H → va_D A ws → va_S A s.heap H locs → lv_has ls nL lv → W p l e R s m args below meth c H locs nn kk Q (F0 m pc ls st)
section YRW
variable {p : Program} {l : Launch} {e : Env} {R : Room} {s : State} {m : MethodId} {args : Array Value} {below : List Frame} {meth : Method} {c : Code} {own : String} {cc : ByteArray} {nL : Nat} {D : va_G} {cs : Nat → ClassId} {A : Nat → Prop} {Q : State → Prop} {nn kk : Nat} {ws : va_W} {pc : Nat} {lv : xLv} {st : List Value}
theorem wr_aload (C : yC p R s m args meth c own cc nL D cs A) {i : Fin 4} {j k a : Nat} (hd : decode cc pc = .ok (.aload_n i, 1)) (hi : (i : Nat) = j) (hv : lv[k]? = some (j, .ref a)) (kn : wr p l e R s m args below meth c nL D A Q nn kk ws (pc + 1) lv (.ref a :: st)) : wr p l e R s m args below meth c nL D A Q nn kk ws pc lv st := by
  obtain ⟨hx, hb, hml, hown, hts, hlk, hK, hA, hE, hR⟩ := C
  intro H locs ls hP hD hS hl
  exact lv_aload_n hx hb hd hi (lv_at hl k hv) (kn H locs ls hP hD hS hl)
theorem wr_iload (C : yC p R s m args meth c own cc nL D cs A) {i : Fin 4} {j k : Nat} {x : Int32} (hd : decode cc pc = .ok (.iload_n i, 1)) (hi : (i : Nat) = j) (hv : lv[k]? = some (j, .int x)) (kn : wr p l e R s m args below meth c nL D A Q nn kk ws (pc + 1) lv (.int x :: st)) : wr p l e R s m args below meth c nL D A Q nn kk ws pc lv st := by
  obtain ⟨hx, hb, hml, hown, hts, hlk, hK, hA, hE, hR⟩ := C
  intro H locs ls hP hD hS hl
  exact lv_iload_n hx hb hd hi (lv_at hl k hv) (kn H locs ls hP hD hS hl)
theorem wr_iload5 (C : yC p R s m args meth c own cc nL D cs A) {j k : Nat} {x : Int32} (hd : decode cc pc = .ok (.iload j, 2)) (hv : lv[k]? = some (j, .int x)) (kn : wr p l e R s m args below meth c nL D A Q nn kk ws (pc + 2) lv (.int x :: st)) : wr p l e R s m args below meth c nL D A Q nn kk ws pc lv st := by
  obtain ⟨hx, hb, hml, hown, hts, hlk, hK, hA, hE, hR⟩ := C
  intro H locs ls hP hD hS hl
  exact lv_iload hx hb hd (lv_at hl k hv) (kn H locs ls hP hD hS hl)
theorem wr_istore (C : yC p R s m args meth c own cc nL D cs A) {i : Fin 4} {j : Nat} {x : Int32} {lv' : xLv} (hd : decode cc pc = .ok (.istore_n i, 1)) (hi : (i : Nat) = j) (hj : j < nL) (hl' : (j, Value.int x) :: lv.filter (fun q => !(q.1 == j) && !(q.1 + 1 == j && q.2.category == 2)) = lv') (kn : wr p l e R s m args below meth c nL D A Q nn kk ws (pc + 1) lv' st) : wr p l e R s m args below meth c nL D A Q nn kk ws pc lv (.int x :: st) := by
  obtain ⟨hx, hb, hml, hown, hts, hlk, hK, hA, hE, hR⟩ := C
  intro H locs ls hP hD hS hl
  exact lv_istore_n hx hb hd hi hl hj hl' (fun ls' h' => kn H locs ls' hP hD hS h')
theorem wr_astore (C : yC p R s m args meth c own cc nL D cs A) {i : Fin 4} {j x : Nat} {lv' : xLv} (hd : decode cc pc = .ok (.astore_n i, 1)) (hi : (i : Nat) = j) (hj : j < nL) (hl' : (j, Value.ref x) :: lv.filter (fun q => !(q.1 == j) && !(q.1 + 1 == j && q.2.category == 2)) = lv') (kn : wr p l e R s m args below meth c nL D A Q nn kk ws (pc + 1) lv' st) : wr p l e R s m args below meth c nL D A Q nn kk ws pc lv (.ref x :: st) := by
  obtain ⟨hx, hb, hml, hown, hts, hlk, hK, hA, hE, hR⟩ := C
  intro H locs ls hP hD hS hl
  exact lv_astore_n hx hb hd hi hl hj hl' (fun ls' h' => kn H locs ls' hP hD hS h')
theorem wr_iinc (C : yC p R s m args meth c own cc nL D cs A) {j k : Nat} {n : Int} {x v : Int32} {lv' : xLv} (hd : decode cc pc = .ok (.iinc j n, 3)) (hk : lv[k]? = some (j, .int x)) (hv : x + Int32.ofInt n = v) (hj : j < nL) (hl' : (j, Value.int v) :: lv.filter (fun q => !(q.1 == j) && !(q.1 + 1 == j && q.2.category == 2)) = lv') (kn : wr p l e R s m args below meth c nL D A Q nn kk ws (pc + 3) lv' st) : wr p l e R s m args below meth c nL D A Q nn kk ws pc lv st := by
  obtain ⟨hx, hb, hml, hown, hts, hlk, hK, hA, hE, hR⟩ := C
  intro H locs ls hP hD hS hl
  exact lv_iinc hx hb hd hl hk hv hj hl' (fun ls' h' => kn H locs ls' hP hD hS h')
theorem wr_iconst (C : yC p R s m args meth c own cc nL D cs A) {n : Int} {v : Int32} (hd : decode cc pc = .ok (.iconst n, 1)) (hv : Int32.ofInt n = v) (kn : wr p l e R s m args below meth c nL D A Q nn kk ws (pc + 1) lv (.int v :: st)) : wr p l e R s m args below meth c nL D A Q nn kk ws pc lv st := by
  obtain ⟨hx, hb, hml, hown, hts, hlk, hK, hA, hE, hR⟩ := C
  intro H locs ls hP hD hS hl
  exact lv_iconst hx hb hd hv (kn H locs ls hP hD hS hl)
theorem wr_bipush (C : yC p R s m args meth c own cc nL D cs A) {n : Int} {v : Int32} (hd : decode cc pc = .ok (.bipush n, 2)) (hv : (Int8.ofInt n).toInt32 = v) (kn : wr p l e R s m args below meth c nL D A Q nn kk ws (pc + 2) lv (.int v :: st)) : wr p l e R s m args below meth c nL D A Q nn kk ws pc lv st := by
  obtain ⟨hx, hb, hml, hown, hts, hlk, hK, hA, hE, hR⟩ := C
  intro H locs ls hP hD hS hl
  exact lv_bipush hx hb hd hv (kn H locs ls hP hD hS hl)
theorem wr_sipush (C : yC p R s m args meth c own cc nL D cs A) {n : Int} {v : Int32} (hd : decode cc pc = .ok (.sipush n, 3)) (hv : (Int16.ofInt n).toInt32 = v) (kn : wr p l e R s m args below meth c nL D A Q nn kk ws (pc + 3) lv (.int v :: st)) : wr p l e R s m args below meth c nL D A Q nn kk ws pc lv st := by
  obtain ⟨hx, hb, hml, hown, hts, hlk, hK, hA, hE, hR⟩ := C
  intro H locs ls hP hD hS hl
  exact lv_sipush hx hb hd hv (kn H locs ls hP hD hS hl)
theorem wr_dup (C : yC p R s m args meth c own cc nL D cs A) {a : Nat} (hd : decode cc pc = .ok (.dup, 1)) (kn : wr p l e R s m args below meth c nL D A Q nn kk ws (pc + 1) lv (.ref a :: .ref a :: st)) : wr p l e R s m args below meth c nL D A Q nn kk ws pc lv (.ref a :: st) := by
  obtain ⟨hx, hb, hml, hown, hts, hlk, hK, hA, hE, hR⟩ := C
  intro H locs ls hP hD hS hl
  exact lv_dup hx hb hd rfl (kn H locs ls hP hD hS hl)
theorem wr_irem (C : yC p R s m args meth c own cc nL D cs A) {x y v : Int32} (hd : decode cc pc = .ok (.irem, 1)) (hy : ¬ y = 0) (hv : x - x / y * y = v) (kn : wr p l e R s m args below meth c nL D A Q nn kk ws (pc + 1) lv (.int v :: st)) : wr p l e R s m args below meth c nL D A Q nn kk ws pc lv (.int y :: .int x :: st) := by
  subst hv
  obtain ⟨hx, hb, hml, hown, hts, hlk, hK, hA, hE, hR⟩ := C
  intro H locs ls hP hD hS hl
  exact lv_irem hx hb hd hy (kn H locs ls hP hD hS hl)
theorem wr_ishl (C : yC p R s m args meth c own cc nL D cs A) {x y v : Int32} (hd : decode cc pc = .ok (.ishl, 1)) (hv : x <<< (y &&& 31) = v) (kn : wr p l e R s m args below meth c nL D A Q nn kk ws (pc + 1) lv (.int v :: st)) : wr p l e R s m args below meth c nL D A Q nn kk ws pc lv (.int y :: .int x :: st) := by
  subst hv
  obtain ⟨hx, hb, hml, hown, hts, hlk, hK, hA, hE, hR⟩ := C
  intro H locs ls hP hD hS hl
  exact lv_ishl hx hb hd (kn H locs ls hP hD hS hl)
theorem wr_iadd (C : yC p R s m args meth c own cc nL D cs A) {x y v : Int32} (hd : decode cc pc = .ok (.iadd, 1)) (hv : x + y = v) (kn : wr p l e R s m args below meth c nL D A Q nn kk ws (pc + 1) lv (.int v :: st)) : wr p l e R s m args below meth c nL D A Q nn kk ws pc lv (.int y :: .int x :: st) := by
  subst hv
  obtain ⟨hx, hb, hml, hown, hts, hlk, hK, hA, hE, hR⟩ := C
  intro H locs ls hP hD hS hl
  exact lv_iadd hx hb hd (kn H locs ls hP hD hS hl)
theorem wr_goto (C : yC p R s m args meth c own cc nL D cs A) {off : Int} (t : Nat) (hd : decode cc pc = .ok (.goto off, 3)) (ht : (pc : Int) + off = (t : Int)) (kn : wr p l e R s m args below meth c nL D A Q nn kk ws t lv st) : wr p l e R s m args below meth c nL D A Q nn kk ws pc lv st := by
  obtain ⟨hx, hb, hml, hown, hts, hlk, hK, hA, hE, hR⟩ := C
  intro H locs ls hP hD hS hl
  exact lv_goto hx hb hd ht (kn H locs ls hP hD hS hl)
theorem wr_icge (C : yC p R s m args meth c own cc nL D cs A) {x y : Int32} {off : Int} (t : Nat) (hd : decode cc pc = .ok (.if_icmp .ge off, 3)) (ht : (pc : Int) + off = (t : Int)) (k1 : y ≤ x → wr p l e R s m args below meth c nL D A Q nn kk ws t lv st) (k2 : ¬ y ≤ x → wr p l e R s m args below meth c nL D A Q nn kk ws (pc + 3) lv st) : wr p l e R s m args below meth c nL D A Q nn kk ws pc lv (.int y :: .int x :: st) := by
  obtain ⟨hx, hb, hml, hown, hts, hlk, hK, hA, hE, hR⟩ := C
  intro H locs ls hP hD hS hl
  exact lv_icmp_ge hx hb hd ht (fun q => k1 q H locs ls hP hD hS hl) (fun q => k2 q H locs ls hP hD hS hl)
theorem wr_obj (C : yC p R s m args meth c own cc nL D cs A) {a ix : Nat} (hd : decode cc pc = .ok (.invokespecial ix, 3)) (hlk : Cond.methodLink own ix Lib.objectInit ∈ lw_gt) (kn : wr p l e R s m args below meth c nL D A Q nn kk ws (pc + 3) lv []) : wr p l e R s m args below meth c nL D A Q nn kk ws pc lv [.ref a] := by
  obtain ⟨hx, hb, hml, hown, hts, hlk', hK, hA, hE, hR⟩ := C
  intro H locs ls hP hD hS hl
  refine W.objInit hx hb hown (hts _ hlk) (hts _ (lw_gt_of (List.mem_of_getElem? (i := 116) (by decide +kernel)) rfl)) (hts _ (lw_gt_of (List.mem_of_getElem? (i := 117) (by decide +kernel)) rfl)) rfl (by rw [hml]; exact hl.1) rfl hd hR.1 (by have := hR.2; show 2 * 0 + 0 + 12 ≤ _; omega) ?_
  exact W.eq (g2 := F0 m (pc + 3) ls []) rfl (kn H locs ls hP hD hS hl)
theorem wr_newI (C : yC p R s m args meth c own cc nL D cs A) {n : Int32} (N : Nat) (hd : decode cc pc = .ok (.newarray .int, 2)) (h0 : ¬ n < 0) (hN : n.toNatClampNeg = N) (hb9 : N * 4 ≤ 536870912) (hc : nn + 1 ≤ R.cells) (hs : kk + N ≤ R.slots) (kn : ∀ a : Nat, wr p l e R s m args below meth c nL D A Q (nn + 1) (kk + N) (ws ++ [yI cs a N (fun _ => 0)]) (pc + 2) lv (.ref a :: st)) : wr p l e R s m args below meth c nL D A Q nn kk ws pc lv (.int n :: st) := by
  obtain ⟨hx, hb, hml, hown, hts, hlk', hK, hA, hE, hR⟩ := C
  intro H locs ls hP hD hS hl
  refine va_newa (atype := .int) (ty := .int) (a0 := (N, .inl (fun _ => 0))) hx hb (hts _ (lw_gt_of (List.mem_of_getElem? (i := 142) (by decide +kernel)) rfl)) rfl hK hP hD hS hA (fun _ => rfl) h0 hN hb9 hc hs hd (fun q cA H1 hK1 hP1 hD1 hS1 => ?_)
  have h1 : s.vm.findClass ("[" ++ (FieldType.int).toString) = some cA := (hK1.2 4 (cA, .int) rfl).2
  have h2 : s.vm.findClass ("[" ++ (FieldType.int).toString) = some (cs 0) := (hK.2 0 (cs 0, .int) rfl).2
  cases h1.symm.trans h2
  exact kn q H1 locs ls hP1 hD1 hS1 hl
theorem wr_newZ (C : yC p R s m args meth c own cc nL D cs A) {n : Int32} (N : Nat) (hd : decode cc pc = .ok (.newarray .boolean, 2)) (h0 : ¬ n < 0) (hN : n.toNatClampNeg = N) (hb9 : N * 1 ≤ 536870912) (hc : nn + 1 ≤ R.cells) (hs : kk + N ≤ R.slots) (kn : ∀ a : Nat, wr p l e R s m args below meth c nL D A Q (nn + 1) (kk + N) (ws ++ [yB cs a N (fun _ => 0)]) (pc + 2) lv (.ref a :: st)) : wr p l e R s m args below meth c nL D A Q nn kk ws pc lv (.int n :: st) := by
  obtain ⟨hx, hb, hml, hown, hts, hlk', hK, hA, hE, hR⟩ := C
  intro H locs ls hP hD hS hl
  refine va_newa (atype := .boolean) (ty := .boolean) (a0 := (N, .inl (fun _ => 0))) hx hb (hts _ (lw_gt_of (List.mem_of_getElem? (i := 956) (by decide +kernel)) rfl)) rfl hK hP hD hS hA (fun _ => rfl) h0 hN hb9 hc hs hd (fun q cA H1 hK1 hP1 hD1 hS1 => ?_)
  have h1 : s.vm.findClass ("[" ++ (FieldType.boolean).toString) = some cA := (hK1.2 4 (cA, .boolean) rfl).2
  have h2 : s.vm.findClass ("[" ++ (FieldType.boolean).toString) = some (cs 1) := (hK.2 1 (cs 1, .boolean) rfl).2
  cases h1.symm.trans h2
  exact kn q H1 locs ls hP1 hD1 hS1 hl
theorem wr_putF (C : yC p R s m args meth c own cc nL D cs A) (hin : meth.name = "<init>") {ci N a ix : Nat} {T : u_T} {ty : Nat → FieldType} (U : yK ci own T N ty) (q0 k : Nat) {fs : List Value} {v : Value} (hd : decode cc pc = .ok (.putfield ix, 3)) (he : ws[q0]? = some (yO a ci fs)) (hk : k < N) (hlk : Cond.fieldLink own ix own (T k).2.1 (T k).2.2.1 ∈ lw_gt) (h1 : (T k).1 = own) (hf : (T k).2.2.2 = true) (hn : narrow (ty k) v = v) (hfit : fits (ty k) v = true) (hl2 : k < fs.length) (kn : wr p l e R s m args below meth c nL D A Q nn kk (ws.set q0 (yO a ci (fs.set k v))) (pc + 3) lv st) : wr p l e R s m args below meth c nL D A Q nn kk ws pc lv (v :: .ref a :: st) := by
  obtain ⟨hx, hb, hml, hown, hts, hlk', hK, hA, hE, hR⟩ := C
  obtain ⟨u1, u2, u3, u4⟩ := U
  intro H locs ls hP hD hS hl
  exact va_putF (D := D) (ci := ci) (T := T) (N := N) hx hb hts u2 ty u3 u4 hown hK hP hD hS q0 he u1 k hk (hts _ hlk) (fun x hx9 => by rw [h1] at hx9; exact hx9) hf hin h1 (u3 k hk) hn hfit hl2 hd (fun H1 locs1 hP1 hD1 hS1 => kn H1 locs1 ls hP1 hD1 hS1 hl)
theorem wr_put (C : yC p R s m args meth c own cc nL D cs A) {ci N a ix : Nat} {T : u_T} {ty : Nat → FieldType} (U : yK ci own T N ty) (q0 k : Nat) {fs : List Value} {v : Value} (hd : decode cc pc = .ok (.putfield ix, 3)) (he : ws[q0]? = some (yO a ci fs)) (hk : k < N) (hlk : Cond.fieldLink own ix own (T k).2.1 (T k).2.2.1 ∈ lw_gt) (h1 : (T k).1 = own) (hf : (T k).2.2.2 = false) (hn : narrow (ty k) v = v) (hfit : fits (ty k) v = true) (hl2 : k < fs.length) (kn : wr p l e R s m args below meth c nL D A Q nn kk (ws.set q0 (yO a ci (fs.set k v))) (pc + 3) lv st) : wr p l e R s m args below meth c nL D A Q nn kk ws pc lv (v :: .ref a :: st) := by
  obtain ⟨hx, hb, hml, hown, hts, hlk', hK, hA, hE, hR⟩ := C
  obtain ⟨u1, u2, u3, u4⟩ := U
  intro H locs ls hP hD hS hl
  exact va_put (D := D) (ci := ci) (T := T) (N := N) hx hb hts u2 ty u3 u4 hown hK hP hD hS q0 he u1 k hk (hts _ hlk) (fun x hx9 => by rw [h1] at hx9; exact hx9) hf (u3 k hk) hn hfit hl2 hd (fun H1 locs1 hP1 hD1 hS1 => kn H1 locs1 ls hP1 hD1 hS1 hl)
theorem wr_get (C : yC p R s m args meth c own cc nL D cs A) {ci N a ix : Nat} {T : u_T} {ty : Nat → FieldType} (U : yK ci own T N ty) (q0 k : Nat) {fs : List Value} {v : Value} (hd : decode cc pc = .ok (.getfield ix, 3)) (he : ws[q0]? = some (yO a ci fs)) (hk : k < N) (hlk : Cond.fieldLink own ix own (T k).2.1 (T k).2.2.1 ∈ lw_gt) (h1 : (T k).1 = own) (hv : fs[k]? = some v) (kn : wr p l e R s m args below meth c nL D A Q nn kk ws (pc + 3) lv (v :: st)) : wr p l e R s m args below meth c nL D A Q nn kk ws pc lv (.ref a :: st) := by
  obtain ⟨hx, hb, hml, hown, hts, hlk', hK, hA, hE, hR⟩ := C
  obtain ⟨u1, u2, u3, u4⟩ := U
  intro H locs ls hP hD hS hl
  exact va_get (D := D) (ci := ci) (T := T) (N := N) hx hb hts u2 hown hK hP q0 he u1 k hk (hts _ hlk) (fun x hx9 => by rw [h1] at hx9; exact hx9) hv hd (kn H locs ls hP hD hS hl)
theorem wr_iast (C : yC p R s m args meth c own cc nL D cs A) {a N : Nat} (q0 : Nat) {f : Nat → Int32} {i x : Int32} (f' : Nat → Int32) (hd : decode cc pc = .ok (.iastore, 1)) (he : ws[q0]? = some (yI cs a N f)) (hin : vp_in i N) (hf : upd f i.toNatClampNeg x = f') (kn : wr p l e R s m args below meth c nL D A Q nn kk (ws.set q0 (yI cs a N f')) (pc + 1) lv st) : wr p l e R s m args below meth c nL D A Q nn kk ws pc lv (.int x :: .int i :: .ref a :: st) := by
  subst hf
  obtain ⟨hx, hb, hml, hown, hts, hlk', hK, hA, hE, hR⟩ := C
  intro H locs ls hP hD hS hl
  exact va_iast (D := D) (tys := xTys cs) hx hb hK hP hD hS q0 0 he rfl hin hd (fun H1 locs1 hP1 hD1 hS1 => kn H1 locs1 ls hP1 hD1 hS1 hl)
theorem wr_aald (C : yC p R s m args meth c own cc nL D cs A) {a N b : Nat} (q0 : Nat) {L : List Nat} {i : Int32} (hd : decode cc pc = .ok (.aaload, 1)) (he : ws[q0]? = some (yQ (cs 2) a N L)) (hin : vp_in i N) (hv : L[i.toNatClampNeg]? = some b) (kn : wr p l e R s m args below meth c nL D A Q nn kk ws (pc + 1) lv (.ref b :: st)) : wr p l e R s m args below meth c nL D A Q nn kk ws pc lv (.int i :: .ref a :: st) := by
  obtain ⟨hx, hb, hml, hown, hts, hlk', hK, hA, hE, hR⟩ := C
  intro H locs ls hP hD hS hl
  have h2 := hP q0 _ he
  have h3 : H[a]? = some (arrV (cs 2) N (fun j => va_rf (L[j]?))) := h2
  have hlt : i.toNatClampNeg < N := Nat.not_le.mp fun q => hin (Or.inr q)
  exact W.aald (v := .ref b) (ty := .array .int) hx hb h3 ((hK.2 2 _ rfl).1 N _) rfl (fun q => by cases q) (by show ¬ (i < 0 ∨ (arrV _ _ _).slots.size ≤ _); rw [arrV_size]; exact hin) (by show (arrV _ _ _).slots[_]? = _; rw [arrV_read _ _ hlt, hv]; rfl) rfl rfl hd (kn H locs ls hP hD hS hl)
end YRW
