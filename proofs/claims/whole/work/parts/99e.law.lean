/-! the law: both worlds side by side, its rows -/
def shJ : xSh := [(0, 5, [5, 21, 23, 31, 39, 3, 47, 51]), (0, 4, [6, 7, 0, 20]), (3, 6, [4, 5, 6, 7, 8, 9]), (3, 6, [10, 11, 12, 13, 14, 15]), (1, 160, []), (1, 160, []), (1, 160, []), (1, 160, []), (1, 160, []), (1, 160, []), (1, 3, []), (1, 3, []), (1, 3, []), (1, 3, []), (1, 3, []), (1, 3, []), (1, 160, []), (0, 3, [22, 0, 0, 0, 0, 2, 0]), (1, 160, []), (0, 0, [5, 24, 0, 0, 0, 0, 0, 25, 26, 0, 27, 28, 29, 30, 0]), (1, 8, []), (1, 10, []), (1, 10, []), (1, 4, []), (1, 4, []), (1, 4, []), (1, 4, []), (0, 0, [5, 32, 0, 0, 0, 0, 0, 33, 34, 0, 35, 36, 37, 38, 0]), (1, 8, []), (1, 10, []), (1, 10, []), (1, 4, []), (1, 4, []), (1, 4, []), (1, 4, []), (0, 0, [5, 40, 0, 0, 0, 0, 0, 41, 42, 0, 43, 44, 45, 46, 0]), (1, 8, []), (1, 10, []), (1, 10, []), (1, 4, []), (1, 4, []), (1, 4, []), (1, 4, []), (0, 1, [48, 49, 50, 0, 0, 0, 0]), (1, 4, []), (1, 10, []), (1, 40, []), (4, 4, [48, 50, 52, 54]), (0, 2, [0, 0, 53]), (1, 40, []), (0, 2, [0, 0, 55]), (1, 40, []), (0, 2, [0, 0, 57]), (1, 40, []), (0, 2, [0, 0, 59]), (1, 40, []), (0, 6, [0, 61, 62, 0, 0, 63, 0, 0, 0, 0, 0, 64, 65, 66, 67, 0, 0, 0, 0, 0, 0, 0, 0, 0, 0, 0, 0, 1, 0, 3, 0, 68, 0, 0, 0, 69, 70, 71, 72, 73, 0, 0, 0, 0, 0, 0, 74, 75, 76, 77]), (1, 960, []), (1, 6, []), (1, 160, []), (1, 8, []), (1, 10, []), (1, 10, []), (1, 16, []), (1, 27, []), (1, 4, []), (1, 16, []), (1, 8, []), (1, 10, []), (1, 10, []), (2, 4, []), (1, 4, []), (1, 4, []), (1, 160, [])]
def esX : List Nat := [0, 1, 2, 3, 4, 5, 6, 7, 8, 9, 10, 11, 12, 13, 14, 15, 16, 17, 18, 19, 20, 21, 22, 23, 24, 25, 26, 27, 28, 29, 30, 31, 32, 33, 34, 35, 36, 37, 38, 39, 40, 41, 42, 43, 44, 45, 46, 47, 48, 49, 50, 51, 52, 53, 54, 55]
def esM : List Nat := [56, 57, 58, 59, 60, 61, 62, 63, 64, 65, 66, 67, 68, 69, 70, 71, 72, 73]
theorem shJ_X : xSub shJ esX shX = true := by decide +kernel
theorem shJ_M : xSub shJ esM shM = true := by decide +kernel
def rawC (k : Nat) : Bool := match shJ[k]? with
  | some (0, _, l) => !(l.contains 2) || (xIx esX k 0).isSome
  | _ => true
theorem rawC_all : (List.range 74).all rawC = true := by decide +kernel
theorem rawJ : xHasRaw shX = true → ∀ (k n : Nat) (l : List Nat), shJ[k]? = some (0, n, l) → 2 ∈ l → xIx esX k 0 ≠ none := by
  intro _ k n l hk h2 hN
  have hlt : k < 74 := (List.getElem?_eq_some_iff.mp hk).1
  have h1 := List.all_eq_true.mp rawC_all k (List.mem_range.mpr hlt)
  unfold rawC at h1
  rw [hk, hN] at h1
  simp [h2] at h1
def wl (p : Program) (l : Launch) (e : Env) (s : State) (m : MethodId) (args : Array Value) (below : List Frame) (meth : Method) (c : Code) (D : va_G) (cs : Nat → ClassId) (ad : Nat → Nat) (A : Nat → Prop) (Q : State → Prop) (nn kk : Nat) (z : xMem) (pc : Nat) (lv : xLv) (st : List Value) : Prop :=
  ∀ (H : Heap) (locs : List Loc) (ls : Array Slot), va_P D classes (xW ad cs z 0 shJ) H → va_S A s.heap H locs → lv_has ls 4 (xL ad lv) → W p l e room_1 s m args below meth c H locs nn kk Q (F0 m pc ls (st.map (xR ad)))
section LAW
variable {p : Program} {l : Launch} {e : Env} {s : State} {m : MethodId} {args : Array Value} {below : List Frame} {meth : Method} {c : Code} {D : va_G} {cs : Nat → ClassId} {ad : Nat → Nat} {A : Nat → Prop} {Q : State → Prop} {nn kk : Nat} {z : xMem} {pc : Nat} {lv : xLv} {st : List Value}
theorem wl_aload (C : xC p room_1 s m args meth c RL code 4 D cs ad shJ A) {i : Fin 4} {j k a : Nat} (hd : decode code pc = .ok (.aload_n i, 1)) (hi : (i : Nat) = j) (hv : lv[k]? = some (j, .ref a)) (kn : wl p l e s m args below meth c D cs ad A Q nn kk z (pc + 1) lv (.ref a :: st)) : wl p l e s m args below meth c D cs ad A Q nn kk z pc lv st := by
  obtain ⟨hx, hb, hml, hown, hts, hlk, hK, hi1, hi2, hA, hE, hR⟩ := C
  intro H locs ls hP hS hl
  exact lv_aload_n hx hb hd hi (lv_at hl k (i := j) (v := .ref (ad a)) (by unfold xL; rw [List.getElem?_map, hv]; rfl)) (kn H locs ls hP hS hl)
theorem wl_iload (C : xC p room_1 s m args meth c RL code 4 D cs ad shJ A) {i : Fin 4} {j k : Nat} {x : Int32} (hd : decode code pc = .ok (.iload_n i, 1)) (hi : (i : Nat) = j) (hv : lv[k]? = some (j, .int x)) (kn : wl p l e s m args below meth c D cs ad A Q nn kk z (pc + 1) lv (.int x :: st)) : wl p l e s m args below meth c D cs ad A Q nn kk z pc lv st := by
  obtain ⟨hx, hb, hml, hown, hts, hlk, hK, hi1, hi2, hA, hE, hR⟩ := C
  intro H locs ls hP hS hl
  exact lv_iload_n hx hb hd hi (lv_at hl k (i := j) (v := .int x) (by unfold xL; rw [List.getElem?_map, hv]; rfl)) (kn H locs ls hP hS hl)
theorem wl_iconst (C : xC p room_1 s m args meth c RL code 4 D cs ad shJ A) {n : Int} {v : Int32} (hd : decode code pc = .ok (.iconst n, 1)) (hv : Int32.ofInt n = v) (kn : wl p l e s m args below meth c D cs ad A Q nn kk z (pc + 1) lv (.int v :: st)) : wl p l e s m args below meth c D cs ad A Q nn kk z pc lv st := by
  obtain ⟨hx, hb, hml, hown, hts, hlk, hK, hi1, hi2, hA, hE, hR⟩ := C
  intro H locs ls hP hS hl
  exact lv_iconst hx hb hd hv (kn H locs ls hP hS hl)
theorem wl_bipush (C : xC p room_1 s m args meth c RL code 4 D cs ad shJ A) {n : Int} {v : Int32} (hd : decode code pc = .ok (.bipush n, 2)) (hv : (Int8.ofInt n).toInt32 = v) (kn : wl p l e s m args below meth c D cs ad A Q nn kk z (pc + 2) lv (.int v :: st)) : wl p l e s m args below meth c D cs ad A Q nn kk z pc lv st := by
  obtain ⟨hx, hb, hml, hown, hts, hlk, hK, hi1, hi2, hA, hE, hR⟩ := C
  intro H locs ls hP hS hl
  exact lv_bipush hx hb hd hv (kn H locs ls hP hS hl)
theorem wl_isub (C : xC p room_1 s m args meth c RL code 4 D cs ad shJ A) {x y : Int32} (hd : decode code pc = .ok (.isub, 1)) (kn : wl p l e s m args below meth c D cs ad A Q nn kk z (pc + 1) lv (.int (x - y) :: st)) : wl p l e s m args below meth c D cs ad A Q nn kk z pc lv (.int y :: .int x :: st) := by
  obtain ⟨hx, hb, hml, hown, hts, hlk, hK, hi1, hi2, hA, hE, hR⟩ := C
  intro H locs ls hP hS hl
  exact lv_isub hx hb hd (kn H locs ls hP hS hl)
theorem wl_iand (C : xC p room_1 s m args meth c RL code 4 D cs ad shJ A) {x y : Int32} (hd : decode code pc = .ok (.iand, 1)) (kn : wl p l e s m args below meth c D cs ad A Q nn kk z (pc + 1) lv (.int (x &&& y) :: st)) : wl p l e s m args below meth c D cs ad A Q nn kk z pc lv (.int y :: .int x :: st) := by
  obtain ⟨hx, hb, hml, hown, hts, hlk, hK, hi1, hi2, hA, hE, hR⟩ := C
  intro H locs ls hP hS hl
  exact lv_iand hx hb hd (kn H locs ls hP hS hl)
/-- one int of the script -/
theorem wl_arg (C : xC p room_1 s m args meth c RL code 4 D cs ad shJ A) {L : Nat} {xs : Nat → Int32} (hX : va_X (ad 5000) L xs s s.heap) (hbl : ad 5000 < s.heap.size) (hbA : ¬ A (ad 5000)) {i k : Nat} {kq : Nat} {n : Int} (d0 : decode code pc = .ok (.aload_n 0, 1)) (d1 : decode code (pc + 1) = .ok (.iload_n 3, 1)) (d2 : decode code (pc + 2) = .ok (.iconst n, 1)) (d3 : decode code (pc + 3) = .ok (.iadd, 1)) (d4 : decode code (pc + 4) = .ok (.iaload, 1)) (hn : Int32.ofInt n = nI k) (h0 : lv[kq]? = some (0, .ref 5000)) (h3 : lv[0]? = some (3, .int (nI i))) (hik : i + k < L) (hL : L ≤ 3072) (kn : wl p l e s m args below meth c D cs ad A Q nn kk z (pc + 5) lv (.int (xs (i + k)) :: st)) : wl p l e s m args below meth c D cs ad A Q nn kk z pc lv st := by
  refine wl_aload C (k := kq) d0 rfl h0 (wl_iload C (k := 0) d1 rfl h3 (wl_iconst C d2 hn ?_))
  obtain ⟨hx, hb, hml, hown, hts, hlk, hK, hi1, hi2, hA, hE, hR⟩ := C
  intro H locs ls hP hS hl
  refine lv_iadd hx hb d3 ?_
  rw [show nI i + nI k = nI (i + k) from nI_add i k]
  refine va_sld hx hb hX hbl hbA hS (vp_in_nI hik (by omega)) d4 ?_
  rw [nI_clamp (by omega)]
  exact kn H locs ls hP hS hl
theorem wl_head (C : xC p room_1 s m args meth c RL code 4 D cs ad shJ A) {L : Nat} {xs : Nat → Int32} (hX : va_X (ad 5000) L xs s s.heap) (hbl : ad 5000 < s.heap.size) (hbA : ¬ A (ad 5000)) {i : Nat} {kq : Nat} (d0 : decode code pc = .ok (.aload_n 0, 1)) (d1 : decode code (pc + 1) = .ok (.iload_n 3, 1)) (d2 : decode code (pc + 2) = .ok (.iaload, 1)) (h0 : lv[kq]? = some (0, .ref 5000)) (h3 : lv[0]? = some (3, .int (nI i))) (hik : i < L) (hL : L ≤ 3072) (kn : wl p l e s m args below meth c D cs ad A Q nn kk z (pc + 3) lv (.int (xs i) :: st)) : wl p l e s m args below meth c D cs ad A Q nn kk z pc lv st := by
  refine wl_aload C (k := kq) d0 rfl h0 (wl_iload C (k := 0) d1 rfl h3 ?_)
  obtain ⟨hx, hb, hml, hown, hts, hlk, hK, hi1, hi2, hA, hE, hR⟩ := C
  intro H locs ls hP hS hl
  refine va_sld hx hb hX hbl hbA hS (vp_in_nI hik (by omega)) d2 ?_
  rw [nI_clamp (by omega)]
  exact kn H locs ls hP hS hl
theorem wl_len (C : xC p room_1 s m args meth c RL code 4 D cs ad shJ A) {L : Nat} {xs : Nat → Int32} (hX : va_X (ad 5000) L xs s s.heap) (hbl : ad 5000 < s.heap.size) (hbA : ¬ A (ad 5000)) (hd : decode code pc = .ok (.arraylength, 1)) (kn : wl p l e s m args below meth c D cs ad A Q nn kk z (pc + 1) lv (.int (nI L) :: st)) : wl p l e s m args below meth c D cs ad A Q nn kk z pc lv (.ref 5000 :: st) := by
  obtain ⟨hx, hb, hml, hown, hts, hlk, hK, hi1, hi2, hA, hE, hR⟩ := C
  intro H locs ls hP hS hl
  exact va_slen hx hb hX hbl hbA hS hd (kn H locs ls hP hS hl)
theorem wl_icgt (C : xC p room_1 s m args meth c RL code 4 D cs ad shJ A) {x y : Int32} {off : Int} (t : Nat) (hd : decode code pc = .ok (.if_icmp .gt off, 3)) (ht : (pc : Int) + off = (t : Int)) (k1 : y < x → wl p l e s m args below meth c D cs ad A Q nn kk z t lv st) (k2 : ¬ y < x → wl p l e s m args below meth c D cs ad A Q nn kk z (pc + 3) lv st) : wl p l e s m args below meth c D cs ad A Q nn kk z pc lv (.int y :: .int x :: st) := by
  obtain ⟨hx, hb, hml, hown, hts, hlk, hK, hi1, hi2, hA, hE, hR⟩ := C
  intro H locs ls hP hS hl
  exact lv_icmp_gt hx hb hd ht (fun q => k1 q H locs ls hP hS hl) (fun q => k2 q H locs ls hP hS hl)
theorem wl_iceq (C : xC p room_1 s m args meth c RL code 4 D cs ad shJ A) {x : Int32} {off : Int} (t : Nat) (hd : decode code pc = .ok (.if_icmp .eq off, 3)) (ht : (pc : Int) + off = (t : Int)) (k1 : wl p l e s m args below meth c D cs ad A Q nn kk z t lv st) : wl p l e s m args below meth c D cs ad A Q nn kk z pc lv (.int x :: .int x :: st) := by
  obtain ⟨hx, hb, hml, hown, hts, hlk, hK, hi1, hi2, hA, hE, hR⟩ := C
  intro H locs ls hP hS hl
  exact lv_icmp_eq hx hb hd ht (fun q => k1 H locs ls hP hS hl) (fun q => absurd rfl q)
theorem wl_lceq (C : xC p room_1 s m args meth c RL code 4 D cs ad shJ A) {x : Int64} {off : Int} (t : Nat) (hd : decode code pc = .ok (.lcmp, 1)) (hd2 : decode code (pc + 1) = .ok (.ifCond .eq off, 3)) (ht : ((pc + 1 : Nat) : Int) + off = (t : Int)) (k1 : wl p l e s m args below meth c D cs ad A Q nn kk z t lv st) : wl p l e s m args below meth c D cs ad A Q nn kk z pc lv (.long x :: .long x :: st) := by
  obtain ⟨hx, hb, hml, hown, hts, hlk, hK, hi1, hi2, hA, hE, hR⟩ := C
  intro H locs ls hP hS hl
  refine W.lcmp hx hb hd ?_
  have h0 : lg_cmp x x = 0 := by simp [lg_cmp]
  rw [h0]
  exact lv_if_eq hx hb hd2 ht (fun q => k1 H locs ls hP hS hl) (fun q => absurd rfl q)
theorem wl_inc (C : xC p room_1 s m args meth c RL code 4 D cs ad shJ A) {i : Nat} {lv' : xLv} (hd : decode code pc = .ok (.iinc 3 6, 3)) (h3 : lv[0]? = some (3, .int (nI i))) (hl' : (3, Value.int (nI (i + 6))) :: lv.filter (fun q => !(q.1 == 3) && !(q.1 + 1 == 3 && q.2.category == 2)) = lv') (kn : wl p l e s m args below meth c D cs ad A Q nn kk z (pc + 3) lv' st) : wl p l e s m args below meth c D cs ad A Q nn kk z pc lv st := by
  obtain ⟨hx, hb, hml, hown, hts, hlk, hK, hi1, hi2, hA, hE, hR⟩ := C
  intro H locs ls hP hS hl
  refine lv_iinc (k := 0) hx hb hd hl (by unfold xL; rw [List.getElem?_map, h3]; rfl) (v := nI (i + 6)) (nI_add i 6) (by decide) (xL_st1 ad lv 3 (.int (nI (i + 6)))) (fun ls' h' => kn H locs ls' hP hS ?_)
  rw [← hl']
  exact h'
theorem wl_goto (C : xC p room_1 s m args meth c RL code 4 D cs ad shJ A) {off : Int} (t : Nat) (hd : decode code pc = .ok (.goto off, 3)) (ht : (pc : Int) + off = (t : Int)) (kn : wl p l e s m args below meth c D cs ad A Q nn kk z t lv st) : wl p l e s m args below meth c D cs ad A Q nn kk z pc lv st := by
  obtain ⟨hx, hb, hml, hown, hts, hlk, hK, hi1, hi2, hA, hE, hR⟩ := C
  intro H locs ls hP hS hl
  exact lv_goto hx hb hd ht (kn H locs ls hP hS hl)
/-- a call out of the law -/
theorem wl_call (C : xC p room_1 s m args meth c RL code 4 D cs ad shJ A) {shc : xSh} {es : List Nat} {dc ix n maxLy q0 ci N : Nat} {T : u_T} {fs : List Nat} {y : MethodName} {cy : ByteArray} {rety : Option FieldType} {as rest : List Value} {post : Option Value → xMem → Prop}
    (hM : XM l dc y cy maxLy rety shc (.ref 0 :: as) (xPull es z) post) (hdc : dc ≤ 1000) (hm : maxLy ≤ 20) (hy : xY y cy maxLy rety n) (hyi : Cond.instanceMethod y ∈ lw_gt ∧ Cond.selects y.cls y y ∈ lw_gt) (hlk : Cond.methodLink RL ix y ∈ lw_gt) (hs : xSub shJ es shc = true) (hlen : shc.length ≤ 1000) (hraw : xHasRaw shc = true → ∀ (k n : Nat) (l : List Nat), shJ[k]? = some (0, n, l) → 2 ∈ l → xIx es k 0 ≠ none) (hq0 : xEs es 0 = q0) (hcell : shJ[q0]? = some (0, ci, fs)) (hcls : classes[ci]? = some (y.cls, T, N)) (hn : as.length = n) (hst : st = (as.map (xR (xEs es))).reverse ++ .ref q0 :: rest) (hrest : (rest.map Value.category).sum ≤ 8) (hro : nn ≤ 600000 ∧ kk ≤ 7302250) (hdg : decode code pc = .ok (.invokevirtual ix, 3))
    (kn : ∀ (r : Option Value) (z' : xMem), post r z' → wl p l e s m args below meth c D cs ad A Q nn kk (xBack es (xHasRaw shc) z z') (pc + 3) lv ((r.map (xR (xEs es))).toList ++ rest)) : wl p l e s m args below meth c D cs ad A Q nn kk z pc lv st := by
  have C0 := C
  obtain ⟨hx, hb, hml, hown, hts, hlocks, hCK, hi1, hi2, hA, hE, hR⟩ := C0
  intro H locs ls hP hS hl
  have hpre := xCall_pre C (as := .ref 0 :: as) hs hlen hP hS
  have hMe := hM D cs (fun q => ad (xEs es q)) H.size
  have hrec := va_recv hCK hP (ci := ci) (q0 := q0) hcls (xW_at hcell)
  have hpv : PreV s H y.cls (ad q0) (xPc D cs (fun q => ad (xEs es q)) shc H.size (.ref 0 :: as) (xPull es z)) (as.map (xR (fun q => ad (xEs es q)))) := by
    refine ⟨xPc_blind, hrec, fun U hU hW => ?_⟩
    have h9 := hpre U hU hW
    simp only [List.map_cons, xR, hq0] at h9
    exact h9
  have hfull : (st.map (xR ad)) = (as.map (xR (fun q => ad (xEs es q)))).reverse ++ .ref (ad q0) :: rest.map (xR ad) := by
    rw [hst]
    have e9 : as.map (xR ad ∘ xR (xEs es)) = as.map (xR (fun q => ad (xEs es q))) := List.map_congr_left (fun v _ => xR_xR ad es v)
    rw [List.map_append, List.map_reverse, List.map_map, List.map_cons, e9]
    rfl
  have hfit : (xRm dc).frames + 1 ≤ room_1.frames ∧ 8 + (maxLy + 11) + (xRm dc).locals ≤ room_1.locals := ⟨by show dc + 1 + 1 ≤ 2048; omega, by show 8 + (maxLy + 11) + (40 * dc + 40) ≤ 84000; omega⟩
  have hAi := xA_in C hs hS
  intro T9 hT X
  have hrun : va_Run p l e room_1 s m args below meth c H locs nn kk 0 0 (F0 m pc ls (st.map (xR ad))) (rest.map (xR ad)) (xQc D cs (fun q => ad (xEs es q)) shc (xA (fun q => ad (xEs es q)) shc.length H.size) post (Value.ref (ad q0) :: as.map (xR (fun q => ad (xEs es q)))).toArray) (xA (fun q => ad (xEs es q)) shc.length H.size) :=
    va_runV (C := y.cls) (n := n) ⟨hx, hb, hml, hown, hts⟩ hMe ⟨callB_of n hts (lw_in hy.1) rfl rfl rfl (hts _ hy.2.1) (hts _ hlk) hy.2.2 hfit, hts _ hyi.1, hts _ hyi.2⟩ hpv rfl (by rw [List.length_map]; exact hn) hl.1 hfull (lv_room (by rw [xR_sum]; exact hrest)) hdg hro
  obtain ⟨v, st₀, t, T', L9, h0, X', hL9, e1, e2, ⟨⟨r, z', hv, hp, hP1⟩, hz, hk⟩, stp⟩ := hrun T9 hT X
  rw [h0] at hz hk
  have hPn := xSub_back (z' := z') (H1 := T'.heap) hs hraw hi1 hP rfl (fun q h1 h2 => by rw [e1]; exact hk q h1 h2) (by rw [e1]; exact hP1)
  have hSn : va_S A s.heap T'.heap (locs ++ L9) := ⟨Nat.le_trans hS.1 (by rw [e1]; exact hz), fun q h1 h2 => by rw [e1, hk q (Nat.lt_of_lt_of_le h1 hS.1) (fun zz => h2 (hAi q zz))]; exact hS.2.1 q h1 h2, fun q hq => by
      rcases List.mem_append.mp hq with h | h
      · exact hS.2.2 q h
      · exact hAi _ (hL9 q h)⟩
  obtain ⟨t2, a1, b1⟩ := kn r z' hp T'.heap (locs ++ L9) ls hPn hSn hl T' rfl X'
  refine ⟨t2, stp t2 ?_, b1⟩
  have hv2 : v = r.map (xR (fun q => ad (xEs es q))) := by
    cases hv
    rfl
  rw [hv2]
  cases r with
  | none => exact a1
  | some w =>
    have ew : xR ad (xR (xEs es) w) = xR (fun q => ad (xEs es q)) w := xR_xR ad es w
    simp only [Option.map_some, Option.toList_some, List.map_cons, List.cons_append, List.nil_append, ew] at a1 ⊢
    exact a1
/-- what is behind a call of the class, and one of the reference, in the whole -/
theorem xIx_X : ∀ q, q < 56 → xIx esX q 0 = some q := by decide
theorem xIx_XM : ∀ q, q < 18 → xIx esX (56 + q) 0 = none := by decide
theorem xIx_M : ∀ q, q < 18 → xIx esM (56 + q) 0 = some q := by decide
theorem xIx_MX : ∀ q, q < 56 → xIx esM q 0 = none := by decide
theorem esX_at : ∀ q, q < 56 → xEs esX q = q := by decide
theorem esM_at : ∀ q, q < 18 → xEs esM q = 56 + q := by decide
theorem jX_M {rw : Bool} {z z' : xMem} : ∀ q, q < 18 → (xPull esM (xBack esX rw z z')).1 q = (xPull esM z).1 q := fun q hq => by
  show (xBack esX rw z z').1 (xEs esM q) = z.1 (xEs esM q)
  rw [esM_at q hq]
  simp [xBack, xIx_XM q hq]
theorem jN_back {r1 r2 : Bool} {z zX' zM' : xMem} (h : JN zX' zM') : JN (xPull esX (xBack esM r1 (xBack esX r2 z zX') zM')) (xPull esM (xBack esM r1 (xBack esX r2 z zX') zM')) := by
  refine JN_ag h (fun q hq => ?_) (fun q hq => ?_)
  · show (xBack esM r1 (xBack esX r2 z zX') zM').1 (xEs esX q) = zX'.1 q
    rw [esX_at q hq]
    simp [xBack, xIx_MX q hq, xIx_X q hq]
  · show (xBack esM r1 (xBack esX r2 z zX') zM').1 (xEs esM q) = zM'.1 q
    rw [esM_at q hq]
    simp [xBack, xIx_M q hq]
end LAW
