/-! the walk over an abstract frame, and what is given all along -/
def xStr : List String := ["harm", "laws", "number", "year", "served", "alive", "dares", "harms", "sits", "or", "and", "not"]
def xStrL : List Nat := [4, 4, 6, 4, 6, 5, 5, 5, 4, 2, 3, 3]
def xStrB : List (List Int32) := [[104, 97, 114, 109], [108, 97, 119, 115], [110, 117, 109, 98, 101, 114], [121, 101, 97, 114], [115, 101, 114, 118, 101, 100], [97, 108, 105, 118, 101], [100, 97, 114, 101, 115], [104, 97, 114, 109, 115], [115, 105, 116, 115], [111, 114], [97, 110, 100], [110, 111, 116]]
def xTabNm (k : Nat) : String := ["LOWEST", "HIGHEST", "PARENT", "MOST_TOLD"].getD k ""
def xNw : Cond → Bool
  | .fieldLinkNest .. => true
  | .methodLinkNest .. => true
  | _ => false
theorem xNw_warm {w : Cond} {s U : State} (hW : s.WarmedH U.vm) (hw : xNw w = true) (h : va_Nw w s) : va_Nw w U := by
  cases w <;> first | (cases hw; done) | exact va_Nw.warmF hW h | exact va_Nw.warmM hW h
theorem xNw_same {w : Cond} {s U : State} (hv : s.vm = U.vm) (hw : xNw w = true) (h : va_Nw w s) : va_Nw w U := by
  refine va_Nw.same ?_ hv h
  cases w <;> first | (cases hw; done) | rfl
/-- what lies outside every world and stays: the static tables, the String constants -/
def xEnv (ad : Nat → Nat) (A : Nat → Prop) (U : State) (H : Heap) : Prop :=
  (∀ k : Nat, k < 4 → va_Z "LawsLapse" (xTabNm k) "[I" (.ref (ad (1000 + k))) A U H ∧ va_T .int (ad (1000 + k)) (xTabN k) (fun j => .int (xTab k j)) A U H) ∧
  vk_S 12 xStrL xStrB (fun i => ad (2000 + i)) (fun i => ad (3000 + i)) A U H ∧
  (∀ (i ix : Nat), i < 12 → Cond.stringRef RX3 ix (xStr.getD i "") ∈ lw_tbl → vk_R RX3 ix (xStr.getD i "") (ad (2000 + i)) U) ∧
  va_Z "java/lang/String" "COMPACT_STRINGS" "Z" (.int 1) A U H ∧ (∀ w ∈ lw_tbl, xNw w = true → va_Nw w U) ∧
  (va_Z "jdk/internal/util/Preconditions" "SIOOBE_FORMATTER" "Ljava/util/function/BiFunction;" .null A U H ∨ va_Z "jdk/internal/util/Preconditions" "SIOOBE_FORMATTER" "Ljava/util/function/BiFunction;" (.ref (ad 4000)) A U H)
theorem xEnv.warm {ad : Nat → Nat} {A : Nat → Prop} {s U : State} {H : Heap} (hW : s.WarmedH U.vm) (h : xEnv ad A s H) : xEnv ad A U H :=
  ⟨fun k hk => ⟨(h.1 k hk).1.moved hW.alike, (h.1 k hk).2.moved hW.alike⟩, h.2.1.moved hW.alike, fun i ix hi hm => (h.2.2.1 i ix hi hm).warm hW, h.2.2.2.1.moved hW.alike, fun w hw hn => xNw_warm hW hn (h.2.2.2.2.1 w hw hn), h.2.2.2.2.2.imp (fun q => q.moved hW.alike) (fun q => q.moved hW.alike)⟩
theorem xEnv.kept {ad : Nat → Nat} {A : Nat → Prop} {U : State} {H H1 : Heap} (h : xEnv ad A U H) (hq : ∀ a : Nat, a < H.size → ¬ A a → H1[a]? = H[a]?) : xEnv ad A U H1 :=
  ⟨fun k hk => ⟨(h.1 k hk).1.kept hq, (h.1 k hk).2.kept hq⟩, h.2.1.kept hq, h.2.2.1, h.2.2.2.1.kept hq, h.2.2.2.2.1, h.2.2.2.2.2.imp (fun q => q.kept hq) (fun q => q.kept hq)⟩
theorem xEnv.narrow {ad : Nat → Nat} {A B : Nat → Prop} {U : State} {H : Heap} (h : xEnv ad A U H) (hAB : ∀ q, B q → A q) : xEnv ad B U H :=
  ⟨fun k hk => ⟨(h.1 k hk).1.narrow hAB, (h.1 k hk).2.narrow hAB⟩, h.2.1.narrow hAB, h.2.2.1, h.2.2.2.1.narrow hAB, h.2.2.2.2.1, h.2.2.2.2.2.imp (fun q => q.narrow hAB) (fun q => q.narrow hAB)⟩
theorem xEnv.ad {ad ad' : Nat → Nat} {A : Nat → Prop} {U : State} {H : Heap} (h : xEnv ad A U H) (e : ∀ q, 1000 ≤ q → ad' q = ad q) : xEnv ad' A U H := by
  refine ⟨fun k hk => ?_, ?_, fun i ix hi hm => ?_, h.2.2.2.1, h.2.2.2.2.1, ?_⟩
  · rw [e _ (by omega)]; exact h.1 k hk
  · have e2 : (fun i => ad' (2000 + i)) = fun i => ad (2000 + i) := funext fun i => e _ (by omega)
    have e3 : (fun i => ad' (3000 + i)) = fun i => ad (3000 + i) := funext fun i => e _ (by omega)
    rw [e2, e3]; exact h.2.1
  · rw [e _ (by omega)]; exact h.2.2.1 i ix hi hm
  · rw [e _ (by omega)]; exact h.2.2.2.2.2
theorem xEnv.blind {ad : Nat → Nat} {A : Nat → Prop} {U : State} {H : Heap} {g : JFrame} {mk : MethodId} {a : Array Value} (h : xEnv ad A U H) : xEnv ad A (U.calling g mk a) H :=
  ⟨fun k hk => ⟨(h.1 k hk).1.moved (Vm.Alike.refl U.vm), (h.1 k hk).2.moved (Vm.Alike.refl U.vm)⟩, h.2.1.moved (Vm.Alike.refl U.vm), fun i ix hi hm => (h.2.2.1 i ix hi hm).same rfl, h.2.2.2.1.moved (Vm.Alike.refl U.vm), fun w hw hn => xNw_same (s := U) (U := U.calling g mk a) rfl hn (h.2.2.2.2.1 w hw hn), h.2.2.2.2.2.imp (fun q => q.moved (Vm.Alike.refl U.vm)) (fun q => q.moved (Vm.Alike.refl U.vm))⟩
def xL (ad : Nat → Nat) (lv : xLv) : xLv := lv.map (fun q => (q.1, xR ad q.2))
theorem xR_cat (ad : Nat → Nat) (v : Value) : (xR ad v).category = v.category := by cases v <;> rfl
theorem xL_st1 (ad : Nat → Nat) (lv : xLv) (i : Nat) (v : Value) : (i, xR ad v) :: (xL ad lv).filter (fun q => !(q.1 == i) && !(q.1 + 1 == i && q.2.category == 2)) = xL ad (xSt1 lv i v) := by
  unfold xL xSt1
  rw [List.map_cons, List.filter_map]
  congr 2
  apply List.filter_congr
  intro q _
  simp only [Function.comp, xR_cat]
theorem xL_st2 (ad : Nat → Nat) (lv : xLv) (i : Nat) (v : Value) : (i, xR ad v) :: (xL ad lv).filter (fun q => !(q.1 == i) && (!(q.1 == i + 1) && !(q.1 + 1 == i && q.2.category == 2))) = xL ad (xSt2 lv i v) := by
  unfold xL xSt2
  rw [List.map_cons, List.filter_map]
  congr 2
  apply List.filter_congr
  intro q _
  simp only [Function.comp, xR_cat]
theorem xLd_of {ad : Nat → Nat} {lv : xLv} {i : Nat} {v : Value} {ls : Array Slot} {nL : Nat} (h : xLd lv i = some v) (hl : lv_has ls nL (xL ad lv)) : ls[i]? = some (.val (xR ad v)) := by
  unfold xLd at h
  cases hf : lv.find? (fun q => q.1 == i) with
  | none => rw [hf] at h; cases h
  | some q =>
    rw [hf] at h
    cases h
    have h1 := List.find?_some hf
    have h2 := List.mem_of_find?_eq_some hf
    have h3 : q.1 = i := by simpa using h1
    have := hl.2.2 (q.1, xR ad q.2) (List.mem_map.mpr ⟨q, h2, rfl⟩)
    rw [h3] at this
    exact this
theorem xLd_k {ad : Nat → Nat} {lv : xLv} {i : Nat} {v : Value} (h : xLd lv i = some v) : ∃ k : Nat, (xL ad lv)[k]? = some (i, xR ad v) := by
  unfold xLd at h
  cases hf : lv.find? (fun q => q.1 == i) with
  | none => rw [hf] at h; cases h
  | some q =>
    rw [hf] at h
    cases h
    have h1 := List.find?_some hf
    have h3 : q.1 = i := by simpa using h1
    obtain ⟨k, hk⟩ := List.getElem?_of_mem (List.mem_map.mpr ⟨q, List.mem_of_find?_eq_some hf, rfl⟩ : (q.1, xR ad q.2) ∈ xL ad lv)
    rw [h3] at hk
    exact ⟨k, hk⟩
/-- what is given all along a walk: the machine, the method's code, the tables' words, the world's classes and places -/
def xC (p : Program) (R : Room) (s : State) (m : MethodId) (args : Array Value) (meth : Method) (c : Code) (own : String) (cc : ByteArray) (nL : Nat) (D : va_G) (cs : Nat → ClassId) (ad : Nat → Nat) (sh : xSh) (A : Nat → Prop) : Prop :=
  p.tables.exec = Jvm.exec ∧ c.code = cc ∧ c.maxLocals = nL ∧ s.vm.findClass own = some m.cls ∧ (∀ w ∈ lw_gt, w.before args s = true) ∧ meth.locks = false ∧ va_K D classes (xTys cs) s ∧ (∀ i j : Nat, i < sh.length → j < sh.length → ad i = ad j → i = j) ∧ (∀ i : Nat, i < sh.length → A (ad i)) ∧ (∀ q : Nat, s.heap.size ≤ q → A q) ∧ xEnv ad A s s.heap ∧ (1 ≤ R.frames ∧ 40 ≤ R.locals)
def ww (p : Program) (l : Launch) (e : Env) (R : Room) (s : State) (m : MethodId) (args : Array Value) (below : List Frame) (meth : Method) (c : Code) (nL : Nat) (D : va_G) (cs : Nat → ClassId) (ad : Nat → Nat) (sh : xSh) (A : Nat → Prop) (Q : State → Prop) (pc : Nat) (lv : xLv) (st : List Value) (z : xMem) : Prop :=
  ∀ (H : Heap) (locs : List Loc) (ls : Array Slot), va_P D classes (xW ad cs z 0 sh) H → va_S A s.heap H locs → lv_has ls nL (xL ad lv) → W p l e R s m args below meth c H locs 0 0 Q (F0 m pc ls (st.map (xR ad)))
theorem xW_D {A : Nat → Prop} {ad : Nat → Nat} {cs : Nat → ClassId} {sh : xSh} {z : xMem} (h1 : ∀ i j : Nat, i < sh.length → j < sh.length → ad i = ad j → i = j) (h2 : ∀ i : Nat, i < sh.length → A (ad i)) : va_D A (xW ad cs z 0 sh) := by
  have key : ∀ (k : Nat) (q : Nat × va_E), (xW ad cs z 0 sh)[k]? = some q → k < sh.length ∧ q.1 = ad k := by
    intro k q hk
    rw [xW_get] at hk
    cases hs : sh[k]? with
    | none => rw [hs] at hk; cases hk
    | some x =>
      rw [hs] at hk
      cases hk
      exact ⟨(List.getElem?_eq_some_iff.mp hs).1, by simp⟩
  refine ⟨fun i j p q hi hj hpq => ?_, fun k q hk => ?_⟩
  · obtain ⟨a1, a2⟩ := key i p hi
    obtain ⟨b1, b2⟩ := key j q hj
    exact h1 i j a1 b1 (by rw [← a2, ← b2]; exact hpq)
  · obtain ⟨a1, a2⟩ := key k q hk
    rw [a2]
    exact h2 k a1
