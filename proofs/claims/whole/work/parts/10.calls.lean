/-! places of a callee's world in the caller's; contracts; calls, branches, ends -/
def xEs (es : List Nat) (q : Nat) : Nat := if q < es.length then es.getD q 0 else q
def xIx : List Nat → Nat → Nat → Option Nat
  | [], _, _ => none
  | b :: l, a, k => if a = b then some k else xIx l a (k + 1)
def xPull (es : List Nat) (z : xMem) : xMem := (fun q => z.1 (xEs es q), fun q => z.2.1 (xEs es q), z.2.2)
def xBack (es : List Nat) (rw : Bool) (z z' : xMem) : xMem := (fun a => match xIx es a 0 with | some i => z'.1 i | none => z.1 a, fun a => match xIx es a 0 with | some i => z'.2.1 i | none => z.2.1 a, if rw then z'.2.2 else z.2.2)
/-- a field's code, a row's places, told in the caller's places -/
def xEc (es : List Nat) : Nat → Nat
  | 0 => 0
  | 1 => 1
  | 2 => 2
  | 3 => 3
  | c + 4 => xEs es c + 4
def xEx (es : List Nat) (x : Nat × Nat × List Nat) : Nat × Nat × List Nat := match x with
  | (0, n, l) => (0, n, l.map (xEc es))
  | (1, n, l) => (1, n, l)
  | (2, n, l) => (2, n, l)
  | (t, n, l) => (t, n, l.map (xEs es))
def xHasRaw (sh : xSh) : Bool := sh.any (fun x => x.1 == 0 && x.2.2.contains 2)
def xNd : List Nat → Bool
  | [] => true
  | a :: l => !l.contains a && xNd l
/-- the callee's shape is what the caller's shape tells at these places -/
def xSub (sh : xSh) (es : List Nat) (shc : xSh) : Bool := decide (es.length = shc.length) && xNd es && decide (es.map (fun q => sh[q]?) = shc.map (fun x => some (xEx es x)))
def xA (ad : Nat → Nat) (n : Nat) (sz : Nat) : Nat → Prop := fun q => (∃ i : Nat, i < n ∧ q = ad i) ∨ sz ≤ q
def xRm (d : Nat) : Room := { frames := d + 1, cells := 0, slots := 0, locals := 40 * d + 40 }
def xWs (y : MethodName) (cc : ByteArray) (maxL : Nat) (ret : Option FieldType) : List Cond := .code y cc maxL ret :: lw_gt
def xPc (D : va_G) (cs : Nat → ClassId) (ad : Nat → Nat) (sh : xSh) (sz : Nat) (as : List Value) (z : xMem) : Array Value → State → Prop :=
  va_Pc (as.map (xR ad)) (fun U => U.heap.size = sz ∧ va_P D classes (xW ad cs z 0 sh) U.heap ∧ va_K D classes (xTys cs) U ∧ (∀ i j : Nat, i < sh.length → j < sh.length → ad i = ad j → i = j) ∧ xEnv ad (xA ad sh.length sz) U U.heap)
def xQc (D : va_G) (cs : Nat → ClassId) (ad : Nat → Nat) (sh : xSh) (A : Nat → Prop) (post : Option Value → xMem → Prop) : Array Value → State → Outcome → State → Prop := fun _ st oc t =>
  (∃ (r : Option Value) (z' : xMem), oc = .returned (r.map (xR ad)) ∧ post r z' ∧ va_P D classes (xW ad cs z' 0 sh) t.heap) ∧ va_F A st t
/-- a contract: with these arguments and this memory the method comes to an end that 'post' tells -/
def XM (l : Launch) (d : Nat) (y : MethodName) (cc : ByteArray) (maxL : Nat) (ret : Option FieldType) (sh : xSh) (as : List Value) (z : xMem) (post : Option Value → xMem → Prop) : Prop :=
  ∀ (D : va_G) (cs : Nat → ClassId) (ad : Nat → Nat) (sz : Nat), Met l y (xWs y cc maxL ret) (xRm d) (xPc D cs ad sh sz as z) (xQc D cs ad sh (xA ad sh.length sz) post) 0 0 (xA ad sh.length sz)
theorem lw_in {y : MethodName} {cc : ByteArray} {maxL : Nat} {ret : Option FieldType} (h : Cond.code y cc maxL ret ∈ lw_gt) : GoodIn lw_gt (xWs y cc maxL ret) := by
  intro w hw
  have hm : w ∈ lw_gt := by
    rcases List.mem_cons.mp hw with rfl | h2
    · exact h
    · exact h2
  exact ⟨hm, good_of_word (List.mem_filter.mp hm).2⟩
theorem xNd_ix : ∀ (es : List Nat) (i k a : Nat), xNd es = true → es[i]? = some a → xIx es a k = some (k + i)
  | [], i, k, a, _, h => by simp at h
  | b :: l, 0, k, a, hn, h => by
    simp at h
    simp [xIx, h]
  | b :: l, i + 1, k, a, hn, h => by
    simp only [List.getElem?_cons_succ] at h
    simp only [xNd, Bool.and_eq_true, Bool.not_eq_true', List.contains_eq_mem, decide_eq_false_iff_not] at hn
    have hne : ¬ a = b := fun q => hn.1 (q ▸ List.mem_of_getElem? h)
    simp only [xIx, if_neg hne]
    rw [xNd_ix l i (k + 1) a hn.2 h]
    congr 1
    omega
theorem xIx_some : ∀ (es : List Nat) (i k a : Nat), xIx es a k = some i → k ≤ i ∧ es[i - k]? = some a
  | [], i, k, a, h => by cases h
  | b :: l, i, k, a, h => by
    simp only [xIx] at h
    split at h
    · rename_i hab
      cases h
      simp [hab]
    · obtain ⟨h1, h2⟩ := xIx_some l i (k + 1) a h
      refine ⟨by omega, ?_⟩
      rw [show i - k = (i - (k + 1)) + 1 by omega]
      simpa using h2
theorem xEs_at {es : List Nat} {q a : Nat} (h : es[q]? = some a) : xEs es q = a := by
  unfold xEs
  rw [if_pos (List.getElem?_eq_some_iff.mp h).1]
  simp [List.getD, h]
theorem xR_xR (ad : Nat → Nat) (es : List Nat) (v : Value) : xR ad (xR (xEs es) v) = xR (fun q => ad (xEs es q)) v := by cases v <;> rfl
theorem xV_es (ad : Nat → Nat) (es : List Nat) (z zc : xMem) (q a j : Nat) (c : Nat) (h1 : zc.1 q = z.1 a) (h2 : zc.2.1 q = z.2.1 a) (h3 : c = 2 → zc.2.2 = z.2.2) : xV (fun q => ad (xEs es q)) zc q j c = xV ad z a j (xEc es c) := by
  match c with
  | 0 => simp [xV, xEc, h1]
  | 1 => simp [xV, xEc, h2]
  | 2 => simp [xV, xEc, h3]
  | 3 => simp [xV, xEc, h1]
  | c + 4 => rfl
theorem xFs_es (ad : Nat → Nat) (es : List Nat) (z zc : xMem) (q a : Nat) (h1 : zc.1 q = z.1 a) (h2 : zc.2.1 q = z.2.1 a) : ∀ (l : List Nat) (j : Nat), (2 ∈ l → zc.2.2 = z.2.2) → xFs (xV (fun q => ad (xEs es q)) zc q) j l = xFs (xV ad z a) j (l.map (xEc es))
  | [], j, _ => rfl
  | c :: l, j, h3 => by
    simp only [xFs, List.map_cons]
    rw [xV_es ad es z zc q a j c h1 h2 (fun e => h3 (e ▸ List.mem_cons_self)), xFs_es ad es z zc q a h1 h2 l (j + 1) (fun e => h3 (List.mem_cons_of_mem _ e))]
theorem xCell_es (ad : Nat → Nat) (cs : Nat → ClassId) (es : List Nat) (z zc : xMem) (q a : Nat) (x : Nat × Nat × List Nat) (h1 : zc.1 q = z.1 a) (h2 : zc.2.1 q = z.2.1 a) (h3 : (x.1 = 0 ∧ 2 ∈ x.2.2) → zc.2.2 = z.2.2) : xCell (fun q => ad (xEs es q)) cs zc q x = xCell ad cs z a (xEx es x) := by
  obtain ⟨t, n, l⟩ := x
  match t with
  | 0 =>
    simp only [xCell, xEx]
    rw [xFs_es ad es z zc q a h1 h2 l 0 (fun e => h3 ⟨rfl, e⟩)]
  | 1 => simp only [xCell, xEx, h1]
  | 2 => simp only [xCell, xEx, h1]
  | 3 =>
    simp only [xCell, xEx]
    have e : (fun j : Nat => Option.map (fun q => ad (xEs es q)) l[j]?) = fun j : Nat => Option.map ad (List.map (xEs es) l)[j]? := by
      funext j
      simp [Function.comp_def]
    rw [e]
  | t + 4 =>
    simp only [xCell, xEx]
    have e : (fun j : Nat => Option.map (fun q => ad (xEs es q)) l[j]?) = fun j : Nat => Option.map ad (List.map (xEs es) l)[j]? := by
      funext j
      simp [Function.comp_def]
    rw [e]
theorem xRaw_of {sh : xSh} {x : Nat × Nat × List Nat} (hm : x ∈ sh) (h : x.1 = 0 ∧ 2 ∈ x.2.2) : xHasRaw sh = true := by
  unfold xHasRaw
  rw [List.any_eq_true]
  exact ⟨x, hm, by simp [h.1, h.2]⟩
/-- the callee's world, out of the caller's -/
theorem xSub_P {D : va_G} {ad : Nat → Nat} {cs : Nat → ClassId} {sh shc : xSh} {es : List Nat} {z : xMem} {H : Heap} (hs : xSub sh es shc = true) (hP : va_P D classes (xW ad cs z 0 sh) H) : va_P D classes (xW (fun q => ad (xEs es q)) cs (xPull es z) 0 shc) H := by
  simp only [xSub, Bool.and_eq_true, decide_eq_true_eq] at hs
  obtain ⟨⟨hl, hn⟩, he⟩ := hs
  intro k q hk
  rw [xW_get] at hk
  cases hx : shc[k]? with
  | none => rw [hx] at hk; cases hk
  | some x =>
    rw [hx] at hk
    cases hk
    have hk1 : k < es.length := by rw [hl]; exact (List.getElem?_eq_some_iff.mp hx).1
    have ha : es[k]? = some es[k] := List.getElem?_eq_getElem hk1
    have h1 := congrArg (fun L => L[k]?) he
    simp only [List.getElem?_map, ha, hx, Option.map_some] at h1
    have h2 : sh[es[k]]? = some (xEx es x) := Option.some.inj h1
    have h3 := hP es[k] _ (xW_at h2)
    have e1 : xEs es (0 + k) = es[k] := by rw [Nat.zero_add]; exact xEs_at ha
    show va_at D classes (ad (xEs es (0 + k)), _) H
    rw [xCell_es ad cs es z (xPull es z) (0 + k) es[k] x (by show z.1 (xEs es (0 + k)) = _; rw [e1]) (by show z.2.1 (xEs es (0 + k)) = _; rw [e1]) (fun _ => rfl), e1]
    exact h3
/-- the caller's world behind a call -/
theorem xSub_back {D : va_G} {ad : Nat → Nat} {cs : Nat → ClassId} {sh shc : xSh} {es : List Nat} {z z' : xMem} {H H1 : Heap} {sz : Nat} (hs : xSub sh es shc = true) (hraw : xHasRaw shc = true → ∀ (k n : Nat) (l : List Nat), sh[k]? = some (0, n, l) → 2 ∈ l → xIx es k 0 ≠ none) (hinj : ∀ i j : Nat, i < sh.length → j < sh.length → ad i = ad j → i = j) (hP : va_P D classes (xW ad cs z 0 sh) H) (hsz : H.size = sz) (hk : ∀ q : Nat, q < H.size → ¬ xA (fun q => ad (xEs es q)) shc.length sz q → H1[q]? = H[q]?) (hP1 : va_P D classes (xW (fun q => ad (xEs es q)) cs z' 0 shc) H1) : va_P D classes (xW ad cs (xBack es (xHasRaw shc) z z') 0 sh) H1 := by
  simp only [xSub, Bool.and_eq_true, decide_eq_true_eq] at hs
  obtain ⟨⟨hl, hn⟩, he⟩ := hs
  intro k q hq
  rw [xW_get] at hq
  cases hx : sh[k]? with
  | none => rw [hx] at hq; cases hq
  | some x =>
    rw [hx] at hq
    cases hq
    have hk0 : k < sh.length := (List.getElem?_eq_some_iff.mp hx).1
    rw [Nat.zero_add]
    cases hi : xIx es k 0 with
    | some i =>
      obtain ⟨-, h0⟩ := xIx_some es i 0 k hi
      rw [Nat.sub_zero] at h0
      have hi1 : i < shc.length := by rw [← hl]; exact (List.getElem?_eq_some_iff.mp h0).1
      have hc : shc[i]? = some shc[i] := List.getElem?_eq_getElem hi1
      have h1 := congrArg (fun L => L[i]?) he
      simp only [List.getElem?_map, h0, hc, Option.map_some] at h1
      have h2 : sh[k]? = some (xEx es shc[i]) := Option.some.inj h1
      have h3 := hP1 i _ (xW_at hc)
      have e1 : xEs es i = k := xEs_at h0
      have e2 : x = xEx es shc[i] := Option.some.inj (hx.symm.trans h2)
      show va_at D classes (ad k, xCell ad cs (xBack es (xHasRaw shc) z z') k x) H1
      rw [e2, ← xCell_es ad cs es (xBack es (xHasRaw shc) z z') z' i k shc[i] (by simp [xBack, hi]) (by simp [xBack, hi]) (fun h => by
        have := xRaw_of (List.mem_of_getElem? hc) h
        simp [xBack, this])]
      have h3 : va_at D classes (ad (xEs es i), xCell (fun q => ad (xEs es q)) cs z' i shc[i]) H1 := h3
      rw [e1] at h3
      exact h3
    | none =>
      have hne : ∀ i : Nat, i < shc.length → ad (xEs es i) ≠ ad k := by
        intro i hi1 hq
        have hi2 : i < es.length := by rw [hl]; exact hi1
        have h0 : es[i]? = some es[i] := List.getElem?_eq_getElem hi2
        have hc : shc[i]? = some shc[i] := List.getElem?_eq_getElem hi1
        have h1 := congrArg (fun L => L[i]?) he
        simp only [List.getElem?_map, h0, hc, Option.map_some] at h1
        have h2 : sh[es[i]]? = some (xEx es shc[i]) := Option.some.inj h1
        rw [xEs_at h0] at hq
        have h4 := hinj _ _ (List.getElem?_eq_some_iff.mp h2).1 hk0 hq
        rw [h4] at h0
        rw [xNd_ix es i 0 k hn h0] at hi
        cases hi
      have h3 := hP k _ (xW_at hx)
      have hlt : ad k < H.size := h3.lt
      have h5 : va_at D classes (ad k, xCell ad cs z k x) H1 := h3.kept (hk (ad k) hlt (fun h => by
        rcases h with ⟨i, hi1, hi2⟩ | h
        · exact hne i hi1 hi2.symm
        · omega))
      have e3 : xCell ad cs (xBack es (xHasRaw shc) z z') k x = xCell ad cs z k x := by
        have g1 : (xBack es (xHasRaw shc) z z').1 k = z.1 k := by simp [xBack, hi]
        have g2 : (xBack es (xHasRaw shc) z z').2.1 k = z.2.1 k := by simp [xBack, hi]
        obtain ⟨t, n, l⟩ := x
        match t with
        | 0 =>
          have hv : ∀ (l : List Nat) (j : Nat), (2 ∈ l → (xBack es (xHasRaw shc) z z').2.2 = z.2.2) → xFs (xV ad (xBack es (xHasRaw shc) z z') k) j l = xFs (xV ad z k) j l := by
            intro l
            induction l with
            | nil => intro j _; rfl
            | cons c l ih =>
              intro j h2
              simp only [xFs]
              rw [ih (j + 1) (fun e => h2 (List.mem_cons_of_mem _ e))]
              congr 1
              match c with
              | 0 => simp only [xV, g1]
              | 1 => simp only [xV, g2]
              | 2 => exact h2 List.mem_cons_self
              | 3 => simp only [xV, g1]
              | c + 4 => rfl
          simp only [xCell]
          rw [hv l 0 (fun h2 => ?_)]
          by_cases hr : xHasRaw shc = true
          · exact absurd (hraw hr k n l hx h2) (by rw [hi]; simp)
          · simp [xBack, hr]
        | 1 => simp only [xCell, g1]
        | 2 => simp only [xCell, g1]
        | 3 => rfl
        | _ + 4 => rfl
      show va_at D classes (ad k, xCell ad cs (xBack es (xHasRaw shc) z z') k x) H1
      rw [e3]
      exact h5
