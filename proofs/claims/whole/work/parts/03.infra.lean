/-! ===== THE ABSTRACT MACHINE: blocks of instructions as a function; worlds as a shape and a memory ===== -/
abbrev classes : List vw_C := [(RX0, TX0, 15), (RX1, TX1, 7), (RX2, TX2, 3), (RX3, TX3, 7), (RX4, TX4, 4), (RX5, TX5, 8), (RX6, TX6, 50)]
/-- the memory of a world: ints by place and index; longs; the one raw value -/
abbrev xMem : Type := (Nat → Nat → Int32) × (Nat → Nat → Int64) × Value
/-- a shape: a row a place: (0, class, codes of its fields) or (1, length, _) ints, (2, length, _) booleans, (3, length, places) int rows, (4, length, places) Sheets; codes: 0 int, 1 a long, 2 the raw value, 3 boolean, c + 4 the place c -/
abbrev xSh : Type := List (Nat × Nat × List Nat)
def xUp {α : Type} (f : Nat → α) (q : Nat) (g : α) : Nat → α := fun a => if a = q then g else f a
def xR (ad : Nat → Nat) : Value → Value
  | .ref q => .ref (ad q)
  | v => v
def xV (ad : Nat → Nat) (z : xMem) (q j : Nat) : Nat → Value
  | 0 => .int (z.1 q j)
  | 1 => .long (z.2.1 q j)
  | 2 => z.2.2
  | 3 => .int (z.1 q j)
  | c + 4 => .ref (ad c)
def xFs (g : Nat → Nat → Value) : Nat → List Nat → List Value
  | _, [] => []
  | j, c :: l => g j c :: xFs g (j + 1) l
def xCell (ad : Nat → Nat) (cs : Nat → ClassId) (z : xMem) (q : Nat) (x : Nat × Nat × List Nat) : va_E := match x with
  | (0, ci, fs) => .inr (ci, xFs (xV ad z q) 0 fs)
  | (1, n, _) => .inl (cs 0, (n, .inl (z.1 q)))
  | (2, n, _) => .inl (cs 1, (n, .inl (z.1 q)))
  | (3, n, l) => .inl (cs 2, (n, .inr (.inr (.inr (.inr (fun j => (l[j]?).map ad))))))
  | (_, n, l) => .inl (cs 3, (n, .inr (.inr (.inr (.inr (fun j => (l[j]?).map ad))))))
def xW (ad : Nat → Nat) (cs : Nat → ClassId) (z : xMem) : Nat → xSh → va_W
  | _, [] => []
  | q, x :: l => (ad q, xCell ad cs z q x) :: xW ad cs z (q + 1) l
def xTys (cs : Nat → ClassId) : List (ClassId × FieldType) := [(cs 0, .int), (cs 1, .boolean), (cs 2, .array .int), (cs 3, .object "LawsLapse$Sheet")]
theorem xFs_get (g : Nat → Nat → Value) : ∀ (l : List Nat) (j k : Nat), (xFs g j l)[k]? = (l[k]?).map (g (j + k))
  | [], j, k => by simp [xFs]
  | c :: l, j, 0 => by simp [xFs]
  | c :: l, j, k + 1 => by
    simp only [xFs, List.getElem?_cons_succ]
    rw [xFs_get g l (j + 1) k, show j + 1 + k = j + (k + 1) by omega]
theorem xFs_len (g : Nat → Nat → Value) : ∀ (l : List Nat) (j : Nat), (xFs g j l).length = l.length
  | [], j => rfl
  | c :: l, j => by simp [xFs, xFs_len g l (j + 1)]
theorem xW_get (ad : Nat → Nat) (cs : Nat → ClassId) (z : xMem) : ∀ (l : xSh) (q k : Nat), (xW ad cs z q l)[k]? = (l[k]?).map (fun x => (ad (q + k), xCell ad cs z (q + k) x))
  | [], q, k => by simp [xW]
  | c :: l, q, 0 => by simp [xW]
  | c :: l, q, k + 1 => by
    simp only [xW, List.getElem?_cons_succ]
    rw [xW_get ad cs z l (q + 1) k, show q + 1 + k = q + (k + 1) by omega]
theorem xW_at {ad : Nat → Nat} {cs : Nat → ClassId} {z : xMem} {l : xSh} {k : Nat} {x : Nat × Nat × List Nat} (h : l[k]? = some x) : (xW ad cs z 0 l)[k]? = some (ad k, xCell ad cs z k x) := by
  rw [xW_get, h]; simp
theorem xW_len (ad : Nat → Nat) (cs : Nat → ClassId) (z : xMem) : ∀ (l : xSh) (q : Nat), (xW ad cs z q l).length = l.length
  | [], q => rfl
  | c :: l, q => by simp [xW, xW_len ad cs z l (q + 1)]
/-- a world with one cell's contents changed -/
theorem xW_set {ad : Nat → Nat} {cs : Nat → ClassId} {z z' : xMem} {l : xSh} {k : Nat} {x : Nat × Nat × List Nat} {e : va_E} (h : l[k]? = some x) (he : e = xCell ad cs z' k x) (ho : ∀ q y, q ≠ k → l[q]? = some y → xCell ad cs z' q y = xCell ad cs z q y) : (xW ad cs z 0 l).set k (ad k, e) = xW ad cs z' 0 l := by
  apply List.ext_getElem?
  intro i
  by_cases hi : i = k
  · subst hi
    have hl : i < (xW ad cs z 0 l).length := by rw [xW_len]; exact (List.getElem?_eq_some_iff.mp h).1
    rw [List.getElem?_set_self hl, xW_at h, he]
  · rw [List.getElem?_set_ne (Ne.symm hi), xW_get, xW_get]
    cases hy : l[i]? with
    | none => rfl
    | some y => simp [ho i y hi hy]
theorem xUp_ne {α : Type} {f : Nat → α} {q a : Nat} {g : α} (h : a ≠ q) : xUp f q g a = f a := if_neg h
theorem xUp_eq {α : Type} {f : Nat → α} {q : Nat} {g : α} : xUp f q g q = g := if_pos rfl
theorem xCell_up {ad : Nat → Nat} {cs : Nat → ClassId} {z : xMem} {q a : Nat} {g : Nat → Int32} {x : Nat × Nat × List Nat} (h : a ≠ q) : xCell ad cs (xUp z.1 q g, z.2) a x = xCell ad cs z a x := by
  obtain ⟨t, n, l⟩ := x
  have hv : xV ad (xUp z.1 q g, z.2) a = xV ad z a := by
    funext j c
    match c with
    | 0 => simp [xV, xUp_ne h]
    | 1 => rfl
    | 2 => rfl
    | 3 => simp [xV, xUp_ne h]
    | c + 4 => rfl
  match t with
  | 0 => simp only [xCell, hv]
  | 1 => simp only [xCell, xUp_ne h]
  | 2 => simp only [xCell, xUp_ne h]
  | 3 => rfl
  | _ + 4 => rfl
/-- one int of an object changed -/
theorem xFs_put (ad : Nat → Nat) (z : xMem) (q k : Nat) (v : Int32) (fs : List Nat) (c : Nat) (hc : fs[k]? = some c) (h03 : c = 0 ∨ c = 3) : (xFs (xV ad z q) 0 fs).set k (.int v) = xFs (xV ad (xUp z.1 q (upd (z.1 q) k v), z.2) q) 0 fs := by
  apply List.ext_getElem?
  intro i
  have hl : k < (xFs (xV ad z q) 0 fs).length := by rw [xFs_len]; exact (List.getElem?_eq_some_iff.mp hc).1
  by_cases hi : i = k
  · subst hi
    rw [List.getElem?_set_self hl, xFs_get, hc]
    rcases h03 with rfl | rfl <;> simp [xV, xUp_eq, upd]
  · rw [List.getElem?_set_ne (Ne.symm hi), xFs_get, xFs_get]
    cases hy : fs[i]? with
    | none => rfl
    | some y =>
      match y with
      | 0 => simp [xV, xUp_eq, upd, hi]
      | 1 => rfl
      | 2 => rfl
      | 3 => simp [xV, xUp_eq, upd, hi]
      | c + 4 => rfl
theorem xCell_upL {ad : Nat → Nat} {cs : Nat → ClassId} {z : xMem} {q a : Nat} {g : Nat → Int64} {x : Nat × Nat × List Nat} (h : a ≠ q) : xCell ad cs (z.1, xUp z.2.1 q g, z.2.2) a x = xCell ad cs z a x := by
  obtain ⟨t, n, l⟩ := x
  have hv : xV ad (z.1, xUp z.2.1 q g, z.2.2) a = xV ad z a := by
    funext j c
    match c with
    | 0 => rfl
    | 1 => simp [xV, xUp_ne h]
    | 2 => rfl
    | 3 => rfl
    | c + 4 => rfl
  match t with
  | 0 => simp only [xCell, hv]
  | 1 => rfl
  | 2 => rfl
  | 3 => rfl
  | _ + 4 => rfl
theorem xFs_putL (ad : Nat → Nat) (z : xMem) (q k : Nat) (v : Int64) (fs : List Nat) (hc : fs[k]? = some 1) : (xFs (xV ad z q) 0 fs).set k (.long v) = xFs (xV ad (z.1, xUp z.2.1 q (vp_updL (z.2.1 q) k v), z.2.2) q) 0 fs := by
  apply List.ext_getElem?
  intro i
  have hl : k < (xFs (xV ad z q) 0 fs).length := by rw [xFs_len]; exact (List.getElem?_eq_some_iff.mp hc).1
  by_cases hi : i = k
  · subst hi
    rw [List.getElem?_set_self hl, xFs_get, hc]
    simp [xV, xUp_eq, vp_updL]
  · rw [List.getElem?_set_ne (Ne.symm hi), xFs_get, xFs_get]
    cases hy : fs[i]? with
    | none => rfl
    | some y =>
      match y with
      | 0 => rfl
      | 1 => simp [xV, xUp_eq, vp_updL, hi]
      | 2 => rfl
      | 3 => rfl
      | c + 4 => rfl
