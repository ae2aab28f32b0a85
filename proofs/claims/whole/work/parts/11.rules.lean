section XRU
variable {p : Program} {l : Launch} {e : Env} {R : Room} {s : State} {m : MethodId} {args : Array Value} {below : List Frame} {meth : Method} {c : Code} {own : String} {cc : ByteArray} {nL : Nat} {D : va_G} {cs : Nat → ClassId} {ad : Nat → Nat} {sh : xSh} {A : Nat → Prop} {Q : State → Prop}
theorem xK_d {K : List xI} (hK : K.all (xOk own cc) = true) {a : Nat} {x : xI} (h : K[a]? = some x) : decode cc x.1 = .ok (x.2.1, xLen x.1 x.2.1) := xOk_d (List.all_eq_true.mp hK x (List.mem_of_getElem? h))
/-- a branch: the condition, where it goes when it holds, where else -/
def xBr (i : Instr) (pc : Nat) (st : List Value) : Option (Prop × Nat × Nat × List Value) := match i, st with
  | .ifCond .eq off, .int x :: r => if 0 ≤ (pc : Int) + off then some (x = 0, xTg pc off, pc + 3, r) else none
  | .ifCond .ne off, .int x :: r => if 0 ≤ (pc : Int) + off then some (x = 0, pc + 3, xTg pc off, r) else none
  | .ifCond .lt off, .int x :: r => if 0 ≤ (pc : Int) + off then some (x < 0, xTg pc off, pc + 3, r) else none
  | .ifCond .ge off, .int x :: r => if 0 ≤ (pc : Int) + off then some (0 ≤ x, xTg pc off, pc + 3, r) else none
  | .ifCond .gt off, .int x :: r => if 0 ≤ (pc : Int) + off then some (0 < x, xTg pc off, pc + 3, r) else none
  | .ifCond .le off, .int x :: r => if 0 ≤ (pc : Int) + off then some (x ≤ 0, xTg pc off, pc + 3, r) else none
  | .if_icmp .eq off, .int y :: .int x :: r => if 0 ≤ (pc : Int) + off then some (x = y, xTg pc off, pc + 3, r) else none
  | .if_icmp .ne off, .int y :: .int x :: r => if 0 ≤ (pc : Int) + off then some (x = y, pc + 3, xTg pc off, r) else none
  | .if_icmp .lt off, .int y :: .int x :: r => if 0 ≤ (pc : Int) + off then some (x < y, xTg pc off, pc + 3, r) else none
  | .if_icmp .ge off, .int y :: .int x :: r => if 0 ≤ (pc : Int) + off then some (y ≤ x, xTg pc off, pc + 3, r) else none
  | .if_icmp .gt off, .int y :: .int x :: r => if 0 ≤ (pc : Int) + off then some (y < x, xTg pc off, pc + 3, r) else none
  | .if_icmp .le off, .int y :: .int x :: r => if 0 ≤ (pc : Int) + off then some (x ≤ y, xTg pc off, pc + 3, r) else none
  | _, _ => none
def xBrK (K : List xI) (a pc : Nat) (st : List Value) : Option (Prop × Nat × Nat × List Value) := match K[a]? with
  | some x => if x.1 = pc then xBr x.2.1 pc st else none
  | none => none
theorem ww_br (C : xC p R s m args meth c own cc nL D cs ad sh A) {K : List xI} (hK : K.all (xOk own cc) = true) (a : Nat) {pc : Nat} {lv : xLv} {st : List Value} {z : xMem} {P : Prop} {t1 t2 : Nat} {r : List Value} (h : xBrK K a pc st = some (P, t1, t2, r))
    (k1 : P → ww p l e R s m args below meth c nL D cs ad sh A Q t1 lv r z) (k2 : ¬ P → ww p l e R s m args below meth c nL D cs ad sh A Q t2 lv r z) : ww p l e R s m args below meth c nL D cs ad sh A Q pc lv st z := by
  obtain ⟨hx, hb, -⟩ := C
  unfold xBrK at h
  split at h
  · rename_i x hxK
    split at h
    · rename_i hpc
      have hd := xK_d hK hxK
      rw [hpc] at hd
      obtain ⟨pc0, i, y⟩ := x
      dsimp only at hd h hpc
      intro H locs ls hP hS hl
      unfold xBr at h
      split at h
      all_goals first
        | (split at h
           · rename_i ho
             cases h
             first
               | exact lv_if_eq hx hb hd (xTg_eq ho) (fun q => k1 q H locs ls hP hS hl) (fun q => k2 q H locs ls hP hS hl)
               | exact lv_if_ne hx hb hd (xTg_eq ho) (fun q => k2 q H locs ls hP hS hl) (fun q => k1 q H locs ls hP hS hl)
               | exact lv_if_lt hx hb hd (xTg_eq ho) (fun q => k1 q H locs ls hP hS hl) (fun q => k2 q H locs ls hP hS hl)
               | exact lv_if_ge hx hb hd (xTg_eq ho) (fun q => k1 q H locs ls hP hS hl) (fun q => k2 q H locs ls hP hS hl)
               | exact lv_if_gt hx hb hd (xTg_eq ho) (fun q => k1 q H locs ls hP hS hl) (fun q => k2 q H locs ls hP hS hl)
               | exact lv_if_le hx hb hd (xTg_eq ho) (fun q => k1 q H locs ls hP hS hl) (fun q => k2 q H locs ls hP hS hl)
               | exact lv_icmp_eq hx hb hd (xTg_eq ho) (fun q => k1 q H locs ls hP hS hl) (fun q => k2 q H locs ls hP hS hl)
               | exact lv_icmp_ne hx hb hd (xTg_eq ho) (fun q => k2 q H locs ls hP hS hl) (fun q => k1 q H locs ls hP hS hl)
               | exact lv_icmp_lt hx hb hd (xTg_eq ho) (fun q => k1 q H locs ls hP hS hl) (fun q => k2 q H locs ls hP hS hl)
               | exact lv_icmp_ge hx hb hd (xTg_eq ho) (fun q => k1 q H locs ls hP hS hl) (fun q => k2 q H locs ls hP hS hl)
               | exact lv_icmp_gt hx hb hd (xTg_eq ho) (fun q => k1 q H locs ls hP hS hl) (fun q => k2 q H locs ls hP hS hl)
               | exact lv_icmp_le hx hb hd (xTg_eq ho) (fun q => k1 q H locs ls hP hS hl) (fun q => k2 q H locs ls hP hS hl)
           · cases h)
        | cases h
    · cases h
  · cases h
/-- switches: each case's value with its place; the rest -/
def xTbs (pc : Nat) : Int → List Int → List (Int32 × Nat)
  | _, [] => []
  | k, o :: l => (Int32.ofInt k, xTg pc o) :: xTbs pc (k + 1) l
def xLks (pc : Nat) : List (Int × Int) → List (Int32 × Nat)
  | [] => []
  | (k, o) :: l => (Int32.ofInt k, xTg pc o) :: xLks pc l
def xSwK (K : List xI) (a pc : Nat) (st : List Value) : Option (Int32 × List (Int32 × Nat) × Prop × Nat × List Value) := match K[a]?, st with
  | some (pc0, .tableswitch df lo hi offs, _), .int x :: r => if pc0 = pc ∧ 0 ≤ (pc : Int) + df ∧ (offs.toList.all (fun o => decide (0 ≤ (pc : Int) + o))) = true ∧ hi < lo + offs.toList.length then some (x, xTbs pc lo offs.toList, (x.toInt < lo ∨ hi < x.toInt), xTg pc df, r) else none
  | some (pc0, .lookupswitch df ps, _), .int x :: r => if pc0 = pc ∧ 0 ≤ (pc : Int) + df ∧ (ps.toList.all (fun o => decide (0 ≤ (pc : Int) + o.2))) = true ∧ (ps.toList.zip (ps.toList.drop 1)).all (fun (a, next) => a.1 < next.1) = true then some (x, xLks pc ps.toList, (∀ q ∈ ps.toList, x.toInt ≠ q.1), xTg pc df, r) else none
  | _, _ => none
theorem xTbs_of {W0 : Nat → Prop} {x : Int32} {pc : Nat} : ∀ (l : List Int) (lo : Int) (k : Nat) (o : Int), l[k]? = some o → x.toInt = lo + k → xAll ((xTbs pc lo l).map (fun q => x = q.1 → W0 q.2)) → W0 (xTg pc o)
  | [], lo, k, o, h, _, _ => by simp at h
  | o1 :: l, lo, 0, o, h, hx, ha => by
    simp at h
    subst h
    have e1 : x = Int32.ofInt lo := by rw [← Int32.ofInt_toInt x, hx]; simp
    simp only [xTbs, List.map_cons] at ha
    cases hm : (xTbs pc (lo + 1) l).map (fun q => x = q.1 → W0 q.2) with
    | nil => rw [hm] at ha; exact ha e1
    | cons b bs => rw [hm] at ha; exact ha.1 e1
  | o1 :: l, lo, k + 1, o, h, hx, ha => by
    refine xTbs_of (W0 := W0) (x := x) l (lo + 1) k o (by simpa using h) (by omega) ?_
    simp only [xTbs, List.map_cons] at ha
    cases hm : (xTbs pc (lo + 1) l).map (fun q => x = q.1 → W0 q.2) with
    | nil => trivial
    | cons b bs => rw [hm] at ha; exact ha.2
theorem ww_sw (C : xC p R s m args meth c own cc nL D cs ad sh A) {K : List xI} (hK : K.all (xOk own cc) = true) (a : Nat) {pc : Nat} {lv : xLv} {st : List Value} {z : xMem} {x : Int32} {L : List (Int32 × Nat)} {P : Prop} {t0 : Nat} {r : List Value} (h : xSwK K a pc st = some (x, L, P, t0, r))
    (k0 : P → ww p l e R s m args below meth c nL D cs ad sh A Q t0 lv r z) (k1 : xAll (L.map (fun q => x = q.1 → ww p l e R s m args below meth c nL D cs ad sh A Q q.2 lv r z))) : ww p l e R s m args below meth c nL D cs ad sh A Q pc lv st z := by
  obtain ⟨hx, hb, -⟩ := C
  unfold xSwK at h
  split at h
  · rename_i pc0 df lo hi offs y x' r' hxK
    split at h
    · rename_i hc
      cases h
      obtain ⟨hpc, h1, h2, h3⟩ := hc
      have hd := xK_d hK hxK
      dsimp only at hd
      rw [hpc] at hd
      intro H locs ls hP hS hl
      by_cases hlo : x.toInt < lo ∨ hi < x.toInt
      · exact lv_tableOut hx hb hd hlo (xTg_eq h1) (k0 hlo H locs ls hP hS hl)
      · have g1 : ¬ x.toInt < lo := fun q => hlo (Or.inl q)
        have g2 : ¬ hi < x.toInt := fun q => hlo (Or.inr q)
        have hk : (x.toInt - lo).toNat < offs.toList.length := by omega
        have ho : offs.toList[(x.toInt - lo).toNat]? = some offs.toList[(x.toInt - lo).toNat] := List.getElem?_eq_getElem hk
        have hw := xTbs_of (W0 := fun t => ww p l e R s m args below meth c nL D cs ad sh A Q t lv r z) (x := x) (pc := pc) offs.toList lo _ _ ho (by omega) k1
        have hge := List.all_eq_true.mp h2 _ (List.mem_of_getElem? ho)
        exact lv_tableIn hx hb hd g1 g2 (by rw [← Array.getElem?_toList]; exact ho) (xTg_eq (of_decide_eq_true hge)) (hw H locs ls hP hS hl)
    · cases h
  · rename_i pc0 df ps y x' r' hxK
    split at h
    · rename_i hc
      cases h
      obtain ⟨hpc, h1, h2, h3⟩ := hc
      have hd := xK_d hK hxK
      dsimp only at hd
      rw [hpc] at hd
      intro H locs ls hP hS hl
      have key : ∀ (k : List (Int × Int)), (∀ o ∈ k, 0 ≤ (pc : Int) + o.2) → xAll ((xLks pc k).map (fun q => x = q.1 → ww p l e R s m args below meth c nL D cs ad sh A Q q.2 lv r z)) → ((∀ q ∈ k, x.toInt ≠ q.1) ∧ Op.lookupswitch.offset k df x.toInt = df) ∨ ∃ t : Nat, (pc : Int) + Op.lookupswitch.offset k df x.toInt = (t : Int) ∧ ww p l e R s m args below meth c nL D cs ad sh A Q t lv r z := by
        intro k
        induction k with
        | nil => intro _ _; exact Or.inl ⟨fun q hq => (by cases hq), rfl⟩
        | cons b k ih =>
          intro hge ha
          obtain ⟨kb, ob⟩ := b
          by_cases hb1 : kb = x.toInt
          · refine Or.inr ⟨xTg pc ob, ?_, ?_⟩
            · rw [Op.lookupswitch.offset_cons, if_pos hb1]
              exact xTg_eq (hge (kb, ob) List.mem_cons_self)
            · have e1 : x = Int32.ofInt kb := by rw [hb1, Int32.ofInt_toInt]
              simp only [xLks, List.map_cons] at ha
              cases hm : (xLks pc k).map (fun q => x = q.1 → ww p l e R s m args below meth c nL D cs ad sh A Q q.2 lv r z) with
              | nil => rw [hm] at ha; exact ha e1
              | cons b bs => rw [hm] at ha; exact ha.1 e1
          · have ha2 : xAll ((xLks pc k).map (fun q => x = q.1 → ww p l e R s m args below meth c nL D cs ad sh A Q q.2 lv r z)) := by
              simp only [xLks, List.map_cons] at ha
              cases hm : (xLks pc k).map (fun q => x = q.1 → ww p l e R s m args below meth c nL D cs ad sh A Q q.2 lv r z) with
              | nil => trivial
              | cons b bs => rw [hm] at ha; exact ha.2
            rcases ih (fun o ho => hge o (List.mem_cons_of_mem _ ho)) ha2 with ⟨g1, g2⟩ | ⟨t, g1, g2⟩
            · refine Or.inl ⟨fun q hq => ?_, ?_⟩
              · rcases List.mem_cons.mp hq with rfl | hq
                · exact fun e => hb1 e.symm
                · exact g1 q hq
              · rw [Op.lookupswitch.offset_cons, if_neg hb1]; exact g2
            · exact Or.inr ⟨t, by rw [Op.lookupswitch.offset_cons, if_neg hb1]; exact g1, g2⟩
      rcases key ps.toList (fun o ho => of_decide_eq_true (List.all_eq_true.mp h2 o ho)) k1 with ⟨g1, g2⟩ | ⟨t, g1, g2⟩
      · exact lv_lookup hx hb hd h3 g2 (xTg_eq h1) (k0 g1 H locs ls hP hS hl)
      · exact lv_lookup hx hb hd h3 rfl g1 (g2 H locs ls hP hS hl)
    · cases h
  · cases h
end XRU
