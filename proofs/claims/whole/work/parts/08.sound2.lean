section XS2
variable {p : Program} {l : Launch} {e : Env} {R : Room} {s : State} {m : MethodId} {args : Array Value} {below : List Frame} {meth : Method} {c : Code} {own : String} {cc : ByteArray} {nL : Nat} {D : va_G} {cs : Nat → ClassId} {ad : Nat → Nat} {sh : xSh} {A : Nat → Prop} {Q : State → Prop}
theorem xIald_ok (C : xC p R s m args meth c own cc nL D cs ad sh A) {pc q : Nat} {i : Int32} {lv : xLv} {r : List Value} {z : xMem} {ps : List Prop} {pc' : Nat} {lv' : xLv} {st' : List Value} {z' : xMem} (hd : decode cc pc = .ok (.iaload, 1)) (h : xIald sh (pc + 1) lv z q i r = some (ps, pc', lv', st', z')) (hp : xAll ps)
    (k : ww p l e R s m args below meth c nL D cs ad sh A Q pc' lv' st' z') : ww p l e R s m args below meth c nL D cs ad sh A Q pc lv (.int i :: .ref q :: r) z := by
  obtain ⟨hx, hb, hml, hown, hts, hlk, hK, hi1, hi2, hA, hE, hR⟩ := C
  unfold xIald at h
  split at h
  · rename_i n x hs
    cases h
    intro H locs ls hP hS hl
    exact va_iald (D := D) (tys := xTys cs) hx hb hK hP q 0 (xW_at hs) rfl hp hd (k H locs ls hP hS hl)
  · cases h
  · split at h
    · rename_i hq
      cases h
      intro H locs ls hP hS hl
      obtain ⟨t, ht, rfl⟩ : ∃ t : Nat, t < 4 ∧ q = 1000 + t := ⟨q - 1000, by omega, by omega⟩
      have e1 : 1000 + t - 1000 = t := by omega
      rw [e1] at hp k
      exact va_ti (N := xTabN t) (f := fun j => .int (xTab t j)) hx hb (hE.1 t ht).2 hS hp rfl hd (k H locs ls hP hS hl)
    · cases h
theorem xBald_ok (C : xC p R s m args meth c own cc nL D cs ad sh A) {pc q : Nat} {i : Int32} {lv : xLv} {r : List Value} {z : xMem} {ps : List Prop} {pc' : Nat} {lv' : xLv} {st' : List Value} {z' : xMem} (hd : decode cc pc = .ok (.baload, 1)) (h : xBald sh (pc + 1) lv z q i r = some (ps, pc', lv', st', z')) (hp : xAll ps)
    (k : ww p l e R s m args below meth c nL D cs ad sh A Q pc' lv' st' z') : ww p l e R s m args below meth c nL D cs ad sh A Q pc lv (.int i :: .ref q :: r) z := by
  obtain ⟨hx, hb, hml, hown, hts, hlk, hK, hi1, hi2, hA, hE, hR⟩ := C
  unfold xBald at h
  split at h
  · rename_i n x hs
    cases h
    intro H locs ls hP hS hl
    exact va_zald (D := D) (tys := xTys cs) hx hb hK hP q 1 (xW_at hs) rfl hp hd (k H locs ls hP hS hl)
  · cases h
theorem xIast_ok (C : xC p R s m args meth c own cc nL D cs ad sh A) {pc q : Nat} {i x : Int32} {lv : xLv} {r : List Value} {z : xMem} {ps : List Prop} {pc' : Nat} {lv' : xLv} {st' : List Value} {z' : xMem} (hd : decode cc pc = .ok (.iastore, 1)) (h : xIast sh (pc + 1) lv z q i x r = some (ps, pc', lv', st', z')) (hp : xAll ps)
    (k : ww p l e R s m args below meth c nL D cs ad sh A Q pc' lv' st' z') : ww p l e R s m args below meth c nL D cs ad sh A Q pc lv (.int x :: .int i :: .ref q :: r) z := by
  obtain ⟨hx, hb, hml, hown, hts, hlk, hK, hi1, hi2, hA, hE, hR⟩ := C
  unfold xIast at h
  split at h
  · rename_i n y hs
    cases h
    intro H locs ls hP hS hl
    refine va_iast (D := D) (tys := xTys cs) hx hb hK hP (xW_D hi1 hi2) hS q 0 (xW_at hs) rfl hp hd (fun H1 locs1 hP1 _ hS1 => ?_)
    have e1 : (xW ad cs z 0 sh).set q (ad q, .inl (cs 0, n, .inl (upd (z.1 q) i.toNatClampNeg x))) = xW ad cs (xUp z.1 q (upd (z.1 q) i.toNatClampNeg x), z.2) 0 sh := xW_upd hs (by
      show (Sum.inl _ : va_E) = Sum.inl _
      dsimp only; rw [xUp_eq])
    rw [e1] at hP1
    exact k H1 locs1 ls hP1 hS1 hl
  · cases h
theorem xBast_ok (C : xC p R s m args meth c own cc nL D cs ad sh A) {pc q : Nat} {i x : Int32} {lv : xLv} {r : List Value} {z : xMem} {ps : List Prop} {pc' : Nat} {lv' : xLv} {st' : List Value} {z' : xMem} (hd : decode cc pc = .ok (.bastore, 1)) (h : xBast sh (pc + 1) lv z q i x r = some (ps, pc', lv', st', z')) (hp : xAll ps)
    (k : ww p l e R s m args below meth c nL D cs ad sh A Q pc' lv' st' z') : ww p l e R s m args below meth c nL D cs ad sh A Q pc lv (.int x :: .int i :: .ref q :: r) z := by
  obtain ⟨hx, hb, hml, hown, hts, hlk, hK, hi1, hi2, hA, hE, hR⟩ := C
  unfold xBast at h
  split at h
  · rename_i n y hs
    cases h
    obtain ⟨hp1, hp2⟩ : vp_in i n ∧ (x = 0 ∨ x = 1) := hp
    intro H locs ls hP hS hl
    refine va_zast (D := D) (tys := xTys cs) hx hb hK hP (xW_D hi1 hi2) hS q 1 (xW_at hs) rfl hp1 hd (fun H1 locs1 hP1 _ hS1 => ?_)
    have e0 : vp_nar .boolean x = x := by rcases hp2 with rfl | rfl <;> decide
    rw [e0] at hP1
    have e1 : (xW ad cs z 0 sh).set q (ad q, .inl (cs 1, n, .inl (upd (z.1 q) i.toNatClampNeg x))) = xW ad cs (xUp z.1 q (upd (z.1 q) i.toNatClampNeg x), z.2) 0 sh := xW_upd hs (by
      show (Sum.inl _ : va_E) = Sum.inl _
      dsimp only; rw [xUp_eq])
    rw [e1] at hP1
    exact k H1 locs1 ls hP1 hS1 hl
  · cases h
theorem xAald_ok (C : xC p R s m args meth c own cc nL D cs ad sh A) {pc q : Nat} {i : Int32} {lv : xLv} {r : List Value} {z : xMem} {ps : List Prop} {pc' : Nat} {lv' : xLv} {st' : List Value} {z' : xMem} (hd : decode cc pc = .ok (.aaload, 1)) (h : xAald sh (pc + 1) lv z q i r = some (ps, pc', lv', st', z')) (hp : xAll ps)
    (k : ww p l e R s m args below meth c nL D cs ad sh A Q pc' lv' st' z') : ww p l e R s m args below meth c nL D cs ad sh A Q pc lv (.int i :: .ref q :: r) z := by
  obtain ⟨hx, hb, hml, hown, hts, hlk, hK, hi1, hi2, hA, hE, hR⟩ := C
  unfold xAald at h
  split at h
  · rename_i n y hs
    split at h
    · rename_i a ha
      cases h
      have hp : vp_in i n := hp
      intro H locs ls hP hS hl
      have h1 := k H locs ls hP hS hl
      have h2 := hP q _ (xW_at hs)
      have h3 : H[ad q]? = some (arrV (cs 2) n (fun j => va_rf ((y[j]?).map ad))) := h2
      have hlt : i.toNatClampNeg < n := Nat.not_le.mp fun q => hp (Or.inr q)
      exact W.aald (v := .ref (ad a)) (ty := .array .int) hx hb h3 ((hK.2 2 _ rfl).1 n _) rfl (fun q => by cases q) (by show ¬ (i < 0 ∨ (arrV _ _ _).slots.size ≤ _); rw [arrV_size]; exact hp) (by show (arrV _ _ _).slots[_]? = _; rw [arrV_read _ _ hlt, ha]; rfl) rfl rfl hd h1
    · cases h
  · rename_i n y hs
    split at h
    · rename_i a ha
      cases h
      have hp : vp_in i n := hp
      intro H locs ls hP hS hl
      have h1 := k H locs ls hP hS hl
      have h2 := hP q _ (xW_at hs)
      have h3 : H[ad q]? = some (arrV (cs 3) n (fun j => va_rf ((y[j]?).map ad))) := h2
      have hlt : i.toNatClampNeg < n := Nat.not_le.mp fun q => hp (Or.inr q)
      exact W.aald (v := .ref (ad a)) (ty := .object "LawsLapse$Sheet") hx hb h3 ((hK.2 3 _ rfl).1 n _) rfl (fun q => by cases q) (by show ¬ (i < 0 ∨ (arrV _ _ _).slots.size ≤ _); rw [arrV_size]; exact hp) (by show (arrV _ _ _).slots[_]? = _; rw [arrV_read _ _ hlt, ha]; rfl) rfl rfl hd h1
    · cases h
  · cases h
theorem xAlen_ok (C : xC p R s m args meth c own cc nL D cs ad sh A) {pc q : Nat} {v : Int32} {lv : xLv} {r : List Value} {z : xMem} {ps : List Prop} {pc' : Nat} {lv' : xLv} {st' : List Value} {z' : xMem} (hd : decode cc pc = .ok (.arraylength, 1)) (h : xAlen sh (pc + 1) lv z v q r = some (ps, pc', lv', st', z'))
    (k : ww p l e R s m args below meth c nL D cs ad sh A Q pc' lv' st' z') : ww p l e R s m args below meth c nL D cs ad sh A Q pc lv (.ref q :: r) z := by
  obtain ⟨hx, hb, hml, hown, hts, hlk, hK, hi1, hi2, hA, hE, hR⟩ := C
  unfold xAlen at h
  split at h
  · rename_i n y hs
    split at h
    · rename_i hv
      cases h
      intro H locs ls hP hS hl
      exact va_alen (D := D) (tys := xTys cs) hx hb hK hP q 0 (xW_at hs) (ty := .int) rfl hv hd (k H locs ls hP hS hl)
    · cases h
  · cases h
theorem xR_sum (ad : Nat → Nat) (r : List Value) : ((r.map (xR ad)).map fun v => v.category).sum = (r.map Value.category).sum := by
  rw [List.map_map]
  congr 1
  apply List.map_congr_left
  intro v _
  exact xR_cat ad v
theorem xCopy_ok (C : xC p R s m args meth c own cc nL D cs ad sh A) {ix w : Nat} {pc : Nat} {lv : xLv} {st : List Value} {z : xMem} {ps : List Prop} {pc' : Nat} {lv' : xLv} {st' : List Value} {z' : xMem} (hd : decode cc pc = .ok (.invokestatic ix, 3)) (hw : lw_tbl[w]? = some (.methodLink own ix arraycopyName)) (h : xCopy sh (pc + 3) lv z st = some (ps, pc', lv', st', z')) (hp : xAll ps)
    (k : ww p l e R s m args below meth c nL D cs ad sh A Q pc' lv' st' z') : ww p l e R s m args below meth c nL D cs ad sh A Q pc lv st z := by
  obtain ⟨hx, hb, hml, hown, hts, hlk, hK, hi1, hi2, hA, hE, hR⟩ := C
  unfold xCopy at h
  split at h
  · rename_i n dp q1 sp q0
    split at h
    · rename_i n0 y0 n1 y1 hs0 hs1
      cases h
      obtain ⟨p1, p2, p3, p4, p5⟩ : (¬ sp < 0) ∧ (¬ dp < 0) ∧ (¬ n < 0) ∧ sp.toNatClampNeg + n.toNatClampNeg ≤ n0 ∧ dp.toNatClampNeg + n.toNatClampNeg ≤ n1 := hp
      intro H locs ls hP hS hl
      refine va_copyi (D := D) (tys := xTys cs) (ty := .int) hx hb (xC_ls hl hml) hown (hts _ (lw_mem hw rfl)) (hts (.native arraycopyName) (lw_gt_of (by decide +kernel) rfl)) (hts (.static arraycopyName) (lw_gt_of (by decide +kernel) rfl)) (hts (.initialized "java/lang/System") (lw_gt_of (by decide +kernel) rfl)) hK hP (xW_D hi1 hi2) hS q0 q1 0 0 (xW_at hs0) (xW_at hs1) rfl rfl rfl p1 p2 p3 p4 p5 (fun _ _ => rfl) hR.1 (Nat.le_trans (Nat.le_of_ble_eq_true rfl) hR.2) hd (fun H1 locs1 hP1 _ hS1 => ?_)
      have e1 : (xW ad cs z 0 sh).set q1 (ad q1, .inl (cs 0, n1, .inl (va_cpy (z.1 q0) (z.1 q1) sp.toNatClampNeg dp.toNatClampNeg n.toNatClampNeg))) = xW ad cs (xUp z.1 q1 (va_cpy (z.1 q0) (z.1 q1) sp.toNatClampNeg dp.toNatClampNeg n.toNatClampNeg), z.2) 0 sh := xW_upd hs1 (by
        show (Sum.inl _ : va_E) = Sum.inl _
        dsimp only; rw [xUp_eq])
      have hP1 : va_P D classes ((xW ad cs z 0 sh).set q1 (ad q1, .inl (cs 0, n1, .inl (va_cpy (z.1 q0) (z.1 q1) sp.toNatClampNeg dp.toNatClampNeg n.toNatClampNeg)))) H1 := hP1
      rw [e1] at hP1
      exact k H1 locs1 ls hP1 hS1 hl
    · cases h
  · cases h
end XS2
