section XS
variable {p : Program} {l : Launch} {e : Env} {R : Room} {s : State} {m : MethodId} {args : Array Value} {below : List Frame} {meth : Method} {c : Code} {own : String} {cc : ByteArray} {nL : Nat} {D : va_G} {cs : Nat → ClassId} {ad : Nat → Nat} {sh : xSh} {A : Nat → Prop} {Q : State → Prop}
theorem xPush_ok {pc pc0 : Nat} {lv : xLv} {st : List Value} {z : xMem} {v : Value} {ps : List Prop} {pc' : Nat} {lv' : xLv} {st' : List Value} {z' : xMem} (h : xPush pc lv st z v = some (ps, pc', lv', st', z'))
    (k : ww p l e R s m args below meth c nL D cs ad sh A Q pc' lv' st' z')
    (r : ∀ (H : Heap) (locs : List Loc) (ls : Array Slot), lv_has ls nL (xL ad lv) → va_S A s.heap H locs → W p l e R s m args below meth c H locs 0 0 Q (F0 m pc ls (xR ad v :: st.map (xR ad))) → W p l e R s m args below meth c H locs 0 0 Q (F0 m pc0 ls (st.map (xR ad)))) : ww p l e R s m args below meth c nL D cs ad sh A Q pc0 lv st z := by
  unfold xPush at h
  cases h
  intro H locs ls hP hS hl
  exact r H locs ls hl hS (k H locs ls hP hS hl)
theorem xLoad_ok {pc pc0 i t : Nat} {lv : xLv} {st : List Value} {z : xMem} {ps : List Prop} {pc' : Nat} {lv' : xLv} {st' : List Value} {z' : xMem} (h : xLoad pc lv st z i t = some (ps, pc', lv', st', z'))
    (k : ww p l e R s m args below meth c nL D cs ad sh A Q pc' lv' st' z')
    (r0 : t = 0 → ∀ (H : Heap) (locs : List Loc) (ls : Array Slot) (x : Int32), ls[i]? = some (.val (.int x)) → W p l e R s m args below meth c H locs 0 0 Q (F0 m pc ls (.int x :: st.map (xR ad))) → W p l e R s m args below meth c H locs 0 0 Q (F0 m pc0 ls (st.map (xR ad))))
    (r1 : t = 1 → ∀ (H : Heap) (locs : List Loc) (ls : Array Slot) (x : Nat), ls[i]? = some (.val (.ref x)) → W p l e R s m args below meth c H locs 0 0 Q (F0 m pc ls (.ref x :: st.map (xR ad))) → W p l e R s m args below meth c H locs 0 0 Q (F0 m pc0 ls (st.map (xR ad))))
    (r2 : t = 1 → ∀ (H : Heap) (locs : List Loc) (ls : Array Slot), ls[i]? = some (.val .null) → W p l e R s m args below meth c H locs 0 0 Q (F0 m pc ls (.null :: st.map (xR ad))) → W p l e R s m args below meth c H locs 0 0 Q (F0 m pc0 ls (st.map (xR ad))))
    (r3 : t = 2 → ∀ (H : Heap) (locs : List Loc) (ls : Array Slot) (x : Int64), ls[i]? = some (.val (.long x)) → W p l e R s m args below meth c H locs 0 0 Q (F0 m pc ls (.long x :: st.map (xR ad))) → W p l e R s m args below meth c H locs 0 0 Q (F0 m pc0 ls (st.map (xR ad)))) : ww p l e R s m args below meth c nL D cs ad sh A Q pc0 lv st z := by
  unfold xLoad at h
  split at h
  · rename_i x hx
    cases h
    intro H locs ls hP hS hl
    exact r0 rfl H locs ls x (xLd_of hx hl) (k H locs ls hP hS hl)
  · rename_i x hx
    cases h
    intro H locs ls hP hS hl
    exact r1 rfl H locs ls (ad x) (xLd_of hx hl) (k H locs ls hP hS hl)
  · rename_i hx
    cases h
    intro H locs ls hP hS hl
    exact r2 rfl H locs ls (xLd_of hx hl) (k H locs ls hP hS hl)
  · rename_i x hx
    cases h
    intro H locs ls hP hS hl
    exact r3 rfl H locs ls x (xLd_of hx hl) (k H locs ls hP hS hl)
  · cases h
theorem xStore_ok {pc pc0 i t : Nat} {lv : xLv} {st : List Value} {z : xMem} {ps : List Prop} {pc' : Nat} {lv' : xLv} {st' : List Value} {z' : xMem} (h : xStore nL pc lv st z i t = some (ps, pc', lv', st', z'))
    (k : ww p l e R s m args below meth c nL D cs ad sh A Q pc' lv' st' z')
    (r0 : t = 0 → i < nL → ∀ (H : Heap) (locs : List Loc) (ls : Array Slot) (x : Int32) (rest : List Value), lv_has ls nL (xL ad lv) → (∀ ls' : Array Slot, lv_has ls' nL (xL ad (xSt1 lv i (.int x))) → W p l e R s m args below meth c H locs 0 0 Q (F0 m pc ls' rest)) → W p l e R s m args below meth c H locs 0 0 Q (F0 m pc0 ls (.int x :: rest)))
    (r1 : t = 1 → i < nL → ∀ (H : Heap) (locs : List Loc) (ls : Array Slot) (x : Nat) (rest : List Value), lv_has ls nL (xL ad lv) → (∀ ls' : Array Slot, lv_has ls' nL (xL ad (xSt1 lv i (.ref x))) → W p l e R s m args below meth c H locs 0 0 Q (F0 m pc ls' rest)) → W p l e R s m args below meth c H locs 0 0 Q (F0 m pc0 ls (.ref (ad x) :: rest)))
    (r2 : t = 1 → i < nL → ∀ (H : Heap) (locs : List Loc) (ls : Array Slot) (rest : List Value), lv_has ls nL (xL ad lv) → (∀ ls' : Array Slot, lv_has ls' nL (xL ad (xSt1 lv i .null)) → W p l e R s m args below meth c H locs 0 0 Q (F0 m pc ls' rest)) → W p l e R s m args below meth c H locs 0 0 Q (F0 m pc0 ls (.null :: rest)))
    (r3 : t = 2 → i + 1 < nL → ∀ (H : Heap) (locs : List Loc) (ls : Array Slot) (x : Int64) (rest : List Value), lv_has ls nL (xL ad lv) → (∀ ls' : Array Slot, lv_has ls' nL (xL ad (xSt2 lv i (.long x))) → W p l e R s m args below meth c H locs 0 0 Q (F0 m pc ls' rest)) → W p l e R s m args below meth c H locs 0 0 Q (F0 m pc0 ls (.long x :: rest))) : ww p l e R s m args below meth c nL D cs ad sh A Q pc0 lv st z := by
  unfold xStore at h
  split at h
  · split at h
    · rename_i hi
      cases h
      intro H locs ls hP hS hl
      exact r0 rfl hi H locs ls _ _ hl (fun ls' hl' => k H locs ls' hP hS hl')
    · cases h
  · split at h
    · rename_i hi
      cases h
      intro H locs ls hP hS hl
      exact r1 rfl hi H locs ls _ _ hl (fun ls' hl' => k H locs ls' hP hS hl')
    · cases h
  · split at h
    · rename_i hi
      cases h
      intro H locs ls hP hS hl
      exact r2 rfl hi H locs ls _ hl (fun ls' hl' => k H locs ls' hP hS hl')
    · cases h
  · split at h
    · rename_i hi
      cases h
      intro H locs ls hP hS hl
      exact r3 rfl hi H locs ls _ _ hl (fun ls' hl' => k H locs ls' hP hS hl')
    · cases h
  · cases h
theorem xTg_eq {pc : Nat} {off : Int} (h : 0 ≤ (pc : Int) + off) : (pc : Int) + off = ((xTg pc off : Nat) : Int) := by
  unfold xTg
  omega
theorem xC_ls {ls : Array Slot} {lv : xLv} (h : lv_has ls nL (xL ad lv)) (hml : c.maxLocals = nL) : c.maxLocals = ls.size := by rw [hml, h.1]
theorem xW_len0 {cl : List vw_C} : (cl[3]? : Option vw_C) = cl[3]? := rfl
/-- reading a field: the value that the shape tells -/
theorem xGet_ok (C : xC p R s m args meth c own cc nL D cs ad sh A) {ix w a b t : Nat} {v : Int32} {u : Int64} {pc q : Nat} {lv : xLv} {r : List Value} {z : xMem} {ps : List Prop} {pc' : Nat} {lv' : xLv} {st' : List Value} {z' : xMem} (hd : decode cc pc = .ok (.getfield ix, 3)) (hok : xOkI own (.getfield ix) (w, a, b, t) v u = true) (h : xGet sh (pc + 3) lv z a b q r = some (ps, pc', lv', st', z'))
    (k : ww p l e R s m args below meth c nL D cs ad sh A Q pc' lv' st' z') : ww p l e R s m args below meth c nL D cs ad sh A Q pc lv (.ref q :: r) z := by
  obtain ⟨hx, hb, hml, hown, hts, hlk, hK, hi1, hi2, hA, hE, hR⟩ := C
  simp only [xOkI] at hok
  cases hcl : classes[a]? with
  | none => rw [hcl] at hok; cases hok
  | some x =>
    obtain ⟨Cn, T, N⟩ := x
    rw [hcl] at hok
    simp only [Bool.and_eq_true, Bool.or_eq_true, decide_eq_true_eq] at hok
    obtain ⟨hbN, hw⟩ := hok
    obtain ⟨hu, -, -⟩ := lw_cls hcl
    have key : ∀ (fs : List Nat) (cd : Nat) (av : Value), sh[q]? = some (0, a, fs) → fs[b]? = some cd → xR ad av = xV ad z q b cd → ww p l e R s m args below meth c nL D cs ad sh A Q (pc + 3) lv (av :: r) z → ww p l e R s m args below meth c nL D cs ad sh A Q pc lv (.ref q :: r) z := by
      intro fs cd av hs hf hav kk H locs ls hP hS hl
      have h1 := kk H locs ls hP hS hl
      have hv : (xFs (xV ad z q) 0 fs)[b]? = some (xR ad av) := by rw [xFs_get, hf, hav]; simp
      rcases hw with hw | hw
      · exact va_get (D := D) (C := Cn) (T := T) (N := N) (ci := a) hx hb hts hu hown hK hP q (xW_at hs) hcl b hbN (hts _ (lw_mem hw rfl)) (fun _ h9 => h9) hv hd h1
      · exact va_getN (D := D) (C := Cn) (T := T) (N := N) (ci := a) hx hb hts hu hown hK hP q (xW_at hs) hcl b hbN (va_Nw.use rfl (hE.2.2.2.2.1 _ (List.mem_of_getElem? hw) rfl)) (fun _ h9 => h9) hv hd h1
    unfold xGet at h
    split at h
    · rename_i ci fs hs
      split at h
      · rename_i hci
        subst hci
        split at h
        · rename_i hf
          cases h
          exact key fs 0 _ hs hf rfl k
        · rename_i hf
          cases h
          exact key fs 3 _ hs hf rfl k
        · rename_i hf
          cases h
          exact key fs 1 _ hs hf rfl k
        · rename_i cd hf
          cases h
          exact key fs (cd + 4) _ hs hf rfl k
        · cases h
      · cases h
    · cases h
/-- storing into the world: a cell's contents change -/
theorem xW_upd {z : xMem} {q : Nat} {x : Nat × Nat × List Nat} {g : Nat → Int32} {e1 : va_E} (hs : sh[q]? = some x) (he : e1 = xCell ad cs (xUp z.1 q g, z.2) q x) : (xW ad cs z 0 sh).set q (ad q, e1) = xW ad cs (xUp z.1 q g, z.2) 0 sh := xW_set hs he (fun a y hne _ => xCell_up hne)
theorem xPut_ok (C : xC p R s m args meth c own cc nL D cs ad sh A) {ix w a b t : Nat} {v : Int32} {u : Int64} {pc q : Nat} {lv : xLv} {r : List Value} {z : xMem} {w0 : Value} {ps : List Prop} {pc' : Nat} {lv' : xLv} {st' : List Value} {z' : xMem} (hd : decode cc pc = .ok (.putfield ix, 3)) (hok : xOkI own (.putfield ix) (w, a, b, t) v u = true) (h : xPut sh (pc + 3) lv z a b t q w0 r = some (ps, pc', lv', st', z')) (hp : xAll ps)
    (k : ww p l e R s m args below meth c nL D cs ad sh A Q pc' lv' st' z') : ww p l e R s m args below meth c nL D cs ad sh A Q pc lv (w0 :: .ref q :: r) z := by
  obtain ⟨hx, hb, hml, hown, hts, hlk, hK, hi1, hi2, hA, hE, hR⟩ := C
  simp only [xOkI] at hok
  cases hcl : classes[a]? with
  | none => rw [hcl] at hok; cases hok
  | some x =>
    obtain ⟨Cn, T, N⟩ := x
    rw [hcl] at hok
    simp only [Bool.and_eq_true, Bool.or_eq_true, decide_eq_true_eq, Bool.not_eq_true'] at hok
    obtain ⟨⟨⟨hbN, hw⟩, hfin⟩, hty⟩ := hok
    obtain ⟨hu, ⟨ty, htyok⟩, hnm⟩ := lw_cls hcl
    have key : ∀ (fs : List Nat) (rv : Value) (z1 : xMem), sh[q]? = some (0, a, fs) → b < fs.length → (∀ T0 : FieldType, parseFieldDescriptor (T b).2.2.1 = some T0 → narrow T0 rv = rv ∧ fits T0 rv = true) → (xW ad cs z 0 sh).set q (ad q, .inr (a, (xFs (xV ad z q) 0 fs).set b rv)) = xW ad cs z1 0 sh → xR ad w0 = rv → ww p l e R s m args below meth c nL D cs ad sh A Q (pc + 3) lv r z1 → ww p l e R s m args below meth c nL D cs ad sh A Q pc lv (w0 :: .ref q :: r) z := by
      intro fs rv z1 hs hlen hnf hset hrv kk H locs ls hP hS hl
      have hD : va_D A (xW ad cs z 0 sh) := xW_D hi1 hi2
      obtain ⟨n1, n2⟩ := hnf _ hty
      have kk2 : ∀ (H1 : Heap) (locs1 : List Loc), va_P D classes ((xW ad cs z 0 sh).set q (ad q, .inr (a, (xFs (xV ad z q) 0 fs).set b rv))) H1 → va_D A ((xW ad cs z 0 sh).set q (ad q, .inr (a, (xFs (xV ad z q) 0 fs).set b rv))) → va_S A s.heap H1 locs1 → W p l e R s m args below meth c H1 locs1 0 0 Q (F0 m (pc + 3) ls (r.map (xR ad))) := by
        intro H1 locs1 hP1 _ hS1
        rw [hset] at hP1
        exact kk H1 locs1 ls hP1 hS1 hl
      show W p l e R s m args below meth c H locs 0 0 Q (F0 m pc ls (xR ad w0 :: .ref (ad q) :: r.map (xR ad)))
      rw [hrv]
      rcases hw with hw | hw
      · exact va_put (D := D) (C := Cn) (T := T) (N := N) (ci := a) hx hb hts hu ty htyok hnm hown hK hP hD hS q (xW_at hs) hcl b hbN (hts _ (lw_mem hw rfl)) (fun _ h9 => h9) hfin hty n1 n2 (by rw [xFs_len]; exact hlen) hd kk2
      · exact va_putN (D := D) (C := Cn) (T := T) (N := N) (ci := a) hx hb hts hu ty htyok hnm hown hK hP hD hS q (xW_at hs) hcl b hbN (va_Nw.use rfl (hE.2.2.2.2.1 _ (List.mem_of_getElem? hw) rfl)) (fun _ h9 => h9) hfin hty n1 n2 (by rw [xFs_len]; exact hlen) hd kk2
    unfold xPut at h
    split at h
    · rename_i ci fs hs
      split at h
      · rename_i hci
        subst hci
        split at h
        · rename_i x hf
          cases h
          refine key fs (.int x) _ hs (List.getElem?_eq_some_iff.mp hf).1 ?_ (xW_upd hs ?_) rfl k
          · intro T0 hT0
            rw [hty] at hT0
            cases hT0
            exact ⟨rfl, rfl⟩
          · show (Sum.inr _ : va_E) = Sum.inr _
            rw [xFs_put ad z q b x fs 0 hf (Or.inl rfl)]
        · rename_i x hf
          cases h
          refine key fs (.int x) _ hs (List.getElem?_eq_some_iff.mp hf).1 ?_ (xW_upd hs ?_) rfl k
          · intro T0 hT0
            rw [hty] at hT0
            cases hT0
            rcases (hp : x = 0 ∨ x = 1) with rfl | rfl <;> exact ⟨by decide, by decide⟩
          · show (Sum.inr _ : va_E) = Sum.inr _
            rw [xFs_put ad z q b x fs 3 hf (Or.inr rfl)]
        · rename_i x hf
          cases h
          refine key fs (.long x) _ hs (List.getElem?_eq_some_iff.mp hf).1 ?_ (xW_set hs ?_ (fun a y hne _ => xCell_upL hne)) rfl k
          · intro T0 hT0
            rw [hty] at hT0
            cases hT0
            exact ⟨rfl, rfl⟩
          · show (Sum.inr _ : va_E) = Sum.inr _
            rw [xFs_putL ad z q b x fs hf]
        · cases h
      · cases h
    · cases h
end XS
