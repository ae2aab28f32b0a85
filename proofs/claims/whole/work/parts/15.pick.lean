section XPK
variable {p : Program} {l : Launch} {e : Env} {R : Room} {s : State} {m : MethodId} {args : Array Value} {below : List Frame} {meth : Method} {c : Code} {own : String} {cc : ByteArray} {nL : Nat} {D : va_G} {cs : Nat → ClassId} {ad : Nat → Nat} {sh : xSh} {A : Nat → Prop} {Q : State → Prop}
theorem xL_pick (ad : Nat → Nat) (lv : xLv) (ks : List Nat) : lv_pick (xL ad lv) ks = xL ad (lv_pick lv ks) := by
  unfold lv_pick xL
  rw [List.map_filterMap]
  congr 1
  funext k
  rw [List.getElem?_map]
theorem ww_pick (ks : List Nat) {pc : Nat} {lv lv' : xLv} {st : List Value} {z : xMem} (h : lv_pick lv ks = lv') (k : ww p l e R s m args below meth c nL D cs ad sh A Q pc lv' st z) : ww p l e R s m args below meth c nL D cs ad sh A Q pc lv st z := by
  intro H locs ls hP hS hl
  exact k H locs ls hP hS (lv_sub hl ks (by rw [xL_pick, h]))
end XPK
theorem xvp_lit {i : Int32} {n : Nat} (h1 : ¬ i < 0) (h2 : i.toNatClampNeg < n) : vp_in i n := fun q => by
  rcases q with q | q
  · exact h1 q
  · omega
theorem xlc {i : Nat} {v v' : Value} {l l' : xLv} (h : v = v') (h2 : l = l') : (i, v) :: l = (i, v') :: l' := by rw [h, h2]
theorem xsc {v v' : Value} {l l' : List Value} (h : v = v') (h2 : l = l') : v :: l = v' :: l' := by rw [h, h2]
section XPK2
variable {p : Program} {l : Launch} {e : Env} {R : Room} {s : State} {m : MethodId} {args : Array Value} {below : List Frame} {meth : Method} {c : Code} {nL : Nat} {D : va_G} {cs : Nat → ClassId} {ad : Nat → Nat} {sh : xSh} {A : Nat → Prop} {Q : State → Prop}
theorem ww_cut (ks : List Nat) {pc : Nat} {lv lv' : xLv} {st st' : List Value} {z z' : xMem} (h : lv_pick lv ks = lv') (h2 : st = st') (h3 : z = z') (k : ww p l e R s m args below meth c nL D cs ad sh A Q pc lv' st' z') : ww p l e R s m args below meth c nL D cs ad sh A Q pc lv st z := by
  subst h2; subst h3
  exact ww_pick ks h k
end XPK2
