section XS3
variable {p : Program} {l : Launch} {e : Env} {R : Room} {s : State} {m : MethodId} {args : Array Value} {below : List Frame} {meth : Method} {c : Code} {own : String} {cc : ByteArray} {nL : Nat} {D : va_G} {cs : Nat → ClassId} {ad : Nat → Nat} {sh : xSh} {A : Nat → Prop} {Q : State → Prop}
set_option maxHeartbeats 2000000 in
theorem xS1_ok (C : xC p R s m args meth c own cc nL D cs ad sh A) {x : xI} {lv : xLv} {st : List Value} {z : xMem} {ps : List Prop} {pc' : Nat} {lv' : xLv} {st' : List Value} {z' : xMem} (hok : xOk own cc x = true) (h : xS1 sh nL x lv st z = some (ps, pc', lv', st', z')) (hp : xAll ps)
    (k : ww p l e R s m args below meth c nL D cs ad sh A Q pc' lv' st' z') : ww p l e R s m args below meth c nL D cs ad sh A Q x.1 lv st z := by
  have hd := xOk_d hok
  have hi := xOk_i hok
  obtain ⟨pc, i, ⟨w, a, b, t⟩, v, u⟩ := x
  have C0 := C
  obtain ⟨hx, hb, hml, hown, hts, hlk, hK, hi1, hi2, hA, hE, hR⟩ := C0
  dsimp only at hd hi ⊢
  cases i

  case iconst n =>
    exact xPush_ok h k (fun H locs ls _ _ kk => lv_iconst hx hb hd (of_decide_eq_true hi) kk)
  case bipush n =>
    exact xPush_ok h k (fun H locs ls _ _ kk => lv_bipush hx hb hd (of_decide_eq_true hi) kk)
  case sipush n =>
    exact xPush_ok h k (fun H locs ls _ _ kk => lv_sipush hx hb hd (of_decide_eq_true hi) kk)
  case lconst n =>
    exact xPush_ok h k (fun H locs ls _ _ kk => lv_lconst hx hb hd (of_decide_eq_true hi) kk)
  case ldc ix =>
    simp only [xOkI] at hi
    simp only [xS1] at h
    split at h
    · rename_i ha
      rw [if_pos ha] at hi
      exact xPush_ok h k (fun H locs ls _ _ kk => lv_ldc hx hb hown (hts _ (lw_mem (of_decide_eq_true hi) rfl)) hd kk)
    · rename_i ha
      rw [if_neg ha] at hi
      obtain ⟨h1, h2, h3⟩ := of_decide_eq_true hi
      exact xPush_ok h k (fun H locs ls _ hS kk => va_ldcS hx hb hown (by rw [h1] at h3 ⊢; exact hE.2.2.1 b ix h2 (List.mem_of_getElem? h3)) hd kk)
  case ldc_w ix =>
    exact xPush_ok h k (fun H locs ls _ _ kk => lv_ldcw hx hb hown (hts _ (lw_mem (of_decide_eq_true hi) rfl)) hd kk)
  case ldc2_w ix =>
    exact xPush_ok h k (fun H locs ls _ _ kk => lv_ldc2 hx hb hown (hts _ (lw_mem (of_decide_eq_true hi) rfl)) hd kk)
  case aconst_null =>
    exact xPush_ok h k (fun H locs ls _ _ kk => lv_null hx hb hd kk)
  case iload_n n =>
    exact xLoad_ok h k (fun _ H locs ls x hl kk => lv_iload_n hx hb hd rfl hl kk) (fun q => by cases q) (fun q => by cases q) (fun q => by cases q)
  case iload n =>
    exact xLoad_ok h k (fun _ H locs ls x hl kk => lv_iload hx hb hd hl kk) (fun q => by cases q) (fun q => by cases q) (fun q => by cases q)
  case aload_n n =>
    exact xLoad_ok h k (fun q => by cases q) (fun _ H locs ls x hl kk => lv_aload_n hx hb hd rfl hl kk) (fun _ H locs ls hl kk => lv_aload_nN hx hb hd rfl hl kk) (fun q => by cases q)
  case aload n =>
    exact xLoad_ok h k (fun q => by cases q) (fun _ H locs ls x hl kk => lv_aload hx hb hd hl kk) (fun _ H locs ls hl kk => lv_aloadN hx hb hd hl kk) (fun q => by cases q)
  case lload_n n =>
    exact xLoad_ok h k (fun q => by cases q) (fun q => by cases q) (fun q => by cases q) (fun _ H locs ls x hl kk => lv_lload_n hx hb hd rfl hl kk)
  case lload n =>
    exact xLoad_ok h k (fun q => by cases q) (fun q => by cases q) (fun q => by cases q) (fun _ H locs ls x hl kk => lv_lload hx hb hd hl kk)
  case istore_n n =>
    exact xStore_ok h k (fun _ hn H locs ls x rest hl kk => lv_istore_n hx hb hd rfl hl hn (xL_st1 ad lv _ (.int x)) kk) (fun q => by cases q) (fun q => by cases q) (fun q => by cases q)
  case istore n =>
    exact xStore_ok h k (fun _ hn H locs ls x rest hl kk => lv_istore hx hb hd hl hn (xL_st1 ad lv _ (.int x)) kk) (fun q => by cases q) (fun q => by cases q) (fun q => by cases q)
  case astore_n n =>
    exact xStore_ok h k (fun q => by cases q) (fun _ hn H locs ls x rest hl kk => lv_astore_n hx hb hd rfl hl hn (xL_st1 ad lv _ (.ref x)) kk) (fun _ hn H locs ls rest hl kk => lv_astore_nN hx hb hd rfl hl hn (xL_st1 ad lv _ .null) kk) (fun q => by cases q)
  case astore n =>
    exact xStore_ok h k (fun q => by cases q) (fun _ hn H locs ls x rest hl kk => lv_astore hx hb hd hl hn (xL_st1 ad lv _ (.ref x)) kk) (fun _ hn H locs ls rest hl kk => lv_astoreN hx hb hd hl hn (xL_st1 ad lv _ .null) kk) (fun q => by cases q)
  case lstore_n n =>
    exact xStore_ok h k (fun q => by cases q) (fun q => by cases q) (fun q => by cases q) (fun _ hn H locs ls x rest hl kk => lv_lstore_n hx hb hd rfl hl hn (xL_st2 ad lv _ (.long x)) kk)
  case lstore n =>
    exact xStore_ok h k (fun q => by cases q) (fun q => by cases q) (fun q => by cases q) (fun _ hn H locs ls x rest hl kk => lv_lstore hx hb hd hl hn (xL_st2 ad lv _ (.long x)) kk)
  case iinc n n2 =>
    simp only [xS1] at h
    split at h
    · rename_i y hy
      split at h
      · rename_i hn
        cases h
        intro H locs ls hP hS hl
        obtain ⟨k9, hk9⟩ := xLd_k (ad := ad) hy
        have hv : Int32.ofInt n2 = v := of_decide_eq_true hi
        exact lv_iinc hx hb hd hl hk9 (by rw [hv]) hn (xL_st1 ad lv n (.int (y + v))) (fun ls' hl' => k H locs ls' hP hS hl')
      · cases h
    · cases h
  case iadd =>
    obtain ⟨x, y, r, rfl, h⟩ := xP2i_of h
    cases h
    intro H locs ls hP hS hl
    exact lv_iadd hx hb hd (k H locs ls hP hS hl)
  case isub =>
    obtain ⟨x, y, r, rfl, h⟩ := xP2i_of h
    cases h
    intro H locs ls hP hS hl
    exact lv_isub hx hb hd (k H locs ls hP hS hl)
  case imul =>
    obtain ⟨x, y, r, rfl, h⟩ := xP2i_of h
    cases h
    intro H locs ls hP hS hl
    exact lv_imul hx hb hd (k H locs ls hP hS hl)
  case iand =>
    obtain ⟨x, y, r, rfl, h⟩ := xP2i_of h
    cases h
    intro H locs ls hP hS hl
    exact lv_iand hx hb hd (k H locs ls hP hS hl)
  case ior =>
    obtain ⟨x, y, r, rfl, h⟩ := xP2i_of h
    cases h
    intro H locs ls hP hS hl
    exact lv_ior hx hb hd (k H locs ls hP hS hl)
  case ixor =>
    obtain ⟨x, y, r, rfl, h⟩ := xP2i_of h
    cases h
    intro H locs ls hP hS hl
    exact lv_ixor hx hb hd (k H locs ls hP hS hl)
  case ishl =>
    obtain ⟨x, y, r, rfl, h⟩ := xP2i_of h
    cases h
    intro H locs ls hP hS hl
    exact lv_ishl hx hb hd (k H locs ls hP hS hl)
  case ishr =>
    obtain ⟨x, y, r, rfl, h⟩ := xP2i_of h
    cases h
    intro H locs ls hP hS hl
    exact lv_ishr hx hb hd (k H locs ls hP hS hl)
  case idiv =>
    obtain ⟨x, y, r, rfl, h⟩ := xP2i_of h
    cases h
    intro H locs ls hP hS hl
    exact lv_idiv hx hb hd hp (k H locs ls hP hS hl)
  case irem =>
    obtain ⟨x, y, r, rfl, h⟩ := xP2i_of h
    cases h
    intro H locs ls hP hS hl
    exact lv_irem hx hb hd hp (k H locs ls hP hS hl)
  case iushr =>
    obtain ⟨x, y, r, rfl, h⟩ := xP2i_of h
    cases h
    intro H locs ls hP hS hl
    exact lv_iushr hx hb hd rfl (k H locs ls hP hS hl)
  case ineg =>
    obtain ⟨x, r, rfl, h⟩ := xP1i_of h
    cases h
    intro H locs ls hP hS hl
    exact lv_ineg hx hb hd (k H locs ls hP hS hl)
  case i2l =>
    obtain ⟨x, r, rfl, h⟩ := xP1i_of h
    cases h
    intro H locs ls hP hS hl
    exact lv_i2l hx hb hd rfl (k H locs ls hP hS hl)
  case i2b =>
    obtain ⟨x, r, rfl, h⟩ := xP1i_of h
    cases h
    intro H locs ls hP hS hl
    exact lv_i2b hx hb hd rfl (k H locs ls hP hS hl)
  case i2s =>
    obtain ⟨x, r, rfl, h⟩ := xP1i_of h
    cases h
    intro H locs ls hP hS hl
    exact lv_i2s hx hb hd rfl (k H locs ls hP hS hl)
  case l2i =>
    obtain ⟨x, r, rfl, h⟩ := xP1l_of h
    cases h
    intro H locs ls hP hS hl
    exact lv_l2i hx hb hd rfl (k H locs ls hP hS hl)
  case ladd =>
    obtain ⟨x, y, r, rfl, h⟩ := xP2l_of h
    cases h
    intro H locs ls hP hS hl
    exact lv_ladd hx hb hd (k H locs ls hP hS hl)
  case lsub =>
    obtain ⟨x, y, r, rfl, h⟩ := xP2l_of h
    cases h
    intro H locs ls hP hS hl
    exact lv_lsub hx hb hd (k H locs ls hP hS hl)
  case lmul =>
    obtain ⟨x, y, r, rfl, h⟩ := xP2l_of h
    cases h
    intro H locs ls hP hS hl
    exact lv_lmul hx hb hd (k H locs ls hP hS hl)
  case ldiv =>
    obtain ⟨x, y, r, rfl, h⟩ := xP2l_of h
    cases h
    intro H locs ls hP hS hl
    exact lv_ldiv hx hb hd hp (k H locs ls hP hS hl)
  case lrem =>
    obtain ⟨x, y, r, rfl, h⟩ := xP2l_of h
    cases h
    intro H locs ls hP hS hl
    exact lv_lrem hx hb hd hp (k H locs ls hP hS hl)
  case lcmp =>
    obtain ⟨x, y, r, rfl, h⟩ := xP2l_of h
    cases h
    intro H locs ls hP hS hl
    exact W.lcmp hx hb hd (k H locs ls hP hS hl)
  case dup =>
    simp only [xS1] at h
    split at h
    · cases h
      intro H locs ls hP hS hl
      exact lv_dup hx hb hd rfl (k H locs ls hP hS hl)
    · cases h
      intro H locs ls hP hS hl
      exact lv_dup hx hb hd rfl (k H locs ls hP hS hl)
    · cases h
  case dup2 =>
    simp only [xS1] at h
    split at h
    · cases h
      intro H locs ls hP hS hl
      exact lv_dup2_11 hx hb hd rfl rfl (k H locs ls hP hS hl)
    · cases h
  case pop =>
    simp only [xS1] at h
    split at h
    · cases h
      intro H locs ls hP hS hl
      exact lv_pop hx hb hd rfl (k H locs ls hP hS hl)
    · cases h
      intro H locs ls hP hS hl
      exact lv_pop hx hb hd rfl (k H locs ls hP hS hl)
    · cases h
  case goto off =>
    simp only [xS1, xGo] at h
    split at h
    · rename_i ho
      cases h
      intro H locs ls hP hS hl
      exact lv_goto hx hb hd (xTg_eq ho) (k H locs ls hP hS hl)
    · cases h
  case ifnull off =>
    simp only [xS1, xGo] at h
    split at h
    · cases h
      intro H locs ls hP hS hl
      exact lv_ifnull hx hb hd (k H locs ls hP hS hl)
    · split at h
      · rename_i ho
        cases h
        intro H locs ls hP hS hl
        exact lv_ifnullN hx hb hd (xTg_eq ho) (k H locs ls hP hS hl)
      · cases h
    · cases h
  case ifnonnull off =>
    simp only [xS1, xGo] at h
    split at h
    · cases h
      intro H locs ls hP hS hl
      exact lv_ifnonnullN hx hb hd (k H locs ls hP hS hl)
    · split at h
      · rename_i ho
        cases h
        intro H locs ls hP hS hl
        exact lv_ifnonnull hx hb hd (xTg_eq ho) (k H locs ls hP hS hl)
      · cases h
    · cases h
  case getfield ix =>
    obtain ⟨q, r, rfl, h⟩ := xP1a_of h
    exact xGet_ok C hd hi h k
  case putfield ix =>
    simp only [xS1] at h
    split at h
    · exact xPut_ok C hd hi h hp k
    · cases h
  case getstatic ix =>
    simp only [xS1] at h
    split at h
    · rename_i ha
      have hi' := (Bool.or_eq_true _ _).mp hi
      rcases hi' with hi' | hi'
      · obtain ⟨h1, h2, h3⟩ := of_decide_eq_true hi'
        exact xPush_ok h k (fun H locs ls _ hS kk => va_gets hx hb (hE.1 a ha).1 hS hown (hts _ (lw_mem h3 rfl)) (fun _ h9 => h9) hd kk)
      · obtain ⟨h1, h2, h3⟩ := of_decide_eq_true hi'
        exact xPush_ok h k (fun H locs ls _ hS kk => va_getsN hx hb (hE.1 a ha).1 hS hown (va_Nw.use rfl (hE.2.2.2.2.1 _ (List.mem_of_getElem? h3) rfl)) (fun _ h9 => h9) hd kk)
    · cases h
  case iaload =>
    obtain ⟨q, i, r, rfl, h⟩ := xPai_of h
    exact xIald_ok C hd h hp k
  case baload =>
    obtain ⟨q, i, r, rfl, h⟩ := xPai_of h
    exact xBald_ok C hd h hp k
  case aaload =>
    obtain ⟨q, i, r, rfl, h⟩ := xPai_of h
    exact xAald_ok C hd h hp k
  case iastore =>
    obtain ⟨q, i, x, r, rfl, h⟩ := xPaii_of h
    exact xIast_ok C hd h hp k
  case bastore =>
    obtain ⟨q, i, x, r, rfl, h⟩ := xPaii_of h
    exact xBast_ok C hd h hp k
  case arraylength =>
    obtain ⟨q, r, rfl, h⟩ := xP1a_of h
    exact xAlen_ok C hd h k
  case invokestatic ix =>
    match a, h, hi with
    | 0, h, hi =>
      simp only [xS1] at h
      obtain ⟨x, y, r, rfl, h2⟩ := xP2i_of h
      clear h
      split at h2
      · rename_i hr
        cases h2
        have hi : decide (lw_tbl[w]? = some (.methodLink own ix Lib.Math.max.name)) = true := hi
        intro H locs ls hP hS hl
        exact va_mmax hx hb (xC_ls hl hml) hown (hts _ (lw_mem (of_decide_eq_true hi) rfl)) (hts (.static Lib.Math.max.name) (lw_gt_of (by decide +kernel) rfl)) (hts (.initialized "java/lang/Math") (lw_gt_of (by decide +kernel) rfl)) (hts (.code Lib.Math.max.name Lib.Math.max.code 2 (some .int)) (lw_gt_of (by decide +kernel) rfl)) hR.1 (by rw [xR_sum]; omega) (Nat.zero_le _) (Nat.zero_le _) hd (k H locs ls hP hS hl)
      · cases h2
    | 1, h, hi =>
      simp only [xS1] at h
      obtain ⟨x, y, r, rfl, h2⟩ := xP2i_of h
      clear h
      split at h2
      · rename_i hr
        cases h2
        have hi : decide (lw_tbl[w]? = some (.methodLink own ix Lib.Math.min.name)) = true := hi
        intro H locs ls hP hS hl
        exact va_mmin hx hb (xC_ls hl hml) hown (hts _ (lw_mem (of_decide_eq_true hi) rfl)) (hts (.static Lib.Math.min.name) (lw_gt_of (by decide +kernel) rfl)) (hts (.initialized "java/lang/Math") (lw_gt_of (by decide +kernel) rfl)) (hts (.code Lib.Math.min.name Lib.Math.min.code 2 (some .int)) (lw_gt_of (by decide +kernel) rfl)) hR.1 (by rw [xR_sum]; omega) (Nat.zero_le _) (Nat.zero_le _) hd (k H locs ls hP hS hl)
      · cases h2
    | 2, h, hi =>
      simp only [xS1] at h
      have hi : decide (lw_tbl[w]? = some (.methodLink own ix arraycopyName)) = true := hi
      exact xCopy_ok C hd (of_decide_eq_true hi) h hp k
    | a + 3, h, hi => cases h
  all_goals cases h

theorem xAll_app {a b : List Prop} (h : xAll (a ++ b)) : xAll a ∧ xAll b := by
  induction a with
  | nil => exact ⟨trivial, h⟩
  | cons x a ih =>
    cases a with
    | nil =>
      cases b with
      | nil => exact ⟨h, trivial⟩
      | cons y b => exact ⟨h.1, h.2⟩
    | cons y a =>
      obtain ⟨h1, h2⟩ := ih h.2
      exact ⟨⟨h.1, h1⟩, h2⟩
theorem xRun_ok (C : xC p R s m args meth c own cc nL D cs ad sh A) : ∀ (L : List xI) {pc : Nat} {lv : xLv} {st : List Value} {z : xMem} {ps : List Prop} {pc' : Nat} {lv' : xLv} {st' : List Value} {z' : xMem}, (∀ x ∈ L, xOk own cc x = true) → xRun sh nL L pc lv st z = some (ps, pc', lv', st', z') → xAll ps →
    ww p l e R s m args below meth c nL D cs ad sh A Q pc' lv' st' z' → ww p l e R s m args below meth c nL D cs ad sh A Q pc lv st z
  | [], pc, lv, st, z, ps, pc', lv', st', z', _, h, _, k => by
    cases h
    exact k
  | x :: L, pc, lv, st, z, ps, pc', lv', st', z', hok, h, hp, k => by
    simp only [xRun] at h
    split at h
    · rename_i hpc
      split at h
      · rename_i p1 pc1 lv1 st1 z1 h1
        split at h
        · rename_i p2 fr h2
          cases h
          obtain ⟨a1, a2⟩ := xAll_app hp
          rw [← hpc]
          exact xS1_ok C (hok x List.mem_cons_self) h1 a1 (xRun_ok C L (fun y hy => hok y (List.mem_cons_of_mem _ hy)) h2 a2 k)
        · cases h
      · cases h
    · cases h
/-- a block: n instructions of the method's list, from its a-th on -/
theorem ww_blk (C : xC p R s m args meth c own cc nL D cs ad sh A) {K : List xI} (hK : K.all (xOk own cc) = true) (a n : Nat) {pc : Nat} {lv : xLv} {st : List Value} {z : xMem} {ps : List Prop} {pc' : Nat} {lv' : xLv} {st' : List Value} {z' : xMem} (h : xRun sh nL ((K.drop a).take n) pc lv st z = some (ps, pc', lv', st', z')) (hp : xAll ps)
    (k : ww p l e R s m args below meth c nL D cs ad sh A Q pc' lv' st' z') : ww p l e R s m args below meth c nL D cs ad sh A Q pc lv st z :=
  xRun_ok C _ (fun x hx => List.all_eq_true.mp hK x (List.mem_of_mem_drop (List.mem_of_mem_take hx))) h hp k
end XS3
