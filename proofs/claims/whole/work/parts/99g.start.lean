/-! what is given at the law's entry -/
def yGiv : List Cond := flatC (Jvm.Cond.and given_1 narrow_1)
def yIx : List Nat := [87, 93, 95, 97, 99, 101, 103, 105, 107, 109, 111, 113]
theorem st_tab {b : Nat} {s : State} {A : Nat → Prop} (hs : ∀ w ∈ yGiv, w.before #[Value.ref b] s = true) (hts : ∀ w ∈ lw_tbl, w.before #[Value.ref b] s = true) (hA : ∀ a : Nat, a < s.heap.size → ¬ A a) (k : Nat) (hk : k < 4) : ∃ t : Nat, va_Z "LawsLapse" (xTabNm k) "[I" (.ref t) A s s.heap ∧ va_T .int t (xTabN k) (fun j => .int (xTab k j)) A s s.heap := by
  have m0 : ∀ k, k < 4 → xTabN k < 2 ^ 31 := by decide
  have m1 : ∀ k, k < 4 → Cond.arrayOf (.static "LawsLapse" (xTabNm k) "[I") .int ∈ yGiv := by decide +kernel
  have m2 : ∀ k, k < 4 → Cond.eq (.length (.static "LawsLapse" (xTabNm k) "[I")) (.int (Int32.ofNat (xTabN k))) ∈ yGiv := by decide +kernel
  have m3 : ∀ k, k < 4 → ∀ j, j < xTabN k → Cond.eq (.elem (.static "LawsLapse" (xTabNm k) "[I") (.int (Int32.ofNat j))) (.int (xTab k j)) ∈ yGiv := by decide +kernel
  have m4 : ∀ k, k < 4 → Cond.laysStatic "LawsLapse" (xTabNm k) "[I" ∈ lw_tbl := by decide +kernel
  obtain ⟨t, ht, hT⟩ := va_Tof (f := fun j => .int (xTab k j)) (A := A) (m0 k hk) (hs _ (m1 k hk)) (va_eqt (hs _ (m2 k hk))) (fun j hj => va_eqt (hs _ (m3 k hk j hj))) hA
  exact ⟨t, va_Zof (hts _ (m4 k hk)) (hts (Cond.initialized "LawsLapse") (List.mem_of_getElem? (i := 96) (by decide +kernel))) ht hA, hT⟩
theorem st_str {b : Nat} {s : State} {A : Nat → Prop} (hs : ∀ w ∈ yGiv, w.before #[Value.ref b] s = true) (hA : ∀ a : Nat, a < s.heap.size → ¬ A a) : ∃ adK adV : Nat → Nat, vk_S 12 xStrL xStrB adK adV A s s.heap ∧ ∀ i : Nat, i < 12 → (Term.string RX3 (yIx.getD i 0)).eval #[Value.ref b] s none [] s = some (.ref (adK i)) := by
  have m1 : ∀ i, i < 12 → Cond.exactly (.string RX3 (yIx.getD i 0)) "java/lang/String" ∈ yGiv := by decide +kernel
  have m2 : ∀ i, i < 12 → Cond.eq (.field (.string RX3 (yIx.getD i 0)) "java/lang/String" "coder" "B") (.int 0) ∈ yGiv := by decide +kernel
  have m3 : ∀ i, i < 12 → Cond.arrayOf (.field (.string RX3 (yIx.getD i 0)) "java/lang/String" "value" "[B") .byte ∈ yGiv := by decide +kernel
  have m4 : ∀ i, i < 12 → Cond.eq (.length (.field (.string RX3 (yIx.getD i 0)) "java/lang/String" "value" "[B")) (.int (Int32.ofNat (xStrL.getD i 0))) ∈ yGiv := by decide +kernel
  have m5 : ∀ i, i < 12 → ∀ j, j < xStrL.getD i 0 → Cond.eq (.elem (.field (.string RX3 (yIx.getD i 0)) "java/lang/String" "value" "[B") (.int (Int32.ofNat j))) (.int ((xStrB.getD i []).getD j 0)) ∈ yGiv := by decide +kernel
  have m6 : ∀ i, i < 12 → ∀ j, j < 12 → i ≠ j → Cond.not (Cond.eq (.string RX3 (yIx.getD i 0)) (.string RX3 (yIx.getD j 0))) ∈ yGiv ∨ Cond.not (Cond.eq (.string RX3 (yIx.getD j 0)) (.string RX3 (yIx.getD i 0))) ∈ yGiv := by decide +kernel
  exact vk_Sof (tm := fun i => .string RX3 (yIx.getD i 0)) (by decide) (fun i hi => hs _ (m1 i hi)) (fun i hi => hs _ (m2 i hi)) (fun i hi => hs _ (m3 i hi)) (fun i hi => hs _ (m4 i hi)) (fun i hi j hj => hs _ (m5 i hi j hj)) (fun i j hi hj hij => (m6 i hi j hj hij).imp (hs _) (hs _)) hA
def yChk (w : Cond) : Bool := match w with
  | .stringRef _ k t => (List.range 12).all (fun i => decide (t ≠ xStr.getD i "") || decide (k = yIx.getD i 0))
  | _ => true
theorem yChk_all : lw_tbl.all yChk = true := by decide +kernel
theorem yChk_ix {i ix : Nat} {o : String} (hi : i < 12) (h : Cond.stringRef o ix (xStr.getD i "") ∈ lw_tbl) : ix = yIx.getD i 0 := by
  have h1 := List.all_eq_true.mp yChk_all _ h
  have h2 := List.all_eq_true.mp (show (List.range 12).all (fun i' => decide (xStr.getD i "" ≠ xStr.getD i' "") || decide (ix = yIx.getD i' 0)) = true from h1) i (List.mem_range.mpr hi)
  rcases (Bool.or_eq_true _ _).mp h2 with h3 | h3
  · exact absurd rfl (of_decide_eq_true h3)
  · exact of_decide_eq_true h3
theorem st_env {b : Nat} {s : State} {A : Nat → Prop} (hs : ∀ w ∈ yGiv, w.before #[Value.ref b] s = true) (hts : ∀ w ∈ lw_tbl, w.before #[Value.ref b] s = true) (hA : ∀ a : Nat, a < s.heap.size → ¬ A a) : ∃ ad0 : Nat → Nat, xEnv ad0 A s s.heap ∧ ad0 5000 = b := by
  have h0 : ∀ k : Nat, ∃ t : Nat, k < 4 → va_Z "LawsLapse" (xTabNm k) "[I" (.ref t) A s s.heap ∧ va_T .int t (xTabN k) (fun j => .int (xTab k j)) A s s.heap := fun k => by
    by_cases hk : k < 4
    · obtain ⟨t, ht⟩ := st_tab hs hts hA k hk
      exact ⟨t, fun _ => ht⟩
    · exact ⟨0, fun h => absurd h hk⟩
  obtain ⟨tb, htb⟩ := Classical.axiomOfChoice h0
  obtain ⟨adK, adV, hS, hev⟩ := st_str hs hA
  obtain ⟨v, hv, hr⟩ := Cond.isRef_spec (show (Cond.isRef (.static "jdk/internal/util/Preconditions" "SIOOBE_FORMATTER" "Ljava/util/function/BiFunction;")).before #[Value.ref b] s = true from hs _ (by decide +kernel))
  have hF : va_Z "jdk/internal/util/Preconditions" "SIOOBE_FORMATTER" "Ljava/util/function/BiFunction;" v A s s.heap := va_Zof (hts _ (List.mem_of_getElem? (i := 490) (by decide +kernel))) (hts (Cond.initialized "jdk/internal/util/Preconditions") (List.mem_of_getElem? (i := 107) (by decide +kernel))) hv hA
  have hF2 : ∃ fm : Nat, v = .null ∨ v = .ref fm := by
    cases v <;> first | exact ⟨0, Or.inl rfl⟩ | exact ⟨_, Or.inr rfl⟩ | (exact absurd hr (by simp [Value.isRef]))
  obtain ⟨fm, hfm⟩ := hF2
  have w1 : ∀ w ∈ lw_tbl, xNw w = true → w.onTables = true := fun w _ h => by
    cases w <;> first | (cases h; done) | rfl
  have t0 : ∀ k, (fun q : Nat => if q < 2000 then tb (q - 1000) else if q < 3000 then adK (q - 2000) else if q < 4000 then adV (q - 3000) else if q < 5000 then fm else b) (1000 + k) = if 1000 + k < 2000 then tb k else if 1000 + k < 3000 then adK (1000 + k - 2000) else if 1000 + k < 4000 then adV (1000 + k - 3000) else if 1000 + k < 5000 then fm else b := fun k => by
    show (if 1000 + k < 2000 then tb (1000 + k - 1000) else _) = _
    rw [Nat.add_sub_cancel_left]
  refine ⟨fun q => if q < 2000 then tb (q - 1000) else if q < 3000 then adK (q - 2000) else if q < 4000 then adV (q - 3000) else if q < 5000 then fm else b, ⟨fun k hk => ?_, ?_, fun i ix hi hm => ?_, ?_, fun w hw hn => va_Nw.of (w1 w hw hn) (hts w hw), ?_⟩, rfl⟩
  · rw [t0 k, if_pos (by omega)]
    exact htb k hk
  · refine ⟨fun i hi => ?_, fun i j hi hj e => ?_⟩
    · have e1 : (if 2000 + i < 2000 then tb (2000 + i - 1000) else if 2000 + i < 3000 then adK (2000 + i - 2000) else if 2000 + i < 4000 then adV (2000 + i - 3000) else if 2000 + i < 5000 then fm else b) = adK i := by
        rw [if_neg (by omega), if_pos (by omega), Nat.add_sub_cancel_left]
      have e2 : (if 3000 + i < 2000 then tb (3000 + i - 1000) else if 3000 + i < 3000 then adK (3000 + i - 2000) else if 3000 + i < 4000 then adV (3000 + i - 3000) else if 3000 + i < 5000 then fm else b) = adV i := by
        rw [if_neg (by omega), if_neg (by omega), if_pos (by omega), Nat.add_sub_cancel_left]
      dsimp only
      rw [e1, e2]
      exact hS.1 i hi
    · dsimp only at e
      rw [if_neg (by omega), if_pos (by omega), Nat.add_sub_cancel_left, if_neg (by omega), if_pos (by omega), Nat.add_sub_cancel_left] at e
      exact hS.2 i j hi hj e
  · dsimp only
    rw [if_neg (by omega), if_pos (by omega), Nat.add_sub_cancel_left]
    have e := yChk_ix hi hm
    subst e
    exact vk_R.of (hts _ hm) (hev i hi)
  · exact va_Zof (hts _ (List.mem_of_getElem? (i := 474) (by decide +kernel))) (hts (Cond.initialized "java/lang/String") (List.mem_of_getElem? (i := 105) (by decide +kernel))) (va_eqt (hs _ (by decide +kernel))) hA
  · rcases hfm with rfl | rfl
    · exact Or.inl hF
    · exact Or.inr hF
theorem st_D {b : Nat} {s : State} (hts : ∀ w ∈ lw_gt, w.before #[Value.ref b] s = true) : ∃ D : va_G, ∀ (c : Nat) (q : vw_C), classes[c]? = some q → u_Kn s q.1 q.2.1 q.2.2 (D.1 c) (D.2 c) := by
  obtain ⟨c0, i0, h0⟩ := u_known (args := #[Value.ref b]) (C := RX0) (T := TX0) (N := 15) (n := 15) hts lw_u0 (hts _ (lw_gt_of (List.mem_of_getElem? (i := 174) (by decide +kernel)) rfl))
  obtain ⟨c1, i1, h1⟩ := u_known (args := #[Value.ref b]) (C := RX1) (T := TX1) (N := 7) (n := 7) hts lw_u1 (hts _ (lw_gt_of (List.mem_of_getElem? (i := 246) (by decide +kernel)) rfl))
  obtain ⟨c2, i2, h2⟩ := u_known (args := #[Value.ref b]) (C := RX2) (T := TX2) (N := 3) (n := 3) hts lw_u2 (hts _ (lw_gt_of (List.mem_of_getElem? (i := 278) (by decide +kernel)) rfl))
  obtain ⟨c3, i3, h3⟩ := u_known (args := #[Value.ref b]) (C := RX3) (T := TX3) (N := 7) (n := 7) hts lw_u3 (hts _ (lw_gt_of (List.mem_of_getElem? (i := 144) (by decide +kernel)) rfl))
  obtain ⟨c4, i4, h4⟩ := u_known (args := #[Value.ref b]) (C := RX4) (T := TX4) (N := 4) (n := 4) hts lw_u4 (hts _ (lw_gt_of (List.mem_of_getElem? (i := 119) (by decide +kernel)) rfl))
  obtain ⟨c5, i5, h5⟩ := u_known (args := #[Value.ref b]) (C := RX5) (T := TX5) (N := 8) (n := 8) hts lw_u5 (hts _ (lw_gt_of (List.mem_of_getElem? (i := 111) (by decide +kernel)) rfl))
  obtain ⟨c6, i6, h6⟩ := u_known (args := #[Value.ref b]) (C := RX6) (T := TX6) (N := 50) (n := 50) hts lw_u6 (hts _ (lw_gt_of (List.mem_of_getElem? (i := 797) (by decide +kernel)) rfl))
  refine ⟨(fun k => [c0, c1, c2, c3, c4, c5, c6].getD k c0, fun k => [i0, i1, i2, i3, i4, i5, i6].getD k i0), fun c q hq => ?_⟩
  match c, hq with
  | 0, hq => cases hq; exact h0
  | 1, hq => cases hq; exact h1
  | 2, hq => cases hq; exact h2
  | 3, hq => cases hq; exact h3
  | 4, hq => cases hq; exact h4
  | 5, hq => cases hq; exact h5
  | 6, hq => cases hq; exact h6
  | n + 7, hq => cases hq
theorem st_cs {b : Nat} {s : State} (hts : ∀ w ∈ lw_tbl, w.before #[Value.ref b] s = true) : ∃ cs : Nat → ClassId, ∀ (k : Nat) (q : ClassId × FieldType), (xTys cs)[k]? = some q → ArrOfT s q.1 q.2 ∧ va_RA s q.1 q.2 := by
  obtain ⟨c0, k0, p0, f0, g0, h0⟩ := Cond.arrayClass_spec (type := .int) (hts (Cond.arrayClass .int) (List.mem_of_getElem? (i := 142) (by decide +kernel)))
  obtain ⟨c1, k1, p1, f1, g1, h1⟩ := Cond.arrayClass_spec (type := .boolean) (hts (Cond.arrayClass .boolean) (List.mem_of_getElem? (i := 956) (by decide +kernel)))
  obtain ⟨p2, c2, k2, a2, b2, g2, h2, f2⟩ := arrayOverA_spec (t := .int) (hts (Cond.arrayOver (.array .int)) (List.mem_of_getElem? (i := 125) (by decide +kernel)))
  obtain ⟨p3, c3, k3, a3, b3, g3, h3, f3⟩ := Cond.arrayOver_spec (hts (Cond.arrayOver (.object "LawsLapse$Sheet")) (List.mem_of_getElem? (i := 277) (by decide +kernel)))
  refine ⟨fun k => [c0, c1, c2, c3].getD k c0, fun k q hq => ?_⟩
  match k, hq with
  | 0, hq => cases hq; exact ⟨fun n z => ⟨fun k h => (by cases h), k0, g0, p0, h0⟩, f0⟩
  | 1, hq => cases hq; exact ⟨fun n z => ⟨fun k h => (by cases h), k1, g1, p1, h1⟩, f1⟩
  | 2, hq => cases hq; exact ⟨fun n z => ⟨fun k h => (by cases h), k2, g2, p2, h2⟩, f2⟩
  | 3, hq => cases hq; exact ⟨fun n z => ⟨fun k h => (by cases h), k3, g3, p3, h3⟩, k3, p3, g3, h3, a3, f3⟩
  | n + 4, hq => cases hq
theorem st_E {b : Nat} {s : State} (hts : ∀ w ∈ lw_tbl, w.before #[Value.ref b] s = true) : yE s := by
  have w1 : ∀ w ∈ lw_tbl, xNw w = true → w.onTables = true := fun w _ h => by
    cases w <;> first | (cases h; done) | rfl
  exact ⟨fun w hw hn => va_Nw.of (w1 w hw hn) (hts w hw), va_AO.of (hts (Cond.arrayOver (.object "LawsLapse$Sheet")) (List.mem_of_getElem? (i := 277) (by decide +kernel))), over_moved (Vm.Alike.refl s.vm) (hts (Cond.arrayOver (.array .int)) (List.mem_of_getElem? (i := 125) (by decide +kernel)))⟩
