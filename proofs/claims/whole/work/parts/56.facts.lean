/-! THE START: what the Statement gives of it -/
abbrev A0 (s : State) : Nat → Prop := fun q => s.heap.size ≤ q
theorem st_arr {args : Array Value} {s : State} {ty : FieldType} (h : (Cond.arrayClass ty).before args s = true) : ∃ cA : ClassId, ArrOfT s cA ty ∧ s.vm.findClass ("[" ++ ty.toString) = some cA := by
  obtain ⟨c, k, comp, h1, h2, h3⟩ := Cond.arrayClass_spec (args := args) (first := s) (o := none) (idx := []) h
  exact ⟨c, fun n z => ⟨fun k h => (by cases h), k, h2, comp, h3⟩, h1⟩
theorem st_K {args : Array Value} {s : State} (ht : ∀ w ∈ tb, w.before args s = true) : ∃ (D : va_G) (c3 : ClassId × ClassId × ClassId), va_K D cls7 [(c3.1, .int), (c3.2.1, .long), (c3.2.2, .boolean)] s := by
  obtain ⟨c0, i0, h0⟩ := u_known (C := R_X0) (T := T_X0) (N := 6) (n := 6) ht i_X0 (ht _ w_28)
  obtain ⟨c1, i1, h1⟩ := u_known (C := R_X1) (T := T_X1) (N := 2) (n := 2) ht i_X1 (ht _ w_91)
  obtain ⟨c2, i2, h2⟩ := u_known (C := R_X2) (T := T_X2) (N := 3) (n := 3) ht i_X2 (ht _ w_109)
  obtain ⟨c3, i3, h3⟩ := u_known (C := R_X3) (T := T_X3) (N := 2) (n := 2) ht i_X3 (ht _ w_34)
  obtain ⟨c4, i4, h4⟩ := u_known (C := R_X4) (T := T_X4) (N := 20) (n := 20) ht i_X4 (ht _ w_83)
  obtain ⟨c5, i5, h5⟩ := u_known (C := R_X5) (T := T_X5) (N := 3) (n := 3) ht i_X5 (ht _ w_20)
  obtain ⟨c6, i6, h6⟩ := u_known (C := R_X6) (T := T_X6) (N := 38) (n := 38) ht i_X6 (ht _ w_651)
  obtain ⟨k1, a1, b1⟩ := st_arr (ht _ w_54)
  obtain ⟨k2, a2, b2⟩ := st_arr (ht _ w_784)
  obtain ⟨k3, a3, b3⟩ := st_arr (ht _ w_783)
  refine ⟨(fun k => ([c0, c1, c2, c3, c4, c5, c6] : List ClassId).getD k c0, fun k => ([i0, i1, i2, i3, i4, i5, i6] : List (Nat → Nat)).getD k i0), (k1, k2, k3), fun k q hq => ?_, fun k q hq => ?_⟩
  · match k, hq with
    | 0, hq => cases hq; exact h0
    | 1, hq => cases hq; exact h1
    | 2, hq => cases hq; exact h2
    | 3, hq => cases hq; exact h3
    | 4, hq => cases hq; exact h4
    | 5, hq => cases hq; exact h5
    | 6, hq => cases hq; exact h6
    | k + 7, hq => simp at hq
  · match k, hq with
    | 0, hq => cases hq; exact ⟨a1, b1⟩
    | 1, hq => cases hq; exact ⟨a2, b2⟩
    | 2, hq => cases hq; exact ⟨a3, b3⟩
    | k + 3, hq => simp at hq
abbrev gv9 : List Cond := flatC (Jvm.Cond.and given_1 narrow_1)
abbrev hsS (n : String) : Term := .static "GreetDesk$Hash" n "[I"
theorem gv_roots : ∀ j, j < 8 → gv9[9 + j]? = some (Cond.eq (.elem (hsS "ROOTS") (.int (Int32.ofNat j))) (.int (rootsL.getD j 0))) := by decide +kernel
theorem gv_cubes : ∀ j, j < 64 → gv9[20 + j]? = some (Cond.eq (.elem (hsS "CUBE_ROOTS") (.int (Int32.ofNat j))) (.int (cubesL.getD j 0))) := by decide +kernel
abbrev lbTm (i : Nat) : Term := .string "GreetDesk$Hash" (labX.getD i (0, "")).1
abbrev lbVm (i : Nat) : Term := .field (lbTm i) "java/lang/String" "value" "[B"
def gxS : List Nat := [315, 351, 372, 377, 504, 505, 542, 547, 622, 623, 649, 664, 670, 678, 686]
def gxE : List Nat := [116, 135, 176, 232, 399, 426, 491, 529, 585, 642, 706, 748, 812, 862, 929]
def gxL : List Nat := [257, 275, 294, 314, 335, 356, 378]
def gxD : List (List Nat) := [[0, 293, 312, 332, 352, 373, 393], [0, 0, 313, 333, 353, 374, 394], [0, 0, 0, 334, 354, 375, 395], [0, 0, 0, 0, 355, 376, 396], [0, 0, 0, 0, 0, 377, 397], [0, 0, 0, 0, 0, 0, 398]]
theorem gv_strA : ∀ (i : Nat) (h : i < strL.length), lw_tbl[gxS.getD i 0]? = some (Cond.stringRef strL[i].1 strL[i].2.1 strL[i].2.2) := by decide +kernel
theorem gv_strB : ∀ (i : Nat) (h : i < strL.length), gv9[gxE.getD i 0]? = some (Cond.exactly (.string strL[i].1 strL[i].2.1) "java/lang/String") := by decide +kernel
theorem gv_str : ∀ q ∈ strL, Cond.stringRef q.1 q.2.1 q.2.2 ∈ lw_tbl ∧ Cond.exactly (.string q.1 q.2.1) "java/lang/String" ∈ gv9 := by
  intro q hq
  obtain ⟨i, hi, rfl⟩ := List.getElem_of_mem hq
  exact ⟨List.mem_of_getElem? (gv_strA i hi), List.mem_of_getElem? (gv_strB i hi)⟩
theorem gv_labA : ∀ i, i < 7 → lw_tbl[438 + i]? = some (Cond.stringRef "GreetDesk$Hash" (labX.getD i (0, "")).1 (labX.getD i (0, "")).2) := by decide +kernel
theorem gv_labC : ∀ i, i < 7 → gv9[gxL.getD i 0]? = some (Cond.exactly (lbTm i) "java/lang/String") ∧ gv9[gxL.getD i 0 + 1]? = some (Cond.eq (.field (lbTm i) "java/lang/String" "coder" "B") (.int 0)) ∧ gv9[gxL.getD i 0 + 2]? = some (Cond.arrayOf (lbVm i) .byte) ∧ gv9[gxL.getD i 0 + 3]? = some (Cond.eq (.length (lbVm i)) (.int (Int32.ofNat (labN.getD i 0)))) := by decide +kernel
theorem gv_labB : ∀ i, i < 7 → ∀ j, j < labN.getD i 0 → gv9[gxL.getD i 0 + 4 + j]? = some (Cond.eq (.elem (lbVm i) (.int (Int32.ofNat j))) (.int ((labB.getD i []).getD j 0))) := by decide +kernel
theorem gv_labD0 : ∀ j, j < 7 → ∀ i, i < j → gv9[(gxD.getD i []).getD j 0]? = some (Cond.not (Cond.eq (lbTm i) (lbTm j))) := by decide +kernel
theorem gv_labD {i j : Nat} (hi : i < 7) (hj : j < 7) (h : i ≠ j) : Cond.not (Cond.eq (lbTm i) (lbTm j)) ∈ gv9 ∨ Cond.not (Cond.eq (lbTm j) (lbTm i)) ∈ gv9 := by
  by_cases e : i < j
  · exact Or.inl (List.mem_of_getElem? (gv_labD0 j hj i e))
  · exact Or.inr (List.mem_of_getElem? (gv_labD0 i hi j (by omega)))
theorem gm {i : Nat} {w : Cond} (h : gv9[i]? = some w) : w ∈ gv9 := List.mem_of_getElem? h
theorem tm9 {i : Nat} {w : Cond} (h : lw_tbl[i]? = some w) : w ∈ lw_tbl := List.mem_of_getElem? h
theorem st_X {args : Array Value} {s : State} (l : Launch) (hfl : l.flags = flags0) (hts : ∀ w ∈ lw_tbl, w.before args s = true) (hgv : (Jvm.Cond.and given_1 narrow_1).before args s = true) (D : va_G) (c3 : ClassId × ClassId × ClassId) : ∃ ak av : Nat → Nat, XL (l, D, c3, ak, av) (A0 s) s s.heap := by
  have hs := flat_of_before _ hgv
  have hA : ∀ a : Nat, a < s.heap.size → ¬ A0 s a := fun a h => Nat.not_le.mpr h
  have hst : l.stackTraces = false := by
    unfold Launch.stackTraces
    rw [hfl]
    decide
  obtain ⟨t1, e1, T1⟩ := va_Tof (tm := hsS "ROOTS") (ty := .int) (N := 8) (f := fun j => .int (rootsL.getD j 0)) (A := A0 s) (by decide) (hs _ (gm (i := 7) (by decide +kernel))) (va_eqt (hs (Cond.eq (.length (hsS "ROOTS")) (.int (Int32.ofNat 8))) (gm (i := 8) (by decide +kernel)))) (fun j hj => va_eqt (hs _ (gm (gv_roots j hj)))) hA
  obtain ⟨t2, e2, T2⟩ := va_Tof (tm := hsS "CUBE_ROOTS") (ty := .int) (N := 64) (f := fun j => .int (cubesL.getD j 0)) (A := A0 s) (by decide) (hs _ (gm (i := 18) (by decide +kernel))) (va_eqt (hs (Cond.eq (.length (hsS "CUBE_ROOTS")) (.int (Int32.ofNat 64))) (gm (i := 19) (by decide +kernel)))) (fun j hj => va_eqt (hs _ (gm (gv_cubes j hj)))) hA
  have Z1 := va_Zref (A := A0 s) (hts (.laysStatic "GreetDesk$Hash" "ROOTS" "[I") (tm9 (i := 420) (by decide +kernel))) (hts (.initialized "GreetDesk$Hash") (tm9 (i := 51) (by decide +kernel))) e1 hA
  have Z2 := va_Zref (A := A0 s) (hts (.laysStatic "GreetDesk$Hash" "CUBE_ROOTS" "[I") (tm9 (i := 430) (by decide +kernel))) (hts (.initialized "GreetDesk$Hash") (tm9 (i := 51) (by decide +kernel))) e2 hA
  have U1 := vx_Zqof (A := A0 s) (hts (.laysStatic Bundle.tN "UNASSIGNED_STACK" Bundle.steD) (tm9 (i := 301) (by decide +kernel))) (hts (.initialized Bundle.tN) (tm9 (i := 58) (by decide +kernel))) (hs (.isRef (.static Bundle.tN "UNASSIGNED_STACK" Bundle.steD)) (gm (i := 4) (by decide +kernel))) hA
  have U2 := vx_Zqof (A := A0 s) (hts (.laysStatic Bundle.tN "SUPPRESSED_SENTINEL" Bundle.listD) (tm9 (i := 303) (by decide +kernel))) (hts (.initialized Bundle.tN) (tm9 (i := 58) (by decide +kernel))) (hs (.isRef (.static Bundle.tN "SUPPRESSED_SENTINEL" Bundle.listD)) (gm (i := 5) (by decide +kernel))) hA
  have U3 := va_Zof (A := A0 s) (hts (.laysStatic "java/lang/String" "COMPACT_STRINGS" "Z") (tm9 (i := 458) (by decide +kernel))) (hts (.initialized "java/lang/String") (tm9 (i := 63) (by decide +kernel))) (va_eqt (z := 1) (hs (Cond.eq (.static "java/lang/String" "COMPACT_STRINGS" "Z") (.int 1)) (gm (i := 84) (by decide +kernel)))) hA
  have U4 := va_Zqof (A := A0 s) (hts (.laysStatic "jdk/internal/util/Preconditions" "SIOOBE_FORMATTER" "Ljava/util/function/BiFunction;") (tm9 (i := 474) (by decide +kernel))) (hts (.initialized "jdk/internal/util/Preconditions") (tm9 (i := 65) (by decide +kernel))) (hs (.isRef (.static "jdk/internal/util/Preconditions" "SIOOBE_FORMATTER" "Ljava/util/function/BiFunction;")) (gm (i := 85) (by decide +kernel))) hA
  have S1 : ∀ q ∈ strL, ∃ sa : Nat, vk_R q.1 q.2.1 q.2.2 sa s := by
    intro q hq
    obtain ⟨m1, m2⟩ := gv_str q hq
    obtain ⟨a, -, -, -, q1, -⟩ := Cond.exactly_spec (args := args) (first := s) (o := none) (s := s) (idx := []) (hs _ m2)
    exact ⟨a, vk_R.of (hts _ m1) q1⟩
  obtain ⟨ak, av, V1, V2⟩ := vk_Sof (N := 7) (tm := lbTm) (len := labN) (byt := labB) (A := A0 s) (by decide) (fun i hi => hs _ (gm (gv_labC i hi).1)) (fun i hi => hs _ (gm (gv_labC i hi).2.1)) (fun i hi => hs _ (gm (gv_labC i hi).2.2.1)) (fun i hi => hs _ (gm (gv_labC i hi).2.2.2)) (fun i hi j hj => hs _ (gm (gv_labB i hi j hj))) (fun i j hi hj hij => (gv_labD hi hj hij).imp (hs _) (hs _)) hA
  refine ⟨ak, av, ⟨hst, ⟨t1, Z1, T1⟩, ⟨t2, Z2, T2⟩, U1, U2, ⟨U3, U4⟩, S1, V1, fun i hi => vk_R.of (hts _ (tm9 (gv_labA i hi))) (V2 i hi)⟩, va_Nc.of (hs _ (gm (i := 96) (by decide +kernel))), va_Nc.of (hs _ (gm (i := 97) (by decide +kernel)))⟩
/-- the first state: nothing fed, nothing known -/
abbrev s0 : PS := ([], fun _ _ => [], fun _ _ => 0)
abbrev d0 : DS := (fun _ => 0, 0, fun _ _ => 0, fun _ => 0, fun _ _ => 0, fun _ _ _ => 0, fun _ _ => 0)
abbrev mf0 : Nat → Nat → Int32 := fun k => if k = 21 then upd (upd (fun _ => 0) 0 (-1)) 1 (-1) else fun _ => 0
abbrev q0 : MT := (fun _ => 0, 0, 0, 0, fun _ _ => 0, mf0)
theorem inv0 : inv s0 := ⟨by8_nil, Nat.zero_le _, fun nb _ => ⟨⟨fun k _ => by8_nil, fun k _ => Nat.zero_le _⟩, Nat.le_refl _, Nat.le_refl _, Or.inl ⟨rfl, ⟨rfl, rfl, rfl, rfl⟩, Or.inl rfl, Or.inl rfl, ⟨rfl, rfl, rfl, rfl, rfl⟩, rfl, rfl⟩, Or.inl rfl, Or.inl rfl, Or.inl ⟨rfl, rfl⟩, rfl, rfl, Or.inl rfl, fun _ => rfl⟩⟩
theorem okD0 : okD s0 d0 := ⟨bz_nil _, rfl, fun nb _ => ⟨fun k _ => ⟨bz_nil _, rfl, by8_nil⟩, rfl⟩⟩
theorem wt_nil (l w : Nat) : wtL l w [] = [] := by unfold wtL; split <;> rfl
theorem mf21 : ∀ nb, nb < 2 → mf0 21 nb = -1 := by decide
theorem okM0 : okM s0 q0 := by
  refine ⟨bz_nil _, rfl, fun nb hnb => ⟨⟨⟨bo_nil _ _, bo_nil _ _, bo_nil _ _, rfl⟩, ⟨rfl, rfl⟩, ⟨rfl, rfl, rfl, rfl⟩, ⟨⟨bo_nil _ _, rfl⟩, bo_nil _ _, rfl⟩, ⟨rfl, rfl⟩, ⟨bo_nil _ _, mf21 nb hnb⟩, fun _ => ⟨bo_nil _ _, rfl⟩, ⟨⟨bo_nil _ _, bo_nil _ _⟩, ⟨bo_nil _ _, bo_nil _ _⟩, bo_nil _ _, bo_nil _ _⟩, rfl, bo_nil _ _, ⟨0, Nat.zero_le _, rfl, Iff.rfl⟩⟩, ?_⟩⟩
  show mW nb mf0 (fun _ => []) (fun _ => 0)
  unfold mW
  rw [wt_nil, wt_nil]
  exact ⟨⟨bo_nil _ _, rfl⟩, bo_nil _ _, rfl⟩
