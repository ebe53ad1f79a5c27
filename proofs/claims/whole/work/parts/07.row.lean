theorem cpy_zero {α : Type} (f h : Nat → α) (sp dp : Nat) : va_cpy f h sp dp 0 = h := by
  funext j
  exact pk_cpy_out (by omega)
theorem cpy_succ {f h : Nat → Int32} {sp dp n : Nat} : upd (va_cpy f h sp dp n) (dp + n) (f (sp + n)) = va_cpy f h sp dp (n + 1) := by
  funext j
  by_cases hj : j = dp + n
  · subst hj
    rw [pk_us, pk_cpy_in (by omega) (by omega)]
    congr 1
    omega
  · rw [pk_un hj]
    by_cases h1 : dp ≤ j ∧ j < dp + n
    · rw [pk_cpy_in h1.1 h1.2, pk_cpy_in h1.1 (by omega)]
    · rw [pk_cpy_out (by omega), pk_cpy_out (by omega)]
set_option maxHeartbeats 4000000 in
set_option maxRecDepth 100000 in
theorem c_X3_clear (g : GG) (a : Nat) (q : Nat) (n : Nat) (f : Nat → Int32) (z : Nat)  : Cg g y_X3_clear b_X3_clear 1 none ({ frames := 0, cells := 0, slots := 0, locals := 0 } : Room) [.ref a] [(a, .inr (3, [.ref q, .int (nI z)])), (q, .inl (cI g, n, .inl f))] (S := Unit) (fun (v : Option Value) (_ : Unit) => v = none) (fun (_ : Unit) => [(a, .inr (3, [.ref q, .int (nI 0)])), (q, .inl (cI g, n, .inl f))]) := by
  refine Ct_of (cc := b_X3_clear) (maxL := 1) (ret := none) (by decide) rfl (Nat.le_of_ble_eq_true rfl) ?_
  intro p e s m below meth c A ls hx hb hr hml hown hts hlocks hin hA hP hK hD hXs hS hl
  have ht : ∀ w ∈ tb, w.before [.ref a].toArray s = true := fun w h => hts w (List.mem_cons_of_mem _ h)
  have hown : s.vm.findClass R_X3 = some m.cls := hown
  have hl : lv_has ls 1 [(0, .ref a)] := hl
  refine lv_aload_n hx hb d_X3_clear_0 rfl (lv_at hl 0 rfl) ?_
  refine lv_iconst (v := (nI 0)) hx hb d_X3_clear_1 (by decide) ?_
  refine va_put (D := g.2.1) (ci := 3) (v := .int (nI 0)) (ty := .int) (C := R_X3) (T := T_X3) (N := 2) hx hb ht i_X3 t_X3 tok_X3 n_X3 hown hK hP hD hS 0 rfl rfl 1 (by decide) (ht _ w_44) (fun _ h9 => h9) rfl (by decide +kernel) rfl rfl (Nat.le_of_ble_eq_true rfl) d_X3_clear_2 (fun H locs hP hD hS => ?_)
  have hP : va_P g.2.1 cls7 [(a, .inr (3, [.ref q, .int (nI 0)])), (q, .inl (cI g, n, .inl f))] H := hP
  have hD : va_D A [(a, .inr (3, [.ref q, .int (nI 0)])), (q, .inl (cI g, n, .inl f))] := hD
  exact g_vret hx hb hr hlocks hP hD hS () (List.Perm.refl _) rfl (Nat.le_of_ble_eq_true rfl) (Nat.le_of_ble_eq_true rfl) d_X3_clear_5

set_option maxHeartbeats 4000000 in
set_option maxRecDepth 100000 in
theorem c_X3_at (g : GG) (a : Nat) (q : Nat) (n : Nat) (f : Nat → Int32) (z : Nat) (k : Nat) (hz : z ≤ n) (hn : n < 2 ^ 31) (hk : k < 2 ^ 31) : Cg g y_X3_at b_X3_at 2 (some .int) ({ frames := 0, cells := 0, slots := 0, locals := 0 } : Room) [.ref a, .int (nI k)] [(a, .inr (3, [.ref q, .int (nI z)])), (q, .inl (cI g, n, .inl f))] (S := Unit) (fun (v : Option Value) (_ : Unit) => v = some (.int (if k < z then f k else 0))) (fun (_ : Unit) => [(a, .inr (3, [.ref q, .int (nI z)])), (q, .inl (cI g, n, .inl f))]) := by
  refine Ct_of (cc := b_X3_at) (maxL := 2) (ret := (some .int)) (by decide) rfl (Nat.le_of_ble_eq_true rfl) ?_
  intro p e s m below meth c A ls hx hb hr hml hown hts hlocks hin hA hP hK hD hXs hS hl
  have ht : ∀ w ∈ tb, w.before [.ref a, .int (nI k)].toArray s = true := fun w h => hts w (List.mem_cons_of_mem _ h)
  have hown : s.vm.findClass R_X3 = some m.cls := hown
  have hl : lv_has ls 2 [(0, .ref a), (1, .int (nI k))] := hl
  refine lv_iload_n hx hb d_X3_at_0 rfl (lv_at hl 1 rfl) ?_
  refine ln_if_lt (tgt := 30) hx hb d_X3_at_1 (by decide) (by omega) (fun _ => ?_)
  refine lv_iload_n hx hb d_X3_at_4 rfl (lv_at hl 1 rfl) ?_
  refine lv_aload_n hx hb d_X3_at_5 rfl (lv_at hl 0 rfl) ?_
  refine va_get (D := g.2.1) (ci := 3) (v := .int (nI z)) (C := R_X3) (T := T_X3) (N := 2) hx hb ht i_X3 hown hK hP 0 rfl rfl 1 (by decide) (ht _ w_44) (fun _ h9 => h9) rfl d_X3_at_6 ?_
  refine ln_icmp_ge (tgt := 30) hx hb d_X3_at_9 (by decide) (by omega) (by omega) (fun c_1 => ?_) (fun c_1 => ?_)
  · refine lv_iconst (v := (nI 0)) hx hb d_X3_at_30 (by decide) ?_
    have e0 : (nI 0 : Int32) = (if k < z then f k else 0) := (if_neg (by omega)).symm
    exact g_iret (v := (nI 0)) hx hb hr hlocks hP hD hS () (List.Perm.refl _) (congrArg (fun t => some (Value.int t)) e0) (Nat.le_of_ble_eq_true rfl) (Nat.le_of_ble_eq_true rfl) d_X3_at_31
  · refine lv_iload_n hx hb d_X3_at_12 rfl (lv_at hl 1 rfl) ?_
    refine lv_aload_n hx hb d_X3_at_13 rfl (lv_at hl 0 rfl) ?_
    refine va_get (D := g.2.1) (ci := 3) (v := .ref q) (C := R_X3) (T := T_X3) (N := 2) hx hb ht i_X3 hown hK hP 0 rfl rfl 0 (by decide) (ht _ w_42) (fun _ h9 => h9) rfl d_X3_at_14 ?_
    refine ln_alen hx hb hK hP 1 0 rfl rfl d_X3_at_17 ?_
    refine ln_icmp_ge_f (tgt := 30) hx hb d_X3_at_18 (by decide) (by omega) (by omega) (by omega) ?_
    refine lv_aload_n hx hb d_X3_at_21 rfl (lv_at hl 0 rfl) ?_
    refine va_get (D := g.2.1) (ci := 3) (v := .ref q) (C := R_X3) (T := T_X3) (N := 2) hx hb ht i_X3 hown hK hP 0 rfl rfl 0 (by decide) (ht _ w_42) (fun _ h9 => h9) rfl d_X3_at_22 ?_
    refine lv_iload_n hx hb d_X3_at_25 rfl (lv_at hl 1 rfl) ?_
    refine ln_iald hx hb hK hP 1 0 rfl rfl (by omega) (by omega) d_X3_at_26 ?_
    refine lv_goto (tgt := 31) hx hb d_X3_at_27 (by decide) ?_
    have e0 : f k = (if k < z then f k else 0) := (if_pos (by omega)).symm
    exact g_iret (v := (f k)) hx hb hr hlocks hP hD hS () (List.Perm.refl _) (congrArg (fun t => some (Value.int t)) e0) (Nat.le_of_ble_eq_true rfl) (Nat.le_of_ble_eq_true rfl) d_X3_at_31

set_option maxHeartbeats 4000000 in
set_option maxRecDepth 100000 in
theorem c_X3_has (g : GG) (a : Nat) (q : Nat) (n : Nat) (f : Nat → Int32) (z : Nat) (k : Int32) (hz : z ≤ n) (hn : n < 2 ^ 31) : Cg g y_X3_has b_X3_has 2 (some .boolean) ({ frames := 0, cells := 0, slots := 0, locals := 0 } : Room) [.ref a, .int k] [(a, .inr (3, [.ref q, .int (nI z)])), (q, .inl (cI g, n, .inl f))] (S := Unit) (fun (v : Option Value) (_ : Unit) => v = some (.int (if 0 ≤ k ∧ k < nI z then 1 else 0))) (fun (_ : Unit) => [(a, .inr (3, [.ref q, .int (nI z)])), (q, .inl (cI g, n, .inl f))]) := by
  refine Ct_of (cc := b_X3_has) (maxL := 2) (ret := (some .boolean)) (by decide) rfl (Nat.le_of_ble_eq_true rfl) ?_
  intro p e s m below meth c A ls hx hb hr hml hown hts hlocks hin hA hP hK hD hXs hS hl
  have ht : ∀ w ∈ tb, w.before [.ref a, .int k].toArray s = true := fun w h => hts w (List.mem_cons_of_mem _ h)
  have hown : s.vm.findClass R_X3 = some m.cls := hown
  have hl : lv_has ls 2 [(0, .ref a), (1, .int k)] := hl
  refine lv_iload_n hx hb d_X3_has_0 rfl (lv_at hl 1 rfl) ?_
  refine lv_if_lt (tgt := 25) hx hb d_X3_has_1 (by decide) (fun c_1 => ?_) (fun c_1 => ?_)
  · refine lv_iconst (v := (nI 0)) hx hb d_X3_has_25 (by decide) ?_
    have e0 : ((nI 0) : Int32) = (if 0 ≤ k ∧ k < nI z then 1 else 0) := (if_neg (fun h => absurd h.1 (Int32.not_le.mpr c_1))).symm
    exact g_zret (v := (nI 0)) hx hb hr hlocks hP hD hS () (List.Perm.refl _) (by decide) (congrArg (fun t => some (Value.int t)) e0) (Nat.le_of_ble_eq_true rfl) (Nat.le_of_ble_eq_true rfl) d_X3_has_26
  · refine lv_iload_n hx hb d_X3_has_4 rfl (lv_at hl 1 rfl) ?_
    refine lv_aload_n hx hb d_X3_has_5 rfl (lv_at hl 0 rfl) ?_
    refine va_get (D := g.2.1) (ci := 3) (v := .int (nI z)) (C := R_X3) (T := T_X3) (N := 2) hx hb ht i_X3 hown hK hP 0 rfl rfl 1 (by decide) (ht _ w_44) (fun _ h9 => h9) rfl d_X3_has_6 ?_
    refine lv_icmp_ge (tgt := 25) hx hb d_X3_has_9 (by decide) (fun c_2 => ?_) (fun c_2 => ?_)
    · refine lv_iconst (v := (nI 0)) hx hb d_X3_has_25 (by decide) ?_
      have e0 : ((nI 0) : Int32) = (if 0 ≤ k ∧ k < nI z then 1 else 0) := (if_neg (fun h => absurd h.2 (Int32.not_lt.mpr c_2))).symm
      exact g_zret (v := (nI 0)) hx hb hr hlocks hP hD hS () (List.Perm.refl _) (by decide) (congrArg (fun t => some (Value.int t)) e0) (Nat.le_of_ble_eq_true rfl) (Nat.le_of_ble_eq_true rfl) d_X3_has_26
    · refine lv_iload_n hx hb d_X3_has_12 rfl (lv_at hl 1 rfl) ?_
      refine lv_aload_n hx hb d_X3_has_13 rfl (lv_at hl 0 rfl) ?_
      refine va_get (D := g.2.1) (ci := 3) (v := .ref q) (C := R_X3) (T := T_X3) (N := 2) hx hb ht i_X3 hown hK hP 0 rfl rfl 0 (by decide) (ht _ w_42) (fun _ h9 => h9) rfl d_X3_has_14 ?_
      refine ln_alen hx hb hK hP 1 0 rfl rfl d_X3_has_17 ?_
      refine lv_icmp_ge (tgt := 25) hx hb d_X3_has_18 (by decide) (fun c_3 => absurd c_3 (fun q => c_2 (Int32.le_trans (nI_le hz hn) q))) (fun _ => ?_)
      refine lv_iconst (v := (nI 1)) hx hb d_X3_has_21 (by decide) ?_
      refine lv_goto (tgt := 26) hx hb d_X3_has_22 (by decide) ?_
      have e0 : ((nI 1) : Int32) = (if 0 ≤ k ∧ k < nI z then 1 else 0) := (if_pos ⟨Int32.not_lt.mp c_1, Int32.not_le.mp c_2⟩).symm
      exact g_zret (v := (nI 1)) hx hb hr hlocks hP hD hS () (List.Perm.refl _) (by decide) (congrArg (fun t => some (Value.int t)) e0) (Nat.le_of_ble_eq_true rfl) (Nat.le_of_ble_eq_true rfl) d_X3_has_26

set_option maxHeartbeats 4000000 in
set_option maxRecDepth 100000 in
theorem c_X3_put (g : GG) (a : Nat) (q : Nat) (n : Nat) (f : Nat → Int32) (z : Nat) (b : Int32) (hz : z < n) (hn : n < 2 ^ 31) : Cg g y_X3_put b_X3_put 2 none ({ frames := 0, cells := 0, slots := 0, locals := 0 } : Room) [.ref a, .int b] [(a, .inr (3, [.ref q, .int (nI z)])), (q, .inl (cI g, n, .inl f))] (S := Unit) (fun (v : Option Value) (_ : Unit) => v = none) (fun (_ : Unit) => [(a, .inr (3, [.ref q, .int (nI (z + 1))])), (q, .inl (cI g, n, .inl (upd f z (b &&& nI 255))))]) := by
  refine Ct_of (cc := b_X3_put) (maxL := 2) (ret := none) (by decide) rfl (Nat.le_of_ble_eq_true rfl) ?_
  intro p e s m below meth c A ls hx hb hr hml hown hts hlocks hin hA hP hK hD hXs hS hl
  have ht : ∀ w ∈ tb, w.before [.ref a, .int b].toArray s = true := fun w h => hts w (List.mem_cons_of_mem _ h)
  have hown : s.vm.findClass R_X3 = some m.cls := hown
  have hl : lv_has ls 2 [(0, .ref a), (1, .int b)] := hl
  refine lv_aload_n hx hb d_X3_put_0 rfl (lv_at hl 0 rfl) ?_
  refine va_get (D := g.2.1) (ci := 3) (v := .int (nI z)) (C := R_X3) (T := T_X3) (N := 2) hx hb ht i_X3 hown hK hP 0 rfl rfl 1 (by decide) (ht _ w_44) (fun _ h9 => h9) rfl d_X3_put_1 ?_
  refine ln_if_lt (tgt := 43) hx hb d_X3_put_4 (by decide) (by omega) (fun _ => ?_)
  refine lv_aload_n hx hb d_X3_put_7 rfl (lv_at hl 0 rfl) ?_
  refine va_get (D := g.2.1) (ci := 3) (v := .int (nI z)) (C := R_X3) (T := T_X3) (N := 2) hx hb ht i_X3 hown hK hP 0 rfl rfl 1 (by decide) (ht _ w_44) (fun _ h9 => h9) rfl d_X3_put_8 ?_
  refine lv_aload_n hx hb d_X3_put_11 rfl (lv_at hl 0 rfl) ?_
  refine va_get (D := g.2.1) (ci := 3) (v := .ref q) (C := R_X3) (T := T_X3) (N := 2) hx hb ht i_X3 hown hK hP 0 rfl rfl 0 (by decide) (ht _ w_42) (fun _ h9 => h9) rfl d_X3_put_12 ?_
  refine ln_alen hx hb hK hP 1 0 rfl rfl d_X3_put_15 ?_
  refine ln_icmp_ge_f (tgt := 43) hx hb d_X3_put_16 (by decide) (by omega) (by omega) (by omega) ?_
  refine lv_aload_n hx hb d_X3_put_19 rfl (lv_at hl 0 rfl) ?_
  refine va_get (D := g.2.1) (ci := 3) (v := .ref q) (C := R_X3) (T := T_X3) (N := 2) hx hb ht i_X3 hown hK hP 0 rfl rfl 0 (by decide) (ht _ w_42) (fun _ h9 => h9) rfl d_X3_put_20 ?_
  refine lv_aload_n hx hb d_X3_put_23 rfl (lv_at hl 0 rfl) ?_
  refine va_get (D := g.2.1) (ci := 3) (v := .int (nI z)) (C := R_X3) (T := T_X3) (N := 2) hx hb ht i_X3 hown hK hP 0 rfl rfl 1 (by decide) (ht _ w_44) (fun _ h9 => h9) rfl d_X3_put_24 ?_
  refine lv_iload_n hx hb d_X3_put_27 rfl (lv_at hl 1 rfl) ?_
  refine lv_sipush (v := (nI 255)) hx hb d_X3_put_28 (by decide) ?_
  refine lv_iand hx hb d_X3_put_31 ?_
  refine ln_iast hx hb hK hP hD hS 1 0 rfl rfl (by omega) (by omega) d_X3_put_32 (fun H locs hP hD hS => ?_)
  have hP : va_P g.2.1 cls7 [(a, .inr (3, [.ref q, .int (nI z)])), (q, .inl (cI g, n, .inl (upd f z (b &&& (nI 255)))))] H := hP
  have hD : va_D A [(a, .inr (3, [.ref q, .int (nI z)])), (q, .inl (cI g, n, .inl (upd f z (b &&& (nI 255)))))] := hD
  refine lv_aload_n hx hb d_X3_put_33 rfl (lv_at hl 0 rfl) ?_
  refine lv_dup hx hb d_X3_put_34 rfl ?_
  refine va_get (D := g.2.1) (ci := 3) (v := .int (nI z)) (C := R_X3) (T := T_X3) (N := 2) hx hb ht i_X3 hown hK hP 0 rfl rfl 1 (by decide) (ht _ w_44) (fun _ h9 => h9) rfl d_X3_put_35 ?_
  refine lv_iconst (v := (nI 1)) hx hb d_X3_put_38 (by decide) ?_
  refine ln_iadd hx hb d_X3_put_39 ?_
  refine va_put (D := g.2.1) (ci := 3) (v := .int (nI (z + 1))) (ty := .int) (C := R_X3) (T := T_X3) (N := 2) hx hb ht i_X3 t_X3 tok_X3 n_X3 hown hK hP hD hS 0 rfl rfl 1 (by decide) (ht _ w_44) (fun _ h9 => h9) rfl (by decide +kernel) rfl rfl (Nat.le_of_ble_eq_true rfl) d_X3_put_40 (fun H locs hP hD hS => ?_)
  have hP : va_P g.2.1 cls7 [(a, .inr (3, [.ref q, .int (nI (z + 1))])), (q, .inl (cI g, n, .inl (upd f z (b &&& (nI 255)))))] H := hP
  have hD : va_D A [(a, .inr (3, [.ref q, .int (nI (z + 1))])), (q, .inl (cI g, n, .inl (upd f z (b &&& (nI 255)))))] := hD
  exact g_vret hx hb hr hlocks hP hD hS () (List.Perm.refl _) rfl (Nat.le_of_ble_eq_true rfl) (Nat.le_of_ble_eq_true rfl) d_X3_put_43

set_option maxHeartbeats 4000000 in
set_option maxRecDepth 100000 in
theorem c_X3_putFrom (g : GG) (a : Nat) (q : Nat) (n : Nat) (f : Nat → Int32) (z : Nat) (a2 : Nat) (q2 : Nat) (n2 : Nat) (f2 : Nat → Int32) (z2 : Nat) (k0 : Nat) (hz : z + (z2 - k0) ≤ n) (hn : n < 2 ^ 31) (hz2 : z2 ≤ n2) (hn2 : n2 < 2 ^ 31) (hk0 : k0 ≤ z2) : Cg g y_X3_putFrom b_X3_putFrom 4 none ({ frames := 0, cells := 0, slots := 0, locals := 0 } : Room) [.ref a, .ref a2, .int (nI k0)] [(a, .inr (3, [.ref q, .int (nI z)])), (q, .inl (cI g, n, .inl f)), (a2, .inr (3, [.ref q2, .int (nI z2)])), (q2, .inl (cI g, n2, .inl f2))] (S := Unit) (fun (v : Option Value) (_ : Unit) => v = none) (fun (_ : Unit) => [(a, .inr (3, [.ref q, .int (nI (z + (z2 - k0)))])), (q, .inl (cI g, n, .inl (va_cpy f2 f k0 z (z2 - k0)))), (a2, .inr (3, [.ref q2, .int (nI z2)])), (q2, .inl (cI g, n2, .inl f2))]) := by
  refine Ct_of (cc := b_X3_putFrom) (maxL := 4) (ret := none) (by decide) rfl (Nat.le_of_ble_eq_true rfl) ?_
  intro p e s m below meth c A ls hx hb hr hml hown hts hlocks hin hA hP hK hD hXs hS hl
  have ht : ∀ w ∈ tb, w.before [.ref a, .ref a2, .int (nI k0)].toArray s = true := fun w h => hts w (List.mem_cons_of_mem _ h)
  have hown : s.vm.findClass R_X3 = some m.cls := hown
  have hl : lv_has ls 4 [(0, .ref a), (1, .ref a2), (2, .int (nI k0))] := hl
  refine lv_iload_n hx hb d_X3_putFrom_0 rfl (lv_at hl 2 rfl) ?_
  refine ln_if_ge (tgt := 5) hx hb d_X3_putFrom_1 (by decide) (by omega) (fun _ => ?_)
  refine lv_iload_n hx hb d_X3_putFrom_5 rfl (lv_at hl 2 rfl) ?_
  refine lv_istore_n (lv' := [(3, .int (nI k0)), (0, .ref a), (1, .ref a2), (2, .int (nI k0))]) hx hb d_X3_putFrom_6 rfl hl (by decide) rfl (fun ls hl => ?_)
  have loop : ∀ (k : Nat) (j : Nat) (hk : j + k = z2 - k0)  (H : Heap) (locs : List Loc) (hP : va_P g.2.1 cls7 [(a, .inr (3, [.ref q, .int (nI (z + j))])), (q, .inl (cI g, n, .inl (va_cpy f2 f k0 z j))), (a2, .inr (3, [.ref q2, .int (nI z2)])), (q2, .inl (cI g, n2, .inl f2))] H) (hD : va_D A [(a, .inr (3, [.ref q, .int (nI (z + j))])), (q, .inl (cI g, n, .inl (va_cpy f2 f k0 z j))), (a2, .inr (3, [.ref q2, .int (nI z2)])), (q2, .inl (cI g, n2, .inl f2))]) (hS : va_S A s.heap H locs) (ls : Array Slot) (hl : lv_has ls 4 [(3, .int (nI (k0 + j))), (0, .ref a), (1, .ref a2), (2, .int (nI k0))]), W p g.1 e ({ frames := 0, cells := 0, slots := 0, locals := 0 } : Room) s m [.ref a, .ref a2, .int (nI k0)].toArray below meth c H locs 0 0 (MQ below (gQ g.2.1 cls7 (S := Unit) (fun (v : Option Value) (_ : Unit) => v = none) (fun (_ : Unit) => [(a, .inr (3, [.ref q, .int (nI (z + (z2 - k0)))])), (q, .inl (cI g, n, .inl (va_cpy f2 f k0 z (z2 - k0)))), (a2, .inr (3, [.ref q2, .int (nI z2)])), (q2, .inl (cI g, n2, .inl f2))]) A) [.ref a, .ref a2, .int (nI k0)].toArray s ({ frames := 0, cells := 0, slots := 0, locals := 0 } : Room).cells ({ frames := 0, cells := 0, slots := 0, locals := 0 } : Room).slots A) (F0 m 7 ls []) := by
    intro k
    induction k with
    | zero =>
      intro j hk  H locs hP hD hS ls hl
      refine lv_iload_n hx hb d_X3_putFrom_7 rfl (lv_at hl 0 rfl) ?_
      refine lv_aload_n hx hb d_X3_putFrom_8 rfl (lv_at hl 2 rfl) ?_
      refine va_get (D := g.2.1) (ci := 3) (v := .int (nI z2)) (C := R_X3) (T := T_X3) (N := 2) hx hb ht i_X3 hown hK hP 2 rfl rfl 1 (by decide) (ht _ w_44) (fun _ h9 => h9) rfl d_X3_putFrom_9 ?_
      refine ln_icmp_ge_t (tgt := 67) hx hb d_X3_putFrom_12 (by decide) (by omega) (by omega) (by omega) ?_
      have ej : j = z2 - k0 := by omega
      subst ej
      exact g_vret hx hb hr hlocks hP hD hS () (List.Perm.refl _) rfl (Nat.le_of_ble_eq_true rfl) (Nat.le_of_ble_eq_true rfl) d_X3_putFrom_67
    | succ k ih =>
      intro j hk  H locs hP hD hS ls hl
      refine lv_iload_n hx hb d_X3_putFrom_7 rfl (lv_at hl 0 rfl) ?_
      refine lv_aload_n hx hb d_X3_putFrom_8 rfl (lv_at hl 2 rfl) ?_
      refine va_get (D := g.2.1) (ci := 3) (v := .int (nI z2)) (C := R_X3) (T := T_X3) (N := 2) hx hb ht i_X3 hown hK hP 2 rfl rfl 1 (by decide) (ht _ w_44) (fun _ h9 => h9) rfl d_X3_putFrom_9 ?_
      refine ln_icmp_ge_f (tgt := 67) hx hb d_X3_putFrom_12 (by decide) (by omega) (by omega) (by omega) ?_
      refine lv_iload_n hx hb d_X3_putFrom_15 rfl (lv_at hl 0 rfl) ?_
      refine lv_aload_n hx hb d_X3_putFrom_16 rfl (lv_at hl 2 rfl) ?_
      refine va_get (D := g.2.1) (ci := 3) (v := .ref q2) (C := R_X3) (T := T_X3) (N := 2) hx hb ht i_X3 hown hK hP 2 rfl rfl 0 (by decide) (ht _ w_42) (fun _ h9 => h9) rfl d_X3_putFrom_17 ?_
      refine ln_alen hx hb hK hP 3 0 rfl rfl d_X3_putFrom_20 ?_
      refine ln_icmp_ge_f (tgt := 67) hx hb d_X3_putFrom_21 (by decide) (by omega) (by omega) (by omega) ?_
      refine lv_aload_n hx hb d_X3_putFrom_24 rfl (lv_at hl 1 rfl) ?_
      refine va_get (D := g.2.1) (ci := 3) (v := .int (nI (z + j))) (C := R_X3) (T := T_X3) (N := 2) hx hb ht i_X3 hown hK hP 0 rfl rfl 1 (by decide) (ht _ w_44) (fun _ h9 => h9) rfl d_X3_putFrom_25 ?_
      refine lv_aload_n hx hb d_X3_putFrom_28 rfl (lv_at hl 1 rfl) ?_
      refine va_get (D := g.2.1) (ci := 3) (v := .ref q) (C := R_X3) (T := T_X3) (N := 2) hx hb ht i_X3 hown hK hP 0 rfl rfl 0 (by decide) (ht _ w_42) (fun _ h9 => h9) rfl d_X3_putFrom_29 ?_
      refine ln_alen hx hb hK hP 1 0 rfl rfl d_X3_putFrom_32 ?_
      refine ln_icmp_ge_f (tgt := 67) hx hb d_X3_putFrom_33 (by decide) (by omega) (by omega) (by omega) ?_
      refine lv_aload_n hx hb d_X3_putFrom_36 rfl (lv_at hl 1 rfl) ?_
      refine va_get (D := g.2.1) (ci := 3) (v := .ref q) (C := R_X3) (T := T_X3) (N := 2) hx hb ht i_X3 hown hK hP 0 rfl rfl 0 (by decide) (ht _ w_42) (fun _ h9 => h9) rfl d_X3_putFrom_37 ?_
      refine lv_aload_n hx hb d_X3_putFrom_40 rfl (lv_at hl 1 rfl) ?_
      refine va_get (D := g.2.1) (ci := 3) (v := .int (nI (z + j))) (C := R_X3) (T := T_X3) (N := 2) hx hb ht i_X3 hown hK hP 0 rfl rfl 1 (by decide) (ht _ w_44) (fun _ h9 => h9) rfl d_X3_putFrom_41 ?_
      refine lv_aload_n hx hb d_X3_putFrom_44 rfl (lv_at hl 2 rfl) ?_
      refine va_get (D := g.2.1) (ci := 3) (v := .ref q2) (C := R_X3) (T := T_X3) (N := 2) hx hb ht i_X3 hown hK hP 2 rfl rfl 0 (by decide) (ht _ w_42) (fun _ h9 => h9) rfl d_X3_putFrom_45 ?_
      refine lv_iload_n hx hb d_X3_putFrom_48 rfl (lv_at hl 0 rfl) ?_
      refine ln_iald hx hb hK hP 3 0 rfl rfl (by omega) (by omega) d_X3_putFrom_49 ?_
      refine ln_iast hx hb hK hP hD hS 1 0 rfl rfl (by omega) (by omega) d_X3_putFrom_50 (fun H locs hP hD hS => ?_)
      have hP : va_P g.2.1 cls7 [(a, .inr (3, [.ref q, .int (nI (z + j))])), (q, .inl (cI g, n, .inl (upd (va_cpy f2 f k0 z j) (z + j) (f2 (k0 + j))))), (a2, .inr (3, [.ref q2, .int (nI z2)])), (q2, .inl (cI g, n2, .inl f2))] H := hP
      have hD : va_D A [(a, .inr (3, [.ref q, .int (nI (z + j))])), (q, .inl (cI g, n, .inl (upd (va_cpy f2 f k0 z j) (z + j) (f2 (k0 + j))))), (a2, .inr (3, [.ref q2, .int (nI z2)])), (q2, .inl (cI g, n2, .inl f2))] := hD
      refine lv_aload_n hx hb d_X3_putFrom_51 rfl (lv_at hl 1 rfl) ?_
      refine lv_dup hx hb d_X3_putFrom_52 rfl ?_
      refine va_get (D := g.2.1) (ci := 3) (v := .int (nI (z + j))) (C := R_X3) (T := T_X3) (N := 2) hx hb ht i_X3 hown hK hP 0 rfl rfl 1 (by decide) (ht _ w_44) (fun _ h9 => h9) rfl d_X3_putFrom_53 ?_
      refine lv_iconst (v := (nI 1)) hx hb d_X3_putFrom_56 (by decide) ?_
      refine ln_iadd hx hb d_X3_putFrom_57 ?_
      refine va_put (D := g.2.1) (ci := 3) (v := .int (nI ((z + j) + 1))) (ty := .int) (C := R_X3) (T := T_X3) (N := 2) hx hb ht i_X3 t_X3 tok_X3 n_X3 hown hK hP hD hS 0 rfl rfl 1 (by decide) (ht _ w_44) (fun _ h9 => h9) rfl (by decide +kernel) rfl rfl (Nat.le_of_ble_eq_true rfl) d_X3_putFrom_58 (fun H locs hP hD hS => ?_)
      have hP : va_P g.2.1 cls7 [(a, .inr (3, [.ref q, .int (nI ((z + j) + 1))])), (q, .inl (cI g, n, .inl (upd (va_cpy f2 f k0 z j) (z + j) (f2 (k0 + j))))), (a2, .inr (3, [.ref q2, .int (nI z2)])), (q2, .inl (cI g, n2, .inl f2))] H := hP
      have hD : va_D A [(a, .inr (3, [.ref q, .int (nI ((z + j) + 1))])), (q, .inl (cI g, n, .inl (upd (va_cpy f2 f k0 z j) (z + j) (f2 (k0 + j))))), (a2, .inr (3, [.ref q2, .int (nI z2)])), (q2, .inl (cI g, n2, .inl f2))] := hD
      refine ln_iinc (d := 1) (lv' := [(3, .int (nI (k0 + j + 1))), (0, .ref a), (1, .ref a2), (2, .int (nI k0))]) hx hb d_X3_putFrom_61 hl (k := 0) rfl rfl (by decide) rfl (fun ls hl => ?_)
      refine lv_goto (tgt := 7) hx hb d_X3_putFrom_64 (by decide) ?_
      rw [cpy_succ] at hP hD
      exact ih (j + 1) (by omega)  _ _ hP hD hS ls (lv_sub hl [0, 1, 2, 3] rfl)
  have e0 : va_cpy f2 f k0 z 0 = f := cpy_zero _ _ _ _
  exact loop (z2 - k0) 0 (by omega)  _ _ (by rw [e0]; exact hP) (by rw [e0]; exact hD) hS ls (lv_sub hl [0, 1, 2, 3] rfl)

set_option maxHeartbeats 4000000 in
set_option maxRecDepth 100000 in
theorem c_X3_become (g : GG) (a : Nat) (q : Nat) (n : Nat) (f : Nat → Int32) (z : Nat) (a2 : Nat) (q2 : Nat) (n2 : Nat) (f2 : Nat → Int32) (z2 : Nat) (hz : z2 ≤ n) (hn : n < 2 ^ 31) (hz2 : z2 ≤ n2) (hn2 : n2 < 2 ^ 31) : Cg g y_X3_become b_X3_become 2 none ({ frames := 1, cells := 0, slots := 0, locals := 23 } : Room) [.ref a, .ref a2] [(a, .inr (3, [.ref q, .int (nI z)])), (q, .inl (cI g, n, .inl f)), (a2, .inr (3, [.ref q2, .int (nI z2)])), (q2, .inl (cI g, n2, .inl f2))] (S := Unit) (fun (v : Option Value) (_ : Unit) => v = none) (fun (_ : Unit) => [(a, .inr (3, [.ref q, .int (nI z2)])), (q, .inl (cI g, n, .inl (va_cpy f2 f 0 0 z2))), (a2, .inr (3, [.ref q2, .int (nI z2)])), (q2, .inl (cI g, n2, .inl f2))]) := by
  refine Ct_of (cc := b_X3_become) (maxL := 2) (ret := none) (by decide) rfl (Nat.le_of_ble_eq_true rfl) ?_
  intro p e s m below meth c A ls hx hb hr hml hown hts hlocks hin hA hP hK hD hXs hS hl
  have ht : ∀ w ∈ tb, w.before [.ref a, .ref a2].toArray s = true := fun w h => hts w (List.mem_cons_of_mem _ h)
  have hown : s.vm.findClass R_X3 = some m.cls := hown
  have hl : lv_has ls 2 [(0, .ref a), (1, .ref a2)] := hl
  refine lv_aload_n hx hb d_X3_become_0 rfl (lv_at hl 0 rfl) ?_
  refine lv_iconst (v := (nI 0)) hx hb d_X3_become_1 (by decide) ?_
  refine va_put (D := g.2.1) (ci := 3) (v := .int (nI 0)) (ty := .int) (C := R_X3) (T := T_X3) (N := 2) hx hb ht i_X3 t_X3 tok_X3 n_X3 hown hK hP hD hS 0 rfl rfl 1 (by decide) (ht _ w_44) (fun _ h9 => h9) rfl (by decide +kernel) rfl rfl (Nat.le_of_ble_eq_true rfl) d_X3_become_2 (fun H locs hP hD hS => ?_)
  have hP : va_P g.2.1 cls7 [(a, .inr (3, [.ref q, .int (nI 0)])), (q, .inl (cI g, n, .inl f)), (a2, .inr (3, [.ref q2, .int (nI z2)])), (q2, .inl (cI g, n2, .inl f2))] H := hP
  have hD : va_D A [(a, .inr (3, [.ref q, .int (nI 0)])), (q, .inl (cI g, n, .inl f)), (a2, .inr (3, [.ref q2, .int (nI z2)])), (q2, .inl (cI g, n2, .inl f2))] := hD
  refine lv_aload_n hx hb d_X3_become_5 rfl (lv_at hl 0 rfl) ?_
  refine lv_aload_n hx hb d_X3_become_6 rfl (lv_at hl 1 rfl) ?_
  refine lv_iconst (v := (nI 0)) hx hb d_X3_become_7 (by decide) ?_
  refine g_callV (As := [.ref a2, .int (nI 0)]) (rest := []) (wr := []) (q0 := 0) (ci := 3) (XSok g) ⟨hx, hb, hml, hown, ht⟩ hK hA hXs hl.1 hP hD hS (c_X3_putFrom g a q n f 0 a2 q2 n2 f2 z2 0 (by omega) (by omega) (by omega) (by omega) (by omega)) (g_perm 4 [0, 1, 2, 3] rfl rfl (by decide +kernel)) rfl rfl (cwV 2 ht (tb_V w_337 w_338 w_339 w_3 k_X3_putFrom) rfl rfl rfl (by decide +kernel) ⟨(Nat.le_of_ble_eq_true rfl), (Nat.le_of_ble_eq_true rfl)⟩) rfl rfl (Nat.le_of_ble_eq_true rfl) d_X3_become_8 ⟨(Nat.le_of_ble_eq_true rfl), (Nat.le_of_ble_eq_true rfl)⟩ (fun v u H locs hw hP hD hS => ?_)
  obtain rfl := hw
  have hP : va_P g.2.1 cls7 [(a, .inr (3, [.ref q, .int (nI (0 + (z2 - 0)))])), (q, .inl (cI g, n, .inl (va_cpy f2 f 0 0 (z2 - 0)))), (a2, .inr (3, [.ref q2, .int (nI z2)])), (q2, .inl (cI g, n2, .inl f2))] H := hP
  have hD : va_D A [(a, .inr (3, [.ref q, .int (nI (0 + (z2 - 0)))])), (q, .inl (cI g, n, .inl (va_cpy f2 f 0 0 (z2 - 0)))), (a2, .inr (3, [.ref q2, .int (nI z2)])), (q2, .inl (cI g, n2, .inl f2))] := hD
  refine W.eq (g2 := F0 m 11 ls []) rfl ?_
  rw [Nat.zero_add, Nat.sub_zero] at hP hD
  exact g_vret hx hb hr hlocks hP hD hS () (List.Perm.refl _) rfl (Nat.le_of_ble_eq_true rfl) (Nat.le_of_ble_eq_true rfl) d_X3_become_11

set_option maxHeartbeats 4000000 in
set_option maxRecDepth 100000 in
theorem c_X3_putMessage (g : GG) (a : Nat) (q : Nat) (n : Nat) (f : Nat → Int32) (z : Nat) (a2 : Nat) (q2 : Nat) (n2 : Nat) (f2 : Nat → Int32) (z2 : Nat) (b : Int32) (hz : z + 4 + z2 ≤ n) (hn : n < 2 ^ 31) (hz2 : z2 ≤ n2) (hn2 : n2 < 2 ^ 31) : Cg g y_X3_putMessage b_X3_putMessage 3 none ({ frames := 1, cells := 0, slots := 0, locals := 23 } : Room) [.ref a, .int b, .ref a2] [(a, .inr (3, [.ref q, .int (nI z)])), (q, .inl (cI g, n, .inl f)), (a2, .inr (3, [.ref q2, .int (nI z2)])), (q2, .inl (cI g, n2, .inl f2))] (S := Unit) (fun (v : Option Value) (_ : Unit) => v = none) (fun (_ : Unit) => [(a, .inr (3, [.ref q, .int (nI (z + 4 + z2))])), (q, .inl (cI g, n, .inl (va_cpy f2 (upd (upd (upd (upd f z (b &&& nI 255)) (z + 1) (us (nI z2) (nI 16) &&& nI 255)) (z + 2) (us (nI z2) (nI 8) &&& nI 255)) (z + 3) (nI z2 &&& nI 255)) 0 (z + 4) z2))), (a2, .inr (3, [.ref q2, .int (nI z2)])), (q2, .inl (cI g, n2, .inl f2))]) := by
  refine Ct_of (cc := b_X3_putMessage) (maxL := 3) (ret := none) (by decide) rfl (Nat.le_of_ble_eq_true rfl) ?_
  intro p e s m below meth c A ls hx hb hr hml hown hts hlocks hin hA hP hK hD hXs hS hl
  have ht : ∀ w ∈ tb, w.before [.ref a, .int b, .ref a2].toArray s = true := fun w h => hts w (List.mem_cons_of_mem _ h)
  have hown : s.vm.findClass R_X3 = some m.cls := hown
  have hl : lv_has ls 3 [(0, .ref a), (1, .int b), (2, .ref a2)] := hl
  refine lv_aload_n hx hb d_X3_putMessage_0 rfl (lv_at hl 0 rfl) ?_
  refine lv_iload_n hx hb d_X3_putMessage_1 rfl (lv_at hl 1 rfl) ?_
  refine g_callV (As := [.int b]) (rest := []) (wr := [(a2, .inr (3, [.ref q2, .int (nI z2)])), (q2, .inl (cI g, n2, .inl f2))]) (q0 := 0) (ci := 3) (XSok g) ⟨hx, hb, hml, hown, ht⟩ hK hA hXs hl.1 hP hD hS (c_X3_put g a q n f z b (by omega) (by omega)) (g_perm 4 [0, 1, 2, 3] rfl rfl (by decide +kernel)) rfl rfl (cwV 1 ht (tb_V w_481 w_56 w_57 w_3 k_X3_put) rfl rfl rfl (by decide +kernel) ⟨(Nat.le_of_ble_eq_true rfl), (Nat.le_of_ble_eq_true rfl)⟩) rfl rfl (Nat.le_of_ble_eq_true rfl) d_X3_putMessage_2 ⟨(Nat.le_of_ble_eq_true rfl), (Nat.le_of_ble_eq_true rfl)⟩ (fun v u H locs hw hP hD hS => ?_)
  obtain rfl := hw
  have hP : va_P g.2.1 cls7 [(a2, .inr (3, [.ref q2, .int (nI z2)])), (q2, .inl (cI g, n2, .inl f2)), (a, .inr (3, [.ref q, .int (nI (z + 1))])), (q, .inl (cI g, n, .inl (upd f z (b &&& nI 255))))] H := hP
  have hD : va_D A [(a2, .inr (3, [.ref q2, .int (nI z2)])), (q2, .inl (cI g, n2, .inl f2)), (a, .inr (3, [.ref q, .int (nI (z + 1))])), (q, .inl (cI g, n, .inl (upd f z (b &&& nI 255))))] := hD
  refine W.eq (g2 := F0 m 5 ls []) rfl ?_
  refine lv_aload_n hx hb d_X3_putMessage_5 rfl (lv_at hl 0 rfl) ?_
  refine lv_aload_n hx hb d_X3_putMessage_6 rfl (lv_at hl 2 rfl) ?_
  refine va_get (D := g.2.1) (ci := 3) (v := .int (nI z2)) (C := R_X3) (T := T_X3) (N := 2) hx hb ht i_X3 hown hK hP 0 rfl rfl 1 (by decide) (ht _ w_44) (fun _ h9 => h9) rfl d_X3_putMessage_7 ?_
  refine lv_bipush (v := (nI 16)) hx hb d_X3_putMessage_10 (by decide) ?_
  refine lv_iushr (v := us (nI z2) (nI 16)) hx hb d_X3_putMessage_12 rfl ?_
  refine g_callV (As := [.int (us (nI z2) (nI 16))]) (rest := []) (wr := [(a2, .inr (3, [.ref q2, .int (nI z2)])), (q2, .inl (cI g, n2, .inl f2))]) (q0 := 0) (ci := 3) (XSok g) ⟨hx, hb, hml, hown, ht⟩ hK hA hXs hl.1 hP hD hS (c_X3_put g a q n (upd f z (b &&& nI 255)) (z + 1) (us (nI z2) (nI 16)) (by omega) (by omega)) (g_perm 4 [2, 3, 0, 1] rfl rfl (by decide +kernel)) rfl rfl (cwV 1 ht (tb_V w_481 w_56 w_57 w_3 k_X3_put) rfl rfl rfl (by decide +kernel) ⟨(Nat.le_of_ble_eq_true rfl), (Nat.le_of_ble_eq_true rfl)⟩) rfl rfl (Nat.le_of_ble_eq_true rfl) d_X3_putMessage_13 ⟨(Nat.le_of_ble_eq_true rfl), (Nat.le_of_ble_eq_true rfl)⟩ (fun v u H locs hw hP hD hS => ?_)
  obtain rfl := hw
  have hP : va_P g.2.1 cls7 [(a2, .inr (3, [.ref q2, .int (nI z2)])), (q2, .inl (cI g, n2, .inl f2)), (a, .inr (3, [.ref q, .int (nI ((z + 1) + 1))])), (q, .inl (cI g, n, .inl (upd (upd f z (b &&& nI 255)) (z + 1) ((us (nI z2) (nI 16)) &&& nI 255))))] H := hP
  have hD : va_D A [(a2, .inr (3, [.ref q2, .int (nI z2)])), (q2, .inl (cI g, n2, .inl f2)), (a, .inr (3, [.ref q, .int (nI ((z + 1) + 1))])), (q, .inl (cI g, n, .inl (upd (upd f z (b &&& nI 255)) (z + 1) ((us (nI z2) (nI 16)) &&& nI 255))))] := hD
  refine W.eq (g2 := F0 m 16 ls []) rfl ?_
  refine lv_aload_n hx hb d_X3_putMessage_16 rfl (lv_at hl 0 rfl) ?_
  refine lv_aload_n hx hb d_X3_putMessage_17 rfl (lv_at hl 2 rfl) ?_
  refine va_get (D := g.2.1) (ci := 3) (v := .int (nI z2)) (C := R_X3) (T := T_X3) (N := 2) hx hb ht i_X3 hown hK hP 0 rfl rfl 1 (by decide) (ht _ w_44) (fun _ h9 => h9) rfl d_X3_putMessage_18 ?_
  refine lv_bipush (v := (nI 8)) hx hb d_X3_putMessage_21 (by decide) ?_
  refine lv_iushr (v := us (nI z2) (nI 8)) hx hb d_X3_putMessage_23 rfl ?_
  refine g_callV (As := [.int (us (nI z2) (nI 8))]) (rest := []) (wr := [(a2, .inr (3, [.ref q2, .int (nI z2)])), (q2, .inl (cI g, n2, .inl f2))]) (q0 := 0) (ci := 3) (XSok g) ⟨hx, hb, hml, hown, ht⟩ hK hA hXs hl.1 hP hD hS (c_X3_put g a q n (upd (upd f z (b &&& nI 255)) (z + 1) ((us (nI z2) (nI 16)) &&& nI 255)) ((z + 1) + 1) (us (nI z2) (nI 8)) (by omega) (by omega)) (g_perm 4 [2, 3, 0, 1] rfl rfl (by decide +kernel)) rfl rfl (cwV 1 ht (tb_V w_481 w_56 w_57 w_3 k_X3_put) rfl rfl rfl (by decide +kernel) ⟨(Nat.le_of_ble_eq_true rfl), (Nat.le_of_ble_eq_true rfl)⟩) rfl rfl (Nat.le_of_ble_eq_true rfl) d_X3_putMessage_24 ⟨(Nat.le_of_ble_eq_true rfl), (Nat.le_of_ble_eq_true rfl)⟩ (fun v u H locs hw hP hD hS => ?_)
  obtain rfl := hw
  have hP : va_P g.2.1 cls7 [(a2, .inr (3, [.ref q2, .int (nI z2)])), (q2, .inl (cI g, n2, .inl f2)), (a, .inr (3, [.ref q, .int (nI (((z + 1) + 1) + 1))])), (q, .inl (cI g, n, .inl (upd (upd (upd f z (b &&& nI 255)) (z + 1) ((us (nI z2) (nI 16)) &&& nI 255)) ((z + 1) + 1) ((us (nI z2) (nI 8)) &&& nI 255))))] H := hP
  have hD : va_D A [(a2, .inr (3, [.ref q2, .int (nI z2)])), (q2, .inl (cI g, n2, .inl f2)), (a, .inr (3, [.ref q, .int (nI (((z + 1) + 1) + 1))])), (q, .inl (cI g, n, .inl (upd (upd (upd f z (b &&& nI 255)) (z + 1) ((us (nI z2) (nI 16)) &&& nI 255)) ((z + 1) + 1) ((us (nI z2) (nI 8)) &&& nI 255))))] := hD
  refine W.eq (g2 := F0 m 27 ls []) rfl ?_
  refine lv_aload_n hx hb d_X3_putMessage_27 rfl (lv_at hl 0 rfl) ?_
  refine lv_aload_n hx hb d_X3_putMessage_28 rfl (lv_at hl 2 rfl) ?_
  refine va_get (D := g.2.1) (ci := 3) (v := .int (nI z2)) (C := R_X3) (T := T_X3) (N := 2) hx hb ht i_X3 hown hK hP 0 rfl rfl 1 (by decide) (ht _ w_44) (fun _ h9 => h9) rfl d_X3_putMessage_29 ?_
  refine g_callV (As := [.int (nI z2)]) (rest := []) (wr := [(a2, .inr (3, [.ref q2, .int (nI z2)])), (q2, .inl (cI g, n2, .inl f2))]) (q0 := 0) (ci := 3) (XSok g) ⟨hx, hb, hml, hown, ht⟩ hK hA hXs hl.1 hP hD hS (c_X3_put g a q n (upd (upd (upd f z (b &&& nI 255)) (z + 1) ((us (nI z2) (nI 16)) &&& nI 255)) ((z + 1) + 1) ((us (nI z2) (nI 8)) &&& nI 255)) (((z + 1) + 1) + 1) (nI z2) (by omega) (by omega)) (g_perm 4 [2, 3, 0, 1] rfl rfl (by decide +kernel)) rfl rfl (cwV 1 ht (tb_V w_481 w_56 w_57 w_3 k_X3_put) rfl rfl rfl (by decide +kernel) ⟨(Nat.le_of_ble_eq_true rfl), (Nat.le_of_ble_eq_true rfl)⟩) rfl rfl (Nat.le_of_ble_eq_true rfl) d_X3_putMessage_32 ⟨(Nat.le_of_ble_eq_true rfl), (Nat.le_of_ble_eq_true rfl)⟩ (fun v u H locs hw hP hD hS => ?_)
  obtain rfl := hw
  have hP : va_P g.2.1 cls7 [(a2, .inr (3, [.ref q2, .int (nI z2)])), (q2, .inl (cI g, n2, .inl f2)), (a, .inr (3, [.ref q, .int (nI ((((z + 1) + 1) + 1) + 1))])), (q, .inl (cI g, n, .inl (upd (upd (upd (upd f z (b &&& nI 255)) (z + 1) ((us (nI z2) (nI 16)) &&& nI 255)) ((z + 1) + 1) ((us (nI z2) (nI 8)) &&& nI 255)) (((z + 1) + 1) + 1) ((nI z2) &&& nI 255))))] H := hP
  have hD : va_D A [(a2, .inr (3, [.ref q2, .int (nI z2)])), (q2, .inl (cI g, n2, .inl f2)), (a, .inr (3, [.ref q, .int (nI ((((z + 1) + 1) + 1) + 1))])), (q, .inl (cI g, n, .inl (upd (upd (upd (upd f z (b &&& nI 255)) (z + 1) ((us (nI z2) (nI 16)) &&& nI 255)) ((z + 1) + 1) ((us (nI z2) (nI 8)) &&& nI 255)) (((z + 1) + 1) + 1) ((nI z2) &&& nI 255))))] := hD
  refine W.eq (g2 := F0 m 35 ls []) rfl ?_
  refine lv_aload_n hx hb d_X3_putMessage_35 rfl (lv_at hl 0 rfl) ?_
  refine lv_aload_n hx hb d_X3_putMessage_36 rfl (lv_at hl 2 rfl) ?_
  refine lv_iconst (v := (nI 0)) hx hb d_X3_putMessage_37 (by decide) ?_
  refine g_callV (As := [.ref a2, .int (nI 0)]) (rest := []) (wr := []) (q0 := 0) (ci := 3) (XSok g) ⟨hx, hb, hml, hown, ht⟩ hK hA hXs hl.1 hP hD hS (c_X3_putFrom g a q n (upd (upd (upd (upd f z (b &&& nI 255)) (z + 1) ((us (nI z2) (nI 16)) &&& nI 255)) ((z + 1) + 1) ((us (nI z2) (nI 8)) &&& nI 255)) (((z + 1) + 1) + 1) ((nI z2) &&& nI 255)) ((((z + 1) + 1) + 1) + 1) a2 q2 n2 f2 z2 0 (by omega) (by omega) (by omega) (by omega) (by omega)) (g_perm 4 [2, 3, 0, 1] rfl rfl (by decide +kernel)) rfl rfl (cwV 2 ht (tb_V w_337 w_338 w_339 w_3 k_X3_putFrom) rfl rfl rfl (by decide +kernel) ⟨(Nat.le_of_ble_eq_true rfl), (Nat.le_of_ble_eq_true rfl)⟩) rfl rfl (Nat.le_of_ble_eq_true rfl) d_X3_putMessage_38 ⟨(Nat.le_of_ble_eq_true rfl), (Nat.le_of_ble_eq_true rfl)⟩ (fun v u H locs hw hP hD hS => ?_)
  obtain rfl := hw
  have hP : va_P g.2.1 cls7 [(a, .inr (3, [.ref q, .int (nI (((((z + 1) + 1) + 1) + 1) + (z2 - 0)))])), (q, .inl (cI g, n, .inl (va_cpy f2 (upd (upd (upd (upd f z (b &&& nI 255)) (z + 1) ((us (nI z2) (nI 16)) &&& nI 255)) ((z + 1) + 1) ((us (nI z2) (nI 8)) &&& nI 255)) (((z + 1) + 1) + 1) ((nI z2) &&& nI 255)) 0 ((((z + 1) + 1) + 1) + 1) (z2 - 0)))), (a2, .inr (3, [.ref q2, .int (nI z2)])), (q2, .inl (cI g, n2, .inl f2))] H := hP
  have hD : va_D A [(a, .inr (3, [.ref q, .int (nI (((((z + 1) + 1) + 1) + 1) + (z2 - 0)))])), (q, .inl (cI g, n, .inl (va_cpy f2 (upd (upd (upd (upd f z (b &&& nI 255)) (z + 1) ((us (nI z2) (nI 16)) &&& nI 255)) ((z + 1) + 1) ((us (nI z2) (nI 8)) &&& nI 255)) (((z + 1) + 1) + 1) ((nI z2) &&& nI 255)) 0 ((((z + 1) + 1) + 1) + 1) (z2 - 0)))), (a2, .inr (3, [.ref q2, .int (nI z2)])), (q2, .inl (cI g, n2, .inl f2))] := hD
  refine W.eq (g2 := F0 m 41 ls []) rfl ?_
  rw [Nat.sub_zero] at hP hD
  exact g_vret hx hb hr hlocks hP hD hS () (List.Perm.refl _) rfl (Nat.le_of_ble_eq_true rfl) (Nat.le_of_ble_eq_true rfl) d_X3_putMessage_41
