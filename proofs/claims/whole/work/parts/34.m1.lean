set_option maxHeartbeats 1000000 in
set_option maxRecDepth 100000 in
theorem c_X6_put (g : GG) (mo : Nat) (ma : Nat → Nat) (th : Nat) (tp : Nat) (sz : Nat) (xf : Nat → Int32) (v : Int32) (hsz : sz < 4096) : Cg g y_X6_put b_X6_put 2 none ({ frames := 0, cells := 0, slots := 0, locals := 0 } : Room) [.ref mo, .int v] [(mo, .inr (6, .int (nI th) :: .ref (ma 1) :: .int (nI tp) :: .ref (ma 3) :: .ref (ma 4) :: .ref (ma 5) :: .ref (ma 6) :: .ref (ma 7) :: .ref (ma 8) :: .ref (ma 9) :: .ref (ma 10) :: .ref (ma 11) :: .ref (ma 12) :: .ref (ma 13) :: .ref (ma 14) :: .ref (ma 15) :: .ref (ma 16) :: .ref (ma 17) :: .ref (ma 18) :: .ref (ma 19) :: .ref (ma 20) :: .ref (ma 21) :: .ref (ma 22) :: .ref (ma 23) :: .ref (ma 24) :: .ref (ma 25) :: .ref (ma 26) :: .ref (ma 27) :: .ref (ma 28) :: .ref (ma 29) :: .ref (ma 30) :: .ref (ma 31) :: .ref (ma 32) :: .int (nI sz) :: .ref (ma 34) :: .ref (ma 35) :: .ref (ma 36) :: .ref (ma 37) :: [])), (ma 32, .inl (cI g, 4096, .inl xf))] (S := Unit) (fun (v : Option Value) (_ : Unit) => v = none) (fun (_ : Unit) => [(mo, .inr (6, .int (nI th) :: .ref (ma 1) :: .int (nI tp) :: .ref (ma 3) :: .ref (ma 4) :: .ref (ma 5) :: .ref (ma 6) :: .ref (ma 7) :: .ref (ma 8) :: .ref (ma 9) :: .ref (ma 10) :: .ref (ma 11) :: .ref (ma 12) :: .ref (ma 13) :: .ref (ma 14) :: .ref (ma 15) :: .ref (ma 16) :: .ref (ma 17) :: .ref (ma 18) :: .ref (ma 19) :: .ref (ma 20) :: .ref (ma 21) :: .ref (ma 22) :: .ref (ma 23) :: .ref (ma 24) :: .ref (ma 25) :: .ref (ma 26) :: .ref (ma 27) :: .ref (ma 28) :: .ref (ma 29) :: .ref (ma 30) :: .ref (ma 31) :: .ref (ma 32) :: .int (nI (sz + 1)) :: .ref (ma 34) :: .ref (ma 35) :: .ref (ma 36) :: .ref (ma 37) :: [])), (ma 32, .inl (cI g, 4096, .inl (upd xf sz (v &&& nI 255))))]) := by
  refine Ct_of (cc := b_X6_put) (maxL := 2) (ret := none) (by decide) rfl (Nat.le_of_ble_eq_true rfl) ?_
  intro p e s m below meth c A ls hx hb hr hml hown hts hlocks hin hA hP hK hD hXs hS hl
  have ht : ∀ w ∈ tb, w.before [.ref mo, .int v].toArray s = true := fun w h => hts w (List.mem_cons_of_mem _ h)
  have hown : s.vm.findClass R_X6 = some m.cls := hown
  have hl : lv_has ls 2 [(0, .ref mo), (1, .int v)] := hl
  refine lv_aload_n hx hb d_X6_put_0 rfl (lv_at hl 0 rfl) ?_
  refine va_get (D := g.2.1) (ci := 6) (v := .ref (ma 32)) (C := R_X6) (T := T_X6) (N := 38) hx hb ht i_X6 hown hK hP 0 rfl rfl 32 (by decide) (ht _ w_700) (fun _ h9 => h9) rfl d_X6_put_1 ?_
  refine lv_aload_n hx hb d_X6_put_4 rfl (lv_at hl 0 rfl) ?_
  refine va_get (D := g.2.1) (ci := 6) (v := .int (nI sz)) (C := R_X6) (T := T_X6) (N := 38) hx hb ht i_X6 hown hK hP 0 rfl rfl 33 (by decide) (ht _ w_701) (fun _ h9 => h9) rfl d_X6_put_5 ?_
  refine lv_iload_n hx hb d_X6_put_8 rfl (lv_at hl 1 rfl) ?_
  refine lv_sipush (v := (nI 255)) hx hb d_X6_put_9 (by decide) ?_
  refine lv_iand hx hb d_X6_put_12 ?_
  refine lv_topi (fun x_1 ex_1 => ?_)
  refine ln_iast hx hb hK hP hD hS 1 0 rfl rfl (by omega) (by omega) d_X6_put_13 (fun H locs hP hD hS => ?_)
  have hP : va_P g.2.1 cls7 [(mo, .inr (6, .int (nI th) :: .ref (ma 1) :: .int (nI tp) :: .ref (ma 3) :: .ref (ma 4) :: .ref (ma 5) :: .ref (ma 6) :: .ref (ma 7) :: .ref (ma 8) :: .ref (ma 9) :: .ref (ma 10) :: .ref (ma 11) :: .ref (ma 12) :: .ref (ma 13) :: .ref (ma 14) :: .ref (ma 15) :: .ref (ma 16) :: .ref (ma 17) :: .ref (ma 18) :: .ref (ma 19) :: .ref (ma 20) :: .ref (ma 21) :: .ref (ma 22) :: .ref (ma 23) :: .ref (ma 24) :: .ref (ma 25) :: .ref (ma 26) :: .ref (ma 27) :: .ref (ma 28) :: .ref (ma 29) :: .ref (ma 30) :: .ref (ma 31) :: .ref (ma 32) :: .int (nI sz) :: .ref (ma 34) :: .ref (ma 35) :: .ref (ma 36) :: .ref (ma 37) :: [])), (ma 32, .inl (cI g, 4096, .inl (upd xf sz x_1)))] H := hP
  have hD : va_D A [(mo, .inr (6, .int (nI th) :: .ref (ma 1) :: .int (nI tp) :: .ref (ma 3) :: .ref (ma 4) :: .ref (ma 5) :: .ref (ma 6) :: .ref (ma 7) :: .ref (ma 8) :: .ref (ma 9) :: .ref (ma 10) :: .ref (ma 11) :: .ref (ma 12) :: .ref (ma 13) :: .ref (ma 14) :: .ref (ma 15) :: .ref (ma 16) :: .ref (ma 17) :: .ref (ma 18) :: .ref (ma 19) :: .ref (ma 20) :: .ref (ma 21) :: .ref (ma 22) :: .ref (ma 23) :: .ref (ma 24) :: .ref (ma 25) :: .ref (ma 26) :: .ref (ma 27) :: .ref (ma 28) :: .ref (ma 29) :: .ref (ma 30) :: .ref (ma 31) :: .ref (ma 32) :: .int (nI sz) :: .ref (ma 34) :: .ref (ma 35) :: .ref (ma 36) :: .ref (ma 37) :: [])), (ma 32, .inl (cI g, 4096, .inl (upd xf sz x_1)))] := hD
  refine lv_aload_n hx hb d_X6_put_14 rfl (lv_at hl 0 rfl) ?_
  refine lv_dup hx hb d_X6_put_15 rfl ?_
  refine va_get (D := g.2.1) (ci := 6) (v := .int (nI sz)) (C := R_X6) (T := T_X6) (N := 38) hx hb ht i_X6 hown hK hP 0 rfl rfl 33 (by decide) (ht _ w_701) (fun _ h9 => h9) rfl d_X6_put_16 ?_
  refine lv_iconst (v := (nI 1)) hx hb d_X6_put_19 (by decide) ?_
  refine ln_iadd hx hb d_X6_put_20 ?_
  refine va_put (D := g.2.1) (ci := 6) (v := .int (nI (sz + 1))) (ty := .int) (C := R_X6) (T := T_X6) (N := 38) hx hb ht i_X6 t_X6 tok_X6 n_X6 hown hK hP hD hS 0 rfl rfl 33 (by decide) (ht _ w_701) (fun _ h9 => h9) rfl (by decide +kernel) rfl rfl (Nat.le_of_ble_eq_true rfl) d_X6_put_21 (fun H locs hP hD hS => ?_)
  have hP : va_P g.2.1 cls7 [(mo, .inr (6, .int (nI th) :: .ref (ma 1) :: .int (nI tp) :: .ref (ma 3) :: .ref (ma 4) :: .ref (ma 5) :: .ref (ma 6) :: .ref (ma 7) :: .ref (ma 8) :: .ref (ma 9) :: .ref (ma 10) :: .ref (ma 11) :: .ref (ma 12) :: .ref (ma 13) :: .ref (ma 14) :: .ref (ma 15) :: .ref (ma 16) :: .ref (ma 17) :: .ref (ma 18) :: .ref (ma 19) :: .ref (ma 20) :: .ref (ma 21) :: .ref (ma 22) :: .ref (ma 23) :: .ref (ma 24) :: .ref (ma 25) :: .ref (ma 26) :: .ref (ma 27) :: .ref (ma 28) :: .ref (ma 29) :: .ref (ma 30) :: .ref (ma 31) :: .ref (ma 32) :: .int (nI (sz + 1)) :: .ref (ma 34) :: .ref (ma 35) :: .ref (ma 36) :: .ref (ma 37) :: [])), (ma 32, .inl (cI g, 4096, .inl (upd xf sz x_1)))] H := hP
  have hD : va_D A [(mo, .inr (6, .int (nI th) :: .ref (ma 1) :: .int (nI tp) :: .ref (ma 3) :: .ref (ma 4) :: .ref (ma 5) :: .ref (ma 6) :: .ref (ma 7) :: .ref (ma 8) :: .ref (ma 9) :: .ref (ma 10) :: .ref (ma 11) :: .ref (ma 12) :: .ref (ma 13) :: .ref (ma 14) :: .ref (ma 15) :: .ref (ma 16) :: .ref (ma 17) :: .ref (ma 18) :: .ref (ma 19) :: .ref (ma 20) :: .ref (ma 21) :: .ref (ma 22) :: .ref (ma 23) :: .ref (ma 24) :: .ref (ma 25) :: .ref (ma 26) :: .ref (ma 27) :: .ref (ma 28) :: .ref (ma 29) :: .ref (ma 30) :: .ref (ma 31) :: .ref (ma 32) :: .int (nI (sz + 1)) :: .ref (ma 34) :: .ref (ma 35) :: .ref (ma 36) :: .ref (ma 37) :: [])), (ma 32, .inl (cI g, 4096, .inl (upd xf sz x_1)))] := hD
  rw [ex_1] at hP hD
  exact g_vret hx hb hr hlocks hP hD hS () (List.Perm.refl _) rfl (Nat.le_of_ble_eq_true rfl) (Nat.le_of_ble_eq_true rfl) d_X6_put_24

set_option maxHeartbeats 1000000 in
set_option maxRecDepth 100000 in
theorem c_X6_turned (g : GG) (x : Int32) (n : Nat) (hn32 : n ≤ 32) : Cg g y_X6_turned b_X6_turned 2 (some .int) ({ frames := 0, cells := 0, slots := 0, locals := 0 } : Room) [.int x, .int (nI n)] [] (S := Unit) (fun (v : Option Value) (_ : Unit) => v = some (.int (us x (nI n) ||| sl x (nI (32 - n))))) (fun (_ : Unit) => []) := by
  refine Ct_of (cc := b_X6_turned) (maxL := 2) (ret := (some .int)) (by decide) rfl (Nat.le_of_ble_eq_true rfl) ?_
  intro p e s m below meth c A ls hx hb hr hml hown hts hlocks hin hA hP hK hD hXs hS hl
  have ht : ∀ w ∈ tb, w.before [.int x, .int (nI n)].toArray s = true := fun w h => hts w (List.mem_cons_of_mem _ h)
  have hown : s.vm.findClass R_X6 = some m.cls := hown
  have hl : lv_has ls 2 [(0, .int x), (1, .int (nI n))] := hl
  refine lv_iload_n hx hb d_X6_turned_0 rfl (lv_at hl 0 rfl) ?_
  refine lv_iload_n hx hb d_X6_turned_1 rfl (lv_at hl 1 rfl) ?_
  refine lv_iushr (v := us x (nI n)) hx hb d_X6_turned_2 rfl ?_
  refine lv_iload_n hx hb d_X6_turned_3 rfl (lv_at hl 0 rfl) ?_
  refine lv_bipush (v := (nI 32)) hx hb d_X6_turned_4 (by decide) ?_
  refine lv_iload_n hx hb d_X6_turned_6 rfl (lv_at hl 1 rfl) ?_
  refine ln_isub hx hb d_X6_turned_7 (by omega) ?_
  refine ln_ishl hx hb d_X6_turned_8 ?_
  refine lv_ior hx hb d_X6_turned_9 ?_
  exact g_iret (v := ((us x (nI n)) ||| (sl x (nI (32 - n))))) hx hb hr hlocks hP hD hS () (List.Perm.refl _) rfl (Nat.le_of_ble_eq_true rfl) (Nat.le_of_ble_eq_true rfl) d_X6_turned_10

set_option maxHeartbeats 1000000 in
set_option maxRecDepth 100000 in
theorem c_X6_out (g : GG) (vi : Int32) (n : Nat) (hn31 : n < 2 ^ 31) : Cg g y_X6_out b_X6_out 2 (some .boolean) ({ frames := 0, cells := 0, slots := 0, locals := 0 } : Room) [.int vi, .int (nI n)] [] (S := Unit) (fun (v : Option Value) (_ : Unit) => v = some (.int (if vi < 0 ∨ nI n ≤ vi then 1 else 0))) (fun (_ : Unit) => []) := by
  refine Ct_of (cc := b_X6_out) (maxL := 2) (ret := (some .boolean)) (by decide) rfl (Nat.le_of_ble_eq_true rfl) ?_
  intro p e s m below meth c A ls hx hb hr hml hown hts hlocks hin hA hP hK hD hXs hS hl
  have ht : ∀ w ∈ tb, w.before [.int vi, .int (nI n)].toArray s = true := fun w h => hts w (List.mem_cons_of_mem _ h)
  have hown : s.vm.findClass R_X6 = some m.cls := hown
  have hl : lv_has ls 2 [(0, .int vi), (1, .int (nI n))] := hl
  refine lv_iload_n hx hb d_X6_out_0 rfl (lv_at hl 0 rfl) ?_
  refine lv_if_lt (tgt := 9) hx hb d_X6_out_1 (by decide) (fun c_1 => ?_) (fun c_1 => ?_)
  · refine lv_iconst (v := (nI 1)) hx hb d_X6_out_9 (by decide) ?_
    refine lv_goto (tgt := 14) hx hb d_X6_out_10 (by decide) ?_
    have e0 : ((nI 1) : Int32) = (if vi < 0 ∨ nI n ≤ vi then 1 else 0) := (if_pos (Or.inl c_1)).symm
    exact g_zret (v := (nI 1)) hx hb hr hlocks hP hD hS () (List.Perm.refl _) (by decide) (congrArg (fun t => some (Value.int t)) e0) (Nat.le_of_ble_eq_true rfl) (Nat.le_of_ble_eq_true rfl) d_X6_out_14
  · refine lv_iload_n hx hb d_X6_out_4 rfl (lv_at hl 0 rfl) ?_
    refine lv_iload_n hx hb d_X6_out_5 rfl (lv_at hl 1 rfl) ?_
    refine lv_icmp_lt (tgt := 13) hx hb d_X6_out_6 (by decide) (fun c_2 => ?_) (fun c_2 => ?_)
    · refine lv_iconst (v := (nI 0)) hx hb d_X6_out_13 (by decide) ?_
      have e0 : ((nI 0) : Int32) = (if vi < 0 ∨ nI n ≤ vi then 1 else 0) := (if_neg (fun h => h.elim c_1 (Int32.not_le.mpr c_2))).symm
      exact g_zret (v := (nI 0)) hx hb hr hlocks hP hD hS () (List.Perm.refl _) (by decide) (congrArg (fun t => some (Value.int t)) e0) (Nat.le_of_ble_eq_true rfl) (Nat.le_of_ble_eq_true rfl) d_X6_out_14
    · refine lv_iconst (v := (nI 1)) hx hb d_X6_out_9 (by decide) ?_
      refine lv_goto (tgt := 14) hx hb d_X6_out_10 (by decide) ?_
      have e0 : ((nI 1) : Int32) = (if vi < 0 ∨ nI n ≤ vi then 1 else 0) := (if_pos (Or.inr (Int32.not_lt.mp c_2))).symm
      exact g_zret (v := (nI 1)) hx hb hr hlocks hP hD hS () (List.Perm.refl _) (by decide) (congrArg (fun t => some (Value.int t)) e0) (Nat.le_of_ble_eq_true rfl) (Nat.le_of_ble_eq_true rfl) d_X6_out_14

set_option maxHeartbeats 1000000 in
set_option maxRecDepth 100000 in
theorem c_X6_fails_0 (g : GG) (mo : Nat) (ma : Nat → Nat) (th : Nat) (tp : Nat) (sz : Nat) (k : Nat)  : Cg g y_X6_fails b_X6_fails 3 (some .boolean) ({ frames := 0, cells := 0, slots := 0, locals := 0 } : Room) [.ref mo, .int (nI 0), .int (nI k)] [(mo, .inr (6, .int (nI th) :: .ref (ma 1) :: .int (nI tp) :: .ref (ma 3) :: .ref (ma 4) :: .ref (ma 5) :: .ref (ma 6) :: .ref (ma 7) :: .ref (ma 8) :: .ref (ma 9) :: .ref (ma 10) :: .ref (ma 11) :: .ref (ma 12) :: .ref (ma 13) :: .ref (ma 14) :: .ref (ma 15) :: .ref (ma 16) :: .ref (ma 17) :: .ref (ma 18) :: .ref (ma 19) :: .ref (ma 20) :: .ref (ma 21) :: .ref (ma 22) :: .ref (ma 23) :: .ref (ma 24) :: .ref (ma 25) :: .ref (ma 26) :: .ref (ma 27) :: .ref (ma 28) :: .ref (ma 29) :: .ref (ma 30) :: .ref (ma 31) :: .ref (ma 32) :: .int (nI sz) :: .ref (ma 34) :: .ref (ma 35) :: .ref (ma 36) :: .ref (ma 37) :: []))] (S := Unit) (fun (v : Option Value) (_ : Unit) => v = some (.int (nI 0))) (fun (_ : Unit) => [(mo, .inr (6, .int (nI 0) :: .ref (ma 1) :: .int (nI tp) :: .ref (ma 3) :: .ref (ma 4) :: .ref (ma 5) :: .ref (ma 6) :: .ref (ma 7) :: .ref (ma 8) :: .ref (ma 9) :: .ref (ma 10) :: .ref (ma 11) :: .ref (ma 12) :: .ref (ma 13) :: .ref (ma 14) :: .ref (ma 15) :: .ref (ma 16) :: .ref (ma 17) :: .ref (ma 18) :: .ref (ma 19) :: .ref (ma 20) :: .ref (ma 21) :: .ref (ma 22) :: .ref (ma 23) :: .ref (ma 24) :: .ref (ma 25) :: .ref (ma 26) :: .ref (ma 27) :: .ref (ma 28) :: .ref (ma 29) :: .ref (ma 30) :: .ref (ma 31) :: .ref (ma 32) :: .int (nI sz) :: .ref (ma 34) :: .ref (ma 35) :: .ref (ma 36) :: .ref (ma 37) :: []))]) := by
  refine Ct_of (cc := b_X6_fails) (maxL := 3) (ret := (some .boolean)) (by decide) rfl (Nat.le_of_ble_eq_true rfl) ?_
  intro p e s m below meth c A ls hx hb hr hml hown hts hlocks hin hA hP hK hD hXs hS hl
  have ht : ∀ w ∈ tb, w.before [.ref mo, .int (nI 0), .int (nI k)].toArray s = true := fun w h => hts w (List.mem_cons_of_mem _ h)
  have hown : s.vm.findClass R_X6 = some m.cls := hown
  have hl : lv_has ls 3 [(0, .ref mo), (1, .int (nI 0)), (2, .int (nI k))] := hl
  refine lv_aload_n hx hb d_X6_fails_0 rfl (lv_at hl 0 rfl) ?_
  refine lv_iload_n hx hb d_X6_fails_1 rfl (lv_at hl 1 rfl) ?_
  refine ln_if_eq_t (tgt := 9) hx hb d_X6_fails_2 (by decide) (by omega) (by omega) ?_
  refine lv_iconst (v := (nI 0)) hx hb d_X6_fails_9 (by decide) ?_
  refine va_put (D := g.2.1) (ci := 6) (v := .int (nI 0)) (ty := .int) (C := R_X6) (T := T_X6) (N := 38) hx hb ht i_X6 t_X6 tok_X6 n_X6 hown hK hP hD hS 0 rfl rfl 0 (by decide) (ht _ w_668) (fun _ h9 => h9) rfl (by decide +kernel) rfl rfl (Nat.le_of_ble_eq_true rfl) d_X6_fails_10 (fun H locs hP hD hS => ?_)
  have hP : va_P g.2.1 cls7 [(mo, .inr (6, .int (nI 0) :: .ref (ma 1) :: .int (nI tp) :: .ref (ma 3) :: .ref (ma 4) :: .ref (ma 5) :: .ref (ma 6) :: .ref (ma 7) :: .ref (ma 8) :: .ref (ma 9) :: .ref (ma 10) :: .ref (ma 11) :: .ref (ma 12) :: .ref (ma 13) :: .ref (ma 14) :: .ref (ma 15) :: .ref (ma 16) :: .ref (ma 17) :: .ref (ma 18) :: .ref (ma 19) :: .ref (ma 20) :: .ref (ma 21) :: .ref (ma 22) :: .ref (ma 23) :: .ref (ma 24) :: .ref (ma 25) :: .ref (ma 26) :: .ref (ma 27) :: .ref (ma 28) :: .ref (ma 29) :: .ref (ma 30) :: .ref (ma 31) :: .ref (ma 32) :: .int (nI sz) :: .ref (ma 34) :: .ref (ma 35) :: .ref (ma 36) :: .ref (ma 37) :: []))] H := hP
  have hD : va_D A [(mo, .inr (6, .int (nI 0) :: .ref (ma 1) :: .int (nI tp) :: .ref (ma 3) :: .ref (ma 4) :: .ref (ma 5) :: .ref (ma 6) :: .ref (ma 7) :: .ref (ma 8) :: .ref (ma 9) :: .ref (ma 10) :: .ref (ma 11) :: .ref (ma 12) :: .ref (ma 13) :: .ref (ma 14) :: .ref (ma 15) :: .ref (ma 16) :: .ref (ma 17) :: .ref (ma 18) :: .ref (ma 19) :: .ref (ma 20) :: .ref (ma 21) :: .ref (ma 22) :: .ref (ma 23) :: .ref (ma 24) :: .ref (ma 25) :: .ref (ma 26) :: .ref (ma 27) :: .ref (ma 28) :: .ref (ma 29) :: .ref (ma 30) :: .ref (ma 31) :: .ref (ma 32) :: .int (nI sz) :: .ref (ma 34) :: .ref (ma 35) :: .ref (ma 36) :: .ref (ma 37) :: []))] := hD
  refine lv_iload_n hx hb d_X6_fails_13 rfl (lv_at hl 1 rfl) ?_
  exact g_zret (v := (nI 0)) hx hb hr hlocks hP hD hS () (List.Perm.refl _) (by decide) rfl (Nat.le_of_ble_eq_true rfl) (Nat.le_of_ble_eq_true rfl) d_X6_fails_14

set_option maxHeartbeats 1000000 in
set_option maxRecDepth 100000 in
theorem c_X6_fails_1 (g : GG) (mo : Nat) (ma : Nat → Nat) (th : Nat) (tp : Nat) (sz : Nat) (k : Nat)  : Cg g y_X6_fails b_X6_fails 3 (some .boolean) ({ frames := 0, cells := 0, slots := 0, locals := 0 } : Room) [.ref mo, .int (nI 1), .int (nI k)] [(mo, .inr (6, .int (nI th) :: .ref (ma 1) :: .int (nI tp) :: .ref (ma 3) :: .ref (ma 4) :: .ref (ma 5) :: .ref (ma 6) :: .ref (ma 7) :: .ref (ma 8) :: .ref (ma 9) :: .ref (ma 10) :: .ref (ma 11) :: .ref (ma 12) :: .ref (ma 13) :: .ref (ma 14) :: .ref (ma 15) :: .ref (ma 16) :: .ref (ma 17) :: .ref (ma 18) :: .ref (ma 19) :: .ref (ma 20) :: .ref (ma 21) :: .ref (ma 22) :: .ref (ma 23) :: .ref (ma 24) :: .ref (ma 25) :: .ref (ma 26) :: .ref (ma 27) :: .ref (ma 28) :: .ref (ma 29) :: .ref (ma 30) :: .ref (ma 31) :: .ref (ma 32) :: .int (nI sz) :: .ref (ma 34) :: .ref (ma 35) :: .ref (ma 36) :: .ref (ma 37) :: []))] (S := Unit) (fun (v : Option Value) (_ : Unit) => v = some (.int (nI 1))) (fun (_ : Unit) => [(mo, .inr (6, .int (nI k) :: .ref (ma 1) :: .int (nI tp) :: .ref (ma 3) :: .ref (ma 4) :: .ref (ma 5) :: .ref (ma 6) :: .ref (ma 7) :: .ref (ma 8) :: .ref (ma 9) :: .ref (ma 10) :: .ref (ma 11) :: .ref (ma 12) :: .ref (ma 13) :: .ref (ma 14) :: .ref (ma 15) :: .ref (ma 16) :: .ref (ma 17) :: .ref (ma 18) :: .ref (ma 19) :: .ref (ma 20) :: .ref (ma 21) :: .ref (ma 22) :: .ref (ma 23) :: .ref (ma 24) :: .ref (ma 25) :: .ref (ma 26) :: .ref (ma 27) :: .ref (ma 28) :: .ref (ma 29) :: .ref (ma 30) :: .ref (ma 31) :: .ref (ma 32) :: .int (nI sz) :: .ref (ma 34) :: .ref (ma 35) :: .ref (ma 36) :: .ref (ma 37) :: []))]) := by
  refine Ct_of (cc := b_X6_fails) (maxL := 3) (ret := (some .boolean)) (by decide) rfl (Nat.le_of_ble_eq_true rfl) ?_
  intro p e s m below meth c A ls hx hb hr hml hown hts hlocks hin hA hP hK hD hXs hS hl
  have ht : ∀ w ∈ tb, w.before [.ref mo, .int (nI 1), .int (nI k)].toArray s = true := fun w h => hts w (List.mem_cons_of_mem _ h)
  have hown : s.vm.findClass R_X6 = some m.cls := hown
  have hl : lv_has ls 3 [(0, .ref mo), (1, .int (nI 1)), (2, .int (nI k))] := hl
  refine lv_aload_n hx hb d_X6_fails_0 rfl (lv_at hl 0 rfl) ?_
  refine lv_iload_n hx hb d_X6_fails_1 rfl (lv_at hl 1 rfl) ?_
  refine ln_if_eq_f (tgt := 9) hx hb d_X6_fails_2 (by decide) (by omega) (by omega) ?_
  refine lv_iload_n hx hb d_X6_fails_5 rfl (lv_at hl 2 rfl) ?_
  refine lv_goto (tgt := 10) hx hb d_X6_fails_6 (by decide) ?_
  refine va_put (D := g.2.1) (ci := 6) (v := .int (nI k)) (ty := .int) (C := R_X6) (T := T_X6) (N := 38) hx hb ht i_X6 t_X6 tok_X6 n_X6 hown hK hP hD hS 0 rfl rfl 0 (by decide) (ht _ w_668) (fun _ h9 => h9) rfl (by decide +kernel) rfl rfl (Nat.le_of_ble_eq_true rfl) d_X6_fails_10 (fun H locs hP hD hS => ?_)
  have hP : va_P g.2.1 cls7 [(mo, .inr (6, .int (nI k) :: .ref (ma 1) :: .int (nI tp) :: .ref (ma 3) :: .ref (ma 4) :: .ref (ma 5) :: .ref (ma 6) :: .ref (ma 7) :: .ref (ma 8) :: .ref (ma 9) :: .ref (ma 10) :: .ref (ma 11) :: .ref (ma 12) :: .ref (ma 13) :: .ref (ma 14) :: .ref (ma 15) :: .ref (ma 16) :: .ref (ma 17) :: .ref (ma 18) :: .ref (ma 19) :: .ref (ma 20) :: .ref (ma 21) :: .ref (ma 22) :: .ref (ma 23) :: .ref (ma 24) :: .ref (ma 25) :: .ref (ma 26) :: .ref (ma 27) :: .ref (ma 28) :: .ref (ma 29) :: .ref (ma 30) :: .ref (ma 31) :: .ref (ma 32) :: .int (nI sz) :: .ref (ma 34) :: .ref (ma 35) :: .ref (ma 36) :: .ref (ma 37) :: []))] H := hP
  have hD : va_D A [(mo, .inr (6, .int (nI k) :: .ref (ma 1) :: .int (nI tp) :: .ref (ma 3) :: .ref (ma 4) :: .ref (ma 5) :: .ref (ma 6) :: .ref (ma 7) :: .ref (ma 8) :: .ref (ma 9) :: .ref (ma 10) :: .ref (ma 11) :: .ref (ma 12) :: .ref (ma 13) :: .ref (ma 14) :: .ref (ma 15) :: .ref (ma 16) :: .ref (ma 17) :: .ref (ma 18) :: .ref (ma 19) :: .ref (ma 20) :: .ref (ma 21) :: .ref (ma 22) :: .ref (ma 23) :: .ref (ma 24) :: .ref (ma 25) :: .ref (ma 26) :: .ref (ma 27) :: .ref (ma 28) :: .ref (ma 29) :: .ref (ma 30) :: .ref (ma 31) :: .ref (ma 32) :: .int (nI sz) :: .ref (ma 34) :: .ref (ma 35) :: .ref (ma 36) :: .ref (ma 37) :: []))] := hD
  refine lv_iload_n hx hb d_X6_fails_13 rfl (lv_at hl 1 rfl) ?_
  exact g_zret (v := (nI 1)) hx hb hr hlocks hP hD hS () (List.Perm.refl _) (by decide) rfl (Nat.le_of_ble_eq_true rfl) (Nat.le_of_ble_eq_true rfl) d_X6_fails_14

set_option maxHeartbeats 1000000 in
set_option maxRecDepth 100000 in
theorem c_X6_thrown (g : GG) (mo : Nat) (ma : Nat → Nat) (th : Nat) (tp : Nat) (sz : Nat)  : Cg g y_X6_thrown b_X6_thrown 1 (some .int) ({ frames := 0, cells := 0, slots := 0, locals := 0 } : Room) [.ref mo] [(mo, .inr (6, .int (nI th) :: .ref (ma 1) :: .int (nI tp) :: .ref (ma 3) :: .ref (ma 4) :: .ref (ma 5) :: .ref (ma 6) :: .ref (ma 7) :: .ref (ma 8) :: .ref (ma 9) :: .ref (ma 10) :: .ref (ma 11) :: .ref (ma 12) :: .ref (ma 13) :: .ref (ma 14) :: .ref (ma 15) :: .ref (ma 16) :: .ref (ma 17) :: .ref (ma 18) :: .ref (ma 19) :: .ref (ma 20) :: .ref (ma 21) :: .ref (ma 22) :: .ref (ma 23) :: .ref (ma 24) :: .ref (ma 25) :: .ref (ma 26) :: .ref (ma 27) :: .ref (ma 28) :: .ref (ma 29) :: .ref (ma 30) :: .ref (ma 31) :: .ref (ma 32) :: .int (nI sz) :: .ref (ma 34) :: .ref (ma 35) :: .ref (ma 36) :: .ref (ma 37) :: []))] (S := Unit) (fun (v : Option Value) (_ : Unit) => v = some (.int (nI th))) (fun (_ : Unit) => [(mo, .inr (6, .int (nI th) :: .ref (ma 1) :: .int (nI tp) :: .ref (ma 3) :: .ref (ma 4) :: .ref (ma 5) :: .ref (ma 6) :: .ref (ma 7) :: .ref (ma 8) :: .ref (ma 9) :: .ref (ma 10) :: .ref (ma 11) :: .ref (ma 12) :: .ref (ma 13) :: .ref (ma 14) :: .ref (ma 15) :: .ref (ma 16) :: .ref (ma 17) :: .ref (ma 18) :: .ref (ma 19) :: .ref (ma 20) :: .ref (ma 21) :: .ref (ma 22) :: .ref (ma 23) :: .ref (ma 24) :: .ref (ma 25) :: .ref (ma 26) :: .ref (ma 27) :: .ref (ma 28) :: .ref (ma 29) :: .ref (ma 30) :: .ref (ma 31) :: .ref (ma 32) :: .int (nI sz) :: .ref (ma 34) :: .ref (ma 35) :: .ref (ma 36) :: .ref (ma 37) :: []))]) := by
  refine Ct_of (cc := b_X6_thrown) (maxL := 1) (ret := (some .int)) (by decide) rfl (Nat.le_of_ble_eq_true rfl) ?_
  intro p e s m below meth c A ls hx hb hr hml hown hts hlocks hin hA hP hK hD hXs hS hl
  have ht : ∀ w ∈ tb, w.before [.ref mo].toArray s = true := fun w h => hts w (List.mem_cons_of_mem _ h)
  have hown : s.vm.findClass R_X6 = some m.cls := hown
  have hl : lv_has ls 1 [(0, .ref mo)] := hl
  refine lv_aload_n hx hb d_X6_thrown_0 rfl (lv_at hl 0 rfl) ?_
  refine va_get (D := g.2.1) (ci := 6) (v := .int (nI th)) (C := R_X6) (T := T_X6) (N := 38) hx hb ht i_X6 hown hK hP 0 rfl rfl 0 (by decide) (ht _ w_668) (fun _ h9 => h9) rfl d_X6_thrown_1 ?_
  exact g_iret (v := (nI th)) hx hb hr hlocks hP hD hS () (List.Perm.refl _) rfl (Nat.le_of_ble_eq_true rfl) (Nat.le_of_ble_eq_true rfl) d_X6_thrown_4

set_option maxHeartbeats 1000000 in
set_option maxRecDepth 100000 in
theorem c_X6_block (g : GG) (mo : Nat) (ma : Nat → Nat) (th : Nat) (tp : Nat) (sz : Nat) (xf : Nat → Int32) (wf : Nat → Int32) (fs : Nat → Int32) (rd : Nat → Int32) (fr : Nat) (hfr : fr + 64 ≤ 4096) (hrd : ∀ t, t < 64 → rd t = sh_K t) : Cg g y_X6_block b_X6_block 22 none ({ frames := 1, cells := 0, slots := 0, locals := 21 } : Room) [.ref mo, .int (nI fr)] [(mo, .inr (6, .int (nI th) :: .ref (ma 1) :: .int (nI tp) :: .ref (ma 3) :: .ref (ma 4) :: .ref (ma 5) :: .ref (ma 6) :: .ref (ma 7) :: .ref (ma 8) :: .ref (ma 9) :: .ref (ma 10) :: .ref (ma 11) :: .ref (ma 12) :: .ref (ma 13) :: .ref (ma 14) :: .ref (ma 15) :: .ref (ma 16) :: .ref (ma 17) :: .ref (ma 18) :: .ref (ma 19) :: .ref (ma 20) :: .ref (ma 21) :: .ref (ma 22) :: .ref (ma 23) :: .ref (ma 24) :: .ref (ma 25) :: .ref (ma 26) :: .ref (ma 27) :: .ref (ma 28) :: .ref (ma 29) :: .ref (ma 30) :: .ref (ma 31) :: .ref (ma 32) :: .int (nI sz) :: .ref (ma 34) :: .ref (ma 35) :: .ref (ma 36) :: .ref (ma 37) :: [])), (ma 32, .inl (cI g, 4096, .inl xf)), (ma 31, .inl (cI g, 64, .inl wf)), (ma 30, .inl (cI g, 8, .inl fs)), (ma 28, .inl (cI g, 64, .inl rd))] (S := (Nat → Int32) × (Nat → Int32)) (fun (v : Option Value) (u : (Nat → Int32) × (Nat → Int32)) => v = none ∧ (∀ i, i < 64 → u.1 i = sh_w (fun q => xf (fr + q)) i) ∧ ∀ i, i < 8 → u.2 i = fs i + s8_at (sh_it sh_K u.1 64 (fs 0, fs 1, fs 2, fs 3, fs 4, fs 5, fs 6, fs 7)) i) (fun (u : (Nat → Int32) × (Nat → Int32)) => [(mo, .inr (6, .int (nI th) :: .ref (ma 1) :: .int (nI tp) :: .ref (ma 3) :: .ref (ma 4) :: .ref (ma 5) :: .ref (ma 6) :: .ref (ma 7) :: .ref (ma 8) :: .ref (ma 9) :: .ref (ma 10) :: .ref (ma 11) :: .ref (ma 12) :: .ref (ma 13) :: .ref (ma 14) :: .ref (ma 15) :: .ref (ma 16) :: .ref (ma 17) :: .ref (ma 18) :: .ref (ma 19) :: .ref (ma 20) :: .ref (ma 21) :: .ref (ma 22) :: .ref (ma 23) :: .ref (ma 24) :: .ref (ma 25) :: .ref (ma 26) :: .ref (ma 27) :: .ref (ma 28) :: .ref (ma 29) :: .ref (ma 30) :: .ref (ma 31) :: .ref (ma 32) :: .int (nI sz) :: .ref (ma 34) :: .ref (ma 35) :: .ref (ma 36) :: .ref (ma 37) :: [])), (ma 32, .inl (cI g, 4096, .inl xf)), (ma 31, .inl (cI g, 64, .inl u.1)), (ma 30, .inl (cI g, 8, .inl u.2)), (ma 28, .inl (cI g, 64, .inl rd))]) := by
  refine Ct_of (cc := b_X6_block) (maxL := 22) (ret := none) (by decide) rfl (Nat.le_of_ble_eq_true rfl) ?_
  intro p e s m below meth c A ls hx hb hr hml hown hts hlocks hin hA hP hK hD hXs hS hl
  have ht : ∀ w ∈ tb, w.before [.ref mo, .int (nI fr)].toArray s = true := fun w h => hts w (List.mem_cons_of_mem _ h)
  have hown : s.vm.findClass R_X6 = some m.cls := hown
  have hl : lv_has ls 22 [(0, .ref mo), (1, .int (nI fr))] := hl
  refine lv_iconst (v := (nI 0)) hx hb d_X6_block_0 (by decide) ?_
  refine lv_istore_n (lv' := [(2, .int (nI 0)), (0, .ref mo), (1, .int (nI fr))]) hx hb d_X6_block_1 rfl hl (by decide) rfl (fun ls hl => ?_)
  have loop : ∀ (k : Nat) (t : Nat) (fy : Nat → Int32) (hk : t + k = 16) (hf : ∀ i, i < t → fy i = sh_w (fun q => xf (fr + q)) i) (H : Heap) (locs : List Loc) (hP : va_P g.2.1 cls7 [(mo, .inr (6, .int (nI th) :: .ref (ma 1) :: .int (nI tp) :: .ref (ma 3) :: .ref (ma 4) :: .ref (ma 5) :: .ref (ma 6) :: .ref (ma 7) :: .ref (ma 8) :: .ref (ma 9) :: .ref (ma 10) :: .ref (ma 11) :: .ref (ma 12) :: .ref (ma 13) :: .ref (ma 14) :: .ref (ma 15) :: .ref (ma 16) :: .ref (ma 17) :: .ref (ma 18) :: .ref (ma 19) :: .ref (ma 20) :: .ref (ma 21) :: .ref (ma 22) :: .ref (ma 23) :: .ref (ma 24) :: .ref (ma 25) :: .ref (ma 26) :: .ref (ma 27) :: .ref (ma 28) :: .ref (ma 29) :: .ref (ma 30) :: .ref (ma 31) :: .ref (ma 32) :: .int (nI sz) :: .ref (ma 34) :: .ref (ma 35) :: .ref (ma 36) :: .ref (ma 37) :: [])), (ma 32, .inl (cI g, 4096, .inl xf)), (ma 31, .inl (cI g, 64, .inl fy)), (ma 30, .inl (cI g, 8, .inl fs)), (ma 28, .inl (cI g, 64, .inl rd))] H) (hD : va_D A [(mo, .inr (6, .int (nI th) :: .ref (ma 1) :: .int (nI tp) :: .ref (ma 3) :: .ref (ma 4) :: .ref (ma 5) :: .ref (ma 6) :: .ref (ma 7) :: .ref (ma 8) :: .ref (ma 9) :: .ref (ma 10) :: .ref (ma 11) :: .ref (ma 12) :: .ref (ma 13) :: .ref (ma 14) :: .ref (ma 15) :: .ref (ma 16) :: .ref (ma 17) :: .ref (ma 18) :: .ref (ma 19) :: .ref (ma 20) :: .ref (ma 21) :: .ref (ma 22) :: .ref (ma 23) :: .ref (ma 24) :: .ref (ma 25) :: .ref (ma 26) :: .ref (ma 27) :: .ref (ma 28) :: .ref (ma 29) :: .ref (ma 30) :: .ref (ma 31) :: .ref (ma 32) :: .int (nI sz) :: .ref (ma 34) :: .ref (ma 35) :: .ref (ma 36) :: .ref (ma 37) :: [])), (ma 32, .inl (cI g, 4096, .inl xf)), (ma 31, .inl (cI g, 64, .inl fy)), (ma 30, .inl (cI g, 8, .inl fs)), (ma 28, .inl (cI g, 64, .inl rd))]) (hS : va_S A s.heap H locs) (ls : Array Slot) (hl : lv_has ls 22 [(2, .int (nI t)), (0, .ref mo), (1, .int (nI fr))]), W p g.1 e ({ frames := 1, cells := 0, slots := 0, locals := 21 } : Room) s m [.ref mo, .int (nI fr)].toArray below meth c H locs 0 0 (MQ below (gQ g.2.1 cls7 (S := (Nat → Int32) × (Nat → Int32)) (fun (v : Option Value) (u : (Nat → Int32) × (Nat → Int32)) => v = none ∧ (∀ i, i < 64 → u.1 i = sh_w (fun q => xf (fr + q)) i) ∧ ∀ i, i < 8 → u.2 i = fs i + s8_at (sh_it sh_K u.1 64 (fs 0, fs 1, fs 2, fs 3, fs 4, fs 5, fs 6, fs 7)) i) (fun (u : (Nat → Int32) × (Nat → Int32)) => [(mo, .inr (6, .int (nI th) :: .ref (ma 1) :: .int (nI tp) :: .ref (ma 3) :: .ref (ma 4) :: .ref (ma 5) :: .ref (ma 6) :: .ref (ma 7) :: .ref (ma 8) :: .ref (ma 9) :: .ref (ma 10) :: .ref (ma 11) :: .ref (ma 12) :: .ref (ma 13) :: .ref (ma 14) :: .ref (ma 15) :: .ref (ma 16) :: .ref (ma 17) :: .ref (ma 18) :: .ref (ma 19) :: .ref (ma 20) :: .ref (ma 21) :: .ref (ma 22) :: .ref (ma 23) :: .ref (ma 24) :: .ref (ma 25) :: .ref (ma 26) :: .ref (ma 27) :: .ref (ma 28) :: .ref (ma 29) :: .ref (ma 30) :: .ref (ma 31) :: .ref (ma 32) :: .int (nI sz) :: .ref (ma 34) :: .ref (ma 35) :: .ref (ma 36) :: .ref (ma 37) :: [])), (ma 32, .inl (cI g, 4096, .inl xf)), (ma 31, .inl (cI g, 64, .inl u.1)), (ma 30, .inl (cI g, 8, .inl u.2)), (ma 28, .inl (cI g, 64, .inl rd))]) A) [.ref mo, .int (nI fr)].toArray s ({ frames := 1, cells := 0, slots := 0, locals := 21 } : Room).cells ({ frames := 1, cells := 0, slots := 0, locals := 21 } : Room).slots A) (F0 m 2 ls []) := by
    intro k
    induction k with
    | zero =>
      intro t fy hk hf H locs hP hD hS ls hl
      refine lv_iload_n hx hb d_X6_block_2 rfl (lv_at hl 0 rfl) ?_
      refine lv_bipush (v := (nI 16)) hx hb d_X6_block_3 (by decide) ?_
      refine ln_icmp_ge_t (tgt := 68) hx hb d_X6_block_5 (by decide) (by omega) (by omega) (by omega) ?_
      refine lv_bipush (v := (nI 16)) hx hb d_X6_block_68 (by decide) ?_
      refine lv_istore_n (lv' := [(2, .int (nI 16)), (0, .ref mo), (1, .int (nI fr))]) hx hb d_X6_block_70 rfl hl (by decide) rfl (fun ls hl => ?_)
      have loop2 : ∀ (k : Nat) (t : Nat) (fy : Nat → Int32) (hk : t + k = 64) (hf : ∀ i, i < t → fy i = sh_w (fun q => xf (fr + q)) i) (h16 : 16 ≤ t) (H : Heap) (locs : List Loc) (hP : va_P g.2.1 cls7 [(mo, .inr (6, .int (nI th) :: .ref (ma 1) :: .int (nI tp) :: .ref (ma 3) :: .ref (ma 4) :: .ref (ma 5) :: .ref (ma 6) :: .ref (ma 7) :: .ref (ma 8) :: .ref (ma 9) :: .ref (ma 10) :: .ref (ma 11) :: .ref (ma 12) :: .ref (ma 13) :: .ref (ma 14) :: .ref (ma 15) :: .ref (ma 16) :: .ref (ma 17) :: .ref (ma 18) :: .ref (ma 19) :: .ref (ma 20) :: .ref (ma 21) :: .ref (ma 22) :: .ref (ma 23) :: .ref (ma 24) :: .ref (ma 25) :: .ref (ma 26) :: .ref (ma 27) :: .ref (ma 28) :: .ref (ma 29) :: .ref (ma 30) :: .ref (ma 31) :: .ref (ma 32) :: .int (nI sz) :: .ref (ma 34) :: .ref (ma 35) :: .ref (ma 36) :: .ref (ma 37) :: [])), (ma 32, .inl (cI g, 4096, .inl xf)), (ma 31, .inl (cI g, 64, .inl fy)), (ma 30, .inl (cI g, 8, .inl fs)), (ma 28, .inl (cI g, 64, .inl rd))] H) (hD : va_D A [(mo, .inr (6, .int (nI th) :: .ref (ma 1) :: .int (nI tp) :: .ref (ma 3) :: .ref (ma 4) :: .ref (ma 5) :: .ref (ma 6) :: .ref (ma 7) :: .ref (ma 8) :: .ref (ma 9) :: .ref (ma 10) :: .ref (ma 11) :: .ref (ma 12) :: .ref (ma 13) :: .ref (ma 14) :: .ref (ma 15) :: .ref (ma 16) :: .ref (ma 17) :: .ref (ma 18) :: .ref (ma 19) :: .ref (ma 20) :: .ref (ma 21) :: .ref (ma 22) :: .ref (ma 23) :: .ref (ma 24) :: .ref (ma 25) :: .ref (ma 26) :: .ref (ma 27) :: .ref (ma 28) :: .ref (ma 29) :: .ref (ma 30) :: .ref (ma 31) :: .ref (ma 32) :: .int (nI sz) :: .ref (ma 34) :: .ref (ma 35) :: .ref (ma 36) :: .ref (ma 37) :: [])), (ma 32, .inl (cI g, 4096, .inl xf)), (ma 31, .inl (cI g, 64, .inl fy)), (ma 30, .inl (cI g, 8, .inl fs)), (ma 28, .inl (cI g, 64, .inl rd))]) (hS : va_S A s.heap H locs) (ls : Array Slot) (hl : lv_has ls 22 [(2, .int (nI t)), (0, .ref mo), (1, .int (nI fr))]), W p g.1 e ({ frames := 1, cells := 0, slots := 0, locals := 21 } : Room) s m [.ref mo, .int (nI fr)].toArray below meth c H locs 0 0 (MQ below (gQ g.2.1 cls7 (S := (Nat → Int32) × (Nat → Int32)) (fun (v : Option Value) (u : (Nat → Int32) × (Nat → Int32)) => v = none ∧ (∀ i, i < 64 → u.1 i = sh_w (fun q => xf (fr + q)) i) ∧ ∀ i, i < 8 → u.2 i = fs i + s8_at (sh_it sh_K u.1 64 (fs 0, fs 1, fs 2, fs 3, fs 4, fs 5, fs 6, fs 7)) i) (fun (u : (Nat → Int32) × (Nat → Int32)) => [(mo, .inr (6, .int (nI th) :: .ref (ma 1) :: .int (nI tp) :: .ref (ma 3) :: .ref (ma 4) :: .ref (ma 5) :: .ref (ma 6) :: .ref (ma 7) :: .ref (ma 8) :: .ref (ma 9) :: .ref (ma 10) :: .ref (ma 11) :: .ref (ma 12) :: .ref (ma 13) :: .ref (ma 14) :: .ref (ma 15) :: .ref (ma 16) :: .ref (ma 17) :: .ref (ma 18) :: .ref (ma 19) :: .ref (ma 20) :: .ref (ma 21) :: .ref (ma 22) :: .ref (ma 23) :: .ref (ma 24) :: .ref (ma 25) :: .ref (ma 26) :: .ref (ma 27) :: .ref (ma 28) :: .ref (ma 29) :: .ref (ma 30) :: .ref (ma 31) :: .ref (ma 32) :: .int (nI sz) :: .ref (ma 34) :: .ref (ma 35) :: .ref (ma 36) :: .ref (ma 37) :: [])), (ma 32, .inl (cI g, 4096, .inl xf)), (ma 31, .inl (cI g, 64, .inl u.1)), (ma 30, .inl (cI g, 8, .inl u.2)), (ma 28, .inl (cI g, 64, .inl rd))]) A) [.ref mo, .int (nI fr)].toArray s ({ frames := 1, cells := 0, slots := 0, locals := 21 } : Room).cells ({ frames := 1, cells := 0, slots := 0, locals := 21 } : Room).slots A) (F0 m 71 ls []) := by
        intro k
        induction k with
        | zero =>
          intro t fy hk hf h16 H locs hP hD hS ls hl
          refine lv_iload_n hx hb d_X6_block_71 rfl (lv_at hl 0 rfl) ?_
          refine lv_bipush (v := (nI 64)) hx hb d_X6_block_72 (by decide) ?_
          refine ln_icmp_ge_t (tgt := 168) hx hb d_X6_block_74 (by decide) (by omega) (by omega) (by omega) ?_
          refine lv_aload_n hx hb d_X6_block_168 rfl (lv_at hl 1 rfl) ?_
          refine va_get (D := g.2.1) (ci := 6) (v := .ref (ma 30)) (C := R_X6) (T := T_X6) (N := 38) hx hb ht i_X6 hown hK hP 0 rfl rfl 30 (by decide) (ht _ w_698) (fun _ h9 => h9) rfl d_X6_block_169 ?_
          refine lv_astore_n (lv' := [(2, .ref (ma 30)), (0, .ref mo), (1, .int (nI fr))]) hx hb d_X6_block_172 rfl hl (by decide) rfl (fun ls hl => ?_)
          refine lv_aload_n hx hb d_X6_block_173 rfl (lv_at hl 0 rfl) ?_
          refine lv_iconst (v := (nI 0)) hx hb d_X6_block_174 (by decide) ?_
          refine ln_iald hx hb hK hP 3 0 rfl rfl (by omega) (by omega) d_X6_block_175 ?_
          refine lv_topi (fun x_1 ex_1 => ?_)
          refine lv_istore_n (lv' := [(3, .int x_1), (2, .ref (ma 30)), (0, .ref mo), (1, .int (nI fr))]) hx hb d_X6_block_176 rfl hl (by decide) rfl (fun ls hl => ?_)
          refine lv_aload_n hx hb d_X6_block_177 rfl (lv_at hl 1 rfl) ?_
          refine lv_iconst (v := (nI 1)) hx hb d_X6_block_178 (by decide) ?_
          refine ln_iald hx hb hK hP 3 0 rfl rfl (by omega) (by omega) d_X6_block_179 ?_
          refine lv_topi (fun x_2 ex_2 => ?_)
          refine lv_istore (lv' := [(4, .int x_2), (3, .int x_1), (2, .ref (ma 30)), (0, .ref mo), (1, .int (nI fr))]) hx hb d_X6_block_180 hl (by decide) rfl (fun ls hl => ?_)
          refine lv_aload_n hx hb d_X6_block_182 rfl (lv_at hl 2 rfl) ?_
          refine lv_iconst (v := (nI 2)) hx hb d_X6_block_183 (by decide) ?_
          refine ln_iald hx hb hK hP 3 0 rfl rfl (by omega) (by omega) d_X6_block_184 ?_
          refine lv_topi (fun x_3 ex_3 => ?_)
          refine lv_istore (lv' := [(5, .int x_3), (4, .int x_2), (3, .int x_1), (2, .ref (ma 30)), (0, .ref mo), (1, .int (nI fr))]) hx hb d_X6_block_185 hl (by decide) rfl (fun ls hl => ?_)
          refine lv_aload_n hx hb d_X6_block_187 rfl (lv_at hl 3 rfl) ?_
          refine lv_iconst (v := (nI 3)) hx hb d_X6_block_188 (by decide) ?_
          refine ln_iald hx hb hK hP 3 0 rfl rfl (by omega) (by omega) d_X6_block_189 ?_
          refine lv_topi (fun x_4 ex_4 => ?_)
          refine lv_istore (lv' := [(6, .int x_4), (5, .int x_3), (4, .int x_2), (3, .int x_1), (2, .ref (ma 30)), (0, .ref mo), (1, .int (nI fr))]) hx hb d_X6_block_190 hl (by decide) rfl (fun ls hl => ?_)
          refine lv_aload_n hx hb d_X6_block_192 rfl (lv_at hl 4 rfl) ?_
          refine lv_iconst (v := (nI 4)) hx hb d_X6_block_193 (by decide) ?_
          refine ln_iald hx hb hK hP 3 0 rfl rfl (by omega) (by omega) d_X6_block_194 ?_
          refine lv_topi (fun x_5 ex_5 => ?_)
          refine lv_istore (lv' := [(7, .int x_5), (6, .int x_4), (5, .int x_3), (4, .int x_2), (3, .int x_1), (2, .ref (ma 30)), (0, .ref mo), (1, .int (nI fr))]) hx hb d_X6_block_195 hl (by decide) rfl (fun ls hl => ?_)
          refine lv_aload_n hx hb d_X6_block_197 rfl (lv_at hl 5 rfl) ?_
          refine lv_iconst (v := (nI 5)) hx hb d_X6_block_198 (by decide) ?_
          refine ln_iald hx hb hK hP 3 0 rfl rfl (by omega) (by omega) d_X6_block_199 ?_
          refine lv_topi (fun x_6 ex_6 => ?_)
          refine lv_istore (lv' := [(8, .int x_6), (7, .int x_5), (6, .int x_4), (5, .int x_3), (4, .int x_2), (3, .int x_1), (2, .ref (ma 30)), (0, .ref mo), (1, .int (nI fr))]) hx hb d_X6_block_200 hl (by decide) rfl (fun ls hl => ?_)
          refine lv_aload_n hx hb d_X6_block_202 rfl (lv_at hl 6 rfl) ?_
          refine lv_bipush (v := (nI 6)) hx hb d_X6_block_203 (by decide) ?_
          refine ln_iald hx hb hK hP 3 0 rfl rfl (by omega) (by omega) d_X6_block_205 ?_
          refine lv_topi (fun x_7 ex_7 => ?_)
          refine lv_istore (lv' := [(9, .int x_7), (8, .int x_6), (7, .int x_5), (6, .int x_4), (5, .int x_3), (4, .int x_2), (3, .int x_1), (2, .ref (ma 30)), (0, .ref mo), (1, .int (nI fr))]) hx hb d_X6_block_206 hl (by decide) rfl (fun ls hl => ?_)
          refine lv_aload_n hx hb d_X6_block_208 rfl (lv_at hl 7 rfl) ?_
          refine lv_bipush (v := (nI 7)) hx hb d_X6_block_209 (by decide) ?_
          refine ln_iald hx hb hK hP 3 0 rfl rfl (by omega) (by omega) d_X6_block_211 ?_
          refine lv_topi (fun x_8 ex_8 => ?_)
          refine lv_istore (lv' := [(10, .int x_8), (9, .int x_7), (8, .int x_6), (7, .int x_5), (6, .int x_4), (5, .int x_3), (4, .int x_2), (3, .int x_1), (2, .ref (ma 30)), (0, .ref mo), (1, .int (nI fr))]) hx hb d_X6_block_212 hl (by decide) rfl (fun ls hl => ?_)
          refine lv_iconst (v := (nI 0)) hx hb d_X6_block_214 (by decide) ?_
          refine lv_istore (lv' := [(11, .int (nI 0)), (10, .int x_8), (9, .int x_7), (8, .int x_6), (7, .int x_5), (6, .int x_4), (5, .int x_3), (4, .int x_2), (3, .int x_1), (2, .ref (ma 30)), (0, .ref mo), (1, .int (nI fr))]) hx hb d_X6_block_215 hl (by decide) rfl (fun ls hl => ?_)
          have hW : ∀ i, i < 64 → fy i = sh_w (fun q => xf (fr + q)) i := fun i hi => hf i (by omega)
          have loop3 : ∀ (k : Nat) (t : Nat) (y : Nat → Int32) (hk : t + k = 64) (hinv : ∀ j, j < 8 → y ((64 - t + j) % 8) = s8_at (sh_it sh_K fy t (fs 0, fs 1, fs 2, fs 3, fs 4, fs 5, fs 6, fs 7)) j) (H : Heap) (locs : List Loc) (hP : va_P g.2.1 cls7 [(mo, .inr (6, .int (nI th) :: .ref (ma 1) :: .int (nI tp) :: .ref (ma 3) :: .ref (ma 4) :: .ref (ma 5) :: .ref (ma 6) :: .ref (ma 7) :: .ref (ma 8) :: .ref (ma 9) :: .ref (ma 10) :: .ref (ma 11) :: .ref (ma 12) :: .ref (ma 13) :: .ref (ma 14) :: .ref (ma 15) :: .ref (ma 16) :: .ref (ma 17) :: .ref (ma 18) :: .ref (ma 19) :: .ref (ma 20) :: .ref (ma 21) :: .ref (ma 22) :: .ref (ma 23) :: .ref (ma 24) :: .ref (ma 25) :: .ref (ma 26) :: .ref (ma 27) :: .ref (ma 28) :: .ref (ma 29) :: .ref (ma 30) :: .ref (ma 31) :: .ref (ma 32) :: .int (nI sz) :: .ref (ma 34) :: .ref (ma 35) :: .ref (ma 36) :: .ref (ma 37) :: [])), (ma 32, .inl (cI g, 4096, .inl xf)), (ma 31, .inl (cI g, 64, .inl fy)), (ma 30, .inl (cI g, 8, .inl y)), (ma 28, .inl (cI g, 64, .inl rd))] H) (hD : va_D A [(mo, .inr (6, .int (nI th) :: .ref (ma 1) :: .int (nI tp) :: .ref (ma 3) :: .ref (ma 4) :: .ref (ma 5) :: .ref (ma 6) :: .ref (ma 7) :: .ref (ma 8) :: .ref (ma 9) :: .ref (ma 10) :: .ref (ma 11) :: .ref (ma 12) :: .ref (ma 13) :: .ref (ma 14) :: .ref (ma 15) :: .ref (ma 16) :: .ref (ma 17) :: .ref (ma 18) :: .ref (ma 19) :: .ref (ma 20) :: .ref (ma 21) :: .ref (ma 22) :: .ref (ma 23) :: .ref (ma 24) :: .ref (ma 25) :: .ref (ma 26) :: .ref (ma 27) :: .ref (ma 28) :: .ref (ma 29) :: .ref (ma 30) :: .ref (ma 31) :: .ref (ma 32) :: .int (nI sz) :: .ref (ma 34) :: .ref (ma 35) :: .ref (ma 36) :: .ref (ma 37) :: [])), (ma 32, .inl (cI g, 4096, .inl xf)), (ma 31, .inl (cI g, 64, .inl fy)), (ma 30, .inl (cI g, 8, .inl y)), (ma 28, .inl (cI g, 64, .inl rd))]) (hS : va_S A s.heap H locs) (ls : Array Slot) (hl : lv_has ls 22 [(11, .int (nI t)), (2, .ref (ma 30)), (3, .int x_1), (4, .int x_2), (5, .int x_3), (6, .int x_4), (7, .int x_5), (8, .int x_6), (9, .int x_7), (10, .int x_8), (0, .ref mo)]), W p g.1 e ({ frames := 1, cells := 0, slots := 0, locals := 21 } : Room) s m [.ref mo, .int (nI fr)].toArray below meth c H locs 0 0 (MQ below (gQ g.2.1 cls7 (S := (Nat → Int32) × (Nat → Int32)) (fun (v : Option Value) (u : (Nat → Int32) × (Nat → Int32)) => v = none ∧ (∀ i, i < 64 → u.1 i = sh_w (fun q => xf (fr + q)) i) ∧ ∀ i, i < 8 → u.2 i = fs i + s8_at (sh_it sh_K u.1 64 (fs 0, fs 1, fs 2, fs 3, fs 4, fs 5, fs 6, fs 7)) i) (fun (u : (Nat → Int32) × (Nat → Int32)) => [(mo, .inr (6, .int (nI th) :: .ref (ma 1) :: .int (nI tp) :: .ref (ma 3) :: .ref (ma 4) :: .ref (ma 5) :: .ref (ma 6) :: .ref (ma 7) :: .ref (ma 8) :: .ref (ma 9) :: .ref (ma 10) :: .ref (ma 11) :: .ref (ma 12) :: .ref (ma 13) :: .ref (ma 14) :: .ref (ma 15) :: .ref (ma 16) :: .ref (ma 17) :: .ref (ma 18) :: .ref (ma 19) :: .ref (ma 20) :: .ref (ma 21) :: .ref (ma 22) :: .ref (ma 23) :: .ref (ma 24) :: .ref (ma 25) :: .ref (ma 26) :: .ref (ma 27) :: .ref (ma 28) :: .ref (ma 29) :: .ref (ma 30) :: .ref (ma 31) :: .ref (ma 32) :: .int (nI sz) :: .ref (ma 34) :: .ref (ma 35) :: .ref (ma 36) :: .ref (ma 37) :: [])), (ma 32, .inl (cI g, 4096, .inl xf)), (ma 31, .inl (cI g, 64, .inl u.1)), (ma 30, .inl (cI g, 8, .inl u.2)), (ma 28, .inl (cI g, 64, .inl rd))]) A) [.ref mo, .int (nI fr)].toArray s ({ frames := 1, cells := 0, slots := 0, locals := 21 } : Room).cells ({ frames := 1, cells := 0, slots := 0, locals := 21 } : Room).slots A) (F0 m 217 ls []) := by
            intro k
            induction k with
            | zero =>
              intro t y hk hinv H locs hP hD hS ls hl
              refine lv_iload hx hb d_X6_block_217 (lv_at hl 0 rfl) ?_
              refine lv_bipush (v := (nI 64)) hx hb d_X6_block_219 (by decide) ?_
              refine ln_icmp_ge_t (tgt := 442) hx hb d_X6_block_221 (by decide) (by omega) (by omega) (by omega) ?_
              refine lv_aload_n hx hb d_X6_block_442 rfl (lv_at hl 1 rfl) ?_
              refine lv_iconst (v := (nI 0)) hx hb d_X6_block_443 (by decide) ?_
              refine lv_dup2_11 hx hb d_X6_block_444 rfl rfl ?_
              refine ln_iald hx hb hK hP 3 0 rfl rfl (by omega) (by omega) d_X6_block_445 ?_
              refine lv_iload_n hx hb d_X6_block_446 rfl (lv_at hl 2 rfl) ?_
              refine lv_iadd hx hb d_X6_block_447 ?_
              refine lv_topi (fun x_9 ex_9 => ?_)
              refine ln_iast hx hb hK hP hD hS 3 0 rfl rfl (by omega) (by omega) d_X6_block_448 (fun H locs hP hD hS => ?_)
              have hP : va_P g.2.1 cls7 [(mo, .inr (6, .int (nI th) :: .ref (ma 1) :: .int (nI tp) :: .ref (ma 3) :: .ref (ma 4) :: .ref (ma 5) :: .ref (ma 6) :: .ref (ma 7) :: .ref (ma 8) :: .ref (ma 9) :: .ref (ma 10) :: .ref (ma 11) :: .ref (ma 12) :: .ref (ma 13) :: .ref (ma 14) :: .ref (ma 15) :: .ref (ma 16) :: .ref (ma 17) :: .ref (ma 18) :: .ref (ma 19) :: .ref (ma 20) :: .ref (ma 21) :: .ref (ma 22) :: .ref (ma 23) :: .ref (ma 24) :: .ref (ma 25) :: .ref (ma 26) :: .ref (ma 27) :: .ref (ma 28) :: .ref (ma 29) :: .ref (ma 30) :: .ref (ma 31) :: .ref (ma 32) :: .int (nI sz) :: .ref (ma 34) :: .ref (ma 35) :: .ref (ma 36) :: .ref (ma 37) :: [])), (ma 32, .inl (cI g, 4096, .inl xf)), (ma 31, .inl (cI g, 64, .inl fy)), (ma 30, .inl (cI g, 8, .inl (upd y 0 x_9))), (ma 28, .inl (cI g, 64, .inl rd))] H := hP
              have hD : va_D A [(mo, .inr (6, .int (nI th) :: .ref (ma 1) :: .int (nI tp) :: .ref (ma 3) :: .ref (ma 4) :: .ref (ma 5) :: .ref (ma 6) :: .ref (ma 7) :: .ref (ma 8) :: .ref (ma 9) :: .ref (ma 10) :: .ref (ma 11) :: .ref (ma 12) :: .ref (ma 13) :: .ref (ma 14) :: .ref (ma 15) :: .ref (ma 16) :: .ref (ma 17) :: .ref (ma 18) :: .ref (ma 19) :: .ref (ma 20) :: .ref (ma 21) :: .ref (ma 22) :: .ref (ma 23) :: .ref (ma 24) :: .ref (ma 25) :: .ref (ma 26) :: .ref (ma 27) :: .ref (ma 28) :: .ref (ma 29) :: .ref (ma 30) :: .ref (ma 31) :: .ref (ma 32) :: .int (nI sz) :: .ref (ma 34) :: .ref (ma 35) :: .ref (ma 36) :: .ref (ma 37) :: [])), (ma 32, .inl (cI g, 4096, .inl xf)), (ma 31, .inl (cI g, 64, .inl fy)), (ma 30, .inl (cI g, 8, .inl (upd y 0 x_9))), (ma 28, .inl (cI g, 64, .inl rd))] := hD
              refine lv_aload_n hx hb d_X6_block_449 rfl (lv_at hl 1 rfl) ?_
              refine lv_iconst (v := (nI 1)) hx hb d_X6_block_450 (by decide) ?_
              refine lv_dup2_11 hx hb d_X6_block_451 rfl rfl ?_
              refine ln_iald hx hb hK hP 3 0 rfl rfl (by omega) (by omega) d_X6_block_452 ?_
              refine lv_iload hx hb d_X6_block_453 (lv_at hl 3 rfl) ?_
              refine lv_iadd hx hb d_X6_block_455 ?_
              refine lv_topi (fun x_10 ex_10 => ?_)
              refine ln_iast hx hb hK hP hD hS 3 0 rfl rfl (by omega) (by omega) d_X6_block_456 (fun H locs hP hD hS => ?_)
              have hP : va_P g.2.1 cls7 [(mo, .inr (6, .int (nI th) :: .ref (ma 1) :: .int (nI tp) :: .ref (ma 3) :: .ref (ma 4) :: .ref (ma 5) :: .ref (ma 6) :: .ref (ma 7) :: .ref (ma 8) :: .ref (ma 9) :: .ref (ma 10) :: .ref (ma 11) :: .ref (ma 12) :: .ref (ma 13) :: .ref (ma 14) :: .ref (ma 15) :: .ref (ma 16) :: .ref (ma 17) :: .ref (ma 18) :: .ref (ma 19) :: .ref (ma 20) :: .ref (ma 21) :: .ref (ma 22) :: .ref (ma 23) :: .ref (ma 24) :: .ref (ma 25) :: .ref (ma 26) :: .ref (ma 27) :: .ref (ma 28) :: .ref (ma 29) :: .ref (ma 30) :: .ref (ma 31) :: .ref (ma 32) :: .int (nI sz) :: .ref (ma 34) :: .ref (ma 35) :: .ref (ma 36) :: .ref (ma 37) :: [])), (ma 32, .inl (cI g, 4096, .inl xf)), (ma 31, .inl (cI g, 64, .inl fy)), (ma 30, .inl (cI g, 8, .inl (upd (upd y 0 x_9) 1 x_10))), (ma 28, .inl (cI g, 64, .inl rd))] H := hP
              have hD : va_D A [(mo, .inr (6, .int (nI th) :: .ref (ma 1) :: .int (nI tp) :: .ref (ma 3) :: .ref (ma 4) :: .ref (ma 5) :: .ref (ma 6) :: .ref (ma 7) :: .ref (ma 8) :: .ref (ma 9) :: .ref (ma 10) :: .ref (ma 11) :: .ref (ma 12) :: .ref (ma 13) :: .ref (ma 14) :: .ref (ma 15) :: .ref (ma 16) :: .ref (ma 17) :: .ref (ma 18) :: .ref (ma 19) :: .ref (ma 20) :: .ref (ma 21) :: .ref (ma 22) :: .ref (ma 23) :: .ref (ma 24) :: .ref (ma 25) :: .ref (ma 26) :: .ref (ma 27) :: .ref (ma 28) :: .ref (ma 29) :: .ref (ma 30) :: .ref (ma 31) :: .ref (ma 32) :: .int (nI sz) :: .ref (ma 34) :: .ref (ma 35) :: .ref (ma 36) :: .ref (ma 37) :: [])), (ma 32, .inl (cI g, 4096, .inl xf)), (ma 31, .inl (cI g, 64, .inl fy)), (ma 30, .inl (cI g, 8, .inl (upd (upd y 0 x_9) 1 x_10))), (ma 28, .inl (cI g, 64, .inl rd))] := hD
              refine lv_aload_n hx hb d_X6_block_457 rfl (lv_at hl 1 rfl) ?_
              refine lv_iconst (v := (nI 2)) hx hb d_X6_block_458 (by decide) ?_
              refine lv_dup2_11 hx hb d_X6_block_459 rfl rfl ?_
              refine ln_iald hx hb hK hP 3 0 rfl rfl (by omega) (by omega) d_X6_block_460 ?_
              refine lv_iload hx hb d_X6_block_461 (lv_at hl 4 rfl) ?_
              refine lv_iadd hx hb d_X6_block_463 ?_
              refine lv_topi (fun x_11 ex_11 => ?_)
              refine ln_iast hx hb hK hP hD hS 3 0 rfl rfl (by omega) (by omega) d_X6_block_464 (fun H locs hP hD hS => ?_)
              have hP : va_P g.2.1 cls7 [(mo, .inr (6, .int (nI th) :: .ref (ma 1) :: .int (nI tp) :: .ref (ma 3) :: .ref (ma 4) :: .ref (ma 5) :: .ref (ma 6) :: .ref (ma 7) :: .ref (ma 8) :: .ref (ma 9) :: .ref (ma 10) :: .ref (ma 11) :: .ref (ma 12) :: .ref (ma 13) :: .ref (ma 14) :: .ref (ma 15) :: .ref (ma 16) :: .ref (ma 17) :: .ref (ma 18) :: .ref (ma 19) :: .ref (ma 20) :: .ref (ma 21) :: .ref (ma 22) :: .ref (ma 23) :: .ref (ma 24) :: .ref (ma 25) :: .ref (ma 26) :: .ref (ma 27) :: .ref (ma 28) :: .ref (ma 29) :: .ref (ma 30) :: .ref (ma 31) :: .ref (ma 32) :: .int (nI sz) :: .ref (ma 34) :: .ref (ma 35) :: .ref (ma 36) :: .ref (ma 37) :: [])), (ma 32, .inl (cI g, 4096, .inl xf)), (ma 31, .inl (cI g, 64, .inl fy)), (ma 30, .inl (cI g, 8, .inl (upd (upd (upd y 0 x_9) 1 x_10) 2 x_11))), (ma 28, .inl (cI g, 64, .inl rd))] H := hP
              have hD : va_D A [(mo, .inr (6, .int (nI th) :: .ref (ma 1) :: .int (nI tp) :: .ref (ma 3) :: .ref (ma 4) :: .ref (ma 5) :: .ref (ma 6) :: .ref (ma 7) :: .ref (ma 8) :: .ref (ma 9) :: .ref (ma 10) :: .ref (ma 11) :: .ref (ma 12) :: .ref (ma 13) :: .ref (ma 14) :: .ref (ma 15) :: .ref (ma 16) :: .ref (ma 17) :: .ref (ma 18) :: .ref (ma 19) :: .ref (ma 20) :: .ref (ma 21) :: .ref (ma 22) :: .ref (ma 23) :: .ref (ma 24) :: .ref (ma 25) :: .ref (ma 26) :: .ref (ma 27) :: .ref (ma 28) :: .ref (ma 29) :: .ref (ma 30) :: .ref (ma 31) :: .ref (ma 32) :: .int (nI sz) :: .ref (ma 34) :: .ref (ma 35) :: .ref (ma 36) :: .ref (ma 37) :: [])), (ma 32, .inl (cI g, 4096, .inl xf)), (ma 31, .inl (cI g, 64, .inl fy)), (ma 30, .inl (cI g, 8, .inl (upd (upd (upd y 0 x_9) 1 x_10) 2 x_11))), (ma 28, .inl (cI g, 64, .inl rd))] := hD
              refine lv_aload_n hx hb d_X6_block_465 rfl (lv_at hl 1 rfl) ?_
              refine lv_iconst (v := (nI 3)) hx hb d_X6_block_466 (by decide) ?_
              refine lv_dup2_11 hx hb d_X6_block_467 rfl rfl ?_
              refine ln_iald hx hb hK hP 3 0 rfl rfl (by omega) (by omega) d_X6_block_468 ?_
              refine lv_iload hx hb d_X6_block_469 (lv_at hl 5 rfl) ?_
              refine lv_iadd hx hb d_X6_block_471 ?_
              refine lv_topi (fun x_12 ex_12 => ?_)
              refine ln_iast hx hb hK hP hD hS 3 0 rfl rfl (by omega) (by omega) d_X6_block_472 (fun H locs hP hD hS => ?_)
              have hP : va_P g.2.1 cls7 [(mo, .inr (6, .int (nI th) :: .ref (ma 1) :: .int (nI tp) :: .ref (ma 3) :: .ref (ma 4) :: .ref (ma 5) :: .ref (ma 6) :: .ref (ma 7) :: .ref (ma 8) :: .ref (ma 9) :: .ref (ma 10) :: .ref (ma 11) :: .ref (ma 12) :: .ref (ma 13) :: .ref (ma 14) :: .ref (ma 15) :: .ref (ma 16) :: .ref (ma 17) :: .ref (ma 18) :: .ref (ma 19) :: .ref (ma 20) :: .ref (ma 21) :: .ref (ma 22) :: .ref (ma 23) :: .ref (ma 24) :: .ref (ma 25) :: .ref (ma 26) :: .ref (ma 27) :: .ref (ma 28) :: .ref (ma 29) :: .ref (ma 30) :: .ref (ma 31) :: .ref (ma 32) :: .int (nI sz) :: .ref (ma 34) :: .ref (ma 35) :: .ref (ma 36) :: .ref (ma 37) :: [])), (ma 32, .inl (cI g, 4096, .inl xf)), (ma 31, .inl (cI g, 64, .inl fy)), (ma 30, .inl (cI g, 8, .inl (upd (upd (upd (upd y 0 x_9) 1 x_10) 2 x_11) 3 x_12))), (ma 28, .inl (cI g, 64, .inl rd))] H := hP
              have hD : va_D A [(mo, .inr (6, .int (nI th) :: .ref (ma 1) :: .int (nI tp) :: .ref (ma 3) :: .ref (ma 4) :: .ref (ma 5) :: .ref (ma 6) :: .ref (ma 7) :: .ref (ma 8) :: .ref (ma 9) :: .ref (ma 10) :: .ref (ma 11) :: .ref (ma 12) :: .ref (ma 13) :: .ref (ma 14) :: .ref (ma 15) :: .ref (ma 16) :: .ref (ma 17) :: .ref (ma 18) :: .ref (ma 19) :: .ref (ma 20) :: .ref (ma 21) :: .ref (ma 22) :: .ref (ma 23) :: .ref (ma 24) :: .ref (ma 25) :: .ref (ma 26) :: .ref (ma 27) :: .ref (ma 28) :: .ref (ma 29) :: .ref (ma 30) :: .ref (ma 31) :: .ref (ma 32) :: .int (nI sz) :: .ref (ma 34) :: .ref (ma 35) :: .ref (ma 36) :: .ref (ma 37) :: [])), (ma 32, .inl (cI g, 4096, .inl xf)), (ma 31, .inl (cI g, 64, .inl fy)), (ma 30, .inl (cI g, 8, .inl (upd (upd (upd (upd y 0 x_9) 1 x_10) 2 x_11) 3 x_12))), (ma 28, .inl (cI g, 64, .inl rd))] := hD
              refine lv_aload_n hx hb d_X6_block_473 rfl (lv_at hl 1 rfl) ?_
              refine lv_iconst (v := (nI 4)) hx hb d_X6_block_474 (by decide) ?_
              refine lv_dup2_11 hx hb d_X6_block_475 rfl rfl ?_
              refine ln_iald hx hb hK hP 3 0 rfl rfl (by omega) (by omega) d_X6_block_476 ?_
              refine lv_iload hx hb d_X6_block_477 (lv_at hl 6 rfl) ?_
              refine lv_iadd hx hb d_X6_block_479 ?_
              refine lv_topi (fun x_13 ex_13 => ?_)
              refine ln_iast hx hb hK hP hD hS 3 0 rfl rfl (by omega) (by omega) d_X6_block_480 (fun H locs hP hD hS => ?_)
              have hP : va_P g.2.1 cls7 [(mo, .inr (6, .int (nI th) :: .ref (ma 1) :: .int (nI tp) :: .ref (ma 3) :: .ref (ma 4) :: .ref (ma 5) :: .ref (ma 6) :: .ref (ma 7) :: .ref (ma 8) :: .ref (ma 9) :: .ref (ma 10) :: .ref (ma 11) :: .ref (ma 12) :: .ref (ma 13) :: .ref (ma 14) :: .ref (ma 15) :: .ref (ma 16) :: .ref (ma 17) :: .ref (ma 18) :: .ref (ma 19) :: .ref (ma 20) :: .ref (ma 21) :: .ref (ma 22) :: .ref (ma 23) :: .ref (ma 24) :: .ref (ma 25) :: .ref (ma 26) :: .ref (ma 27) :: .ref (ma 28) :: .ref (ma 29) :: .ref (ma 30) :: .ref (ma 31) :: .ref (ma 32) :: .int (nI sz) :: .ref (ma 34) :: .ref (ma 35) :: .ref (ma 36) :: .ref (ma 37) :: [])), (ma 32, .inl (cI g, 4096, .inl xf)), (ma 31, .inl (cI g, 64, .inl fy)), (ma 30, .inl (cI g, 8, .inl (upd (upd (upd (upd (upd y 0 x_9) 1 x_10) 2 x_11) 3 x_12) 4 x_13))), (ma 28, .inl (cI g, 64, .inl rd))] H := hP
              have hD : va_D A [(mo, .inr (6, .int (nI th) :: .ref (ma 1) :: .int (nI tp) :: .ref (ma 3) :: .ref (ma 4) :: .ref (ma 5) :: .ref (ma 6) :: .ref (ma 7) :: .ref (ma 8) :: .ref (ma 9) :: .ref (ma 10) :: .ref (ma 11) :: .ref (ma 12) :: .ref (ma 13) :: .ref (ma 14) :: .ref (ma 15) :: .ref (ma 16) :: .ref (ma 17) :: .ref (ma 18) :: .ref (ma 19) :: .ref (ma 20) :: .ref (ma 21) :: .ref (ma 22) :: .ref (ma 23) :: .ref (ma 24) :: .ref (ma 25) :: .ref (ma 26) :: .ref (ma 27) :: .ref (ma 28) :: .ref (ma 29) :: .ref (ma 30) :: .ref (ma 31) :: .ref (ma 32) :: .int (nI sz) :: .ref (ma 34) :: .ref (ma 35) :: .ref (ma 36) :: .ref (ma 37) :: [])), (ma 32, .inl (cI g, 4096, .inl xf)), (ma 31, .inl (cI g, 64, .inl fy)), (ma 30, .inl (cI g, 8, .inl (upd (upd (upd (upd (upd y 0 x_9) 1 x_10) 2 x_11) 3 x_12) 4 x_13))), (ma 28, .inl (cI g, 64, .inl rd))] := hD
              refine lv_aload_n hx hb d_X6_block_481 rfl (lv_at hl 1 rfl) ?_
              refine lv_iconst (v := (nI 5)) hx hb d_X6_block_482 (by decide) ?_
              refine lv_dup2_11 hx hb d_X6_block_483 rfl rfl ?_
              refine ln_iald hx hb hK hP 3 0 rfl rfl (by omega) (by omega) d_X6_block_484 ?_
              refine lv_iload hx hb d_X6_block_485 (lv_at hl 7 rfl) ?_
              refine lv_iadd hx hb d_X6_block_487 ?_
              refine lv_topi (fun x_14 ex_14 => ?_)
              refine ln_iast hx hb hK hP hD hS 3 0 rfl rfl (by omega) (by omega) d_X6_block_488 (fun H locs hP hD hS => ?_)
              have hP : va_P g.2.1 cls7 [(mo, .inr (6, .int (nI th) :: .ref (ma 1) :: .int (nI tp) :: .ref (ma 3) :: .ref (ma 4) :: .ref (ma 5) :: .ref (ma 6) :: .ref (ma 7) :: .ref (ma 8) :: .ref (ma 9) :: .ref (ma 10) :: .ref (ma 11) :: .ref (ma 12) :: .ref (ma 13) :: .ref (ma 14) :: .ref (ma 15) :: .ref (ma 16) :: .ref (ma 17) :: .ref (ma 18) :: .ref (ma 19) :: .ref (ma 20) :: .ref (ma 21) :: .ref (ma 22) :: .ref (ma 23) :: .ref (ma 24) :: .ref (ma 25) :: .ref (ma 26) :: .ref (ma 27) :: .ref (ma 28) :: .ref (ma 29) :: .ref (ma 30) :: .ref (ma 31) :: .ref (ma 32) :: .int (nI sz) :: .ref (ma 34) :: .ref (ma 35) :: .ref (ma 36) :: .ref (ma 37) :: [])), (ma 32, .inl (cI g, 4096, .inl xf)), (ma 31, .inl (cI g, 64, .inl fy)), (ma 30, .inl (cI g, 8, .inl (upd (upd (upd (upd (upd (upd y 0 x_9) 1 x_10) 2 x_11) 3 x_12) 4 x_13) 5 x_14))), (ma 28, .inl (cI g, 64, .inl rd))] H := hP
              have hD : va_D A [(mo, .inr (6, .int (nI th) :: .ref (ma 1) :: .int (nI tp) :: .ref (ma 3) :: .ref (ma 4) :: .ref (ma 5) :: .ref (ma 6) :: .ref (ma 7) :: .ref (ma 8) :: .ref (ma 9) :: .ref (ma 10) :: .ref (ma 11) :: .ref (ma 12) :: .ref (ma 13) :: .ref (ma 14) :: .ref (ma 15) :: .ref (ma 16) :: .ref (ma 17) :: .ref (ma 18) :: .ref (ma 19) :: .ref (ma 20) :: .ref (ma 21) :: .ref (ma 22) :: .ref (ma 23) :: .ref (ma 24) :: .ref (ma 25) :: .ref (ma 26) :: .ref (ma 27) :: .ref (ma 28) :: .ref (ma 29) :: .ref (ma 30) :: .ref (ma 31) :: .ref (ma 32) :: .int (nI sz) :: .ref (ma 34) :: .ref (ma 35) :: .ref (ma 36) :: .ref (ma 37) :: [])), (ma 32, .inl (cI g, 4096, .inl xf)), (ma 31, .inl (cI g, 64, .inl fy)), (ma 30, .inl (cI g, 8, .inl (upd (upd (upd (upd (upd (upd y 0 x_9) 1 x_10) 2 x_11) 3 x_12) 4 x_13) 5 x_14))), (ma 28, .inl (cI g, 64, .inl rd))] := hD
              refine lv_aload_n hx hb d_X6_block_489 rfl (lv_at hl 1 rfl) ?_
              refine lv_bipush (v := (nI 6)) hx hb d_X6_block_490 (by decide) ?_
              refine lv_dup2_11 hx hb d_X6_block_492 rfl rfl ?_
              refine ln_iald hx hb hK hP 3 0 rfl rfl (by omega) (by omega) d_X6_block_493 ?_
              refine lv_iload hx hb d_X6_block_494 (lv_at hl 8 rfl) ?_
              refine lv_iadd hx hb d_X6_block_496 ?_
              refine lv_topi (fun x_15 ex_15 => ?_)
              refine ln_iast hx hb hK hP hD hS 3 0 rfl rfl (by omega) (by omega) d_X6_block_497 (fun H locs hP hD hS => ?_)
              have hP : va_P g.2.1 cls7 [(mo, .inr (6, .int (nI th) :: .ref (ma 1) :: .int (nI tp) :: .ref (ma 3) :: .ref (ma 4) :: .ref (ma 5) :: .ref (ma 6) :: .ref (ma 7) :: .ref (ma 8) :: .ref (ma 9) :: .ref (ma 10) :: .ref (ma 11) :: .ref (ma 12) :: .ref (ma 13) :: .ref (ma 14) :: .ref (ma 15) :: .ref (ma 16) :: .ref (ma 17) :: .ref (ma 18) :: .ref (ma 19) :: .ref (ma 20) :: .ref (ma 21) :: .ref (ma 22) :: .ref (ma 23) :: .ref (ma 24) :: .ref (ma 25) :: .ref (ma 26) :: .ref (ma 27) :: .ref (ma 28) :: .ref (ma 29) :: .ref (ma 30) :: .ref (ma 31) :: .ref (ma 32) :: .int (nI sz) :: .ref (ma 34) :: .ref (ma 35) :: .ref (ma 36) :: .ref (ma 37) :: [])), (ma 32, .inl (cI g, 4096, .inl xf)), (ma 31, .inl (cI g, 64, .inl fy)), (ma 30, .inl (cI g, 8, .inl (upd (upd (upd (upd (upd (upd (upd y 0 x_9) 1 x_10) 2 x_11) 3 x_12) 4 x_13) 5 x_14) 6 x_15))), (ma 28, .inl (cI g, 64, .inl rd))] H := hP
              have hD : va_D A [(mo, .inr (6, .int (nI th) :: .ref (ma 1) :: .int (nI tp) :: .ref (ma 3) :: .ref (ma 4) :: .ref (ma 5) :: .ref (ma 6) :: .ref (ma 7) :: .ref (ma 8) :: .ref (ma 9) :: .ref (ma 10) :: .ref (ma 11) :: .ref (ma 12) :: .ref (ma 13) :: .ref (ma 14) :: .ref (ma 15) :: .ref (ma 16) :: .ref (ma 17) :: .ref (ma 18) :: .ref (ma 19) :: .ref (ma 20) :: .ref (ma 21) :: .ref (ma 22) :: .ref (ma 23) :: .ref (ma 24) :: .ref (ma 25) :: .ref (ma 26) :: .ref (ma 27) :: .ref (ma 28) :: .ref (ma 29) :: .ref (ma 30) :: .ref (ma 31) :: .ref (ma 32) :: .int (nI sz) :: .ref (ma 34) :: .ref (ma 35) :: .ref (ma 36) :: .ref (ma 37) :: [])), (ma 32, .inl (cI g, 4096, .inl xf)), (ma 31, .inl (cI g, 64, .inl fy)), (ma 30, .inl (cI g, 8, .inl (upd (upd (upd (upd (upd (upd (upd y 0 x_9) 1 x_10) 2 x_11) 3 x_12) 4 x_13) 5 x_14) 6 x_15))), (ma 28, .inl (cI g, 64, .inl rd))] := hD
              refine lv_aload_n hx hb d_X6_block_498 rfl (lv_at hl 1 rfl) ?_
              refine lv_bipush (v := (nI 7)) hx hb d_X6_block_499 (by decide) ?_
              refine lv_dup2_11 hx hb d_X6_block_501 rfl rfl ?_
              refine ln_iald hx hb hK hP 3 0 rfl rfl (by omega) (by omega) d_X6_block_502 ?_
              refine lv_iload hx hb d_X6_block_503 (lv_at hl 9 rfl) ?_
              refine lv_iadd hx hb d_X6_block_505 ?_
              refine lv_topi (fun x_16 ex_16 => ?_)
              refine ln_iast hx hb hK hP hD hS 3 0 rfl rfl (by omega) (by omega) d_X6_block_506 (fun H locs hP hD hS => ?_)
              have hP : va_P g.2.1 cls7 [(mo, .inr (6, .int (nI th) :: .ref (ma 1) :: .int (nI tp) :: .ref (ma 3) :: .ref (ma 4) :: .ref (ma 5) :: .ref (ma 6) :: .ref (ma 7) :: .ref (ma 8) :: .ref (ma 9) :: .ref (ma 10) :: .ref (ma 11) :: .ref (ma 12) :: .ref (ma 13) :: .ref (ma 14) :: .ref (ma 15) :: .ref (ma 16) :: .ref (ma 17) :: .ref (ma 18) :: .ref (ma 19) :: .ref (ma 20) :: .ref (ma 21) :: .ref (ma 22) :: .ref (ma 23) :: .ref (ma 24) :: .ref (ma 25) :: .ref (ma 26) :: .ref (ma 27) :: .ref (ma 28) :: .ref (ma 29) :: .ref (ma 30) :: .ref (ma 31) :: .ref (ma 32) :: .int (nI sz) :: .ref (ma 34) :: .ref (ma 35) :: .ref (ma 36) :: .ref (ma 37) :: [])), (ma 32, .inl (cI g, 4096, .inl xf)), (ma 31, .inl (cI g, 64, .inl fy)), (ma 30, .inl (cI g, 8, .inl (upd (upd (upd (upd (upd (upd (upd (upd y 0 x_9) 1 x_10) 2 x_11) 3 x_12) 4 x_13) 5 x_14) 6 x_15) 7 x_16))), (ma 28, .inl (cI g, 64, .inl rd))] H := hP
              have hD : va_D A [(mo, .inr (6, .int (nI th) :: .ref (ma 1) :: .int (nI tp) :: .ref (ma 3) :: .ref (ma 4) :: .ref (ma 5) :: .ref (ma 6) :: .ref (ma 7) :: .ref (ma 8) :: .ref (ma 9) :: .ref (ma 10) :: .ref (ma 11) :: .ref (ma 12) :: .ref (ma 13) :: .ref (ma 14) :: .ref (ma 15) :: .ref (ma 16) :: .ref (ma 17) :: .ref (ma 18) :: .ref (ma 19) :: .ref (ma 20) :: .ref (ma 21) :: .ref (ma 22) :: .ref (ma 23) :: .ref (ma 24) :: .ref (ma 25) :: .ref (ma 26) :: .ref (ma 27) :: .ref (ma 28) :: .ref (ma 29) :: .ref (ma 30) :: .ref (ma 31) :: .ref (ma 32) :: .int (nI sz) :: .ref (ma 34) :: .ref (ma 35) :: .ref (ma 36) :: .ref (ma 37) :: [])), (ma 32, .inl (cI g, 4096, .inl xf)), (ma 31, .inl (cI g, 64, .inl fy)), (ma 30, .inl (cI g, 8, .inl (upd (upd (upd (upd (upd (upd (upd (upd y 0 x_9) 1 x_10) 2 x_11) 3 x_12) 4 x_13) 5 x_14) 6 x_15) 7 x_16))), (ma 28, .inl (cI g, 64, .inl rd))] := hD
              obtain rfl : t = 64 := by omega
              have hv : ∀ j, j < 8 → y j = s8_at (sh_it sh_K fy 64 (fs 0, fs 1, fs 2, fs 3, fs 4, fs 5, fs 6, fs 7)) j := fun j hj => (congrArg y (show j = (64 - 64 + j) % 8 by omega)).trans (hinv j hj)
              have hfin : ∀ i, i < 8 → (upd (upd (upd (upd (upd (upd (upd (upd y 0 x_9) 1 x_10) 2 x_11) 3 x_12) 4 x_13) 5 x_14) 6 x_15) 7 x_16) i = fs i + s8_at (sh_it sh_K fy 64 (fs 0, fs 1, fs 2, fs 3, fs 4, fs 5, fs 6, fs 7)) i := by
                intro i hi
                rw [← hv i hi, Int32.add_comm]
                rcases (show i = 0 ∨ i = 1 ∨ i = 2 ∨ i = 3 ∨ i = 4 ∨ i = 5 ∨ i = 6 ∨ i = 7 by omega) with rfl | rfl | rfl | rfl | rfl | rfl | rfl | rfl
                all_goals simp [upd, ex_1, ex_2, ex_3, ex_4, ex_5, ex_6, ex_7, ex_8, ex_9, ex_10, ex_11, ex_12, ex_13, ex_14, ex_15, ex_16]
              exact g_vret hx hb hr hlocks hP hD hS (fy, upd (upd (upd (upd (upd (upd (upd (upd y 0 x_9) 1 x_10) 2 x_11) 3 x_12) 4 x_13) 5 x_14) 6 x_15) 7 x_16) (List.Perm.refl _) ⟨rfl, hW, hfin⟩ (Nat.le_of_ble_eq_true rfl) (Nat.le_of_ble_eq_true rfl) d_X6_block_507
            | succ k ih =>
              intro t y hk hinv H locs hP hD hS ls hl
              refine lv_iload hx hb d_X6_block_217 (lv_at hl 0 rfl) ?_
              refine lv_bipush (v := (nI 64)) hx hb d_X6_block_219 (by decide) ?_
              refine ln_icmp_ge_f (tgt := 442) hx hb d_X6_block_221 (by decide) (by omega) (by omega) (by omega) ?_
              refine lv_aload_n hx hb d_X6_block_224 rfl (lv_at hl 1 rfl) ?_
              refine lv_bipush (v := (nI 68)) hx hb d_X6_block_225 (by decide) ?_
              refine lv_iload hx hb d_X6_block_227 (lv_at hl 0 rfl) ?_
              refine ln_isub hx hb d_X6_block_229 (by omega) ?_
              refine lv_bipush (v := (nI 8)) hx hb d_X6_block_230 (by decide) ?_
              refine ln_irem hx hb d_X6_block_232 (by omega) (by omega) (by omega) ?_
              refine ln_iald hx hb hK hP 3 0 rfl rfl (by omega) (by omega) d_X6_block_233 ?_
              refine lv_topi (fun x_17 ex_17 => ?_)
              refine lv_istore (lv' := [(12, .int x_17), (11, .int (nI t)), (2, .ref (ma 30)), (3, .int x_1), (4, .int x_2), (5, .int x_3), (6, .int x_4), (7, .int x_5), (8, .int x_6), (9, .int x_7), (10, .int x_8), (0, .ref mo)]) hx hb d_X6_block_234 hl (by decide) rfl (fun ls hl => ?_)
              refine lv_aload_n hx hb d_X6_block_236 rfl (lv_at hl 2 rfl) ?_
              refine lv_bipush (v := (nI 69)) hx hb d_X6_block_237 (by decide) ?_
              refine lv_iload hx hb d_X6_block_239 (lv_at hl 1 rfl) ?_
              refine ln_isub hx hb d_X6_block_241 (by omega) ?_
              refine lv_bipush (v := (nI 8)) hx hb d_X6_block_242 (by decide) ?_
              refine ln_irem hx hb d_X6_block_244 (by omega) (by omega) (by omega) ?_
              refine ln_iald hx hb hK hP 3 0 rfl rfl (by omega) (by omega) d_X6_block_245 ?_
              refine lv_topi (fun x_18 ex_18 => ?_)
              refine lv_istore (lv' := [(13, .int x_18), (12, .int x_17), (11, .int (nI t)), (2, .ref (ma 30)), (3, .int x_1), (4, .int x_2), (5, .int x_3), (6, .int x_4), (7, .int x_5), (8, .int x_6), (9, .int x_7), (10, .int x_8), (0, .ref mo)]) hx hb d_X6_block_246 hl (by decide) rfl (fun ls hl => ?_)
              refine lv_aload_n hx hb d_X6_block_248 rfl (lv_at hl 3 rfl) ?_
              refine lv_bipush (v := (nI 70)) hx hb d_X6_block_249 (by decide) ?_
              refine lv_iload hx hb d_X6_block_251 (lv_at hl 2 rfl) ?_
              refine ln_isub hx hb d_X6_block_253 (by omega) ?_
              refine lv_bipush (v := (nI 8)) hx hb d_X6_block_254 (by decide) ?_
              refine ln_irem hx hb d_X6_block_256 (by omega) (by omega) (by omega) ?_
              refine ln_iald hx hb hK hP 3 0 rfl rfl (by omega) (by omega) d_X6_block_257 ?_
              refine lv_topi (fun x_19 ex_19 => ?_)
              refine lv_istore (lv' := [(14, .int x_19), (13, .int x_18), (12, .int x_17), (11, .int (nI t)), (2, .ref (ma 30)), (3, .int x_1), (4, .int x_2), (5, .int x_3), (6, .int x_4), (7, .int x_5), (8, .int x_6), (9, .int x_7), (10, .int x_8), (0, .ref mo)]) hx hb d_X6_block_258 hl (by decide) rfl (fun ls hl => ?_)
              refine lv_aload_n hx hb d_X6_block_260 rfl (lv_at hl 4 rfl) ?_
              refine lv_bipush (v := (nI 64)) hx hb d_X6_block_261 (by decide) ?_
              refine lv_iload hx hb d_X6_block_263 (lv_at hl 3 rfl) ?_
              refine ln_isub hx hb d_X6_block_265 (by omega) ?_
              refine lv_bipush (v := (nI 8)) hx hb d_X6_block_266 (by decide) ?_
              refine ln_irem hx hb d_X6_block_268 (by omega) (by omega) (by omega) ?_
              refine ln_iald hx hb hK hP 3 0 rfl rfl (by omega) (by omega) d_X6_block_269 ?_
              refine lv_topi (fun x_20 ex_20 => ?_)
              refine lv_istore (lv' := [(15, .int x_20), (14, .int x_19), (13, .int x_18), (12, .int x_17), (11, .int (nI t)), (2, .ref (ma 30)), (3, .int x_1), (4, .int x_2), (5, .int x_3), (6, .int x_4), (7, .int x_5), (8, .int x_6), (9, .int x_7), (10, .int x_8), (0, .ref mo)]) hx hb d_X6_block_270 hl (by decide) rfl (fun ls hl => ?_)
              refine lv_aload_n hx hb d_X6_block_272 rfl (lv_at hl 5 rfl) ?_
              refine lv_bipush (v := (nI 65)) hx hb d_X6_block_273 (by decide) ?_
              refine lv_iload hx hb d_X6_block_275 (lv_at hl 4 rfl) ?_
              refine ln_isub hx hb d_X6_block_277 (by omega) ?_
              refine lv_bipush (v := (nI 8)) hx hb d_X6_block_278 (by decide) ?_
              refine ln_irem hx hb d_X6_block_280 (by omega) (by omega) (by omega) ?_
              refine ln_iald hx hb hK hP 3 0 rfl rfl (by omega) (by omega) d_X6_block_281 ?_
              refine lv_topi (fun x_21 ex_21 => ?_)
              refine lv_istore (lv' := [(16, .int x_21), (15, .int x_20), (14, .int x_19), (13, .int x_18), (12, .int x_17), (11, .int (nI t)), (2, .ref (ma 30)), (3, .int x_1), (4, .int x_2), (5, .int x_3), (6, .int x_4), (7, .int x_5), (8, .int x_6), (9, .int x_7), (10, .int x_8), (0, .ref mo)]) hx hb d_X6_block_282 hl (by decide) rfl (fun ls hl => ?_)
              refine lv_aload_n hx hb d_X6_block_284 rfl (lv_at hl 6 rfl) ?_
              refine lv_bipush (v := (nI 66)) hx hb d_X6_block_285 (by decide) ?_
              refine lv_iload hx hb d_X6_block_287 (lv_at hl 5 rfl) ?_
              refine ln_isub hx hb d_X6_block_289 (by omega) ?_
              refine lv_bipush (v := (nI 8)) hx hb d_X6_block_290 (by decide) ?_
              refine ln_irem hx hb d_X6_block_292 (by omega) (by omega) (by omega) ?_
              refine ln_iald hx hb hK hP 3 0 rfl rfl (by omega) (by omega) d_X6_block_293 ?_
              refine lv_topi (fun x_22 ex_22 => ?_)
              refine lv_istore (lv' := [(17, .int x_22), (16, .int x_21), (15, .int x_20), (14, .int x_19), (13, .int x_18), (12, .int x_17), (11, .int (nI t)), (2, .ref (ma 30)), (3, .int x_1), (4, .int x_2), (5, .int x_3), (6, .int x_4), (7, .int x_5), (8, .int x_6), (9, .int x_7), (10, .int x_8), (0, .ref mo)]) hx hb d_X6_block_294 hl (by decide) rfl (fun ls hl => ?_)
              refine lv_bipush (v := (nI 71)) hx hb d_X6_block_296 (by decide) ?_
              refine lv_iload hx hb d_X6_block_298 (lv_at hl 6 rfl) ?_
              refine ln_isub hx hb d_X6_block_300 (by omega) ?_
              refine lv_bipush (v := (nI 8)) hx hb d_X6_block_301 (by decide) ?_
              refine ln_irem hx hb d_X6_block_303 (by omega) (by omega) (by omega) ?_
              refine lv_istore (lv' := [(18, .int (nI ((71 - t) % 8))), (17, .int x_22), (16, .int x_21), (15, .int x_20), (14, .int x_19), (13, .int x_18), (12, .int x_17), (11, .int (nI t)), (2, .ref (ma 30)), (3, .int x_1), (4, .int x_2), (5, .int x_3), (6, .int x_4), (7, .int x_5), (8, .int x_6), (9, .int x_7), (10, .int x_8), (0, .ref mo)]) hx hb d_X6_block_304 hl (by decide) rfl (fun ls hl => ?_)
              refine lv_bipush (v := (nI 67)) hx hb d_X6_block_306 (by decide) ?_
              refine lv_iload hx hb d_X6_block_308 (lv_at hl 7 rfl) ?_
              refine ln_isub hx hb d_X6_block_310 (by omega) ?_
              refine lv_bipush (v := (nI 8)) hx hb d_X6_block_311 (by decide) ?_
              refine ln_irem hx hb d_X6_block_313 (by omega) (by omega) (by omega) ?_
              refine lv_istore (lv' := [(19, .int (nI ((67 - t) % 8))), (18, .int (nI ((71 - t) % 8))), (17, .int x_22), (16, .int x_21), (15, .int x_20), (14, .int x_19), (13, .int x_18), (12, .int x_17), (11, .int (nI t)), (2, .ref (ma 30)), (3, .int x_1), (4, .int x_2), (5, .int x_3), (6, .int x_4), (7, .int x_5), (8, .int x_6), (9, .int x_7), (10, .int x_8), (0, .ref mo)]) hx hb d_X6_block_314 hl (by decide) rfl (fun ls hl => ?_)
              refine lv_aload_n hx hb d_X6_block_316 rfl (lv_at hl 9 rfl) ?_
              refine lv_iload hx hb d_X6_block_317 (lv_at hl 1 rfl) ?_
              refine ln_iald hx hb hK hP 3 0 rfl rfl (by omega) (by omega) d_X6_block_319 ?_
              refine lv_iload hx hb d_X6_block_320 (lv_at hl 7 rfl) ?_
              refine lv_bipush (v := (nI 6)) hx hb d_X6_block_322 (by decide) ?_
              refine g_callS (As := [.int x_17, .int (nI 6)]) (rest := [.int (y ((71 - t) % 8))]) (wr := [(mo, .inr (6, .int (nI th) :: .ref (ma 1) :: .int (nI tp) :: .ref (ma 3) :: .ref (ma 4) :: .ref (ma 5) :: .ref (ma 6) :: .ref (ma 7) :: .ref (ma 8) :: .ref (ma 9) :: .ref (ma 10) :: .ref (ma 11) :: .ref (ma 12) :: .ref (ma 13) :: .ref (ma 14) :: .ref (ma 15) :: .ref (ma 16) :: .ref (ma 17) :: .ref (ma 18) :: .ref (ma 19) :: .ref (ma 20) :: .ref (ma 21) :: .ref (ma 22) :: .ref (ma 23) :: .ref (ma 24) :: .ref (ma 25) :: .ref (ma 26) :: .ref (ma 27) :: .ref (ma 28) :: .ref (ma 29) :: .ref (ma 30) :: .ref (ma 31) :: .ref (ma 32) :: .int (nI sz) :: .ref (ma 34) :: .ref (ma 35) :: .ref (ma 36) :: .ref (ma 37) :: [])), (ma 32, .inl (cI g, 4096, .inl xf)), (ma 31, .inl (cI g, 64, .inl fy)), (ma 30, .inl (cI g, 8, .inl y)), (ma 28, .inl (cI g, 64, .inl rd))]) (XSok g) ⟨hx, hb, hml, hown, ht⟩ hK hA hXs hl.1 hP hD hS (c_X6_turned g x_17 6 (by decide)) (g_perm 5 [0, 1, 2, 3, 4] rfl rfl (by decide +kernel)) (va_cwS 2 ht (tb_S2 w_834 w_835 w_8 k_X6_turned) rfl rfl rfl (by decide +kernel) ⟨(Nat.le_of_ble_eq_true rfl), (Nat.le_of_ble_eq_true rfl)⟩) rfl rfl (Nat.le_of_ble_eq_true rfl) d_X6_block_324 ⟨(Nat.le_of_ble_eq_true rfl), (Nat.le_of_ble_eq_true rfl)⟩ (fun v u H locs hw hP hD hS => ?_)
              obtain rfl := hw
              have hP : va_P g.2.1 cls7 [(mo, .inr (6, .int (nI th) :: .ref (ma 1) :: .int (nI tp) :: .ref (ma 3) :: .ref (ma 4) :: .ref (ma 5) :: .ref (ma 6) :: .ref (ma 7) :: .ref (ma 8) :: .ref (ma 9) :: .ref (ma 10) :: .ref (ma 11) :: .ref (ma 12) :: .ref (ma 13) :: .ref (ma 14) :: .ref (ma 15) :: .ref (ma 16) :: .ref (ma 17) :: .ref (ma 18) :: .ref (ma 19) :: .ref (ma 20) :: .ref (ma 21) :: .ref (ma 22) :: .ref (ma 23) :: .ref (ma 24) :: .ref (ma 25) :: .ref (ma 26) :: .ref (ma 27) :: .ref (ma 28) :: .ref (ma 29) :: .ref (ma 30) :: .ref (ma 31) :: .ref (ma 32) :: .int (nI sz) :: .ref (ma 34) :: .ref (ma 35) :: .ref (ma 36) :: .ref (ma 37) :: [])), (ma 32, .inl (cI g, 4096, .inl xf)), (ma 31, .inl (cI g, 64, .inl fy)), (ma 30, .inl (cI g, 8, .inl y)), (ma 28, .inl (cI g, 64, .inl rd))] H := hP
              have hD : va_D A [(mo, .inr (6, .int (nI th) :: .ref (ma 1) :: .int (nI tp) :: .ref (ma 3) :: .ref (ma 4) :: .ref (ma 5) :: .ref (ma 6) :: .ref (ma 7) :: .ref (ma 8) :: .ref (ma 9) :: .ref (ma 10) :: .ref (ma 11) :: .ref (ma 12) :: .ref (ma 13) :: .ref (ma 14) :: .ref (ma 15) :: .ref (ma 16) :: .ref (ma 17) :: .ref (ma 18) :: .ref (ma 19) :: .ref (ma 20) :: .ref (ma 21) :: .ref (ma 22) :: .ref (ma 23) :: .ref (ma 24) :: .ref (ma 25) :: .ref (ma 26) :: .ref (ma 27) :: .ref (ma 28) :: .ref (ma 29) :: .ref (ma 30) :: .ref (ma 31) :: .ref (ma 32) :: .int (nI sz) :: .ref (ma 34) :: .ref (ma 35) :: .ref (ma 36) :: .ref (ma 37) :: [])), (ma 32, .inl (cI g, 4096, .inl xf)), (ma 31, .inl (cI g, 64, .inl fy)), (ma 30, .inl (cI g, 8, .inl y)), (ma 28, .inl (cI g, 64, .inl rd))] := hD
              refine W.eq (g2 := F0 m 327 ls [.int (us x_17 (nI 6) ||| sl x_17 (nI (32 - 6))), .int (y ((71 - t) % 8))]) rfl ?_
              refine lv_iload hx hb d_X6_block_327 (lv_at hl 7 rfl) ?_
              refine lv_bipush (v := (nI 11)) hx hb d_X6_block_329 (by decide) ?_
              refine g_callS (As := [.int x_17, .int (nI 11)]) (rest := [.int (us x_17 (nI 6) ||| sl x_17 (nI (32 - 6))), .int (y ((71 - t) % 8))]) (wr := [(mo, .inr (6, .int (nI th) :: .ref (ma 1) :: .int (nI tp) :: .ref (ma 3) :: .ref (ma 4) :: .ref (ma 5) :: .ref (ma 6) :: .ref (ma 7) :: .ref (ma 8) :: .ref (ma 9) :: .ref (ma 10) :: .ref (ma 11) :: .ref (ma 12) :: .ref (ma 13) :: .ref (ma 14) :: .ref (ma 15) :: .ref (ma 16) :: .ref (ma 17) :: .ref (ma 18) :: .ref (ma 19) :: .ref (ma 20) :: .ref (ma 21) :: .ref (ma 22) :: .ref (ma 23) :: .ref (ma 24) :: .ref (ma 25) :: .ref (ma 26) :: .ref (ma 27) :: .ref (ma 28) :: .ref (ma 29) :: .ref (ma 30) :: .ref (ma 31) :: .ref (ma 32) :: .int (nI sz) :: .ref (ma 34) :: .ref (ma 35) :: .ref (ma 36) :: .ref (ma 37) :: [])), (ma 32, .inl (cI g, 4096, .inl xf)), (ma 31, .inl (cI g, 64, .inl fy)), (ma 30, .inl (cI g, 8, .inl y)), (ma 28, .inl (cI g, 64, .inl rd))]) (XSok g) ⟨hx, hb, hml, hown, ht⟩ hK hA hXs hl.1 hP hD hS (c_X6_turned g x_17 11 (by decide)) (g_perm 5 [0, 1, 2, 3, 4] rfl rfl (by decide +kernel)) (va_cwS 2 ht (tb_S2 w_834 w_835 w_8 k_X6_turned) rfl rfl rfl (by decide +kernel) ⟨(Nat.le_of_ble_eq_true rfl), (Nat.le_of_ble_eq_true rfl)⟩) rfl rfl (Nat.le_of_ble_eq_true rfl) d_X6_block_331 ⟨(Nat.le_of_ble_eq_true rfl), (Nat.le_of_ble_eq_true rfl)⟩ (fun v u H locs hw hP hD hS => ?_)
              obtain rfl := hw
              have hP : va_P g.2.1 cls7 [(mo, .inr (6, .int (nI th) :: .ref (ma 1) :: .int (nI tp) :: .ref (ma 3) :: .ref (ma 4) :: .ref (ma 5) :: .ref (ma 6) :: .ref (ma 7) :: .ref (ma 8) :: .ref (ma 9) :: .ref (ma 10) :: .ref (ma 11) :: .ref (ma 12) :: .ref (ma 13) :: .ref (ma 14) :: .ref (ma 15) :: .ref (ma 16) :: .ref (ma 17) :: .ref (ma 18) :: .ref (ma 19) :: .ref (ma 20) :: .ref (ma 21) :: .ref (ma 22) :: .ref (ma 23) :: .ref (ma 24) :: .ref (ma 25) :: .ref (ma 26) :: .ref (ma 27) :: .ref (ma 28) :: .ref (ma 29) :: .ref (ma 30) :: .ref (ma 31) :: .ref (ma 32) :: .int (nI sz) :: .ref (ma 34) :: .ref (ma 35) :: .ref (ma 36) :: .ref (ma 37) :: [])), (ma 32, .inl (cI g, 4096, .inl xf)), (ma 31, .inl (cI g, 64, .inl fy)), (ma 30, .inl (cI g, 8, .inl y)), (ma 28, .inl (cI g, 64, .inl rd))] H := hP
              have hD : va_D A [(mo, .inr (6, .int (nI th) :: .ref (ma 1) :: .int (nI tp) :: .ref (ma 3) :: .ref (ma 4) :: .ref (ma 5) :: .ref (ma 6) :: .ref (ma 7) :: .ref (ma 8) :: .ref (ma 9) :: .ref (ma 10) :: .ref (ma 11) :: .ref (ma 12) :: .ref (ma 13) :: .ref (ma 14) :: .ref (ma 15) :: .ref (ma 16) :: .ref (ma 17) :: .ref (ma 18) :: .ref (ma 19) :: .ref (ma 20) :: .ref (ma 21) :: .ref (ma 22) :: .ref (ma 23) :: .ref (ma 24) :: .ref (ma 25) :: .ref (ma 26) :: .ref (ma 27) :: .ref (ma 28) :: .ref (ma 29) :: .ref (ma 30) :: .ref (ma 31) :: .ref (ma 32) :: .int (nI sz) :: .ref (ma 34) :: .ref (ma 35) :: .ref (ma 36) :: .ref (ma 37) :: [])), (ma 32, .inl (cI g, 4096, .inl xf)), (ma 31, .inl (cI g, 64, .inl fy)), (ma 30, .inl (cI g, 8, .inl y)), (ma 28, .inl (cI g, 64, .inl rd))] := hD
              refine W.eq (g2 := F0 m 334 ls [.int (us x_17 (nI 11) ||| sl x_17 (nI (32 - 11))), .int (us x_17 (nI 6) ||| sl x_17 (nI (32 - 6))), .int (y ((71 - t) % 8))]) rfl ?_
              refine lv_ixor hx hb d_X6_block_334 ?_
              refine lv_iload hx hb d_X6_block_335 (lv_at hl 7 rfl) ?_
              refine lv_bipush (v := (nI 25)) hx hb d_X6_block_337 (by decide) ?_
              refine g_callS (As := [.int x_17, .int (nI 25)]) (rest := [.int ((us x_17 (nI 6) ||| sl x_17 (nI (32 - 6))) ^^^ (us x_17 (nI 11) ||| sl x_17 (nI (32 - 11)))), .int (y ((71 - t) % 8))]) (wr := [(mo, .inr (6, .int (nI th) :: .ref (ma 1) :: .int (nI tp) :: .ref (ma 3) :: .ref (ma 4) :: .ref (ma 5) :: .ref (ma 6) :: .ref (ma 7) :: .ref (ma 8) :: .ref (ma 9) :: .ref (ma 10) :: .ref (ma 11) :: .ref (ma 12) :: .ref (ma 13) :: .ref (ma 14) :: .ref (ma 15) :: .ref (ma 16) :: .ref (ma 17) :: .ref (ma 18) :: .ref (ma 19) :: .ref (ma 20) :: .ref (ma 21) :: .ref (ma 22) :: .ref (ma 23) :: .ref (ma 24) :: .ref (ma 25) :: .ref (ma 26) :: .ref (ma 27) :: .ref (ma 28) :: .ref (ma 29) :: .ref (ma 30) :: .ref (ma 31) :: .ref (ma 32) :: .int (nI sz) :: .ref (ma 34) :: .ref (ma 35) :: .ref (ma 36) :: .ref (ma 37) :: [])), (ma 32, .inl (cI g, 4096, .inl xf)), (ma 31, .inl (cI g, 64, .inl fy)), (ma 30, .inl (cI g, 8, .inl y)), (ma 28, .inl (cI g, 64, .inl rd))]) (XSok g) ⟨hx, hb, hml, hown, ht⟩ hK hA hXs hl.1 hP hD hS (c_X6_turned g x_17 25 (by decide)) (g_perm 5 [0, 1, 2, 3, 4] rfl rfl (by decide +kernel)) (va_cwS 2 ht (tb_S2 w_834 w_835 w_8 k_X6_turned) rfl rfl rfl (by decide +kernel) ⟨(Nat.le_of_ble_eq_true rfl), (Nat.le_of_ble_eq_true rfl)⟩) rfl rfl (Nat.le_of_ble_eq_true rfl) d_X6_block_339 ⟨(Nat.le_of_ble_eq_true rfl), (Nat.le_of_ble_eq_true rfl)⟩ (fun v u H locs hw hP hD hS => ?_)
              obtain rfl := hw
              have hP : va_P g.2.1 cls7 [(mo, .inr (6, .int (nI th) :: .ref (ma 1) :: .int (nI tp) :: .ref (ma 3) :: .ref (ma 4) :: .ref (ma 5) :: .ref (ma 6) :: .ref (ma 7) :: .ref (ma 8) :: .ref (ma 9) :: .ref (ma 10) :: .ref (ma 11) :: .ref (ma 12) :: .ref (ma 13) :: .ref (ma 14) :: .ref (ma 15) :: .ref (ma 16) :: .ref (ma 17) :: .ref (ma 18) :: .ref (ma 19) :: .ref (ma 20) :: .ref (ma 21) :: .ref (ma 22) :: .ref (ma 23) :: .ref (ma 24) :: .ref (ma 25) :: .ref (ma 26) :: .ref (ma 27) :: .ref (ma 28) :: .ref (ma 29) :: .ref (ma 30) :: .ref (ma 31) :: .ref (ma 32) :: .int (nI sz) :: .ref (ma 34) :: .ref (ma 35) :: .ref (ma 36) :: .ref (ma 37) :: [])), (ma 32, .inl (cI g, 4096, .inl xf)), (ma 31, .inl (cI g, 64, .inl fy)), (ma 30, .inl (cI g, 8, .inl y)), (ma 28, .inl (cI g, 64, .inl rd))] H := hP
              have hD : va_D A [(mo, .inr (6, .int (nI th) :: .ref (ma 1) :: .int (nI tp) :: .ref (ma 3) :: .ref (ma 4) :: .ref (ma 5) :: .ref (ma 6) :: .ref (ma 7) :: .ref (ma 8) :: .ref (ma 9) :: .ref (ma 10) :: .ref (ma 11) :: .ref (ma 12) :: .ref (ma 13) :: .ref (ma 14) :: .ref (ma 15) :: .ref (ma 16) :: .ref (ma 17) :: .ref (ma 18) :: .ref (ma 19) :: .ref (ma 20) :: .ref (ma 21) :: .ref (ma 22) :: .ref (ma 23) :: .ref (ma 24) :: .ref (ma 25) :: .ref (ma 26) :: .ref (ma 27) :: .ref (ma 28) :: .ref (ma 29) :: .ref (ma 30) :: .ref (ma 31) :: .ref (ma 32) :: .int (nI sz) :: .ref (ma 34) :: .ref (ma 35) :: .ref (ma 36) :: .ref (ma 37) :: [])), (ma 32, .inl (cI g, 4096, .inl xf)), (ma 31, .inl (cI g, 64, .inl fy)), (ma 30, .inl (cI g, 8, .inl y)), (ma 28, .inl (cI g, 64, .inl rd))] := hD
              refine W.eq (g2 := F0 m 342 ls [.int (us x_17 (nI 25) ||| sl x_17 (nI (32 - 25))), .int ((us x_17 (nI 6) ||| sl x_17 (nI (32 - 6))) ^^^ (us x_17 (nI 11) ||| sl x_17 (nI (32 - 11)))), .int (y ((71 - t) % 8))]) rfl ?_
              refine lv_ixor hx hb d_X6_block_342 ?_
              refine lv_iadd hx hb d_X6_block_343 ?_
              refine lv_iload hx hb d_X6_block_344 (lv_at hl 7 rfl) ?_
              refine lv_iload hx hb d_X6_block_346 (lv_at hl 6 rfl) ?_
              refine lv_iand hx hb d_X6_block_348 ?_
              refine lv_iload hx hb d_X6_block_349 (lv_at hl 7 rfl) ?_
              refine lv_iconst (v := (-1)) hx hb d_X6_block_351 (by decide) ?_
              refine lv_ixor hx hb d_X6_block_352 ?_
              refine lv_iload hx hb d_X6_block_353 (lv_at hl 5 rfl) ?_
              refine lv_iand hx hb d_X6_block_355 ?_
              refine lv_ior hx hb d_X6_block_356 ?_
              refine lv_iadd hx hb d_X6_block_357 ?_
              refine lv_aload_n hx hb d_X6_block_358 rfl (lv_at hl 18 rfl) ?_
              refine va_get (D := g.2.1) (ci := 6) (v := .ref (ma 28)) (C := R_X6) (T := T_X6) (N := 38) hx hb ht i_X6 hown hK hP 0 rfl rfl 28 (by decide) (ht _ w_696) (fun _ h9 => h9) rfl d_X6_block_359 ?_
              refine lv_iload hx hb d_X6_block_362 (lv_at hl 8 rfl) ?_
              refine ln_iald hx hb hK hP 4 0 rfl rfl (by omega) (by omega) d_X6_block_364 ?_
              refine lv_iadd hx hb d_X6_block_365 ?_
              refine lv_aload_n hx hb d_X6_block_366 rfl (lv_at hl 18 rfl) ?_
              refine va_get (D := g.2.1) (ci := 6) (v := .ref (ma 31)) (C := R_X6) (T := T_X6) (N := 38) hx hb ht i_X6 hown hK hP 0 rfl rfl 31 (by decide) (ht _ w_699) (fun _ h9 => h9) rfl d_X6_block_367 ?_
              refine lv_iload hx hb d_X6_block_370 (lv_at hl 8 rfl) ?_
              refine ln_iald hx hb hK hP 2 0 rfl rfl (by omega) (by omega) d_X6_block_372 ?_
              refine lv_iadd hx hb d_X6_block_373 ?_
              refine lv_topi (fun x_23 ex_23 => ?_)
              refine lv_istore (lv' := [(20, .int x_23), (19, .int (nI ((67 - t) % 8))), (18, .int (nI ((71 - t) % 8))), (17, .int x_22), (16, .int x_21), (15, .int x_20), (14, .int x_19), (13, .int x_18), (12, .int x_17), (11, .int (nI t)), (2, .ref (ma 30)), (3, .int x_1), (4, .int x_2), (5, .int x_3), (6, .int x_4), (7, .int x_5), (8, .int x_6), (9, .int x_7), (10, .int x_8), (0, .ref mo)]) hx hb d_X6_block_374 hl (by decide) rfl (fun ls hl => ?_)
              refine lv_iload hx hb d_X6_block_376 (lv_at hl 5 rfl) ?_
              refine lv_iconst (v := (nI 2)) hx hb d_X6_block_378 (by decide) ?_
              refine g_callS (As := [.int x_20, .int (nI 2)]) (rest := []) (wr := [(mo, .inr (6, .int (nI th) :: .ref (ma 1) :: .int (nI tp) :: .ref (ma 3) :: .ref (ma 4) :: .ref (ma 5) :: .ref (ma 6) :: .ref (ma 7) :: .ref (ma 8) :: .ref (ma 9) :: .ref (ma 10) :: .ref (ma 11) :: .ref (ma 12) :: .ref (ma 13) :: .ref (ma 14) :: .ref (ma 15) :: .ref (ma 16) :: .ref (ma 17) :: .ref (ma 18) :: .ref (ma 19) :: .ref (ma 20) :: .ref (ma 21) :: .ref (ma 22) :: .ref (ma 23) :: .ref (ma 24) :: .ref (ma 25) :: .ref (ma 26) :: .ref (ma 27) :: .ref (ma 28) :: .ref (ma 29) :: .ref (ma 30) :: .ref (ma 31) :: .ref (ma 32) :: .int (nI sz) :: .ref (ma 34) :: .ref (ma 35) :: .ref (ma 36) :: .ref (ma 37) :: [])), (ma 32, .inl (cI g, 4096, .inl xf)), (ma 31, .inl (cI g, 64, .inl fy)), (ma 30, .inl (cI g, 8, .inl y)), (ma 28, .inl (cI g, 64, .inl rd))]) (XSok g) ⟨hx, hb, hml, hown, ht⟩ hK hA hXs hl.1 hP hD hS (c_X6_turned g x_20 2 (by decide)) (g_perm 5 [0, 1, 2, 3, 4] rfl rfl (by decide +kernel)) (va_cwS 2 ht (tb_S2 w_834 w_835 w_8 k_X6_turned) rfl rfl rfl (by decide +kernel) ⟨(Nat.le_of_ble_eq_true rfl), (Nat.le_of_ble_eq_true rfl)⟩) rfl rfl (Nat.le_of_ble_eq_true rfl) d_X6_block_379 ⟨(Nat.le_of_ble_eq_true rfl), (Nat.le_of_ble_eq_true rfl)⟩ (fun v u H locs hw hP hD hS => ?_)
              obtain rfl := hw
              have hP : va_P g.2.1 cls7 [(mo, .inr (6, .int (nI th) :: .ref (ma 1) :: .int (nI tp) :: .ref (ma 3) :: .ref (ma 4) :: .ref (ma 5) :: .ref (ma 6) :: .ref (ma 7) :: .ref (ma 8) :: .ref (ma 9) :: .ref (ma 10) :: .ref (ma 11) :: .ref (ma 12) :: .ref (ma 13) :: .ref (ma 14) :: .ref (ma 15) :: .ref (ma 16) :: .ref (ma 17) :: .ref (ma 18) :: .ref (ma 19) :: .ref (ma 20) :: .ref (ma 21) :: .ref (ma 22) :: .ref (ma 23) :: .ref (ma 24) :: .ref (ma 25) :: .ref (ma 26) :: .ref (ma 27) :: .ref (ma 28) :: .ref (ma 29) :: .ref (ma 30) :: .ref (ma 31) :: .ref (ma 32) :: .int (nI sz) :: .ref (ma 34) :: .ref (ma 35) :: .ref (ma 36) :: .ref (ma 37) :: [])), (ma 32, .inl (cI g, 4096, .inl xf)), (ma 31, .inl (cI g, 64, .inl fy)), (ma 30, .inl (cI g, 8, .inl y)), (ma 28, .inl (cI g, 64, .inl rd))] H := hP
              have hD : va_D A [(mo, .inr (6, .int (nI th) :: .ref (ma 1) :: .int (nI tp) :: .ref (ma 3) :: .ref (ma 4) :: .ref (ma 5) :: .ref (ma 6) :: .ref (ma 7) :: .ref (ma 8) :: .ref (ma 9) :: .ref (ma 10) :: .ref (ma 11) :: .ref (ma 12) :: .ref (ma 13) :: .ref (ma 14) :: .ref (ma 15) :: .ref (ma 16) :: .ref (ma 17) :: .ref (ma 18) :: .ref (ma 19) :: .ref (ma 20) :: .ref (ma 21) :: .ref (ma 22) :: .ref (ma 23) :: .ref (ma 24) :: .ref (ma 25) :: .ref (ma 26) :: .ref (ma 27) :: .ref (ma 28) :: .ref (ma 29) :: .ref (ma 30) :: .ref (ma 31) :: .ref (ma 32) :: .int (nI sz) :: .ref (ma 34) :: .ref (ma 35) :: .ref (ma 36) :: .ref (ma 37) :: [])), (ma 32, .inl (cI g, 4096, .inl xf)), (ma 31, .inl (cI g, 64, .inl fy)), (ma 30, .inl (cI g, 8, .inl y)), (ma 28, .inl (cI g, 64, .inl rd))] := hD
              refine W.eq (g2 := F0 m 382 ls [.int (us x_20 (nI 2) ||| sl x_20 (nI (32 - 2)))]) rfl ?_
              refine lv_iload hx hb d_X6_block_382 (lv_at hl 5 rfl) ?_
              refine lv_bipush (v := (nI 13)) hx hb d_X6_block_384 (by decide) ?_
              refine g_callS (As := [.int x_20, .int (nI 13)]) (rest := [.int (us x_20 (nI 2) ||| sl x_20 (nI (32 - 2)))]) (wr := [(mo, .inr (6, .int (nI th) :: .ref (ma 1) :: .int (nI tp) :: .ref (ma 3) :: .ref (ma 4) :: .ref (ma 5) :: .ref (ma 6) :: .ref (ma 7) :: .ref (ma 8) :: .ref (ma 9) :: .ref (ma 10) :: .ref (ma 11) :: .ref (ma 12) :: .ref (ma 13) :: .ref (ma 14) :: .ref (ma 15) :: .ref (ma 16) :: .ref (ma 17) :: .ref (ma 18) :: .ref (ma 19) :: .ref (ma 20) :: .ref (ma 21) :: .ref (ma 22) :: .ref (ma 23) :: .ref (ma 24) :: .ref (ma 25) :: .ref (ma 26) :: .ref (ma 27) :: .ref (ma 28) :: .ref (ma 29) :: .ref (ma 30) :: .ref (ma 31) :: .ref (ma 32) :: .int (nI sz) :: .ref (ma 34) :: .ref (ma 35) :: .ref (ma 36) :: .ref (ma 37) :: [])), (ma 32, .inl (cI g, 4096, .inl xf)), (ma 31, .inl (cI g, 64, .inl fy)), (ma 30, .inl (cI g, 8, .inl y)), (ma 28, .inl (cI g, 64, .inl rd))]) (XSok g) ⟨hx, hb, hml, hown, ht⟩ hK hA hXs hl.1 hP hD hS (c_X6_turned g x_20 13 (by decide)) (g_perm 5 [0, 1, 2, 3, 4] rfl rfl (by decide +kernel)) (va_cwS 2 ht (tb_S2 w_834 w_835 w_8 k_X6_turned) rfl rfl rfl (by decide +kernel) ⟨(Nat.le_of_ble_eq_true rfl), (Nat.le_of_ble_eq_true rfl)⟩) rfl rfl (Nat.le_of_ble_eq_true rfl) d_X6_block_386 ⟨(Nat.le_of_ble_eq_true rfl), (Nat.le_of_ble_eq_true rfl)⟩ (fun v u H locs hw hP hD hS => ?_)
              obtain rfl := hw
              have hP : va_P g.2.1 cls7 [(mo, .inr (6, .int (nI th) :: .ref (ma 1) :: .int (nI tp) :: .ref (ma 3) :: .ref (ma 4) :: .ref (ma 5) :: .ref (ma 6) :: .ref (ma 7) :: .ref (ma 8) :: .ref (ma 9) :: .ref (ma 10) :: .ref (ma 11) :: .ref (ma 12) :: .ref (ma 13) :: .ref (ma 14) :: .ref (ma 15) :: .ref (ma 16) :: .ref (ma 17) :: .ref (ma 18) :: .ref (ma 19) :: .ref (ma 20) :: .ref (ma 21) :: .ref (ma 22) :: .ref (ma 23) :: .ref (ma 24) :: .ref (ma 25) :: .ref (ma 26) :: .ref (ma 27) :: .ref (ma 28) :: .ref (ma 29) :: .ref (ma 30) :: .ref (ma 31) :: .ref (ma 32) :: .int (nI sz) :: .ref (ma 34) :: .ref (ma 35) :: .ref (ma 36) :: .ref (ma 37) :: [])), (ma 32, .inl (cI g, 4096, .inl xf)), (ma 31, .inl (cI g, 64, .inl fy)), (ma 30, .inl (cI g, 8, .inl y)), (ma 28, .inl (cI g, 64, .inl rd))] H := hP
              have hD : va_D A [(mo, .inr (6, .int (nI th) :: .ref (ma 1) :: .int (nI tp) :: .ref (ma 3) :: .ref (ma 4) :: .ref (ma 5) :: .ref (ma 6) :: .ref (ma 7) :: .ref (ma 8) :: .ref (ma 9) :: .ref (ma 10) :: .ref (ma 11) :: .ref (ma 12) :: .ref (ma 13) :: .ref (ma 14) :: .ref (ma 15) :: .ref (ma 16) :: .ref (ma 17) :: .ref (ma 18) :: .ref (ma 19) :: .ref (ma 20) :: .ref (ma 21) :: .ref (ma 22) :: .ref (ma 23) :: .ref (ma 24) :: .ref (ma 25) :: .ref (ma 26) :: .ref (ma 27) :: .ref (ma 28) :: .ref (ma 29) :: .ref (ma 30) :: .ref (ma 31) :: .ref (ma 32) :: .int (nI sz) :: .ref (ma 34) :: .ref (ma 35) :: .ref (ma 36) :: .ref (ma 37) :: [])), (ma 32, .inl (cI g, 4096, .inl xf)), (ma 31, .inl (cI g, 64, .inl fy)), (ma 30, .inl (cI g, 8, .inl y)), (ma 28, .inl (cI g, 64, .inl rd))] := hD
              refine W.eq (g2 := F0 m 389 ls [.int (us x_20 (nI 13) ||| sl x_20 (nI (32 - 13))), .int (us x_20 (nI 2) ||| sl x_20 (nI (32 - 2)))]) rfl ?_
              refine lv_ixor hx hb d_X6_block_389 ?_
              refine lv_iload hx hb d_X6_block_390 (lv_at hl 5 rfl) ?_
              refine lv_bipush (v := (nI 22)) hx hb d_X6_block_392 (by decide) ?_
              refine g_callS (As := [.int x_20, .int (nI 22)]) (rest := [.int ((us x_20 (nI 2) ||| sl x_20 (nI (32 - 2))) ^^^ (us x_20 (nI 13) ||| sl x_20 (nI (32 - 13))))]) (wr := [(mo, .inr (6, .int (nI th) :: .ref (ma 1) :: .int (nI tp) :: .ref (ma 3) :: .ref (ma 4) :: .ref (ma 5) :: .ref (ma 6) :: .ref (ma 7) :: .ref (ma 8) :: .ref (ma 9) :: .ref (ma 10) :: .ref (ma 11) :: .ref (ma 12) :: .ref (ma 13) :: .ref (ma 14) :: .ref (ma 15) :: .ref (ma 16) :: .ref (ma 17) :: .ref (ma 18) :: .ref (ma 19) :: .ref (ma 20) :: .ref (ma 21) :: .ref (ma 22) :: .ref (ma 23) :: .ref (ma 24) :: .ref (ma 25) :: .ref (ma 26) :: .ref (ma 27) :: .ref (ma 28) :: .ref (ma 29) :: .ref (ma 30) :: .ref (ma 31) :: .ref (ma 32) :: .int (nI sz) :: .ref (ma 34) :: .ref (ma 35) :: .ref (ma 36) :: .ref (ma 37) :: [])), (ma 32, .inl (cI g, 4096, .inl xf)), (ma 31, .inl (cI g, 64, .inl fy)), (ma 30, .inl (cI g, 8, .inl y)), (ma 28, .inl (cI g, 64, .inl rd))]) (XSok g) ⟨hx, hb, hml, hown, ht⟩ hK hA hXs hl.1 hP hD hS (c_X6_turned g x_20 22 (by decide)) (g_perm 5 [0, 1, 2, 3, 4] rfl rfl (by decide +kernel)) (va_cwS 2 ht (tb_S2 w_834 w_835 w_8 k_X6_turned) rfl rfl rfl (by decide +kernel) ⟨(Nat.le_of_ble_eq_true rfl), (Nat.le_of_ble_eq_true rfl)⟩) rfl rfl (Nat.le_of_ble_eq_true rfl) d_X6_block_394 ⟨(Nat.le_of_ble_eq_true rfl), (Nat.le_of_ble_eq_true rfl)⟩ (fun v u H locs hw hP hD hS => ?_)
              obtain rfl := hw
              have hP : va_P g.2.1 cls7 [(mo, .inr (6, .int (nI th) :: .ref (ma 1) :: .int (nI tp) :: .ref (ma 3) :: .ref (ma 4) :: .ref (ma 5) :: .ref (ma 6) :: .ref (ma 7) :: .ref (ma 8) :: .ref (ma 9) :: .ref (ma 10) :: .ref (ma 11) :: .ref (ma 12) :: .ref (ma 13) :: .ref (ma 14) :: .ref (ma 15) :: .ref (ma 16) :: .ref (ma 17) :: .ref (ma 18) :: .ref (ma 19) :: .ref (ma 20) :: .ref (ma 21) :: .ref (ma 22) :: .ref (ma 23) :: .ref (ma 24) :: .ref (ma 25) :: .ref (ma 26) :: .ref (ma 27) :: .ref (ma 28) :: .ref (ma 29) :: .ref (ma 30) :: .ref (ma 31) :: .ref (ma 32) :: .int (nI sz) :: .ref (ma 34) :: .ref (ma 35) :: .ref (ma 36) :: .ref (ma 37) :: [])), (ma 32, .inl (cI g, 4096, .inl xf)), (ma 31, .inl (cI g, 64, .inl fy)), (ma 30, .inl (cI g, 8, .inl y)), (ma 28, .inl (cI g, 64, .inl rd))] H := hP
              have hD : va_D A [(mo, .inr (6, .int (nI th) :: .ref (ma 1) :: .int (nI tp) :: .ref (ma 3) :: .ref (ma 4) :: .ref (ma 5) :: .ref (ma 6) :: .ref (ma 7) :: .ref (ma 8) :: .ref (ma 9) :: .ref (ma 10) :: .ref (ma 11) :: .ref (ma 12) :: .ref (ma 13) :: .ref (ma 14) :: .ref (ma 15) :: .ref (ma 16) :: .ref (ma 17) :: .ref (ma 18) :: .ref (ma 19) :: .ref (ma 20) :: .ref (ma 21) :: .ref (ma 22) :: .ref (ma 23) :: .ref (ma 24) :: .ref (ma 25) :: .ref (ma 26) :: .ref (ma 27) :: .ref (ma 28) :: .ref (ma 29) :: .ref (ma 30) :: .ref (ma 31) :: .ref (ma 32) :: .int (nI sz) :: .ref (ma 34) :: .ref (ma 35) :: .ref (ma 36) :: .ref (ma 37) :: [])), (ma 32, .inl (cI g, 4096, .inl xf)), (ma 31, .inl (cI g, 64, .inl fy)), (ma 30, .inl (cI g, 8, .inl y)), (ma 28, .inl (cI g, 64, .inl rd))] := hD
              refine W.eq (g2 := F0 m 397 ls [.int (us x_20 (nI 22) ||| sl x_20 (nI (32 - 22))), .int ((us x_20 (nI 2) ||| sl x_20 (nI (32 - 2))) ^^^ (us x_20 (nI 13) ||| sl x_20 (nI (32 - 13))))]) rfl ?_
              refine lv_ixor hx hb d_X6_block_397 ?_
              refine lv_iload hx hb d_X6_block_398 (lv_at hl 5 rfl) ?_
              refine lv_iload hx hb d_X6_block_400 (lv_at hl 4 rfl) ?_
              refine lv_iand hx hb d_X6_block_402 ?_
              refine lv_iload hx hb d_X6_block_403 (lv_at hl 5 rfl) ?_
              refine lv_iload hx hb d_X6_block_405 (lv_at hl 3 rfl) ?_
              refine lv_iand hx hb d_X6_block_407 ?_
              refine lv_ixor hx hb d_X6_block_408 ?_
              refine lv_iload hx hb d_X6_block_409 (lv_at hl 4 rfl) ?_
              refine lv_iload hx hb d_X6_block_411 (lv_at hl 3 rfl) ?_
              refine lv_iand hx hb d_X6_block_413 ?_
              refine lv_ixor hx hb d_X6_block_414 ?_
              refine lv_iadd hx hb d_X6_block_415 ?_
              refine lv_topi (fun x_24 ex_24 => ?_)
              refine lv_istore (lv' := [(21, .int x_24), (20, .int x_23), (19, .int (nI ((67 - t) % 8))), (18, .int (nI ((71 - t) % 8))), (17, .int x_22), (16, .int x_21), (15, .int x_20), (14, .int x_19), (13, .int x_18), (12, .int x_17), (11, .int (nI t)), (2, .ref (ma 30)), (3, .int x_1), (4, .int x_2), (5, .int x_3), (6, .int x_4), (7, .int x_5), (8, .int x_6), (9, .int x_7), (10, .int x_8), (0, .ref mo)]) hx hb d_X6_block_416 hl (by decide) rfl (fun ls hl => ?_)
              refine lv_aload_n hx hb d_X6_block_418 rfl (lv_at hl 11 rfl) ?_
              refine lv_iload hx hb d_X6_block_419 (lv_at hl 2 rfl) ?_
              refine lv_dup2_11 hx hb d_X6_block_421 rfl rfl ?_
              refine ln_iald hx hb hK hP 3 0 rfl rfl (by omega) (by omega) d_X6_block_422 ?_
              refine lv_iload hx hb d_X6_block_423 (lv_at hl 1 rfl) ?_
              refine lv_iadd hx hb d_X6_block_425 ?_
              refine lv_topi (fun x_25 ex_25 => ?_)
              refine ln_iast hx hb hK hP hD hS 3 0 rfl rfl (by omega) (by omega) d_X6_block_426 (fun H locs hP hD hS => ?_)
              have hP : va_P g.2.1 cls7 [(mo, .inr (6, .int (nI th) :: .ref (ma 1) :: .int (nI tp) :: .ref (ma 3) :: .ref (ma 4) :: .ref (ma 5) :: .ref (ma 6) :: .ref (ma 7) :: .ref (ma 8) :: .ref (ma 9) :: .ref (ma 10) :: .ref (ma 11) :: .ref (ma 12) :: .ref (ma 13) :: .ref (ma 14) :: .ref (ma 15) :: .ref (ma 16) :: .ref (ma 17) :: .ref (ma 18) :: .ref (ma 19) :: .ref (ma 20) :: .ref (ma 21) :: .ref (ma 22) :: .ref (ma 23) :: .ref (ma 24) :: .ref (ma 25) :: .ref (ma 26) :: .ref (ma 27) :: .ref (ma 28) :: .ref (ma 29) :: .ref (ma 30) :: .ref (ma 31) :: .ref (ma 32) :: .int (nI sz) :: .ref (ma 34) :: .ref (ma 35) :: .ref (ma 36) :: .ref (ma 37) :: [])), (ma 32, .inl (cI g, 4096, .inl xf)), (ma 31, .inl (cI g, 64, .inl fy)), (ma 30, .inl (cI g, 8, .inl (upd y ((67 - t) % 8) x_25))), (ma 28, .inl (cI g, 64, .inl rd))] H := hP
              have hD : va_D A [(mo, .inr (6, .int (nI th) :: .ref (ma 1) :: .int (nI tp) :: .ref (ma 3) :: .ref (ma 4) :: .ref (ma 5) :: .ref (ma 6) :: .ref (ma 7) :: .ref (ma 8) :: .ref (ma 9) :: .ref (ma 10) :: .ref (ma 11) :: .ref (ma 12) :: .ref (ma 13) :: .ref (ma 14) :: .ref (ma 15) :: .ref (ma 16) :: .ref (ma 17) :: .ref (ma 18) :: .ref (ma 19) :: .ref (ma 20) :: .ref (ma 21) :: .ref (ma 22) :: .ref (ma 23) :: .ref (ma 24) :: .ref (ma 25) :: .ref (ma 26) :: .ref (ma 27) :: .ref (ma 28) :: .ref (ma 29) :: .ref (ma 30) :: .ref (ma 31) :: .ref (ma 32) :: .int (nI sz) :: .ref (ma 34) :: .ref (ma 35) :: .ref (ma 36) :: .ref (ma 37) :: [])), (ma 32, .inl (cI g, 4096, .inl xf)), (ma 31, .inl (cI g, 64, .inl fy)), (ma 30, .inl (cI g, 8, .inl (upd y ((67 - t) % 8) x_25))), (ma 28, .inl (cI g, 64, .inl rd))] := hD
              refine lv_aload_n hx hb d_X6_block_427 rfl (lv_at hl 11 rfl) ?_
              refine lv_iload hx hb d_X6_block_428 (lv_at hl 3 rfl) ?_
              refine lv_iload hx hb d_X6_block_430 (lv_at hl 1 rfl) ?_
              refine lv_iload hx hb d_X6_block_432 (lv_at hl 0 rfl) ?_
              refine lv_iadd hx hb d_X6_block_434 ?_
              refine lv_topi (fun x_26 ex_26 => ?_)
              refine ln_iast hx hb hK hP hD hS 3 0 rfl rfl (by omega) (by omega) d_X6_block_435 (fun H locs hP hD hS => ?_)
              have hP : va_P g.2.1 cls7 [(mo, .inr (6, .int (nI th) :: .ref (ma 1) :: .int (nI tp) :: .ref (ma 3) :: .ref (ma 4) :: .ref (ma 5) :: .ref (ma 6) :: .ref (ma 7) :: .ref (ma 8) :: .ref (ma 9) :: .ref (ma 10) :: .ref (ma 11) :: .ref (ma 12) :: .ref (ma 13) :: .ref (ma 14) :: .ref (ma 15) :: .ref (ma 16) :: .ref (ma 17) :: .ref (ma 18) :: .ref (ma 19) :: .ref (ma 20) :: .ref (ma 21) :: .ref (ma 22) :: .ref (ma 23) :: .ref (ma 24) :: .ref (ma 25) :: .ref (ma 26) :: .ref (ma 27) :: .ref (ma 28) :: .ref (ma 29) :: .ref (ma 30) :: .ref (ma 31) :: .ref (ma 32) :: .int (nI sz) :: .ref (ma 34) :: .ref (ma 35) :: .ref (ma 36) :: .ref (ma 37) :: [])), (ma 32, .inl (cI g, 4096, .inl xf)), (ma 31, .inl (cI g, 64, .inl fy)), (ma 30, .inl (cI g, 8, .inl (upd (upd y ((67 - t) % 8) x_25) ((71 - t) % 8) x_26))), (ma 28, .inl (cI g, 64, .inl rd))] H := hP
              have hD : va_D A [(mo, .inr (6, .int (nI th) :: .ref (ma 1) :: .int (nI tp) :: .ref (ma 3) :: .ref (ma 4) :: .ref (ma 5) :: .ref (ma 6) :: .ref (ma 7) :: .ref (ma 8) :: .ref (ma 9) :: .ref (ma 10) :: .ref (ma 11) :: .ref (ma 12) :: .ref (ma 13) :: .ref (ma 14) :: .ref (ma 15) :: .ref (ma 16) :: .ref (ma 17) :: .ref (ma 18) :: .ref (ma 19) :: .ref (ma 20) :: .ref (ma 21) :: .ref (ma 22) :: .ref (ma 23) :: .ref (ma 24) :: .ref (ma 25) :: .ref (ma 26) :: .ref (ma 27) :: .ref (ma 28) :: .ref (ma 29) :: .ref (ma 30) :: .ref (ma 31) :: .ref (ma 32) :: .int (nI sz) :: .ref (ma 34) :: .ref (ma 35) :: .ref (ma 36) :: .ref (ma 37) :: [])), (ma 32, .inl (cI g, 4096, .inl xf)), (ma 31, .inl (cI g, 64, .inl fy)), (ma 30, .inl (cI g, 8, .inl (upd (upd y ((67 - t) % 8) x_25) ((71 - t) % 8) x_26))), (ma 28, .inl (cI g, 64, .inl rd))] := hD
              refine ln_iinc (d := 1) (lv' := [(11, .int (nI (t + 1))), (21, .int x_24), (20, .int x_23), (19, .int (nI ((67 - t) % 8))), (18, .int (nI ((71 - t) % 8))), (17, .int x_22), (16, .int x_21), (15, .int x_20), (14, .int x_19), (13, .int x_18), (12, .int x_17), (2, .ref (ma 30)), (3, .int x_1), (4, .int x_2), (5, .int x_3), (6, .int x_4), (7, .int x_5), (8, .int x_6), (9, .int x_7), (10, .int x_8), (0, .ref mo)]) hx hb d_X6_block_436 hl (k := 10) rfl rfl (by decide) rfl (fun ls hl => ?_)
              refine lv_goto (tgt := 217) hx hb d_X6_block_439 (by decide) ?_
              have r0 : y ((64 - t) % 8) = s8_at (sh_it sh_K fy t (fs 0, fs 1, fs 2, fs 3, fs 4, fs 5, fs 6, fs 7)) 0 := (congrArg y (by omega)).trans (hinv 0 (by decide))
              have r1 : y ((65 - t) % 8) = s8_at (sh_it sh_K fy t (fs 0, fs 1, fs 2, fs 3, fs 4, fs 5, fs 6, fs 7)) 1 := (congrArg y (by omega)).trans (hinv 1 (by decide))
              have r2 : y ((66 - t) % 8) = s8_at (sh_it sh_K fy t (fs 0, fs 1, fs 2, fs 3, fs 4, fs 5, fs 6, fs 7)) 2 := (congrArg y (by omega)).trans (hinv 2 (by decide))
              have r4 : y ((68 - t) % 8) = s8_at (sh_it sh_K fy t (fs 0, fs 1, fs 2, fs 3, fs 4, fs 5, fs 6, fs 7)) 4 := (congrArg y (by omega)).trans (hinv 4 (by decide))
              have r5 : y ((69 - t) % 8) = s8_at (sh_it sh_K fy t (fs 0, fs 1, fs 2, fs 3, fs 4, fs 5, fs 6, fs 7)) 5 := (congrArg y (by omega)).trans (hinv 5 (by decide))
              have r6 : y ((70 - t) % 8) = s8_at (sh_it sh_K fy t (fs 0, fs 1, fs 2, fs 3, fs 4, fs 5, fs 6, fs 7)) 6 := (congrArg y (by omega)).trans (hinv 6 (by decide))
              have r7 : y ((71 - t) % 8) = s8_at (sh_it sh_K fy t (fs 0, fs 1, fs 2, fs 3, fs 4, fs 5, fs 6, fs 7)) 7 := (congrArg y (by omega)).trans (hinv 7 (by decide))
              have hp3 : x_23 = (((s8_at (sh_it sh_K fy t (fs 0, fs 1, fs 2, fs 3, fs 4, fs 5, fs 6, fs 7)) 7 + sh_E (s8_at (sh_it sh_K fy t (fs 0, fs 1, fs 2, fs 3, fs 4, fs 5, fs 6, fs 7)) 4)) + sh_ch (s8_at (sh_it sh_K fy t (fs 0, fs 1, fs 2, fs 3, fs 4, fs 5, fs 6, fs 7)) 4) (s8_at (sh_it sh_K fy t (fs 0, fs 1, fs 2, fs 3, fs 4, fs 5, fs 6, fs 7)) 5) (s8_at (sh_it sh_K fy t (fs 0, fs 1, fs 2, fs 3, fs 4, fs 5, fs 6, fs 7)) 6)) + sh_K t) + fy t := by
                simp only [ex_17, ex_18, ex_19, ex_20, ex_21, ex_22, ex_23, ex_24, ex_25, ex_26, r0, r1, r2, r4, r5, r6, r7, ch_or, hrd t (by omega), sh_E, sh_ch, Nat.reduceSub]
              have hq3 : x_24 = sh_A (s8_at (sh_it sh_K fy t (fs 0, fs 1, fs 2, fs 3, fs 4, fs 5, fs 6, fs 7)) 0) + sh_mj (s8_at (sh_it sh_K fy t (fs 0, fs 1, fs 2, fs 3, fs 4, fs 5, fs 6, fs 7)) 0) (s8_at (sh_it sh_K fy t (fs 0, fs 1, fs 2, fs 3, fs 4, fs 5, fs 6, fs 7)) 1) (s8_at (sh_it sh_K fy t (fs 0, fs 1, fs 2, fs 3, fs 4, fs 5, fs 6, fs 7)) 2) := by
                simp only [ex_17, ex_18, ex_19, ex_20, ex_21, ex_22, ex_23, ex_24, ex_25, ex_26, r0, r1, r2, r4, r5, r6, r7, sh_A, sh_mj, Nat.reduceSub]
              have hnew := rot_step (by omega) hinv hp3 hq3
              have hnew2 : ∀ j, j < 8 → (upd (upd y ((67 - t) % 8) x_25) ((71 - t) % 8) x_26) ((64 - (t + 1) + j) % 8) = s8_at (sh_it sh_K fy (t + 1) (fs 0, fs 1, fs 2, fs 3, fs 4, fs 5, fs 6, fs 7)) j := by
                rw [ex_25, ex_26]
                exact hnew
              exact ih (t + 1) (upd (upd y ((67 - t) % 8) x_25) ((71 - t) % 8) x_26) (by omega) hnew2 _ _ hP hD hS ls (lv_sub hl [0, 11, 12, 13, 14, 15, 16, 17, 18, 19, 20] rfl)
          exact loop3 64 0 fs (by omega) (fun j hj => (congrArg fs (show (64 - 0 + j) % 8 = j by omega)).trans (s8_e fs j hj).symm) _ _ hP hD hS ls (lv_sub hl [0, 9, 8, 7, 6, 5, 4, 3, 2, 1, 10] rfl)
        | succ k ih =>
          intro t fy hk hf h16 H locs hP hD hS ls hl
          refine lv_iload_n hx hb d_X6_block_71 rfl (lv_at hl 0 rfl) ?_
          refine lv_bipush (v := (nI 64)) hx hb d_X6_block_72 (by decide) ?_
          refine ln_icmp_ge_f (tgt := 168) hx hb d_X6_block_74 (by decide) (by omega) (by omega) (by omega) ?_
          refine lv_aload_n hx hb d_X6_block_77 rfl (lv_at hl 1 rfl) ?_
          refine va_get (D := g.2.1) (ci := 6) (v := .ref (ma 31)) (C := R_X6) (T := T_X6) (N := 38) hx hb ht i_X6 hown hK hP 0 rfl rfl 31 (by decide) (ht _ w_699) (fun _ h9 => h9) rfl d_X6_block_78 ?_
          refine lv_iload_n hx hb d_X6_block_81 rfl (lv_at hl 0 rfl) ?_
          refine lv_bipush (v := (nI 15)) hx hb d_X6_block_82 (by decide) ?_
          refine ln_isub hx hb d_X6_block_84 (by omega) ?_
          refine ln_iald hx hb hK hP 2 0 rfl rfl (by omega) (by omega) d_X6_block_85 ?_
          refine lv_topi (fun x_27 ex_27 => ?_)
          refine lv_istore_n (lv' := [(3, .int x_27), (2, .int (nI t)), (0, .ref mo), (1, .int (nI fr))]) hx hb d_X6_block_86 rfl hl (by decide) rfl (fun ls hl => ?_)
          refine lv_aload_n hx hb d_X6_block_87 rfl (lv_at hl 2 rfl) ?_
          refine va_get (D := g.2.1) (ci := 6) (v := .ref (ma 31)) (C := R_X6) (T := T_X6) (N := 38) hx hb ht i_X6 hown hK hP 0 rfl rfl 31 (by decide) (ht _ w_699) (fun _ h9 => h9) rfl d_X6_block_88 ?_
          refine lv_iload_n hx hb d_X6_block_91 rfl (lv_at hl 1 rfl) ?_
          refine lv_iconst (v := (nI 2)) hx hb d_X6_block_92 (by decide) ?_
          refine ln_isub hx hb d_X6_block_93 (by omega) ?_
          refine ln_iald hx hb hK hP 2 0 rfl rfl (by omega) (by omega) d_X6_block_94 ?_
          refine lv_topi (fun x_28 ex_28 => ?_)
          refine lv_istore (lv' := [(4, .int x_28), (3, .int x_27), (2, .int (nI t)), (0, .ref mo), (1, .int (nI fr))]) hx hb d_X6_block_95 hl (by decide) rfl (fun ls hl => ?_)
          refine lv_aload_n hx hb d_X6_block_97 rfl (lv_at hl 3 rfl) ?_
          refine va_get (D := g.2.1) (ci := 6) (v := .ref (ma 31)) (C := R_X6) (T := T_X6) (N := 38) hx hb ht i_X6 hown hK hP 0 rfl rfl 31 (by decide) (ht _ w_699) (fun _ h9 => h9) rfl d_X6_block_98 ?_
          refine lv_iload_n hx hb d_X6_block_101 rfl (lv_at hl 2 rfl) ?_
          refine lv_aload_n hx hb d_X6_block_102 rfl (lv_at hl 3 rfl) ?_
          refine va_get (D := g.2.1) (ci := 6) (v := .ref (ma 31)) (C := R_X6) (T := T_X6) (N := 38) hx hb ht i_X6 hown hK hP 0 rfl rfl 31 (by decide) (ht _ w_699) (fun _ h9 => h9) rfl d_X6_block_103 ?_
          refine lv_iload_n hx hb d_X6_block_106 rfl (lv_at hl 2 rfl) ?_
          refine lv_bipush (v := (nI 16)) hx hb d_X6_block_107 (by decide) ?_
          refine ln_isub hx hb d_X6_block_109 (by omega) ?_
          refine ln_iald hx hb hK hP 2 0 rfl rfl (by omega) (by omega) d_X6_block_110 ?_
          refine lv_iload_n hx hb d_X6_block_111 rfl (lv_at hl 1 rfl) ?_
          refine lv_bipush (v := (nI 7)) hx hb d_X6_block_112 (by decide) ?_
          refine g_callS (As := [.int x_27, .int (nI 7)]) (rest := [.int (fy (t - 16)), .int (nI t), .ref (ma 31)]) (wr := [(mo, .inr (6, .int (nI th) :: .ref (ma 1) :: .int (nI tp) :: .ref (ma 3) :: .ref (ma 4) :: .ref (ma 5) :: .ref (ma 6) :: .ref (ma 7) :: .ref (ma 8) :: .ref (ma 9) :: .ref (ma 10) :: .ref (ma 11) :: .ref (ma 12) :: .ref (ma 13) :: .ref (ma 14) :: .ref (ma 15) :: .ref (ma 16) :: .ref (ma 17) :: .ref (ma 18) :: .ref (ma 19) :: .ref (ma 20) :: .ref (ma 21) :: .ref (ma 22) :: .ref (ma 23) :: .ref (ma 24) :: .ref (ma 25) :: .ref (ma 26) :: .ref (ma 27) :: .ref (ma 28) :: .ref (ma 29) :: .ref (ma 30) :: .ref (ma 31) :: .ref (ma 32) :: .int (nI sz) :: .ref (ma 34) :: .ref (ma 35) :: .ref (ma 36) :: .ref (ma 37) :: [])), (ma 32, .inl (cI g, 4096, .inl xf)), (ma 31, .inl (cI g, 64, .inl fy)), (ma 30, .inl (cI g, 8, .inl fs)), (ma 28, .inl (cI g, 64, .inl rd))]) (XSok g) ⟨hx, hb, hml, hown, ht⟩ hK hA hXs hl.1 hP hD hS (c_X6_turned g x_27 7 (by decide)) (g_perm 5 [0, 1, 2, 3, 4] rfl rfl (by decide +kernel)) (va_cwS 2 ht (tb_S2 w_834 w_835 w_8 k_X6_turned) rfl rfl rfl (by decide +kernel) ⟨(Nat.le_of_ble_eq_true rfl), (Nat.le_of_ble_eq_true rfl)⟩) rfl rfl (Nat.le_of_ble_eq_true rfl) d_X6_block_114 ⟨(Nat.le_of_ble_eq_true rfl), (Nat.le_of_ble_eq_true rfl)⟩ (fun v u H locs hw hP hD hS => ?_)
          obtain rfl := hw
          have hP : va_P g.2.1 cls7 [(mo, .inr (6, .int (nI th) :: .ref (ma 1) :: .int (nI tp) :: .ref (ma 3) :: .ref (ma 4) :: .ref (ma 5) :: .ref (ma 6) :: .ref (ma 7) :: .ref (ma 8) :: .ref (ma 9) :: .ref (ma 10) :: .ref (ma 11) :: .ref (ma 12) :: .ref (ma 13) :: .ref (ma 14) :: .ref (ma 15) :: .ref (ma 16) :: .ref (ma 17) :: .ref (ma 18) :: .ref (ma 19) :: .ref (ma 20) :: .ref (ma 21) :: .ref (ma 22) :: .ref (ma 23) :: .ref (ma 24) :: .ref (ma 25) :: .ref (ma 26) :: .ref (ma 27) :: .ref (ma 28) :: .ref (ma 29) :: .ref (ma 30) :: .ref (ma 31) :: .ref (ma 32) :: .int (nI sz) :: .ref (ma 34) :: .ref (ma 35) :: .ref (ma 36) :: .ref (ma 37) :: [])), (ma 32, .inl (cI g, 4096, .inl xf)), (ma 31, .inl (cI g, 64, .inl fy)), (ma 30, .inl (cI g, 8, .inl fs)), (ma 28, .inl (cI g, 64, .inl rd))] H := hP
          have hD : va_D A [(mo, .inr (6, .int (nI th) :: .ref (ma 1) :: .int (nI tp) :: .ref (ma 3) :: .ref (ma 4) :: .ref (ma 5) :: .ref (ma 6) :: .ref (ma 7) :: .ref (ma 8) :: .ref (ma 9) :: .ref (ma 10) :: .ref (ma 11) :: .ref (ma 12) :: .ref (ma 13) :: .ref (ma 14) :: .ref (ma 15) :: .ref (ma 16) :: .ref (ma 17) :: .ref (ma 18) :: .ref (ma 19) :: .ref (ma 20) :: .ref (ma 21) :: .ref (ma 22) :: .ref (ma 23) :: .ref (ma 24) :: .ref (ma 25) :: .ref (ma 26) :: .ref (ma 27) :: .ref (ma 28) :: .ref (ma 29) :: .ref (ma 30) :: .ref (ma 31) :: .ref (ma 32) :: .int (nI sz) :: .ref (ma 34) :: .ref (ma 35) :: .ref (ma 36) :: .ref (ma 37) :: [])), (ma 32, .inl (cI g, 4096, .inl xf)), (ma 31, .inl (cI g, 64, .inl fy)), (ma 30, .inl (cI g, 8, .inl fs)), (ma 28, .inl (cI g, 64, .inl rd))] := hD
          refine W.eq (g2 := F0 m 117 ls [.int (us x_27 (nI 7) ||| sl x_27 (nI (32 - 7))), .int (fy (t - 16)), .int (nI t), .ref (ma 31)]) rfl ?_
          refine lv_iload_n hx hb d_X6_block_117 rfl (lv_at hl 1 rfl) ?_
          refine lv_bipush (v := (nI 18)) hx hb d_X6_block_118 (by decide) ?_
          refine g_callS (As := [.int x_27, .int (nI 18)]) (rest := [.int (us x_27 (nI 7) ||| sl x_27 (nI (32 - 7))), .int (fy (t - 16)), .int (nI t), .ref (ma 31)]) (wr := [(mo, .inr (6, .int (nI th) :: .ref (ma 1) :: .int (nI tp) :: .ref (ma 3) :: .ref (ma 4) :: .ref (ma 5) :: .ref (ma 6) :: .ref (ma 7) :: .ref (ma 8) :: .ref (ma 9) :: .ref (ma 10) :: .ref (ma 11) :: .ref (ma 12) :: .ref (ma 13) :: .ref (ma 14) :: .ref (ma 15) :: .ref (ma 16) :: .ref (ma 17) :: .ref (ma 18) :: .ref (ma 19) :: .ref (ma 20) :: .ref (ma 21) :: .ref (ma 22) :: .ref (ma 23) :: .ref (ma 24) :: .ref (ma 25) :: .ref (ma 26) :: .ref (ma 27) :: .ref (ma 28) :: .ref (ma 29) :: .ref (ma 30) :: .ref (ma 31) :: .ref (ma 32) :: .int (nI sz) :: .ref (ma 34) :: .ref (ma 35) :: .ref (ma 36) :: .ref (ma 37) :: [])), (ma 32, .inl (cI g, 4096, .inl xf)), (ma 31, .inl (cI g, 64, .inl fy)), (ma 30, .inl (cI g, 8, .inl fs)), (ma 28, .inl (cI g, 64, .inl rd))]) (XSok g) ⟨hx, hb, hml, hown, ht⟩ hK hA hXs hl.1 hP hD hS (c_X6_turned g x_27 18 (by decide)) (g_perm 5 [0, 1, 2, 3, 4] rfl rfl (by decide +kernel)) (va_cwS 2 ht (tb_S2 w_834 w_835 w_8 k_X6_turned) rfl rfl rfl (by decide +kernel) ⟨(Nat.le_of_ble_eq_true rfl), (Nat.le_of_ble_eq_true rfl)⟩) rfl rfl (Nat.le_of_ble_eq_true rfl) d_X6_block_120 ⟨(Nat.le_of_ble_eq_true rfl), (Nat.le_of_ble_eq_true rfl)⟩ (fun v u H locs hw hP hD hS => ?_)
          obtain rfl := hw
          have hP : va_P g.2.1 cls7 [(mo, .inr (6, .int (nI th) :: .ref (ma 1) :: .int (nI tp) :: .ref (ma 3) :: .ref (ma 4) :: .ref (ma 5) :: .ref (ma 6) :: .ref (ma 7) :: .ref (ma 8) :: .ref (ma 9) :: .ref (ma 10) :: .ref (ma 11) :: .ref (ma 12) :: .ref (ma 13) :: .ref (ma 14) :: .ref (ma 15) :: .ref (ma 16) :: .ref (ma 17) :: .ref (ma 18) :: .ref (ma 19) :: .ref (ma 20) :: .ref (ma 21) :: .ref (ma 22) :: .ref (ma 23) :: .ref (ma 24) :: .ref (ma 25) :: .ref (ma 26) :: .ref (ma 27) :: .ref (ma 28) :: .ref (ma 29) :: .ref (ma 30) :: .ref (ma 31) :: .ref (ma 32) :: .int (nI sz) :: .ref (ma 34) :: .ref (ma 35) :: .ref (ma 36) :: .ref (ma 37) :: [])), (ma 32, .inl (cI g, 4096, .inl xf)), (ma 31, .inl (cI g, 64, .inl fy)), (ma 30, .inl (cI g, 8, .inl fs)), (ma 28, .inl (cI g, 64, .inl rd))] H := hP
          have hD : va_D A [(mo, .inr (6, .int (nI th) :: .ref (ma 1) :: .int (nI tp) :: .ref (ma 3) :: .ref (ma 4) :: .ref (ma 5) :: .ref (ma 6) :: .ref (ma 7) :: .ref (ma 8) :: .ref (ma 9) :: .ref (ma 10) :: .ref (ma 11) :: .ref (ma 12) :: .ref (ma 13) :: .ref (ma 14) :: .ref (ma 15) :: .ref (ma 16) :: .ref (ma 17) :: .ref (ma 18) :: .ref (ma 19) :: .ref (ma 20) :: .ref (ma 21) :: .ref (ma 22) :: .ref (ma 23) :: .ref (ma 24) :: .ref (ma 25) :: .ref (ma 26) :: .ref (ma 27) :: .ref (ma 28) :: .ref (ma 29) :: .ref (ma 30) :: .ref (ma 31) :: .ref (ma 32) :: .int (nI sz) :: .ref (ma 34) :: .ref (ma 35) :: .ref (ma 36) :: .ref (ma 37) :: [])), (ma 32, .inl (cI g, 4096, .inl xf)), (ma 31, .inl (cI g, 64, .inl fy)), (ma 30, .inl (cI g, 8, .inl fs)), (ma 28, .inl (cI g, 64, .inl rd))] := hD
          refine W.eq (g2 := F0 m 123 ls [.int (us x_27 (nI 18) ||| sl x_27 (nI (32 - 18))), .int (us x_27 (nI 7) ||| sl x_27 (nI (32 - 7))), .int (fy (t - 16)), .int (nI t), .ref (ma 31)]) rfl ?_
          refine lv_ixor hx hb d_X6_block_123 ?_
          refine lv_iload_n hx hb d_X6_block_124 rfl (lv_at hl 1 rfl) ?_
          refine lv_iconst (v := (nI 3)) hx hb d_X6_block_125 (by decide) ?_
          refine lv_iushr (v := us x_27 (nI 3)) hx hb d_X6_block_126 rfl ?_
          refine lv_ixor hx hb d_X6_block_127 ?_
          refine lv_iadd hx hb d_X6_block_128 ?_
          refine lv_aload_n hx hb d_X6_block_129 rfl (lv_at hl 3 rfl) ?_
          refine va_get (D := g.2.1) (ci := 6) (v := .ref (ma 31)) (C := R_X6) (T := T_X6) (N := 38) hx hb ht i_X6 hown hK hP 0 rfl rfl 31 (by decide) (ht _ w_699) (fun _ h9 => h9) rfl d_X6_block_130 ?_
          refine lv_iload_n hx hb d_X6_block_133 rfl (lv_at hl 2 rfl) ?_
          refine lv_bipush (v := (nI 7)) hx hb d_X6_block_134 (by decide) ?_
          refine ln_isub hx hb d_X6_block_136 (by omega) ?_
          refine ln_iald hx hb hK hP 2 0 rfl rfl (by omega) (by omega) d_X6_block_137 ?_
          refine lv_iadd hx hb d_X6_block_138 ?_
          refine lv_iload hx hb d_X6_block_139 (lv_at hl 0 rfl) ?_
          refine lv_bipush (v := (nI 17)) hx hb d_X6_block_141 (by decide) ?_
          refine g_callS (As := [.int x_28, .int (nI 17)]) (rest := [.int (((fy (t - 16)) + (((us x_27 (nI 7) ||| sl x_27 (nI (32 - 7))) ^^^ (us x_27 (nI 18) ||| sl x_27 (nI (32 - 18)))) ^^^ (us x_27 (nI 3)))) + (fy (t - 7))), .int (nI t), .ref (ma 31)]) (wr := [(mo, .inr (6, .int (nI th) :: .ref (ma 1) :: .int (nI tp) :: .ref (ma 3) :: .ref (ma 4) :: .ref (ma 5) :: .ref (ma 6) :: .ref (ma 7) :: .ref (ma 8) :: .ref (ma 9) :: .ref (ma 10) :: .ref (ma 11) :: .ref (ma 12) :: .ref (ma 13) :: .ref (ma 14) :: .ref (ma 15) :: .ref (ma 16) :: .ref (ma 17) :: .ref (ma 18) :: .ref (ma 19) :: .ref (ma 20) :: .ref (ma 21) :: .ref (ma 22) :: .ref (ma 23) :: .ref (ma 24) :: .ref (ma 25) :: .ref (ma 26) :: .ref (ma 27) :: .ref (ma 28) :: .ref (ma 29) :: .ref (ma 30) :: .ref (ma 31) :: .ref (ma 32) :: .int (nI sz) :: .ref (ma 34) :: .ref (ma 35) :: .ref (ma 36) :: .ref (ma 37) :: [])), (ma 32, .inl (cI g, 4096, .inl xf)), (ma 31, .inl (cI g, 64, .inl fy)), (ma 30, .inl (cI g, 8, .inl fs)), (ma 28, .inl (cI g, 64, .inl rd))]) (XSok g) ⟨hx, hb, hml, hown, ht⟩ hK hA hXs hl.1 hP hD hS (c_X6_turned g x_28 17 (by decide)) (g_perm 5 [0, 1, 2, 3, 4] rfl rfl (by decide +kernel)) (va_cwS 2 ht (tb_S2 w_834 w_835 w_8 k_X6_turned) rfl rfl rfl (by decide +kernel) ⟨(Nat.le_of_ble_eq_true rfl), (Nat.le_of_ble_eq_true rfl)⟩) rfl rfl (Nat.le_of_ble_eq_true rfl) d_X6_block_143 ⟨(Nat.le_of_ble_eq_true rfl), (Nat.le_of_ble_eq_true rfl)⟩ (fun v u H locs hw hP hD hS => ?_)
          obtain rfl := hw
          have hP : va_P g.2.1 cls7 [(mo, .inr (6, .int (nI th) :: .ref (ma 1) :: .int (nI tp) :: .ref (ma 3) :: .ref (ma 4) :: .ref (ma 5) :: .ref (ma 6) :: .ref (ma 7) :: .ref (ma 8) :: .ref (ma 9) :: .ref (ma 10) :: .ref (ma 11) :: .ref (ma 12) :: .ref (ma 13) :: .ref (ma 14) :: .ref (ma 15) :: .ref (ma 16) :: .ref (ma 17) :: .ref (ma 18) :: .ref (ma 19) :: .ref (ma 20) :: .ref (ma 21) :: .ref (ma 22) :: .ref (ma 23) :: .ref (ma 24) :: .ref (ma 25) :: .ref (ma 26) :: .ref (ma 27) :: .ref (ma 28) :: .ref (ma 29) :: .ref (ma 30) :: .ref (ma 31) :: .ref (ma 32) :: .int (nI sz) :: .ref (ma 34) :: .ref (ma 35) :: .ref (ma 36) :: .ref (ma 37) :: [])), (ma 32, .inl (cI g, 4096, .inl xf)), (ma 31, .inl (cI g, 64, .inl fy)), (ma 30, .inl (cI g, 8, .inl fs)), (ma 28, .inl (cI g, 64, .inl rd))] H := hP
          have hD : va_D A [(mo, .inr (6, .int (nI th) :: .ref (ma 1) :: .int (nI tp) :: .ref (ma 3) :: .ref (ma 4) :: .ref (ma 5) :: .ref (ma 6) :: .ref (ma 7) :: .ref (ma 8) :: .ref (ma 9) :: .ref (ma 10) :: .ref (ma 11) :: .ref (ma 12) :: .ref (ma 13) :: .ref (ma 14) :: .ref (ma 15) :: .ref (ma 16) :: .ref (ma 17) :: .ref (ma 18) :: .ref (ma 19) :: .ref (ma 20) :: .ref (ma 21) :: .ref (ma 22) :: .ref (ma 23) :: .ref (ma 24) :: .ref (ma 25) :: .ref (ma 26) :: .ref (ma 27) :: .ref (ma 28) :: .ref (ma 29) :: .ref (ma 30) :: .ref (ma 31) :: .ref (ma 32) :: .int (nI sz) :: .ref (ma 34) :: .ref (ma 35) :: .ref (ma 36) :: .ref (ma 37) :: [])), (ma 32, .inl (cI g, 4096, .inl xf)), (ma 31, .inl (cI g, 64, .inl fy)), (ma 30, .inl (cI g, 8, .inl fs)), (ma 28, .inl (cI g, 64, .inl rd))] := hD
          refine W.eq (g2 := F0 m 146 ls [.int (us x_28 (nI 17) ||| sl x_28 (nI (32 - 17))), .int (((fy (t - 16)) + (((us x_27 (nI 7) ||| sl x_27 (nI (32 - 7))) ^^^ (us x_27 (nI 18) ||| sl x_27 (nI (32 - 18)))) ^^^ (us x_27 (nI 3)))) + (fy (t - 7))), .int (nI t), .ref (ma 31)]) rfl ?_
          refine lv_iload hx hb d_X6_block_146 (lv_at hl 0 rfl) ?_
          refine lv_bipush (v := (nI 19)) hx hb d_X6_block_148 (by decide) ?_
          refine g_callS (As := [.int x_28, .int (nI 19)]) (rest := [.int (us x_28 (nI 17) ||| sl x_28 (nI (32 - 17))), .int (((fy (t - 16)) + (((us x_27 (nI 7) ||| sl x_27 (nI (32 - 7))) ^^^ (us x_27 (nI 18) ||| sl x_27 (nI (32 - 18)))) ^^^ (us x_27 (nI 3)))) + (fy (t - 7))), .int (nI t), .ref (ma 31)]) (wr := [(mo, .inr (6, .int (nI th) :: .ref (ma 1) :: .int (nI tp) :: .ref (ma 3) :: .ref (ma 4) :: .ref (ma 5) :: .ref (ma 6) :: .ref (ma 7) :: .ref (ma 8) :: .ref (ma 9) :: .ref (ma 10) :: .ref (ma 11) :: .ref (ma 12) :: .ref (ma 13) :: .ref (ma 14) :: .ref (ma 15) :: .ref (ma 16) :: .ref (ma 17) :: .ref (ma 18) :: .ref (ma 19) :: .ref (ma 20) :: .ref (ma 21) :: .ref (ma 22) :: .ref (ma 23) :: .ref (ma 24) :: .ref (ma 25) :: .ref (ma 26) :: .ref (ma 27) :: .ref (ma 28) :: .ref (ma 29) :: .ref (ma 30) :: .ref (ma 31) :: .ref (ma 32) :: .int (nI sz) :: .ref (ma 34) :: .ref (ma 35) :: .ref (ma 36) :: .ref (ma 37) :: [])), (ma 32, .inl (cI g, 4096, .inl xf)), (ma 31, .inl (cI g, 64, .inl fy)), (ma 30, .inl (cI g, 8, .inl fs)), (ma 28, .inl (cI g, 64, .inl rd))]) (XSok g) ⟨hx, hb, hml, hown, ht⟩ hK hA hXs hl.1 hP hD hS (c_X6_turned g x_28 19 (by decide)) (g_perm 5 [0, 1, 2, 3, 4] rfl rfl (by decide +kernel)) (va_cwS 2 ht (tb_S2 w_834 w_835 w_8 k_X6_turned) rfl rfl rfl (by decide +kernel) ⟨(Nat.le_of_ble_eq_true rfl), (Nat.le_of_ble_eq_true rfl)⟩) rfl rfl (Nat.le_of_ble_eq_true rfl) d_X6_block_150 ⟨(Nat.le_of_ble_eq_true rfl), (Nat.le_of_ble_eq_true rfl)⟩ (fun v u H locs hw hP hD hS => ?_)
          obtain rfl := hw
          have hP : va_P g.2.1 cls7 [(mo, .inr (6, .int (nI th) :: .ref (ma 1) :: .int (nI tp) :: .ref (ma 3) :: .ref (ma 4) :: .ref (ma 5) :: .ref (ma 6) :: .ref (ma 7) :: .ref (ma 8) :: .ref (ma 9) :: .ref (ma 10) :: .ref (ma 11) :: .ref (ma 12) :: .ref (ma 13) :: .ref (ma 14) :: .ref (ma 15) :: .ref (ma 16) :: .ref (ma 17) :: .ref (ma 18) :: .ref (ma 19) :: .ref (ma 20) :: .ref (ma 21) :: .ref (ma 22) :: .ref (ma 23) :: .ref (ma 24) :: .ref (ma 25) :: .ref (ma 26) :: .ref (ma 27) :: .ref (ma 28) :: .ref (ma 29) :: .ref (ma 30) :: .ref (ma 31) :: .ref (ma 32) :: .int (nI sz) :: .ref (ma 34) :: .ref (ma 35) :: .ref (ma 36) :: .ref (ma 37) :: [])), (ma 32, .inl (cI g, 4096, .inl xf)), (ma 31, .inl (cI g, 64, .inl fy)), (ma 30, .inl (cI g, 8, .inl fs)), (ma 28, .inl (cI g, 64, .inl rd))] H := hP
          have hD : va_D A [(mo, .inr (6, .int (nI th) :: .ref (ma 1) :: .int (nI tp) :: .ref (ma 3) :: .ref (ma 4) :: .ref (ma 5) :: .ref (ma 6) :: .ref (ma 7) :: .ref (ma 8) :: .ref (ma 9) :: .ref (ma 10) :: .ref (ma 11) :: .ref (ma 12) :: .ref (ma 13) :: .ref (ma 14) :: .ref (ma 15) :: .ref (ma 16) :: .ref (ma 17) :: .ref (ma 18) :: .ref (ma 19) :: .ref (ma 20) :: .ref (ma 21) :: .ref (ma 22) :: .ref (ma 23) :: .ref (ma 24) :: .ref (ma 25) :: .ref (ma 26) :: .ref (ma 27) :: .ref (ma 28) :: .ref (ma 29) :: .ref (ma 30) :: .ref (ma 31) :: .ref (ma 32) :: .int (nI sz) :: .ref (ma 34) :: .ref (ma 35) :: .ref (ma 36) :: .ref (ma 37) :: [])), (ma 32, .inl (cI g, 4096, .inl xf)), (ma 31, .inl (cI g, 64, .inl fy)), (ma 30, .inl (cI g, 8, .inl fs)), (ma 28, .inl (cI g, 64, .inl rd))] := hD
          refine W.eq (g2 := F0 m 153 ls [.int (us x_28 (nI 19) ||| sl x_28 (nI (32 - 19))), .int (us x_28 (nI 17) ||| sl x_28 (nI (32 - 17))), .int (((fy (t - 16)) + (((us x_27 (nI 7) ||| sl x_27 (nI (32 - 7))) ^^^ (us x_27 (nI 18) ||| sl x_27 (nI (32 - 18)))) ^^^ (us x_27 (nI 3)))) + (fy (t - 7))), .int (nI t), .ref (ma 31)]) rfl ?_
          refine lv_ixor hx hb d_X6_block_153 ?_
          refine lv_iload hx hb d_X6_block_154 (lv_at hl 0 rfl) ?_
          refine lv_bipush (v := (nI 10)) hx hb d_X6_block_156 (by decide) ?_
          refine lv_iushr (v := us x_28 (nI 10)) hx hb d_X6_block_158 rfl ?_
          refine lv_ixor hx hb d_X6_block_159 ?_
          refine lv_iadd hx hb d_X6_block_160 ?_
          refine lv_topi (fun x_29 ex_29 => ?_)
          refine ln_iast hx hb hK hP hD hS 2 0 rfl rfl (by omega) (by omega) d_X6_block_161 (fun H locs hP hD hS => ?_)
          have hP : va_P g.2.1 cls7 [(mo, .inr (6, .int (nI th) :: .ref (ma 1) :: .int (nI tp) :: .ref (ma 3) :: .ref (ma 4) :: .ref (ma 5) :: .ref (ma 6) :: .ref (ma 7) :: .ref (ma 8) :: .ref (ma 9) :: .ref (ma 10) :: .ref (ma 11) :: .ref (ma 12) :: .ref (ma 13) :: .ref (ma 14) :: .ref (ma 15) :: .ref (ma 16) :: .ref (ma 17) :: .ref (ma 18) :: .ref (ma 19) :: .ref (ma 20) :: .ref (ma 21) :: .ref (ma 22) :: .ref (ma 23) :: .ref (ma 24) :: .ref (ma 25) :: .ref (ma 26) :: .ref (ma 27) :: .ref (ma 28) :: .ref (ma 29) :: .ref (ma 30) :: .ref (ma 31) :: .ref (ma 32) :: .int (nI sz) :: .ref (ma 34) :: .ref (ma 35) :: .ref (ma 36) :: .ref (ma 37) :: [])), (ma 32, .inl (cI g, 4096, .inl xf)), (ma 31, .inl (cI g, 64, .inl (upd fy t x_29))), (ma 30, .inl (cI g, 8, .inl fs)), (ma 28, .inl (cI g, 64, .inl rd))] H := hP
          have hD : va_D A [(mo, .inr (6, .int (nI th) :: .ref (ma 1) :: .int (nI tp) :: .ref (ma 3) :: .ref (ma 4) :: .ref (ma 5) :: .ref (ma 6) :: .ref (ma 7) :: .ref (ma 8) :: .ref (ma 9) :: .ref (ma 10) :: .ref (ma 11) :: .ref (ma 12) :: .ref (ma 13) :: .ref (ma 14) :: .ref (ma 15) :: .ref (ma 16) :: .ref (ma 17) :: .ref (ma 18) :: .ref (ma 19) :: .ref (ma 20) :: .ref (ma 21) :: .ref (ma 22) :: .ref (ma 23) :: .ref (ma 24) :: .ref (ma 25) :: .ref (ma 26) :: .ref (ma 27) :: .ref (ma 28) :: .ref (ma 29) :: .ref (ma 30) :: .ref (ma 31) :: .ref (ma 32) :: .int (nI sz) :: .ref (ma 34) :: .ref (ma 35) :: .ref (ma 36) :: .ref (ma 37) :: [])), (ma 32, .inl (cI g, 4096, .inl xf)), (ma 31, .inl (cI g, 64, .inl (upd fy t x_29))), (ma 30, .inl (cI g, 8, .inl fs)), (ma 28, .inl (cI g, 64, .inl rd))] := hD
          refine ln_iinc (d := 1) (lv' := [(2, .int (nI (t + 1))), (4, .int x_28), (3, .int x_27), (0, .ref mo), (1, .int (nI fr))]) hx hb d_X6_block_162 hl (k := 2) rfl rfl (by decide) rfl (fun ls hl => ?_)
          refine lv_goto (tgt := 71) hx hb d_X6_block_165 (by decide) ?_
          have hnew : ∀ i, i < t + 1 → (upd fy t x_29) i = sh_w (fun q => xf (fr + q)) i := by
            intro i hi
            by_cases ei : i = t
            · subst ei
              rw [pk_us, ex_29, sh_w_hi (show ¬ i < 16 by omega), ← hf (i - 16) (by omega), ← hf (i - 15) (by omega), ← hf (i - 7) (by omega), ← hf (i - 2) (by omega)]
              simp only [ex_28, ex_27, sh_s, sh_r, Nat.reduceSub]
            · rw [pk_un ei]
              exact hf i (by omega)
          exact ih (t + 1) (upd fy t x_29) (by omega) hnew (by omega) _ _ hP hD hS ls (lv_sub hl [0, 3, 4] rfl)
      exact loop2 48 16 fy (by omega) (fun i h => hf i (by omega)) (by omega) _ _ hP hD hS ls (lv_sub hl [0, 1, 2] rfl)
    | succ k ih =>
      intro t fy hk hf H locs hP hD hS ls hl
      refine lv_iload_n hx hb d_X6_block_2 rfl (lv_at hl 0 rfl) ?_
      refine lv_bipush (v := (nI 16)) hx hb d_X6_block_3 (by decide) ?_
      refine ln_icmp_ge_f (tgt := 68) hx hb d_X6_block_5 (by decide) (by omega) (by omega) (by omega) ?_
      refine lv_iload_n hx hb d_X6_block_8 rfl (lv_at hl 2 rfl) ?_
      refine lv_iconst (v := (nI 4)) hx hb d_X6_block_9 (by decide) ?_
      refine lv_iload_n hx hb d_X6_block_10 rfl (lv_at hl 0 rfl) ?_
      refine ln_imul hx hb d_X6_block_11 ?_
      refine ln_iadd hx hb d_X6_block_12 ?_
      refine lv_istore_n (lv' := [(3, .int (nI (fr + (4 * t)))), (2, .int (nI t)), (0, .ref mo), (1, .int (nI fr))]) hx hb d_X6_block_13 rfl hl (by decide) rfl (fun ls hl => ?_)
      refine lv_aload_n hx hb d_X6_block_14 rfl (lv_at hl 2 rfl) ?_
      refine va_get (D := g.2.1) (ci := 6) (v := .ref (ma 31)) (C := R_X6) (T := T_X6) (N := 38) hx hb ht i_X6 hown hK hP 0 rfl rfl 31 (by decide) (ht _ w_699) (fun _ h9 => h9) rfl d_X6_block_15 ?_
      refine lv_iload_n hx hb d_X6_block_18 rfl (lv_at hl 1 rfl) ?_
      refine lv_aload_n hx hb d_X6_block_19 rfl (lv_at hl 2 rfl) ?_
      refine va_get (D := g.2.1) (ci := 6) (v := .ref (ma 32)) (C := R_X6) (T := T_X6) (N := 38) hx hb ht i_X6 hown hK hP 0 rfl rfl 32 (by decide) (ht _ w_700) (fun _ h9 => h9) rfl d_X6_block_20 ?_
      refine lv_iload_n hx hb d_X6_block_23 rfl (lv_at hl 0 rfl) ?_
      refine ln_iald hx hb hK hP 1 0 rfl rfl (by omega) (by omega) d_X6_block_24 ?_
      refine lv_bipush (v := (nI 24)) hx hb d_X6_block_25 (by decide) ?_
      refine ln_ishl hx hb d_X6_block_27 ?_
      refine lv_aload_n hx hb d_X6_block_28 rfl (lv_at hl 2 rfl) ?_
      refine va_get (D := g.2.1) (ci := 6) (v := .ref (ma 32)) (C := R_X6) (T := T_X6) (N := 38) hx hb ht i_X6 hown hK hP 0 rfl rfl 32 (by decide) (ht _ w_700) (fun _ h9 => h9) rfl d_X6_block_29 ?_
      refine lv_iload_n hx hb d_X6_block_32 rfl (lv_at hl 0 rfl) ?_
      refine lv_iconst (v := (nI 1)) hx hb d_X6_block_33 (by decide) ?_
      refine ln_iadd hx hb d_X6_block_34 ?_
      refine ln_iald hx hb hK hP 1 0 rfl rfl (by omega) (by omega) d_X6_block_35 ?_
      refine lv_bipush (v := (nI 16)) hx hb d_X6_block_36 (by decide) ?_
      refine ln_ishl hx hb d_X6_block_38 ?_
      refine lv_ior hx hb d_X6_block_39 ?_
      refine lv_aload_n hx hb d_X6_block_40 rfl (lv_at hl 2 rfl) ?_
      refine va_get (D := g.2.1) (ci := 6) (v := .ref (ma 32)) (C := R_X6) (T := T_X6) (N := 38) hx hb ht i_X6 hown hK hP 0 rfl rfl 32 (by decide) (ht _ w_700) (fun _ h9 => h9) rfl d_X6_block_41 ?_
      refine lv_iload_n hx hb d_X6_block_44 rfl (lv_at hl 0 rfl) ?_
      refine lv_iconst (v := (nI 2)) hx hb d_X6_block_45 (by decide) ?_
      refine ln_iadd hx hb d_X6_block_46 ?_
      refine ln_iald hx hb hK hP 1 0 rfl rfl (by omega) (by omega) d_X6_block_47 ?_
      refine lv_bipush (v := (nI 8)) hx hb d_X6_block_48 (by decide) ?_
      refine ln_ishl hx hb d_X6_block_50 ?_
      refine lv_ior hx hb d_X6_block_51 ?_
      refine lv_aload_n hx hb d_X6_block_52 rfl (lv_at hl 2 rfl) ?_
      refine va_get (D := g.2.1) (ci := 6) (v := .ref (ma 32)) (C := R_X6) (T := T_X6) (N := 38) hx hb ht i_X6 hown hK hP 0 rfl rfl 32 (by decide) (ht _ w_700) (fun _ h9 => h9) rfl d_X6_block_53 ?_
      refine lv_iload_n hx hb d_X6_block_56 rfl (lv_at hl 0 rfl) ?_
      refine lv_iconst (v := (nI 3)) hx hb d_X6_block_57 (by decide) ?_
      refine ln_iadd hx hb d_X6_block_58 ?_
      refine ln_iald hx hb hK hP 1 0 rfl rfl (by omega) (by omega) d_X6_block_59 ?_
      refine lv_ior hx hb d_X6_block_60 ?_
      refine lv_topi (fun x_30 ex_30 => ?_)
      refine ln_iast hx hb hK hP hD hS 2 0 rfl rfl (by omega) (by omega) d_X6_block_61 (fun H locs hP hD hS => ?_)
      have hP : va_P g.2.1 cls7 [(mo, .inr (6, .int (nI th) :: .ref (ma 1) :: .int (nI tp) :: .ref (ma 3) :: .ref (ma 4) :: .ref (ma 5) :: .ref (ma 6) :: .ref (ma 7) :: .ref (ma 8) :: .ref (ma 9) :: .ref (ma 10) :: .ref (ma 11) :: .ref (ma 12) :: .ref (ma 13) :: .ref (ma 14) :: .ref (ma 15) :: .ref (ma 16) :: .ref (ma 17) :: .ref (ma 18) :: .ref (ma 19) :: .ref (ma 20) :: .ref (ma 21) :: .ref (ma 22) :: .ref (ma 23) :: .ref (ma 24) :: .ref (ma 25) :: .ref (ma 26) :: .ref (ma 27) :: .ref (ma 28) :: .ref (ma 29) :: .ref (ma 30) :: .ref (ma 31) :: .ref (ma 32) :: .int (nI sz) :: .ref (ma 34) :: .ref (ma 35) :: .ref (ma 36) :: .ref (ma 37) :: [])), (ma 32, .inl (cI g, 4096, .inl xf)), (ma 31, .inl (cI g, 64, .inl (upd fy t x_30))), (ma 30, .inl (cI g, 8, .inl fs)), (ma 28, .inl (cI g, 64, .inl rd))] H := hP
      have hD : va_D A [(mo, .inr (6, .int (nI th) :: .ref (ma 1) :: .int (nI tp) :: .ref (ma 3) :: .ref (ma 4) :: .ref (ma 5) :: .ref (ma 6) :: .ref (ma 7) :: .ref (ma 8) :: .ref (ma 9) :: .ref (ma 10) :: .ref (ma 11) :: .ref (ma 12) :: .ref (ma 13) :: .ref (ma 14) :: .ref (ma 15) :: .ref (ma 16) :: .ref (ma 17) :: .ref (ma 18) :: .ref (ma 19) :: .ref (ma 20) :: .ref (ma 21) :: .ref (ma 22) :: .ref (ma 23) :: .ref (ma 24) :: .ref (ma 25) :: .ref (ma 26) :: .ref (ma 27) :: .ref (ma 28) :: .ref (ma 29) :: .ref (ma 30) :: .ref (ma 31) :: .ref (ma 32) :: .int (nI sz) :: .ref (ma 34) :: .ref (ma 35) :: .ref (ma 36) :: .ref (ma 37) :: [])), (ma 32, .inl (cI g, 4096, .inl xf)), (ma 31, .inl (cI g, 64, .inl (upd fy t x_30))), (ma 30, .inl (cI g, 8, .inl fs)), (ma 28, .inl (cI g, 64, .inl rd))] := hD
      refine ln_iinc (d := 1) (lv' := [(2, .int (nI (t + 1))), (3, .int (nI (fr + (4 * t)))), (0, .ref mo), (1, .int (nI fr))]) hx hb d_X6_block_62 hl (k := 1) rfl rfl (by decide) rfl (fun ls hl => ?_)
      refine lv_goto (tgt := 2) hx hb d_X6_block_65 (by decide) ?_
      have hnew : ∀ i, i < t + 1 → (upd fy t x_30) i = sh_w (fun q => xf (fr + q)) i := by
        intro i hi
        by_cases ei : i = t
        · subst ei
          rw [pk_us, ex_30, sh_w_lo (by omega)]
          unfold sh_w0
          simp only [Nat.add_assoc]
        · rw [pk_un ei]
          exact hf i (by omega)
      exact ih (t + 1) (upd fy t x_30) (by omega) hnew _ _ hP hD hS ls (lv_sub hl [0, 2, 3] rfl)
  exact loop 16 0 wf (by omega) (fun i h => absurd h (Nat.not_lt_zero i)) _ _ hP hD hS ls (lv_sub hl [0, 1, 2] rfl)
