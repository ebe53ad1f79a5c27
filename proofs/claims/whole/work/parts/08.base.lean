set_option maxHeartbeats 4000000 in
set_option maxRecDepth 100000 in
theorem c_JM_max (g : GG) (x : Nat) (y : Nat) (hx2 : x < 2 ^ 31) (hy2 : y < 2 ^ 31) : Cg g y_JM_max b_JM_max 2 (some .int) ({ frames := 0, cells := 0, slots := 0, locals := 0 } : Room) [.int (nI x), .int (nI y)] [] (S := Unit) (fun (v : Option Value) (_ : Unit) => v = some (.int (nI (max x y)))) (fun (_ : Unit) => []) := by
  refine Ct_ofF (cc := b_JM_max) (maxL := 2) (ret := (some .int)) (by decide +kernel) rfl (Nat.le_of_ble_eq_true rfl) ?_
  intro p e s m below meth c A ls hx hb hr hml hown hts hlocks hin hA hP hK hD hXs hS hl
  have ht : ∀ w ∈ tb, w.before [.int (nI x), .int (nI y)].toArray s = true := fun w h => hts w (List.mem_cons_of_mem _ h)
  have hl : lv_has ls 2 [(0, .int (nI x)), (1, .int (nI y))] := hl
  refine lv_iload_n hx hb d_JM_max_0 rfl (lv_at hl 0 rfl) ?_
  refine lv_iload_n hx hb d_JM_max_1 rfl (lv_at hl 1 rfl) ?_
  refine ln_icmp_lt (tgt := 9) hx hb d_JM_max_2 (by decide) (by omega) (by omega) (fun c_1 => ?_) (fun c_1 => ?_)
  · refine lv_iload_n hx hb d_JM_max_9 rfl (lv_at hl 1 rfl) ?_
    have e0 : y = max x y := by omega
    exact g_iret (v := (nI y)) hx hb hr hlocks hP hD hS () (List.Perm.refl _) (congrArg (fun t => some (Value.int (nI t))) e0) (Nat.le_of_ble_eq_true rfl) (Nat.le_of_ble_eq_true rfl) d_JM_max_10
  · refine lv_iload_n hx hb d_JM_max_5 rfl (lv_at hl 0 rfl) ?_
    refine lv_goto (tgt := 10) hx hb d_JM_max_6 (by decide) ?_
    have e0 : x = max x y := by omega
    exact g_iret (v := (nI x)) hx hb hr hlocks hP hD hS () (List.Perm.refl _) (congrArg (fun t => some (Value.int (nI t))) e0) (Nat.le_of_ble_eq_true rfl) (Nat.le_of_ble_eq_true rfl) d_JM_max_10

set_option maxHeartbeats 4000000 in
set_option maxRecDepth 100000 in
theorem c_JM_min (g : GG) (x : Nat) (y : Nat) (hx2 : x < 2 ^ 31) (hy2 : y < 2 ^ 31) : Cg g y_JM_min b_JM_min 2 (some .int) ({ frames := 0, cells := 0, slots := 0, locals := 0 } : Room) [.int (nI x), .int (nI y)] [] (S := Unit) (fun (v : Option Value) (_ : Unit) => v = some (.int (nI (min x y)))) (fun (_ : Unit) => []) := by
  refine Ct_ofF (cc := b_JM_min) (maxL := 2) (ret := (some .int)) (by decide +kernel) rfl (Nat.le_of_ble_eq_true rfl) ?_
  intro p e s m below meth c A ls hx hb hr hml hown hts hlocks hin hA hP hK hD hXs hS hl
  have ht : ∀ w ∈ tb, w.before [.int (nI x), .int (nI y)].toArray s = true := fun w h => hts w (List.mem_cons_of_mem _ h)
  have hl : lv_has ls 2 [(0, .int (nI x)), (1, .int (nI y))] := hl
  refine lv_iload_n hx hb d_JM_min_0 rfl (lv_at hl 0 rfl) ?_
  refine lv_iload_n hx hb d_JM_min_1 rfl (lv_at hl 1 rfl) ?_
  refine ln_icmp_gt (tgt := 9) hx hb d_JM_min_2 (by decide) (by omega) (by omega) (fun c_1 => ?_) (fun c_1 => ?_)
  · refine lv_iload_n hx hb d_JM_min_9 rfl (lv_at hl 1 rfl) ?_
    have e0 : y = min x y := by omega
    exact g_iret (v := (nI y)) hx hb hr hlocks hP hD hS () (List.Perm.refl _) (congrArg (fun t => some (Value.int (nI t))) e0) (Nat.le_of_ble_eq_true rfl) (Nat.le_of_ble_eq_true rfl) d_JM_min_10
  · refine lv_iload_n hx hb d_JM_min_5 rfl (lv_at hl 0 rfl) ?_
    refine lv_goto (tgt := 10) hx hb d_JM_min_6 (by decide) ?_
    have e0 : x = min x y := by omega
    exact g_iret (v := (nI x)) hx hb hr hlocks hP hD hS () (List.Perm.refl _) (congrArg (fun t => some (Value.int (nI t))) e0) (Nat.le_of_ble_eq_true rfl) (Nat.le_of_ble_eq_true rfl) d_JM_min_10

set_option maxHeartbeats 4000000 in
set_option maxRecDepth 100000 in
theorem c_X3_init_0 (g : GG) (a : Nat)  : Cg g y_X3_init b_X3_init 2 none ({ frames := 1, cells := 1, slots := 0, locals := 21 } : Room) [.ref a, .int (nI 0)] [(a, .inr (3, [.null, .int (nI 0)]))] (S := Nat) (fun (v : Option Value) (u : Nat) => v = none) (fun (u : Nat) => [(a, .inr (3, [.ref u, .int (nI 0)])), (u, .inl (cI g, 0, .inl (fun _ => 0)))]) := by
  refine Ct_of (cc := b_X3_init) (maxL := 2) (ret := none) (by decide) rfl (Nat.le_of_ble_eq_true rfl) ?_
  intro p e s m below meth c A ls hx hb hr hml hown hts hlocks hin hA hP hK hD hXs hS hl
  have ht : ∀ w ∈ tb, w.before [.ref a, .int (nI 0)].toArray s = true := fun w h => hts w (List.mem_cons_of_mem _ h)
  have hown : s.vm.findClass R_X3 = some m.cls := hown
  have hl : lv_has ls 2 [(0, .ref a), (1, .int (nI 0))] := hl
  refine lv_aload_n hx hb d_X3_init_0 rfl (lv_at hl 0 rfl) ?_
  refine W.objInit hx hb hown (ht _ w_38) (ht _ w_25) (ht _ k_JO_init) rfl (by rw [hml]; exact hl.1) rfl d_X3_init_1 (Nat.le_of_ble_eq_true rfl) (Nat.le_of_ble_eq_true rfl) ?_
  refine W.eq (g2 := F0 m 4 ls []) rfl ?_
  refine lv_aload_n hx hb d_X3_init_4 rfl (lv_at hl 0 rfl) ?_
  refine lv_iload_n hx hb d_X3_init_5 rfl (lv_at hl 1 rfl) ?_
  refine lv_iconst (v := (nI 0)) hx hb d_X3_init_6 (by decide) ?_
  refine g_callS (As := [.int (nI 0), .int (nI 0)]) (rest := [.ref a]) (wr := [(a, .inr (3, [.null, .int (nI 0)]))]) (XSok g) ⟨hx, hb, hml, hown, ht⟩ hK hA hXs hl.1 hP hD hS (c_JM_max g 0 0 (by omega) (by omega)) (g_perm 1 [0] rfl rfl (by decide +kernel)) (va_cwS 2 ht (tb_S2 w_39 w_40 w_4 k_JM_max) rfl rfl rfl (by decide +kernel) ⟨(Nat.le_of_ble_eq_true rfl), (Nat.le_of_ble_eq_true rfl)⟩) rfl rfl (Nat.le_of_ble_eq_true rfl) d_X3_init_7 ⟨(Nat.le_of_ble_eq_true rfl), (Nat.le_of_ble_eq_true rfl)⟩ (fun v u H locs hw hP hD hS => ?_)
  obtain rfl := hw
  have hP : va_P g.2.1 cls7 [(a, .inr (3, [.null, .int (nI 0)]))] H := hP
  have hD : va_D A [(a, .inr (3, [.null, .int (nI 0)]))] := hD
  refine W.eq (g2 := F0 m 10 ls [.int (nI (max 0 0)), .ref a]) rfl ?_
  refine W.eq (g2 := F0 m 10 ls [.int (nI 0), .ref a]) rfl ?_
  refine ln_newi (N := 0) hx hb (ht _ w_54) hK hP hD hS hA 0 rfl (by omega) (Nat.le_of_ble_eq_true rfl) (Nat.le_of_ble_eq_true rfl) d_X3_init_10 (fun q_10 H hP hD hS => ?_)
  have hP : va_P g.2.1 cls7 [(a, .inr (3, [.null, .int (nI 0)])), (q_10, .inl (cI g, 0, .inl (fun _ => 0)))] H := hP
  have hD : va_D A [(a, .inr (3, [.null, .int (nI 0)])), (q_10, .inl (cI g, 0, .inl (fun _ => 0)))] := hD
  refine W.widen (k := 1) (n := 0) (Nat.le_of_ble_eq_true rfl) (Nat.le_of_ble_eq_true rfl) ?_
  refine va_putF (D := g.2.1) (ci := 3) (v := .ref q_10) (ty := (.array .int)) (C := R_X3) (T := T_X3) (N := 2) hx hb ht i_X3 t_X3 tok_X3 n_X3 hown hK hP hD hS 0 rfl rfl 0 (by decide) (ht _ w_42) (fun _ h9 => h9) rfl hin rfl (by decide +kernel) rfl rfl (Nat.le_of_ble_eq_true rfl) d_X3_init_12 (fun H locs hP hD hS => ?_)
  have hP : va_P g.2.1 cls7 [(a, .inr (3, [.ref q_10, .int (nI 0)])), (q_10, .inl (cI g, 0, .inl (fun _ => 0)))] H := hP
  have hD : va_D A [(a, .inr (3, [.ref q_10, .int (nI 0)])), (q_10, .inl (cI g, 0, .inl (fun _ => 0)))] := hD
  refine lv_aload_n hx hb d_X3_init_15 rfl (lv_at hl 0 rfl) ?_
  refine lv_iconst (v := (nI 0)) hx hb d_X3_init_16 (by decide) ?_
  refine va_put (D := g.2.1) (ci := 3) (v := .int (nI 0)) (ty := .int) (C := R_X3) (T := T_X3) (N := 2) hx hb ht i_X3 t_X3 tok_X3 n_X3 hown hK hP hD hS 0 rfl rfl 1 (by decide) (ht _ w_44) (fun _ h9 => h9) rfl (by decide +kernel) rfl rfl (Nat.le_of_ble_eq_true rfl) d_X3_init_17 (fun H locs hP hD hS => ?_)
  have hP : va_P g.2.1 cls7 [(a, .inr (3, [.ref q_10, .int (nI 0)])), (q_10, .inl (cI g, 0, .inl (fun _ => 0)))] H := hP
  have hD : va_D A [(a, .inr (3, [.ref q_10, .int (nI 0)])), (q_10, .inl (cI g, 0, .inl (fun _ => 0)))] := hD
  exact g_vret hx hb hr hlocks hP hD hS q_10 (g_perm 2 [0, 1] rfl rfl (by decide +kernel)) rfl (Nat.le_of_ble_eq_true rfl) (Nat.le_of_ble_eq_true rfl) d_X3_init_20

set_option maxHeartbeats 4000000 in
set_option maxRecDepth 100000 in
theorem c_X3_init_20 (g : GG) (a : Nat)  : Cg g y_X3_init b_X3_init 2 none ({ frames := 1, cells := 1, slots := 20, locals := 21 } : Room) [.ref a, .int (nI 20)] [(a, .inr (3, [.null, .int (nI 0)]))] (S := Nat) (fun (v : Option Value) (u : Nat) => v = none) (fun (u : Nat) => [(a, .inr (3, [.ref u, .int (nI 0)])), (u, .inl (cI g, 20, .inl (fun _ => 0)))]) := by
  refine Ct_of (cc := b_X3_init) (maxL := 2) (ret := none) (by decide) rfl (Nat.le_of_ble_eq_true rfl) ?_
  intro p e s m below meth c A ls hx hb hr hml hown hts hlocks hin hA hP hK hD hXs hS hl
  have ht : ∀ w ∈ tb, w.before [.ref a, .int (nI 20)].toArray s = true := fun w h => hts w (List.mem_cons_of_mem _ h)
  have hown : s.vm.findClass R_X3 = some m.cls := hown
  have hl : lv_has ls 2 [(0, .ref a), (1, .int (nI 20))] := hl
  refine lv_aload_n hx hb d_X3_init_0 rfl (lv_at hl 0 rfl) ?_
  refine W.objInit hx hb hown (ht _ w_38) (ht _ w_25) (ht _ k_JO_init) rfl (by rw [hml]; exact hl.1) rfl d_X3_init_1 (Nat.le_of_ble_eq_true rfl) (Nat.le_of_ble_eq_true rfl) ?_
  refine W.eq (g2 := F0 m 4 ls []) rfl ?_
  refine lv_aload_n hx hb d_X3_init_4 rfl (lv_at hl 0 rfl) ?_
  refine lv_iload_n hx hb d_X3_init_5 rfl (lv_at hl 1 rfl) ?_
  refine lv_iconst (v := (nI 0)) hx hb d_X3_init_6 (by decide) ?_
  refine g_callS (As := [.int (nI 20), .int (nI 0)]) (rest := [.ref a]) (wr := [(a, .inr (3, [.null, .int (nI 0)]))]) (XSok g) ⟨hx, hb, hml, hown, ht⟩ hK hA hXs hl.1 hP hD hS (c_JM_max g 20 0 (by omega) (by omega)) (g_perm 1 [0] rfl rfl (by decide +kernel)) (va_cwS 2 ht (tb_S2 w_39 w_40 w_4 k_JM_max) rfl rfl rfl (by decide +kernel) ⟨(Nat.le_of_ble_eq_true rfl), (Nat.le_of_ble_eq_true rfl)⟩) rfl rfl (Nat.le_of_ble_eq_true rfl) d_X3_init_7 ⟨(Nat.le_of_ble_eq_true rfl), (Nat.le_of_ble_eq_true rfl)⟩ (fun v u H locs hw hP hD hS => ?_)
  obtain rfl := hw
  have hP : va_P g.2.1 cls7 [(a, .inr (3, [.null, .int (nI 0)]))] H := hP
  have hD : va_D A [(a, .inr (3, [.null, .int (nI 0)]))] := hD
  refine W.eq (g2 := F0 m 10 ls [.int (nI (max 20 0)), .ref a]) rfl ?_
  refine W.eq (g2 := F0 m 10 ls [.int (nI 20), .ref a]) rfl ?_
  refine ln_newi (N := 20) hx hb (ht _ w_54) hK hP hD hS hA 0 rfl (by omega) (Nat.le_of_ble_eq_true rfl) (Nat.le_of_ble_eq_true rfl) d_X3_init_10 (fun q_10 H hP hD hS => ?_)
  have hP : va_P g.2.1 cls7 [(a, .inr (3, [.null, .int (nI 0)])), (q_10, .inl (cI g, 20, .inl (fun _ => 0)))] H := hP
  have hD : va_D A [(a, .inr (3, [.null, .int (nI 0)])), (q_10, .inl (cI g, 20, .inl (fun _ => 0)))] := hD
  refine W.widen (k := 1) (n := 20) (Nat.le_of_ble_eq_true rfl) (Nat.le_of_ble_eq_true rfl) ?_
  refine va_putF (D := g.2.1) (ci := 3) (v := .ref q_10) (ty := (.array .int)) (C := R_X3) (T := T_X3) (N := 2) hx hb ht i_X3 t_X3 tok_X3 n_X3 hown hK hP hD hS 0 rfl rfl 0 (by decide) (ht _ w_42) (fun _ h9 => h9) rfl hin rfl (by decide +kernel) rfl rfl (Nat.le_of_ble_eq_true rfl) d_X3_init_12 (fun H locs hP hD hS => ?_)
  have hP : va_P g.2.1 cls7 [(a, .inr (3, [.ref q_10, .int (nI 0)])), (q_10, .inl (cI g, 20, .inl (fun _ => 0)))] H := hP
  have hD : va_D A [(a, .inr (3, [.ref q_10, .int (nI 0)])), (q_10, .inl (cI g, 20, .inl (fun _ => 0)))] := hD
  refine lv_aload_n hx hb d_X3_init_15 rfl (lv_at hl 0 rfl) ?_
  refine lv_iconst (v := (nI 0)) hx hb d_X3_init_16 (by decide) ?_
  refine va_put (D := g.2.1) (ci := 3) (v := .int (nI 0)) (ty := .int) (C := R_X3) (T := T_X3) (N := 2) hx hb ht i_X3 t_X3 tok_X3 n_X3 hown hK hP hD hS 0 rfl rfl 1 (by decide) (ht _ w_44) (fun _ h9 => h9) rfl (by decide +kernel) rfl rfl (Nat.le_of_ble_eq_true rfl) d_X3_init_17 (fun H locs hP hD hS => ?_)
  have hP : va_P g.2.1 cls7 [(a, .inr (3, [.ref q_10, .int (nI 0)])), (q_10, .inl (cI g, 20, .inl (fun _ => 0)))] H := hP
  have hD : va_D A [(a, .inr (3, [.ref q_10, .int (nI 0)])), (q_10, .inl (cI g, 20, .inl (fun _ => 0)))] := hD
  exact g_vret hx hb hr hlocks hP hD hS q_10 (g_perm 2 [0, 1] rfl rfl (by decide +kernel)) rfl (Nat.le_of_ble_eq_true rfl) (Nat.le_of_ble_eq_true rfl) d_X3_init_20

set_option maxHeartbeats 4000000 in
set_option maxRecDepth 100000 in
theorem c_X3_init_32 (g : GG) (a : Nat)  : Cg g y_X3_init b_X3_init 2 none ({ frames := 1, cells := 1, slots := 32, locals := 21 } : Room) [.ref a, .int (nI 32)] [(a, .inr (3, [.null, .int (nI 0)]))] (S := Nat) (fun (v : Option Value) (u : Nat) => v = none) (fun (u : Nat) => [(a, .inr (3, [.ref u, .int (nI 0)])), (u, .inl (cI g, 32, .inl (fun _ => 0)))]) := by
  refine Ct_of (cc := b_X3_init) (maxL := 2) (ret := none) (by decide) rfl (Nat.le_of_ble_eq_true rfl) ?_
  intro p e s m below meth c A ls hx hb hr hml hown hts hlocks hin hA hP hK hD hXs hS hl
  have ht : ∀ w ∈ tb, w.before [.ref a, .int (nI 32)].toArray s = true := fun w h => hts w (List.mem_cons_of_mem _ h)
  have hown : s.vm.findClass R_X3 = some m.cls := hown
  have hl : lv_has ls 2 [(0, .ref a), (1, .int (nI 32))] := hl
  refine lv_aload_n hx hb d_X3_init_0 rfl (lv_at hl 0 rfl) ?_
  refine W.objInit hx hb hown (ht _ w_38) (ht _ w_25) (ht _ k_JO_init) rfl (by rw [hml]; exact hl.1) rfl d_X3_init_1 (Nat.le_of_ble_eq_true rfl) (Nat.le_of_ble_eq_true rfl) ?_
  refine W.eq (g2 := F0 m 4 ls []) rfl ?_
  refine lv_aload_n hx hb d_X3_init_4 rfl (lv_at hl 0 rfl) ?_
  refine lv_iload_n hx hb d_X3_init_5 rfl (lv_at hl 1 rfl) ?_
  refine lv_iconst (v := (nI 0)) hx hb d_X3_init_6 (by decide) ?_
  refine g_callS (As := [.int (nI 32), .int (nI 0)]) (rest := [.ref a]) (wr := [(a, .inr (3, [.null, .int (nI 0)]))]) (XSok g) ⟨hx, hb, hml, hown, ht⟩ hK hA hXs hl.1 hP hD hS (c_JM_max g 32 0 (by omega) (by omega)) (g_perm 1 [0] rfl rfl (by decide +kernel)) (va_cwS 2 ht (tb_S2 w_39 w_40 w_4 k_JM_max) rfl rfl rfl (by decide +kernel) ⟨(Nat.le_of_ble_eq_true rfl), (Nat.le_of_ble_eq_true rfl)⟩) rfl rfl (Nat.le_of_ble_eq_true rfl) d_X3_init_7 ⟨(Nat.le_of_ble_eq_true rfl), (Nat.le_of_ble_eq_true rfl)⟩ (fun v u H locs hw hP hD hS => ?_)
  obtain rfl := hw
  have hP : va_P g.2.1 cls7 [(a, .inr (3, [.null, .int (nI 0)]))] H := hP
  have hD : va_D A [(a, .inr (3, [.null, .int (nI 0)]))] := hD
  refine W.eq (g2 := F0 m 10 ls [.int (nI (max 32 0)), .ref a]) rfl ?_
  refine W.eq (g2 := F0 m 10 ls [.int (nI 32), .ref a]) rfl ?_
  refine ln_newi (N := 32) hx hb (ht _ w_54) hK hP hD hS hA 0 rfl (by omega) (Nat.le_of_ble_eq_true rfl) (Nat.le_of_ble_eq_true rfl) d_X3_init_10 (fun q_10 H hP hD hS => ?_)
  have hP : va_P g.2.1 cls7 [(a, .inr (3, [.null, .int (nI 0)])), (q_10, .inl (cI g, 32, .inl (fun _ => 0)))] H := hP
  have hD : va_D A [(a, .inr (3, [.null, .int (nI 0)])), (q_10, .inl (cI g, 32, .inl (fun _ => 0)))] := hD
  refine W.widen (k := 1) (n := 32) (Nat.le_of_ble_eq_true rfl) (Nat.le_of_ble_eq_true rfl) ?_
  refine va_putF (D := g.2.1) (ci := 3) (v := .ref q_10) (ty := (.array .int)) (C := R_X3) (T := T_X3) (N := 2) hx hb ht i_X3 t_X3 tok_X3 n_X3 hown hK hP hD hS 0 rfl rfl 0 (by decide) (ht _ w_42) (fun _ h9 => h9) rfl hin rfl (by decide +kernel) rfl rfl (Nat.le_of_ble_eq_true rfl) d_X3_init_12 (fun H locs hP hD hS => ?_)
  have hP : va_P g.2.1 cls7 [(a, .inr (3, [.ref q_10, .int (nI 0)])), (q_10, .inl (cI g, 32, .inl (fun _ => 0)))] H := hP
  have hD : va_D A [(a, .inr (3, [.ref q_10, .int (nI 0)])), (q_10, .inl (cI g, 32, .inl (fun _ => 0)))] := hD
  refine lv_aload_n hx hb d_X3_init_15 rfl (lv_at hl 0 rfl) ?_
  refine lv_iconst (v := (nI 0)) hx hb d_X3_init_16 (by decide) ?_
  refine va_put (D := g.2.1) (ci := 3) (v := .int (nI 0)) (ty := .int) (C := R_X3) (T := T_X3) (N := 2) hx hb ht i_X3 t_X3 tok_X3 n_X3 hown hK hP hD hS 0 rfl rfl 1 (by decide) (ht _ w_44) (fun _ h9 => h9) rfl (by decide +kernel) rfl rfl (Nat.le_of_ble_eq_true rfl) d_X3_init_17 (fun H locs hP hD hS => ?_)
  have hP : va_P g.2.1 cls7 [(a, .inr (3, [.ref q_10, .int (nI 0)])), (q_10, .inl (cI g, 32, .inl (fun _ => 0)))] H := hP
  have hD : va_D A [(a, .inr (3, [.ref q_10, .int (nI 0)])), (q_10, .inl (cI g, 32, .inl (fun _ => 0)))] := hD
  exact g_vret hx hb hr hlocks hP hD hS q_10 (g_perm 2 [0, 1] rfl rfl (by decide +kernel)) rfl (Nat.le_of_ble_eq_true rfl) (Nat.le_of_ble_eq_true rfl) d_X3_init_20

set_option maxHeartbeats 4000000 in
set_option maxRecDepth 100000 in
theorem c_X3_init_300 (g : GG) (a : Nat)  : Cg g y_X3_init b_X3_init 2 none ({ frames := 1, cells := 1, slots := 300, locals := 21 } : Room) [.ref a, .int (nI 300)] [(a, .inr (3, [.null, .int (nI 0)]))] (S := Nat) (fun (v : Option Value) (u : Nat) => v = none) (fun (u : Nat) => [(a, .inr (3, [.ref u, .int (nI 0)])), (u, .inl (cI g, 300, .inl (fun _ => 0)))]) := by
  refine Ct_of (cc := b_X3_init) (maxL := 2) (ret := none) (by decide) rfl (Nat.le_of_ble_eq_true rfl) ?_
  intro p e s m below meth c A ls hx hb hr hml hown hts hlocks hin hA hP hK hD hXs hS hl
  have ht : ∀ w ∈ tb, w.before [.ref a, .int (nI 300)].toArray s = true := fun w h => hts w (List.mem_cons_of_mem _ h)
  have hown : s.vm.findClass R_X3 = some m.cls := hown
  have hl : lv_has ls 2 [(0, .ref a), (1, .int (nI 300))] := hl
  refine lv_aload_n hx hb d_X3_init_0 rfl (lv_at hl 0 rfl) ?_
  refine W.objInit hx hb hown (ht _ w_38) (ht _ w_25) (ht _ k_JO_init) rfl (by rw [hml]; exact hl.1) rfl d_X3_init_1 (Nat.le_of_ble_eq_true rfl) (Nat.le_of_ble_eq_true rfl) ?_
  refine W.eq (g2 := F0 m 4 ls []) rfl ?_
  refine lv_aload_n hx hb d_X3_init_4 rfl (lv_at hl 0 rfl) ?_
  refine lv_iload_n hx hb d_X3_init_5 rfl (lv_at hl 1 rfl) ?_
  refine lv_iconst (v := (nI 0)) hx hb d_X3_init_6 (by decide) ?_
  refine g_callS (As := [.int (nI 300), .int (nI 0)]) (rest := [.ref a]) (wr := [(a, .inr (3, [.null, .int (nI 0)]))]) (XSok g) ⟨hx, hb, hml, hown, ht⟩ hK hA hXs hl.1 hP hD hS (c_JM_max g 300 0 (by omega) (by omega)) (g_perm 1 [0] rfl rfl (by decide +kernel)) (va_cwS 2 ht (tb_S2 w_39 w_40 w_4 k_JM_max) rfl rfl rfl (by decide +kernel) ⟨(Nat.le_of_ble_eq_true rfl), (Nat.le_of_ble_eq_true rfl)⟩) rfl rfl (Nat.le_of_ble_eq_true rfl) d_X3_init_7 ⟨(Nat.le_of_ble_eq_true rfl), (Nat.le_of_ble_eq_true rfl)⟩ (fun v u H locs hw hP hD hS => ?_)
  obtain rfl := hw
  have hP : va_P g.2.1 cls7 [(a, .inr (3, [.null, .int (nI 0)]))] H := hP
  have hD : va_D A [(a, .inr (3, [.null, .int (nI 0)]))] := hD
  refine W.eq (g2 := F0 m 10 ls [.int (nI (max 300 0)), .ref a]) rfl ?_
  refine W.eq (g2 := F0 m 10 ls [.int (nI 300), .ref a]) rfl ?_
  refine ln_newi (N := 300) hx hb (ht _ w_54) hK hP hD hS hA 0 rfl (by omega) (Nat.le_of_ble_eq_true rfl) (Nat.le_of_ble_eq_true rfl) d_X3_init_10 (fun q_10 H hP hD hS => ?_)
  have hP : va_P g.2.1 cls7 [(a, .inr (3, [.null, .int (nI 0)])), (q_10, .inl (cI g, 300, .inl (fun _ => 0)))] H := hP
  have hD : va_D A [(a, .inr (3, [.null, .int (nI 0)])), (q_10, .inl (cI g, 300, .inl (fun _ => 0)))] := hD
  refine W.widen (k := 1) (n := 300) (Nat.le_of_ble_eq_true rfl) (Nat.le_of_ble_eq_true rfl) ?_
  refine va_putF (D := g.2.1) (ci := 3) (v := .ref q_10) (ty := (.array .int)) (C := R_X3) (T := T_X3) (N := 2) hx hb ht i_X3 t_X3 tok_X3 n_X3 hown hK hP hD hS 0 rfl rfl 0 (by decide) (ht _ w_42) (fun _ h9 => h9) rfl hin rfl (by decide +kernel) rfl rfl (Nat.le_of_ble_eq_true rfl) d_X3_init_12 (fun H locs hP hD hS => ?_)
  have hP : va_P g.2.1 cls7 [(a, .inr (3, [.ref q_10, .int (nI 0)])), (q_10, .inl (cI g, 300, .inl (fun _ => 0)))] H := hP
  have hD : va_D A [(a, .inr (3, [.ref q_10, .int (nI 0)])), (q_10, .inl (cI g, 300, .inl (fun _ => 0)))] := hD
  refine lv_aload_n hx hb d_X3_init_15 rfl (lv_at hl 0 rfl) ?_
  refine lv_iconst (v := (nI 0)) hx hb d_X3_init_16 (by decide) ?_
  refine va_put (D := g.2.1) (ci := 3) (v := .int (nI 0)) (ty := .int) (C := R_X3) (T := T_X3) (N := 2) hx hb ht i_X3 t_X3 tok_X3 n_X3 hown hK hP hD hS 0 rfl rfl 1 (by decide) (ht _ w_44) (fun _ h9 => h9) rfl (by decide +kernel) rfl rfl (Nat.le_of_ble_eq_true rfl) d_X3_init_17 (fun H locs hP hD hS => ?_)
  have hP : va_P g.2.1 cls7 [(a, .inr (3, [.ref q_10, .int (nI 0)])), (q_10, .inl (cI g, 300, .inl (fun _ => 0)))] H := hP
  have hD : va_D A [(a, .inr (3, [.ref q_10, .int (nI 0)])), (q_10, .inl (cI g, 300, .inl (fun _ => 0)))] := hD
  exact g_vret hx hb hr hlocks hP hD hS q_10 (g_perm 2 [0, 1] rfl rfl (by decide +kernel)) rfl (Nat.le_of_ble_eq_true rfl) (Nat.le_of_ble_eq_true rfl) d_X3_init_20

set_option maxHeartbeats 4000000 in
set_option maxRecDepth 100000 in
theorem c_X3_init_336 (g : GG) (a : Nat)  : Cg g y_X3_init b_X3_init 2 none ({ frames := 1, cells := 1, slots := 336, locals := 21 } : Room) [.ref a, .int (nI 336)] [(a, .inr (3, [.null, .int (nI 0)]))] (S := Nat) (fun (v : Option Value) (u : Nat) => v = none) (fun (u : Nat) => [(a, .inr (3, [.ref u, .int (nI 0)])), (u, .inl (cI g, 336, .inl (fun _ => 0)))]) := by
  refine Ct_of (cc := b_X3_init) (maxL := 2) (ret := none) (by decide) rfl (Nat.le_of_ble_eq_true rfl) ?_
  intro p e s m below meth c A ls hx hb hr hml hown hts hlocks hin hA hP hK hD hXs hS hl
  have ht : ∀ w ∈ tb, w.before [.ref a, .int (nI 336)].toArray s = true := fun w h => hts w (List.mem_cons_of_mem _ h)
  have hown : s.vm.findClass R_X3 = some m.cls := hown
  have hl : lv_has ls 2 [(0, .ref a), (1, .int (nI 336))] := hl
  refine lv_aload_n hx hb d_X3_init_0 rfl (lv_at hl 0 rfl) ?_
  refine W.objInit hx hb hown (ht _ w_38) (ht _ w_25) (ht _ k_JO_init) rfl (by rw [hml]; exact hl.1) rfl d_X3_init_1 (Nat.le_of_ble_eq_true rfl) (Nat.le_of_ble_eq_true rfl) ?_
  refine W.eq (g2 := F0 m 4 ls []) rfl ?_
  refine lv_aload_n hx hb d_X3_init_4 rfl (lv_at hl 0 rfl) ?_
  refine lv_iload_n hx hb d_X3_init_5 rfl (lv_at hl 1 rfl) ?_
  refine lv_iconst (v := (nI 0)) hx hb d_X3_init_6 (by decide) ?_
  refine g_callS (As := [.int (nI 336), .int (nI 0)]) (rest := [.ref a]) (wr := [(a, .inr (3, [.null, .int (nI 0)]))]) (XSok g) ⟨hx, hb, hml, hown, ht⟩ hK hA hXs hl.1 hP hD hS (c_JM_max g 336 0 (by omega) (by omega)) (g_perm 1 [0] rfl rfl (by decide +kernel)) (va_cwS 2 ht (tb_S2 w_39 w_40 w_4 k_JM_max) rfl rfl rfl (by decide +kernel) ⟨(Nat.le_of_ble_eq_true rfl), (Nat.le_of_ble_eq_true rfl)⟩) rfl rfl (Nat.le_of_ble_eq_true rfl) d_X3_init_7 ⟨(Nat.le_of_ble_eq_true rfl), (Nat.le_of_ble_eq_true rfl)⟩ (fun v u H locs hw hP hD hS => ?_)
  obtain rfl := hw
  have hP : va_P g.2.1 cls7 [(a, .inr (3, [.null, .int (nI 0)]))] H := hP
  have hD : va_D A [(a, .inr (3, [.null, .int (nI 0)]))] := hD
  refine W.eq (g2 := F0 m 10 ls [.int (nI (max 336 0)), .ref a]) rfl ?_
  refine W.eq (g2 := F0 m 10 ls [.int (nI 336), .ref a]) rfl ?_
  refine ln_newi (N := 336) hx hb (ht _ w_54) hK hP hD hS hA 0 rfl (by omega) (Nat.le_of_ble_eq_true rfl) (Nat.le_of_ble_eq_true rfl) d_X3_init_10 (fun q_10 H hP hD hS => ?_)
  have hP : va_P g.2.1 cls7 [(a, .inr (3, [.null, .int (nI 0)])), (q_10, .inl (cI g, 336, .inl (fun _ => 0)))] H := hP
  have hD : va_D A [(a, .inr (3, [.null, .int (nI 0)])), (q_10, .inl (cI g, 336, .inl (fun _ => 0)))] := hD
  refine W.widen (k := 1) (n := 336) (Nat.le_of_ble_eq_true rfl) (Nat.le_of_ble_eq_true rfl) ?_
  refine va_putF (D := g.2.1) (ci := 3) (v := .ref q_10) (ty := (.array .int)) (C := R_X3) (T := T_X3) (N := 2) hx hb ht i_X3 t_X3 tok_X3 n_X3 hown hK hP hD hS 0 rfl rfl 0 (by decide) (ht _ w_42) (fun _ h9 => h9) rfl hin rfl (by decide +kernel) rfl rfl (Nat.le_of_ble_eq_true rfl) d_X3_init_12 (fun H locs hP hD hS => ?_)
  have hP : va_P g.2.1 cls7 [(a, .inr (3, [.ref q_10, .int (nI 0)])), (q_10, .inl (cI g, 336, .inl (fun _ => 0)))] H := hP
  have hD : va_D A [(a, .inr (3, [.ref q_10, .int (nI 0)])), (q_10, .inl (cI g, 336, .inl (fun _ => 0)))] := hD
  refine lv_aload_n hx hb d_X3_init_15 rfl (lv_at hl 0 rfl) ?_
  refine lv_iconst (v := (nI 0)) hx hb d_X3_init_16 (by decide) ?_
  refine va_put (D := g.2.1) (ci := 3) (v := .int (nI 0)) (ty := .int) (C := R_X3) (T := T_X3) (N := 2) hx hb ht i_X3 t_X3 tok_X3 n_X3 hown hK hP hD hS 0 rfl rfl 1 (by decide) (ht _ w_44) (fun _ h9 => h9) rfl (by decide +kernel) rfl rfl (Nat.le_of_ble_eq_true rfl) d_X3_init_17 (fun H locs hP hD hS => ?_)
  have hP : va_P g.2.1 cls7 [(a, .inr (3, [.ref q_10, .int (nI 0)])), (q_10, .inl (cI g, 336, .inl (fun _ => 0)))] H := hP
  have hD : va_D A [(a, .inr (3, [.ref q_10, .int (nI 0)])), (q_10, .inl (cI g, 336, .inl (fun _ => 0)))] := hD
  exact g_vret hx hb hr hlocks hP hD hS q_10 (g_perm 2 [0, 1] rfl rfl (by decide +kernel)) rfl (Nat.le_of_ble_eq_true rfl) (Nat.le_of_ble_eq_true rfl) d_X3_init_20

set_option maxHeartbeats 4000000 in
set_option maxRecDepth 100000 in
theorem c_X3_init_340 (g : GG) (a : Nat)  : Cg g y_X3_init b_X3_init 2 none ({ frames := 1, cells := 1, slots := 340, locals := 21 } : Room) [.ref a, .int (nI 340)] [(a, .inr (3, [.null, .int (nI 0)]))] (S := Nat) (fun (v : Option Value) (u : Nat) => v = none) (fun (u : Nat) => [(a, .inr (3, [.ref u, .int (nI 0)])), (u, .inl (cI g, 340, .inl (fun _ => 0)))]) := by
  refine Ct_of (cc := b_X3_init) (maxL := 2) (ret := none) (by decide) rfl (Nat.le_of_ble_eq_true rfl) ?_
  intro p e s m below meth c A ls hx hb hr hml hown hts hlocks hin hA hP hK hD hXs hS hl
  have ht : ∀ w ∈ tb, w.before [.ref a, .int (nI 340)].toArray s = true := fun w h => hts w (List.mem_cons_of_mem _ h)
  have hown : s.vm.findClass R_X3 = some m.cls := hown
  have hl : lv_has ls 2 [(0, .ref a), (1, .int (nI 340))] := hl
  refine lv_aload_n hx hb d_X3_init_0 rfl (lv_at hl 0 rfl) ?_
  refine W.objInit hx hb hown (ht _ w_38) (ht _ w_25) (ht _ k_JO_init) rfl (by rw [hml]; exact hl.1) rfl d_X3_init_1 (Nat.le_of_ble_eq_true rfl) (Nat.le_of_ble_eq_true rfl) ?_
  refine W.eq (g2 := F0 m 4 ls []) rfl ?_
  refine lv_aload_n hx hb d_X3_init_4 rfl (lv_at hl 0 rfl) ?_
  refine lv_iload_n hx hb d_X3_init_5 rfl (lv_at hl 1 rfl) ?_
  refine lv_iconst (v := (nI 0)) hx hb d_X3_init_6 (by decide) ?_
  refine g_callS (As := [.int (nI 340), .int (nI 0)]) (rest := [.ref a]) (wr := [(a, .inr (3, [.null, .int (nI 0)]))]) (XSok g) ⟨hx, hb, hml, hown, ht⟩ hK hA hXs hl.1 hP hD hS (c_JM_max g 340 0 (by omega) (by omega)) (g_perm 1 [0] rfl rfl (by decide +kernel)) (va_cwS 2 ht (tb_S2 w_39 w_40 w_4 k_JM_max) rfl rfl rfl (by decide +kernel) ⟨(Nat.le_of_ble_eq_true rfl), (Nat.le_of_ble_eq_true rfl)⟩) rfl rfl (Nat.le_of_ble_eq_true rfl) d_X3_init_7 ⟨(Nat.le_of_ble_eq_true rfl), (Nat.le_of_ble_eq_true rfl)⟩ (fun v u H locs hw hP hD hS => ?_)
  obtain rfl := hw
  have hP : va_P g.2.1 cls7 [(a, .inr (3, [.null, .int (nI 0)]))] H := hP
  have hD : va_D A [(a, .inr (3, [.null, .int (nI 0)]))] := hD
  refine W.eq (g2 := F0 m 10 ls [.int (nI (max 340 0)), .ref a]) rfl ?_
  refine W.eq (g2 := F0 m 10 ls [.int (nI 340), .ref a]) rfl ?_
  refine ln_newi (N := 340) hx hb (ht _ w_54) hK hP hD hS hA 0 rfl (by omega) (Nat.le_of_ble_eq_true rfl) (Nat.le_of_ble_eq_true rfl) d_X3_init_10 (fun q_10 H hP hD hS => ?_)
  have hP : va_P g.2.1 cls7 [(a, .inr (3, [.null, .int (nI 0)])), (q_10, .inl (cI g, 340, .inl (fun _ => 0)))] H := hP
  have hD : va_D A [(a, .inr (3, [.null, .int (nI 0)])), (q_10, .inl (cI g, 340, .inl (fun _ => 0)))] := hD
  refine W.widen (k := 1) (n := 340) (Nat.le_of_ble_eq_true rfl) (Nat.le_of_ble_eq_true rfl) ?_
  refine va_putF (D := g.2.1) (ci := 3) (v := .ref q_10) (ty := (.array .int)) (C := R_X3) (T := T_X3) (N := 2) hx hb ht i_X3 t_X3 tok_X3 n_X3 hown hK hP hD hS 0 rfl rfl 0 (by decide) (ht _ w_42) (fun _ h9 => h9) rfl hin rfl (by decide +kernel) rfl rfl (Nat.le_of_ble_eq_true rfl) d_X3_init_12 (fun H locs hP hD hS => ?_)
  have hP : va_P g.2.1 cls7 [(a, .inr (3, [.ref q_10, .int (nI 0)])), (q_10, .inl (cI g, 340, .inl (fun _ => 0)))] H := hP
  have hD : va_D A [(a, .inr (3, [.ref q_10, .int (nI 0)])), (q_10, .inl (cI g, 340, .inl (fun _ => 0)))] := hD
  refine lv_aload_n hx hb d_X3_init_15 rfl (lv_at hl 0 rfl) ?_
  refine lv_iconst (v := (nI 0)) hx hb d_X3_init_16 (by decide) ?_
  refine va_put (D := g.2.1) (ci := 3) (v := .int (nI 0)) (ty := .int) (C := R_X3) (T := T_X3) (N := 2) hx hb ht i_X3 t_X3 tok_X3 n_X3 hown hK hP hD hS 0 rfl rfl 1 (by decide) (ht _ w_44) (fun _ h9 => h9) rfl (by decide +kernel) rfl rfl (Nat.le_of_ble_eq_true rfl) d_X3_init_17 (fun H locs hP hD hS => ?_)
  have hP : va_P g.2.1 cls7 [(a, .inr (3, [.ref q_10, .int (nI 0)])), (q_10, .inl (cI g, 340, .inl (fun _ => 0)))] H := hP
  have hD : va_D A [(a, .inr (3, [.ref q_10, .int (nI 0)])), (q_10, .inl (cI g, 340, .inl (fun _ => 0)))] := hD
  exact g_vret hx hb hr hlocks hP hD hS q_10 (g_perm 2 [0, 1] rfl rfl (by decide +kernel)) rfl (Nat.le_of_ble_eq_true rfl) (Nat.le_of_ble_eq_true rfl) d_X3_init_20

set_option maxHeartbeats 4000000 in
set_option maxRecDepth 100000 in
theorem c_X3_init_748 (g : GG) (a : Nat)  : Cg g y_X3_init b_X3_init 2 none ({ frames := 1, cells := 1, slots := 748, locals := 21 } : Room) [.ref a, .int (nI 748)] [(a, .inr (3, [.null, .int (nI 0)]))] (S := Nat) (fun (v : Option Value) (u : Nat) => v = none) (fun (u : Nat) => [(a, .inr (3, [.ref u, .int (nI 0)])), (u, .inl (cI g, 748, .inl (fun _ => 0)))]) := by
  refine Ct_of (cc := b_X3_init) (maxL := 2) (ret := none) (by decide) rfl (Nat.le_of_ble_eq_true rfl) ?_
  intro p e s m below meth c A ls hx hb hr hml hown hts hlocks hin hA hP hK hD hXs hS hl
  have ht : ∀ w ∈ tb, w.before [.ref a, .int (nI 748)].toArray s = true := fun w h => hts w (List.mem_cons_of_mem _ h)
  have hown : s.vm.findClass R_X3 = some m.cls := hown
  have hl : lv_has ls 2 [(0, .ref a), (1, .int (nI 748))] := hl
  refine lv_aload_n hx hb d_X3_init_0 rfl (lv_at hl 0 rfl) ?_
  refine W.objInit hx hb hown (ht _ w_38) (ht _ w_25) (ht _ k_JO_init) rfl (by rw [hml]; exact hl.1) rfl d_X3_init_1 (Nat.le_of_ble_eq_true rfl) (Nat.le_of_ble_eq_true rfl) ?_
  refine W.eq (g2 := F0 m 4 ls []) rfl ?_
  refine lv_aload_n hx hb d_X3_init_4 rfl (lv_at hl 0 rfl) ?_
  refine lv_iload_n hx hb d_X3_init_5 rfl (lv_at hl 1 rfl) ?_
  refine lv_iconst (v := (nI 0)) hx hb d_X3_init_6 (by decide) ?_
  refine g_callS (As := [.int (nI 748), .int (nI 0)]) (rest := [.ref a]) (wr := [(a, .inr (3, [.null, .int (nI 0)]))]) (XSok g) ⟨hx, hb, hml, hown, ht⟩ hK hA hXs hl.1 hP hD hS (c_JM_max g 748 0 (by omega) (by omega)) (g_perm 1 [0] rfl rfl (by decide +kernel)) (va_cwS 2 ht (tb_S2 w_39 w_40 w_4 k_JM_max) rfl rfl rfl (by decide +kernel) ⟨(Nat.le_of_ble_eq_true rfl), (Nat.le_of_ble_eq_true rfl)⟩) rfl rfl (Nat.le_of_ble_eq_true rfl) d_X3_init_7 ⟨(Nat.le_of_ble_eq_true rfl), (Nat.le_of_ble_eq_true rfl)⟩ (fun v u H locs hw hP hD hS => ?_)
  obtain rfl := hw
  have hP : va_P g.2.1 cls7 [(a, .inr (3, [.null, .int (nI 0)]))] H := hP
  have hD : va_D A [(a, .inr (3, [.null, .int (nI 0)]))] := hD
  refine W.eq (g2 := F0 m 10 ls [.int (nI (max 748 0)), .ref a]) rfl ?_
  refine W.eq (g2 := F0 m 10 ls [.int (nI 748), .ref a]) rfl ?_
  refine ln_newi (N := 748) hx hb (ht _ w_54) hK hP hD hS hA 0 rfl (by omega) (Nat.le_of_ble_eq_true rfl) (Nat.le_of_ble_eq_true rfl) d_X3_init_10 (fun q_10 H hP hD hS => ?_)
  have hP : va_P g.2.1 cls7 [(a, .inr (3, [.null, .int (nI 0)])), (q_10, .inl (cI g, 748, .inl (fun _ => 0)))] H := hP
  have hD : va_D A [(a, .inr (3, [.null, .int (nI 0)])), (q_10, .inl (cI g, 748, .inl (fun _ => 0)))] := hD
  refine W.widen (k := 1) (n := 748) (Nat.le_of_ble_eq_true rfl) (Nat.le_of_ble_eq_true rfl) ?_
  refine va_putF (D := g.2.1) (ci := 3) (v := .ref q_10) (ty := (.array .int)) (C := R_X3) (T := T_X3) (N := 2) hx hb ht i_X3 t_X3 tok_X3 n_X3 hown hK hP hD hS 0 rfl rfl 0 (by decide) (ht _ w_42) (fun _ h9 => h9) rfl hin rfl (by decide +kernel) rfl rfl (Nat.le_of_ble_eq_true rfl) d_X3_init_12 (fun H locs hP hD hS => ?_)
  have hP : va_P g.2.1 cls7 [(a, .inr (3, [.ref q_10, .int (nI 0)])), (q_10, .inl (cI g, 748, .inl (fun _ => 0)))] H := hP
  have hD : va_D A [(a, .inr (3, [.ref q_10, .int (nI 0)])), (q_10, .inl (cI g, 748, .inl (fun _ => 0)))] := hD
  refine lv_aload_n hx hb d_X3_init_15 rfl (lv_at hl 0 rfl) ?_
  refine lv_iconst (v := (nI 0)) hx hb d_X3_init_16 (by decide) ?_
  refine va_put (D := g.2.1) (ci := 3) (v := .int (nI 0)) (ty := .int) (C := R_X3) (T := T_X3) (N := 2) hx hb ht i_X3 t_X3 tok_X3 n_X3 hown hK hP hD hS 0 rfl rfl 1 (by decide) (ht _ w_44) (fun _ h9 => h9) rfl (by decide +kernel) rfl rfl (Nat.le_of_ble_eq_true rfl) d_X3_init_17 (fun H locs hP hD hS => ?_)
  have hP : va_P g.2.1 cls7 [(a, .inr (3, [.ref q_10, .int (nI 0)])), (q_10, .inl (cI g, 748, .inl (fun _ => 0)))] H := hP
  have hD : va_D A [(a, .inr (3, [.ref q_10, .int (nI 0)])), (q_10, .inl (cI g, 748, .inl (fun _ => 0)))] := hD
  exact g_vret hx hb hr hlocks hP hD hS q_10 (g_perm 2 [0, 1] rfl rfl (by decide +kernel)) rfl (Nat.le_of_ble_eq_true rfl) (Nat.le_of_ble_eq_true rfl) d_X3_init_20

set_option maxHeartbeats 4000000 in
set_option maxRecDepth 100000 in
theorem c_X3_init_768 (g : GG) (a : Nat)  : Cg g y_X3_init b_X3_init 2 none ({ frames := 1, cells := 1, slots := 768, locals := 21 } : Room) [.ref a, .int (nI 768)] [(a, .inr (3, [.null, .int (nI 0)]))] (S := Nat) (fun (v : Option Value) (u : Nat) => v = none) (fun (u : Nat) => [(a, .inr (3, [.ref u, .int (nI 0)])), (u, .inl (cI g, 768, .inl (fun _ => 0)))]) := by
  refine Ct_of (cc := b_X3_init) (maxL := 2) (ret := none) (by decide) rfl (Nat.le_of_ble_eq_true rfl) ?_
  intro p e s m below meth c A ls hx hb hr hml hown hts hlocks hin hA hP hK hD hXs hS hl
  have ht : ∀ w ∈ tb, w.before [.ref a, .int (nI 768)].toArray s = true := fun w h => hts w (List.mem_cons_of_mem _ h)
  have hown : s.vm.findClass R_X3 = some m.cls := hown
  have hl : lv_has ls 2 [(0, .ref a), (1, .int (nI 768))] := hl
  refine lv_aload_n hx hb d_X3_init_0 rfl (lv_at hl 0 rfl) ?_
  refine W.objInit hx hb hown (ht _ w_38) (ht _ w_25) (ht _ k_JO_init) rfl (by rw [hml]; exact hl.1) rfl d_X3_init_1 (Nat.le_of_ble_eq_true rfl) (Nat.le_of_ble_eq_true rfl) ?_
  refine W.eq (g2 := F0 m 4 ls []) rfl ?_
  refine lv_aload_n hx hb d_X3_init_4 rfl (lv_at hl 0 rfl) ?_
  refine lv_iload_n hx hb d_X3_init_5 rfl (lv_at hl 1 rfl) ?_
  refine lv_iconst (v := (nI 0)) hx hb d_X3_init_6 (by decide) ?_
  refine g_callS (As := [.int (nI 768), .int (nI 0)]) (rest := [.ref a]) (wr := [(a, .inr (3, [.null, .int (nI 0)]))]) (XSok g) ⟨hx, hb, hml, hown, ht⟩ hK hA hXs hl.1 hP hD hS (c_JM_max g 768 0 (by omega) (by omega)) (g_perm 1 [0] rfl rfl (by decide +kernel)) (va_cwS 2 ht (tb_S2 w_39 w_40 w_4 k_JM_max) rfl rfl rfl (by decide +kernel) ⟨(Nat.le_of_ble_eq_true rfl), (Nat.le_of_ble_eq_true rfl)⟩) rfl rfl (Nat.le_of_ble_eq_true rfl) d_X3_init_7 ⟨(Nat.le_of_ble_eq_true rfl), (Nat.le_of_ble_eq_true rfl)⟩ (fun v u H locs hw hP hD hS => ?_)
  obtain rfl := hw
  have hP : va_P g.2.1 cls7 [(a, .inr (3, [.null, .int (nI 0)]))] H := hP
  have hD : va_D A [(a, .inr (3, [.null, .int (nI 0)]))] := hD
  refine W.eq (g2 := F0 m 10 ls [.int (nI (max 768 0)), .ref a]) rfl ?_
  refine W.eq (g2 := F0 m 10 ls [.int (nI 768), .ref a]) rfl ?_
  refine ln_newi (N := 768) hx hb (ht _ w_54) hK hP hD hS hA 0 rfl (by omega) (Nat.le_of_ble_eq_true rfl) (Nat.le_of_ble_eq_true rfl) d_X3_init_10 (fun q_10 H hP hD hS => ?_)
  have hP : va_P g.2.1 cls7 [(a, .inr (3, [.null, .int (nI 0)])), (q_10, .inl (cI g, 768, .inl (fun _ => 0)))] H := hP
  have hD : va_D A [(a, .inr (3, [.null, .int (nI 0)])), (q_10, .inl (cI g, 768, .inl (fun _ => 0)))] := hD
  refine W.widen (k := 1) (n := 768) (Nat.le_of_ble_eq_true rfl) (Nat.le_of_ble_eq_true rfl) ?_
  refine va_putF (D := g.2.1) (ci := 3) (v := .ref q_10) (ty := (.array .int)) (C := R_X3) (T := T_X3) (N := 2) hx hb ht i_X3 t_X3 tok_X3 n_X3 hown hK hP hD hS 0 rfl rfl 0 (by decide) (ht _ w_42) (fun _ h9 => h9) rfl hin rfl (by decide +kernel) rfl rfl (Nat.le_of_ble_eq_true rfl) d_X3_init_12 (fun H locs hP hD hS => ?_)
  have hP : va_P g.2.1 cls7 [(a, .inr (3, [.ref q_10, .int (nI 0)])), (q_10, .inl (cI g, 768, .inl (fun _ => 0)))] H := hP
  have hD : va_D A [(a, .inr (3, [.ref q_10, .int (nI 0)])), (q_10, .inl (cI g, 768, .inl (fun _ => 0)))] := hD
  refine lv_aload_n hx hb d_X3_init_15 rfl (lv_at hl 0 rfl) ?_
  refine lv_iconst (v := (nI 0)) hx hb d_X3_init_16 (by decide) ?_
  refine va_put (D := g.2.1) (ci := 3) (v := .int (nI 0)) (ty := .int) (C := R_X3) (T := T_X3) (N := 2) hx hb ht i_X3 t_X3 tok_X3 n_X3 hown hK hP hD hS 0 rfl rfl 1 (by decide) (ht _ w_44) (fun _ h9 => h9) rfl (by decide +kernel) rfl rfl (Nat.le_of_ble_eq_true rfl) d_X3_init_17 (fun H locs hP hD hS => ?_)
  have hP : va_P g.2.1 cls7 [(a, .inr (3, [.ref q_10, .int (nI 0)])), (q_10, .inl (cI g, 768, .inl (fun _ => 0)))] H := hP
  have hD : va_D A [(a, .inr (3, [.ref q_10, .int (nI 0)])), (q_10, .inl (cI g, 768, .inl (fun _ => 0)))] := hD
  exact g_vret hx hb hr hlocks hP hD hS q_10 (g_perm 2 [0, 1] rfl rfl (by decide +kernel)) rfl (Nat.le_of_ble_eq_true rfl) (Nat.le_of_ble_eq_true rfl) d_X3_init_20

set_option maxHeartbeats 4000000 in
set_option maxRecDepth 100000 in
theorem c_X3_init_2048 (g : GG) (a : Nat)  : Cg g y_X3_init b_X3_init 2 none ({ frames := 1, cells := 1, slots := 2048, locals := 21 } : Room) [.ref a, .int (nI 2048)] [(a, .inr (3, [.null, .int (nI 0)]))] (S := Nat) (fun (v : Option Value) (u : Nat) => v = none) (fun (u : Nat) => [(a, .inr (3, [.ref u, .int (nI 0)])), (u, .inl (cI g, 2048, .inl (fun _ => 0)))]) := by
  refine Ct_of (cc := b_X3_init) (maxL := 2) (ret := none) (by decide) rfl (Nat.le_of_ble_eq_true rfl) ?_
  intro p e s m below meth c A ls hx hb hr hml hown hts hlocks hin hA hP hK hD hXs hS hl
  have ht : ∀ w ∈ tb, w.before [.ref a, .int (nI 2048)].toArray s = true := fun w h => hts w (List.mem_cons_of_mem _ h)
  have hown : s.vm.findClass R_X3 = some m.cls := hown
  have hl : lv_has ls 2 [(0, .ref a), (1, .int (nI 2048))] := hl
  refine lv_aload_n hx hb d_X3_init_0 rfl (lv_at hl 0 rfl) ?_
  refine W.objInit hx hb hown (ht _ w_38) (ht _ w_25) (ht _ k_JO_init) rfl (by rw [hml]; exact hl.1) rfl d_X3_init_1 (Nat.le_of_ble_eq_true rfl) (Nat.le_of_ble_eq_true rfl) ?_
  refine W.eq (g2 := F0 m 4 ls []) rfl ?_
  refine lv_aload_n hx hb d_X3_init_4 rfl (lv_at hl 0 rfl) ?_
  refine lv_iload_n hx hb d_X3_init_5 rfl (lv_at hl 1 rfl) ?_
  refine lv_iconst (v := (nI 0)) hx hb d_X3_init_6 (by decide) ?_
  refine g_callS (As := [.int (nI 2048), .int (nI 0)]) (rest := [.ref a]) (wr := [(a, .inr (3, [.null, .int (nI 0)]))]) (XSok g) ⟨hx, hb, hml, hown, ht⟩ hK hA hXs hl.1 hP hD hS (c_JM_max g 2048 0 (by omega) (by omega)) (g_perm 1 [0] rfl rfl (by decide +kernel)) (va_cwS 2 ht (tb_S2 w_39 w_40 w_4 k_JM_max) rfl rfl rfl (by decide +kernel) ⟨(Nat.le_of_ble_eq_true rfl), (Nat.le_of_ble_eq_true rfl)⟩) rfl rfl (Nat.le_of_ble_eq_true rfl) d_X3_init_7 ⟨(Nat.le_of_ble_eq_true rfl), (Nat.le_of_ble_eq_true rfl)⟩ (fun v u H locs hw hP hD hS => ?_)
  obtain rfl := hw
  have hP : va_P g.2.1 cls7 [(a, .inr (3, [.null, .int (nI 0)]))] H := hP
  have hD : va_D A [(a, .inr (3, [.null, .int (nI 0)]))] := hD
  refine W.eq (g2 := F0 m 10 ls [.int (nI (max 2048 0)), .ref a]) rfl ?_
  refine W.eq (g2 := F0 m 10 ls [.int (nI 2048), .ref a]) rfl ?_
  refine ln_newi (N := 2048) hx hb (ht _ w_54) hK hP hD hS hA 0 rfl (by omega) (Nat.le_of_ble_eq_true rfl) (Nat.le_of_ble_eq_true rfl) d_X3_init_10 (fun q_10 H hP hD hS => ?_)
  have hP : va_P g.2.1 cls7 [(a, .inr (3, [.null, .int (nI 0)])), (q_10, .inl (cI g, 2048, .inl (fun _ => 0)))] H := hP
  have hD : va_D A [(a, .inr (3, [.null, .int (nI 0)])), (q_10, .inl (cI g, 2048, .inl (fun _ => 0)))] := hD
  refine W.widen (k := 1) (n := 2048) (Nat.le_of_ble_eq_true rfl) (Nat.le_of_ble_eq_true rfl) ?_
  refine va_putF (D := g.2.1) (ci := 3) (v := .ref q_10) (ty := (.array .int)) (C := R_X3) (T := T_X3) (N := 2) hx hb ht i_X3 t_X3 tok_X3 n_X3 hown hK hP hD hS 0 rfl rfl 0 (by decide) (ht _ w_42) (fun _ h9 => h9) rfl hin rfl (by decide +kernel) rfl rfl (Nat.le_of_ble_eq_true rfl) d_X3_init_12 (fun H locs hP hD hS => ?_)
  have hP : va_P g.2.1 cls7 [(a, .inr (3, [.ref q_10, .int (nI 0)])), (q_10, .inl (cI g, 2048, .inl (fun _ => 0)))] H := hP
  have hD : va_D A [(a, .inr (3, [.ref q_10, .int (nI 0)])), (q_10, .inl (cI g, 2048, .inl (fun _ => 0)))] := hD
  refine lv_aload_n hx hb d_X3_init_15 rfl (lv_at hl 0 rfl) ?_
  refine lv_iconst (v := (nI 0)) hx hb d_X3_init_16 (by decide) ?_
  refine va_put (D := g.2.1) (ci := 3) (v := .int (nI 0)) (ty := .int) (C := R_X3) (T := T_X3) (N := 2) hx hb ht i_X3 t_X3 tok_X3 n_X3 hown hK hP hD hS 0 rfl rfl 1 (by decide) (ht _ w_44) (fun _ h9 => h9) rfl (by decide +kernel) rfl rfl (Nat.le_of_ble_eq_true rfl) d_X3_init_17 (fun H locs hP hD hS => ?_)
  have hP : va_P g.2.1 cls7 [(a, .inr (3, [.ref q_10, .int (nI 0)])), (q_10, .inl (cI g, 2048, .inl (fun _ => 0)))] H := hP
  have hD : va_D A [(a, .inr (3, [.ref q_10, .int (nI 0)])), (q_10, .inl (cI g, 2048, .inl (fun _ => 0)))] := hD
  exact g_vret hx hb hr hlocks hP hD hS q_10 (g_perm 2 [0, 1] rfl rfl (by decide +kernel)) rfl (Nat.le_of_ble_eq_true rfl) (Nat.le_of_ble_eq_true rfl) d_X3_init_20

set_option maxHeartbeats 4000000 in
set_option maxRecDepth 100000 in
theorem c_X3_isSameFrom (g : GG) (a : Nat) (q : Nat) (n : Nat) (f : Nat → Int32) (z : Nat) (a2 : Nat) (q2 : Nat) (n2 : Nat) (f2 : Nat → Int32) (z2 : Nat) (k0 : Nat) (hz : z ≤ n) (hn : n < 2 ^ 30) (hz2 : z2 ≤ n2) (hn2 : n2 < 2 ^ 30) (hk0 : k0 ≤ z) : Cg g y_X3_isSameFrom b_X3_isSameFrom 4 (some .boolean) ({ frames := 1, cells := 0, slots := 0, locals := 21 } : Room) [.ref a, .int (nI k0), .ref a2] [(a, .inr (3, [.ref q, .int (nI z)])), (q, .inl (cI g, n, .inl f)), (a2, .inr (3, [.ref q2, .int (nI z2)])), (q2, .inl (cI g, n2, .inl f2))] (S := Unit) (fun (v : Option Value) (_ : Unit) => v = some (.int (if z - k0 = z2 ∧ ∀ i, i < z2 → f (k0 + i) = f2 i then 1 else 0))) (fun (_ : Unit) => [(a, .inr (3, [.ref q, .int (nI z)])), (q, .inl (cI g, n, .inl f)), (a2, .inr (3, [.ref q2, .int (nI z2)])), (q2, .inl (cI g, n2, .inl f2))]) := by
  refine Ct_of (cc := b_X3_isSameFrom) (maxL := 4) (ret := (some .boolean)) (by decide) rfl (Nat.le_of_ble_eq_true rfl) ?_
  intro p e s m below meth c A ls hx hb hr hml hown hts hlocks hin hA hP hK hD hXs hS hl
  have ht : ∀ w ∈ tb, w.before [.ref a, .int (nI k0), .ref a2].toArray s = true := fun w h => hts w (List.mem_cons_of_mem _ h)
  have hown : s.vm.findClass R_X3 = some m.cls := hown
  have hl : lv_has ls 4 [(0, .ref a), (1, .int (nI k0)), (2, .ref a2)] := hl
  refine lv_aload_n hx hb d_X3_isSameFrom_0 rfl (lv_at hl 0 rfl) ?_
  refine va_get (D := g.2.1) (ci := 3) (v := .int (nI z)) (C := R_X3) (T := T_X3) (N := 2) hx hb ht i_X3 hown hK hP 0 rfl rfl 1 (by decide) (ht _ w_44) (fun _ h9 => h9) rfl d_X3_isSameFrom_1 ?_
  refine lv_iload_n hx hb d_X3_isSameFrom_4 rfl (lv_at hl 1 rfl) ?_
  refine ln_isub hx hb d_X3_isSameFrom_5 (by omega) ?_
  refine lv_aload_n hx hb d_X3_isSameFrom_6 rfl (lv_at hl 2 rfl) ?_
  refine va_get (D := g.2.1) (ci := 3) (v := .int (nI z2)) (C := R_X3) (T := T_X3) (N := 2) hx hb ht i_X3 hown hK hP 2 rfl rfl 1 (by decide) (ht _ w_44) (fun _ h9 => h9) rfl d_X3_isSameFrom_7 ?_
  refine ln_icmp_eq (tgt := 15) hx hb d_X3_isSameFrom_10 (by decide) (by omega) (by omega) (fun c_1 => ?_) (fun c_1 => ?_)
  · have hzz : z - k0 = z2 := c_1
    refine lv_iconst (v := (nI 0)) hx hb d_X3_isSameFrom_15 (by decide) ?_
    refine lv_istore_n (lv' := [(3, .int (nI 0)), (0, .ref a), (1, .int (nI k0)), (2, .ref a2)]) hx hb d_X3_isSameFrom_16 rfl hl (by decide) rfl (fun ls hl => ?_)
    have loop : ∀ (k : Nat) (i : Nat) (hk : i + k = z2) (hall : ∀ t, t < i → f (k0 + t) = f2 t) (H : Heap) (locs : List Loc) (hP : va_P g.2.1 cls7 [(a, .inr (3, [.ref q, .int (nI z)])), (q, .inl (cI g, n, .inl f)), (a2, .inr (3, [.ref q2, .int (nI z2)])), (q2, .inl (cI g, n2, .inl f2))] H) (hD : va_D A [(a, .inr (3, [.ref q, .int (nI z)])), (q, .inl (cI g, n, .inl f)), (a2, .inr (3, [.ref q2, .int (nI z2)])), (q2, .inl (cI g, n2, .inl f2))]) (hS : va_S A s.heap H locs) (ls : Array Slot) (hl : lv_has ls 4 [(3, .int (nI i)), (0, .ref a), (1, .int (nI k0)), (2, .ref a2)]), W p g.1 e ({ frames := 1, cells := 0, slots := 0, locals := 21 } : Room) s m [.ref a, .int (nI k0), .ref a2].toArray below meth c H locs 0 0 (MQ below (gQ g.2.1 cls7 (S := Unit) (fun (v : Option Value) (_ : Unit) => v = some (.int (if z - k0 = z2 ∧ ∀ i, i < z2 → f (k0 + i) = f2 i then 1 else 0))) (fun (_ : Unit) => [(a, .inr (3, [.ref q, .int (nI z)])), (q, .inl (cI g, n, .inl f)), (a2, .inr (3, [.ref q2, .int (nI z2)])), (q2, .inl (cI g, n2, .inl f2))]) A) [.ref a, .int (nI k0), .ref a2].toArray s ({ frames := 1, cells := 0, slots := 0, locals := 21 } : Room).cells ({ frames := 1, cells := 0, slots := 0, locals := 21 } : Room).slots A) (F0 m 17 ls []) := by
      intro k
      induction k with
      | zero =>
        intro i hk hall H locs hP hD hS ls hl
        refine lv_iload_n hx hb d_X3_isSameFrom_17 rfl (lv_at hl 0 rfl) ?_
        refine lv_aload_n hx hb d_X3_isSameFrom_18 rfl (lv_at hl 3 rfl) ?_
        refine va_get (D := g.2.1) (ci := 3) (v := .int (nI z2)) (C := R_X3) (T := T_X3) (N := 2) hx hb ht i_X3 hown hK hP 2 rfl rfl 1 (by decide) (ht _ w_44) (fun _ h9 => h9) rfl d_X3_isSameFrom_19 ?_
        refine ln_icmp_ge_t (tgt := 48) hx hb d_X3_isSameFrom_22 (by decide) (by omega) (by omega) (by omega) ?_
        refine lv_iconst (v := (nI 1)) hx hb d_X3_isSameFrom_48 (by decide) ?_
        have e0 : ((nI 1) : Int32) = (if z - k0 = z2 ∧ ∀ i, i < z2 → f (k0 + i) = f2 i then 1 else 0) := (if_pos ⟨hzz, fun t ht => hall t (by omega)⟩).symm
        exact g_zret (v := (nI 1)) hx hb hr hlocks hP hD hS () (List.Perm.refl _) (by decide) (congrArg (fun t => some (Value.int t)) e0) (Nat.le_of_ble_eq_true rfl) (Nat.le_of_ble_eq_true rfl) d_X3_isSameFrom_49
      | succ k ih =>
        intro i hk hall H locs hP hD hS ls hl
        refine lv_iload_n hx hb d_X3_isSameFrom_17 rfl (lv_at hl 0 rfl) ?_
        refine lv_aload_n hx hb d_X3_isSameFrom_18 rfl (lv_at hl 3 rfl) ?_
        refine va_get (D := g.2.1) (ci := 3) (v := .int (nI z2)) (C := R_X3) (T := T_X3) (N := 2) hx hb ht i_X3 hown hK hP 2 rfl rfl 1 (by decide) (ht _ w_44) (fun _ h9 => h9) rfl d_X3_isSameFrom_19 ?_
        refine ln_icmp_ge_f (tgt := 48) hx hb d_X3_isSameFrom_22 (by decide) (by omega) (by omega) (by omega) ?_
        refine lv_aload_n hx hb d_X3_isSameFrom_25 rfl (lv_at hl 1 rfl) ?_
        refine lv_iload_n hx hb d_X3_isSameFrom_26 rfl (lv_at hl 2 rfl) ?_
        refine lv_iload_n hx hb d_X3_isSameFrom_27 rfl (lv_at hl 0 rfl) ?_
        refine ln_iadd hx hb d_X3_isSameFrom_28 ?_
        refine g_callV (As := [.int (nI (k0 + i))]) (rest := []) (wr := [(a2, .inr (3, [.ref q2, .int (nI z2)])), (q2, .inl (cI g, n2, .inl f2))]) (q0 := 0) (ci := 3) (XSok g) ⟨hx, hb, hml, hown, ht⟩ hK hA hXs hl.1 hP hD hS (c_X3_at g a q n f z (k0 + i) (by omega) (by omega) (by omega)) (g_perm 4 [0, 1, 2, 3] rfl rfl (by decide +kernel)) rfl rfl (cwV 1 ht (tb_V w_565 w_355 w_356 w_3 k_X3_at) rfl rfl rfl (by decide +kernel) ⟨(Nat.le_of_ble_eq_true rfl), (Nat.le_of_ble_eq_true rfl)⟩) rfl rfl (Nat.le_of_ble_eq_true rfl) d_X3_isSameFrom_29 ⟨(Nat.le_of_ble_eq_true rfl), (Nat.le_of_ble_eq_true rfl)⟩ (fun v u H locs hw hP hD hS => ?_)
        obtain rfl := hw
        have hP : va_P g.2.1 cls7 [(a2, .inr (3, [.ref q2, .int (nI z2)])), (q2, .inl (cI g, n2, .inl f2)), (a, .inr (3, [.ref q, .int (nI z)])), (q, .inl (cI g, n, .inl f))] H := hP
        have hD : va_D A [(a2, .inr (3, [.ref q2, .int (nI z2)])), (q2, .inl (cI g, n2, .inl f2)), (a, .inr (3, [.ref q, .int (nI z)])), (q, .inl (cI g, n, .inl f))] := hD
        refine W.eq (g2 := F0 m 32 ls [.int (if (k0 + i) < z then f (k0 + i) else 0)]) rfl ?_
        rw [if_pos (show k0 + i < z by omega)]
        refine lv_aload_n hx hb d_X3_isSameFrom_32 rfl (lv_at hl 3 rfl) ?_
        refine lv_iload_n hx hb d_X3_isSameFrom_33 rfl (lv_at hl 0 rfl) ?_
        refine g_callV (As := [.int (nI i)]) (rest := [.int (f (k0 + i))]) (wr := [(a, .inr (3, [.ref q, .int (nI z)])), (q, .inl (cI g, n, .inl f))]) (q0 := 0) (ci := 3) (XSok g) ⟨hx, hb, hml, hown, ht⟩ hK hA hXs hl.1 hP hD hS (c_X3_at g a2 q2 n2 f2 z2 i (by omega) (by omega) (by omega)) (g_perm 4 [0, 1, 2, 3] rfl rfl (by decide +kernel)) rfl rfl (cwV 1 ht (tb_V w_565 w_355 w_356 w_3 k_X3_at) rfl rfl rfl (by decide +kernel) ⟨(Nat.le_of_ble_eq_true rfl), (Nat.le_of_ble_eq_true rfl)⟩) rfl rfl (Nat.le_of_ble_eq_true rfl) d_X3_isSameFrom_34 ⟨(Nat.le_of_ble_eq_true rfl), (Nat.le_of_ble_eq_true rfl)⟩ (fun v u H locs hw hP hD hS => ?_)
        obtain rfl := hw
        have hP : va_P g.2.1 cls7 [(a, .inr (3, [.ref q, .int (nI z)])), (q, .inl (cI g, n, .inl f)), (a2, .inr (3, [.ref q2, .int (nI z2)])), (q2, .inl (cI g, n2, .inl f2))] H := hP
        have hD : va_D A [(a, .inr (3, [.ref q, .int (nI z)])), (q, .inl (cI g, n, .inl f)), (a2, .inr (3, [.ref q2, .int (nI z2)])), (q2, .inl (cI g, n2, .inl f2))] := hD
        refine W.eq (g2 := F0 m 37 ls [.int (if i < z2 then f2 i else 0), .int (f (k0 + i))]) rfl ?_
        rw [if_pos (show i < z2 by omega)]
        refine lv_icmp_eq (tgt := 42) hx hb d_X3_isSameFrom_37 (by decide) (fun c_2 => ?_) (fun c_2 => ?_)
        · have heq : f (k0 + i) = f2 i := c_2
          refine ln_iinc (d := 1) (lv' := [(3, .int (nI (i + 1))), (0, .ref a), (1, .int (nI k0)), (2, .ref a2)]) hx hb d_X3_isSameFrom_42 hl (k := 0) rfl rfl (by decide) rfl (fun ls hl => ?_)
          refine lv_goto (tgt := 17) hx hb d_X3_isSameFrom_45 (by decide) ?_
          exact ih (i + 1) (by omega) (lt_s hall heq) _ _ hP hD hS ls (lv_sub hl [0, 1, 2, 3] rfl)
        · have hne : ¬ f (k0 + i) = f2 i := c_2
          refine lv_iconst (v := (nI 0)) hx hb d_X3_isSameFrom_40 (by decide) ?_
          have e0 : ((nI 0) : Int32) = (if z - k0 = z2 ∧ ∀ i, i < z2 → f (k0 + i) = f2 i then 1 else 0) := (if_neg (fun h => hne (h.2 i (by omega)))).symm
          exact g_zret (v := (nI 0)) hx hb hr hlocks hP hD hS () (List.Perm.refl _) (by decide) (congrArg (fun t => some (Value.int t)) e0) (Nat.le_of_ble_eq_true rfl) (Nat.le_of_ble_eq_true rfl) d_X3_isSameFrom_41
    exact loop z2 0 (by omega) (fun t h => absurd h (Nat.not_lt_zero t)) _ _ hP hD hS ls (lv_sub hl [0, 1, 2, 3] rfl)
  · refine lv_iconst (v := (nI 0)) hx hb d_X3_isSameFrom_13 (by decide) ?_
    have e0 : ((nI 0) : Int32) = (if z - k0 = z2 ∧ ∀ i, i < z2 → f (k0 + i) = f2 i then 1 else 0) := (if_neg (fun h => absurd h.1 c_1)).symm
    exact g_zret (v := (nI 0)) hx hb hr hlocks hP hD hS () (List.Perm.refl _) (by decide) (congrArg (fun t => some (Value.int t)) e0) (Nat.le_of_ble_eq_true rfl) (Nat.le_of_ble_eq_true rfl) d_X3_isSameFrom_14
