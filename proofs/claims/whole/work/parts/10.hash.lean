set_option maxHeartbeats 1000000 in
set_option maxRecDepth 100000 in
theorem c_JM_floorMod (g : GG) (z : Nat) (hz : z < 768) : Cg g y_JM_floorMod b_JM_floorMod 3 (some .int) ({ frames := 0, cells := 0, slots := 0, locals := 0 } : Room) [.int (nI 55 - nI z), .int (nI 64)] [] (S := Unit) (fun (v : Option Value) (_ : Unit) => v = some (.int (nI (zeroN z)))) (fun (_ : Unit) => []) := by
  refine Ct_ofF (cc := b_JM_floorMod) (maxL := 3) (ret := (some .int)) (by decide +kernel) rfl (Nat.le_of_ble_eq_true rfl) ?_
  intro p e s m below meth c A ls hx hb hr hml hown hts hlocks hin hA hP hK hD hXs hS hl
  have ht : ∀ w ∈ tb, w.before [.int (nI 55 - nI z), .int (nI 64)].toArray s = true := fun w h => hts w (List.mem_cons_of_mem _ h)
  have hl : lv_has ls 3 [(0, .int (nI 55 - nI z)), (1, .int (nI 64))] := hl
  refine lv_iload_n hx hb d_JM_floorMod_0 rfl (lv_at hl 0 rfl) ?_
  refine lv_iload_n hx hb d_JM_floorMod_1 rfl (lv_at hl 1 rfl) ?_
  refine lv_irem hx hb d_JM_floorMod_2 (by decide) ?_
  refine lv_topi (fun x_1 ex_1 => ?_)
  refine lv_istore_n (lv' := [(2, .int x_1), (0, .int (nI 55 - nI z)), (1, .int (nI 64))]) hx hb d_JM_floorMod_3 rfl hl (by decide) rfl (fun ls hl => ?_)
  refine lv_iload_n hx hb d_JM_floorMod_4 rfl (lv_at hl 1 rfl) ?_
  refine lv_iload_n hx hb d_JM_floorMod_5 rfl (lv_at hl 2 rfl) ?_
  refine lv_ixor hx hb d_JM_floorMod_6 ?_
  refine lv_if_ge (tgt := 18) hx hb d_JM_floorMod_7 (by decide) (fun c_2 => ?_) (fun c_2 => ?_)
  · refine lv_iload_n hx hb d_JM_floorMod_18 rfl (lv_at hl 0 rfl) ?_
    have e0 : x_1 = nI (zeroN z) := by rw [ex_1]; exact fm_a z hz c_2
    exact g_iret (v := x_1) hx hb hr hlocks hP hD hS () (List.Perm.refl _) (congrArg (fun t => some (Value.int t)) e0) (Nat.le_of_ble_eq_true rfl) (Nat.le_of_ble_eq_true rfl) d_JM_floorMod_19
  · refine lv_iload_n hx hb d_JM_floorMod_10 rfl (lv_at hl 0 rfl) ?_
    refine lv_if_eq (tgt := 18) hx hb d_JM_floorMod_11 (by decide) (fun c_3 => ?_) (fun c_3 => ?_)
    · refine lv_iload_n hx hb d_JM_floorMod_18 rfl (lv_at hl 0 rfl) ?_
      have e0 : x_1 = nI (zeroN z) := by rw [ex_1]; exact fm_b z hz (by rw [← ex_1]; exact c_3)
      exact g_iret (v := x_1) hx hb hr hlocks hP hD hS () (List.Perm.refl _) (congrArg (fun t => some (Value.int t)) e0) (Nat.le_of_ble_eq_true rfl) (Nat.le_of_ble_eq_true rfl) d_JM_floorMod_19
    · refine lv_iload_n hx hb d_JM_floorMod_14 rfl (lv_at hl 0 rfl) ?_
      refine lv_iload_n hx hb d_JM_floorMod_15 rfl (lv_at hl 2 rfl) ?_
      refine lv_iadd hx hb d_JM_floorMod_16 ?_
      have e0 : (x_1 + (nI 64)) = nI (zeroN z) := by rw [ex_1]; exact fm_c z hz c_2 (by rw [← ex_1]; exact c_3)
      exact g_iret (v := (x_1 + (nI 64))) hx hb hr hlocks hP hD hS () (List.Perm.refl _) (congrArg (fun t => some (Value.int t)) e0) (Nat.le_of_ble_eq_true rfl) (Nat.le_of_ble_eq_true rfl) d_JM_floorMod_17

set_option maxHeartbeats 1000000 in
set_option maxRecDepth 100000 in
theorem c_X0_startSums (g : GG) (h : Nat) (nc : Nat) (fk : Nat) (ta : Nat) (ia : Nat) (qw : Nat) (qs : Nat) (fs : Nat → Int32)  : Cg g y_X0_startSums b_X0_startSums 2 none ({ frames := 0, cells := 0, slots := 0, locals := 0 } : Room) [.ref h] [(h, .inr (0, [.ref nc, .ref fk, .ref ta, .ref ia, .ref qw, .ref qs])), (qs, .inl (cI g, 8, .inl fs))] (S := Nat → Int32) (fun (v : Option Value) (u : Nat → Int32) => v = none ∧ (∀ i, i < 8 → u i = rootsL.getD i 0)) (fun (u : Nat → Int32) => [(h, .inr (0, [.ref nc, .ref fk, .ref ta, .ref ia, .ref qw, .ref qs])), (qs, .inl (cI g, 8, .inl u))]) := by
  refine Ct_of (cc := b_X0_startSums) (maxL := 2) (ret := none) (by decide) rfl (Nat.le_of_ble_eq_true rfl) ?_
  intro p e s m below meth c A ls hx hb hr hml hown hts hlocks hin hA hP hK hD hXs hS hl
  have ht : ∀ w ∈ tb, w.before [.ref h].toArray s = true := fun w h => hts w (List.mem_cons_of_mem _ h)
  have hown : s.vm.findClass R_X0 = some m.cls := hown
  have hl : lv_has ls 2 [(0, .ref h)] := hl
  obtain ⟨tR, hZR, hTR⟩ := hXs.2.1
  refine lv_iconst (v := (nI 0)) hx hb d_X0_startSums_0 (by decide) ?_
  refine lv_istore_n (lv' := [(1, .int (nI 0)), (0, .ref h)]) hx hb d_X0_startSums_1 rfl hl (by decide) rfl (fun ls hl => ?_)
  have loop : ∀ (k : Nat) (t : Nat) (fy : Nat → Int32) (hk : t + k = 8) (hf : ∀ i, i < t → fy i = rootsL.getD i 0) (H : Heap) (locs : List Loc) (hP : va_P g.2.1 cls7 [(h, .inr (0, [.ref nc, .ref fk, .ref ta, .ref ia, .ref qw, .ref qs])), (qs, .inl (cI g, 8, .inl fy))] H) (hD : va_D A [(h, .inr (0, [.ref nc, .ref fk, .ref ta, .ref ia, .ref qw, .ref qs])), (qs, .inl (cI g, 8, .inl fy))]) (hS : va_S A s.heap H locs) (ls : Array Slot) (hl : lv_has ls 2 [(1, .int (nI t)), (0, .ref h)]), W p g.1 e ({ frames := 0, cells := 0, slots := 0, locals := 0 } : Room) s m [.ref h].toArray below meth c H locs 0 0 (MQ below (gQ g.2.1 cls7 (S := Nat → Int32) (fun (v : Option Value) (u : Nat → Int32) => v = none ∧ (∀ i, i < 8 → u i = rootsL.getD i 0)) (fun (u : Nat → Int32) => [(h, .inr (0, [.ref nc, .ref fk, .ref ta, .ref ia, .ref qw, .ref qs])), (qs, .inl (cI g, 8, .inl u))]) A) [.ref h].toArray s ({ frames := 0, cells := 0, slots := 0, locals := 0 } : Room).cells ({ frames := 0, cells := 0, slots := 0, locals := 0 } : Room).slots A) (F0 m 2 ls []) := by
    intro k
    induction k with
    | zero =>
      intro t fy hk hf H locs hP hD hS ls hl
      refine lv_iload_n hx hb d_X0_startSums_2 rfl (lv_at hl 0 rfl) ?_
      refine lv_bipush (v := (nI 8)) hx hb d_X0_startSums_3 (by decide) ?_
      refine ln_icmp_ge_t (tgt := 25) hx hb d_X0_startSums_5 (by decide) (by omega) (by omega) (by omega) ?_
      exact g_vret hx hb hr hlocks hP hD hS fy (List.Perm.refl _) ⟨rfl, fun i hi => hf i (by omega)⟩ (Nat.le_of_ble_eq_true rfl) (Nat.le_of_ble_eq_true rfl) d_X0_startSums_25
    | succ k ih =>
      intro t fy hk hf H locs hP hD hS ls hl
      refine lv_iload_n hx hb d_X0_startSums_2 rfl (lv_at hl 0 rfl) ?_
      refine lv_bipush (v := (nI 8)) hx hb d_X0_startSums_3 (by decide) ?_
      refine ln_icmp_ge_f (tgt := 25) hx hb d_X0_startSums_5 (by decide) (by omega) (by omega) (by omega) ?_
      refine lv_aload_n hx hb d_X0_startSums_8 rfl (lv_at hl 1 rfl) ?_
      refine va_get (D := g.2.1) (ci := 0) (v := .ref qs) (C := R_X0) (T := T_X0) (N := 6) hx hb ht i_X0 hown hK hP 0 rfl rfl 5 (by decide) (ht _ w_66) (fun _ h9 => h9) rfl d_X0_startSums_9 ?_
      refine lv_iload_n hx hb d_X0_startSums_12 rfl (lv_at hl 0 rfl) ?_
      refine va_gets hx hb hZR hS hown (ht _ w_370) (fun _ h9 => h9) d_X0_startSums_13 ?_
      refine lv_iload_n hx hb d_X0_startSums_16 rfl (lv_at hl 0 rfl) ?_
      refine ln_ti (v := rootsL.getD t 0) hx hb hTR hS (by omega) (by decide) rfl d_X0_startSums_17 ?_
      refine lv_topi (fun x_1 ex_1 => ?_)
      refine ln_iast hx hb hK hP hD hS 1 0 rfl rfl (by omega) (by omega) d_X0_startSums_18 (fun H locs hP hD hS => ?_)
      have hP : va_P g.2.1 cls7 [(h, .inr (0, [.ref nc, .ref fk, .ref ta, .ref ia, .ref qw, .ref qs])), (qs, .inl (cI g, 8, .inl (upd fy t x_1)))] H := hP
      have hD : va_D A [(h, .inr (0, [.ref nc, .ref fk, .ref ta, .ref ia, .ref qw, .ref qs])), (qs, .inl (cI g, 8, .inl (upd fy t x_1)))] := hD
      refine ln_iinc (d := 1) (lv' := [(1, .int (nI (t + 1))), (0, .ref h)]) hx hb d_X0_startSums_19 hl (k := 0) rfl rfl (by decide) rfl (fun ls hl => ?_)
      refine lv_goto (tgt := 2) hx hb d_X0_startSums_22 (by decide) ?_
      have hnew : ∀ i, i < t + 1 → (upd fy t x_1) i = rootsL.getD i 0 := by
        intro i hi
        by_cases ei : i = t
        · subst ei
          rw [pk_us, ex_1]
        · rw [pk_un ei]
          exact hf i (by omega)
      exact ih (t + 1) (upd fy t x_1) (by omega) hnew _ _ hP hD hS ls (lv_sub hl [0, 1] rfl)
  exact loop 8 0 fs (by omega) (fun i h => absurd h (Nat.not_lt_zero i)) _ _ hP hD hS ls (lv_sub hl [0, 1] rfl)

set_option maxHeartbeats 1000000 in
set_option maxRecDepth 100000 in
theorem c_X0_spread (g : GG) (h : Nat) (nc : Nat) (fk : Nat) (ta : Nat) (ia : Nat) (qw : Nat) (qs : Nat) (tq : Nat) (ft : Nat → Int32) (zt : Nat) (fw : Nat → Int32) (k0 : Nat) (hk : k0 + 64 ≤ 768) : Cg g y_X0_spread b_X0_spread 8 none ({ frames := 0, cells := 0, slots := 0, locals := 0 } : Room) [.ref h, .int (nI k0)] [(h, .inr (0, [.ref nc, .ref fk, .ref ta, .ref ia, .ref qw, .ref qs])), (ta, .inr (3, [.ref tq, .int (nI zt)])), (tq, .inl (cI g, 768, .inl ft)), (qw, .inl (cI g, 64, .inl fw))] (S := Nat → Int32) (fun (v : Option Value) (u : Nat → Int32) => v = none ∧ (∀ i, i < 64 → u i = sh_w (fun j => ft (k0 + j)) i)) (fun (u : Nat → Int32) => [(h, .inr (0, [.ref nc, .ref fk, .ref ta, .ref ia, .ref qw, .ref qs])), (ta, .inr (3, [.ref tq, .int (nI zt)])), (tq, .inl (cI g, 768, .inl ft)), (qw, .inl (cI g, 64, .inl u))]) := by
  refine Ct_of (cc := b_X0_spread) (maxL := 8) (ret := none) (by decide) rfl (Nat.le_of_ble_eq_true rfl) ?_
  intro p e s m below meth c A ls hx hb hr hml hown hts hlocks hin hA hP hK hD hXs hS hl
  have ht : ∀ w ∈ tb, w.before [.ref h, .int (nI k0)].toArray s = true := fun w h => hts w (List.mem_cons_of_mem _ h)
  have hown : s.vm.findClass R_X0 = some m.cls := hown
  have hl : lv_has ls 8 [(0, .ref h), (1, .int (nI k0))] := hl
  refine lv_aload_n hx hb d_X0_spread_0 rfl (lv_at hl 0 rfl) ?_
  refine va_get (D := g.2.1) (ci := 0) (v := .ref ta) (C := R_X0) (T := T_X0) (N := 6) hx hb ht i_X0 hown hK hP 0 rfl rfl 2 (by decide) (ht _ w_63) (fun _ h9 => h9) rfl d_X0_spread_1 ?_
  refine va_get (D := g.2.1) (ci := 3) (v := .ref tq) (C := R_X3) (T := T_X3) (N := 2) hx hb ht i_X3 hown hK hP 1 rfl rfl 0 (by decide) (ht _ w_43) (fun _ h9 => h9) rfl d_X0_spread_4 ?_
  refine lv_astore_n (lv' := [(2, .ref tq), (0, .ref h), (1, .int (nI k0))]) hx hb d_X0_spread_7 rfl hl (by decide) rfl (fun ls hl => ?_)
  refine lv_iload_n hx hb d_X0_spread_8 rfl (lv_at hl 2 rfl) ?_
  refine ln_if_lt (tgt := 21) hx hb d_X0_spread_9 (by decide) (by omega) (fun _ => ?_)
  refine lv_iload_n hx hb d_X0_spread_12 rfl (lv_at hl 2 rfl) ?_
  refine lv_aload_n hx hb d_X0_spread_13 rfl (lv_at hl 0 rfl) ?_
  refine ln_alen hx hb hK hP 2 0 rfl rfl d_X0_spread_14 ?_
  refine lv_bipush (v := (nI 64)) hx hb d_X0_spread_15 (by decide) ?_
  refine ln_isub hx hb d_X0_spread_17 (by omega) ?_
  refine ln_icmp_le_t (tgt := 22) hx hb d_X0_spread_18 (by decide) (by omega) (by omega) (by omega) ?_
  refine lv_iconst (v := (nI 0)) hx hb d_X0_spread_22 (by decide) ?_
  refine lv_istore_n (lv' := [(3, .int (nI 0)), (2, .ref tq), (0, .ref h), (1, .int (nI k0))]) hx hb d_X0_spread_23 rfl hl (by decide) rfl (fun ls hl => ?_)
  have loop : ∀ (k : Nat) (t : Nat) (fy : Nat → Int32) (hk : t + k = 16) (hf : ∀ i, i < t → fy i = sh_w (fun j => ft (k0 + j)) i) (H : Heap) (locs : List Loc) (hP : va_P g.2.1 cls7 [(h, .inr (0, [.ref nc, .ref fk, .ref ta, .ref ia, .ref qw, .ref qs])), (ta, .inr (3, [.ref tq, .int (nI zt)])), (tq, .inl (cI g, 768, .inl ft)), (qw, .inl (cI g, 64, .inl fy))] H) (hD : va_D A [(h, .inr (0, [.ref nc, .ref fk, .ref ta, .ref ia, .ref qw, .ref qs])), (ta, .inr (3, [.ref tq, .int (nI zt)])), (tq, .inl (cI g, 768, .inl ft)), (qw, .inl (cI g, 64, .inl fy))]) (hS : va_S A s.heap H locs) (ls : Array Slot) (hl : lv_has ls 8 [(3, .int (nI t)), (2, .ref tq), (0, .ref h), (1, .int (nI k0))]), W p g.1 e ({ frames := 0, cells := 0, slots := 0, locals := 0 } : Room) s m [.ref h, .int (nI k0)].toArray below meth c H locs 0 0 (MQ below (gQ g.2.1 cls7 (S := Nat → Int32) (fun (v : Option Value) (u : Nat → Int32) => v = none ∧ (∀ i, i < 64 → u i = sh_w (fun j => ft (k0 + j)) i)) (fun (u : Nat → Int32) => [(h, .inr (0, [.ref nc, .ref fk, .ref ta, .ref ia, .ref qw, .ref qs])), (ta, .inr (3, [.ref tq, .int (nI zt)])), (tq, .inl (cI g, 768, .inl ft)), (qw, .inl (cI g, 64, .inl u))]) A) [.ref h, .int (nI k0)].toArray s ({ frames := 0, cells := 0, slots := 0, locals := 0 } : Room).cells ({ frames := 0, cells := 0, slots := 0, locals := 0 } : Room).slots A) (F0 m 24 ls []) := by
    intro k
    induction k with
    | zero =>
      intro t fy hk hf H locs hP hD hS ls hl
      refine lv_iload_n hx hb d_X0_spread_24 rfl (lv_at hl 0 rfl) ?_
      refine lv_bipush (v := (nI 16)) hx hb d_X0_spread_25 (by decide) ?_
      refine ln_icmp_ge_t (tgt := 83) hx hb d_X0_spread_27 (by decide) (by omega) (by omega) (by omega) ?_
      refine lv_bipush (v := (nI 16)) hx hb d_X0_spread_83 (by decide) ?_
      refine lv_istore_n (lv' := [(3, .int (nI 16)), (2, .ref tq), (0, .ref h), (1, .int (nI k0))]) hx hb d_X0_spread_85 rfl hl (by decide) rfl (fun ls hl => ?_)
      have loop2 : ∀ (k : Nat) (t : Nat) (fy : Nat → Int32) (hk : t + k = 64) (hf : ∀ i, i < t → fy i = sh_w (fun j => ft (k0 + j)) i) (h16 : 16 ≤ t) (H : Heap) (locs : List Loc) (hP : va_P g.2.1 cls7 [(h, .inr (0, [.ref nc, .ref fk, .ref ta, .ref ia, .ref qw, .ref qs])), (ta, .inr (3, [.ref tq, .int (nI zt)])), (tq, .inl (cI g, 768, .inl ft)), (qw, .inl (cI g, 64, .inl fy))] H) (hD : va_D A [(h, .inr (0, [.ref nc, .ref fk, .ref ta, .ref ia, .ref qw, .ref qs])), (ta, .inr (3, [.ref tq, .int (nI zt)])), (tq, .inl (cI g, 768, .inl ft)), (qw, .inl (cI g, 64, .inl fy))]) (hS : va_S A s.heap H locs) (ls : Array Slot) (hl : lv_has ls 8 [(3, .int (nI t)), (0, .ref h), (1, .int (nI k0))]), W p g.1 e ({ frames := 0, cells := 0, slots := 0, locals := 0 } : Room) s m [.ref h, .int (nI k0)].toArray below meth c H locs 0 0 (MQ below (gQ g.2.1 cls7 (S := Nat → Int32) (fun (v : Option Value) (u : Nat → Int32) => v = none ∧ (∀ i, i < 64 → u i = sh_w (fun j => ft (k0 + j)) i)) (fun (u : Nat → Int32) => [(h, .inr (0, [.ref nc, .ref fk, .ref ta, .ref ia, .ref qw, .ref qs])), (ta, .inr (3, [.ref tq, .int (nI zt)])), (tq, .inl (cI g, 768, .inl ft)), (qw, .inl (cI g, 64, .inl u))]) A) [.ref h, .int (nI k0)].toArray s ({ frames := 0, cells := 0, slots := 0, locals := 0 } : Room).cells ({ frames := 0, cells := 0, slots := 0, locals := 0 } : Room).slots A) (F0 m 86 ls []) := by
        intro k
        induction k with
        | zero =>
          intro t fy hk hf h16 H locs hP hD hS ls hl
          refine lv_iload_n hx hb d_X0_spread_86 rfl (lv_at hl 0 rfl) ?_
          refine lv_bipush (v := (nI 64)) hx hb d_X0_spread_87 (by decide) ?_
          refine ln_icmp_ge_t (tgt := 211) hx hb d_X0_spread_89 (by decide) (by omega) (by omega) (by omega) ?_
          exact g_vret hx hb hr hlocks hP hD hS fy (List.Perm.refl _) ⟨rfl, fun i hi => hf i (by omega)⟩ (Nat.le_of_ble_eq_true rfl) (Nat.le_of_ble_eq_true rfl) d_X0_spread_211
        | succ k ih =>
          intro t fy hk hf h16 H locs hP hD hS ls hl
          refine lv_iload_n hx hb d_X0_spread_86 rfl (lv_at hl 0 rfl) ?_
          refine lv_bipush (v := (nI 64)) hx hb d_X0_spread_87 (by decide) ?_
          refine ln_icmp_ge_f (tgt := 211) hx hb d_X0_spread_89 (by decide) (by omega) (by omega) (by omega) ?_
          refine lv_aload_n hx hb d_X0_spread_92 rfl (lv_at hl 1 rfl) ?_
          refine va_get (D := g.2.1) (ci := 0) (v := .ref qw) (C := R_X0) (T := T_X0) (N := 6) hx hb ht i_X0 hown hK hP 0 rfl rfl 4 (by decide) (ht _ w_65) (fun _ h9 => h9) rfl d_X0_spread_93 ?_
          refine lv_iload_n hx hb d_X0_spread_96 rfl (lv_at hl 0 rfl) ?_
          refine lv_bipush (v := (nI 15)) hx hb d_X0_spread_97 (by decide) ?_
          refine ln_isub hx hb d_X0_spread_99 (by omega) ?_
          refine ln_iald hx hb hK hP 3 0 rfl rfl (by omega) (by omega) d_X0_spread_100 ?_
          refine lv_topi (fun x_1 ex_1 => ?_)
          refine lv_istore (lv' := [(4, .int x_1), (3, .int (nI t)), (0, .ref h), (1, .int (nI k0))]) hx hb d_X0_spread_101 hl (by decide) rfl (fun ls hl => ?_)
          refine lv_aload_n hx hb d_X0_spread_103 rfl (lv_at hl 2 rfl) ?_
          refine va_get (D := g.2.1) (ci := 0) (v := .ref qw) (C := R_X0) (T := T_X0) (N := 6) hx hb ht i_X0 hown hK hP 0 rfl rfl 4 (by decide) (ht _ w_65) (fun _ h9 => h9) rfl d_X0_spread_104 ?_
          refine lv_iload_n hx hb d_X0_spread_107 rfl (lv_at hl 1 rfl) ?_
          refine lv_iconst (v := (nI 2)) hx hb d_X0_spread_108 (by decide) ?_
          refine ln_isub hx hb d_X0_spread_109 (by omega) ?_
          refine ln_iald hx hb hK hP 3 0 rfl rfl (by omega) (by omega) d_X0_spread_110 ?_
          refine lv_topi (fun x_2 ex_2 => ?_)
          refine lv_istore (lv' := [(5, .int x_2), (4, .int x_1), (3, .int (nI t)), (0, .ref h), (1, .int (nI k0))]) hx hb d_X0_spread_111 hl (by decide) rfl (fun ls hl => ?_)
          refine lv_iload hx hb d_X0_spread_113 (lv_at hl 1 rfl) ?_
          refine lv_bipush (v := (nI 7)) hx hb d_X0_spread_115 (by decide) ?_
          refine lv_iushr (v := us x_1 (nI 7)) hx hb d_X0_spread_117 rfl ?_
          refine lv_iload hx hb d_X0_spread_118 (lv_at hl 1 rfl) ?_
          refine lv_bipush (v := (nI 25)) hx hb d_X0_spread_120 (by decide) ?_
          refine ln_ishl hx hb d_X0_spread_122 ?_
          refine lv_ior hx hb d_X0_spread_123 ?_
          refine lv_iload hx hb d_X0_spread_124 (lv_at hl 1 rfl) ?_
          refine lv_bipush (v := (nI 18)) hx hb d_X0_spread_126 (by decide) ?_
          refine lv_iushr (v := us x_1 (nI 18)) hx hb d_X0_spread_128 rfl ?_
          refine lv_iload hx hb d_X0_spread_129 (lv_at hl 1 rfl) ?_
          refine lv_bipush (v := (nI 14)) hx hb d_X0_spread_131 (by decide) ?_
          refine ln_ishl hx hb d_X0_spread_133 ?_
          refine lv_ior hx hb d_X0_spread_134 ?_
          refine lv_ixor hx hb d_X0_spread_135 ?_
          refine lv_iload hx hb d_X0_spread_136 (lv_at hl 1 rfl) ?_
          refine lv_iconst (v := (nI 3)) hx hb d_X0_spread_138 (by decide) ?_
          refine lv_iushr (v := us x_1 (nI 3)) hx hb d_X0_spread_139 rfl ?_
          refine lv_ixor hx hb d_X0_spread_140 ?_
          refine lv_topi (fun x_3 ex_3 => ?_)
          refine lv_istore (lv' := [(6, .int x_3), (5, .int x_2), (4, .int x_1), (3, .int (nI t)), (0, .ref h), (1, .int (nI k0))]) hx hb d_X0_spread_141 hl (by decide) rfl (fun ls hl => ?_)
          refine lv_iload hx hb d_X0_spread_143 (lv_at hl 1 rfl) ?_
          refine lv_bipush (v := (nI 17)) hx hb d_X0_spread_145 (by decide) ?_
          refine lv_iushr (v := us x_2 (nI 17)) hx hb d_X0_spread_147 rfl ?_
          refine lv_iload hx hb d_X0_spread_148 (lv_at hl 1 rfl) ?_
          refine lv_bipush (v := (nI 15)) hx hb d_X0_spread_150 (by decide) ?_
          refine ln_ishl hx hb d_X0_spread_152 ?_
          refine lv_ior hx hb d_X0_spread_153 ?_
          refine lv_iload hx hb d_X0_spread_154 (lv_at hl 1 rfl) ?_
          refine lv_bipush (v := (nI 19)) hx hb d_X0_spread_156 (by decide) ?_
          refine lv_iushr (v := us x_2 (nI 19)) hx hb d_X0_spread_158 rfl ?_
          refine lv_iload hx hb d_X0_spread_159 (lv_at hl 1 rfl) ?_
          refine lv_bipush (v := (nI 13)) hx hb d_X0_spread_161 (by decide) ?_
          refine ln_ishl hx hb d_X0_spread_163 ?_
          refine lv_ior hx hb d_X0_spread_164 ?_
          refine lv_ixor hx hb d_X0_spread_165 ?_
          refine lv_iload hx hb d_X0_spread_166 (lv_at hl 1 rfl) ?_
          refine lv_bipush (v := (nI 10)) hx hb d_X0_spread_168 (by decide) ?_
          refine lv_iushr (v := us x_2 (nI 10)) hx hb d_X0_spread_170 rfl ?_
          refine lv_ixor hx hb d_X0_spread_171 ?_
          refine lv_topi (fun x_4 ex_4 => ?_)
          refine lv_istore (lv' := [(7, .int x_4), (6, .int x_3), (5, .int x_2), (4, .int x_1), (3, .int (nI t)), (0, .ref h), (1, .int (nI k0))]) hx hb d_X0_spread_172 hl (by decide) rfl (fun ls hl => ?_)
          refine lv_aload_n hx hb d_X0_spread_174 rfl (lv_at hl 5 rfl) ?_
          refine va_get (D := g.2.1) (ci := 0) (v := .ref qw) (C := R_X0) (T := T_X0) (N := 6) hx hb ht i_X0 hown hK hP 0 rfl rfl 4 (by decide) (ht _ w_65) (fun _ h9 => h9) rfl d_X0_spread_175 ?_
          refine lv_iload_n hx hb d_X0_spread_178 rfl (lv_at hl 4 rfl) ?_
          refine lv_aload_n hx hb d_X0_spread_179 rfl (lv_at hl 5 rfl) ?_
          refine va_get (D := g.2.1) (ci := 0) (v := .ref qw) (C := R_X0) (T := T_X0) (N := 6) hx hb ht i_X0 hown hK hP 0 rfl rfl 4 (by decide) (ht _ w_65) (fun _ h9 => h9) rfl d_X0_spread_180 ?_
          refine lv_iload_n hx hb d_X0_spread_183 rfl (lv_at hl 4 rfl) ?_
          refine lv_bipush (v := (nI 16)) hx hb d_X0_spread_184 (by decide) ?_
          refine ln_isub hx hb d_X0_spread_186 (by omega) ?_
          refine ln_iald hx hb hK hP 3 0 rfl rfl (by omega) (by omega) d_X0_spread_187 ?_
          refine lv_iload hx hb d_X0_spread_188 (lv_at hl 1 rfl) ?_
          refine lv_iadd hx hb d_X0_spread_190 ?_
          refine lv_aload_n hx hb d_X0_spread_191 rfl (lv_at hl 5 rfl) ?_
          refine va_get (D := g.2.1) (ci := 0) (v := .ref qw) (C := R_X0) (T := T_X0) (N := 6) hx hb ht i_X0 hown hK hP 0 rfl rfl 4 (by decide) (ht _ w_65) (fun _ h9 => h9) rfl d_X0_spread_192 ?_
          refine lv_iload_n hx hb d_X0_spread_195 rfl (lv_at hl 4 rfl) ?_
          refine lv_bipush (v := (nI 7)) hx hb d_X0_spread_196 (by decide) ?_
          refine ln_isub hx hb d_X0_spread_198 (by omega) ?_
          refine ln_iald hx hb hK hP 3 0 rfl rfl (by omega) (by omega) d_X0_spread_199 ?_
          refine lv_iadd hx hb d_X0_spread_200 ?_
          refine lv_iload hx hb d_X0_spread_201 (lv_at hl 0 rfl) ?_
          refine lv_iadd hx hb d_X0_spread_203 ?_
          refine lv_topi (fun x_5 ex_5 => ?_)
          refine ln_iast hx hb hK hP hD hS 3 0 rfl rfl (by omega) (by omega) d_X0_spread_204 (fun H locs hP hD hS => ?_)
          have hP : va_P g.2.1 cls7 [(h, .inr (0, [.ref nc, .ref fk, .ref ta, .ref ia, .ref qw, .ref qs])), (ta, .inr (3, [.ref tq, .int (nI zt)])), (tq, .inl (cI g, 768, .inl ft)), (qw, .inl (cI g, 64, .inl (upd fy t x_5)))] H := hP
          have hD : va_D A [(h, .inr (0, [.ref nc, .ref fk, .ref ta, .ref ia, .ref qw, .ref qs])), (ta, .inr (3, [.ref tq, .int (nI zt)])), (tq, .inl (cI g, 768, .inl ft)), (qw, .inl (cI g, 64, .inl (upd fy t x_5)))] := hD
          refine ln_iinc (d := 1) (lv' := [(3, .int (nI (t + 1))), (7, .int x_4), (6, .int x_3), (5, .int x_2), (4, .int x_1), (0, .ref h), (1, .int (nI k0))]) hx hb d_X0_spread_205 hl (k := 4) rfl rfl (by decide) rfl (fun ls hl => ?_)
          refine lv_goto (tgt := 86) hx hb d_X0_spread_208 (by decide) ?_
          have hnew : ∀ i, i < t + 1 → (upd fy t x_5) i = sh_w (fun j => ft (k0 + j)) i := by
            intro i hi
            by_cases ei : i = t
            · subst ei
              rw [pk_us, ex_5, sh_w_hi (show ¬ i < 16 by omega), ← hf (i - 16) (by omega), ← hf (i - 15) (by omega), ← hf (i - 7) (by omega), ← hf (i - 2) (by omega)]
              simp only [ex_4, ex_3, ex_2, ex_1, sh_s, sh_r]
            · rw [pk_un ei]
              exact hf i (by omega)
          exact ih (t + 1) (upd fy t x_5) (by omega) hnew (by omega) _ _ hP hD hS ls (lv_sub hl [0, 5, 6] rfl)
      exact loop2 48 16 fy (by omega) (fun i h => hf i (by omega)) (by omega) _ _ hP hD hS ls (lv_sub hl [0, 2, 3] rfl)
    | succ k ih =>
      intro t fy hk hf H locs hP hD hS ls hl
      refine lv_iload_n hx hb d_X0_spread_24 rfl (lv_at hl 0 rfl) ?_
      refine lv_bipush (v := (nI 16)) hx hb d_X0_spread_25 (by decide) ?_
      refine ln_icmp_ge_f (tgt := 83) hx hb d_X0_spread_27 (by decide) (by omega) (by omega) (by omega) ?_
      refine lv_iload_n hx hb d_X0_spread_30 rfl (lv_at hl 3 rfl) ?_
      refine lv_iconst (v := (nI 4)) hx hb d_X0_spread_31 (by decide) ?_
      refine lv_iload_n hx hb d_X0_spread_32 rfl (lv_at hl 0 rfl) ?_
      refine ln_imul hx hb d_X0_spread_33 ?_
      refine ln_iadd hx hb d_X0_spread_34 ?_
      refine lv_istore (lv' := [(4, .int (nI (k0 + (4 * t)))), (3, .int (nI t)), (2, .ref tq), (0, .ref h), (1, .int (nI k0))]) hx hb d_X0_spread_35 hl (by decide) rfl (fun ls hl => ?_)
      refine lv_aload_n hx hb d_X0_spread_37 rfl (lv_at hl 3 rfl) ?_
      refine va_get (D := g.2.1) (ci := 0) (v := .ref qw) (C := R_X0) (T := T_X0) (N := 6) hx hb ht i_X0 hown hK hP 0 rfl rfl 4 (by decide) (ht _ w_65) (fun _ h9 => h9) rfl d_X0_spread_38 ?_
      refine lv_iload_n hx hb d_X0_spread_41 rfl (lv_at hl 1 rfl) ?_
      refine lv_aload_n hx hb d_X0_spread_42 rfl (lv_at hl 2 rfl) ?_
      refine lv_iload hx hb d_X0_spread_43 (lv_at hl 0 rfl) ?_
      refine ln_iald hx hb hK hP 2 0 rfl rfl (by omega) (by omega) d_X0_spread_45 ?_
      refine lv_bipush (v := (nI 24)) hx hb d_X0_spread_46 (by decide) ?_
      refine ln_ishl hx hb d_X0_spread_48 ?_
      refine lv_aload_n hx hb d_X0_spread_49 rfl (lv_at hl 2 rfl) ?_
      refine lv_iload hx hb d_X0_spread_50 (lv_at hl 0 rfl) ?_
      refine lv_iconst (v := (nI 1)) hx hb d_X0_spread_52 (by decide) ?_
      refine ln_iadd hx hb d_X0_spread_53 ?_
      refine ln_iald hx hb hK hP 2 0 rfl rfl (by omega) (by omega) d_X0_spread_54 ?_
      refine lv_bipush (v := (nI 16)) hx hb d_X0_spread_55 (by decide) ?_
      refine ln_ishl hx hb d_X0_spread_57 ?_
      refine lv_ior hx hb d_X0_spread_58 ?_
      refine lv_aload_n hx hb d_X0_spread_59 rfl (lv_at hl 2 rfl) ?_
      refine lv_iload hx hb d_X0_spread_60 (lv_at hl 0 rfl) ?_
      refine lv_iconst (v := (nI 2)) hx hb d_X0_spread_62 (by decide) ?_
      refine ln_iadd hx hb d_X0_spread_63 ?_
      refine ln_iald hx hb hK hP 2 0 rfl rfl (by omega) (by omega) d_X0_spread_64 ?_
      refine lv_bipush (v := (nI 8)) hx hb d_X0_spread_65 (by decide) ?_
      refine ln_ishl hx hb d_X0_spread_67 ?_
      refine lv_ior hx hb d_X0_spread_68 ?_
      refine lv_aload_n hx hb d_X0_spread_69 rfl (lv_at hl 2 rfl) ?_
      refine lv_iload hx hb d_X0_spread_70 (lv_at hl 0 rfl) ?_
      refine lv_iconst (v := (nI 3)) hx hb d_X0_spread_72 (by decide) ?_
      refine ln_iadd hx hb d_X0_spread_73 ?_
      refine ln_iald hx hb hK hP 2 0 rfl rfl (by omega) (by omega) d_X0_spread_74 ?_
      refine lv_ior hx hb d_X0_spread_75 ?_
      refine lv_topi (fun x_6 ex_6 => ?_)
      refine ln_iast hx hb hK hP hD hS 3 0 rfl rfl (by omega) (by omega) d_X0_spread_76 (fun H locs hP hD hS => ?_)
      have hP : va_P g.2.1 cls7 [(h, .inr (0, [.ref nc, .ref fk, .ref ta, .ref ia, .ref qw, .ref qs])), (ta, .inr (3, [.ref tq, .int (nI zt)])), (tq, .inl (cI g, 768, .inl ft)), (qw, .inl (cI g, 64, .inl (upd fy t x_6)))] H := hP
      have hD : va_D A [(h, .inr (0, [.ref nc, .ref fk, .ref ta, .ref ia, .ref qw, .ref qs])), (ta, .inr (3, [.ref tq, .int (nI zt)])), (tq, .inl (cI g, 768, .inl ft)), (qw, .inl (cI g, 64, .inl (upd fy t x_6)))] := hD
      refine ln_iinc (d := 1) (lv' := [(3, .int (nI (t + 1))), (4, .int (nI (k0 + (4 * t)))), (2, .ref tq), (0, .ref h), (1, .int (nI k0))]) hx hb d_X0_spread_77 hl (k := 1) rfl rfl (by decide) rfl (fun ls hl => ?_)
      refine lv_goto (tgt := 24) hx hb d_X0_spread_80 (by decide) ?_
      have hnew : ∀ i, i < t + 1 → (upd fy t x_6) i = sh_w (fun j => ft (k0 + j)) i := by
        intro i hi
        by_cases ei : i = t
        · subst ei
          rw [pk_us, ex_6, sh_w_lo (by omega)]
          unfold sh_w0
          simp only [Nat.add_assoc]
        · rw [pk_un ei]
          exact hf i (by omega)
      exact ih (t + 1) (upd fy t x_6) (by omega) hnew _ _ hP hD hS ls (lv_sub hl [0, 2, 3, 4] rfl)
  exact loop 16 0 fw (by omega) (fun i h => absurd h (Nat.not_lt_zero i)) _ _ hP hD hS ls (lv_sub hl [0, 1, 2, 3] rfl)

set_option maxHeartbeats 1000000 in
set_option maxRecDepth 100000 in
theorem c_X0_stir (g : GG) (h : Nat) (nc : Nat) (fk : Nat) (ta : Nat) (ia : Nat) (qw : Nat) (qs : Nat) (fw : Nat → Int32) (fs : Nat → Int32)  : Cg g y_X0_stir b_X0_stir 16 none ({ frames := 0, cells := 0, slots := 0, locals := 0 } : Room) [.ref h] [(h, .inr (0, [.ref nc, .ref fk, .ref ta, .ref ia, .ref qw, .ref qs])), (qw, .inl (cI g, 64, .inl fw)), (qs, .inl (cI g, 8, .inl fs))] (S := Nat → Int32) (fun (v : Option Value) (u : Nat → Int32) => v = none ∧ (∀ i, i < 8 → u i = fs i + s8_at (sh_it sh_K fw 64 (fs 0, fs 1, fs 2, fs 3, fs 4, fs 5, fs 6, fs 7)) i)) (fun (u : Nat → Int32) => [(h, .inr (0, [.ref nc, .ref fk, .ref ta, .ref ia, .ref qw, .ref qs])), (qw, .inl (cI g, 64, .inl fw)), (qs, .inl (cI g, 8, .inl u))]) := by
  refine Ct_of (cc := b_X0_stir) (maxL := 16) (ret := none) (by decide) rfl (Nat.le_of_ble_eq_true rfl) ?_
  intro p e s m below meth c A ls hx hb hr hml hown hts hlocks hin hA hP hK hD hXs hS hl
  have ht : ∀ w ∈ tb, w.before [.ref h].toArray s = true := fun w h => hts w (List.mem_cons_of_mem _ h)
  have hown : s.vm.findClass R_X0 = some m.cls := hown
  have hl : lv_has ls 16 [(0, .ref h)] := hl
  obtain ⟨tC, hZC, hTC⟩ := hXs.2.2.1
  refine lv_aload_n hx hb d_X0_stir_0 rfl (lv_at hl 0 rfl) ?_
  refine va_get (D := g.2.1) (ci := 0) (v := .ref qs) (C := R_X0) (T := T_X0) (N := 6) hx hb ht i_X0 hown hK hP 0 rfl rfl 5 (by decide) (ht _ w_66) (fun _ h9 => h9) rfl d_X0_stir_1 ?_
  refine lv_iconst (v := (nI 0)) hx hb d_X0_stir_4 (by decide) ?_
  refine ln_iald hx hb hK hP 2 0 rfl rfl (by omega) (by omega) d_X0_stir_5 ?_
  refine lv_topi (fun x_1 ex_1 => ?_)
  refine lv_istore_n (lv' := [(1, .int x_1), (0, .ref h)]) hx hb d_X0_stir_6 rfl hl (by decide) rfl (fun ls hl => ?_)
  refine lv_aload_n hx hb d_X0_stir_7 rfl (lv_at hl 1 rfl) ?_
  refine va_get (D := g.2.1) (ci := 0) (v := .ref qs) (C := R_X0) (T := T_X0) (N := 6) hx hb ht i_X0 hown hK hP 0 rfl rfl 5 (by decide) (ht _ w_66) (fun _ h9 => h9) rfl d_X0_stir_8 ?_
  refine lv_iconst (v := (nI 1)) hx hb d_X0_stir_11 (by decide) ?_
  refine ln_iald hx hb hK hP 2 0 rfl rfl (by omega) (by omega) d_X0_stir_12 ?_
  refine lv_topi (fun x_2 ex_2 => ?_)
  refine lv_istore_n (lv' := [(2, .int x_2), (1, .int x_1), (0, .ref h)]) hx hb d_X0_stir_13 rfl hl (by decide) rfl (fun ls hl => ?_)
  refine lv_aload_n hx hb d_X0_stir_14 rfl (lv_at hl 2 rfl) ?_
  refine va_get (D := g.2.1) (ci := 0) (v := .ref qs) (C := R_X0) (T := T_X0) (N := 6) hx hb ht i_X0 hown hK hP 0 rfl rfl 5 (by decide) (ht _ w_66) (fun _ h9 => h9) rfl d_X0_stir_15 ?_
  refine lv_iconst (v := (nI 2)) hx hb d_X0_stir_18 (by decide) ?_
  refine ln_iald hx hb hK hP 2 0 rfl rfl (by omega) (by omega) d_X0_stir_19 ?_
  refine lv_topi (fun x_3 ex_3 => ?_)
  refine lv_istore_n (lv' := [(3, .int x_3), (2, .int x_2), (1, .int x_1), (0, .ref h)]) hx hb d_X0_stir_20 rfl hl (by decide) rfl (fun ls hl => ?_)
  refine lv_aload_n hx hb d_X0_stir_21 rfl (lv_at hl 3 rfl) ?_
  refine va_get (D := g.2.1) (ci := 0) (v := .ref qs) (C := R_X0) (T := T_X0) (N := 6) hx hb ht i_X0 hown hK hP 0 rfl rfl 5 (by decide) (ht _ w_66) (fun _ h9 => h9) rfl d_X0_stir_22 ?_
  refine lv_iconst (v := (nI 3)) hx hb d_X0_stir_25 (by decide) ?_
  refine ln_iald hx hb hK hP 2 0 rfl rfl (by omega) (by omega) d_X0_stir_26 ?_
  refine lv_topi (fun x_4 ex_4 => ?_)
  refine lv_istore (lv' := [(4, .int x_4), (3, .int x_3), (2, .int x_2), (1, .int x_1), (0, .ref h)]) hx hb d_X0_stir_27 hl (by decide) rfl (fun ls hl => ?_)
  refine lv_aload_n hx hb d_X0_stir_29 rfl (lv_at hl 4 rfl) ?_
  refine va_get (D := g.2.1) (ci := 0) (v := .ref qs) (C := R_X0) (T := T_X0) (N := 6) hx hb ht i_X0 hown hK hP 0 rfl rfl 5 (by decide) (ht _ w_66) (fun _ h9 => h9) rfl d_X0_stir_30 ?_
  refine lv_iconst (v := (nI 4)) hx hb d_X0_stir_33 (by decide) ?_
  refine ln_iald hx hb hK hP 2 0 rfl rfl (by omega) (by omega) d_X0_stir_34 ?_
  refine lv_topi (fun x_5 ex_5 => ?_)
  refine lv_istore (lv' := [(5, .int x_5), (4, .int x_4), (3, .int x_3), (2, .int x_2), (1, .int x_1), (0, .ref h)]) hx hb d_X0_stir_35 hl (by decide) rfl (fun ls hl => ?_)
  refine lv_aload_n hx hb d_X0_stir_37 rfl (lv_at hl 5 rfl) ?_
  refine va_get (D := g.2.1) (ci := 0) (v := .ref qs) (C := R_X0) (T := T_X0) (N := 6) hx hb ht i_X0 hown hK hP 0 rfl rfl 5 (by decide) (ht _ w_66) (fun _ h9 => h9) rfl d_X0_stir_38 ?_
  refine lv_iconst (v := (nI 5)) hx hb d_X0_stir_41 (by decide) ?_
  refine ln_iald hx hb hK hP 2 0 rfl rfl (by omega) (by omega) d_X0_stir_42 ?_
  refine lv_topi (fun x_6 ex_6 => ?_)
  refine lv_istore (lv' := [(6, .int x_6), (5, .int x_5), (4, .int x_4), (3, .int x_3), (2, .int x_2), (1, .int x_1), (0, .ref h)]) hx hb d_X0_stir_43 hl (by decide) rfl (fun ls hl => ?_)
  refine lv_aload_n hx hb d_X0_stir_45 rfl (lv_at hl 6 rfl) ?_
  refine va_get (D := g.2.1) (ci := 0) (v := .ref qs) (C := R_X0) (T := T_X0) (N := 6) hx hb ht i_X0 hown hK hP 0 rfl rfl 5 (by decide) (ht _ w_66) (fun _ h9 => h9) rfl d_X0_stir_46 ?_
  refine lv_bipush (v := (nI 6)) hx hb d_X0_stir_49 (by decide) ?_
  refine ln_iald hx hb hK hP 2 0 rfl rfl (by omega) (by omega) d_X0_stir_51 ?_
  refine lv_topi (fun x_7 ex_7 => ?_)
  refine lv_istore (lv' := [(7, .int x_7), (6, .int x_6), (5, .int x_5), (4, .int x_4), (3, .int x_3), (2, .int x_2), (1, .int x_1), (0, .ref h)]) hx hb d_X0_stir_52 hl (by decide) rfl (fun ls hl => ?_)
  refine lv_aload_n hx hb d_X0_stir_54 rfl (lv_at hl 7 rfl) ?_
  refine va_get (D := g.2.1) (ci := 0) (v := .ref qs) (C := R_X0) (T := T_X0) (N := 6) hx hb ht i_X0 hown hK hP 0 rfl rfl 5 (by decide) (ht _ w_66) (fun _ h9 => h9) rfl d_X0_stir_55 ?_
  refine lv_bipush (v := (nI 7)) hx hb d_X0_stir_58 (by decide) ?_
  refine ln_iald hx hb hK hP 2 0 rfl rfl (by omega) (by omega) d_X0_stir_60 ?_
  refine lv_topi (fun x_8 ex_8 => ?_)
  refine lv_istore (lv' := [(8, .int x_8), (7, .int x_7), (6, .int x_6), (5, .int x_5), (4, .int x_4), (3, .int x_3), (2, .int x_2), (1, .int x_1), (0, .ref h)]) hx hb d_X0_stir_61 hl (by decide) rfl (fun ls hl => ?_)
  refine lv_iconst (v := (nI 0)) hx hb d_X0_stir_63 (by decide) ?_
  refine lv_istore (lv' := [(9, .int (nI 0)), (8, .int x_8), (7, .int x_7), (6, .int x_6), (5, .int x_5), (4, .int x_4), (3, .int x_3), (2, .int x_2), (1, .int x_1), (0, .ref h)]) hx hb d_X0_stir_64 hl (by decide) rfl (fun ls hl => ?_)
  have loop : ∀ (k : Nat) (t : Nat) (va : Int32) (vb : Int32) (vc : Int32) (vd : Int32) (ve : Int32) (vf : Int32) (vg : Int32) (vh : Int32) (hk : t + k = 64) (hinv : (va, vb, vc, vd, ve, vf, vg, vh) = sh_it sh_K fw t (fs 0, fs 1, fs 2, fs 3, fs 4, fs 5, fs 6, fs 7)) (H : Heap) (locs : List Loc) (hP : va_P g.2.1 cls7 [(h, .inr (0, [.ref nc, .ref fk, .ref ta, .ref ia, .ref qw, .ref qs])), (qw, .inl (cI g, 64, .inl fw)), (qs, .inl (cI g, 8, .inl fs))] H) (hD : va_D A [(h, .inr (0, [.ref nc, .ref fk, .ref ta, .ref ia, .ref qw, .ref qs])), (qw, .inl (cI g, 64, .inl fw)), (qs, .inl (cI g, 8, .inl fs))]) (hS : va_S A s.heap H locs) (ls : Array Slot) (hl : lv_has ls 16 [(9, .int (nI t)), (1, .int va), (2, .int vb), (3, .int vc), (4, .int vd), (5, .int ve), (6, .int vf), (7, .int vg), (8, .int vh), (0, .ref h)]), W p g.1 e ({ frames := 0, cells := 0, slots := 0, locals := 0 } : Room) s m [.ref h].toArray below meth c H locs 0 0 (MQ below (gQ g.2.1 cls7 (S := Nat → Int32) (fun (v : Option Value) (u : Nat → Int32) => v = none ∧ (∀ i, i < 8 → u i = fs i + s8_at (sh_it sh_K fw 64 (fs 0, fs 1, fs 2, fs 3, fs 4, fs 5, fs 6, fs 7)) i)) (fun (u : Nat → Int32) => [(h, .inr (0, [.ref nc, .ref fk, .ref ta, .ref ia, .ref qw, .ref qs])), (qw, .inl (cI g, 64, .inl fw)), (qs, .inl (cI g, 8, .inl u))]) A) [.ref h].toArray s ({ frames := 0, cells := 0, slots := 0, locals := 0 } : Room).cells ({ frames := 0, cells := 0, slots := 0, locals := 0 } : Room).slots A) (F0 m 66 ls []) := by
    intro k
    induction k with
    | zero =>
      intro t va vb vc vd ve vf vg vh hk hinv H locs hP hD hS ls hl
      refine lv_iload hx hb d_X0_stir_66 (lv_at hl 0 rfl) ?_
      refine lv_bipush (v := (nI 64)) hx hb d_X0_stir_68 (by decide) ?_
      refine ln_icmp_ge_t (tgt := 238) hx hb d_X0_stir_70 (by decide) (by omega) (by omega) (by omega) ?_
      refine lv_aload_n hx hb d_X0_stir_238 rfl (lv_at hl 9 rfl) ?_
      refine va_get (D := g.2.1) (ci := 0) (v := .ref qs) (C := R_X0) (T := T_X0) (N := 6) hx hb ht i_X0 hown hK hP 0 rfl rfl 5 (by decide) (ht _ w_66) (fun _ h9 => h9) rfl d_X0_stir_239 ?_
      refine lv_iconst (v := (nI 0)) hx hb d_X0_stir_242 (by decide) ?_
      refine lv_dup2_11 hx hb d_X0_stir_243 rfl rfl ?_
      refine ln_iald hx hb hK hP 2 0 rfl rfl (by omega) (by omega) d_X0_stir_244 ?_
      refine lv_iload_n hx hb d_X0_stir_245 rfl (lv_at hl 1 rfl) ?_
      refine lv_iadd hx hb d_X0_stir_246 ?_
      refine lv_topi (fun x_9 ex_9 => ?_)
      refine ln_iast hx hb hK hP hD hS 2 0 rfl rfl (by omega) (by omega) d_X0_stir_247 (fun H locs hP hD hS => ?_)
      have hP : va_P g.2.1 cls7 [(h, .inr (0, [.ref nc, .ref fk, .ref ta, .ref ia, .ref qw, .ref qs])), (qw, .inl (cI g, 64, .inl fw)), (qs, .inl (cI g, 8, .inl (upd fs 0 x_9)))] H := hP
      have hD : va_D A [(h, .inr (0, [.ref nc, .ref fk, .ref ta, .ref ia, .ref qw, .ref qs])), (qw, .inl (cI g, 64, .inl fw)), (qs, .inl (cI g, 8, .inl (upd fs 0 x_9)))] := hD
      refine lv_aload_n hx hb d_X0_stir_248 rfl (lv_at hl 9 rfl) ?_
      refine va_get (D := g.2.1) (ci := 0) (v := .ref qs) (C := R_X0) (T := T_X0) (N := 6) hx hb ht i_X0 hown hK hP 0 rfl rfl 5 (by decide) (ht _ w_66) (fun _ h9 => h9) rfl d_X0_stir_249 ?_
      refine lv_iconst (v := (nI 1)) hx hb d_X0_stir_252 (by decide) ?_
      refine lv_dup2_11 hx hb d_X0_stir_253 rfl rfl ?_
      refine ln_iald hx hb hK hP 2 0 rfl rfl (by omega) (by omega) d_X0_stir_254 ?_
      refine lv_iload_n hx hb d_X0_stir_255 rfl (lv_at hl 2 rfl) ?_
      refine lv_iadd hx hb d_X0_stir_256 ?_
      refine lv_topi (fun x_10 ex_10 => ?_)
      refine ln_iast hx hb hK hP hD hS 2 0 rfl rfl (by omega) (by omega) d_X0_stir_257 (fun H locs hP hD hS => ?_)
      have hP : va_P g.2.1 cls7 [(h, .inr (0, [.ref nc, .ref fk, .ref ta, .ref ia, .ref qw, .ref qs])), (qw, .inl (cI g, 64, .inl fw)), (qs, .inl (cI g, 8, .inl (upd (upd fs 0 x_9) 1 x_10)))] H := hP
      have hD : va_D A [(h, .inr (0, [.ref nc, .ref fk, .ref ta, .ref ia, .ref qw, .ref qs])), (qw, .inl (cI g, 64, .inl fw)), (qs, .inl (cI g, 8, .inl (upd (upd fs 0 x_9) 1 x_10)))] := hD
      refine lv_aload_n hx hb d_X0_stir_258 rfl (lv_at hl 9 rfl) ?_
      refine va_get (D := g.2.1) (ci := 0) (v := .ref qs) (C := R_X0) (T := T_X0) (N := 6) hx hb ht i_X0 hown hK hP 0 rfl rfl 5 (by decide) (ht _ w_66) (fun _ h9 => h9) rfl d_X0_stir_259 ?_
      refine lv_iconst (v := (nI 2)) hx hb d_X0_stir_262 (by decide) ?_
      refine lv_dup2_11 hx hb d_X0_stir_263 rfl rfl ?_
      refine ln_iald hx hb hK hP 2 0 rfl rfl (by omega) (by omega) d_X0_stir_264 ?_
      refine lv_iload_n hx hb d_X0_stir_265 rfl (lv_at hl 3 rfl) ?_
      refine lv_iadd hx hb d_X0_stir_266 ?_
      refine lv_topi (fun x_11 ex_11 => ?_)
      refine ln_iast hx hb hK hP hD hS 2 0 rfl rfl (by omega) (by omega) d_X0_stir_267 (fun H locs hP hD hS => ?_)
      have hP : va_P g.2.1 cls7 [(h, .inr (0, [.ref nc, .ref fk, .ref ta, .ref ia, .ref qw, .ref qs])), (qw, .inl (cI g, 64, .inl fw)), (qs, .inl (cI g, 8, .inl (upd (upd (upd fs 0 x_9) 1 x_10) 2 x_11)))] H := hP
      have hD : va_D A [(h, .inr (0, [.ref nc, .ref fk, .ref ta, .ref ia, .ref qw, .ref qs])), (qw, .inl (cI g, 64, .inl fw)), (qs, .inl (cI g, 8, .inl (upd (upd (upd fs 0 x_9) 1 x_10) 2 x_11)))] := hD
      refine lv_aload_n hx hb d_X0_stir_268 rfl (lv_at hl 9 rfl) ?_
      refine va_get (D := g.2.1) (ci := 0) (v := .ref qs) (C := R_X0) (T := T_X0) (N := 6) hx hb ht i_X0 hown hK hP 0 rfl rfl 5 (by decide) (ht _ w_66) (fun _ h9 => h9) rfl d_X0_stir_269 ?_
      refine lv_iconst (v := (nI 3)) hx hb d_X0_stir_272 (by decide) ?_
      refine lv_dup2_11 hx hb d_X0_stir_273 rfl rfl ?_
      refine ln_iald hx hb hK hP 2 0 rfl rfl (by omega) (by omega) d_X0_stir_274 ?_
      refine lv_iload hx hb d_X0_stir_275 (lv_at hl 4 rfl) ?_
      refine lv_iadd hx hb d_X0_stir_277 ?_
      refine lv_topi (fun x_12 ex_12 => ?_)
      refine ln_iast hx hb hK hP hD hS 2 0 rfl rfl (by omega) (by omega) d_X0_stir_278 (fun H locs hP hD hS => ?_)
      have hP : va_P g.2.1 cls7 [(h, .inr (0, [.ref nc, .ref fk, .ref ta, .ref ia, .ref qw, .ref qs])), (qw, .inl (cI g, 64, .inl fw)), (qs, .inl (cI g, 8, .inl (upd (upd (upd (upd fs 0 x_9) 1 x_10) 2 x_11) 3 x_12)))] H := hP
      have hD : va_D A [(h, .inr (0, [.ref nc, .ref fk, .ref ta, .ref ia, .ref qw, .ref qs])), (qw, .inl (cI g, 64, .inl fw)), (qs, .inl (cI g, 8, .inl (upd (upd (upd (upd fs 0 x_9) 1 x_10) 2 x_11) 3 x_12)))] := hD
      refine lv_aload_n hx hb d_X0_stir_279 rfl (lv_at hl 9 rfl) ?_
      refine va_get (D := g.2.1) (ci := 0) (v := .ref qs) (C := R_X0) (T := T_X0) (N := 6) hx hb ht i_X0 hown hK hP 0 rfl rfl 5 (by decide) (ht _ w_66) (fun _ h9 => h9) rfl d_X0_stir_280 ?_
      refine lv_iconst (v := (nI 4)) hx hb d_X0_stir_283 (by decide) ?_
      refine lv_dup2_11 hx hb d_X0_stir_284 rfl rfl ?_
      refine ln_iald hx hb hK hP 2 0 rfl rfl (by omega) (by omega) d_X0_stir_285 ?_
      refine lv_iload hx hb d_X0_stir_286 (lv_at hl 5 rfl) ?_
      refine lv_iadd hx hb d_X0_stir_288 ?_
      refine lv_topi (fun x_13 ex_13 => ?_)
      refine ln_iast hx hb hK hP hD hS 2 0 rfl rfl (by omega) (by omega) d_X0_stir_289 (fun H locs hP hD hS => ?_)
      have hP : va_P g.2.1 cls7 [(h, .inr (0, [.ref nc, .ref fk, .ref ta, .ref ia, .ref qw, .ref qs])), (qw, .inl (cI g, 64, .inl fw)), (qs, .inl (cI g, 8, .inl (upd (upd (upd (upd (upd fs 0 x_9) 1 x_10) 2 x_11) 3 x_12) 4 x_13)))] H := hP
      have hD : va_D A [(h, .inr (0, [.ref nc, .ref fk, .ref ta, .ref ia, .ref qw, .ref qs])), (qw, .inl (cI g, 64, .inl fw)), (qs, .inl (cI g, 8, .inl (upd (upd (upd (upd (upd fs 0 x_9) 1 x_10) 2 x_11) 3 x_12) 4 x_13)))] := hD
      refine lv_aload_n hx hb d_X0_stir_290 rfl (lv_at hl 9 rfl) ?_
      refine va_get (D := g.2.1) (ci := 0) (v := .ref qs) (C := R_X0) (T := T_X0) (N := 6) hx hb ht i_X0 hown hK hP 0 rfl rfl 5 (by decide) (ht _ w_66) (fun _ h9 => h9) rfl d_X0_stir_291 ?_
      refine lv_iconst (v := (nI 5)) hx hb d_X0_stir_294 (by decide) ?_
      refine lv_dup2_11 hx hb d_X0_stir_295 rfl rfl ?_
      refine ln_iald hx hb hK hP 2 0 rfl rfl (by omega) (by omega) d_X0_stir_296 ?_
      refine lv_iload hx hb d_X0_stir_297 (lv_at hl 6 rfl) ?_
      refine lv_iadd hx hb d_X0_stir_299 ?_
      refine lv_topi (fun x_14 ex_14 => ?_)
      refine ln_iast hx hb hK hP hD hS 2 0 rfl rfl (by omega) (by omega) d_X0_stir_300 (fun H locs hP hD hS => ?_)
      have hP : va_P g.2.1 cls7 [(h, .inr (0, [.ref nc, .ref fk, .ref ta, .ref ia, .ref qw, .ref qs])), (qw, .inl (cI g, 64, .inl fw)), (qs, .inl (cI g, 8, .inl (upd (upd (upd (upd (upd (upd fs 0 x_9) 1 x_10) 2 x_11) 3 x_12) 4 x_13) 5 x_14)))] H := hP
      have hD : va_D A [(h, .inr (0, [.ref nc, .ref fk, .ref ta, .ref ia, .ref qw, .ref qs])), (qw, .inl (cI g, 64, .inl fw)), (qs, .inl (cI g, 8, .inl (upd (upd (upd (upd (upd (upd fs 0 x_9) 1 x_10) 2 x_11) 3 x_12) 4 x_13) 5 x_14)))] := hD
      refine lv_aload_n hx hb d_X0_stir_301 rfl (lv_at hl 9 rfl) ?_
      refine va_get (D := g.2.1) (ci := 0) (v := .ref qs) (C := R_X0) (T := T_X0) (N := 6) hx hb ht i_X0 hown hK hP 0 rfl rfl 5 (by decide) (ht _ w_66) (fun _ h9 => h9) rfl d_X0_stir_302 ?_
      refine lv_bipush (v := (nI 6)) hx hb d_X0_stir_305 (by decide) ?_
      refine lv_dup2_11 hx hb d_X0_stir_307 rfl rfl ?_
      refine ln_iald hx hb hK hP 2 0 rfl rfl (by omega) (by omega) d_X0_stir_308 ?_
      refine lv_iload hx hb d_X0_stir_309 (lv_at hl 7 rfl) ?_
      refine lv_iadd hx hb d_X0_stir_311 ?_
      refine lv_topi (fun x_15 ex_15 => ?_)
      refine ln_iast hx hb hK hP hD hS 2 0 rfl rfl (by omega) (by omega) d_X0_stir_312 (fun H locs hP hD hS => ?_)
      have hP : va_P g.2.1 cls7 [(h, .inr (0, [.ref nc, .ref fk, .ref ta, .ref ia, .ref qw, .ref qs])), (qw, .inl (cI g, 64, .inl fw)), (qs, .inl (cI g, 8, .inl (upd (upd (upd (upd (upd (upd (upd fs 0 x_9) 1 x_10) 2 x_11) 3 x_12) 4 x_13) 5 x_14) 6 x_15)))] H := hP
      have hD : va_D A [(h, .inr (0, [.ref nc, .ref fk, .ref ta, .ref ia, .ref qw, .ref qs])), (qw, .inl (cI g, 64, .inl fw)), (qs, .inl (cI g, 8, .inl (upd (upd (upd (upd (upd (upd (upd fs 0 x_9) 1 x_10) 2 x_11) 3 x_12) 4 x_13) 5 x_14) 6 x_15)))] := hD
      refine lv_aload_n hx hb d_X0_stir_313 rfl (lv_at hl 9 rfl) ?_
      refine va_get (D := g.2.1) (ci := 0) (v := .ref qs) (C := R_X0) (T := T_X0) (N := 6) hx hb ht i_X0 hown hK hP 0 rfl rfl 5 (by decide) (ht _ w_66) (fun _ h9 => h9) rfl d_X0_stir_314 ?_
      refine lv_bipush (v := (nI 7)) hx hb d_X0_stir_317 (by decide) ?_
      refine lv_dup2_11 hx hb d_X0_stir_319 rfl rfl ?_
      refine ln_iald hx hb hK hP 2 0 rfl rfl (by omega) (by omega) d_X0_stir_320 ?_
      refine lv_iload hx hb d_X0_stir_321 (lv_at hl 8 rfl) ?_
      refine lv_iadd hx hb d_X0_stir_323 ?_
      refine lv_topi (fun x_16 ex_16 => ?_)
      refine ln_iast hx hb hK hP hD hS 2 0 rfl rfl (by omega) (by omega) d_X0_stir_324 (fun H locs hP hD hS => ?_)
      have hP : va_P g.2.1 cls7 [(h, .inr (0, [.ref nc, .ref fk, .ref ta, .ref ia, .ref qw, .ref qs])), (qw, .inl (cI g, 64, .inl fw)), (qs, .inl (cI g, 8, .inl (upd (upd (upd (upd (upd (upd (upd (upd fs 0 x_9) 1 x_10) 2 x_11) 3 x_12) 4 x_13) 5 x_14) 6 x_15) 7 x_16)))] H := hP
      have hD : va_D A [(h, .inr (0, [.ref nc, .ref fk, .ref ta, .ref ia, .ref qw, .ref qs])), (qw, .inl (cI g, 64, .inl fw)), (qs, .inl (cI g, 8, .inl (upd (upd (upd (upd (upd (upd (upd (upd fs 0 x_9) 1 x_10) 2 x_11) 3 x_12) 4 x_13) 5 x_14) 6 x_15) 7 x_16)))] := hD
      obtain rfl : t = 64 := by omega
      have hfin : ∀ i, i < 8 → (upd (upd (upd (upd (upd (upd (upd (upd fs 0 x_9) 1 x_10) 2 x_11) 3 x_12) 4 x_13) 5 x_14) 6 x_15) 7 x_16) i = fs i + s8_at (sh_it sh_K fw 64 (fs 0, fs 1, fs 2, fs 3, fs 4, fs 5, fs 6, fs 7)) i := by
        intro i hi
        rw [← hinv]
        rcases (show i = 0 ∨ i = 1 ∨ i = 2 ∨ i = 3 ∨ i = 4 ∨ i = 5 ∨ i = 6 ∨ i = 7 by omega) with rfl | rfl | rfl | rfl | rfl | rfl | rfl | rfl
        all_goals simp [upd, s8_at, ex_9, ex_10, ex_11, ex_12, ex_13, ex_14, ex_15, ex_16]
      exact g_vret hx hb hr hlocks hP hD hS (upd (upd (upd (upd (upd (upd (upd (upd fs 0 x_9) 1 x_10) 2 x_11) 3 x_12) 4 x_13) 5 x_14) 6 x_15) 7 x_16) (List.Perm.refl _) ⟨rfl, hfin⟩ (Nat.le_of_ble_eq_true rfl) (Nat.le_of_ble_eq_true rfl) d_X0_stir_325
    | succ k ih =>
      intro t va vb vc vd ve vf vg vh hk hinv H locs hP hD hS ls hl
      refine lv_iload hx hb d_X0_stir_66 (lv_at hl 0 rfl) ?_
      refine lv_bipush (v := (nI 64)) hx hb d_X0_stir_68 (by decide) ?_
      refine ln_icmp_ge_f (tgt := 238) hx hb d_X0_stir_70 (by decide) (by omega) (by omega) (by omega) ?_
      refine lv_iload hx hb d_X0_stir_73 (lv_at hl 5 rfl) ?_
      refine lv_bipush (v := (nI 6)) hx hb d_X0_stir_75 (by decide) ?_
      refine lv_iushr (v := us ve (nI 6)) hx hb d_X0_stir_77 rfl ?_
      refine lv_iload hx hb d_X0_stir_78 (lv_at hl 5 rfl) ?_
      refine lv_bipush (v := (nI 26)) hx hb d_X0_stir_80 (by decide) ?_
      refine ln_ishl hx hb d_X0_stir_82 ?_
      refine lv_ior hx hb d_X0_stir_83 ?_
      refine lv_iload hx hb d_X0_stir_84 (lv_at hl 5 rfl) ?_
      refine lv_bipush (v := (nI 11)) hx hb d_X0_stir_86 (by decide) ?_
      refine lv_iushr (v := us ve (nI 11)) hx hb d_X0_stir_88 rfl ?_
      refine lv_iload hx hb d_X0_stir_89 (lv_at hl 5 rfl) ?_
      refine lv_bipush (v := (nI 21)) hx hb d_X0_stir_91 (by decide) ?_
      refine ln_ishl hx hb d_X0_stir_93 ?_
      refine lv_ior hx hb d_X0_stir_94 ?_
      refine lv_ixor hx hb d_X0_stir_95 ?_
      refine lv_iload hx hb d_X0_stir_96 (lv_at hl 5 rfl) ?_
      refine lv_bipush (v := (nI 25)) hx hb d_X0_stir_98 (by decide) ?_
      refine lv_iushr (v := us ve (nI 25)) hx hb d_X0_stir_100 rfl ?_
      refine lv_iload hx hb d_X0_stir_101 (lv_at hl 5 rfl) ?_
      refine lv_bipush (v := (nI 7)) hx hb d_X0_stir_103 (by decide) ?_
      refine ln_ishl hx hb d_X0_stir_105 ?_
      refine lv_ior hx hb d_X0_stir_106 ?_
      refine lv_ixor hx hb d_X0_stir_107 ?_
      refine lv_topi (fun x_17 ex_17 => ?_)
      refine lv_istore (lv' := [(10, .int x_17), (9, .int (nI t)), (1, .int va), (2, .int vb), (3, .int vc), (4, .int vd), (5, .int ve), (6, .int vf), (7, .int vg), (8, .int vh), (0, .ref h)]) hx hb d_X0_stir_108 hl (by decide) rfl (fun ls hl => ?_)
      refine lv_iload hx hb d_X0_stir_110 (lv_at hl 6 rfl) ?_
      refine lv_iload hx hb d_X0_stir_112 (lv_at hl 7 rfl) ?_
      refine lv_iand hx hb d_X0_stir_114 ?_
      refine lv_iload hx hb d_X0_stir_115 (lv_at hl 6 rfl) ?_
      refine lv_iconst (v := (-1)) hx hb d_X0_stir_117 (by decide) ?_
      refine lv_ixor hx hb d_X0_stir_118 ?_
      refine lv_iload hx hb d_X0_stir_119 (lv_at hl 8 rfl) ?_
      refine lv_iand hx hb d_X0_stir_121 ?_
      refine lv_ixor hx hb d_X0_stir_122 ?_
      refine lv_topi (fun x_18 ex_18 => ?_)
      refine lv_istore (lv' := [(11, .int x_18), (10, .int x_17), (9, .int (nI t)), (1, .int va), (2, .int vb), (3, .int vc), (4, .int vd), (5, .int ve), (6, .int vf), (7, .int vg), (8, .int vh), (0, .ref h)]) hx hb d_X0_stir_123 hl (by decide) rfl (fun ls hl => ?_)
      refine lv_iload hx hb d_X0_stir_125 (lv_at hl 10 rfl) ?_
      refine lv_iload hx hb d_X0_stir_127 (lv_at hl 1 rfl) ?_
      refine lv_iadd hx hb d_X0_stir_129 ?_
      refine lv_iload hx hb d_X0_stir_130 (lv_at hl 0 rfl) ?_
      refine lv_iadd hx hb d_X0_stir_132 ?_
      refine va_gets hx hb hZC hS hown (ht _ w_380) (fun _ h9 => h9) d_X0_stir_133 ?_
      refine lv_iload hx hb d_X0_stir_136 (lv_at hl 2 rfl) ?_
      refine ln_ti (v := sh_K t) hx hb hTC hS (by omega) (by decide) rfl d_X0_stir_138 ?_
      refine lv_iadd hx hb d_X0_stir_139 ?_
      refine lv_aload_n hx hb d_X0_stir_140 rfl (lv_at hl 11 rfl) ?_
      refine va_get (D := g.2.1) (ci := 0) (v := .ref qw) (C := R_X0) (T := T_X0) (N := 6) hx hb ht i_X0 hown hK hP 0 rfl rfl 4 (by decide) (ht _ w_65) (fun _ h9 => h9) rfl d_X0_stir_141 ?_
      refine lv_iload hx hb d_X0_stir_144 (lv_at hl 2 rfl) ?_
      refine ln_iald hx hb hK hP 1 0 rfl rfl (by omega) (by omega) d_X0_stir_146 ?_
      refine lv_iadd hx hb d_X0_stir_147 ?_
      refine lv_topi (fun x_19 ex_19 => ?_)
      refine lv_istore (lv' := [(12, .int x_19), (11, .int x_18), (10, .int x_17), (9, .int (nI t)), (1, .int va), (2, .int vb), (3, .int vc), (4, .int vd), (5, .int ve), (6, .int vf), (7, .int vg), (8, .int vh), (0, .ref h)]) hx hb d_X0_stir_148 hl (by decide) rfl (fun ls hl => ?_)
      refine lv_iload_n hx hb d_X0_stir_150 rfl (lv_at hl 4 rfl) ?_
      refine lv_iconst (v := (nI 2)) hx hb d_X0_stir_151 (by decide) ?_
      refine lv_iushr (v := us va (nI 2)) hx hb d_X0_stir_152 rfl ?_
      refine lv_iload_n hx hb d_X0_stir_153 rfl (lv_at hl 4 rfl) ?_
      refine lv_bipush (v := (nI 30)) hx hb d_X0_stir_154 (by decide) ?_
      refine ln_ishl hx hb d_X0_stir_156 ?_
      refine lv_ior hx hb d_X0_stir_157 ?_
      refine lv_iload_n hx hb d_X0_stir_158 rfl (lv_at hl 4 rfl) ?_
      refine lv_bipush (v := (nI 13)) hx hb d_X0_stir_159 (by decide) ?_
      refine lv_iushr (v := us va (nI 13)) hx hb d_X0_stir_161 rfl ?_
      refine lv_iload_n hx hb d_X0_stir_162 rfl (lv_at hl 4 rfl) ?_
      refine lv_bipush (v := (nI 19)) hx hb d_X0_stir_163 (by decide) ?_
      refine ln_ishl hx hb d_X0_stir_165 ?_
      refine lv_ior hx hb d_X0_stir_166 ?_
      refine lv_ixor hx hb d_X0_stir_167 ?_
      refine lv_iload_n hx hb d_X0_stir_168 rfl (lv_at hl 4 rfl) ?_
      refine lv_bipush (v := (nI 22)) hx hb d_X0_stir_169 (by decide) ?_
      refine lv_iushr (v := us va (nI 22)) hx hb d_X0_stir_171 rfl ?_
      refine lv_iload_n hx hb d_X0_stir_172 rfl (lv_at hl 4 rfl) ?_
      refine lv_bipush (v := (nI 10)) hx hb d_X0_stir_173 (by decide) ?_
      refine ln_ishl hx hb d_X0_stir_175 ?_
      refine lv_ior hx hb d_X0_stir_176 ?_
      refine lv_ixor hx hb d_X0_stir_177 ?_
      refine lv_topi (fun x_20 ex_20 => ?_)
      refine lv_istore (lv' := [(13, .int x_20), (12, .int x_19), (11, .int x_18), (10, .int x_17), (9, .int (nI t)), (1, .int va), (2, .int vb), (3, .int vc), (4, .int vd), (5, .int ve), (6, .int vf), (7, .int vg), (8, .int vh), (0, .ref h)]) hx hb d_X0_stir_178 hl (by decide) rfl (fun ls hl => ?_)
      refine lv_iload_n hx hb d_X0_stir_180 rfl (lv_at hl 5 rfl) ?_
      refine lv_iload_n hx hb d_X0_stir_181 rfl (lv_at hl 6 rfl) ?_
      refine lv_iand hx hb d_X0_stir_182 ?_
      refine lv_iload_n hx hb d_X0_stir_183 rfl (lv_at hl 5 rfl) ?_
      refine lv_iload_n hx hb d_X0_stir_184 rfl (lv_at hl 7 rfl) ?_
      refine lv_iand hx hb d_X0_stir_185 ?_
      refine lv_ixor hx hb d_X0_stir_186 ?_
      refine lv_iload_n hx hb d_X0_stir_187 rfl (lv_at hl 6 rfl) ?_
      refine lv_iload_n hx hb d_X0_stir_188 rfl (lv_at hl 7 rfl) ?_
      refine lv_iand hx hb d_X0_stir_189 ?_
      refine lv_ixor hx hb d_X0_stir_190 ?_
      refine lv_topi (fun x_21 ex_21 => ?_)
      refine lv_istore (lv' := [(14, .int x_21), (13, .int x_20), (12, .int x_19), (11, .int x_18), (10, .int x_17), (9, .int (nI t)), (1, .int va), (2, .int vb), (3, .int vc), (4, .int vd), (5, .int ve), (6, .int vf), (7, .int vg), (8, .int vh), (0, .ref h)]) hx hb d_X0_stir_191 hl (by decide) rfl (fun ls hl => ?_)
      refine lv_iload hx hb d_X0_stir_193 (lv_at hl 1 rfl) ?_
      refine lv_iload hx hb d_X0_stir_195 (lv_at hl 0 rfl) ?_
      refine lv_iadd hx hb d_X0_stir_197 ?_
      refine lv_topi (fun x_22 ex_22 => ?_)
      refine lv_istore (lv' := [(15, .int x_22), (14, .int x_21), (13, .int x_20), (12, .int x_19), (11, .int x_18), (10, .int x_17), (9, .int (nI t)), (1, .int va), (2, .int vb), (3, .int vc), (4, .int vd), (5, .int ve), (6, .int vf), (7, .int vg), (8, .int vh), (0, .ref h)]) hx hb d_X0_stir_198 hl (by decide) rfl (fun ls hl => ?_)
      refine lv_iload hx hb d_X0_stir_200 (lv_at hl 13 rfl) ?_
      refine lv_istore (lv' := [(8, .int vg), (15, .int x_22), (14, .int x_21), (13, .int x_20), (12, .int x_19), (11, .int x_18), (10, .int x_17), (9, .int (nI t)), (1, .int va), (2, .int vb), (3, .int vc), (4, .int vd), (5, .int ve), (6, .int vf), (7, .int vg), (0, .ref h)]) hx hb d_X0_stir_202 hl (by decide) rfl (fun ls hl => ?_)
      refine lv_iload hx hb d_X0_stir_204 (lv_at hl 13 rfl) ?_
      refine lv_istore (lv' := [(7, .int vf), (8, .int vg), (15, .int x_22), (14, .int x_21), (13, .int x_20), (12, .int x_19), (11, .int x_18), (10, .int x_17), (9, .int (nI t)), (1, .int va), (2, .int vb), (3, .int vc), (4, .int vd), (5, .int ve), (6, .int vf), (0, .ref h)]) hx hb d_X0_stir_206 hl (by decide) rfl (fun ls hl => ?_)
      refine lv_iload hx hb d_X0_stir_208 (lv_at hl 13 rfl) ?_
      refine lv_istore (lv' := [(6, .int ve), (7, .int vf), (8, .int vg), (15, .int x_22), (14, .int x_21), (13, .int x_20), (12, .int x_19), (11, .int x_18), (10, .int x_17), (9, .int (nI t)), (1, .int va), (2, .int vb), (3, .int vc), (4, .int vd), (5, .int ve), (0, .ref h)]) hx hb d_X0_stir_210 hl (by decide) rfl (fun ls hl => ?_)
      refine lv_iload hx hb d_X0_stir_212 (lv_at hl 13 rfl) ?_
      refine lv_iload hx hb d_X0_stir_214 (lv_at hl 6 rfl) ?_
      refine lv_iadd hx hb d_X0_stir_216 ?_
      refine lv_topi (fun x_23 ex_23 => ?_)
      refine lv_istore (lv' := [(5, .int x_23), (6, .int ve), (7, .int vf), (8, .int vg), (15, .int x_22), (14, .int x_21), (13, .int x_20), (12, .int x_19), (11, .int x_18), (10, .int x_17), (9, .int (nI t)), (1, .int va), (2, .int vb), (3, .int vc), (4, .int vd), (0, .ref h)]) hx hb d_X0_stir_217 hl (by decide) rfl (fun ls hl => ?_)
      refine lv_iload_n hx hb d_X0_stir_219 rfl (lv_at hl 13 rfl) ?_
      refine lv_istore (lv' := [(4, .int vc), (5, .int x_23), (6, .int ve), (7, .int vf), (8, .int vg), (15, .int x_22), (14, .int x_21), (13, .int x_20), (12, .int x_19), (11, .int x_18), (10, .int x_17), (9, .int (nI t)), (1, .int va), (2, .int vb), (3, .int vc), (0, .ref h)]) hx hb d_X0_stir_220 hl (by decide) rfl (fun ls hl => ?_)
      refine lv_iload_n hx hb d_X0_stir_222 rfl (lv_at hl 13 rfl) ?_
      refine lv_istore_n (lv' := [(3, .int vb), (4, .int vc), (5, .int x_23), (6, .int ve), (7, .int vf), (8, .int vg), (15, .int x_22), (14, .int x_21), (13, .int x_20), (12, .int x_19), (11, .int x_18), (10, .int x_17), (9, .int (nI t)), (1, .int va), (2, .int vb), (0, .ref h)]) hx hb d_X0_stir_223 rfl hl (by decide) rfl (fun ls hl => ?_)
      refine lv_iload_n hx hb d_X0_stir_224 rfl (lv_at hl 13 rfl) ?_
      refine lv_istore_n (lv' := [(2, .int va), (3, .int vb), (4, .int vc), (5, .int x_23), (6, .int ve), (7, .int vf), (8, .int vg), (15, .int x_22), (14, .int x_21), (13, .int x_20), (12, .int x_19), (11, .int x_18), (10, .int x_17), (9, .int (nI t)), (1, .int va), (0, .ref h)]) hx hb d_X0_stir_225 rfl hl (by decide) rfl (fun ls hl => ?_)
      refine lv_iload hx hb d_X0_stir_226 (lv_at hl 10 rfl) ?_
      refine lv_iload hx hb d_X0_stir_228 (lv_at hl 7 rfl) ?_
      refine lv_iadd hx hb d_X0_stir_230 ?_
      refine lv_topi (fun x_24 ex_24 => ?_)
      refine lv_istore_n (lv' := [(1, .int x_24), (2, .int va), (3, .int vb), (4, .int vc), (5, .int x_23), (6, .int ve), (7, .int vf), (8, .int vg), (15, .int x_22), (14, .int x_21), (13, .int x_20), (12, .int x_19), (11, .int x_18), (10, .int x_17), (9, .int (nI t)), (0, .ref h)]) hx hb d_X0_stir_231 rfl hl (by decide) rfl (fun ls hl => ?_)
      refine ln_iinc (d := 1) (lv' := [(9, .int (nI (t + 1))), (1, .int x_24), (2, .int va), (3, .int vb), (4, .int vc), (5, .int x_23), (6, .int ve), (7, .int vf), (8, .int vg), (15, .int x_22), (14, .int x_21), (13, .int x_20), (12, .int x_19), (11, .int x_18), (10, .int x_17), (0, .ref h)]) hx hb d_X0_stir_232 hl (k := 14) rfl rfl (by decide) rfl (fun ls hl => ?_)
      refine lv_goto (tgt := 66) hx hb d_X0_stir_235 (by decide) ?_
      have hnew : (x_24, va, vb, vc, x_23, ve, vf, vg) = sh_it sh_K fw (t + 1) (fs 0, fs 1, fs 2, fs 3, fs 4, fs 5, fs 6, fs 7) := by
        rw [sh_it, ← hinv]
        simp only [sh_step, sh_E, sh_A, sh_ch, sh_mj, ex_17, ex_18, ex_19, ex_20, ex_21, ex_22, ex_23, ex_24]
      exact ih (t + 1) x_24 va vb vc x_23 ve vf vg (by omega) hnew _ _ hP hD hS ls (lv_sub hl [0, 1, 2, 3, 4, 5, 6, 7, 8, 15] rfl)
  exact loop 64 0 x_1 x_2 x_3 x_4 x_5 x_6 x_7 x_8 (by omega) (by simp only [sh_it, ex_1, ex_2, ex_3, ex_4, ex_5, ex_6, ex_7, ex_8]) _ _ hP hD hS ls (lv_sub hl [0, 8, 7, 6, 5, 4, 3, 2, 1, 9] rfl)
