/-- what lookAt answers -/
def lkA (l w : Nat) (M : List Nat) : Int32 := if M.length = 0 then 0 else if ¬ (lvB l w = true ∧ M.getD 0 0 = w) then -266 else if M.length < 4 then 0 else if szB w (bsz M) = false then -306 else if M.length < 4 + bsz M then 0 else nI (4 + bsz M)
theorem szB_le24 {w n : Nat} (h : szB w n = true) : n ≤ 332 := szB_le h
set_option maxHeartbeats 1000000 in
set_option maxRecDepth 100000 in
theorem c_X6_levelOf (g : GG) (t : Nat) (ht31 : t < 2 ^ 31) : Cg g y_X6_levelOf b_X6_levelOf 1 (some .int) ({ frames := 0, cells := 0, slots := 0, locals := 0 } : Room) [.int (nI t)] [] (S := Unit) (fun (v : Option Value) (_ : Unit) => v = some (.int (nI (if t = 1 ∨ t = 2 then 0 else 1)))) (fun (_ : Unit) => []) := by
  refine Ct_of (cc := b_X6_levelOf) (maxL := 1) (ret := (some .int)) (by decide) rfl (Nat.le_of_ble_eq_true rfl) ?_
  intro p e s m below meth c A ls hx hb hr hml hown hts hlocks hin hA hP hK hD hXs hS hl
  have ht : ∀ w ∈ tb, w.before [.int (nI t)].toArray s = true := fun w h => hts w (List.mem_cons_of_mem _ h)
  have hown : s.vm.findClass R_X6 = some m.cls := hown
  have hl : lv_has ls 1 [(0, .int (nI t))] := hl
  refine lv_iload_n hx hb d_X6_levelOf_0 rfl (lv_at hl 0 rfl) ?_
  refine lv_iconst (v := (nI 1)) hx hb d_X6_levelOf_1 (by decide) ?_
  refine ln_icmp_eq (tgt := 10) hx hb d_X6_levelOf_2 (by decide) (by omega) (by omega) (fun c_1 => ?_) (fun c_1 => ?_)
  · refine lv_iconst (v := (nI 0)) hx hb d_X6_levelOf_10 (by decide) ?_
    refine lv_goto (tgt := 15) hx hb d_X6_levelOf_11 (by decide) ?_
    have e0 : 0 = (if t = 1 ∨ t = 2 then 0 else 1) := (if_pos (by omega)).symm
    exact g_iret (v := (nI 0)) hx hb hr hlocks hP hD hS () (List.Perm.refl _) (congrArg (fun z => some (Value.int (nI z))) e0) (Nat.le_of_ble_eq_true rfl) (Nat.le_of_ble_eq_true rfl) d_X6_levelOf_15
  · refine lv_iload_n hx hb d_X6_levelOf_5 rfl (lv_at hl 0 rfl) ?_
    refine lv_iconst (v := (nI 2)) hx hb d_X6_levelOf_6 (by decide) ?_
    refine ln_icmp_ne (tgt := 14) hx hb d_X6_levelOf_7 (by decide) (by omega) (by omega) (fun c_2 => ?_) (fun c_2 => ?_)
    · refine lv_iconst (v := (nI 1)) hx hb d_X6_levelOf_14 (by decide) ?_
      have e0 : 1 = (if t = 1 ∨ t = 2 then 0 else 1) := (if_neg (by omega)).symm
      exact g_iret (v := (nI 1)) hx hb hr hlocks hP hD hS () (List.Perm.refl _) (congrArg (fun z => some (Value.int (nI z))) e0) (Nat.le_of_ble_eq_true rfl) (Nat.le_of_ble_eq_true rfl) d_X6_levelOf_15
    · refine lv_iconst (v := (nI 0)) hx hb d_X6_levelOf_10 (by decide) ?_
      refine lv_goto (tgt := 15) hx hb d_X6_levelOf_11 (by decide) ?_
      have e0 : 0 = (if t = 1 ∨ t = 2 then 0 else 1) := (if_pos (by omega)).symm
      exact g_iret (v := (nI 0)) hx hb hr hlocks hP hD hS () (List.Perm.refl _) (congrArg (fun z => some (Value.int (nI z))) e0) (Nat.le_of_ble_eq_true rfl) (Nat.le_of_ble_eq_true rfl) d_X6_levelOf_15

set_option maxHeartbeats 1000000 in
set_option maxRecDepth 100000 in
theorem c_X6_isSize (g : GG) (t : Nat) (n : Nat) (ht31 : t < 2 ^ 31) (hn24 : n < 2 ^ 24) : Cg g y_X6_isSize b_X6_isSize 2 (some .boolean) ({ frames := 0, cells := 0, slots := 0, locals := 0 } : Room) [.int (nI t), .int (nI n)] [] (S := Unit) (fun (v : Option Value) (_ : Unit) => v = some (.int (if szB t n = true then 1 else 0))) (fun (_ : Unit) => []) := by
  refine Ct_of (cc := b_X6_isSize) (maxL := 2) (ret := (some .boolean)) (by decide) rfl (Nat.le_of_ble_eq_true rfl) ?_
  intro p e s m below meth c A ls hx hb hr hml hown hts hlocks hin hA hP hK hD hXs hS hl
  have ht : ∀ w ∈ tb, w.before [.int (nI t), .int (nI n)].toArray s = true := fun w h => hts w (List.mem_cons_of_mem _ h)
  have hown : s.vm.findClass R_X6 = some m.cls := hown
  have hl : lv_has ls 2 [(0, .int (nI t)), (1, .int (nI n))] := hl
  refine lv_iload_n hx hb d_X6_isSize_0 rfl (lv_at hl 0 rfl) ?_
  refine lv_iconst (v := (nI 1)) hx hb d_X6_isSize_1 (by decide) ?_
  refine ln_icmp_ne (tgt := 26) hx hb d_X6_isSize_2 (by decide) (by omega) (by omega) (fun c_1 => ?_) (fun c_1 => ?_)
  · refine lv_iload_n hx hb d_X6_isSize_26 rfl (lv_at hl 0 rfl) ?_
    refine lv_bipush (v := (nI 8)) hx hb d_X6_isSize_27 (by decide) ?_
    refine ln_icmp_ne (tgt := 47) hx hb d_X6_isSize_29 (by decide) (by omega) (by omega) (fun c_2 => ?_) (fun c_2 => ?_)
    · refine lv_iload_n hx hb d_X6_isSize_47 rfl (lv_at hl 1 rfl) ?_
      refine lv_bipush (v := (nI 32)) hx hb d_X6_isSize_48 (by decide) ?_
      refine ln_icmp_ne (tgt := 57) hx hb d_X6_isSize_50 (by decide) (by omega) (by omega) (fun c_3 => ?_) (fun c_3 => ?_)
      · refine lv_iconst (v := (nI 0)) hx hb d_X6_isSize_57 (by decide) ?_
        have hsz : szB t n = false := by
          unfold szB
          by_cases t1 : t = 1
          · rw [if_pos t1]; simp only [decide_eq_true_eq, decide_eq_false_iff_not]; omega
          · rw [if_neg t1]
            by_cases t8 : t = 8
            · rw [if_pos t8]; simp only [decide_eq_true_eq, decide_eq_false_iff_not]; omega
            · rw [if_neg t8]; simp only [decide_eq_true_eq, decide_eq_false_iff_not]; omega
        have e0 : (nI 0) = (if szB t n = true then 1 else 0) := by rw [hsz]; rfl
        exact g_zret (v := (nI 0)) hx hb hr hlocks hP hD hS () (List.Perm.refl _) (by decide) (congrArg (fun z => some (Value.int z)) e0) (Nat.le_of_ble_eq_true rfl) (Nat.le_of_ble_eq_true rfl) d_X6_isSize_58
      · refine lv_iconst (v := (nI 1)) hx hb d_X6_isSize_53 (by decide) ?_
        refine lv_goto (tgt := 58) hx hb d_X6_isSize_54 (by decide) ?_
        have hsz : szB t n = true := by
          unfold szB
          by_cases t1 : t = 1
          · rw [if_pos t1]; simp only [decide_eq_true_eq, decide_eq_false_iff_not]; omega
          · rw [if_neg t1]
            by_cases t8 : t = 8
            · rw [if_pos t8]; simp only [decide_eq_true_eq, decide_eq_false_iff_not]; omega
            · rw [if_neg t8]; simp only [decide_eq_true_eq, decide_eq_false_iff_not]; omega
        have e0 : (nI 1) = (if szB t n = true then 1 else 0) := by rw [hsz]; rfl
        exact g_zret (v := (nI 1)) hx hb hr hlocks hP hD hS () (List.Perm.refl _) (by decide) (congrArg (fun z => some (Value.int z)) e0) (Nat.le_of_ble_eq_true rfl) (Nat.le_of_ble_eq_true rfl) d_X6_isSize_58
    · refine lv_iload_n hx hb d_X6_isSize_32 rfl (lv_at hl 1 rfl) ?_
      refine lv_sipush (v := (nI 300)) hx hb d_X6_isSize_33 (by decide) ?_
      refine ln_icmp_gt (tgt := 43) hx hb d_X6_isSize_36 (by decide) (by omega) (by omega) (fun c_4 => ?_) (fun c_4 => ?_)
      · refine lv_iconst (v := (nI 0)) hx hb d_X6_isSize_43 (by decide) ?_
        refine lv_goto (tgt := 58) hx hb d_X6_isSize_44 (by decide) ?_
        have hsz : szB t n = false := by
          unfold szB
          by_cases t1 : t = 1
          · rw [if_pos t1]; simp only [decide_eq_true_eq, decide_eq_false_iff_not]; omega
          · rw [if_neg t1]
            by_cases t8 : t = 8
            · rw [if_pos t8]; simp only [decide_eq_true_eq, decide_eq_false_iff_not]; omega
            · rw [if_neg t8]; simp only [decide_eq_true_eq, decide_eq_false_iff_not]; omega
        have e0 : (nI 0) = (if szB t n = true then 1 else 0) := by rw [hsz]; rfl
        exact g_zret (v := (nI 0)) hx hb hr hlocks hP hD hS () (List.Perm.refl _) (by decide) (congrArg (fun z => some (Value.int z)) e0) (Nat.le_of_ble_eq_true rfl) (Nat.le_of_ble_eq_true rfl) d_X6_isSize_58
      · refine lv_iconst (v := (nI 1)) hx hb d_X6_isSize_39 (by decide) ?_
        refine lv_goto (tgt := 58) hx hb d_X6_isSize_40 (by decide) ?_
        have hsz : szB t n = true := by
          unfold szB
          by_cases t1 : t = 1
          · rw [if_pos t1]; simp only [decide_eq_true_eq, decide_eq_false_iff_not]; omega
          · rw [if_neg t1]
            by_cases t8 : t = 8
            · rw [if_pos t8]; simp only [decide_eq_true_eq, decide_eq_false_iff_not]; omega
            · rw [if_neg t8]; simp only [decide_eq_true_eq, decide_eq_false_iff_not]; omega
        have e0 : (nI 1) = (if szB t n = true then 1 else 0) := by rw [hsz]; rfl
        exact g_zret (v := (nI 1)) hx hb hr hlocks hP hD hS () (List.Perm.refl _) (by decide) (congrArg (fun z => some (Value.int z)) e0) (Nat.le_of_ble_eq_true rfl) (Nat.le_of_ble_eq_true rfl) d_X6_isSize_58
  · refine lv_iload_n hx hb d_X6_isSize_5 rfl (lv_at hl 1 rfl) ?_
    refine lv_bipush (v := (nI 32)) hx hb d_X6_isSize_6 (by decide) ?_
    refine ln_icmp_lt (tgt := 22) hx hb d_X6_isSize_8 (by decide) (by omega) (by omega) (fun c_5 => ?_) (fun c_5 => ?_)
    · refine lv_iconst (v := (nI 0)) hx hb d_X6_isSize_22 (by decide) ?_
      refine lv_goto (tgt := 58) hx hb d_X6_isSize_23 (by decide) ?_
      have hsz : szB t n = false := by
        unfold szB
        by_cases t1 : t = 1
        · rw [if_pos t1]; simp only [decide_eq_true_eq, decide_eq_false_iff_not]; omega
        · rw [if_neg t1]
          by_cases t8 : t = 8
          · rw [if_pos t8]; simp only [decide_eq_true_eq, decide_eq_false_iff_not]; omega
          · rw [if_neg t8]; simp only [decide_eq_true_eq, decide_eq_false_iff_not]; omega
      have e0 : (nI 0) = (if szB t n = true then 1 else 0) := by rw [hsz]; rfl
      exact g_zret (v := (nI 0)) hx hb hr hlocks hP hD hS () (List.Perm.refl _) (by decide) (congrArg (fun z => some (Value.int z)) e0) (Nat.le_of_ble_eq_true rfl) (Nat.le_of_ble_eq_true rfl) d_X6_isSize_58
    · refine lv_iload_n hx hb d_X6_isSize_11 rfl (lv_at hl 1 rfl) ?_
      refine lv_sipush (v := (nI 332)) hx hb d_X6_isSize_12 (by decide) ?_
      refine ln_icmp_gt (tgt := 22) hx hb d_X6_isSize_15 (by decide) (by omega) (by omega) (fun c_6 => ?_) (fun c_6 => ?_)
      · refine lv_iconst (v := (nI 0)) hx hb d_X6_isSize_22 (by decide) ?_
        refine lv_goto (tgt := 58) hx hb d_X6_isSize_23 (by decide) ?_
        have hsz : szB t n = false := by
          unfold szB
          by_cases t1 : t = 1
          · rw [if_pos t1]; simp only [decide_eq_true_eq, decide_eq_false_iff_not]; omega
          · rw [if_neg t1]
            by_cases t8 : t = 8
            · rw [if_pos t8]; simp only [decide_eq_true_eq, decide_eq_false_iff_not]; omega
            · rw [if_neg t8]; simp only [decide_eq_true_eq, decide_eq_false_iff_not]; omega
        have e0 : (nI 0) = (if szB t n = true then 1 else 0) := by rw [hsz]; rfl
        exact g_zret (v := (nI 0)) hx hb hr hlocks hP hD hS () (List.Perm.refl _) (by decide) (congrArg (fun z => some (Value.int z)) e0) (Nat.le_of_ble_eq_true rfl) (Nat.le_of_ble_eq_true rfl) d_X6_isSize_58
      · refine lv_iconst (v := (nI 1)) hx hb d_X6_isSize_18 (by decide) ?_
        refine lv_goto (tgt := 58) hx hb d_X6_isSize_19 (by decide) ?_
        have hsz : szB t n = true := by
          unfold szB
          by_cases t1 : t = 1
          · rw [if_pos t1]; simp only [decide_eq_true_eq, decide_eq_false_iff_not]; omega
          · rw [if_neg t1]
            by_cases t8 : t = 8
            · rw [if_pos t8]; simp only [decide_eq_true_eq, decide_eq_false_iff_not]; omega
            · rw [if_neg t8]; simp only [decide_eq_true_eq, decide_eq_false_iff_not]; omega
        have e0 : (nI 1) = (if szB t n = true then 1 else 0) := by rw [hsz]; rfl
        exact g_zret (v := (nI 1)) hx hb hr hlocks hP hD hS () (List.Perm.refl _) (by decide) (congrArg (fun z => some (Value.int z)) e0) (Nat.le_of_ble_eq_true rfl) (Nat.le_of_ble_eq_true rfl) d_X6_isSize_58

set_option maxHeartbeats 1000000 in
set_option maxRecDepth 100000 in
theorem c_X6_comes (g : GG) (mo : Nat) (ma : Nat → Nat) (th : Nat) (tp : Nat) (sz : Nat) (nb : Nat) (l : Nat) (wg : Nat → Int32) (wz : Nat → Int32) (M : List Nat) (b : Nat) (hb2n : nb < 2) (hl2 : l < 2) (hwz : wz (2 * nb + l) = nI M.length) (hM : M.length < 2048) : Cg g y_X6_comes b_X6_comes 5 none ({ frames := 0, cells := 0, slots := 0, locals := 0 } : Room) [.ref mo, .int (nI nb), .int (nI l), .int (nI b)] [(mo, .inr (6, .int (nI th) :: .ref (ma 1) :: .int (nI tp) :: .ref (ma 3) :: .ref (ma 4) :: .ref (ma 5) :: .ref (ma 6) :: .ref (ma 7) :: .ref (ma 8) :: .ref (ma 9) :: .ref (ma 10) :: .ref (ma 11) :: .ref (ma 12) :: .ref (ma 13) :: .ref (ma 14) :: .ref (ma 15) :: .ref (ma 16) :: .ref (ma 17) :: .ref (ma 18) :: .ref (ma 19) :: .ref (ma 20) :: .ref (ma 21) :: .ref (ma 22) :: .ref (ma 23) :: .ref (ma 24) :: .ref (ma 25) :: .ref (ma 26) :: .ref (ma 27) :: .ref (ma 28) :: .ref (ma 29) :: .ref (ma 30) :: .ref (ma 31) :: .ref (ma 32) :: .int (nI sz) :: .ref (ma 34) :: .ref (ma 35) :: .ref (ma 36) :: .ref (ma 37) :: [])), (ma 18, .inl (cI g, 8192, .inl wg)), (ma 19, .inl (cI g, 4, .inl wz))] (S := Unit) (fun (v : Option Value) (_ : Unit) => v = none) (fun (_ : Unit) => [(mo, .inr (6, .int (nI th) :: .ref (ma 1) :: .int (nI tp) :: .ref (ma 3) :: .ref (ma 4) :: .ref (ma 5) :: .ref (ma 6) :: .ref (ma 7) :: .ref (ma 8) :: .ref (ma 9) :: .ref (ma 10) :: .ref (ma 11) :: .ref (ma 12) :: .ref (ma 13) :: .ref (ma 14) :: .ref (ma 15) :: .ref (ma 16) :: .ref (ma 17) :: .ref (ma 18) :: .ref (ma 19) :: .ref (ma 20) :: .ref (ma 21) :: .ref (ma 22) :: .ref (ma 23) :: .ref (ma 24) :: .ref (ma 25) :: .ref (ma 26) :: .ref (ma 27) :: .ref (ma 28) :: .ref (ma 29) :: .ref (ma 30) :: .ref (ma 31) :: .ref (ma 32) :: .int (nI sz) :: .ref (ma 34) :: .ref (ma 35) :: .ref (ma 36) :: .ref (ma 37) :: [])), (ma 18, .inl (cI g, 8192, .inl (upd wg (2048 * (2 * nb + l) + M.length) (nI b)))), (ma 19, .inl (cI g, 4, .inl (upd wz (2 * nb + l) (nI (M.length + 1)))))]) := by
  refine Ct_of (cc := b_X6_comes) (maxL := 5) (ret := none) (by decide) rfl (Nat.le_of_ble_eq_true rfl) ?_
  intro p e s m below meth c A ls hx hb hr hml hown hts hlocks hin hA hP hK hD hXs hS hl
  have ht : ∀ w ∈ tb, w.before [.ref mo, .int (nI nb), .int (nI l), .int (nI b)].toArray s = true := fun w h => hts w (List.mem_cons_of_mem _ h)
  have hown : s.vm.findClass R_X6 = some m.cls := hown
  have hl : lv_has ls 5 [(0, .ref mo), (1, .int (nI nb)), (2, .int (nI l)), (3, .int (nI b))] := hl
  refine lv_iconst (v := (nI 2)) hx hb d_X6_comes_0 (by decide) ?_
  refine lv_iload_n hx hb d_X6_comes_1 rfl (lv_at hl 1 rfl) ?_
  refine ln_imul hx hb d_X6_comes_2 ?_
  refine lv_iload_n hx hb d_X6_comes_3 rfl (lv_at hl 2 rfl) ?_
  refine ln_iadd hx hb d_X6_comes_4 ?_
  refine lv_istore (lv' := [(4, .int (nI ((2 * nb) + l))), (0, .ref mo), (1, .int (nI nb)), (2, .int (nI l)), (3, .int (nI b))]) hx hb d_X6_comes_5 hl (by decide) rfl (fun ls hl => ?_)
  refine lv_aload_n hx hb d_X6_comes_7 rfl (lv_at hl 1 rfl) ?_
  refine va_get (D := g.2.1) (ci := 6) (v := .ref (ma 18)) (C := R_X6) (T := T_X6) (N := 38) hx hb ht i_X6 hown hK hP 0 rfl rfl 18 (by decide) (ht _ w_686) (fun _ h9 => h9) rfl d_X6_comes_8 ?_
  refine lv_sipush (v := (nI 2048)) hx hb d_X6_comes_11 (by decide) ?_
  refine lv_iload hx hb d_X6_comes_14 (lv_at hl 0 rfl) ?_
  refine ln_imul hx hb d_X6_comes_16 ?_
  refine lv_aload_n hx hb d_X6_comes_17 rfl (lv_at hl 1 rfl) ?_
  refine va_get (D := g.2.1) (ci := 6) (v := .ref (ma 19)) (C := R_X6) (T := T_X6) (N := 38) hx hb ht i_X6 hown hK hP 0 rfl rfl 19 (by decide) (ht _ w_687) (fun _ h9 => h9) rfl d_X6_comes_18 ?_
  refine lv_iload hx hb d_X6_comes_21 (lv_at hl 0 rfl) ?_
  refine ln_iald hx hb hK hP 2 0 rfl rfl (by omega) (by omega) d_X6_comes_23 ?_
  refine W.eq (g2 := F0 m 24 ls [.int (nI M.length), .int (nI (2048 * ((2 * nb) + l))), .ref (ma 18)]) (by rw [hwz]) ?_
  refine ln_iadd hx hb d_X6_comes_24 ?_
  refine lv_iload_n hx hb d_X6_comes_25 rfl (lv_at hl 4 rfl) ?_
  refine ln_iast hx hb hK hP hD hS 1 0 rfl rfl (by omega) (by omega) d_X6_comes_26 (fun H locs hP hD hS => ?_)
  have hP : va_P g.2.1 cls7 [(mo, .inr (6, .int (nI th) :: .ref (ma 1) :: .int (nI tp) :: .ref (ma 3) :: .ref (ma 4) :: .ref (ma 5) :: .ref (ma 6) :: .ref (ma 7) :: .ref (ma 8) :: .ref (ma 9) :: .ref (ma 10) :: .ref (ma 11) :: .ref (ma 12) :: .ref (ma 13) :: .ref (ma 14) :: .ref (ma 15) :: .ref (ma 16) :: .ref (ma 17) :: .ref (ma 18) :: .ref (ma 19) :: .ref (ma 20) :: .ref (ma 21) :: .ref (ma 22) :: .ref (ma 23) :: .ref (ma 24) :: .ref (ma 25) :: .ref (ma 26) :: .ref (ma 27) :: .ref (ma 28) :: .ref (ma 29) :: .ref (ma 30) :: .ref (ma 31) :: .ref (ma 32) :: .int (nI sz) :: .ref (ma 34) :: .ref (ma 35) :: .ref (ma 36) :: .ref (ma 37) :: [])), (ma 18, .inl (cI g, 8192, .inl (upd wg ((2048 * ((2 * nb) + l)) + M.length) (nI b)))), (ma 19, .inl (cI g, 4, .inl wz))] H := hP
  have hD : va_D A [(mo, .inr (6, .int (nI th) :: .ref (ma 1) :: .int (nI tp) :: .ref (ma 3) :: .ref (ma 4) :: .ref (ma 5) :: .ref (ma 6) :: .ref (ma 7) :: .ref (ma 8) :: .ref (ma 9) :: .ref (ma 10) :: .ref (ma 11) :: .ref (ma 12) :: .ref (ma 13) :: .ref (ma 14) :: .ref (ma 15) :: .ref (ma 16) :: .ref (ma 17) :: .ref (ma 18) :: .ref (ma 19) :: .ref (ma 20) :: .ref (ma 21) :: .ref (ma 22) :: .ref (ma 23) :: .ref (ma 24) :: .ref (ma 25) :: .ref (ma 26) :: .ref (ma 27) :: .ref (ma 28) :: .ref (ma 29) :: .ref (ma 30) :: .ref (ma 31) :: .ref (ma 32) :: .int (nI sz) :: .ref (ma 34) :: .ref (ma 35) :: .ref (ma 36) :: .ref (ma 37) :: [])), (ma 18, .inl (cI g, 8192, .inl (upd wg ((2048 * ((2 * nb) + l)) + M.length) (nI b)))), (ma 19, .inl (cI g, 4, .inl wz))] := hD
  refine lv_aload_n hx hb d_X6_comes_27 rfl (lv_at hl 1 rfl) ?_
  refine va_get (D := g.2.1) (ci := 6) (v := .ref (ma 19)) (C := R_X6) (T := T_X6) (N := 38) hx hb ht i_X6 hown hK hP 0 rfl rfl 19 (by decide) (ht _ w_687) (fun _ h9 => h9) rfl d_X6_comes_28 ?_
  refine lv_iload hx hb d_X6_comes_31 (lv_at hl 0 rfl) ?_
  refine lv_dup2_11 hx hb d_X6_comes_33 rfl rfl ?_
  refine ln_iald hx hb hK hP 2 0 rfl rfl (by omega) (by omega) d_X6_comes_34 ?_
  refine W.eq (g2 := F0 m 35 ls [.int (nI M.length), .int (nI ((2 * nb) + l)), .ref (ma 19)]) (by rw [hwz]) ?_
  refine lv_iconst (v := (nI 1)) hx hb d_X6_comes_35 (by decide) ?_
  refine ln_iadd hx hb d_X6_comes_36 ?_
  refine ln_iast hx hb hK hP hD hS 2 0 rfl rfl (by omega) (by omega) d_X6_comes_37 (fun H locs hP hD hS => ?_)
  have hP : va_P g.2.1 cls7 [(mo, .inr (6, .int (nI th) :: .ref (ma 1) :: .int (nI tp) :: .ref (ma 3) :: .ref (ma 4) :: .ref (ma 5) :: .ref (ma 6) :: .ref (ma 7) :: .ref (ma 8) :: .ref (ma 9) :: .ref (ma 10) :: .ref (ma 11) :: .ref (ma 12) :: .ref (ma 13) :: .ref (ma 14) :: .ref (ma 15) :: .ref (ma 16) :: .ref (ma 17) :: .ref (ma 18) :: .ref (ma 19) :: .ref (ma 20) :: .ref (ma 21) :: .ref (ma 22) :: .ref (ma 23) :: .ref (ma 24) :: .ref (ma 25) :: .ref (ma 26) :: .ref (ma 27) :: .ref (ma 28) :: .ref (ma 29) :: .ref (ma 30) :: .ref (ma 31) :: .ref (ma 32) :: .int (nI sz) :: .ref (ma 34) :: .ref (ma 35) :: .ref (ma 36) :: .ref (ma 37) :: [])), (ma 18, .inl (cI g, 8192, .inl (upd wg ((2048 * ((2 * nb) + l)) + M.length) (nI b)))), (ma 19, .inl (cI g, 4, .inl (upd wz ((2 * nb) + l) (nI (M.length + 1)))))] H := hP
  have hD : va_D A [(mo, .inr (6, .int (nI th) :: .ref (ma 1) :: .int (nI tp) :: .ref (ma 3) :: .ref (ma 4) :: .ref (ma 5) :: .ref (ma 6) :: .ref (ma 7) :: .ref (ma 8) :: .ref (ma 9) :: .ref (ma 10) :: .ref (ma 11) :: .ref (ma 12) :: .ref (ma 13) :: .ref (ma 14) :: .ref (ma 15) :: .ref (ma 16) :: .ref (ma 17) :: .ref (ma 18) :: .ref (ma 19) :: .ref (ma 20) :: .ref (ma 21) :: .ref (ma 22) :: .ref (ma 23) :: .ref (ma 24) :: .ref (ma 25) :: .ref (ma 26) :: .ref (ma 27) :: .ref (ma 28) :: .ref (ma 29) :: .ref (ma 30) :: .ref (ma 31) :: .ref (ma 32) :: .int (nI sz) :: .ref (ma 34) :: .ref (ma 35) :: .ref (ma 36) :: .ref (ma 37) :: [])), (ma 18, .inl (cI g, 8192, .inl (upd wg ((2048 * ((2 * nb) + l)) + M.length) (nI b)))), (ma 19, .inl (cI g, 4, .inl (upd wz ((2 * nb) + l) (nI (M.length + 1)))))] := hD
  exact g_vret hx hb hr hlocks hP hD hS () (List.Perm.refl _) rfl (Nat.le_of_ble_eq_true rfl) (Nat.le_of_ble_eq_true rfl) d_X6_comes_38

set_option maxHeartbeats 1000000 in
set_option maxRecDepth 100000 in
theorem c_X6_keepTheirs (g : GG) (mo : Nat) (ma : Nat → Nat) (th : Nat) (tp : Nat) (sz : Nat) (nb : Nat) (a0 : Nat) (n : Nat) (thf : Nat → Int32) (tzf : Nat → Int32) (wg : Nat → Int32) (Y : List Nat) (hb2n : nb < 2) (hn : n = Y.length) (hn3 : n ≤ 300) (ha0 : a0 + n ≤ 8192) (hyb : bo Y wg a0) : Cg g y_X6_keepTheirs b_X6_keepTheirs 5 none ({ frames := 0, cells := 0, slots := 0, locals := 0 } : Room) [.ref mo, .int (nI nb), .int (nI a0), .int (nI n)] [(mo, .inr (6, .int (nI th) :: .ref (ma 1) :: .int (nI tp) :: .ref (ma 3) :: .ref (ma 4) :: .ref (ma 5) :: .ref (ma 6) :: .ref (ma 7) :: .ref (ma 8) :: .ref (ma 9) :: .ref (ma 10) :: .ref (ma 11) :: .ref (ma 12) :: .ref (ma 13) :: .ref (ma 14) :: .ref (ma 15) :: .ref (ma 16) :: .ref (ma 17) :: .ref (ma 18) :: .ref (ma 19) :: .ref (ma 20) :: .ref (ma 21) :: .ref (ma 22) :: .ref (ma 23) :: .ref (ma 24) :: .ref (ma 25) :: .ref (ma 26) :: .ref (ma 27) :: .ref (ma 28) :: .ref (ma 29) :: .ref (ma 30) :: .ref (ma 31) :: .ref (ma 32) :: .int (nI sz) :: .ref (ma 34) :: .ref (ma 35) :: .ref (ma 36) :: .ref (ma 37) :: [])), (ma 20, .inl (cI g, 600, .inl thf)), (ma 21, .inl (cI g, 2, .inl tzf)), (ma 18, .inl (cI g, 8192, .inl wg))] (S := Unit) (fun (v : Option Value) (_ : Unit) => v = none) (fun (_ : Unit) => [(mo, .inr (6, .int (nI th) :: .ref (ma 1) :: .int (nI tp) :: .ref (ma 3) :: .ref (ma 4) :: .ref (ma 5) :: .ref (ma 6) :: .ref (ma 7) :: .ref (ma 8) :: .ref (ma 9) :: .ref (ma 10) :: .ref (ma 11) :: .ref (ma 12) :: .ref (ma 13) :: .ref (ma 14) :: .ref (ma 15) :: .ref (ma 16) :: .ref (ma 17) :: .ref (ma 18) :: .ref (ma 19) :: .ref (ma 20) :: .ref (ma 21) :: .ref (ma 22) :: .ref (ma 23) :: .ref (ma 24) :: .ref (ma 25) :: .ref (ma 26) :: .ref (ma 27) :: .ref (ma 28) :: .ref (ma 29) :: .ref (ma 30) :: .ref (ma 31) :: .ref (ma 32) :: .int (nI sz) :: .ref (ma 34) :: .ref (ma 35) :: .ref (ma 36) :: .ref (ma 37) :: [])), (ma 20, .inl (cI g, 600, .inl (wrL thf (300 * nb) Y))), (ma 21, .inl (cI g, 2, .inl (upd tzf nb (nI n)))), (ma 18, .inl (cI g, 8192, .inl wg))]) := by
  refine Ct_of (cc := b_X6_keepTheirs) (maxL := 5) (ret := none) (by decide) rfl (Nat.le_of_ble_eq_true rfl) ?_
  intro p e s m below meth c A ls hx hb hr hml hown hts hlocks hin hA hP hK hD hXs hS hl
  have ht : ∀ w ∈ tb, w.before [.ref mo, .int (nI nb), .int (nI a0), .int (nI n)].toArray s = true := fun w h => hts w (List.mem_cons_of_mem _ h)
  have hown : s.vm.findClass R_X6 = some m.cls := hown
  have hl : lv_has ls 5 [(0, .ref mo), (1, .int (nI nb)), (2, .int (nI a0)), (3, .int (nI n))] := hl
  refine lv_aload_n hx hb d_X6_keepTheirs_0 rfl (lv_at hl 0 rfl) ?_
  refine va_get (D := g.2.1) (ci := 6) (v := .ref (ma 21)) (C := R_X6) (T := T_X6) (N := 38) hx hb ht i_X6 hown hK hP 0 rfl rfl 21 (by decide) (ht _ w_689) (fun _ h9 => h9) rfl d_X6_keepTheirs_1 ?_
  refine lv_iload_n hx hb d_X6_keepTheirs_4 rfl (lv_at hl 1 rfl) ?_
  refine lv_iload_n hx hb d_X6_keepTheirs_5 rfl (lv_at hl 3 rfl) ?_
  refine ln_iast hx hb hK hP hD hS 2 0 rfl rfl (by omega) (by omega) d_X6_keepTheirs_6 (fun H locs hP hD hS => ?_)
  have hP : va_P g.2.1 cls7 [(mo, .inr (6, .int (nI th) :: .ref (ma 1) :: .int (nI tp) :: .ref (ma 3) :: .ref (ma 4) :: .ref (ma 5) :: .ref (ma 6) :: .ref (ma 7) :: .ref (ma 8) :: .ref (ma 9) :: .ref (ma 10) :: .ref (ma 11) :: .ref (ma 12) :: .ref (ma 13) :: .ref (ma 14) :: .ref (ma 15) :: .ref (ma 16) :: .ref (ma 17) :: .ref (ma 18) :: .ref (ma 19) :: .ref (ma 20) :: .ref (ma 21) :: .ref (ma 22) :: .ref (ma 23) :: .ref (ma 24) :: .ref (ma 25) :: .ref (ma 26) :: .ref (ma 27) :: .ref (ma 28) :: .ref (ma 29) :: .ref (ma 30) :: .ref (ma 31) :: .ref (ma 32) :: .int (nI sz) :: .ref (ma 34) :: .ref (ma 35) :: .ref (ma 36) :: .ref (ma 37) :: [])), (ma 20, .inl (cI g, 600, .inl thf)), (ma 21, .inl (cI g, 2, .inl (upd tzf nb (nI n)))), (ma 18, .inl (cI g, 8192, .inl wg))] H := hP
  have hD : va_D A [(mo, .inr (6, .int (nI th) :: .ref (ma 1) :: .int (nI tp) :: .ref (ma 3) :: .ref (ma 4) :: .ref (ma 5) :: .ref (ma 6) :: .ref (ma 7) :: .ref (ma 8) :: .ref (ma 9) :: .ref (ma 10) :: .ref (ma 11) :: .ref (ma 12) :: .ref (ma 13) :: .ref (ma 14) :: .ref (ma 15) :: .ref (ma 16) :: .ref (ma 17) :: .ref (ma 18) :: .ref (ma 19) :: .ref (ma 20) :: .ref (ma 21) :: .ref (ma 22) :: .ref (ma 23) :: .ref (ma 24) :: .ref (ma 25) :: .ref (ma 26) :: .ref (ma 27) :: .ref (ma 28) :: .ref (ma 29) :: .ref (ma 30) :: .ref (ma 31) :: .ref (ma 32) :: .int (nI sz) :: .ref (ma 34) :: .ref (ma 35) :: .ref (ma 36) :: .ref (ma 37) :: [])), (ma 20, .inl (cI g, 600, .inl thf)), (ma 21, .inl (cI g, 2, .inl (upd tzf nb (nI n)))), (ma 18, .inl (cI g, 8192, .inl wg))] := hD
  refine lv_iconst (v := (nI 0)) hx hb d_X6_keepTheirs_7 (by decide) ?_
  refine lv_istore (lv' := [(4, .int (nI 0)), (0, .ref mo), (1, .int (nI nb)), (2, .int (nI a0)), (3, .int (nI n))]) hx hb d_X6_keepTheirs_8 hl (by decide) rfl (fun ls hl => ?_)
  have loop : ∀ (k : Nat) (j : Nat) (fy : Nat → Int32) (hk : j + k = n) (hf : fy = wrL thf (300 * nb) (Y.take j)) (H : Heap) (locs : List Loc) (hP : va_P g.2.1 cls7 [(mo, .inr (6, .int (nI th) :: .ref (ma 1) :: .int (nI tp) :: .ref (ma 3) :: .ref (ma 4) :: .ref (ma 5) :: .ref (ma 6) :: .ref (ma 7) :: .ref (ma 8) :: .ref (ma 9) :: .ref (ma 10) :: .ref (ma 11) :: .ref (ma 12) :: .ref (ma 13) :: .ref (ma 14) :: .ref (ma 15) :: .ref (ma 16) :: .ref (ma 17) :: .ref (ma 18) :: .ref (ma 19) :: .ref (ma 20) :: .ref (ma 21) :: .ref (ma 22) :: .ref (ma 23) :: .ref (ma 24) :: .ref (ma 25) :: .ref (ma 26) :: .ref (ma 27) :: .ref (ma 28) :: .ref (ma 29) :: .ref (ma 30) :: .ref (ma 31) :: .ref (ma 32) :: .int (nI sz) :: .ref (ma 34) :: .ref (ma 35) :: .ref (ma 36) :: .ref (ma 37) :: [])), (ma 20, .inl (cI g, 600, .inl fy)), (ma 21, .inl (cI g, 2, .inl (upd tzf nb (nI n)))), (ma 18, .inl (cI g, 8192, .inl wg))] H) (hD : va_D A [(mo, .inr (6, .int (nI th) :: .ref (ma 1) :: .int (nI tp) :: .ref (ma 3) :: .ref (ma 4) :: .ref (ma 5) :: .ref (ma 6) :: .ref (ma 7) :: .ref (ma 8) :: .ref (ma 9) :: .ref (ma 10) :: .ref (ma 11) :: .ref (ma 12) :: .ref (ma 13) :: .ref (ma 14) :: .ref (ma 15) :: .ref (ma 16) :: .ref (ma 17) :: .ref (ma 18) :: .ref (ma 19) :: .ref (ma 20) :: .ref (ma 21) :: .ref (ma 22) :: .ref (ma 23) :: .ref (ma 24) :: .ref (ma 25) :: .ref (ma 26) :: .ref (ma 27) :: .ref (ma 28) :: .ref (ma 29) :: .ref (ma 30) :: .ref (ma 31) :: .ref (ma 32) :: .int (nI sz) :: .ref (ma 34) :: .ref (ma 35) :: .ref (ma 36) :: .ref (ma 37) :: [])), (ma 20, .inl (cI g, 600, .inl fy)), (ma 21, .inl (cI g, 2, .inl (upd tzf nb (nI n)))), (ma 18, .inl (cI g, 8192, .inl wg))]) (hS : va_S A s.heap H locs) (ls : Array Slot) (hl : lv_has ls 5 [(4, .int (nI j)), (0, .ref mo), (1, .int (nI nb)), (2, .int (nI a0)), (3, .int (nI n))]), W p g.1 e ({ frames := 0, cells := 0, slots := 0, locals := 0 } : Room) s m [.ref mo, .int (nI nb), .int (nI a0), .int (nI n)].toArray below meth c H locs 0 0 (MQ below (gQ g.2.1 cls7 (S := Unit) (fun (v : Option Value) (_ : Unit) => v = none) (fun (_ : Unit) => [(mo, .inr (6, .int (nI th) :: .ref (ma 1) :: .int (nI tp) :: .ref (ma 3) :: .ref (ma 4) :: .ref (ma 5) :: .ref (ma 6) :: .ref (ma 7) :: .ref (ma 8) :: .ref (ma 9) :: .ref (ma 10) :: .ref (ma 11) :: .ref (ma 12) :: .ref (ma 13) :: .ref (ma 14) :: .ref (ma 15) :: .ref (ma 16) :: .ref (ma 17) :: .ref (ma 18) :: .ref (ma 19) :: .ref (ma 20) :: .ref (ma 21) :: .ref (ma 22) :: .ref (ma 23) :: .ref (ma 24) :: .ref (ma 25) :: .ref (ma 26) :: .ref (ma 27) :: .ref (ma 28) :: .ref (ma 29) :: .ref (ma 30) :: .ref (ma 31) :: .ref (ma 32) :: .int (nI sz) :: .ref (ma 34) :: .ref (ma 35) :: .ref (ma 36) :: .ref (ma 37) :: [])), (ma 20, .inl (cI g, 600, .inl (wrL thf (300 * nb) Y))), (ma 21, .inl (cI g, 2, .inl (upd tzf nb (nI n)))), (ma 18, .inl (cI g, 8192, .inl wg))]) A) [.ref mo, .int (nI nb), .int (nI a0), .int (nI n)].toArray s ({ frames := 0, cells := 0, slots := 0, locals := 0 } : Room).cells ({ frames := 0, cells := 0, slots := 0, locals := 0 } : Room).slots A) (F0 m 10 ls []) := by
    intro k
    induction k with
    | zero =>
      intro j fy hk hf H locs hP hD hS ls hl
      refine lv_iload hx hb d_X6_keepTheirs_10 (lv_at hl 0 rfl) ?_
      refine lv_iload_n hx hb d_X6_keepTheirs_12 rfl (lv_at hl 4 rfl) ?_
      refine ln_icmp_ge_t (tgt := 44) hx hb d_X6_keepTheirs_13 (by decide) (by omega) (by omega) (by omega) ?_
      rw [List.take_of_length_le (by omega)] at hf
      subst hf
      exact g_vret hx hb hr hlocks hP hD hS () (List.Perm.refl _) rfl (Nat.le_of_ble_eq_true rfl) (Nat.le_of_ble_eq_true rfl) d_X6_keepTheirs_44
    | succ k ih =>
      intro j fy hk hf H locs hP hD hS ls hl
      refine lv_iload hx hb d_X6_keepTheirs_10 (lv_at hl 0 rfl) ?_
      refine lv_iload_n hx hb d_X6_keepTheirs_12 rfl (lv_at hl 4 rfl) ?_
      refine ln_icmp_ge_f (tgt := 44) hx hb d_X6_keepTheirs_13 (by decide) (by omega) (by omega) (by omega) ?_
      refine lv_aload_n hx hb d_X6_keepTheirs_16 rfl (lv_at hl 1 rfl) ?_
      refine va_get (D := g.2.1) (ci := 6) (v := .ref (ma 20)) (C := R_X6) (T := T_X6) (N := 38) hx hb ht i_X6 hown hK hP 0 rfl rfl 20 (by decide) (ht _ w_688) (fun _ h9 => h9) rfl d_X6_keepTheirs_17 ?_
      refine lv_sipush (v := (nI 300)) hx hb d_X6_keepTheirs_20 (by decide) ?_
      refine lv_iload_n hx hb d_X6_keepTheirs_23 rfl (lv_at hl 2 rfl) ?_
      refine ln_imul hx hb d_X6_keepTheirs_24 ?_
      refine lv_iload hx hb d_X6_keepTheirs_25 (lv_at hl 0 rfl) ?_
      refine ln_iadd hx hb d_X6_keepTheirs_27 ?_
      refine lv_aload_n hx hb d_X6_keepTheirs_28 rfl (lv_at hl 1 rfl) ?_
      refine va_get (D := g.2.1) (ci := 6) (v := .ref (ma 18)) (C := R_X6) (T := T_X6) (N := 38) hx hb ht i_X6 hown hK hP 0 rfl rfl 18 (by decide) (ht _ w_686) (fun _ h9 => h9) rfl d_X6_keepTheirs_29 ?_
      refine lv_iload_n hx hb d_X6_keepTheirs_32 rfl (lv_at hl 3 rfl) ?_
      refine lv_iload hx hb d_X6_keepTheirs_33 (lv_at hl 0 rfl) ?_
      refine ln_iadd hx hb d_X6_keepTheirs_35 ?_
      refine ln_iald hx hb hK hP 3 0 rfl rfl (by omega) (by omega) d_X6_keepTheirs_36 ?_
      refine lv_topi (fun x_1 ex_1 => ?_)
      refine ln_iast hx hb hK hP hD hS 1 0 rfl rfl (by omega) (by omega) d_X6_keepTheirs_37 (fun H locs hP hD hS => ?_)
      have hP : va_P g.2.1 cls7 [(mo, .inr (6, .int (nI th) :: .ref (ma 1) :: .int (nI tp) :: .ref (ma 3) :: .ref (ma 4) :: .ref (ma 5) :: .ref (ma 6) :: .ref (ma 7) :: .ref (ma 8) :: .ref (ma 9) :: .ref (ma 10) :: .ref (ma 11) :: .ref (ma 12) :: .ref (ma 13) :: .ref (ma 14) :: .ref (ma 15) :: .ref (ma 16) :: .ref (ma 17) :: .ref (ma 18) :: .ref (ma 19) :: .ref (ma 20) :: .ref (ma 21) :: .ref (ma 22) :: .ref (ma 23) :: .ref (ma 24) :: .ref (ma 25) :: .ref (ma 26) :: .ref (ma 27) :: .ref (ma 28) :: .ref (ma 29) :: .ref (ma 30) :: .ref (ma 31) :: .ref (ma 32) :: .int (nI sz) :: .ref (ma 34) :: .ref (ma 35) :: .ref (ma 36) :: .ref (ma 37) :: [])), (ma 20, .inl (cI g, 600, .inl (upd fy ((300 * nb) + j) x_1))), (ma 21, .inl (cI g, 2, .inl (upd tzf nb (nI n)))), (ma 18, .inl (cI g, 8192, .inl wg))] H := hP
      have hD : va_D A [(mo, .inr (6, .int (nI th) :: .ref (ma 1) :: .int (nI tp) :: .ref (ma 3) :: .ref (ma 4) :: .ref (ma 5) :: .ref (ma 6) :: .ref (ma 7) :: .ref (ma 8) :: .ref (ma 9) :: .ref (ma 10) :: .ref (ma 11) :: .ref (ma 12) :: .ref (ma 13) :: .ref (ma 14) :: .ref (ma 15) :: .ref (ma 16) :: .ref (ma 17) :: .ref (ma 18) :: .ref (ma 19) :: .ref (ma 20) :: .ref (ma 21) :: .ref (ma 22) :: .ref (ma 23) :: .ref (ma 24) :: .ref (ma 25) :: .ref (ma 26) :: .ref (ma 27) :: .ref (ma 28) :: .ref (ma 29) :: .ref (ma 30) :: .ref (ma 31) :: .ref (ma 32) :: .int (nI sz) :: .ref (ma 34) :: .ref (ma 35) :: .ref (ma 36) :: .ref (ma 37) :: [])), (ma 20, .inl (cI g, 600, .inl (upd fy ((300 * nb) + j) x_1))), (ma 21, .inl (cI g, 2, .inl (upd tzf nb (nI n)))), (ma 18, .inl (cI g, 8192, .inl wg))] := hD
      refine ln_iinc (d := 1) (lv' := [(4, .int (nI (j + 1))), (0, .ref mo), (1, .int (nI nb)), (2, .int (nI a0)), (3, .int (nI n))]) hx hb d_X6_keepTheirs_38 hl (k := 0) rfl rfl (by decide) rfl (fun ls hl => ?_)
      refine lv_goto (tgt := 10) hx hb d_X6_keepTheirs_41 (by decide) ?_
      have hnew : upd fy ((300 * nb) + j) x_1 = wrL thf (300 * nb) (Y.take (j + 1)) := by rw [hf]; exact wr_take (by omega) (by omega) (ex_1.trans (hyb j (by omega)))
      exact ih (j + 1) (upd fy ((300 * nb) + j) x_1) (by omega) hnew _ _ hP hD hS ls (lv_sub hl [0, 1, 2, 3, 4] rfl)
  exact loop n 0 thf (by omega) (by rw [List.take_zero, wr_nil]) _ _ hP hD hS ls (lv_sub hl [0, 1, 2, 3, 4] rfl)

set_option maxHeartbeats 1000000 in
set_option maxRecDepth 100000 in
theorem c_X6_lookAt (g : GG) (mo : Nat) (ma : Nat → Nat) (th : Nat) (tp : Nat) (sz : Nat) (nb : Nat) (l : Nat) (wg : Nat → Int32) (wz : Nat → Int32) (M : List Nat) (wt : Nat → Int32) (wn : Nat) (hb2n : nb < 2) (hl2 : l < 2) (hwz : wz (2 * nb + l) = nI M.length) (hM : M.length < 2048) (hwt : wt nb = nI wn) (hT : isT wn) (hmb : bo M wg (2048 * (2 * nb + l))) (hm8 : by8 M) : Cg g y_X6_lookAt b_X6_lookAt 6 (some .int) ({ frames := 1, cells := 0, slots := 0, locals := 21 } : Room) [.ref mo, .int (nI nb), .int (nI l)] [(mo, .inr (6, .int (nI th) :: .ref (ma 1) :: .int (nI tp) :: .ref (ma 3) :: .ref (ma 4) :: .ref (ma 5) :: .ref (ma 6) :: .ref (ma 7) :: .ref (ma 8) :: .ref (ma 9) :: .ref (ma 10) :: .ref (ma 11) :: .ref (ma 12) :: .ref (ma 13) :: .ref (ma 14) :: .ref (ma 15) :: .ref (ma 16) :: .ref (ma 17) :: .ref (ma 18) :: .ref (ma 19) :: .ref (ma 20) :: .ref (ma 21) :: .ref (ma 22) :: .ref (ma 23) :: .ref (ma 24) :: .ref (ma 25) :: .ref (ma 26) :: .ref (ma 27) :: .ref (ma 28) :: .ref (ma 29) :: .ref (ma 30) :: .ref (ma 31) :: .ref (ma 32) :: .int (nI sz) :: .ref (ma 34) :: .ref (ma 35) :: .ref (ma 36) :: .ref (ma 37) :: [])), (ma 18, .inl (cI g, 8192, .inl wg)), (ma 19, .inl (cI g, 4, .inl wz)), (ma 12, .inl (cI g, 2, .inl wt))] (S := Unit) (fun (v : Option Value) (_ : Unit) => v = some (.int (lkA l wn M))) (fun (_ : Unit) => [(mo, .inr (6, .int (nI th) :: .ref (ma 1) :: .int (nI tp) :: .ref (ma 3) :: .ref (ma 4) :: .ref (ma 5) :: .ref (ma 6) :: .ref (ma 7) :: .ref (ma 8) :: .ref (ma 9) :: .ref (ma 10) :: .ref (ma 11) :: .ref (ma 12) :: .ref (ma 13) :: .ref (ma 14) :: .ref (ma 15) :: .ref (ma 16) :: .ref (ma 17) :: .ref (ma 18) :: .ref (ma 19) :: .ref (ma 20) :: .ref (ma 21) :: .ref (ma 22) :: .ref (ma 23) :: .ref (ma 24) :: .ref (ma 25) :: .ref (ma 26) :: .ref (ma 27) :: .ref (ma 28) :: .ref (ma 29) :: .ref (ma 30) :: .ref (ma 31) :: .ref (ma 32) :: .int (nI sz) :: .ref (ma 34) :: .ref (ma 35) :: .ref (ma 36) :: .ref (ma 37) :: [])), (ma 18, .inl (cI g, 8192, .inl wg)), (ma 19, .inl (cI g, 4, .inl wz)), (ma 12, .inl (cI g, 2, .inl wt))]) := by
  refine Ct_of (cc := b_X6_lookAt) (maxL := 6) (ret := (some .int)) (by decide) rfl (Nat.le_of_ble_eq_true rfl) ?_
  intro p e s m below meth c A ls hx hb hr hml hown hts hlocks hin hA hP hK hD hXs hS hl
  have ht : ∀ w ∈ tb, w.before [.ref mo, .int (nI nb), .int (nI l)].toArray s = true := fun w h => hts w (List.mem_cons_of_mem _ h)
  have hown : s.vm.findClass R_X6 = some m.cls := hown
  have hl : lv_has ls 6 [(0, .ref mo), (1, .int (nI nb)), (2, .int (nI l))] := hl
  have hwn31 : wn < 2 ^ 31 := by rcases hT with h | h | h | h | h <;> omega
  have hmg : ∀ k, M.getD k 0 < 256 := fun k => by8_getD hm8 k
  have hg0 := hmg 0
  have hlo : (if wn = 1 ∨ wn = 2 then 0 else 1) < 2 := by split <;> omega
  refine lv_iconst (v := (nI 2)) hx hb d_X6_lookAt_0 (by decide) ?_
  refine lv_iload_n hx hb d_X6_lookAt_1 rfl (lv_at hl 1 rfl) ?_
  refine ln_imul hx hb d_X6_lookAt_2 ?_
  refine lv_iload_n hx hb d_X6_lookAt_3 rfl (lv_at hl 2 rfl) ?_
  refine ln_iadd hx hb d_X6_lookAt_4 ?_
  refine lv_istore_n (lv' := [(3, .int (nI ((2 * nb) + l))), (0, .ref mo), (1, .int (nI nb)), (2, .int (nI l))]) hx hb d_X6_lookAt_5 rfl hl (by decide) rfl (fun ls hl => ?_)
  refine lv_sipush (v := (nI 2048)) hx hb d_X6_lookAt_6 (by decide) ?_
  refine lv_iload_n hx hb d_X6_lookAt_9 rfl (lv_at hl 0 rfl) ?_
  refine ln_imul hx hb d_X6_lookAt_10 ?_
  refine lv_istore (lv' := [(4, .int (nI (2048 * ((2 * nb) + l)))), (3, .int (nI ((2 * nb) + l))), (0, .ref mo), (1, .int (nI nb)), (2, .int (nI l))]) hx hb d_X6_lookAt_11 hl (by decide) rfl (fun ls hl => ?_)
  refine lv_aload_n hx hb d_X6_lookAt_13 rfl (lv_at hl 2 rfl) ?_
  refine va_get (D := g.2.1) (ci := 6) (v := .ref (ma 19)) (C := R_X6) (T := T_X6) (N := 38) hx hb ht i_X6 hown hK hP 0 rfl rfl 19 (by decide) (ht _ w_687) (fun _ h9 => h9) rfl d_X6_lookAt_14 ?_
  refine lv_iload_n hx hb d_X6_lookAt_17 rfl (lv_at hl 1 rfl) ?_
  refine ln_iald hx hb hK hP 2 0 rfl rfl (by omega) (by omega) d_X6_lookAt_18 ?_
  refine W.eq (g2 := F0 m 19 ls [.int (nI M.length)]) (by rw [hwz]) ?_
  refine ln_if_ne (tgt := 24) hx hb d_X6_lookAt_19 (by decide) (by omega) (fun c_1 => ?_) (fun c_1 => ?_)
  · refine lv_aload_n hx hb d_X6_lookAt_24 rfl (lv_at hl 2 rfl) ?_
    refine va_get (D := g.2.1) (ci := 6) (v := .ref (ma 12)) (C := R_X6) (T := T_X6) (N := 38) hx hb ht i_X6 hown hK hP 0 rfl rfl 12 (by decide) (ht _ w_680) (fun _ h9 => h9) rfl d_X6_lookAt_25 ?_
    refine lv_iload_n hx hb d_X6_lookAt_28 rfl (lv_at hl 3 rfl) ?_
    refine ln_iald hx hb hK hP 3 0 rfl rfl (by omega) (by omega) d_X6_lookAt_29 ?_
    refine W.eq (g2 := F0 m 30 ls [.int (nI wn)]) (by rw [hwt]) ?_
    refine ln_if_eq (tgt := 62) hx hb d_X6_lookAt_30 (by decide) (by omega) (fun c_2 => ?_) (fun c_2 => ?_)
    · refine lv_sipush (v := (-266)) hx hb d_X6_lookAt_62 (by decide) ?_
      have e0 : (-266) = lkA l wn M := by
        unfold lkA
        rw [if_neg (by omega)]
        rw [if_pos (fun h => by rw [show wn = 0 by omega, lvB_0] at h; exact absurd h.1 (by decide))]
      exact g_iret (v := (-266)) hx hb hr hlocks hP hD hS () (List.Perm.refl _) (congrArg (fun z => some (Value.int z)) e0) (Nat.le_of_ble_eq_true rfl) (Nat.le_of_ble_eq_true rfl) d_X6_lookAt_65
    · refine lv_aload_n hx hb d_X6_lookAt_33 rfl (lv_at hl 2 rfl) ?_
      refine va_get (D := g.2.1) (ci := 6) (v := .ref (ma 12)) (C := R_X6) (T := T_X6) (N := 38) hx hb ht i_X6 hown hK hP 0 rfl rfl 12 (by decide) (ht _ w_680) (fun _ h9 => h9) rfl d_X6_lookAt_34 ?_
      refine lv_iload_n hx hb d_X6_lookAt_37 rfl (lv_at hl 3 rfl) ?_
      refine ln_iald hx hb hK hP 3 0 rfl rfl (by omega) (by omega) d_X6_lookAt_38 ?_
      refine W.eq (g2 := F0 m 39 ls [.int (nI wn)]) (by rw [hwt]) ?_
      refine g_callS (As := [.int (nI wn)]) (rest := []) (wr := [(mo, .inr (6, .int (nI th) :: .ref (ma 1) :: .int (nI tp) :: .ref (ma 3) :: .ref (ma 4) :: .ref (ma 5) :: .ref (ma 6) :: .ref (ma 7) :: .ref (ma 8) :: .ref (ma 9) :: .ref (ma 10) :: .ref (ma 11) :: .ref (ma 12) :: .ref (ma 13) :: .ref (ma 14) :: .ref (ma 15) :: .ref (ma 16) :: .ref (ma 17) :: .ref (ma 18) :: .ref (ma 19) :: .ref (ma 20) :: .ref (ma 21) :: .ref (ma 22) :: .ref (ma 23) :: .ref (ma 24) :: .ref (ma 25) :: .ref (ma 26) :: .ref (ma 27) :: .ref (ma 28) :: .ref (ma 29) :: .ref (ma 30) :: .ref (ma 31) :: .ref (ma 32) :: .int (nI sz) :: .ref (ma 34) :: .ref (ma 35) :: .ref (ma 36) :: .ref (ma 37) :: [])), (ma 18, .inl (cI g, 8192, .inl wg)), (ma 19, .inl (cI g, 4, .inl wz)), (ma 12, .inl (cI g, 2, .inl wt))]) (XSok g) ⟨hx, hb, hml, hown, ht⟩ hK hA hXs hl.1 hP hD hS (c_X6_levelOf g wn (by omega)) (g_perm 4 [0, 1, 2, 3] rfl rfl (by decide +kernel)) (va_cwS 1 ht (tb_S2 w_889 w_890 w_8 k_X6_levelOf) rfl rfl rfl (by decide +kernel) ⟨(Nat.le_of_ble_eq_true rfl), (Nat.le_of_ble_eq_true rfl)⟩) rfl rfl (Nat.le_of_ble_eq_true rfl) d_X6_lookAt_39 ⟨(Nat.le_of_ble_eq_true rfl), (Nat.le_of_ble_eq_true rfl)⟩ (fun v u H locs hw hP hD hS => ?_)
      obtain rfl := hw
      have hP : va_P g.2.1 cls7 [(mo, .inr (6, .int (nI th) :: .ref (ma 1) :: .int (nI tp) :: .ref (ma 3) :: .ref (ma 4) :: .ref (ma 5) :: .ref (ma 6) :: .ref (ma 7) :: .ref (ma 8) :: .ref (ma 9) :: .ref (ma 10) :: .ref (ma 11) :: .ref (ma 12) :: .ref (ma 13) :: .ref (ma 14) :: .ref (ma 15) :: .ref (ma 16) :: .ref (ma 17) :: .ref (ma 18) :: .ref (ma 19) :: .ref (ma 20) :: .ref (ma 21) :: .ref (ma 22) :: .ref (ma 23) :: .ref (ma 24) :: .ref (ma 25) :: .ref (ma 26) :: .ref (ma 27) :: .ref (ma 28) :: .ref (ma 29) :: .ref (ma 30) :: .ref (ma 31) :: .ref (ma 32) :: .int (nI sz) :: .ref (ma 34) :: .ref (ma 35) :: .ref (ma 36) :: .ref (ma 37) :: [])), (ma 18, .inl (cI g, 8192, .inl wg)), (ma 19, .inl (cI g, 4, .inl wz)), (ma 12, .inl (cI g, 2, .inl wt))] H := hP
      have hD : va_D A [(mo, .inr (6, .int (nI th) :: .ref (ma 1) :: .int (nI tp) :: .ref (ma 3) :: .ref (ma 4) :: .ref (ma 5) :: .ref (ma 6) :: .ref (ma 7) :: .ref (ma 8) :: .ref (ma 9) :: .ref (ma 10) :: .ref (ma 11) :: .ref (ma 12) :: .ref (ma 13) :: .ref (ma 14) :: .ref (ma 15) :: .ref (ma 16) :: .ref (ma 17) :: .ref (ma 18) :: .ref (ma 19) :: .ref (ma 20) :: .ref (ma 21) :: .ref (ma 22) :: .ref (ma 23) :: .ref (ma 24) :: .ref (ma 25) :: .ref (ma 26) :: .ref (ma 27) :: .ref (ma 28) :: .ref (ma 29) :: .ref (ma 30) :: .ref (ma 31) :: .ref (ma 32) :: .int (nI sz) :: .ref (ma 34) :: .ref (ma 35) :: .ref (ma 36) :: .ref (ma 37) :: [])), (ma 18, .inl (cI g, 8192, .inl wg)), (ma 19, .inl (cI g, 4, .inl wz)), (ma 12, .inl (cI g, 2, .inl wt))] := hD
      refine W.eq (g2 := F0 m 42 ls [.int (nI (if wn = 1 ∨ wn = 2 then 0 else 1))]) rfl ?_
      refine lv_iload_n hx hb d_X6_lookAt_42 rfl (lv_at hl 4 rfl) ?_
      refine ln_icmp_ne (tgt := 62) hx hb d_X6_lookAt_43 (by decide) (by omega) (by omega) (fun c_3 => ?_) (fun c_3 => ?_)
      · have hlv2 : ¬ lvB l wn = true := by
          rcases hT with rfl | rfl | rfl | rfl | rfl <;> rcases (show l = 0 ∨ l = 1 by omega) with rfl | rfl <;> first | exact absurd rfl c_3 | decide | omega
        refine lv_sipush (v := (-266)) hx hb d_X6_lookAt_62 (by decide) ?_
        have e0 : (-266) = lkA l wn M := by
          unfold lkA
          rw [if_neg (by omega)]
          rw [if_pos (fun h => hlv2 h.1)]
        exact g_iret (v := (-266)) hx hb hr hlocks hP hD hS () (List.Perm.refl _) (congrArg (fun z => some (Value.int z)) e0) (Nat.le_of_ble_eq_true rfl) (Nat.le_of_ble_eq_true rfl) d_X6_lookAt_65
      · have hlv2 : lvB l wn = true := by
          rcases hT with rfl | rfl | rfl | rfl | rfl <;> rcases (show l = 0 ∨ l = 1 by omega) with rfl | rfl <;> first | decide | exact absurd c_3 (by decide) | omega
        refine lv_aload_n hx hb d_X6_lookAt_46 rfl (lv_at hl 2 rfl) ?_
        refine va_get (D := g.2.1) (ci := 6) (v := .ref (ma 18)) (C := R_X6) (T := T_X6) (N := 38) hx hb ht i_X6 hown hK hP 0 rfl rfl 18 (by decide) (ht _ w_686) (fun _ h9 => h9) rfl d_X6_lookAt_47 ?_
        refine lv_iload hx hb d_X6_lookAt_50 (lv_at hl 0 rfl) ?_
        refine ln_iald hx hb hK hP 1 0 rfl rfl (by omega) (by omega) d_X6_lookAt_52 ?_
        refine W.eq (g2 := F0 m 53 ls [.int (nI (M.getD 0 0))]) (by rw [show 2048 * (2 * nb + l) = 2048 * (2 * nb + l) + 0 by omega, hmb 0 (by omega)]) ?_
        refine lv_aload_n hx hb d_X6_lookAt_53 rfl (lv_at hl 2 rfl) ?_
        refine va_get (D := g.2.1) (ci := 6) (v := .ref (ma 12)) (C := R_X6) (T := T_X6) (N := 38) hx hb ht i_X6 hown hK hP 0 rfl rfl 12 (by decide) (ht _ w_680) (fun _ h9 => h9) rfl d_X6_lookAt_54 ?_
        refine lv_iload_n hx hb d_X6_lookAt_57 rfl (lv_at hl 3 rfl) ?_
        refine ln_iald hx hb hK hP 3 0 rfl rfl (by omega) (by omega) d_X6_lookAt_58 ?_
        refine W.eq (g2 := F0 m 59 ls [.int (nI wn), .int (nI (M.getD 0 0))]) (by rw [hwt]) ?_
        refine ln_icmp_eq (tgt := 66) hx hb d_X6_lookAt_59 (by decide) (by omega) (by omega) (fun c_4 => ?_) (fun c_4 => ?_)
        · refine lv_aload_n hx hb d_X6_lookAt_66 rfl (lv_at hl 2 rfl) ?_
          refine va_get (D := g.2.1) (ci := 6) (v := .ref (ma 19)) (C := R_X6) (T := T_X6) (N := 38) hx hb ht i_X6 hown hK hP 0 rfl rfl 19 (by decide) (ht _ w_687) (fun _ h9 => h9) rfl d_X6_lookAt_67 ?_
          refine lv_iload_n hx hb d_X6_lookAt_70 rfl (lv_at hl 1 rfl) ?_
          refine ln_iald hx hb hK hP 2 0 rfl rfl (by omega) (by omega) d_X6_lookAt_71 ?_
          refine W.eq (g2 := F0 m 72 ls [.int (nI M.length)]) (by rw [hwz]) ?_
          refine lv_iconst (v := (nI 4)) hx hb d_X6_lookAt_72 (by decide) ?_
          refine ln_icmp_ge (tgt := 78) hx hb d_X6_lookAt_73 (by decide) (by omega) (by omega) (fun c_5 => ?_) (fun c_5 => ?_)
          · refine lv_aload_n hx hb d_X6_lookAt_78 rfl (lv_at hl 2 rfl) ?_
            refine va_get (D := g.2.1) (ci := 6) (v := .ref (ma 18)) (C := R_X6) (T := T_X6) (N := 38) hx hb ht i_X6 hown hK hP 0 rfl rfl 18 (by decide) (ht _ w_686) (fun _ h9 => h9) rfl d_X6_lookAt_79 ?_
            refine lv_iload hx hb d_X6_lookAt_82 (lv_at hl 0 rfl) ?_
            refine lv_iconst (v := (nI 1)) hx hb d_X6_lookAt_84 (by decide) ?_
            refine ln_iadd hx hb d_X6_lookAt_85 ?_
            refine ln_iald hx hb hK hP 1 0 rfl rfl (by omega) (by omega) d_X6_lookAt_86 ?_
            refine W.eq (g2 := F0 m 87 ls [.int (nI (M.getD 1 0))]) (by rw [hmb 1 (by omega)]) ?_
            refine lv_bipush (v := (nI 16)) hx hb d_X6_lookAt_87 (by decide) ?_
            refine ln_ishl hx hb d_X6_lookAt_89 ?_
            refine lv_aload_n hx hb d_X6_lookAt_90 rfl (lv_at hl 2 rfl) ?_
            refine va_get (D := g.2.1) (ci := 6) (v := .ref (ma 18)) (C := R_X6) (T := T_X6) (N := 38) hx hb ht i_X6 hown hK hP 0 rfl rfl 18 (by decide) (ht _ w_686) (fun _ h9 => h9) rfl d_X6_lookAt_91 ?_
            refine lv_iload hx hb d_X6_lookAt_94 (lv_at hl 0 rfl) ?_
            refine lv_iconst (v := (nI 2)) hx hb d_X6_lookAt_96 (by decide) ?_
            refine ln_iadd hx hb d_X6_lookAt_97 ?_
            refine ln_iald hx hb hK hP 1 0 rfl rfl (by omega) (by omega) d_X6_lookAt_98 ?_
            refine W.eq (g2 := F0 m 99 ls [.int (nI (M.getD 2 0)), .int (sl (nI (M.getD 1 0)) (nI 16))]) (by rw [hmb 2 (by omega)]) ?_
            refine lv_bipush (v := (nI 8)) hx hb d_X6_lookAt_99 (by decide) ?_
            refine ln_ishl hx hb d_X6_lookAt_101 ?_
            refine lv_ior hx hb d_X6_lookAt_102 ?_
            refine lv_aload_n hx hb d_X6_lookAt_103 rfl (lv_at hl 2 rfl) ?_
            refine va_get (D := g.2.1) (ci := 6) (v := .ref (ma 18)) (C := R_X6) (T := T_X6) (N := 38) hx hb ht i_X6 hown hK hP 0 rfl rfl 18 (by decide) (ht _ w_686) (fun _ h9 => h9) rfl d_X6_lookAt_104 ?_
            refine lv_iload hx hb d_X6_lookAt_107 (lv_at hl 0 rfl) ?_
            refine lv_iconst (v := (nI 3)) hx hb d_X6_lookAt_109 (by decide) ?_
            refine ln_iadd hx hb d_X6_lookAt_110 ?_
            refine ln_iald hx hb hK hP 1 0 rfl rfl (by omega) (by omega) d_X6_lookAt_111 ?_
            refine W.eq (g2 := F0 m 112 ls [.int (nI (M.getD 3 0)), .int ((sl (nI (M.getD 1 0)) (nI 16)) ||| (sl (nI (M.getD 2 0)) (nI 8)))]) (by rw [hmb 3 (by omega)]) ?_
            refine lv_ior hx hb d_X6_lookAt_112 ?_
            refine W.eq (g2 := F0 m 113 ls [.int (nI (bsz M))]) (by rw [bszI hm8]) ?_
            refine lv_istore (lv' := [(5, .int (nI (bsz M))), (4, .int (nI (2048 * ((2 * nb) + l)))), (3, .int (nI ((2 * nb) + l))), (0, .ref mo), (1, .int (nI nb)), (2, .int (nI l))]) hx hb d_X6_lookAt_113 hl (by decide) rfl (fun ls hl => ?_)
            refine lv_aload_n hx hb d_X6_lookAt_115 rfl (lv_at hl 3 rfl) ?_
            refine va_get (D := g.2.1) (ci := 6) (v := .ref (ma 12)) (C := R_X6) (T := T_X6) (N := 38) hx hb ht i_X6 hown hK hP 0 rfl rfl 12 (by decide) (ht _ w_680) (fun _ h9 => h9) rfl d_X6_lookAt_116 ?_
            refine lv_iload_n hx hb d_X6_lookAt_119 rfl (lv_at hl 4 rfl) ?_
            refine ln_iald hx hb hK hP 3 0 rfl rfl (by omega) (by omega) d_X6_lookAt_120 ?_
            refine W.eq (g2 := F0 m 121 ls [.int (nI wn)]) (by rw [hwt]) ?_
            refine lv_iload hx hb d_X6_lookAt_121 (lv_at hl 0 rfl) ?_
            refine g_callS (As := [.int (nI wn), .int (nI (bsz M))]) (rest := []) (wr := [(mo, .inr (6, .int (nI th) :: .ref (ma 1) :: .int (nI tp) :: .ref (ma 3) :: .ref (ma 4) :: .ref (ma 5) :: .ref (ma 6) :: .ref (ma 7) :: .ref (ma 8) :: .ref (ma 9) :: .ref (ma 10) :: .ref (ma 11) :: .ref (ma 12) :: .ref (ma 13) :: .ref (ma 14) :: .ref (ma 15) :: .ref (ma 16) :: .ref (ma 17) :: .ref (ma 18) :: .ref (ma 19) :: .ref (ma 20) :: .ref (ma 21) :: .ref (ma 22) :: .ref (ma 23) :: .ref (ma 24) :: .ref (ma 25) :: .ref (ma 26) :: .ref (ma 27) :: .ref (ma 28) :: .ref (ma 29) :: .ref (ma 30) :: .ref (ma 31) :: .ref (ma 32) :: .int (nI sz) :: .ref (ma 34) :: .ref (ma 35) :: .ref (ma 36) :: .ref (ma 37) :: [])), (ma 18, .inl (cI g, 8192, .inl wg)), (ma 19, .inl (cI g, 4, .inl wz)), (ma 12, .inl (cI g, 2, .inl wt))]) (XSok g) ⟨hx, hb, hml, hown, ht⟩ hK hA hXs hl.1 hP hD hS (c_X6_isSize g wn (bsz M) (by omega) (bsz_lt hm8)) (g_perm 4 [0, 1, 2, 3] rfl rfl (by decide +kernel)) (va_cwS 2 ht (tb_S2 w_892 w_893 w_8 k_X6_isSize) rfl rfl rfl (by decide +kernel) ⟨(Nat.le_of_ble_eq_true rfl), (Nat.le_of_ble_eq_true rfl)⟩) rfl rfl (Nat.le_of_ble_eq_true rfl) d_X6_lookAt_123 ⟨(Nat.le_of_ble_eq_true rfl), (Nat.le_of_ble_eq_true rfl)⟩ (fun v u H locs hw hP hD hS => ?_)
            obtain rfl := hw
            have hP : va_P g.2.1 cls7 [(mo, .inr (6, .int (nI th) :: .ref (ma 1) :: .int (nI tp) :: .ref (ma 3) :: .ref (ma 4) :: .ref (ma 5) :: .ref (ma 6) :: .ref (ma 7) :: .ref (ma 8) :: .ref (ma 9) :: .ref (ma 10) :: .ref (ma 11) :: .ref (ma 12) :: .ref (ma 13) :: .ref (ma 14) :: .ref (ma 15) :: .ref (ma 16) :: .ref (ma 17) :: .ref (ma 18) :: .ref (ma 19) :: .ref (ma 20) :: .ref (ma 21) :: .ref (ma 22) :: .ref (ma 23) :: .ref (ma 24) :: .ref (ma 25) :: .ref (ma 26) :: .ref (ma 27) :: .ref (ma 28) :: .ref (ma 29) :: .ref (ma 30) :: .ref (ma 31) :: .ref (ma 32) :: .int (nI sz) :: .ref (ma 34) :: .ref (ma 35) :: .ref (ma 36) :: .ref (ma 37) :: [])), (ma 18, .inl (cI g, 8192, .inl wg)), (ma 19, .inl (cI g, 4, .inl wz)), (ma 12, .inl (cI g, 2, .inl wt))] H := hP
            have hD : va_D A [(mo, .inr (6, .int (nI th) :: .ref (ma 1) :: .int (nI tp) :: .ref (ma 3) :: .ref (ma 4) :: .ref (ma 5) :: .ref (ma 6) :: .ref (ma 7) :: .ref (ma 8) :: .ref (ma 9) :: .ref (ma 10) :: .ref (ma 11) :: .ref (ma 12) :: .ref (ma 13) :: .ref (ma 14) :: .ref (ma 15) :: .ref (ma 16) :: .ref (ma 17) :: .ref (ma 18) :: .ref (ma 19) :: .ref (ma 20) :: .ref (ma 21) :: .ref (ma 22) :: .ref (ma 23) :: .ref (ma 24) :: .ref (ma 25) :: .ref (ma 26) :: .ref (ma 27) :: .ref (ma 28) :: .ref (ma 29) :: .ref (ma 30) :: .ref (ma 31) :: .ref (ma 32) :: .int (nI sz) :: .ref (ma 34) :: .ref (ma 35) :: .ref (ma 36) :: .ref (ma 37) :: [])), (ma 18, .inl (cI g, 8192, .inl wg)), (ma 19, .inl (cI g, 4, .inl wz)), (ma 12, .inl (cI g, 2, .inl wt))] := hD
            refine W.eq (g2 := F0 m 126 ls [.int (if szB wn (bsz M) = true then 1 else 0)]) rfl ?_
            refine lv_if_ne (tgt := 133) hx hb d_X6_lookAt_126 (by decide) (fun c_6 => ?_) (fun c_6 => ?_)
            · have hszt : szB wn (bsz M) = true := ite01n c_6
              have hszl := szB_le hszt
              refine lv_aload_n hx hb d_X6_lookAt_133 rfl (lv_at hl 3 rfl) ?_
              refine va_get (D := g.2.1) (ci := 6) (v := .ref (ma 19)) (C := R_X6) (T := T_X6) (N := 38) hx hb ht i_X6 hown hK hP 0 rfl rfl 19 (by decide) (ht _ w_687) (fun _ h9 => h9) rfl d_X6_lookAt_134 ?_
              refine lv_iload_n hx hb d_X6_lookAt_137 rfl (lv_at hl 2 rfl) ?_
              refine ln_iald hx hb hK hP 2 0 rfl rfl (by omega) (by omega) d_X6_lookAt_138 ?_
              refine W.eq (g2 := F0 m 139 ls [.int (nI M.length)]) (by rw [hwz]) ?_
              refine lv_iconst (v := (nI 4)) hx hb d_X6_lookAt_139 (by decide) ?_
              refine lv_iload hx hb d_X6_lookAt_140 (lv_at hl 0 rfl) ?_
              refine ln_iadd hx hb d_X6_lookAt_142 ?_
              refine ln_icmp_ge (tgt := 150) hx hb d_X6_lookAt_143 (by decide) (by omega) (by omega) (fun c_7 => ?_) (fun c_7 => ?_)
              · refine lv_iconst (v := (nI 4)) hx hb d_X6_lookAt_150 (by decide) ?_
                refine lv_iload hx hb d_X6_lookAt_151 (lv_at hl 0 rfl) ?_
                refine ln_iadd hx hb d_X6_lookAt_153 ?_
                have e0 : (nI (4 + (bsz M))) = lkA l wn M := by
                  unfold lkA
                  rw [if_neg (by omega)]
                  rw [if_neg (fun h => h ⟨hlv2, by omega⟩)]
                  rw [if_neg (by omega)]
                  rw [if_neg (by rw [hszt]; decide)]
                  rw [if_neg (by omega)]
                exact g_iret (v := (nI (4 + (bsz M)))) hx hb hr hlocks hP hD hS () (List.Perm.refl _) (congrArg (fun z => some (Value.int z)) e0) (Nat.le_of_ble_eq_true rfl) (Nat.le_of_ble_eq_true rfl) d_X6_lookAt_154
              · refine lv_iconst (v := (nI 0)) hx hb d_X6_lookAt_146 (by decide) ?_
                refine lv_goto (tgt := 154) hx hb d_X6_lookAt_147 (by decide) ?_
                have e0 : (nI 0) = lkA l wn M := by
                  unfold lkA
                  rw [if_neg (by omega)]
                  rw [if_neg (fun h => h ⟨hlv2, by omega⟩)]
                  rw [if_neg (by omega)]
                  rw [if_neg (by rw [hszt]; decide)]
                  rw [if_pos (by omega)]
                  exact nI_0
                exact g_iret (v := (nI 0)) hx hb hr hlocks hP hD hS () (List.Perm.refl _) (congrArg (fun z => some (Value.int z)) e0) (Nat.le_of_ble_eq_true rfl) (Nat.le_of_ble_eq_true rfl) d_X6_lookAt_154
            · have hszf : szB wn (bsz M) = false := by cases e9 : szB wn (bsz M) with | false => rfl | true => exact absurd c_6 (by rw [e9]; decide)
              refine lv_sipush (v := (-306)) hx hb d_X6_lookAt_129 (by decide) ?_
              have e0 : (-306) = lkA l wn M := by
                unfold lkA
                rw [if_neg (by omega)]
                rw [if_neg (fun h => h ⟨hlv2, by omega⟩)]
                rw [if_neg (by omega)]
                rw [if_pos hszf]
              exact g_iret (v := (-306)) hx hb hr hlocks hP hD hS () (List.Perm.refl _) (congrArg (fun z => some (Value.int z)) e0) (Nat.le_of_ble_eq_true rfl) (Nat.le_of_ble_eq_true rfl) d_X6_lookAt_132
          · refine lv_iconst (v := (nI 0)) hx hb d_X6_lookAt_76 (by decide) ?_
            have e0 : (nI 0) = lkA l wn M := by
              unfold lkA
              rw [if_neg (by omega)]
              rw [if_neg (fun h => h ⟨hlv2, by omega⟩)]
              rw [if_pos (by omega)]
              exact nI_0
            exact g_iret (v := (nI 0)) hx hb hr hlocks hP hD hS () (List.Perm.refl _) (congrArg (fun z => some (Value.int z)) e0) (Nat.le_of_ble_eq_true rfl) (Nat.le_of_ble_eq_true rfl) d_X6_lookAt_77
        · refine lv_sipush (v := (-266)) hx hb d_X6_lookAt_62 (by decide) ?_
          have e0 : (-266) = lkA l wn M := by
            unfold lkA
            rw [if_neg (by omega)]
            rw [if_pos (fun h => absurd h.2 (by omega))]
          exact g_iret (v := (-266)) hx hb hr hlocks hP hD hS () (List.Perm.refl _) (congrArg (fun z => some (Value.int z)) e0) (Nat.le_of_ble_eq_true rfl) (Nat.le_of_ble_eq_true rfl) d_X6_lookAt_65
  · refine lv_iconst (v := (nI 0)) hx hb d_X6_lookAt_22 (by decide) ?_
    have e0 : (nI 0) = lkA l wn M := by
      unfold lkA
      rw [if_pos (by omega)]
      exact nI_0
    exact g_iret (v := (nI 0)) hx hb hr hlocks hP hD hS () (List.Perm.refl _) (congrArg (fun z => some (Value.int z)) e0) (Nat.le_of_ble_eq_true rfl) (Nat.le_of_ble_eq_true rfl) d_X6_lookAt_23
