theorem ite01n {P : Prop} [Decidable P] (h : ¬ (if P then (1 : Int32) else 0) = 0) : P := Decidable.not_not.mp (fun y => h (ite01.mpr y))
theorem exq_0 : ("java/lang/IllegalArgumentException", 33, 37, 7, Bundle.six) ∈ exL := List.mem_cons_self
theorem exq_1 : ("java/lang/IllegalStateException", 44, 48, 7, Bundle.six) ∈ exL := List.mem_cons_of_mem _ List.mem_cons_self
theorem exq_2 : ("java/util/NoSuchElementException", 132, 136, 13, prog_18_method_4_code) ∈ exL := List.mem_cons_of_mem _ (List.mem_cons_of_mem _ List.mem_cons_self)
theorem stq_35 : strL[0] ∈ strL := List.mem_cons_self
theorem stq_46 : strL[1] ∈ strL := (List.mem_cons_of_mem _ List.mem_cons_self)
theorem stq_63 : strL[2] ∈ strL := (List.mem_cons_of_mem _ (List.mem_cons_of_mem _ List.mem_cons_self))
theorem stq_73 : strL[3] ∈ strL := (List.mem_cons_of_mem _ (List.mem_cons_of_mem _ (List.mem_cons_of_mem _ List.mem_cons_self)))
theorem stq_79 : strL[4] ∈ strL := (List.mem_cons_of_mem _ (List.mem_cons_of_mem _ (List.mem_cons_of_mem _ (List.mem_cons_of_mem _ List.mem_cons_self))))
theorem stq_87 : strL[5] ∈ strL := (List.mem_cons_of_mem _ (List.mem_cons_of_mem _ (List.mem_cons_of_mem _ (List.mem_cons_of_mem _ (List.mem_cons_of_mem _ List.mem_cons_self)))))
theorem stq_95 : strL[6] ∈ strL := (List.mem_cons_of_mem _ (List.mem_cons_of_mem _ (List.mem_cons_of_mem _ (List.mem_cons_of_mem _ (List.mem_cons_of_mem _ (List.mem_cons_of_mem _ List.mem_cons_self))))))
theorem stq_101 : strL[7] ∈ strL := (List.mem_cons_of_mem _ (List.mem_cons_of_mem _ (List.mem_cons_of_mem _ (List.mem_cons_of_mem _ (List.mem_cons_of_mem _ (List.mem_cons_of_mem _ (List.mem_cons_of_mem _ List.mem_cons_self)))))))
theorem stq_107 : strL[8] ∈ strL := (List.mem_cons_of_mem _ (List.mem_cons_of_mem _ (List.mem_cons_of_mem _ (List.mem_cons_of_mem _ (List.mem_cons_of_mem _ (List.mem_cons_of_mem _ (List.mem_cons_of_mem _ (List.mem_cons_of_mem _ List.mem_cons_self))))))))
theorem stq_109 : strL[9] ∈ strL := (List.mem_cons_of_mem _ (List.mem_cons_of_mem _ (List.mem_cons_of_mem _ (List.mem_cons_of_mem _ (List.mem_cons_of_mem _ (List.mem_cons_of_mem _ (List.mem_cons_of_mem _ (List.mem_cons_of_mem _ (List.mem_cons_of_mem _ List.mem_cons_self)))))))))
theorem stq_134 : strL[10] ∈ strL := (List.mem_cons_of_mem _ (List.mem_cons_of_mem _ (List.mem_cons_of_mem _ (List.mem_cons_of_mem _ (List.mem_cons_of_mem _ (List.mem_cons_of_mem _ (List.mem_cons_of_mem _ (List.mem_cons_of_mem _ (List.mem_cons_of_mem _ (List.mem_cons_of_mem _ List.mem_cons_self))))))))))
theorem stq_141 : strL[11] ∈ strL := (List.mem_cons_of_mem _ (List.mem_cons_of_mem _ (List.mem_cons_of_mem _ (List.mem_cons_of_mem _ (List.mem_cons_of_mem _ (List.mem_cons_of_mem _ (List.mem_cons_of_mem _ (List.mem_cons_of_mem _ (List.mem_cons_of_mem _ (List.mem_cons_of_mem _ (List.mem_cons_of_mem _ List.mem_cons_self)))))))))))
theorem stq_153 : strL[12] ∈ strL := (List.mem_cons_of_mem _ (List.mem_cons_of_mem _ (List.mem_cons_of_mem _ (List.mem_cons_of_mem _ (List.mem_cons_of_mem _ (List.mem_cons_of_mem _ (List.mem_cons_of_mem _ (List.mem_cons_of_mem _ (List.mem_cons_of_mem _ (List.mem_cons_of_mem _ (List.mem_cons_of_mem _ (List.mem_cons_of_mem _ List.mem_cons_self))))))))))))
theorem stq_158 : strL[13] ∈ strL := (List.mem_cons_of_mem _ (List.mem_cons_of_mem _ (List.mem_cons_of_mem _ (List.mem_cons_of_mem _ (List.mem_cons_of_mem _ (List.mem_cons_of_mem _ (List.mem_cons_of_mem _ (List.mem_cons_of_mem _ (List.mem_cons_of_mem _ (List.mem_cons_of_mem _ (List.mem_cons_of_mem _ (List.mem_cons_of_mem _ (List.mem_cons_of_mem _ List.mem_cons_self)))))))))))))
theorem stq_160 : strL[14] ∈ strL := (List.mem_cons_of_mem _ (List.mem_cons_of_mem _ (List.mem_cons_of_mem _ (List.mem_cons_of_mem _ (List.mem_cons_of_mem _ (List.mem_cons_of_mem _ (List.mem_cons_of_mem _ (List.mem_cons_of_mem _ (List.mem_cons_of_mem _ (List.mem_cons_of_mem _ (List.mem_cons_of_mem _ (List.mem_cons_of_mem _ (List.mem_cons_of_mem _ (List.mem_cons_of_mem _ List.mem_cons_self))))))))))))))
/-- a number that names a side, or a level -/
abbrev is2 (k : Int32) : Prop := k = 0 ∨ k = 1
theorem is2_n {n : Nat} (h : n < 2) : is2 (nI n) := by
  rcases (show n = 0 ∨ n = 1 by omega) with rfl | rfl
  · exact Or.inl rfl
  · exact Or.inr rfl
theorem is2_if {n : Nat} (h : n < 2) : ¬ (if is2 (nI n) then (1 : Int32) else 0) = 0 := by rw [if_pos (is2_n h)]; decide
/-- may so many bytes be told as what? -/
abbrev toldB (w : Int32) (z : Nat) : Prop := if w = 0 ∨ w = 1 then z = 32 else if w = 2 then z ≤ 300 else if w = 3 then 1 ≤ z ∧ z ≤ 20 else False
/-- the bytes of a number, lowest first -/
def feedF (f : Nat → Int32) (z : Nat) (v : Int64) : Nat → Nat → Int32
  | 0 => f
  | n + 1 => upd (feedF f z v n) (z + n) ((uL v (nI (8 * n))).toInt32 &&& nI 255)
set_option maxHeartbeats 1000000 in
set_option maxRecDepth 100000 in
theorem c_X5_isSide (g : GG) (k : Int32)  : Cg g y_X5_isSide b_X5_isSide 1 (some .boolean) ({ frames := 0, cells := 0, slots := 0, locals := 0 } : Room) [.int k] [] (S := Unit) (fun (v : Option Value) (_ : Unit) => v = some (.int (if is2 k then 1 else 0))) (fun (_ : Unit) => []) := by
  refine Ct_of (cc := b_X5_isSide) (maxL := 1) (ret := (some .boolean)) (by decide) rfl (Nat.le_of_ble_eq_true rfl) ?_
  intro p e s m below meth c A ls hx hb hr hml hown hts hlocks hin hA hP hK hD hXs hS hl
  have ht : ∀ w ∈ tb, w.before [.int k].toArray s = true := fun w h => hts w (List.mem_cons_of_mem _ h)
  have hown : s.vm.findClass R_X5 = some m.cls := hown
  have hl : lv_has ls 1 [(0, .int k)] := hl
  refine lv_iload_n hx hb d_X5_isSide_0 rfl (lv_at hl 0 rfl) ?_
  refine lv_if_eq (tgt := 9) hx hb d_X5_isSide_1 (by decide) (fun c_1 => ?_) (fun c_1 => ?_)
  · refine lv_iconst (v := (nI 1)) hx hb d_X5_isSide_9 (by decide) ?_
    refine lv_goto (tgt := 14) hx hb d_X5_isSide_10 (by decide) ?_
    have e0 : ((nI 1) : Int32) = (if is2 k then 1 else 0) := (if_pos (Or.inl c_1)).symm
    exact g_zret (v := (nI 1)) hx hb hr hlocks hP hD hS () (List.Perm.refl _) (by decide) (congrArg (fun t => some (Value.int t)) e0) (Nat.le_of_ble_eq_true rfl) (Nat.le_of_ble_eq_true rfl) d_X5_isSide_14
  · refine lv_iload_n hx hb d_X5_isSide_4 rfl (lv_at hl 0 rfl) ?_
    refine lv_iconst (v := (nI 1)) hx hb d_X5_isSide_5 (by decide) ?_
    refine lv_icmp_ne (tgt := 13) hx hb d_X5_isSide_6 (by decide) (fun c_2 => ?_) (fun c_2 => ?_)
    · refine lv_iconst (v := (nI 0)) hx hb d_X5_isSide_13 (by decide) ?_
      have e0 : ((nI 0) : Int32) = (if is2 k then 1 else 0) := (if_neg (fun h => h.elim c_1 c_2)).symm
      exact g_zret (v := (nI 0)) hx hb hr hlocks hP hD hS () (List.Perm.refl _) (by decide) (congrArg (fun t => some (Value.int t)) e0) (Nat.le_of_ble_eq_true rfl) (Nat.le_of_ble_eq_true rfl) d_X5_isSide_14
    · refine lv_iconst (v := (nI 1)) hx hb d_X5_isSide_9 (by decide) ?_
      refine lv_goto (tgt := 14) hx hb d_X5_isSide_10 (by decide) ?_
      have e0 : ((nI 1) : Int32) = (if is2 k then 1 else 0) := (if_pos (Or.inr c_2)).symm
      exact g_zret (v := (nI 1)) hx hb hr hlocks hP hD hS () (List.Perm.refl _) (by decide) (congrArg (fun t => some (Value.int t)) e0) (Nat.le_of_ble_eq_true rfl) (Nat.le_of_ble_eq_true rfl) d_X5_isSide_14

set_option maxHeartbeats 1000000 in
set_option maxRecDepth 100000 in
theorem c_X5_isLevel (g : GG) (k : Int32)  : Cg g y_X5_isLevel b_X5_isLevel 1 (some .boolean) ({ frames := 0, cells := 0, slots := 0, locals := 0 } : Room) [.int k] [] (S := Unit) (fun (v : Option Value) (_ : Unit) => v = some (.int (if is2 k then 1 else 0))) (fun (_ : Unit) => []) := by
  refine Ct_of (cc := b_X5_isLevel) (maxL := 1) (ret := (some .boolean)) (by decide) rfl (Nat.le_of_ble_eq_true rfl) ?_
  intro p e s m below meth c A ls hx hb hr hml hown hts hlocks hin hA hP hK hD hXs hS hl
  have ht : ∀ w ∈ tb, w.before [.int k].toArray s = true := fun w h => hts w (List.mem_cons_of_mem _ h)
  have hown : s.vm.findClass R_X5 = some m.cls := hown
  have hl : lv_has ls 1 [(0, .int k)] := hl
  refine lv_iload_n hx hb d_X5_isLevel_0 rfl (lv_at hl 0 rfl) ?_
  refine lv_if_eq (tgt := 9) hx hb d_X5_isLevel_1 (by decide) (fun c_1 => ?_) (fun c_1 => ?_)
  · refine lv_iconst (v := (nI 1)) hx hb d_X5_isLevel_9 (by decide) ?_
    refine lv_goto (tgt := 14) hx hb d_X5_isLevel_10 (by decide) ?_
    have e0 : ((nI 1) : Int32) = (if is2 k then 1 else 0) := (if_pos (Or.inl c_1)).symm
    exact g_zret (v := (nI 1)) hx hb hr hlocks hP hD hS () (List.Perm.refl _) (by decide) (congrArg (fun t => some (Value.int t)) e0) (Nat.le_of_ble_eq_true rfl) (Nat.le_of_ble_eq_true rfl) d_X5_isLevel_14
  · refine lv_iload_n hx hb d_X5_isLevel_4 rfl (lv_at hl 0 rfl) ?_
    refine lv_iconst (v := (nI 1)) hx hb d_X5_isLevel_5 (by decide) ?_
    refine lv_icmp_ne (tgt := 13) hx hb d_X5_isLevel_6 (by decide) (fun c_2 => ?_) (fun c_2 => ?_)
    · refine lv_iconst (v := (nI 0)) hx hb d_X5_isLevel_13 (by decide) ?_
      have e0 : ((nI 0) : Int32) = (if is2 k then 1 else 0) := (if_neg (fun h => h.elim c_1 c_2)).symm
      exact g_zret (v := (nI 0)) hx hb hr hlocks hP hD hS () (List.Perm.refl _) (by decide) (congrArg (fun t => some (Value.int t)) e0) (Nat.le_of_ble_eq_true rfl) (Nat.le_of_ble_eq_true rfl) d_X5_isLevel_14
    · refine lv_iconst (v := (nI 1)) hx hb d_X5_isLevel_9 (by decide) ?_
      refine lv_goto (tgt := 14) hx hb d_X5_isLevel_10 (by decide) ?_
      have e0 : ((nI 1) : Int32) = (if is2 k then 1 else 0) := (if_pos (Or.inr c_2)).symm
      exact g_zret (v := (nI 1)) hx hb hr hlocks hP hD hS () (List.Perm.refl _) (by decide) (congrArg (fun t => some (Value.int t)) e0) (Nat.le_of_ble_eq_true rfl) (Nat.le_of_ble_eq_true rfl) d_X5_isLevel_14

set_option maxHeartbeats 1000000 in
set_option maxRecDepth 100000 in
theorem c_X5_pick (g : GG) (x : Nat) (dt : Nat) (da : Nat → Nat) (nb : Nat) (hb2 : nb < 2) : Cg g y_X5_pick b_X5_pick 2 (some (.object "GreetDesk$Side")) ({ frames := 0, cells := 0, slots := 0, locals := 0 } : Room) [.ref x, .int (nI nb)] [(x, .inr (5, [.ref dt, .ref (da 0), .ref (da 1)]))] (S := Unit) (fun (v : Option Value) (_ : Unit) => v = some (.ref (da nb))) (fun (_ : Unit) => [(x, .inr (5, [.ref dt, .ref (da 0), .ref (da 1)]))]) := by
  refine Ct_of (cc := b_X5_pick) (maxL := 2) (ret := (some (.object "GreetDesk$Side"))) (by decide) rfl (Nat.le_of_ble_eq_true rfl) ?_
  intro p e s m below meth c A ls hx hb hr hml hown hts hlocks hin hA hP hK hD hXs hS hl
  have ht : ∀ w ∈ tb, w.before [.ref x, .int (nI nb)].toArray s = true := fun w h => hts w (List.mem_cons_of_mem _ h)
  have hown : s.vm.findClass R_X5 = some m.cls := hown
  have hl : lv_has ls 2 [(0, .ref x), (1, .int (nI nb))] := hl
  refine lv_iload_n hx hb d_X5_pick_0 rfl (lv_at hl 1 rfl) ?_
  refine ln_if_ne (tgt := 11) hx hb d_X5_pick_1 (by decide) (by omega) (fun c_1 => ?_) (fun c_1 => ?_)
  · refine lv_aload_n hx hb d_X5_pick_11 rfl (lv_at hl 0 rfl) ?_
    refine va_get (D := g.2.1) (ci := 5) (v := .ref (da 1)) (C := R_X5) (T := T_X5) (N := 3) hx hb ht i_X5 hown hK hP 0 rfl rfl 2 (by decide) (ht _ w_200) (fun _ h9 => h9) rfl d_X5_pick_12 ?_
    have e0 : 1 = nb := by omega
    exact g_aret hx hb hr (Or.inl ⟨_, rfl⟩) hlocks hP hD hS () (List.Perm.refl _) (congrArg (fun z => some (Value.ref (da z))) e0) (Nat.le_of_ble_eq_true rfl) (Nat.le_of_ble_eq_true rfl) d_X5_pick_15
  · refine lv_aload_n hx hb d_X5_pick_4 rfl (lv_at hl 0 rfl) ?_
    refine va_get (D := g.2.1) (ci := 5) (v := .ref (da 0)) (C := R_X5) (T := T_X5) (N := 3) hx hb ht i_X5 hown hK hP 0 rfl rfl 1 (by decide) (ht _ w_199) (fun _ h9 => h9) rfl d_X5_pick_5 ?_
    refine lv_goto (tgt := 15) hx hb d_X5_pick_8 (by decide) ?_
    have e0 : 0 = nb := by omega
    exact g_aret hx hb hr (Or.inl ⟨_, rfl⟩) hlocks hP hD hS () (List.Perm.refl _) (congrArg (fun z => some (Value.ref (da z))) e0) (Nat.le_of_ble_eq_true rfl) (Nat.le_of_ble_eq_true rfl) d_X5_pick_15

set_option maxHeartbeats 1000000 in
set_option maxRecDepth 100000 in
theorem c_X5_canBeTold_0 (g : GG) (z : Nat) (hz : z < 2 ^ 31) : Cg g y_X5_canBeTold b_X5_canBeTold 2 (some .boolean) ({ frames := 0, cells := 0, slots := 0, locals := 0 } : Room) [.int (nI 0), .int (nI z)] [] (S := Unit) (fun (v : Option Value) (_ : Unit) => v = some (.int (if toldB (nI 0) z then 1 else 0))) (fun (_ : Unit) => []) := by
  refine Ct_of (cc := b_X5_canBeTold) (maxL := 2) (ret := (some .boolean)) (by decide) rfl (Nat.le_of_ble_eq_true rfl) ?_
  intro p e s m below meth c A ls hx hb hr hml hown hts hlocks hin hA hP hK hD hXs hS hl
  have ht : ∀ w ∈ tb, w.before [.int (nI 0), .int (nI z)].toArray s = true := fun w h => hts w (List.mem_cons_of_mem _ h)
  have hown : s.vm.findClass R_X5 = some m.cls := hown
  have hl : lv_has ls 2 [(0, .int (nI 0)), (1, .int (nI z))] := hl
  refine lv_iload_n hx hb d_X5_canBeTold_0 rfl (lv_at hl 0 rfl) ?_
  refine lv_tableIn (off := 31) (tgt := 32) hx hb d_X5_canBeTold_1 (by decide) (by decide) rfl (by decide) ?_
  refine lv_iload_n hx hb d_X5_canBeTold_32 rfl (lv_at hl 1 rfl) ?_
  refine lv_bipush (v := (nI 32)) hx hb d_X5_canBeTold_33 (by decide) ?_
  refine ln_icmp_ne (tgt := 42) hx hb d_X5_canBeTold_35 (by decide) (by omega) (by omega) (fun c_1 => ?_) (fun c_1 => ?_)
  · refine lv_iconst (v := (nI 0)) hx hb d_X5_canBeTold_42 (by decide) ?_
    have e0 : ((nI 0) : Int32) = (if toldB (nI 0) z then 1 else 0) := (if_neg (by show ¬ (z = 32); omega)).symm
    exact g_zret (v := (nI 0)) hx hb hr hlocks hP hD hS () (List.Perm.refl _) (by decide) (congrArg (fun t => some (Value.int t)) e0) (Nat.le_of_ble_eq_true rfl) (Nat.le_of_ble_eq_true rfl) d_X5_canBeTold_43
  · refine lv_iconst (v := (nI 1)) hx hb d_X5_canBeTold_38 (by decide) ?_
    refine lv_goto (tgt := 43) hx hb d_X5_canBeTold_39 (by decide) ?_
    have e0 : ((nI 1) : Int32) = (if toldB (nI 0) z then 1 else 0) := (if_pos (by show (z = 32); omega)).symm
    exact g_zret (v := (nI 1)) hx hb hr hlocks hP hD hS () (List.Perm.refl _) (by decide) (congrArg (fun t => some (Value.int t)) e0) (Nat.le_of_ble_eq_true rfl) (Nat.le_of_ble_eq_true rfl) d_X5_canBeTold_43

set_option maxHeartbeats 1000000 in
set_option maxRecDepth 100000 in
theorem c_X5_canBeTold_1 (g : GG) (z : Nat) (hz : z < 2 ^ 31) : Cg g y_X5_canBeTold b_X5_canBeTold 2 (some .boolean) ({ frames := 0, cells := 0, slots := 0, locals := 0 } : Room) [.int (nI 1), .int (nI z)] [] (S := Unit) (fun (v : Option Value) (_ : Unit) => v = some (.int (if toldB (nI 1) z then 1 else 0))) (fun (_ : Unit) => []) := by
  refine Ct_of (cc := b_X5_canBeTold) (maxL := 2) (ret := (some .boolean)) (by decide) rfl (Nat.le_of_ble_eq_true rfl) ?_
  intro p e s m below meth c A ls hx hb hr hml hown hts hlocks hin hA hP hK hD hXs hS hl
  have ht : ∀ w ∈ tb, w.before [.int (nI 1), .int (nI z)].toArray s = true := fun w h => hts w (List.mem_cons_of_mem _ h)
  have hown : s.vm.findClass R_X5 = some m.cls := hown
  have hl : lv_has ls 2 [(0, .int (nI 1)), (1, .int (nI z))] := hl
  refine lv_iload_n hx hb d_X5_canBeTold_0 rfl (lv_at hl 0 rfl) ?_
  refine lv_tableIn (off := 31) (tgt := 32) hx hb d_X5_canBeTold_1 (by decide) (by decide) rfl (by decide) ?_
  refine lv_iload_n hx hb d_X5_canBeTold_32 rfl (lv_at hl 1 rfl) ?_
  refine lv_bipush (v := (nI 32)) hx hb d_X5_canBeTold_33 (by decide) ?_
  refine ln_icmp_ne (tgt := 42) hx hb d_X5_canBeTold_35 (by decide) (by omega) (by omega) (fun c_1 => ?_) (fun c_1 => ?_)
  · refine lv_iconst (v := (nI 0)) hx hb d_X5_canBeTold_42 (by decide) ?_
    have e0 : ((nI 0) : Int32) = (if toldB (nI 1) z then 1 else 0) := (if_neg (by show ¬ (z = 32); omega)).symm
    exact g_zret (v := (nI 0)) hx hb hr hlocks hP hD hS () (List.Perm.refl _) (by decide) (congrArg (fun t => some (Value.int t)) e0) (Nat.le_of_ble_eq_true rfl) (Nat.le_of_ble_eq_true rfl) d_X5_canBeTold_43
  · refine lv_iconst (v := (nI 1)) hx hb d_X5_canBeTold_38 (by decide) ?_
    refine lv_goto (tgt := 43) hx hb d_X5_canBeTold_39 (by decide) ?_
    have e0 : ((nI 1) : Int32) = (if toldB (nI 1) z then 1 else 0) := (if_pos (by show (z = 32); omega)).symm
    exact g_zret (v := (nI 1)) hx hb hr hlocks hP hD hS () (List.Perm.refl _) (by decide) (congrArg (fun t => some (Value.int t)) e0) (Nat.le_of_ble_eq_true rfl) (Nat.le_of_ble_eq_true rfl) d_X5_canBeTold_43

set_option maxHeartbeats 1000000 in
set_option maxRecDepth 100000 in
theorem c_X5_canBeTold_2 (g : GG) (z : Nat) (hz : z < 2 ^ 31) : Cg g y_X5_canBeTold b_X5_canBeTold 2 (some .boolean) ({ frames := 0, cells := 0, slots := 0, locals := 0 } : Room) [.int (nI 2), .int (nI z)] [] (S := Unit) (fun (v : Option Value) (_ : Unit) => v = some (.int (if toldB (nI 2) z then 1 else 0))) (fun (_ : Unit) => []) := by
  refine Ct_of (cc := b_X5_canBeTold) (maxL := 2) (ret := (some .boolean)) (by decide) rfl (Nat.le_of_ble_eq_true rfl) ?_
  intro p e s m below meth c A ls hx hb hr hml hown hts hlocks hin hA hP hK hD hXs hS hl
  have ht : ∀ w ∈ tb, w.before [.int (nI 2), .int (nI z)].toArray s = true := fun w h => hts w (List.mem_cons_of_mem _ h)
  have hown : s.vm.findClass R_X5 = some m.cls := hown
  have hl : lv_has ls 2 [(0, .int (nI 2)), (1, .int (nI z))] := hl
  refine lv_iload_n hx hb d_X5_canBeTold_0 rfl (lv_at hl 0 rfl) ?_
  refine lv_tableIn (off := 43) (tgt := 44) hx hb d_X5_canBeTold_1 (by decide) (by decide) rfl (by decide) ?_
  refine lv_iload_n hx hb d_X5_canBeTold_44 rfl (lv_at hl 1 rfl) ?_
  refine lv_sipush (v := (nI 300)) hx hb d_X5_canBeTold_45 (by decide) ?_
  refine ln_icmp_gt (tgt := 55) hx hb d_X5_canBeTold_48 (by decide) (by omega) (by omega) (fun c_1 => ?_) (fun c_1 => ?_)
  · refine lv_iconst (v := (nI 0)) hx hb d_X5_canBeTold_55 (by decide) ?_
    have e0 : ((nI 0) : Int32) = (if toldB (nI 2) z then 1 else 0) := (if_neg (by show ¬ (z ≤ 300); omega)).symm
    exact g_zret (v := (nI 0)) hx hb hr hlocks hP hD hS () (List.Perm.refl _) (by decide) (congrArg (fun t => some (Value.int t)) e0) (Nat.le_of_ble_eq_true rfl) (Nat.le_of_ble_eq_true rfl) d_X5_canBeTold_56
  · refine lv_iconst (v := (nI 1)) hx hb d_X5_canBeTold_51 (by decide) ?_
    refine lv_goto (tgt := 56) hx hb d_X5_canBeTold_52 (by decide) ?_
    have e0 : ((nI 1) : Int32) = (if toldB (nI 2) z then 1 else 0) := (if_pos (by show (z ≤ 300); omega)).symm
    exact g_zret (v := (nI 1)) hx hb hr hlocks hP hD hS () (List.Perm.refl _) (by decide) (congrArg (fun t => some (Value.int t)) e0) (Nat.le_of_ble_eq_true rfl) (Nat.le_of_ble_eq_true rfl) d_X5_canBeTold_56

set_option maxHeartbeats 1000000 in
set_option maxRecDepth 100000 in
theorem c_X5_canBeTold_3 (g : GG) (z : Nat) (hz : z < 2 ^ 31) : Cg g y_X5_canBeTold b_X5_canBeTold 2 (some .boolean) ({ frames := 0, cells := 0, slots := 0, locals := 0 } : Room) [.int (nI 3), .int (nI z)] [] (S := Unit) (fun (v : Option Value) (_ : Unit) => v = some (.int (if toldB (nI 3) z then 1 else 0))) (fun (_ : Unit) => []) := by
  refine Ct_of (cc := b_X5_canBeTold) (maxL := 2) (ret := (some .boolean)) (by decide) rfl (Nat.le_of_ble_eq_true rfl) ?_
  intro p e s m below meth c A ls hx hb hr hml hown hts hlocks hin hA hP hK hD hXs hS hl
  have ht : ∀ w ∈ tb, w.before [.int (nI 3), .int (nI z)].toArray s = true := fun w h => hts w (List.mem_cons_of_mem _ h)
  have hown : s.vm.findClass R_X5 = some m.cls := hown
  have hl : lv_has ls 2 [(0, .int (nI 3)), (1, .int (nI z))] := hl
  refine lv_iload_n hx hb d_X5_canBeTold_0 rfl (lv_at hl 0 rfl) ?_
  refine lv_tableIn (off := 56) (tgt := 57) hx hb d_X5_canBeTold_1 (by decide) (by decide) rfl (by decide) ?_
  refine lv_iload_n hx hb d_X5_canBeTold_57 rfl (lv_at hl 1 rfl) ?_
  refine lv_iconst (v := (nI 1)) hx hb d_X5_canBeTold_58 (by decide) ?_
  refine ln_icmp_lt (tgt := 72) hx hb d_X5_canBeTold_59 (by decide) (by omega) (by omega) (fun c_1 => ?_) (fun c_1 => ?_)
  · refine lv_iconst (v := (nI 0)) hx hb d_X5_canBeTold_72 (by decide) ?_
    have e0 : ((nI 0) : Int32) = (if toldB (nI 3) z then 1 else 0) := (if_neg (by show ¬ (1 ≤ z ∧ z ≤ 20); omega)).symm
    exact g_zret (v := (nI 0)) hx hb hr hlocks hP hD hS () (List.Perm.refl _) (by decide) (congrArg (fun t => some (Value.int t)) e0) (Nat.le_of_ble_eq_true rfl) (Nat.le_of_ble_eq_true rfl) d_X5_canBeTold_73
  · refine lv_iload_n hx hb d_X5_canBeTold_62 rfl (lv_at hl 1 rfl) ?_
    refine lv_bipush (v := (nI 20)) hx hb d_X5_canBeTold_63 (by decide) ?_
    refine ln_icmp_gt (tgt := 72) hx hb d_X5_canBeTold_65 (by decide) (by omega) (by omega) (fun c_2 => ?_) (fun c_2 => ?_)
    · refine lv_iconst (v := (nI 0)) hx hb d_X5_canBeTold_72 (by decide) ?_
      have e0 : ((nI 0) : Int32) = (if toldB (nI 3) z then 1 else 0) := (if_neg (by show ¬ (1 ≤ z ∧ z ≤ 20); omega)).symm
      exact g_zret (v := (nI 0)) hx hb hr hlocks hP hD hS () (List.Perm.refl _) (by decide) (congrArg (fun t => some (Value.int t)) e0) (Nat.le_of_ble_eq_true rfl) (Nat.le_of_ble_eq_true rfl) d_X5_canBeTold_73
    · refine lv_iconst (v := (nI 1)) hx hb d_X5_canBeTold_68 (by decide) ?_
      refine lv_goto (tgt := 73) hx hb d_X5_canBeTold_69 (by decide) ?_
      have e0 : ((nI 1) : Int32) = (if toldB (nI 3) z then 1 else 0) := (if_pos (by show (1 ≤ z ∧ z ≤ 20); omega)).symm
      exact g_zret (v := (nI 1)) hx hb hr hlocks hP hD hS () (List.Perm.refl _) (by decide) (congrArg (fun t => some (Value.int t)) e0) (Nat.le_of_ble_eq_true rfl) (Nat.le_of_ble_eq_true rfl) d_X5_canBeTold_73

set_option maxHeartbeats 1000000 in
set_option maxRecDepth 100000 in
theorem c_X5_canBeTold_n (g : GG) (wt : Int32) (z : Nat) (hw2 : wt.toInt < 0 ∨ 3 < wt.toInt) : Cg g y_X5_canBeTold b_X5_canBeTold 2 (some .boolean) ({ frames := 0, cells := 0, slots := 0, locals := 0 } : Room) [.int wt, .int (nI z)] [] (S := Unit) (fun (v : Option Value) (_ : Unit) => v = some (.int 0)) (fun (_ : Unit) => []) := by
  refine Ct_of (cc := b_X5_canBeTold) (maxL := 2) (ret := (some .boolean)) (by decide) rfl (Nat.le_of_ble_eq_true rfl) ?_
  intro p e s m below meth c A ls hx hb hr hml hown hts hlocks hin hA hP hK hD hXs hS hl
  have ht : ∀ w ∈ tb, w.before [.int wt, .int (nI z)].toArray s = true := fun w h => hts w (List.mem_cons_of_mem _ h)
  have hown : s.vm.findClass R_X5 = some m.cls := hown
  have hl : lv_has ls 2 [(0, .int wt), (1, .int (nI z))] := hl
  refine lv_iload_n hx hb d_X5_canBeTold_0 rfl (lv_at hl 0 rfl) ?_
  refine lv_tableOut (tgt := 74) hx hb d_X5_canBeTold_1 hw2 (by decide) ?_
  refine lv_iconst (v := (nI 0)) hx hb d_X5_canBeTold_74 (by decide) ?_
  exact g_zret (v := (nI 0)) hx hb hr hlocks hP hD hS () (List.Perm.refl _) (by decide) rfl (Nat.le_of_ble_eq_true rfl) (Nat.le_of_ble_eq_true rfl) d_X5_canBeTold_75

set_option maxRecDepth 100000 in
theorem c_X5_canBeTold (g : GG) (wt : Int32) (z : Nat) (hz : z < 2 ^ 31) : Cg g y_X5_canBeTold b_X5_canBeTold 2 (some .boolean) ({ frames := 0, cells := 0, slots := 0, locals := 0 } : Room) [.int wt, .int (nI z)] [] (S := Unit) (fun (v : Option Value) (_ : Unit) => v = some (.int (if toldB wt z then 1 else 0))) (fun (_ : Unit) => []) := by
  by_cases h0 : wt = 0
  · subst h0; exact c_X5_canBeTold_0 g z hz
  by_cases h1 : wt = 1
  · subst h1; exact c_X5_canBeTold_1 g z hz
  by_cases h2 : wt = 2
  · subst h2; exact c_X5_canBeTold_2 g z hz
  by_cases h3 : wt = 3
  · subst h3; exact c_X5_canBeTold_3 g z hz
  have e : ¬ toldB wt z := by
    unfold toldB
    rw [if_neg (fun h => h.elim h0 h1), if_neg h2, if_neg h3]
    exact id
  rw [if_neg e]
  refine c_X5_canBeTold_n g wt z ?_
  have q0 : ¬ wt.toInt = 0 := fun h => h0 (Int32.toInt_inj.mp h)
  have q1 : ¬ wt.toInt = 1 := fun h => h1 (Int32.toInt_inj.mp h)
  have q2 : ¬ wt.toInt = 2 := fun h => h2 (Int32.toInt_inj.mp h)
  have q3 : ¬ wt.toInt = 3 := fun h => h3 (Int32.toInt_inj.mp h)
  omega

set_option maxHeartbeats 1000000 in
set_option maxRecDepth 100000 in
theorem c_X5_wipe (g : GG) (x : Nat) (dt : Nat) (da : Nat → Nat) (dq : Nat) (tf : Nat → Int32) (tz : Nat)  : Cg g y_X5_wipe b_X5_wipe 2 (some .int) ({ frames := 1, cells := 0, slots := 0, locals := 20 } : Room) [.ref x] [(x, .inr (5, [.ref dt, .ref (da 0), .ref (da 1)])), (dt, .inr (3, [.ref dq, .int (nI tz)])), (dq, .inl (cI g, 2048, .inl tf))] (S := Unit) (fun (v : Option Value) (_ : Unit) => v = some (.int (nI tz))) (fun (_ : Unit) => [(x, .inr (5, [.ref dt, .ref (da 0), .ref (da 1)])), (dt, .inr (3, [.ref dq, .int (nI 0)])), (dq, .inl (cI g, 2048, .inl tf))]) := by
  refine Ct_of (cc := b_X5_wipe) (maxL := 2) (ret := (some .int)) (by decide) rfl (Nat.le_of_ble_eq_true rfl) ?_
  intro p e s m below meth c A ls hx hb hr hml hown hts hlocks hin hA hP hK hD hXs hS hl
  have ht : ∀ w ∈ tb, w.before [.ref x].toArray s = true := fun w h => hts w (List.mem_cons_of_mem _ h)
  have hown : s.vm.findClass R_X5 = some m.cls := hown
  have hl : lv_has ls 2 [(0, .ref x)] := hl
  refine lv_aload_n hx hb d_X5_wipe_0 rfl (lv_at hl 0 rfl) ?_
  refine va_get (D := g.2.1) (ci := 5) (v := .ref dt) (C := R_X5) (T := T_X5) (N := 3) hx hb ht i_X5 hown hK hP 0 rfl rfl 0 (by decide) (ht _ w_198) (fun _ h9 => h9) rfl d_X5_wipe_1 ?_
  refine va_get (D := g.2.1) (ci := 3) (v := .int (nI tz)) (C := R_X3) (T := T_X3) (N := 2) hx hb ht i_X3 hown hK hP 1 rfl rfl 1 (by decide) (ht _ w_45) (fun _ h9 => h9) rfl d_X5_wipe_4 ?_
  refine lv_istore_n (lv' := [(1, .int (nI tz)), (0, .ref x)]) hx hb d_X5_wipe_7 rfl hl (by decide) rfl (fun ls hl => ?_)
  refine lv_aload_n hx hb d_X5_wipe_8 rfl (lv_at hl 1 rfl) ?_
  refine va_get (D := g.2.1) (ci := 5) (v := .ref dt) (C := R_X5) (T := T_X5) (N := 3) hx hb ht i_X5 hown hK hP 0 rfl rfl 0 (by decide) (ht _ w_198) (fun _ h9 => h9) rfl d_X5_wipe_9 ?_
  refine g_callV (As := []) (rest := []) (wr := [(x, .inr (5, [.ref dt, .ref (da 0), .ref (da 1)]))]) (q0 := 0) (ci := 3) (XSok g) ⟨hx, hb, hml, hown, ht⟩ hK hA hXs hl.1 hP hD hS (c_X3_clear g dt dq 2048 tf tz ) (g_perm 3 [1, 2, 0] rfl rfl (by decide +kernel)) rfl rfl (cwV 0 ht (tb_V w_212 w_213 w_214 w_3 k_X3_clear) rfl rfl rfl (by decide +kernel) ⟨(Nat.le_of_ble_eq_true rfl), (Nat.le_of_ble_eq_true rfl)⟩) rfl rfl (Nat.le_of_ble_eq_true rfl) d_X5_wipe_12 ⟨(Nat.le_of_ble_eq_true rfl), (Nat.le_of_ble_eq_true rfl)⟩ (fun v u H locs hw hP hD hS => ?_)
  obtain rfl := hw
  have hP : va_P g.2.1 cls7 [(x, .inr (5, [.ref dt, .ref (da 0), .ref (da 1)])), (dt, .inr (3, [.ref dq, .int (nI 0)])), (dq, .inl (cI g, 2048, .inl tf))] H := hP
  have hD : va_D A [(x, .inr (5, [.ref dt, .ref (da 0), .ref (da 1)])), (dt, .inr (3, [.ref dq, .int (nI 0)])), (dq, .inl (cI g, 2048, .inl tf))] := hD
  refine W.eq (g2 := F0 m 15 ls []) rfl ?_
  refine lv_iload_n hx hb d_X5_wipe_15 rfl (lv_at hl 0 rfl) ?_
  exact g_iret (v := (nI tz)) hx hb hr hlocks hP hD hS () (List.Perm.refl _) rfl (Nat.le_of_ble_eq_true rfl) (Nat.le_of_ble_eq_true rfl) d_X5_wipe_16

set_option maxHeartbeats 1000000 in
set_option maxRecDepth 100000 in
theorem c_X5_feed (g : GG) (x : Nat) (dt : Nat) (da : Nat → Nat) (dq : Nat) (tf : Nat → Int32) (tz : Nat) (n : Nat) (v : Int64) (hn1 : 1 ≤ n) (hn2 : n ≤ 8) (hn3 : tz + n ≤ 2048) : Cg g y_X5_feed b_X5_feed 5 (some .int) ({ frames := 1, cells := 0, slots := 0, locals := 21 } : Room) [.ref x, .int (nI n), .long v] [(x, .inr (5, [.ref dt, .ref (da 0), .ref (da 1)])), (dt, .inr (3, [.ref dq, .int (nI tz)])), (dq, .inl (cI g, 2048, .inl tf))] (S := Unit) (fun (v : Option Value) (_ : Unit) => v = some (.int (nI (tz + n)))) (fun (_ : Unit) => [(x, .inr (5, [.ref dt, .ref (da 0), .ref (da 1)])), (dt, .inr (3, [.ref dq, .int (nI (tz + n))])), (dq, .inl (cI g, 2048, .inl (feedF tf tz v n)))]) := by
  refine Ct_of (cc := b_X5_feed) (maxL := 5) (ret := (some .int)) (by decide) rfl (Nat.le_of_ble_eq_true rfl) ?_
  intro p e s m below meth c A ls hx hb hr hml hown hts hlocks hin hA hP hK hD hXs hS hl
  have ht : ∀ w ∈ tb, w.before [.ref x, .int (nI n), .long v].toArray s = true := fun w h => hts w (List.mem_cons_of_mem _ h)
  have hown : s.vm.findClass R_X5 = some m.cls := hown
  have hl : lv_has ls 5 [(0, .ref x), (1, .int (nI n)), (2, .long v)] := hl
  refine lv_iload_n hx hb d_X5_feed_0 rfl (lv_at hl 1 rfl) ?_
  refine lv_iconst (v := (nI 1)) hx hb d_X5_feed_1 (by decide) ?_
  refine ln_icmp_lt_f (tgt := 11) hx hb d_X5_feed_2 (by decide) (by omega) (by omega) (by omega) ?_
  refine lv_iload_n hx hb d_X5_feed_5 rfl (lv_at hl 1 rfl) ?_
  refine lv_bipush (v := (nI 8)) hx hb d_X5_feed_6 (by decide) ?_
  refine ln_icmp_le_t (tgt := 21) hx hb d_X5_feed_8 (by decide) (by omega) (by omega) (by omega) ?_
  refine lv_aload_n hx hb d_X5_feed_21 rfl (lv_at hl 0 rfl) ?_
  refine va_get (D := g.2.1) (ci := 5) (v := .ref dt) (C := R_X5) (T := T_X5) (N := 3) hx hb ht i_X5 hown hK hP 0 rfl rfl 0 (by decide) (ht _ w_198) (fun _ h9 => h9) rfl d_X5_feed_22 ?_
  refine va_get (D := g.2.1) (ci := 3) (v := .int (nI tz)) (C := R_X3) (T := T_X3) (N := 2) hx hb ht i_X3 hown hK hP 1 rfl rfl 1 (by decide) (ht _ w_45) (fun _ h9 => h9) rfl d_X5_feed_25 ?_
  refine lv_iload_n hx hb d_X5_feed_28 rfl (lv_at hl 1 rfl) ?_
  refine ln_iadd hx hb d_X5_feed_29 ?_
  refine lv_sipush (v := (nI 2048)) hx hb d_X5_feed_30 (by decide) ?_
  refine ln_icmp_le_t (tgt := 46) hx hb d_X5_feed_33 (by decide) (by omega) (by omega) (by omega) ?_
  refine lv_iconst (v := (nI 0)) hx hb d_X5_feed_46 (by decide) ?_
  refine lv_istore (lv' := [(4, .int (nI 0)), (0, .ref x), (1, .int (nI n)), (2, .long v)]) hx hb d_X5_feed_47 hl (by decide) rfl (fun ls hl => ?_)
  have loop : ∀ (k : Nat) (i : Nat) (hk : i + k = n)  (H : Heap) (locs : List Loc) (hP : va_P g.2.1 cls7 [(x, .inr (5, [.ref dt, .ref (da 0), .ref (da 1)])), (dt, .inr (3, [.ref dq, .int (nI (tz + i))])), (dq, .inl (cI g, 2048, .inl (feedF tf tz v i)))] H) (hD : va_D A [(x, .inr (5, [.ref dt, .ref (da 0), .ref (da 1)])), (dt, .inr (3, [.ref dq, .int (nI (tz + i))])), (dq, .inl (cI g, 2048, .inl (feedF tf tz v i)))]) (hS : va_S A s.heap H locs) (ls : Array Slot) (hl : lv_has ls 5 [(0, .ref x), (1, .int (nI n)), (2, .long v), (4, .int (nI i))]), W p g.1 e ({ frames := 1, cells := 0, slots := 0, locals := 21 } : Room) s m [.ref x, .int (nI n), .long v].toArray below meth c H locs 0 0 (MQ below (gQ g.2.1 cls7 (S := Unit) (fun (v : Option Value) (_ : Unit) => v = some (.int (nI (tz + n)))) (fun (_ : Unit) => [(x, .inr (5, [.ref dt, .ref (da 0), .ref (da 1)])), (dt, .inr (3, [.ref dq, .int (nI (tz + n))])), (dq, .inl (cI g, 2048, .inl (feedF tf tz v n)))]) A) [.ref x, .int (nI n), .long v].toArray s ({ frames := 1, cells := 0, slots := 0, locals := 21 } : Room).cells ({ frames := 1, cells := 0, slots := 0, locals := 21 } : Room).slots A) (F0 m 49 ls []) := by
    intro k
    induction k with
    | zero =>
      intro i hk  H locs hP hD hS ls hl
      refine lv_iload hx hb d_X5_feed_49 (lv_at hl 3 rfl) ?_
      refine lv_iload_n hx hb d_X5_feed_51 rfl (lv_at hl 1 rfl) ?_
      refine ln_icmp_ge_t (tgt := 76) hx hb d_X5_feed_52 (by decide) (by omega) (by omega) (by omega) ?_
      obtain rfl : i = n := by omega
      refine lv_aload_n hx hb d_X5_feed_76 rfl (lv_at hl 0 rfl) ?_
      refine va_get (D := g.2.1) (ci := 5) (v := .ref dt) (C := R_X5) (T := T_X5) (N := 3) hx hb ht i_X5 hown hK hP 0 rfl rfl 0 (by decide) (ht _ w_198) (fun _ h9 => h9) rfl d_X5_feed_77 ?_
      refine va_get (D := g.2.1) (ci := 3) (v := .int (nI (tz + i))) (C := R_X3) (T := T_X3) (N := 2) hx hb ht i_X3 hown hK hP 1 rfl rfl 1 (by decide) (ht _ w_45) (fun _ h9 => h9) rfl d_X5_feed_80 ?_
      exact g_iret (v := (nI (tz + i))) hx hb hr hlocks hP hD hS () (List.Perm.refl _) rfl (Nat.le_of_ble_eq_true rfl) (Nat.le_of_ble_eq_true rfl) d_X5_feed_83
    | succ k ih =>
      intro i hk  H locs hP hD hS ls hl
      refine lv_iload hx hb d_X5_feed_49 (lv_at hl 3 rfl) ?_
      refine lv_iload_n hx hb d_X5_feed_51 rfl (lv_at hl 1 rfl) ?_
      refine ln_icmp_ge_f (tgt := 76) hx hb d_X5_feed_52 (by decide) (by omega) (by omega) (by omega) ?_
      refine lv_aload_n hx hb d_X5_feed_55 rfl (lv_at hl 0 rfl) ?_
      refine va_get (D := g.2.1) (ci := 5) (v := .ref dt) (C := R_X5) (T := T_X5) (N := 3) hx hb ht i_X5 hown hK hP 0 rfl rfl 0 (by decide) (ht _ w_198) (fun _ h9 => h9) rfl d_X5_feed_56 ?_
      refine lv_lload_n hx hb d_X5_feed_59 rfl (lv_at hl 2 rfl) ?_
      refine lv_bipush (v := (nI 8)) hx hb d_X5_feed_60 (by decide) ?_
      refine lv_iload hx hb d_X5_feed_62 (lv_at hl 3 rfl) ?_
      refine ln_imul hx hb d_X5_feed_64 ?_
      refine lv_lushr (v := uL v (nI (8 * i))) hx hb d_X5_feed_65 rfl ?_
      refine lv_l2i (v := (uL v (nI (8 * i))).toInt32) hx hb d_X5_feed_66 rfl ?_
      refine g_callV (As := [.int ((uL v (nI (8 * i))).toInt32)]) (rest := []) (wr := [(x, .inr (5, [.ref dt, .ref (da 0), .ref (da 1)]))]) (q0 := 0) (ci := 3) (XSok g) ⟨hx, hb, hml, hown, ht⟩ hK hA hXs hl.1 hP hD hS (c_X3_put g dt dq 2048 (feedF tf tz v i) (tz + i) ((uL v (nI (8 * i))).toInt32) (by omega) (by decide)) (g_perm 3 [1, 2, 0] rfl rfl (by decide +kernel)) rfl rfl (cwV 1 ht (tb_V w_309 w_56 w_57 w_3 k_X3_put) rfl rfl rfl (by decide +kernel) ⟨(Nat.le_of_ble_eq_true rfl), (Nat.le_of_ble_eq_true rfl)⟩) rfl rfl (Nat.le_of_ble_eq_true rfl) d_X5_feed_67 ⟨(Nat.le_of_ble_eq_true rfl), (Nat.le_of_ble_eq_true rfl)⟩ (fun v u H locs hw hP hD hS => ?_)
      obtain rfl := hw
      have hP : va_P g.2.1 cls7 [(x, .inr (5, [.ref dt, .ref (da 0), .ref (da 1)])), (dt, .inr (3, [.ref dq, .int (nI ((tz + i) + 1))])), (dq, .inl (cI g, 2048, .inl (upd (feedF tf tz v i) (tz + i) (((uL v (nI (8 * i))).toInt32) &&& nI 255))))] H := hP
      have hD : va_D A [(x, .inr (5, [.ref dt, .ref (da 0), .ref (da 1)])), (dt, .inr (3, [.ref dq, .int (nI ((tz + i) + 1))])), (dq, .inl (cI g, 2048, .inl (upd (feedF tf tz v i) (tz + i) (((uL v (nI (8 * i))).toInt32) &&& nI 255))))] := hD
      refine W.eq (g2 := F0 m 70 ls []) rfl ?_
      refine ln_iinc (d := 1) (lv' := [(4, .int (nI (i + 1))), (0, .ref x), (1, .int (nI n)), (2, .long v)]) hx hb d_X5_feed_70 hl (k := 3) rfl rfl (by decide) rfl (fun ls hl => ?_)
      refine lv_goto (tgt := 49) hx hb d_X5_feed_73 (by decide) ?_
      exact ih (i + 1) (by omega)  _ _ hP hD hS ls (lv_sub hl [1, 2, 3, 0] rfl)
  exact loop n 0 (by omega)  _ _ hP hD hS ls (lv_sub hl [1, 2, 3, 0] rfl)

set_option maxHeartbeats 1000000 in
set_option maxRecDepth 100000 in
theorem t_X5_feed_1 (g : GG) (x : Nat) (n : Int32) (v : Int64) (hbad : ¬ (1 ≤ n ∧ n ≤ 8)) : Tg g y_X5_feed b_X5_feed 5 (some .int) ({ frames := 6, cells := 1, slots := 6, locals := 82 } : Room) [.ref x, .int n, .long v] [] "java/lang/IllegalArgumentException" := by
  refine Tx_of (cc := b_X5_feed) (maxL := 5) (ret := (some .int)) (by decide) rfl (Nat.le_of_ble_eq_true rfl) ?_
  intro p e s m below meth c A ls hx hb hr hml hown hts hlocks hin hA hP hK hD hXs hS hl
  have ht : ∀ w ∈ tb, w.before [.ref x, .int n, .long v].toArray s = true := fun w h => hts w (List.mem_cons_of_mem _ h)
  have hown : s.vm.findClass R_X5 = some m.cls := hown
  have hl : lv_has ls 5 [(0, .ref x), (1, .int n), (2, .long v)] := hl
  refine lv_iload_n hx hb d_X5_feed_0 rfl (lv_at hl 1 rfl) ?_
  refine lv_iconst (v := (nI 1)) hx hb d_X5_feed_1 (by decide) ?_
  refine lv_icmp_lt (tgt := 11) hx hb d_X5_feed_2 (by decide) (fun c_1 => ?_) (fun c_1 => ?_)
  · exact g_throw 7 Bundle.six exq_0 hx hb hml hown ht hlocks hin hXs stq_35 hP hS hl d_X5_feed_11 d_X5_feed_14 d_X5_feed_15 d_X5_feed_17 d_X5_feed_20 (Nat.le_of_ble_eq_true rfl) (Nat.le_of_ble_eq_true rfl) (Nat.le_of_ble_eq_true rfl) (Nat.le_of_ble_eq_true rfl) (Nat.le_of_ble_eq_true rfl) (Nat.le_of_ble_eq_true rfl) rfl
  · refine lv_iload_n hx hb d_X5_feed_5 rfl (lv_at hl 1 rfl) ?_
    refine lv_bipush (v := (nI 8)) hx hb d_X5_feed_6 (by decide) ?_
    refine lv_icmp_le (tgt := 21) hx hb d_X5_feed_8 (by decide) (fun c_2 => absurd c_2 (fun q => hbad ⟨Int32.not_lt.mp c_1, q⟩)) (fun _ => ?_)
    exact g_throw 7 Bundle.six exq_0 hx hb hml hown ht hlocks hin hXs stq_35 hP hS hl d_X5_feed_11 d_X5_feed_14 d_X5_feed_15 d_X5_feed_17 d_X5_feed_20 (Nat.le_of_ble_eq_true rfl) (Nat.le_of_ble_eq_true rfl) (Nat.le_of_ble_eq_true rfl) (Nat.le_of_ble_eq_true rfl) (Nat.le_of_ble_eq_true rfl) (Nat.le_of_ble_eq_true rfl) rfl

set_option maxHeartbeats 1000000 in
set_option maxRecDepth 100000 in
theorem t_X5_feed_2 (g : GG) (x : Nat) (dt : Nat) (da : Nat → Nat) (dq : Nat) (tf : Nat → Int32) (tz : Nat) (n : Nat) (v : Int64) (hn1 : 1 ≤ n) (hn2 : n ≤ 8) (hn3 : 2048 < tz + n) (htz : tz ≤ 2048) : Tg g y_X5_feed b_X5_feed 5 (some .int) ({ frames := 6, cells := 1, slots := 6, locals := 82 } : Room) [.ref x, .int (nI n), .long v] [(x, .inr (5, [.ref dt, .ref (da 0), .ref (da 1)])), (dt, .inr (3, [.ref dq, .int (nI tz)])), (dq, .inl (cI g, 2048, .inl tf))] "java/lang/IllegalStateException" := by
  refine Tx_of (cc := b_X5_feed) (maxL := 5) (ret := (some .int)) (by decide) rfl (Nat.le_of_ble_eq_true rfl) ?_
  intro p e s m below meth c A ls hx hb hr hml hown hts hlocks hin hA hP hK hD hXs hS hl
  have ht : ∀ w ∈ tb, w.before [.ref x, .int (nI n), .long v].toArray s = true := fun w h => hts w (List.mem_cons_of_mem _ h)
  have hown : s.vm.findClass R_X5 = some m.cls := hown
  have hl : lv_has ls 5 [(0, .ref x), (1, .int (nI n)), (2, .long v)] := hl
  refine lv_iload_n hx hb d_X5_feed_0 rfl (lv_at hl 1 rfl) ?_
  refine lv_iconst (v := (nI 1)) hx hb d_X5_feed_1 (by decide) ?_
  refine ln_icmp_lt_f (tgt := 11) hx hb d_X5_feed_2 (by decide) (by omega) (by omega) (by omega) ?_
  refine lv_iload_n hx hb d_X5_feed_5 rfl (lv_at hl 1 rfl) ?_
  refine lv_bipush (v := (nI 8)) hx hb d_X5_feed_6 (by decide) ?_
  refine ln_icmp_le_t (tgt := 21) hx hb d_X5_feed_8 (by decide) (by omega) (by omega) (by omega) ?_
  refine lv_aload_n hx hb d_X5_feed_21 rfl (lv_at hl 0 rfl) ?_
  refine va_get (D := g.2.1) (ci := 5) (v := .ref dt) (C := R_X5) (T := T_X5) (N := 3) hx hb ht i_X5 hown hK hP 0 rfl rfl 0 (by decide) (ht _ w_198) (fun _ h9 => h9) rfl d_X5_feed_22 ?_
  refine va_get (D := g.2.1) (ci := 3) (v := .int (nI tz)) (C := R_X3) (T := T_X3) (N := 2) hx hb ht i_X3 hown hK hP 1 rfl rfl 1 (by decide) (ht _ w_45) (fun _ h9 => h9) rfl d_X5_feed_25 ?_
  refine lv_iload_n hx hb d_X5_feed_28 rfl (lv_at hl 1 rfl) ?_
  refine ln_iadd hx hb d_X5_feed_29 ?_
  refine lv_sipush (v := (nI 2048)) hx hb d_X5_feed_30 (by decide) ?_
  refine ln_icmp_le_f (tgt := 46) hx hb d_X5_feed_33 (by decide) (by omega) (by omega) (by omega) ?_
  exact g_throw 7 Bundle.six exq_1 hx hb hml hown ht hlocks hin hXs stq_46 hP hS hl d_X5_feed_36 d_X5_feed_39 d_X5_feed_40 d_X5_feed_42 d_X5_feed_45 (Nat.le_of_ble_eq_true rfl) (Nat.le_of_ble_eq_true rfl) (Nat.le_of_ble_eq_true rfl) (Nat.le_of_ble_eq_true rfl) (Nat.le_of_ble_eq_true rfl) (Nat.le_of_ble_eq_true rfl) rfl
