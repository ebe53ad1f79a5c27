theorem ite01 {P : Prop} [Decidable P] : (if P then (1 : Int32) else 0) = 0 ↔ ¬ P := by
  by_cases h : P
  · simp [h]
  · simp [h]
/-- the level at which a message of a type comes -/
def lvI (t : Nat) : Int32 := if t = 1 ∨ t = 2 then nI 0 else if t = 8 ∨ t = 20 then nI 1 else -1
def lvB (l t : Nat) : Bool := decide ((l = 0 ∧ (t = 1 ∨ t = 2)) ∨ (l = 1 ∧ (t = 8 ∨ t = 20)))
def isT (t : Nat) : Prop := t = 0 ∨ t = 1 ∨ t = 2 ∨ t = 8 ∨ t = 20
theorem lvB_iff {l t : Nat} (hl : l < 2) (ht : isT t) : nI l = lvI t ↔ lvB l t = true := by
  rcases (show l = 0 ∨ l = 1 by omega) with rfl | rfl <;> rcases ht with rfl | rfl | rfl | rfl | rfl <;> decide
def szB (t n : Nat) : Bool := if t = 1 then decide (32 ≤ n ∧ n ≤ 332) else if t = 8 then decide (n ≤ 300) else decide (n = 32)
/-- the size that a message's head tells -/
def bsz (L : List Nat) : Nat := L.getD 1 0 * 65536 + L.getD 2 0 * 256 + L.getD 3 0
theorem bsz_lt {L : List Nat} (h : by8 L) : bsz L < 2 ^ 24 := by
  have h1 := by8_getD h 1
  have h2 := by8_getD h 2
  have h3 := by8_getD h 3
  unfold bsz
  omega
theorem orN {a b k : Nat} (hk32 : k ≤ 31) (ha : a * 2 ^ k < 2 ^ 32) (hb : b < 2 ^ k) : nI (a * 2 ^ k) ||| nI b = nI (a * 2 ^ k + b) := by
  apply Int32.toBitVec_inj.mp
  show (nI (a * 2 ^ k)).toBitVec ||| (nI b).toBitVec = (nI (a * 2 ^ k + b)).toBitVec
  apply BitVec.eq_of_toNat_eq
  have hk : a * 2 ^ k + b < 2 ^ 32 ∧ b < 2 ^ 32 := by
    have hp : 2 ^ 32 = 2 ^ k * 2 ^ (32 - k) := by rw [← Nat.pow_add]; congr 1; omega
    rw [hp] at ha ⊢
    rw [Nat.mul_comm a] at ha ⊢
    have h1 : a < 2 ^ (32 - k) := Nat.lt_of_mul_lt_mul_left ha
    have h2 : 2 ^ k * (a + 1) ≤ 2 ^ k * 2 ^ (32 - k) := Nat.mul_le_mul_left _ h1
    rw [Nat.mul_add, Nat.mul_one] at h2
    have h3 : 2 ^ k * 1 ≤ 2 ^ k * 2 ^ (32 - k) := Nat.mul_le_mul_left _ (Nat.one_le_two_pow)
    omega
  rw [BitVec.toNat_or, pk_tn ha, pk_tn hk.2, pk_tn hk.1, Nat.mul_comm a, Nat.two_pow_add_eq_or_of_lt hb]
theorem bszI {L : List Nat} (h : by8 L) : (sl (nI (L.getD 1 0)) (nI 16) ||| sl (nI (L.getD 2 0)) (nI 8)) ||| nI (L.getD 3 0) = nI (bsz L) := by
  have h1 := by8_getD h 1
  have h2 := by8_getD h 2
  have h3 := by8_getD h 3
  have e1 : sl (nI (L.getD 1 0)) (nI 16) = nI (L.getD 1 0 * 2 ^ 16) := pk_shlN _ 16 (by decide) (by omega)
  have e2 : sl (nI (L.getD 2 0)) (nI 8) = nI (L.getD 2 0 * 2 ^ 8) := pk_shlN _ 8 (by decide) (by omega)
  rw [e1, e2, orN (k := 16) (by decide) (by omega) (by omega)]
  have e3 : L.getD 1 0 * 2 ^ 16 + L.getD 2 0 * 2 ^ 8 = (L.getD 1 0 * 256 + L.getD 2 0) * 2 ^ 8 := by omega
  rw [e3, orN (k := 8) (by decide) (by omega) (by omega)]
  have e4 : (L.getD 1 0 * 256 + L.getD 2 0) * 2 ^ 8 + L.getD 3 0 = bsz L := by
    unfold bsz
    clear e1 e2 e3
    generalize L.getD 1 0 = a
    generalize L.getD 2 0 = b
    generalize L.getD 3 0 = c
    have : (a * 256 + b) * 2 ^ 8 = a * 65536 + b * 256 := by rw [Nat.add_mul, Nat.mul_assoc]
    rw [this]
  rw [e4]
set_option maxHeartbeats 1000000 in
set_option maxRecDepth 100000 in
theorem c_X4_levelOf_0 (g : GG)   : Cg g y_X4_levelOf b_X4_levelOf 1 (some .int) ({ frames := 0, cells := 0, slots := 0, locals := 0 } : Room) [.int (nI 0)] [] (S := Unit) (fun (v : Option Value) (_ : Unit) => v = some (.int (lvI 0))) (fun (_ : Unit) => []) := by
  refine Ct_of (cc := b_X4_levelOf) (maxL := 1) (ret := (some .int)) (by decide) rfl (Nat.le_of_ble_eq_true rfl) ?_
  intro p e s m below meth c A ls hx hb hr hml hown hts hlocks hin hA hP hK hD hXs hS hl
  have ht : ∀ w ∈ tb, w.before [.int (nI 0)].toArray s = true := fun w h => hts w (List.mem_cons_of_mem _ h)
  have hown : s.vm.findClass R_X4 = some m.cls := hown
  have hl : lv_has ls 1 [(0, .int (nI 0))] := hl
  refine lv_iload_n hx hb d_X4_levelOf_0 rfl (lv_at hl 0 rfl) ?_
  refine lv_lookup (off := 47) (tgt := 48) hx hb d_X4_levelOf_1 (by decide) (by decide) (by decide) ?_
  refine lv_iconst (v := (-1)) hx hb d_X4_levelOf_48 (by decide) ?_
  exact g_iret (v := (-1)) hx hb hr hlocks hP hD hS () (List.Perm.refl _) (congrArg (fun z => some (Value.int z)) (by decide : (-1) = lvI 0)) (Nat.le_of_ble_eq_true rfl) (Nat.le_of_ble_eq_true rfl) d_X4_levelOf_49

set_option maxHeartbeats 1000000 in
set_option maxRecDepth 100000 in
theorem c_X4_levelOf_1 (g : GG)   : Cg g y_X4_levelOf b_X4_levelOf 1 (some .int) ({ frames := 0, cells := 0, slots := 0, locals := 0 } : Room) [.int (nI 1)] [] (S := Unit) (fun (v : Option Value) (_ : Unit) => v = some (.int (lvI 1))) (fun (_ : Unit) => []) := by
  refine Ct_of (cc := b_X4_levelOf) (maxL := 1) (ret := (some .int)) (by decide) rfl (Nat.le_of_ble_eq_true rfl) ?_
  intro p e s m below meth c A ls hx hb hr hml hown hts hlocks hin hA hP hK hD hXs hS hl
  have ht : ∀ w ∈ tb, w.before [.int (nI 1)].toArray s = true := fun w h => hts w (List.mem_cons_of_mem _ h)
  have hown : s.vm.findClass R_X4 = some m.cls := hown
  have hl : lv_has ls 1 [(0, .int (nI 1))] := hl
  refine lv_iload_n hx hb d_X4_levelOf_0 rfl (lv_at hl 0 rfl) ?_
  refine lv_lookup (off := 43) (tgt := 44) hx hb d_X4_levelOf_1 (by decide) (by decide) (by decide) ?_
  refine lv_iconst (v := (nI 0)) hx hb d_X4_levelOf_44 (by decide) ?_
  exact g_iret (v := (nI 0)) hx hb hr hlocks hP hD hS () (List.Perm.refl _) (congrArg (fun z => some (Value.int z)) (by decide : (nI 0) = lvI 1)) (Nat.le_of_ble_eq_true rfl) (Nat.le_of_ble_eq_true rfl) d_X4_levelOf_45

set_option maxHeartbeats 1000000 in
set_option maxRecDepth 100000 in
theorem c_X4_levelOf_2 (g : GG)   : Cg g y_X4_levelOf b_X4_levelOf 1 (some .int) ({ frames := 0, cells := 0, slots := 0, locals := 0 } : Room) [.int (nI 2)] [] (S := Unit) (fun (v : Option Value) (_ : Unit) => v = some (.int (lvI 2))) (fun (_ : Unit) => []) := by
  refine Ct_of (cc := b_X4_levelOf) (maxL := 1) (ret := (some .int)) (by decide) rfl (Nat.le_of_ble_eq_true rfl) ?_
  intro p e s m below meth c A ls hx hb hr hml hown hts hlocks hin hA hP hK hD hXs hS hl
  have ht : ∀ w ∈ tb, w.before [.int (nI 2)].toArray s = true := fun w h => hts w (List.mem_cons_of_mem _ h)
  have hown : s.vm.findClass R_X4 = some m.cls := hown
  have hl : lv_has ls 1 [(0, .int (nI 2))] := hl
  refine lv_iload_n hx hb d_X4_levelOf_0 rfl (lv_at hl 0 rfl) ?_
  refine lv_lookup (off := 43) (tgt := 44) hx hb d_X4_levelOf_1 (by decide) (by decide) (by decide) ?_
  refine lv_iconst (v := (nI 0)) hx hb d_X4_levelOf_44 (by decide) ?_
  exact g_iret (v := (nI 0)) hx hb hr hlocks hP hD hS () (List.Perm.refl _) (congrArg (fun z => some (Value.int z)) (by decide : (nI 0) = lvI 2)) (Nat.le_of_ble_eq_true rfl) (Nat.le_of_ble_eq_true rfl) d_X4_levelOf_45

set_option maxHeartbeats 1000000 in
set_option maxRecDepth 100000 in
theorem c_X4_levelOf_8 (g : GG)   : Cg g y_X4_levelOf b_X4_levelOf 1 (some .int) ({ frames := 0, cells := 0, slots := 0, locals := 0 } : Room) [.int (nI 8)] [] (S := Unit) (fun (v : Option Value) (_ : Unit) => v = some (.int (lvI 8))) (fun (_ : Unit) => []) := by
  refine Ct_of (cc := b_X4_levelOf) (maxL := 1) (ret := (some .int)) (by decide) rfl (Nat.le_of_ble_eq_true rfl) ?_
  intro p e s m below meth c A ls hx hb hr hml hown hts hlocks hin hA hP hK hD hXs hS hl
  have ht : ∀ w ∈ tb, w.before [.int (nI 8)].toArray s = true := fun w h => hts w (List.mem_cons_of_mem _ h)
  have hown : s.vm.findClass R_X4 = some m.cls := hown
  have hl : lv_has ls 1 [(0, .int (nI 8))] := hl
  refine lv_iload_n hx hb d_X4_levelOf_0 rfl (lv_at hl 0 rfl) ?_
  refine lv_lookup (off := 45) (tgt := 46) hx hb d_X4_levelOf_1 (by decide) (by decide) (by decide) ?_
  refine lv_iconst (v := (nI 1)) hx hb d_X4_levelOf_46 (by decide) ?_
  exact g_iret (v := (nI 1)) hx hb hr hlocks hP hD hS () (List.Perm.refl _) (congrArg (fun z => some (Value.int z)) (by decide : (nI 1) = lvI 8)) (Nat.le_of_ble_eq_true rfl) (Nat.le_of_ble_eq_true rfl) d_X4_levelOf_47

set_option maxHeartbeats 1000000 in
set_option maxRecDepth 100000 in
theorem c_X4_levelOf_20 (g : GG)   : Cg g y_X4_levelOf b_X4_levelOf 1 (some .int) ({ frames := 0, cells := 0, slots := 0, locals := 0 } : Room) [.int (nI 20)] [] (S := Unit) (fun (v : Option Value) (_ : Unit) => v = some (.int (lvI 20))) (fun (_ : Unit) => []) := by
  refine Ct_of (cc := b_X4_levelOf) (maxL := 1) (ret := (some .int)) (by decide) rfl (Nat.le_of_ble_eq_true rfl) ?_
  intro p e s m below meth c A ls hx hb hr hml hown hts hlocks hin hA hP hK hD hXs hS hl
  have ht : ∀ w ∈ tb, w.before [.int (nI 20)].toArray s = true := fun w h => hts w (List.mem_cons_of_mem _ h)
  have hown : s.vm.findClass R_X4 = some m.cls := hown
  have hl : lv_has ls 1 [(0, .int (nI 20))] := hl
  refine lv_iload_n hx hb d_X4_levelOf_0 rfl (lv_at hl 0 rfl) ?_
  refine lv_lookup (off := 45) (tgt := 46) hx hb d_X4_levelOf_1 (by decide) (by decide) (by decide) ?_
  refine lv_iconst (v := (nI 1)) hx hb d_X4_levelOf_46 (by decide) ?_
  exact g_iret (v := (nI 1)) hx hb hr hlocks hP hD hS () (List.Perm.refl _) (congrArg (fun z => some (Value.int z)) (by decide : (nI 1) = lvI 20)) (Nat.le_of_ble_eq_true rfl) (Nat.le_of_ble_eq_true rfl) d_X4_levelOf_47

set_option maxRecDepth 100000 in
theorem c_X4_levelOf (g : GG) (t : Nat) (ht : isT t) : Cg g y_X4_levelOf b_X4_levelOf 1 (some .int) ({ frames := 0, cells := 0, slots := 0, locals := 0 } : Room) [.int (nI t)] [] (S := Unit) (fun (v : Option Value) (_ : Unit) => v = some (.int (lvI t))) (fun (_ : Unit) => []) := by
  rcases ht with rfl | rfl | rfl | rfl | rfl
  · exact c_X4_levelOf_0 g
  · exact c_X4_levelOf_1 g
  · exact c_X4_levelOf_2 g
  · exact c_X4_levelOf_8 g
  · exact c_X4_levelOf_20 g

set_option maxHeartbeats 1000000 in
set_option maxRecDepth 100000 in
theorem c_X4_isSizeOf_1 (g : GG) (n : Nat) (hn : n < 2 ^ 24) : Cg g y_X4_isSizeOf b_X4_isSizeOf 2 (some .boolean) ({ frames := 0, cells := 0, slots := 0, locals := 0 } : Room) [.int (nI 1), .int (nI n)] [] (S := Unit) (fun (v : Option Value) (_ : Unit) => v = some (.int (if szB 1 n = true then 1 else 0))) (fun (_ : Unit) => []) := by
  refine Ct_of (cc := b_X4_isSizeOf) (maxL := 2) (ret := (some .boolean)) (by decide) rfl (Nat.le_of_ble_eq_true rfl) ?_
  intro p e s m below meth c A ls hx hb hr hml hown hts hlocks hin hA hP hK hD hXs hS hl
  have ht : ∀ w ∈ tb, w.before [.int (nI 1), .int (nI n)].toArray s = true := fun w h => hts w (List.mem_cons_of_mem _ h)
  have hown : s.vm.findClass R_X4 = some m.cls := hown
  have hl : lv_has ls 2 [(0, .int (nI 1)), (1, .int (nI n))] := hl
  refine lv_iload_n hx hb d_X4_isSizeOf_0 rfl (lv_at hl 0 rfl) ?_
  refine lv_lookup (off := 27) (tgt := 28) hx hb d_X4_isSizeOf_1 (by decide) (by decide) (by decide) ?_
  refine lv_iload_n hx hb d_X4_isSizeOf_28 rfl (lv_at hl 1 rfl) ?_
  refine lv_bipush (v := (nI 32)) hx hb d_X4_isSizeOf_29 (by decide) ?_
  refine ln_icmp_lt (tgt := 45) hx hb d_X4_isSizeOf_31 (by decide) (by omega) (by omega) (fun c_1 => ?_) (fun c_1 => ?_)
  · refine lv_iconst (v := (nI 0)) hx hb d_X4_isSizeOf_45 (by decide) ?_
    have hsz : szB 1 n = false := by
      show decide (32 ≤ n ∧ n ≤ 332) = _
      simp only [decide_eq_false_iff_not]
      omega
    have e0 : (nI 0) = (if szB 1 n = true then 1 else 0) := by rw [hsz]; rfl
    exact g_zret (v := (nI 0)) hx hb hr hlocks hP hD hS () (List.Perm.refl _) (by decide) (congrArg (fun z => some (Value.int z)) e0) (Nat.le_of_ble_eq_true rfl) (Nat.le_of_ble_eq_true rfl) d_X4_isSizeOf_46
  · refine lv_iload_n hx hb d_X4_isSizeOf_34 rfl (lv_at hl 1 rfl) ?_
    refine lv_sipush (v := (nI 332)) hx hb d_X4_isSizeOf_35 (by decide) ?_
    refine ln_icmp_gt (tgt := 45) hx hb d_X4_isSizeOf_38 (by decide) (by omega) (by omega) (fun c_2 => ?_) (fun c_2 => ?_)
    · refine lv_iconst (v := (nI 0)) hx hb d_X4_isSizeOf_45 (by decide) ?_
      have hsz : szB 1 n = false := by
        show decide (32 ≤ n ∧ n ≤ 332) = _
        simp only [decide_eq_false_iff_not]
        omega
      have e0 : (nI 0) = (if szB 1 n = true then 1 else 0) := by rw [hsz]; rfl
      exact g_zret (v := (nI 0)) hx hb hr hlocks hP hD hS () (List.Perm.refl _) (by decide) (congrArg (fun z => some (Value.int z)) e0) (Nat.le_of_ble_eq_true rfl) (Nat.le_of_ble_eq_true rfl) d_X4_isSizeOf_46
    · refine lv_iconst (v := (nI 1)) hx hb d_X4_isSizeOf_41 (by decide) ?_
      refine lv_goto (tgt := 46) hx hb d_X4_isSizeOf_42 (by decide) ?_
      have hsz : szB 1 n = true := by
        show decide (32 ≤ n ∧ n ≤ 332) = _
        simp only [decide_eq_true_eq]
        omega
      have e0 : (nI 1) = (if szB 1 n = true then 1 else 0) := by rw [hsz]; rfl
      exact g_zret (v := (nI 1)) hx hb hr hlocks hP hD hS () (List.Perm.refl _) (by decide) (congrArg (fun z => some (Value.int z)) e0) (Nat.le_of_ble_eq_true rfl) (Nat.le_of_ble_eq_true rfl) d_X4_isSizeOf_46

set_option maxHeartbeats 1000000 in
set_option maxRecDepth 100000 in
theorem c_X4_isSizeOf_2 (g : GG) (n : Nat) (hn : n < 2 ^ 24) : Cg g y_X4_isSizeOf b_X4_isSizeOf 2 (some .boolean) ({ frames := 0, cells := 0, slots := 0, locals := 0 } : Room) [.int (nI 2), .int (nI n)] [] (S := Unit) (fun (v : Option Value) (_ : Unit) => v = some (.int (if szB 2 n = true then 1 else 0))) (fun (_ : Unit) => []) := by
  refine Ct_of (cc := b_X4_isSizeOf) (maxL := 2) (ret := (some .boolean)) (by decide) rfl (Nat.le_of_ble_eq_true rfl) ?_
  intro p e s m below meth c A ls hx hb hr hml hown hts hlocks hin hA hP hK hD hXs hS hl
  have ht : ∀ w ∈ tb, w.before [.int (nI 2), .int (nI n)].toArray s = true := fun w h => hts w (List.mem_cons_of_mem _ h)
  have hown : s.vm.findClass R_X4 = some m.cls := hown
  have hl : lv_has ls 2 [(0, .int (nI 2)), (1, .int (nI n))] := hl
  refine lv_iload_n hx hb d_X4_isSizeOf_0 rfl (lv_at hl 0 rfl) ?_
  refine lv_lookup (off := 59) (tgt := 60) hx hb d_X4_isSizeOf_1 (by decide) (by decide) (by decide) ?_
  refine lv_iload_n hx hb d_X4_isSizeOf_60 rfl (lv_at hl 1 rfl) ?_
  refine lv_bipush (v := (nI 32)) hx hb d_X4_isSizeOf_61 (by decide) ?_
  refine ln_icmp_ne (tgt := 70) hx hb d_X4_isSizeOf_63 (by decide) (by omega) (by omega) (fun c_1 => ?_) (fun c_1 => ?_)
  · refine lv_iconst (v := (nI 0)) hx hb d_X4_isSizeOf_70 (by decide) ?_
    have hsz : szB 2 n = false := by
      show decide (n = 32) = _
      simp only [decide_eq_false_iff_not]
      omega
    have e0 : (nI 0) = (if szB 2 n = true then 1 else 0) := by rw [hsz]; rfl
    exact g_zret (v := (nI 0)) hx hb hr hlocks hP hD hS () (List.Perm.refl _) (by decide) (congrArg (fun z => some (Value.int z)) e0) (Nat.le_of_ble_eq_true rfl) (Nat.le_of_ble_eq_true rfl) d_X4_isSizeOf_71
  · refine lv_iconst (v := (nI 1)) hx hb d_X4_isSizeOf_66 (by decide) ?_
    refine lv_goto (tgt := 71) hx hb d_X4_isSizeOf_67 (by decide) ?_
    have hsz : szB 2 n = true := by
      show decide (n = 32) = _
      simp only [decide_eq_true_eq]
      omega
    have e0 : (nI 1) = (if szB 2 n = true then 1 else 0) := by rw [hsz]; rfl
    exact g_zret (v := (nI 1)) hx hb hr hlocks hP hD hS () (List.Perm.refl _) (by decide) (congrArg (fun z => some (Value.int z)) e0) (Nat.le_of_ble_eq_true rfl) (Nat.le_of_ble_eq_true rfl) d_X4_isSizeOf_71

set_option maxHeartbeats 1000000 in
set_option maxRecDepth 100000 in
theorem c_X4_isSizeOf_8 (g : GG) (n : Nat) (hn : n < 2 ^ 24) : Cg g y_X4_isSizeOf b_X4_isSizeOf 2 (some .boolean) ({ frames := 0, cells := 0, slots := 0, locals := 0 } : Room) [.int (nI 8), .int (nI n)] [] (S := Unit) (fun (v : Option Value) (_ : Unit) => v = some (.int (if szB 8 n = true then 1 else 0))) (fun (_ : Unit) => []) := by
  refine Ct_of (cc := b_X4_isSizeOf) (maxL := 2) (ret := (some .boolean)) (by decide) rfl (Nat.le_of_ble_eq_true rfl) ?_
  intro p e s m below meth c A ls hx hb hr hml hown hts hlocks hin hA hP hK hD hXs hS hl
  have ht : ∀ w ∈ tb, w.before [.int (nI 8), .int (nI n)].toArray s = true := fun w h => hts w (List.mem_cons_of_mem _ h)
  have hown : s.vm.findClass R_X4 = some m.cls := hown
  have hl : lv_has ls 2 [(0, .int (nI 8)), (1, .int (nI n))] := hl
  refine lv_iload_n hx hb d_X4_isSizeOf_0 rfl (lv_at hl 0 rfl) ?_
  refine lv_lookup (off := 46) (tgt := 47) hx hb d_X4_isSizeOf_1 (by decide) (by decide) (by decide) ?_
  refine lv_iload_n hx hb d_X4_isSizeOf_47 rfl (lv_at hl 1 rfl) ?_
  refine lv_sipush (v := (nI 300)) hx hb d_X4_isSizeOf_48 (by decide) ?_
  refine ln_icmp_gt (tgt := 58) hx hb d_X4_isSizeOf_51 (by decide) (by omega) (by omega) (fun c_1 => ?_) (fun c_1 => ?_)
  · refine lv_iconst (v := (nI 0)) hx hb d_X4_isSizeOf_58 (by decide) ?_
    have hsz : szB 8 n = false := by
      show decide (n ≤ 300) = _
      simp only [decide_eq_false_iff_not]
      omega
    have e0 : (nI 0) = (if szB 8 n = true then 1 else 0) := by rw [hsz]; rfl
    exact g_zret (v := (nI 0)) hx hb hr hlocks hP hD hS () (List.Perm.refl _) (by decide) (congrArg (fun z => some (Value.int z)) e0) (Nat.le_of_ble_eq_true rfl) (Nat.le_of_ble_eq_true rfl) d_X4_isSizeOf_59
  · refine lv_iconst (v := (nI 1)) hx hb d_X4_isSizeOf_54 (by decide) ?_
    refine lv_goto (tgt := 59) hx hb d_X4_isSizeOf_55 (by decide) ?_
    have hsz : szB 8 n = true := by
      show decide (n ≤ 300) = _
      simp only [decide_eq_true_eq]
      omega
    have e0 : (nI 1) = (if szB 8 n = true then 1 else 0) := by rw [hsz]; rfl
    exact g_zret (v := (nI 1)) hx hb hr hlocks hP hD hS () (List.Perm.refl _) (by decide) (congrArg (fun z => some (Value.int z)) e0) (Nat.le_of_ble_eq_true rfl) (Nat.le_of_ble_eq_true rfl) d_X4_isSizeOf_59

set_option maxHeartbeats 1000000 in
set_option maxRecDepth 100000 in
theorem c_X4_isSizeOf_20 (g : GG) (n : Nat) (hn : n < 2 ^ 24) : Cg g y_X4_isSizeOf b_X4_isSizeOf 2 (some .boolean) ({ frames := 0, cells := 0, slots := 0, locals := 0 } : Room) [.int (nI 20), .int (nI n)] [] (S := Unit) (fun (v : Option Value) (_ : Unit) => v = some (.int (if szB 20 n = true then 1 else 0))) (fun (_ : Unit) => []) := by
  refine Ct_of (cc := b_X4_isSizeOf) (maxL := 2) (ret := (some .boolean)) (by decide) rfl (Nat.le_of_ble_eq_true rfl) ?_
  intro p e s m below meth c A ls hx hb hr hml hown hts hlocks hin hA hP hK hD hXs hS hl
  have ht : ∀ w ∈ tb, w.before [.int (nI 20), .int (nI n)].toArray s = true := fun w h => hts w (List.mem_cons_of_mem _ h)
  have hown : s.vm.findClass R_X4 = some m.cls := hown
  have hl : lv_has ls 2 [(0, .int (nI 20)), (1, .int (nI n))] := hl
  refine lv_iload_n hx hb d_X4_isSizeOf_0 rfl (lv_at hl 0 rfl) ?_
  refine lv_lookup (off := 59) (tgt := 60) hx hb d_X4_isSizeOf_1 (by decide) (by decide) (by decide) ?_
  refine lv_iload_n hx hb d_X4_isSizeOf_60 rfl (lv_at hl 1 rfl) ?_
  refine lv_bipush (v := (nI 32)) hx hb d_X4_isSizeOf_61 (by decide) ?_
  refine ln_icmp_ne (tgt := 70) hx hb d_X4_isSizeOf_63 (by decide) (by omega) (by omega) (fun c_1 => ?_) (fun c_1 => ?_)
  · refine lv_iconst (v := (nI 0)) hx hb d_X4_isSizeOf_70 (by decide) ?_
    have hsz : szB 20 n = false := by
      show decide (n = 32) = _
      simp only [decide_eq_false_iff_not]
      omega
    have e0 : (nI 0) = (if szB 20 n = true then 1 else 0) := by rw [hsz]; rfl
    exact g_zret (v := (nI 0)) hx hb hr hlocks hP hD hS () (List.Perm.refl _) (by decide) (congrArg (fun z => some (Value.int z)) e0) (Nat.le_of_ble_eq_true rfl) (Nat.le_of_ble_eq_true rfl) d_X4_isSizeOf_71
  · refine lv_iconst (v := (nI 1)) hx hb d_X4_isSizeOf_66 (by decide) ?_
    refine lv_goto (tgt := 71) hx hb d_X4_isSizeOf_67 (by decide) ?_
    have hsz : szB 20 n = true := by
      show decide (n = 32) = _
      simp only [decide_eq_true_eq]
      omega
    have e0 : (nI 1) = (if szB 20 n = true then 1 else 0) := by rw [hsz]; rfl
    exact g_zret (v := (nI 1)) hx hb hr hlocks hP hD hS () (List.Perm.refl _) (by decide) (congrArg (fun z => some (Value.int z)) e0) (Nat.le_of_ble_eq_true rfl) (Nat.le_of_ble_eq_true rfl) d_X4_isSizeOf_71

set_option maxRecDepth 100000 in
theorem c_X4_isSizeOf (g : GG) (t : Nat) (n : Nat) (ht : t = 1 ∨ t = 2 ∨ t = 8 ∨ t = 20) (hn : n < 2 ^ 24) : Cg g y_X4_isSizeOf b_X4_isSizeOf 2 (some .boolean) ({ frames := 0, cells := 0, slots := 0, locals := 0 } : Room) [.int (nI t), .int (nI n)] [] (S := Unit) (fun (v : Option Value) (_ : Unit) => v = some (.int (if szB t n = true then 1 else 0))) (fun (_ : Unit) => []) := by
  rcases ht with rfl | rfl | rfl | rfl
  · exact c_X4_isSizeOf_1 g n hn
  · exact c_X4_isSizeOf_2 g n hn
  · exact c_X4_isSizeOf_8 g n hn
  · exact c_X4_isSizeOf_20 g n hn

set_option maxHeartbeats 1000000 in
set_option maxRecDepth 100000 in
theorem c_X4_isOpen (g : GG) (x : Nat) (sa : Nat → Nat) (nb : Nat) (hh : Nat) (ns : Nat → Nat) (h1 : ns 1 < 2) (h3 : ns 3 < 2 ^ 31) : Cg g y_X4_isOpen b_X4_isOpen 1 (some .boolean) ({ frames := 0, cells := 0, slots := 0, locals := 0 } : Room) [.ref x] [(x, .inr (4, [.int (nI nb), .ref (sa 0), .ref (sa 2), .ref (sa 4), .int (nI (ns 0)), .int (nI (ns 1)), .int (nI (ns 2)), .int (nI (ns 3)), .int (nI (ns 4)), .ref hh, .ref (sa 6), .ref (sa 8), .ref (sa 10), .ref (sa 12), .ref (sa 14), .ref (sa 38), .ref (sa 39), .ref (sa 40), .ref (sa 41), .ref (sa 42)]))] (S := Unit) (fun (v : Option Value) (_ : Unit) => v = some (.int (if ns 1 = 1 ∧ ns 3 = 0 then 1 else 0))) (fun (_ : Unit) => [(x, .inr (4, [.int (nI nb), .ref (sa 0), .ref (sa 2), .ref (sa 4), .int (nI (ns 0)), .int (nI (ns 1)), .int (nI (ns 2)), .int (nI (ns 3)), .int (nI (ns 4)), .ref hh, .ref (sa 6), .ref (sa 8), .ref (sa 10), .ref (sa 12), .ref (sa 14), .ref (sa 38), .ref (sa 39), .ref (sa 40), .ref (sa 41), .ref (sa 42)]))]) := by
  refine Ct_of (cc := b_X4_isOpen) (maxL := 1) (ret := (some .boolean)) (by decide) rfl (Nat.le_of_ble_eq_true rfl) ?_
  intro p e s m below meth c A ls hx hb hr hml hown hts hlocks hin hA hP hK hD hXs hS hl
  have ht : ∀ w ∈ tb, w.before [.ref x].toArray s = true := fun w h => hts w (List.mem_cons_of_mem _ h)
  have hown : s.vm.findClass R_X4 = some m.cls := hown
  have hl : lv_has ls 1 [(0, .ref x)] := hl
  refine lv_aload_n hx hb d_X4_isOpen_0 rfl (lv_at hl 0 rfl) ?_
  refine va_get (D := g.2.1) (ci := 4) (v := .int (nI (ns 1))) (C := R_X4) (T := T_X4) (N := 20) hx hb ht i_X4 hown hK hP 0 rfl rfl 5 (by decide) (ht _ w_138) (fun _ h9 => h9) rfl d_X4_isOpen_1 ?_
  refine ln_if_eq (tgt := 18) hx hb d_X4_isOpen_4 (by decide) (by omega) (fun c_1 => ?_) (fun c_1 => ?_)
  · refine lv_iconst (v := (nI 0)) hx hb d_X4_isOpen_18 (by decide) ?_
    have e0 : (nI 0) = (if ns 1 = 1 ∧ ns 3 = 0 then 1 else 0) := (if_neg (by omega)).symm
    exact g_zret (v := (nI 0)) hx hb hr hlocks hP hD hS () (List.Perm.refl _) (by decide) (congrArg (fun z => some (Value.int z)) e0) (Nat.le_of_ble_eq_true rfl) (Nat.le_of_ble_eq_true rfl) d_X4_isOpen_19
  · refine lv_aload_n hx hb d_X4_isOpen_7 rfl (lv_at hl 0 rfl) ?_
    refine va_get (D := g.2.1) (ci := 4) (v := .int (nI (ns 3))) (C := R_X4) (T := T_X4) (N := 20) hx hb ht i_X4 hown hK hP 0 rfl rfl 7 (by decide) (ht _ w_142) (fun _ h9 => h9) rfl d_X4_isOpen_8 ?_
    refine ln_if_ne (tgt := 18) hx hb d_X4_isOpen_11 (by decide) (by omega) (fun c_2 => ?_) (fun c_2 => ?_)
    · refine lv_iconst (v := (nI 0)) hx hb d_X4_isOpen_18 (by decide) ?_
      have e0 : (nI 0) = (if ns 1 = 1 ∧ ns 3 = 0 then 1 else 0) := (if_neg (by omega)).symm
      exact g_zret (v := (nI 0)) hx hb hr hlocks hP hD hS () (List.Perm.refl _) (by decide) (congrArg (fun z => some (Value.int z)) e0) (Nat.le_of_ble_eq_true rfl) (Nat.le_of_ble_eq_true rfl) d_X4_isOpen_19
    · refine lv_iconst (v := (nI 1)) hx hb d_X4_isOpen_14 (by decide) ?_
      refine lv_goto (tgt := 19) hx hb d_X4_isOpen_15 (by decide) ?_
      have e0 : (nI 1) = (if ns 1 = 1 ∧ ns 3 = 0 then 1 else 0) := (if_pos ⟨by omega, by omega⟩).symm
      exact g_zret (v := (nI 1)) hx hb hr hlocks hP hD hS () (List.Perm.refl _) (by decide) (congrArg (fun z => some (Value.int z)) e0) (Nat.le_of_ble_eq_true rfl) (Nat.le_of_ble_eq_true rfl) d_X4_isOpen_19

set_option maxHeartbeats 1000000 in
set_option maxRecDepth 100000 in
theorem c_X4_lineAt_0 (g : GG) (x : Nat) (sa : Nat → Nat) (nb : Nat) (hh : Nat) (ns : Nat → Nat)  : Cg g y_X4_lineAt b_X4_lineAt 2 (some (.object "GreetDesk$Line")) ({ frames := 0, cells := 0, slots := 0, locals := 0 } : Room) [.ref x, .int (nI 0)] [(x, .inr (4, [.int (nI nb), .ref (sa 0), .ref (sa 2), .ref (sa 4), .int (nI (ns 0)), .int (nI (ns 1)), .int (nI (ns 2)), .int (nI (ns 3)), .int (nI (ns 4)), .ref hh, .ref (sa 6), .ref (sa 8), .ref (sa 10), .ref (sa 12), .ref (sa 14), .ref (sa 38), .ref (sa 39), .ref (sa 40), .ref (sa 41), .ref (sa 42)]))] (S := Unit) (fun (v : Option Value) (_ : Unit) => v = some (.ref (sa 38))) (fun (_ : Unit) => [(x, .inr (4, [.int (nI nb), .ref (sa 0), .ref (sa 2), .ref (sa 4), .int (nI (ns 0)), .int (nI (ns 1)), .int (nI (ns 2)), .int (nI (ns 3)), .int (nI (ns 4)), .ref hh, .ref (sa 6), .ref (sa 8), .ref (sa 10), .ref (sa 12), .ref (sa 14), .ref (sa 38), .ref (sa 39), .ref (sa 40), .ref (sa 41), .ref (sa 42)]))]) := by
  refine Ct_of (cc := b_X4_lineAt) (maxL := 2) (ret := (some (.object "GreetDesk$Line"))) (by decide) rfl (Nat.le_of_ble_eq_true rfl) ?_
  intro p e s m below meth c A ls hx hb hr hml hown hts hlocks hin hA hP hK hD hXs hS hl
  have ht : ∀ w ∈ tb, w.before [.ref x, .int (nI 0)].toArray s = true := fun w h => hts w (List.mem_cons_of_mem _ h)
  have hown : s.vm.findClass R_X4 = some m.cls := hown
  have hl : lv_has ls 2 [(0, .ref x), (1, .int (nI 0))] := hl
  refine lv_iload_n hx hb d_X4_lineAt_0 rfl (lv_at hl 1 rfl) ?_
  refine ln_if_ne_f (tgt := 11) hx hb d_X4_lineAt_1 (by decide) (by omega) (by omega) ?_
  refine lv_aload_n hx hb d_X4_lineAt_4 rfl (lv_at hl 0 rfl) ?_
  refine va_get (D := g.2.1) (ci := 4) (v := .ref (sa 38)) (C := R_X4) (T := T_X4) (N := 20) hx hb ht i_X4 hown hK hP 0 rfl rfl 15 (by decide) (ht _ w_152) (fun _ h9 => h9) rfl d_X4_lineAt_5 ?_
  refine lv_goto (tgt := 15) hx hb d_X4_lineAt_8 (by decide) ?_
  exact g_aret hx hb hr (Or.inl ⟨_, rfl⟩) hlocks hP hD hS () (List.Perm.refl _) rfl (Nat.le_of_ble_eq_true rfl) (Nat.le_of_ble_eq_true rfl) d_X4_lineAt_15

set_option maxHeartbeats 1000000 in
set_option maxRecDepth 100000 in
theorem c_X4_lineAt_1 (g : GG) (x : Nat) (sa : Nat → Nat) (nb : Nat) (hh : Nat) (ns : Nat → Nat)  : Cg g y_X4_lineAt b_X4_lineAt 2 (some (.object "GreetDesk$Line")) ({ frames := 0, cells := 0, slots := 0, locals := 0 } : Room) [.ref x, .int (nI 1)] [(x, .inr (4, [.int (nI nb), .ref (sa 0), .ref (sa 2), .ref (sa 4), .int (nI (ns 0)), .int (nI (ns 1)), .int (nI (ns 2)), .int (nI (ns 3)), .int (nI (ns 4)), .ref hh, .ref (sa 6), .ref (sa 8), .ref (sa 10), .ref (sa 12), .ref (sa 14), .ref (sa 38), .ref (sa 39), .ref (sa 40), .ref (sa 41), .ref (sa 42)]))] (S := Unit) (fun (v : Option Value) (_ : Unit) => v = some (.ref (sa 39))) (fun (_ : Unit) => [(x, .inr (4, [.int (nI nb), .ref (sa 0), .ref (sa 2), .ref (sa 4), .int (nI (ns 0)), .int (nI (ns 1)), .int (nI (ns 2)), .int (nI (ns 3)), .int (nI (ns 4)), .ref hh, .ref (sa 6), .ref (sa 8), .ref (sa 10), .ref (sa 12), .ref (sa 14), .ref (sa 38), .ref (sa 39), .ref (sa 40), .ref (sa 41), .ref (sa 42)]))]) := by
  refine Ct_of (cc := b_X4_lineAt) (maxL := 2) (ret := (some (.object "GreetDesk$Line"))) (by decide) rfl (Nat.le_of_ble_eq_true rfl) ?_
  intro p e s m below meth c A ls hx hb hr hml hown hts hlocks hin hA hP hK hD hXs hS hl
  have ht : ∀ w ∈ tb, w.before [.ref x, .int (nI 1)].toArray s = true := fun w h => hts w (List.mem_cons_of_mem _ h)
  have hown : s.vm.findClass R_X4 = some m.cls := hown
  have hl : lv_has ls 2 [(0, .ref x), (1, .int (nI 1))] := hl
  refine lv_iload_n hx hb d_X4_lineAt_0 rfl (lv_at hl 1 rfl) ?_
  refine ln_if_ne_t (tgt := 11) hx hb d_X4_lineAt_1 (by decide) (by omega) (by omega) ?_
  refine lv_aload_n hx hb d_X4_lineAt_11 rfl (lv_at hl 0 rfl) ?_
  refine va_get (D := g.2.1) (ci := 4) (v := .ref (sa 39)) (C := R_X4) (T := T_X4) (N := 20) hx hb ht i_X4 hown hK hP 0 rfl rfl 16 (by decide) (ht _ w_153) (fun _ h9 => h9) rfl d_X4_lineAt_12 ?_
  exact g_aret hx hb hr (Or.inl ⟨_, rfl⟩) hlocks hP hD hS () (List.Perm.refl _) rfl (Nat.le_of_ble_eq_true rfl) (Nat.le_of_ble_eq_true rfl) d_X4_lineAt_15

set_option maxHeartbeats 1000000 in
set_option maxRecDepth 100000 in
theorem c_X4_pairAt_0 (g : GG) (x : Nat) (sa : Nat → Nat) (nb : Nat) (hh : Nat) (ns : Nat → Nat)  : Cg g y_X4_pairAt b_X4_pairAt 2 (some (.object "GreetDesk$Pair")) ({ frames := 0, cells := 0, slots := 0, locals := 0 } : Room) [.ref x, .int (nI 0)] [(x, .inr (4, [.int (nI nb), .ref (sa 0), .ref (sa 2), .ref (sa 4), .int (nI (ns 0)), .int (nI (ns 1)), .int (nI (ns 2)), .int (nI (ns 3)), .int (nI (ns 4)), .ref hh, .ref (sa 6), .ref (sa 8), .ref (sa 10), .ref (sa 12), .ref (sa 14), .ref (sa 38), .ref (sa 39), .ref (sa 40), .ref (sa 41), .ref (sa 42)]))] (S := Unit) (fun (v : Option Value) (_ : Unit) => v = some (.ref (sa 40))) (fun (_ : Unit) => [(x, .inr (4, [.int (nI nb), .ref (sa 0), .ref (sa 2), .ref (sa 4), .int (nI (ns 0)), .int (nI (ns 1)), .int (nI (ns 2)), .int (nI (ns 3)), .int (nI (ns 4)), .ref hh, .ref (sa 6), .ref (sa 8), .ref (sa 10), .ref (sa 12), .ref (sa 14), .ref (sa 38), .ref (sa 39), .ref (sa 40), .ref (sa 41), .ref (sa 42)]))]) := by
  refine Ct_of (cc := b_X4_pairAt) (maxL := 2) (ret := (some (.object "GreetDesk$Pair"))) (by decide) rfl (Nat.le_of_ble_eq_true rfl) ?_
  intro p e s m below meth c A ls hx hb hr hml hown hts hlocks hin hA hP hK hD hXs hS hl
  have ht : ∀ w ∈ tb, w.before [.ref x, .int (nI 0)].toArray s = true := fun w h => hts w (List.mem_cons_of_mem _ h)
  have hown : s.vm.findClass R_X4 = some m.cls := hown
  have hl : lv_has ls 2 [(0, .ref x), (1, .int (nI 0))] := hl
  refine lv_iload_n hx hb d_X4_pairAt_0 rfl (lv_at hl 1 rfl) ?_
  refine ln_if_ne_f (tgt := 11) hx hb d_X4_pairAt_1 (by decide) (by omega) (by omega) ?_
  refine lv_aload_n hx hb d_X4_pairAt_4 rfl (lv_at hl 0 rfl) ?_
  refine va_get (D := g.2.1) (ci := 4) (v := .ref (sa 40)) (C := R_X4) (T := T_X4) (N := 20) hx hb ht i_X4 hown hK hP 0 rfl rfl 17 (by decide) (ht _ w_154) (fun _ h9 => h9) rfl d_X4_pairAt_5 ?_
  refine lv_goto (tgt := 27) hx hb d_X4_pairAt_8 (by decide) ?_
  exact g_aret hx hb hr (Or.inl ⟨_, rfl⟩) hlocks hP hD hS () (List.Perm.refl _) rfl (Nat.le_of_ble_eq_true rfl) (Nat.le_of_ble_eq_true rfl) d_X4_pairAt_27

set_option maxHeartbeats 1000000 in
set_option maxRecDepth 100000 in
theorem c_X4_pairAt_1 (g : GG) (x : Nat) (sa : Nat → Nat) (nb : Nat) (hh : Nat) (ns : Nat → Nat)  : Cg g y_X4_pairAt b_X4_pairAt 2 (some (.object "GreetDesk$Pair")) ({ frames := 0, cells := 0, slots := 0, locals := 0 } : Room) [.ref x, .int (nI 1)] [(x, .inr (4, [.int (nI nb), .ref (sa 0), .ref (sa 2), .ref (sa 4), .int (nI (ns 0)), .int (nI (ns 1)), .int (nI (ns 2)), .int (nI (ns 3)), .int (nI (ns 4)), .ref hh, .ref (sa 6), .ref (sa 8), .ref (sa 10), .ref (sa 12), .ref (sa 14), .ref (sa 38), .ref (sa 39), .ref (sa 40), .ref (sa 41), .ref (sa 42)]))] (S := Unit) (fun (v : Option Value) (_ : Unit) => v = some (.ref (sa 41))) (fun (_ : Unit) => [(x, .inr (4, [.int (nI nb), .ref (sa 0), .ref (sa 2), .ref (sa 4), .int (nI (ns 0)), .int (nI (ns 1)), .int (nI (ns 2)), .int (nI (ns 3)), .int (nI (ns 4)), .ref hh, .ref (sa 6), .ref (sa 8), .ref (sa 10), .ref (sa 12), .ref (sa 14), .ref (sa 38), .ref (sa 39), .ref (sa 40), .ref (sa 41), .ref (sa 42)]))]) := by
  refine Ct_of (cc := b_X4_pairAt) (maxL := 2) (ret := (some (.object "GreetDesk$Pair"))) (by decide) rfl (Nat.le_of_ble_eq_true rfl) ?_
  intro p e s m below meth c A ls hx hb hr hml hown hts hlocks hin hA hP hK hD hXs hS hl
  have ht : ∀ w ∈ tb, w.before [.ref x, .int (nI 1)].toArray s = true := fun w h => hts w (List.mem_cons_of_mem _ h)
  have hown : s.vm.findClass R_X4 = some m.cls := hown
  have hl : lv_has ls 2 [(0, .ref x), (1, .int (nI 1))] := hl
  refine lv_iload_n hx hb d_X4_pairAt_0 rfl (lv_at hl 1 rfl) ?_
  refine ln_if_ne_t (tgt := 11) hx hb d_X4_pairAt_1 (by decide) (by omega) (by omega) ?_
  refine lv_iload_n hx hb d_X4_pairAt_11 rfl (lv_at hl 1 rfl) ?_
  refine lv_iconst (v := (nI 1)) hx hb d_X4_pairAt_12 (by decide) ?_
  refine ln_icmp_ne_f (tgt := 23) hx hb d_X4_pairAt_13 (by decide) (by omega) (by omega) (by omega) ?_
  refine lv_aload_n hx hb d_X4_pairAt_16 rfl (lv_at hl 0 rfl) ?_
  refine va_get (D := g.2.1) (ci := 4) (v := .ref (sa 41)) (C := R_X4) (T := T_X4) (N := 20) hx hb ht i_X4 hown hK hP 0 rfl rfl 18 (by decide) (ht _ w_155) (fun _ h9 => h9) rfl d_X4_pairAt_17 ?_
  refine lv_goto (tgt := 27) hx hb d_X4_pairAt_20 (by decide) ?_
  exact g_aret hx hb hr (Or.inl ⟨_, rfl⟩) hlocks hP hD hS () (List.Perm.refl _) rfl (Nat.le_of_ble_eq_true rfl) (Nat.le_of_ble_eq_true rfl) d_X4_pairAt_27

set_option maxHeartbeats 1000000 in
set_option maxRecDepth 100000 in
theorem c_X4_pairAt_2 (g : GG) (x : Nat) (sa : Nat → Nat) (nb : Nat) (hh : Nat) (ns : Nat → Nat)  : Cg g y_X4_pairAt b_X4_pairAt 2 (some (.object "GreetDesk$Pair")) ({ frames := 0, cells := 0, slots := 0, locals := 0 } : Room) [.ref x, .int (nI 2)] [(x, .inr (4, [.int (nI nb), .ref (sa 0), .ref (sa 2), .ref (sa 4), .int (nI (ns 0)), .int (nI (ns 1)), .int (nI (ns 2)), .int (nI (ns 3)), .int (nI (ns 4)), .ref hh, .ref (sa 6), .ref (sa 8), .ref (sa 10), .ref (sa 12), .ref (sa 14), .ref (sa 38), .ref (sa 39), .ref (sa 40), .ref (sa 41), .ref (sa 42)]))] (S := Unit) (fun (v : Option Value) (_ : Unit) => v = some (.ref (sa 42))) (fun (_ : Unit) => [(x, .inr (4, [.int (nI nb), .ref (sa 0), .ref (sa 2), .ref (sa 4), .int (nI (ns 0)), .int (nI (ns 1)), .int (nI (ns 2)), .int (nI (ns 3)), .int (nI (ns 4)), .ref hh, .ref (sa 6), .ref (sa 8), .ref (sa 10), .ref (sa 12), .ref (sa 14), .ref (sa 38), .ref (sa 39), .ref (sa 40), .ref (sa 41), .ref (sa 42)]))]) := by
  refine Ct_of (cc := b_X4_pairAt) (maxL := 2) (ret := (some (.object "GreetDesk$Pair"))) (by decide) rfl (Nat.le_of_ble_eq_true rfl) ?_
  intro p e s m below meth c A ls hx hb hr hml hown hts hlocks hin hA hP hK hD hXs hS hl
  have ht : ∀ w ∈ tb, w.before [.ref x, .int (nI 2)].toArray s = true := fun w h => hts w (List.mem_cons_of_mem _ h)
  have hown : s.vm.findClass R_X4 = some m.cls := hown
  have hl : lv_has ls 2 [(0, .ref x), (1, .int (nI 2))] := hl
  refine lv_iload_n hx hb d_X4_pairAt_0 rfl (lv_at hl 1 rfl) ?_
  refine ln_if_ne_t (tgt := 11) hx hb d_X4_pairAt_1 (by decide) (by omega) (by omega) ?_
  refine lv_iload_n hx hb d_X4_pairAt_11 rfl (lv_at hl 1 rfl) ?_
  refine lv_iconst (v := (nI 1)) hx hb d_X4_pairAt_12 (by decide) ?_
  refine ln_icmp_ne_t (tgt := 23) hx hb d_X4_pairAt_13 (by decide) (by omega) (by omega) (by omega) ?_
  refine lv_aload_n hx hb d_X4_pairAt_23 rfl (lv_at hl 0 rfl) ?_
  refine va_get (D := g.2.1) (ci := 4) (v := .ref (sa 42)) (C := R_X4) (T := T_X4) (N := 20) hx hb ht i_X4 hown hK hP 0 rfl rfl 19 (by decide) (ht _ w_156) (fun _ h9 => h9) rfl d_X4_pairAt_24 ?_
  exact g_aret hx hb hr (Or.inl ⟨_, rfl⟩) hlocks hP hD hS () (List.Perm.refl _) rfl (Nat.le_of_ble_eq_true rfl) (Nat.le_of_ble_eq_true rfl) d_X4_pairAt_27

set_option maxHeartbeats 1000000 in
set_option maxRecDepth 100000 in
theorem c_X2_secretOf_0 (g : GG) (pa : Nat) (r0 : Nat) (r1 : Nat) (r2 : Nat)  : Cg g y_X2_secretOf b_X2_secretOf 2 (some (.object "GreetDesk$Row")) ({ frames := 0, cells := 0, slots := 0, locals := 0 } : Room) [.ref pa, .int (nI 0)] [(pa, .inr (2, [.ref r0, .ref r1, .ref r2]))] (S := Unit) (fun (v : Option Value) (_ : Unit) => v = some (.ref r1)) (fun (_ : Unit) => [(pa, .inr (2, [.ref r0, .ref r1, .ref r2]))]) := by
  refine Ct_of (cc := b_X2_secretOf) (maxL := 2) (ret := (some (.object "GreetDesk$Row"))) (by decide) rfl (Nat.le_of_ble_eq_true rfl) ?_
  intro p e s m below meth c A ls hx hb hr hml hown hts hlocks hin hA hP hK hD hXs hS hl
  have ht : ∀ w ∈ tb, w.before [.ref pa, .int (nI 0)].toArray s = true := fun w h => hts w (List.mem_cons_of_mem _ h)
  have hown : s.vm.findClass R_X2 = some m.cls := hown
  have hl : lv_has ls 2 [(0, .ref pa), (1, .int (nI 0))] := hl
  refine lv_iload_n hx hb d_X2_secretOf_0 rfl (lv_at hl 1 rfl) ?_
  refine ln_if_ne_f (tgt := 11) hx hb d_X2_secretOf_1 (by decide) (by omega) (by omega) ?_
  refine lv_aload_n hx hb d_X2_secretOf_4 rfl (lv_at hl 0 rfl) ?_
  refine va_get (D := g.2.1) (ci := 2) (v := .ref r1) (C := R_X2) (T := T_X2) (N := 3) hx hb ht i_X2 hown hK hP 0 rfl rfl 1 (by decide) (ht _ w_118) (fun _ h9 => h9) rfl d_X2_secretOf_5 ?_
  refine lv_goto (tgt := 15) hx hb d_X2_secretOf_8 (by decide) ?_
  exact g_aret hx hb hr (Or.inl ⟨_, rfl⟩) hlocks hP hD hS () (List.Perm.refl _) rfl (Nat.le_of_ble_eq_true rfl) (Nat.le_of_ble_eq_true rfl) d_X2_secretOf_15

set_option maxHeartbeats 1000000 in
set_option maxRecDepth 100000 in
theorem c_X2_secretOf_1 (g : GG) (pa : Nat) (r0 : Nat) (r1 : Nat) (r2 : Nat)  : Cg g y_X2_secretOf b_X2_secretOf 2 (some (.object "GreetDesk$Row")) ({ frames := 0, cells := 0, slots := 0, locals := 0 } : Room) [.ref pa, .int (nI 1)] [(pa, .inr (2, [.ref r0, .ref r1, .ref r2]))] (S := Unit) (fun (v : Option Value) (_ : Unit) => v = some (.ref r2)) (fun (_ : Unit) => [(pa, .inr (2, [.ref r0, .ref r1, .ref r2]))]) := by
  refine Ct_of (cc := b_X2_secretOf) (maxL := 2) (ret := (some (.object "GreetDesk$Row"))) (by decide) rfl (Nat.le_of_ble_eq_true rfl) ?_
  intro p e s m below meth c A ls hx hb hr hml hown hts hlocks hin hA hP hK hD hXs hS hl
  have ht : ∀ w ∈ tb, w.before [.ref pa, .int (nI 1)].toArray s = true := fun w h => hts w (List.mem_cons_of_mem _ h)
  have hown : s.vm.findClass R_X2 = some m.cls := hown
  have hl : lv_has ls 2 [(0, .ref pa), (1, .int (nI 1))] := hl
  refine lv_iload_n hx hb d_X2_secretOf_0 rfl (lv_at hl 1 rfl) ?_
  refine ln_if_ne_t (tgt := 11) hx hb d_X2_secretOf_1 (by decide) (by omega) (by omega) ?_
  refine lv_aload_n hx hb d_X2_secretOf_11 rfl (lv_at hl 0 rfl) ?_
  refine va_get (D := g.2.1) (ci := 2) (v := .ref r2) (C := R_X2) (T := T_X2) (N := 3) hx hb ht i_X2 hown hK hP 0 rfl rfl 2 (by decide) (ht _ w_120) (fun _ h9 => h9) rfl d_X2_secretOf_12 ?_
  exact g_aret hx hb hr (Or.inl ⟨_, rfl⟩) hlocks hP hD hS () (List.Perm.refl _) rfl (Nat.le_of_ble_eq_true rfl) (Nat.le_of_ble_eq_true rfl) d_X2_secretOf_15

set_option maxHeartbeats 1000000 in
set_option maxRecDepth 100000 in
theorem c_X2_isMade (g : GG) (pa : Nat) (r0 : Nat) (a : Nat) (r2 : Nat) (q : Nat) (n : Nat) (f : Nat → Int32) (z : Nat) (hz : z < 2 ^ 31) : Cg g y_X2_isMade b_X2_isMade 1 (some .boolean) ({ frames := 0, cells := 0, slots := 0, locals := 0 } : Room) [.ref pa] [(pa, .inr (2, [.ref r0, .ref a, .ref r2])), (a, .inr (3, [.ref q, .int (nI z)])), (q, .inl (cI g, n, .inl f))] (S := Unit) (fun (v : Option Value) (_ : Unit) => v = some (.int (if 0 < z then 1 else 0))) (fun (_ : Unit) => [(pa, .inr (2, [.ref r0, .ref a, .ref r2])), (a, .inr (3, [.ref q, .int (nI z)])), (q, .inl (cI g, n, .inl f))]) := by
  refine Ct_of (cc := b_X2_isMade) (maxL := 1) (ret := (some .boolean)) (by decide) rfl (Nat.le_of_ble_eq_true rfl) ?_
  intro p e s m below meth c A ls hx hb hr hml hown hts hlocks hin hA hP hK hD hXs hS hl
  have ht : ∀ w ∈ tb, w.before [.ref pa].toArray s = true := fun w h => hts w (List.mem_cons_of_mem _ h)
  have hown : s.vm.findClass R_X2 = some m.cls := hown
  have hl : lv_has ls 1 [(0, .ref pa)] := hl
  refine lv_aload_n hx hb d_X2_isMade_0 rfl (lv_at hl 0 rfl) ?_
  refine va_get (D := g.2.1) (ci := 2) (v := .ref a) (C := R_X2) (T := T_X2) (N := 3) hx hb ht i_X2 hown hK hP 0 rfl rfl 1 (by decide) (ht _ w_118) (fun _ h9 => h9) rfl d_X2_isMade_1 ?_
  refine va_get (D := g.2.1) (ci := 3) (v := .int (nI z)) (C := R_X3) (T := T_X3) (N := 2) hx hb ht i_X3 hown hK hP 1 rfl rfl 1 (by decide) (ht _ w_46) (fun _ h9 => h9) rfl d_X2_isMade_4 ?_
  refine ln_if_le (tgt := 14) hx hb d_X2_isMade_7 (by decide) (by omega) (fun c_1 => ?_) (fun c_1 => ?_)
  · refine lv_iconst (v := (nI 0)) hx hb d_X2_isMade_14 (by decide) ?_
    have e0 : (nI 0) = (if 0 < z then 1 else 0) := (if_neg (by omega)).symm
    exact g_zret (v := (nI 0)) hx hb hr hlocks hP hD hS () (List.Perm.refl _) (by decide) (congrArg (fun z => some (Value.int z)) e0) (Nat.le_of_ble_eq_true rfl) (Nat.le_of_ble_eq_true rfl) d_X2_isMade_15
  · refine lv_iconst (v := (nI 1)) hx hb d_X2_isMade_10 (by decide) ?_
    refine lv_goto (tgt := 15) hx hb d_X2_isMade_11 (by decide) ?_
    have e0 : (nI 1) = (if 0 < z then 1 else 0) := (if_pos (by omega)).symm
    exact g_zret (v := (nI 1)) hx hb hr hlocks hP hD hS () (List.Perm.refl _) (by decide) (congrArg (fun z => some (Value.int z)) e0) (Nat.le_of_ble_eq_true rfl) (Nat.le_of_ble_eq_true rfl) d_X2_isMade_15

set_option maxHeartbeats 1000000 in
set_option maxRecDepth 100000 in
theorem c_X4_bodySize (g : GG) (x : Nat) (sa : Nat → Nat) (nb : Nat) (hh : Nat) (ns : Nat → Nat) (wf : Nat → Int32) (M : List Nat) (hwb : bz M wf) (hw8 : by8 M) (hwn : M.length ≤ 336) : Cg g y_X4_bodySize b_X4_bodySize 1 (some .int) ({ frames := 1, cells := 0, slots := 0, locals := 21 } : Room) [.ref x] [(x, .inr (4, [.int (nI nb), .ref (sa 0), .ref (sa 2), .ref (sa 4), .int (nI (ns 0)), .int (nI (ns 1)), .int (nI (ns 2)), .int (nI (ns 3)), .int (nI (ns 4)), .ref hh, .ref (sa 6), .ref (sa 8), .ref (sa 10), .ref (sa 12), .ref (sa 14), .ref (sa 38), .ref (sa 39), .ref (sa 40), .ref (sa 41), .ref (sa 42)])), (sa 8, .inr (3, [.ref (sa 9), .int (nI M.length)])), (sa 9, .inl (cI g, 336, .inl wf))] (S := Unit) (fun (v : Option Value) (_ : Unit) => v = some (.int (nI (bsz M)))) (fun (_ : Unit) => [(x, .inr (4, [.int (nI nb), .ref (sa 0), .ref (sa 2), .ref (sa 4), .int (nI (ns 0)), .int (nI (ns 1)), .int (nI (ns 2)), .int (nI (ns 3)), .int (nI (ns 4)), .ref hh, .ref (sa 6), .ref (sa 8), .ref (sa 10), .ref (sa 12), .ref (sa 14), .ref (sa 38), .ref (sa 39), .ref (sa 40), .ref (sa 41), .ref (sa 42)])), (sa 8, .inr (3, [.ref (sa 9), .int (nI M.length)])), (sa 9, .inl (cI g, 336, .inl wf))]) := by
  refine Ct_of (cc := b_X4_bodySize) (maxL := 1) (ret := (some .int)) (by decide) rfl (Nat.le_of_ble_eq_true rfl) ?_
  intro p e s m below meth c A ls hx hb hr hml hown hts hlocks hin hA hP hK hD hXs hS hl
  have ht : ∀ w ∈ tb, w.before [.ref x].toArray s = true := fun w h => hts w (List.mem_cons_of_mem _ h)
  have hown : s.vm.findClass R_X4 = some m.cls := hown
  have hl : lv_has ls 1 [(0, .ref x)] := hl
  refine lv_aload_n hx hb d_X4_bodySize_0 rfl (lv_at hl 0 rfl) ?_
  refine va_get (D := g.2.1) (ci := 4) (v := .ref (sa 8)) (C := R_X4) (T := T_X4) (N := 20) hx hb ht i_X4 hown hK hP 0 rfl rfl 11 (by decide) (ht _ w_148) (fun _ h9 => h9) rfl d_X4_bodySize_1 ?_
  refine lv_iconst (v := (nI 1)) hx hb d_X4_bodySize_4 (by decide) ?_
  refine g_callV (As := [.int (nI 1)]) (rest := []) (wr := [(x, .inr (4, [.int (nI nb), .ref (sa 0), .ref (sa 2), .ref (sa 4), .int (nI (ns 0)), .int (nI (ns 1)), .int (nI (ns 2)), .int (nI (ns 3)), .int (nI (ns 4)), .ref hh, .ref (sa 6), .ref (sa 8), .ref (sa 10), .ref (sa 12), .ref (sa 14), .ref (sa 38), .ref (sa 39), .ref (sa 40), .ref (sa 41), .ref (sa 42)]))]) (q0 := 0) (ci := 3) (XSok g) ⟨hx, hb, hml, hown, ht⟩ hK hA hXs hl.1 hP hD hS (c_X3_at g (sa 8) (sa 9) 336 wf M.length 1 hwn (by decide) (by decide)) (g_perm 3 [1, 2, 0] rfl rfl (by decide +kernel)) rfl rfl (cwV 1 ht (tb_V w_503 w_355 w_356 w_3 k_X3_at) rfl rfl rfl (by decide +kernel) ⟨(Nat.le_of_ble_eq_true rfl), (Nat.le_of_ble_eq_true rfl)⟩) rfl rfl (Nat.le_of_ble_eq_true rfl) d_X4_bodySize_5 ⟨(Nat.le_of_ble_eq_true rfl), (Nat.le_of_ble_eq_true rfl)⟩ (fun v u H locs hw hP hD hS => ?_)
  obtain rfl := hw
  have hP : va_P g.2.1 cls7 [(x, .inr (4, [.int (nI nb), .ref (sa 0), .ref (sa 2), .ref (sa 4), .int (nI (ns 0)), .int (nI (ns 1)), .int (nI (ns 2)), .int (nI (ns 3)), .int (nI (ns 4)), .ref hh, .ref (sa 6), .ref (sa 8), .ref (sa 10), .ref (sa 12), .ref (sa 14), .ref (sa 38), .ref (sa 39), .ref (sa 40), .ref (sa 41), .ref (sa 42)])), (sa 8, .inr (3, [.ref (sa 9), .int (nI M.length)])), (sa 9, .inl (cI g, 336, .inl wf))] H := hP
  have hD : va_D A [(x, .inr (4, [.int (nI nb), .ref (sa 0), .ref (sa 2), .ref (sa 4), .int (nI (ns 0)), .int (nI (ns 1)), .int (nI (ns 2)), .int (nI (ns 3)), .int (nI (ns 4)), .ref hh, .ref (sa 6), .ref (sa 8), .ref (sa 10), .ref (sa 12), .ref (sa 14), .ref (sa 38), .ref (sa 39), .ref (sa 40), .ref (sa 41), .ref (sa 42)])), (sa 8, .inr (3, [.ref (sa 9), .int (nI M.length)])), (sa 9, .inl (cI g, 336, .inl wf))] := hD
  refine W.eq (g2 := F0 m 8 ls [.int (if 1 < M.length then wf 1 else 0)]) rfl ?_
  rw [bz_at hwb 1]
  refine lv_bipush (v := (nI 16)) hx hb d_X4_bodySize_8 (by decide) ?_
  refine ln_ishl hx hb d_X4_bodySize_10 ?_
  refine lv_aload_n hx hb d_X4_bodySize_11 rfl (lv_at hl 0 rfl) ?_
  refine va_get (D := g.2.1) (ci := 4) (v := .ref (sa 8)) (C := R_X4) (T := T_X4) (N := 20) hx hb ht i_X4 hown hK hP 0 rfl rfl 11 (by decide) (ht _ w_148) (fun _ h9 => h9) rfl d_X4_bodySize_12 ?_
  refine lv_iconst (v := (nI 2)) hx hb d_X4_bodySize_15 (by decide) ?_
  refine g_callV (As := [.int (nI 2)]) (rest := [.int (sl (nI (M.getD 1 0)) (nI 16))]) (wr := [(x, .inr (4, [.int (nI nb), .ref (sa 0), .ref (sa 2), .ref (sa 4), .int (nI (ns 0)), .int (nI (ns 1)), .int (nI (ns 2)), .int (nI (ns 3)), .int (nI (ns 4)), .ref hh, .ref (sa 6), .ref (sa 8), .ref (sa 10), .ref (sa 12), .ref (sa 14), .ref (sa 38), .ref (sa 39), .ref (sa 40), .ref (sa 41), .ref (sa 42)]))]) (q0 := 0) (ci := 3) (XSok g) ⟨hx, hb, hml, hown, ht⟩ hK hA hXs hl.1 hP hD hS (c_X3_at g (sa 8) (sa 9) 336 wf M.length 2 hwn (by decide) (by decide)) (g_perm 3 [1, 2, 0] rfl rfl (by decide +kernel)) rfl rfl (cwV 1 ht (tb_V w_503 w_355 w_356 w_3 k_X3_at) rfl rfl rfl (by decide +kernel) ⟨(Nat.le_of_ble_eq_true rfl), (Nat.le_of_ble_eq_true rfl)⟩) rfl rfl (Nat.le_of_ble_eq_true rfl) d_X4_bodySize_16 ⟨(Nat.le_of_ble_eq_true rfl), (Nat.le_of_ble_eq_true rfl)⟩ (fun v u H locs hw hP hD hS => ?_)
  obtain rfl := hw
  have hP : va_P g.2.1 cls7 [(x, .inr (4, [.int (nI nb), .ref (sa 0), .ref (sa 2), .ref (sa 4), .int (nI (ns 0)), .int (nI (ns 1)), .int (nI (ns 2)), .int (nI (ns 3)), .int (nI (ns 4)), .ref hh, .ref (sa 6), .ref (sa 8), .ref (sa 10), .ref (sa 12), .ref (sa 14), .ref (sa 38), .ref (sa 39), .ref (sa 40), .ref (sa 41), .ref (sa 42)])), (sa 8, .inr (3, [.ref (sa 9), .int (nI M.length)])), (sa 9, .inl (cI g, 336, .inl wf))] H := hP
  have hD : va_D A [(x, .inr (4, [.int (nI nb), .ref (sa 0), .ref (sa 2), .ref (sa 4), .int (nI (ns 0)), .int (nI (ns 1)), .int (nI (ns 2)), .int (nI (ns 3)), .int (nI (ns 4)), .ref hh, .ref (sa 6), .ref (sa 8), .ref (sa 10), .ref (sa 12), .ref (sa 14), .ref (sa 38), .ref (sa 39), .ref (sa 40), .ref (sa 41), .ref (sa 42)])), (sa 8, .inr (3, [.ref (sa 9), .int (nI M.length)])), (sa 9, .inl (cI g, 336, .inl wf))] := hD
  refine W.eq (g2 := F0 m 19 ls [.int (if 2 < M.length then wf 2 else 0), .int (sl (nI (M.getD 1 0)) (nI 16))]) rfl ?_
  rw [bz_at hwb 2]
  refine lv_bipush (v := (nI 8)) hx hb d_X4_bodySize_19 (by decide) ?_
  refine ln_ishl hx hb d_X4_bodySize_21 ?_
  refine lv_ior hx hb d_X4_bodySize_22 ?_
  refine lv_aload_n hx hb d_X4_bodySize_23 rfl (lv_at hl 0 rfl) ?_
  refine va_get (D := g.2.1) (ci := 4) (v := .ref (sa 8)) (C := R_X4) (T := T_X4) (N := 20) hx hb ht i_X4 hown hK hP 0 rfl rfl 11 (by decide) (ht _ w_148) (fun _ h9 => h9) rfl d_X4_bodySize_24 ?_
  refine lv_iconst (v := (nI 3)) hx hb d_X4_bodySize_27 (by decide) ?_
  refine g_callV (As := [.int (nI 3)]) (rest := [.int ((sl (nI (M.getD 1 0)) (nI 16)) ||| (sl (nI (M.getD 2 0)) (nI 8)))]) (wr := [(x, .inr (4, [.int (nI nb), .ref (sa 0), .ref (sa 2), .ref (sa 4), .int (nI (ns 0)), .int (nI (ns 1)), .int (nI (ns 2)), .int (nI (ns 3)), .int (nI (ns 4)), .ref hh, .ref (sa 6), .ref (sa 8), .ref (sa 10), .ref (sa 12), .ref (sa 14), .ref (sa 38), .ref (sa 39), .ref (sa 40), .ref (sa 41), .ref (sa 42)]))]) (q0 := 0) (ci := 3) (XSok g) ⟨hx, hb, hml, hown, ht⟩ hK hA hXs hl.1 hP hD hS (c_X3_at g (sa 8) (sa 9) 336 wf M.length 3 hwn (by decide) (by decide)) (g_perm 3 [1, 2, 0] rfl rfl (by decide +kernel)) rfl rfl (cwV 1 ht (tb_V w_503 w_355 w_356 w_3 k_X3_at) rfl rfl rfl (by decide +kernel) ⟨(Nat.le_of_ble_eq_true rfl), (Nat.le_of_ble_eq_true rfl)⟩) rfl rfl (Nat.le_of_ble_eq_true rfl) d_X4_bodySize_28 ⟨(Nat.le_of_ble_eq_true rfl), (Nat.le_of_ble_eq_true rfl)⟩ (fun v u H locs hw hP hD hS => ?_)
  obtain rfl := hw
  have hP : va_P g.2.1 cls7 [(x, .inr (4, [.int (nI nb), .ref (sa 0), .ref (sa 2), .ref (sa 4), .int (nI (ns 0)), .int (nI (ns 1)), .int (nI (ns 2)), .int (nI (ns 3)), .int (nI (ns 4)), .ref hh, .ref (sa 6), .ref (sa 8), .ref (sa 10), .ref (sa 12), .ref (sa 14), .ref (sa 38), .ref (sa 39), .ref (sa 40), .ref (sa 41), .ref (sa 42)])), (sa 8, .inr (3, [.ref (sa 9), .int (nI M.length)])), (sa 9, .inl (cI g, 336, .inl wf))] H := hP
  have hD : va_D A [(x, .inr (4, [.int (nI nb), .ref (sa 0), .ref (sa 2), .ref (sa 4), .int (nI (ns 0)), .int (nI (ns 1)), .int (nI (ns 2)), .int (nI (ns 3)), .int (nI (ns 4)), .ref hh, .ref (sa 6), .ref (sa 8), .ref (sa 10), .ref (sa 12), .ref (sa 14), .ref (sa 38), .ref (sa 39), .ref (sa 40), .ref (sa 41), .ref (sa 42)])), (sa 8, .inr (3, [.ref (sa 9), .int (nI M.length)])), (sa 9, .inl (cI g, 336, .inl wf))] := hD
  refine W.eq (g2 := F0 m 31 ls [.int (if 3 < M.length then wf 3 else 0), .int ((sl (nI (M.getD 1 0)) (nI 16)) ||| (sl (nI (M.getD 2 0)) (nI 8)))]) rfl ?_
  rw [bz_at hwb 3]
  refine lv_ior hx hb d_X4_bodySize_31 ?_
  exact g_iret (v := (((sl (nI (M.getD 1 0)) (nI 16)) ||| (sl (nI (M.getD 2 0)) (nI 8))) ||| (nI (M.getD 3 0)))) hx hb hr hlocks hP hD hS () (List.Perm.refl _) (congrArg (fun z => some (Value.int z)) (bszI hw8)) (Nat.le_of_ble_eq_true rfl) (Nat.le_of_ble_eq_true rfl) d_X4_bodySize_32

set_option maxHeartbeats 1000000 in
set_option maxRecDepth 100000 in
theorem c_X4_isWhole (g : GG) (x : Nat) (sa : Nat → Nat) (nb : Nat) (hh : Nat) (ns : Nat → Nat) (wf : Nat → Int32) (M : List Nat) (hwb : bz M wf) (hw8 : by8 M) (hwn : M.length ≤ 336) : Cg g y_X4_isWhole b_X4_isWhole 1 (some .boolean) ({ frames := 2, cells := 0, slots := 0, locals := 41 } : Room) [.ref x] [(x, .inr (4, [.int (nI nb), .ref (sa 0), .ref (sa 2), .ref (sa 4), .int (nI (ns 0)), .int (nI (ns 1)), .int (nI (ns 2)), .int (nI (ns 3)), .int (nI (ns 4)), .ref hh, .ref (sa 6), .ref (sa 8), .ref (sa 10), .ref (sa 12), .ref (sa 14), .ref (sa 38), .ref (sa 39), .ref (sa 40), .ref (sa 41), .ref (sa 42)])), (sa 8, .inr (3, [.ref (sa 9), .int (nI M.length)])), (sa 9, .inl (cI g, 336, .inl wf))] (S := Unit) (fun (v : Option Value) (_ : Unit) => v = some (.int (if 4 ≤ M.length ∧ M.length = 4 + bsz M then 1 else 0))) (fun (_ : Unit) => [(x, .inr (4, [.int (nI nb), .ref (sa 0), .ref (sa 2), .ref (sa 4), .int (nI (ns 0)), .int (nI (ns 1)), .int (nI (ns 2)), .int (nI (ns 3)), .int (nI (ns 4)), .ref hh, .ref (sa 6), .ref (sa 8), .ref (sa 10), .ref (sa 12), .ref (sa 14), .ref (sa 38), .ref (sa 39), .ref (sa 40), .ref (sa 41), .ref (sa 42)])), (sa 8, .inr (3, [.ref (sa 9), .int (nI M.length)])), (sa 9, .inl (cI g, 336, .inl wf))]) := by
  refine Ct_of (cc := b_X4_isWhole) (maxL := 1) (ret := (some .boolean)) (by decide) rfl (Nat.le_of_ble_eq_true rfl) ?_
  intro p e s m below meth c A ls hx hb hr hml hown hts hlocks hin hA hP hK hD hXs hS hl
  have ht : ∀ w ∈ tb, w.before [.ref x].toArray s = true := fun w h => hts w (List.mem_cons_of_mem _ h)
  have hown : s.vm.findClass R_X4 = some m.cls := hown
  have hl : lv_has ls 1 [(0, .ref x)] := hl
  have hbl := bsz_lt hw8
  refine lv_aload_n hx hb d_X4_isWhole_0 rfl (lv_at hl 0 rfl) ?_
  refine va_get (D := g.2.1) (ci := 4) (v := .ref (sa 8)) (C := R_X4) (T := T_X4) (N := 20) hx hb ht i_X4 hown hK hP 0 rfl rfl 11 (by decide) (ht _ w_148) (fun _ h9 => h9) rfl d_X4_isWhole_1 ?_
  refine va_get (D := g.2.1) (ci := 3) (v := .int (nI M.length)) (C := R_X3) (T := T_X3) (N := 2) hx hb ht i_X3 hown hK hP 1 rfl rfl 1 (by decide) (ht _ w_47) (fun _ h9 => h9) rfl d_X4_isWhole_4 ?_
  refine lv_iconst (v := (nI 4)) hx hb d_X4_isWhole_7 (by decide) ?_
  refine ln_icmp_lt (tgt := 31) hx hb d_X4_isWhole_8 (by decide) (by omega) (by omega) (fun c_1 => ?_) (fun c_1 => ?_)
  · refine lv_iconst (v := (nI 0)) hx hb d_X4_isWhole_31 (by decide) ?_
    have e0 : (nI 0) = (if 4 ≤ M.length ∧ M.length = 4 + bsz M then 1 else 0) := (if_neg (by omega)).symm
    exact g_zret (v := (nI 0)) hx hb hr hlocks hP hD hS () (List.Perm.refl _) (by decide) (congrArg (fun z => some (Value.int z)) e0) (Nat.le_of_ble_eq_true rfl) (Nat.le_of_ble_eq_true rfl) d_X4_isWhole_32
  · refine lv_aload_n hx hb d_X4_isWhole_11 rfl (lv_at hl 0 rfl) ?_
    refine va_get (D := g.2.1) (ci := 4) (v := .ref (sa 8)) (C := R_X4) (T := T_X4) (N := 20) hx hb ht i_X4 hown hK hP 0 rfl rfl 11 (by decide) (ht _ w_148) (fun _ h9 => h9) rfl d_X4_isWhole_12 ?_
    refine va_get (D := g.2.1) (ci := 3) (v := .int (nI M.length)) (C := R_X3) (T := T_X3) (N := 2) hx hb ht i_X3 hown hK hP 1 rfl rfl 1 (by decide) (ht _ w_47) (fun _ h9 => h9) rfl d_X4_isWhole_15 ?_
    refine lv_iconst (v := (nI 4)) hx hb d_X4_isWhole_18 (by decide) ?_
    refine lv_aload_n hx hb d_X4_isWhole_19 rfl (lv_at hl 0 rfl) ?_
    refine g_callV (As := []) (rest := [.int (nI 4), .int (nI M.length)]) (wr := []) (q0 := 0) (ci := 4) (XSok g) ⟨hx, hb, hml, hown, ht⟩ hK hA hXs hl.1 hP hD hS (c_X4_bodySize g x sa nb hh ns wf M hwb hw8 hwn) (g_perm 3 [0, 1, 2] rfl rfl (by decide +kernel)) rfl rfl (cwV 0 ht (tb_V w_509 w_511 wp_12 w_5 k_X4_bodySize) rfl rfl rfl (by decide +kernel) ⟨(Nat.le_of_ble_eq_true rfl), (Nat.le_of_ble_eq_true rfl)⟩) rfl rfl (Nat.le_of_ble_eq_true rfl) d_X4_isWhole_20 ⟨(Nat.le_of_ble_eq_true rfl), (Nat.le_of_ble_eq_true rfl)⟩ (fun v u H locs hw hP hD hS => ?_)
    obtain rfl := hw
    have hP : va_P g.2.1 cls7 [(x, .inr (4, [.int (nI nb), .ref (sa 0), .ref (sa 2), .ref (sa 4), .int (nI (ns 0)), .int (nI (ns 1)), .int (nI (ns 2)), .int (nI (ns 3)), .int (nI (ns 4)), .ref hh, .ref (sa 6), .ref (sa 8), .ref (sa 10), .ref (sa 12), .ref (sa 14), .ref (sa 38), .ref (sa 39), .ref (sa 40), .ref (sa 41), .ref (sa 42)])), (sa 8, .inr (3, [.ref (sa 9), .int (nI M.length)])), (sa 9, .inl (cI g, 336, .inl wf))] H := hP
    have hD : va_D A [(x, .inr (4, [.int (nI nb), .ref (sa 0), .ref (sa 2), .ref (sa 4), .int (nI (ns 0)), .int (nI (ns 1)), .int (nI (ns 2)), .int (nI (ns 3)), .int (nI (ns 4)), .ref hh, .ref (sa 6), .ref (sa 8), .ref (sa 10), .ref (sa 12), .ref (sa 14), .ref (sa 38), .ref (sa 39), .ref (sa 40), .ref (sa 41), .ref (sa 42)])), (sa 8, .inr (3, [.ref (sa 9), .int (nI M.length)])), (sa 9, .inl (cI g, 336, .inl wf))] := hD
    refine W.eq (g2 := F0 m 23 ls [.int (nI (bsz M)), .int (nI 4), .int (nI M.length)]) rfl ?_
    refine ln_iadd hx hb d_X4_isWhole_23 ?_
    refine ln_icmp_ne (tgt := 31) hx hb d_X4_isWhole_24 (by decide) (by omega) (by omega) (fun c_2 => ?_) (fun c_2 => ?_)
    · refine lv_iconst (v := (nI 0)) hx hb d_X4_isWhole_31 (by decide) ?_
      have e0 : (nI 0) = (if 4 ≤ M.length ∧ M.length = 4 + bsz M then 1 else 0) := (if_neg (by omega)).symm
      exact g_zret (v := (nI 0)) hx hb hr hlocks hP hD hS () (List.Perm.refl _) (by decide) (congrArg (fun z => some (Value.int z)) e0) (Nat.le_of_ble_eq_true rfl) (Nat.le_of_ble_eq_true rfl) d_X4_isWhole_32
    · refine lv_iconst (v := (nI 1)) hx hb d_X4_isWhole_27 (by decide) ?_
      refine lv_goto (tgt := 32) hx hb d_X4_isWhole_28 (by decide) ?_
      have e0 : (nI 1) = (if 4 ≤ M.length ∧ M.length = 4 + bsz M then 1 else 0) := (if_pos ⟨by omega, by omega⟩).symm
      exact g_zret (v := (nI 1)) hx hb hr hlocks hP hD hS () (List.Perm.refl _) (by decide) (congrArg (fun z => some (Value.int z)) e0) (Nat.le_of_ble_eq_true rfl) (Nat.le_of_ble_eq_true rfl) d_X4_isWhole_32

set_option maxHeartbeats 1000000 in
set_option maxRecDepth 100000 in
theorem c_X4_faultAt (g : GG) (x : Nat) (sa : Nat → Nat) (nb : Nat) (hh : Nat) (ns : Nat → Nat) (wf : Nat → Int32) (M : List Nat) (l : Nat) (hwb : bz M wf) (hw8 : by8 M) (hwn : M.length ≤ 336) (hl : l < 2) (hT : isT (ns 4)) : Cg g y_X4_faultAt b_X4_faultAt 2 (some .int) ({ frames := 2, cells := 0, slots := 0, locals := 41 } : Room) [.ref x, .int (nI l)] [(x, .inr (4, [.int (nI nb), .ref (sa 0), .ref (sa 2), .ref (sa 4), .int (nI (ns 0)), .int (nI (ns 1)), .int (nI (ns 2)), .int (nI (ns 3)), .int (nI (ns 4)), .ref hh, .ref (sa 6), .ref (sa 8), .ref (sa 10), .ref (sa 12), .ref (sa 14), .ref (sa 38), .ref (sa 39), .ref (sa 40), .ref (sa 41), .ref (sa 42)])), (sa 8, .inr (3, [.ref (sa 9), .int (nI M.length)])), (sa 9, .inl (cI g, 336, .inl wf))] (S := Unit) (fun (v : Option Value) (_ : Unit) => v = some (.int (nI (if ¬ (lvB l (ns 4) = true ∧ M.getD 0 0 = ns 4) then 266 else if 4 ≤ M.length ∧ szB (ns 4) (bsz M) = false then 306 else 0)))) (fun (_ : Unit) => [(x, .inr (4, [.int (nI nb), .ref (sa 0), .ref (sa 2), .ref (sa 4), .int (nI (ns 0)), .int (nI (ns 1)), .int (nI (ns 2)), .int (nI (ns 3)), .int (nI (ns 4)), .ref hh, .ref (sa 6), .ref (sa 8), .ref (sa 10), .ref (sa 12), .ref (sa 14), .ref (sa 38), .ref (sa 39), .ref (sa 40), .ref (sa 41), .ref (sa 42)])), (sa 8, .inr (3, [.ref (sa 9), .int (nI M.length)])), (sa 9, .inl (cI g, 336, .inl wf))]) := by
  refine Ct_of (cc := b_X4_faultAt) (maxL := 2) (ret := (some .int)) (by decide) rfl (Nat.le_of_ble_eq_true rfl) ?_
  intro p e s m below meth c A ls hx hb hr hml hown hts hlocks hin hA hP hK hD hXs hS hl
  have ht : ∀ w ∈ tb, w.before [.ref x, .int (nI l)].toArray s = true := fun w h => hts w (List.mem_cons_of_mem _ h)
  have hown : s.vm.findClass R_X4 = some m.cls := hown
  have hl : lv_has ls 2 [(0, .ref x), (1, .int (nI l))] := hl
  have hbl := bsz_lt hw8
  have hl2 : l < 2 := by assumption
  have hT2 : ns 4 < 2 ^ 31 := by rcases hT with h | h | h | h | h <;> omega
  have hg0 := by8_getD hw8 0
  refine lv_iload_n hx hb d_X4_faultAt_0 rfl (lv_at hl 1 rfl) ?_
  refine lv_aload_n hx hb d_X4_faultAt_1 rfl (lv_at hl 0 rfl) ?_
  refine va_get (D := g.2.1) (ci := 4) (v := .int (nI (ns 4))) (C := R_X4) (T := T_X4) (N := 20) hx hb ht i_X4 hown hK hP 0 rfl rfl 8 (by decide) (ht _ w_144) (fun _ h9 => h9) rfl d_X4_faultAt_2 ?_
  refine g_callS (As := [.int (nI (ns 4))]) (rest := [.int (nI l)]) (wr := [(x, .inr (4, [.int (nI nb), .ref (sa 0), .ref (sa 2), .ref (sa 4), .int (nI (ns 0)), .int (nI (ns 1)), .int (nI (ns 2)), .int (nI (ns 3)), .int (nI (ns 4)), .ref hh, .ref (sa 6), .ref (sa 8), .ref (sa 10), .ref (sa 12), .ref (sa 14), .ref (sa 38), .ref (sa 39), .ref (sa 40), .ref (sa 41), .ref (sa 42)])), (sa 8, .inr (3, [.ref (sa 9), .int (nI M.length)])), (sa 9, .inl (cI g, 336, .inl wf))]) (XSok g) ⟨hx, hb, hml, hown, ht⟩ hK hA hXs hl.1 hP hD hS (c_X4_levelOf g (ns 4) hT) (g_perm 3 [0, 1, 2] rfl rfl (by decide +kernel)) (va_cwS 1 ht (tb_S2 w_470 w_471 w_5 k_X4_levelOf) rfl rfl rfl (by decide +kernel) ⟨(Nat.le_of_ble_eq_true rfl), (Nat.le_of_ble_eq_true rfl)⟩) rfl rfl (Nat.le_of_ble_eq_true rfl) d_X4_faultAt_5 ⟨(Nat.le_of_ble_eq_true rfl), (Nat.le_of_ble_eq_true rfl)⟩ (fun v u H locs hw hP hD hS => ?_)
  obtain rfl := hw
  have hP : va_P g.2.1 cls7 [(x, .inr (4, [.int (nI nb), .ref (sa 0), .ref (sa 2), .ref (sa 4), .int (nI (ns 0)), .int (nI (ns 1)), .int (nI (ns 2)), .int (nI (ns 3)), .int (nI (ns 4)), .ref hh, .ref (sa 6), .ref (sa 8), .ref (sa 10), .ref (sa 12), .ref (sa 14), .ref (sa 38), .ref (sa 39), .ref (sa 40), .ref (sa 41), .ref (sa 42)])), (sa 8, .inr (3, [.ref (sa 9), .int (nI M.length)])), (sa 9, .inl (cI g, 336, .inl wf))] H := hP
  have hD : va_D A [(x, .inr (4, [.int (nI nb), .ref (sa 0), .ref (sa 2), .ref (sa 4), .int (nI (ns 0)), .int (nI (ns 1)), .int (nI (ns 2)), .int (nI (ns 3)), .int (nI (ns 4)), .ref hh, .ref (sa 6), .ref (sa 8), .ref (sa 10), .ref (sa 12), .ref (sa 14), .ref (sa 38), .ref (sa 39), .ref (sa 40), .ref (sa 41), .ref (sa 42)])), (sa 8, .inr (3, [.ref (sa 9), .int (nI M.length)])), (sa 9, .inl (cI g, 336, .inl wf))] := hD
  refine W.eq (g2 := F0 m 8 ls [.int (lvI (ns 4)), .int (nI l)]) rfl ?_
  refine lv_icmp_ne (tgt := 26) hx hb d_X4_faultAt_8 (by decide) (fun c_1 => ?_) (fun c_1 => ?_)
  · have hlv : ¬ lvB l (ns 4) = true := fun z => c_1 ((lvB_iff hl2 hT).mpr z)
    refine lv_sipush (v := (nI 266)) hx hb d_X4_faultAt_26 (by decide) ?_
    have e0 : 266 = (if ¬ (lvB l (ns 4) = true ∧ M.getD 0 0 = ns 4) then 266 else if 4 ≤ M.length ∧ szB (ns 4) (bsz M) = false then 306 else 0) := (if_pos (fun h => hlv h.1)).symm
    exact g_iret (v := (nI 266)) hx hb hr hlocks hP hD hS () (List.Perm.refl _) (congrArg (fun z => some (Value.int (nI z))) e0) (Nat.le_of_ble_eq_true rfl) (Nat.le_of_ble_eq_true rfl) d_X4_faultAt_29
  · have hlv : lvB l (ns 4) = true := (lvB_iff hl2 hT).mp c_1
    refine lv_aload_n hx hb d_X4_faultAt_11 rfl (lv_at hl 0 rfl) ?_
    refine va_get (D := g.2.1) (ci := 4) (v := .ref (sa 8)) (C := R_X4) (T := T_X4) (N := 20) hx hb ht i_X4 hown hK hP 0 rfl rfl 11 (by decide) (ht _ w_148) (fun _ h9 => h9) rfl d_X4_faultAt_12 ?_
    refine lv_iconst (v := (nI 0)) hx hb d_X4_faultAt_15 (by decide) ?_
    refine g_callV (As := [.int (nI 0)]) (rest := []) (wr := [(x, .inr (4, [.int (nI nb), .ref (sa 0), .ref (sa 2), .ref (sa 4), .int (nI (ns 0)), .int (nI (ns 1)), .int (nI (ns 2)), .int (nI (ns 3)), .int (nI (ns 4)), .ref hh, .ref (sa 6), .ref (sa 8), .ref (sa 10), .ref (sa 12), .ref (sa 14), .ref (sa 38), .ref (sa 39), .ref (sa 40), .ref (sa 41), .ref (sa 42)]))]) (q0 := 0) (ci := 3) (XSok g) ⟨hx, hb, hml, hown, ht⟩ hK hA hXs hl.1 hP hD hS (c_X3_at g (sa 8) (sa 9) 336 wf M.length 0 hwn (by decide) (by decide)) (g_perm 3 [1, 2, 0] rfl rfl (by decide +kernel)) rfl rfl (cwV 1 ht (tb_V w_503 w_355 w_356 w_3 k_X3_at) rfl rfl rfl (by decide +kernel) ⟨(Nat.le_of_ble_eq_true rfl), (Nat.le_of_ble_eq_true rfl)⟩) rfl rfl (Nat.le_of_ble_eq_true rfl) d_X4_faultAt_16 ⟨(Nat.le_of_ble_eq_true rfl), (Nat.le_of_ble_eq_true rfl)⟩ (fun v u H locs hw hP hD hS => ?_)
    obtain rfl := hw
    have hP : va_P g.2.1 cls7 [(x, .inr (4, [.int (nI nb), .ref (sa 0), .ref (sa 2), .ref (sa 4), .int (nI (ns 0)), .int (nI (ns 1)), .int (nI (ns 2)), .int (nI (ns 3)), .int (nI (ns 4)), .ref hh, .ref (sa 6), .ref (sa 8), .ref (sa 10), .ref (sa 12), .ref (sa 14), .ref (sa 38), .ref (sa 39), .ref (sa 40), .ref (sa 41), .ref (sa 42)])), (sa 8, .inr (3, [.ref (sa 9), .int (nI M.length)])), (sa 9, .inl (cI g, 336, .inl wf))] H := hP
    have hD : va_D A [(x, .inr (4, [.int (nI nb), .ref (sa 0), .ref (sa 2), .ref (sa 4), .int (nI (ns 0)), .int (nI (ns 1)), .int (nI (ns 2)), .int (nI (ns 3)), .int (nI (ns 4)), .ref hh, .ref (sa 6), .ref (sa 8), .ref (sa 10), .ref (sa 12), .ref (sa 14), .ref (sa 38), .ref (sa 39), .ref (sa 40), .ref (sa 41), .ref (sa 42)])), (sa 8, .inr (3, [.ref (sa 9), .int (nI M.length)])), (sa 9, .inl (cI g, 336, .inl wf))] := hD
    refine W.eq (g2 := F0 m 19 ls [.int (if 0 < M.length then wf 0 else 0)]) rfl ?_
    rw [bz_at hwb 0]
    refine lv_aload_n hx hb d_X4_faultAt_19 rfl (lv_at hl 0 rfl) ?_
    refine va_get (D := g.2.1) (ci := 4) (v := .int (nI (ns 4))) (C := R_X4) (T := T_X4) (N := 20) hx hb ht i_X4 hown hK hP 0 rfl rfl 8 (by decide) (ht _ w_144) (fun _ h9 => h9) rfl d_X4_faultAt_20 ?_
    refine ln_icmp_eq (tgt := 30) hx hb d_X4_faultAt_23 (by decide) (by omega) (by omega) (fun c_2 => ?_) (fun c_2 => ?_)
    · have heq : M.getD 0 0 = ns 4 := c_2
      have hT4 : ns 4 = 1 ∨ ns 4 = 2 ∨ ns 4 = 8 ∨ ns 4 = 20 := by rcases hT with h0 | h0 | h0 | h0 | h0 <;> first | (rw [h0] at hlv; rcases (show l = 0 ∨ l = 1 by omega) with rfl | rfl <;> exact absurd hlv (by decide)) | (rw [h0]; decide)
      refine lv_aload_n hx hb d_X4_faultAt_30 rfl (lv_at hl 0 rfl) ?_
      refine va_get (D := g.2.1) (ci := 4) (v := .ref (sa 8)) (C := R_X4) (T := T_X4) (N := 20) hx hb ht i_X4 hown hK hP 0 rfl rfl 11 (by decide) (ht _ w_148) (fun _ h9 => h9) rfl d_X4_faultAt_31 ?_
      refine va_get (D := g.2.1) (ci := 3) (v := .int (nI M.length)) (C := R_X3) (T := T_X3) (N := 2) hx hb ht i_X3 hown hK hP 1 rfl rfl 1 (by decide) (ht _ w_47) (fun _ h9 => h9) rfl d_X4_faultAt_34 ?_
      refine lv_iconst (v := (nI 4)) hx hb d_X4_faultAt_37 (by decide) ?_
      refine ln_icmp_lt (tgt := 59) hx hb d_X4_faultAt_38 (by decide) (by omega) (by omega) (fun c_3 => ?_) (fun c_3 => ?_)
      · refine lv_iconst (v := (nI 0)) hx hb d_X4_faultAt_59 (by decide) ?_
        have e0 : 0 = (if ¬ (lvB l (ns 4) = true ∧ M.getD 0 0 = ns 4) then 266 else if 4 ≤ M.length ∧ szB (ns 4) (bsz M) = false then 306 else 0) := by rw [if_neg (fun h => h ⟨hlv, heq⟩), if_neg (by omega)]
        exact g_iret (v := (nI 0)) hx hb hr hlocks hP hD hS () (List.Perm.refl _) (congrArg (fun z => some (Value.int (nI z))) e0) (Nat.le_of_ble_eq_true rfl) (Nat.le_of_ble_eq_true rfl) d_X4_faultAt_60
      · refine lv_aload_n hx hb d_X4_faultAt_41 rfl (lv_at hl 0 rfl) ?_
        refine va_get (D := g.2.1) (ci := 4) (v := .int (nI (ns 4))) (C := R_X4) (T := T_X4) (N := 20) hx hb ht i_X4 hown hK hP 0 rfl rfl 8 (by decide) (ht _ w_144) (fun _ h9 => h9) rfl d_X4_faultAt_42 ?_
        refine lv_aload_n hx hb d_X4_faultAt_45 rfl (lv_at hl 0 rfl) ?_
        refine g_callV (As := []) (rest := [.int (nI (ns 4))]) (wr := []) (q0 := 0) (ci := 4) (XSok g) ⟨hx, hb, hml, hown, ht⟩ hK hA hXs hl.1 hP hD hS (c_X4_bodySize g x sa nb hh ns wf M hwb hw8 hwn) (g_perm 3 [0, 1, 2] rfl rfl (by decide +kernel)) rfl rfl (cwV 0 ht (tb_V w_509 w_511 wp_12 w_5 k_X4_bodySize) rfl rfl rfl (by decide +kernel) ⟨(Nat.le_of_ble_eq_true rfl), (Nat.le_of_ble_eq_true rfl)⟩) rfl rfl (Nat.le_of_ble_eq_true rfl) d_X4_faultAt_46 ⟨(Nat.le_of_ble_eq_true rfl), (Nat.le_of_ble_eq_true rfl)⟩ (fun v u H locs hw hP hD hS => ?_)
        obtain rfl := hw
        have hP : va_P g.2.1 cls7 [(x, .inr (4, [.int (nI nb), .ref (sa 0), .ref (sa 2), .ref (sa 4), .int (nI (ns 0)), .int (nI (ns 1)), .int (nI (ns 2)), .int (nI (ns 3)), .int (nI (ns 4)), .ref hh, .ref (sa 6), .ref (sa 8), .ref (sa 10), .ref (sa 12), .ref (sa 14), .ref (sa 38), .ref (sa 39), .ref (sa 40), .ref (sa 41), .ref (sa 42)])), (sa 8, .inr (3, [.ref (sa 9), .int (nI M.length)])), (sa 9, .inl (cI g, 336, .inl wf))] H := hP
        have hD : va_D A [(x, .inr (4, [.int (nI nb), .ref (sa 0), .ref (sa 2), .ref (sa 4), .int (nI (ns 0)), .int (nI (ns 1)), .int (nI (ns 2)), .int (nI (ns 3)), .int (nI (ns 4)), .ref hh, .ref (sa 6), .ref (sa 8), .ref (sa 10), .ref (sa 12), .ref (sa 14), .ref (sa 38), .ref (sa 39), .ref (sa 40), .ref (sa 41), .ref (sa 42)])), (sa 8, .inr (3, [.ref (sa 9), .int (nI M.length)])), (sa 9, .inl (cI g, 336, .inl wf))] := hD
        refine W.eq (g2 := F0 m 49 ls [.int (nI (bsz M)), .int (nI (ns 4))]) rfl ?_
        refine g_callS (As := [.int (nI (ns 4)), .int (nI (bsz M))]) (rest := []) (wr := [(x, .inr (4, [.int (nI nb), .ref (sa 0), .ref (sa 2), .ref (sa 4), .int (nI (ns 0)), .int (nI (ns 1)), .int (nI (ns 2)), .int (nI (ns 3)), .int (nI (ns 4)), .ref hh, .ref (sa 6), .ref (sa 8), .ref (sa 10), .ref (sa 12), .ref (sa 14), .ref (sa 38), .ref (sa 39), .ref (sa 40), .ref (sa 41), .ref (sa 42)])), (sa 8, .inr (3, [.ref (sa 9), .int (nI M.length)])), (sa 9, .inl (cI g, 336, .inl wf))]) (XSok g) ⟨hx, hb, hml, hown, ht⟩ hK hA hXs hl.1 hP hD hS (c_X4_isSizeOf g (ns 4) (bsz M) hT4 hbl) (g_perm 3 [0, 1, 2] rfl rfl (by decide +kernel)) (va_cwS 2 ht (tb_S2 w_513 w_514 w_5 k_X4_isSizeOf) rfl rfl rfl (by decide +kernel) ⟨(Nat.le_of_ble_eq_true rfl), (Nat.le_of_ble_eq_true rfl)⟩) rfl rfl (Nat.le_of_ble_eq_true rfl) d_X4_faultAt_49 ⟨(Nat.le_of_ble_eq_true rfl), (Nat.le_of_ble_eq_true rfl)⟩ (fun v u H locs hw hP hD hS => ?_)
        obtain rfl := hw
        have hP : va_P g.2.1 cls7 [(x, .inr (4, [.int (nI nb), .ref (sa 0), .ref (sa 2), .ref (sa 4), .int (nI (ns 0)), .int (nI (ns 1)), .int (nI (ns 2)), .int (nI (ns 3)), .int (nI (ns 4)), .ref hh, .ref (sa 6), .ref (sa 8), .ref (sa 10), .ref (sa 12), .ref (sa 14), .ref (sa 38), .ref (sa 39), .ref (sa 40), .ref (sa 41), .ref (sa 42)])), (sa 8, .inr (3, [.ref (sa 9), .int (nI M.length)])), (sa 9, .inl (cI g, 336, .inl wf))] H := hP
        have hD : va_D A [(x, .inr (4, [.int (nI nb), .ref (sa 0), .ref (sa 2), .ref (sa 4), .int (nI (ns 0)), .int (nI (ns 1)), .int (nI (ns 2)), .int (nI (ns 3)), .int (nI (ns 4)), .ref hh, .ref (sa 6), .ref (sa 8), .ref (sa 10), .ref (sa 12), .ref (sa 14), .ref (sa 38), .ref (sa 39), .ref (sa 40), .ref (sa 41), .ref (sa 42)])), (sa 8, .inr (3, [.ref (sa 9), .int (nI M.length)])), (sa 9, .inl (cI g, 336, .inl wf))] := hD
        refine W.eq (g2 := F0 m 52 ls [.int (if szB (ns 4) (bsz M) = true then 1 else 0)]) rfl ?_
        refine lv_if_ne (tgt := 59) hx hb d_X4_faultAt_52 (by decide) (fun c_4 => ?_) (fun c_4 => ?_)
        · have hsz : szB (ns 4) (bsz M) = true := Decidable.not_not.mp (fun z => c_4 (ite01.mpr z))
          refine lv_iconst (v := (nI 0)) hx hb d_X4_faultAt_59 (by decide) ?_
          have e0 : 0 = (if ¬ (lvB l (ns 4) = true ∧ M.getD 0 0 = ns 4) then 266 else if 4 ≤ M.length ∧ szB (ns 4) (bsz M) = false then 306 else 0) := by rw [if_neg (fun h => h ⟨hlv, heq⟩), if_neg (fun h => by rw [hsz] at h; exact absurd h.2 (by decide))]
          exact g_iret (v := (nI 0)) hx hb hr hlocks hP hD hS () (List.Perm.refl _) (congrArg (fun z => some (Value.int (nI z))) e0) (Nat.le_of_ble_eq_true rfl) (Nat.le_of_ble_eq_true rfl) d_X4_faultAt_60
        · have hsz : szB (ns 4) (bsz M) = false := Bool.eq_false_iff.mpr (ite01.mp c_4)
          refine lv_sipush (v := (nI 306)) hx hb d_X4_faultAt_55 (by decide) ?_
          have e0 : 306 = (if ¬ (lvB l (ns 4) = true ∧ M.getD 0 0 = ns 4) then 266 else if 4 ≤ M.length ∧ szB (ns 4) (bsz M) = false then 306 else 0) := by rw [if_neg (fun h => h ⟨hlv, heq⟩), if_pos ⟨by omega, hsz⟩]
          exact g_iret (v := (nI 306)) hx hb hr hlocks hP hD hS () (List.Perm.refl _) (congrArg (fun z => some (Value.int (nI z))) e0) (Nat.le_of_ble_eq_true rfl) (Nat.le_of_ble_eq_true rfl) d_X4_faultAt_58
    · have hne : ¬ M.getD 0 0 = ns 4 := c_2
      refine lv_sipush (v := (nI 266)) hx hb d_X4_faultAt_26 (by decide) ?_
      have e0 : 266 = (if ¬ (lvB l (ns 4) = true ∧ M.getD 0 0 = ns 4) then 266 else if 4 ≤ M.length ∧ szB (ns 4) (bsz M) = false then 306 else 0) := (if_pos (fun h => hne h.2)).symm
      exact g_iret (v := (nI 266)) hx hb hr hlocks hP hD hS () (List.Perm.refl _) (congrArg (fun z => some (Value.int (nI z))) e0) (Nat.le_of_ble_eq_true rfl) (Nat.le_of_ble_eq_true rfl) d_X4_faultAt_29
