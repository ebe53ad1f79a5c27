/-! THE REFERENCE'S CONSTRUCTOR: digits of 2 to the 20th, roots, primes -/
def VN (E : Nat → Nat) : Nat → Nat
  | 0 => 0
  | k + 1 => VN E k + E k * 1048576 ^ k
def s1 (D : Nat → Nat) : Nat → Nat
  | 0 => 0
  | k + 1 => D k
def upn (E : Nat → Nat) (k v : Nat) : Nat → Nat := fun i => if i = k then v else E i
theorem upn_s (E : Nat → Nat) (k v : Nat) : upn E k v k = v := if_pos rfl
theorem upn_n (E : Nat → Nat) {k i : Nat} (v : Nat) (h : ¬ i = k) : upn E k v i = E i := if_neg h
theorem VN_congr {E F : Nat → Nat} {k : Nat} (h : ∀ i, i < k → E i = F i) : VN E k = VN F k := by
  induction k with
  | zero => rfl
  | succ k ih => show VN E k + E k * 1048576 ^ k = VN F k + F k * 1048576 ^ k; rw [ih (fun i hi => h i (by omega)), h k (by omega)]
theorem VN_lt {E : Nat → Nat} {k : Nat} (h : ∀ i, i < k → E i < 1048576) : VN E k < 1048576 ^ k := by
  induction k with
  | zero => exact Nat.one_pos
  | succ k ih =>
    have h1 := ih (fun i hi => h i (by omega))
    have h2 : E k * 1048576 ^ k ≤ 1048575 * 1048576 ^ k := Nat.mul_le_mul_right _ (Nat.le_of_lt_succ (h k (by omega)))
    show VN E k + E k * 1048576 ^ k < 1048576 ^ (k + 1)
    rw [Nat.pow_succ]
    generalize 1048576 ^ k = b at *
    generalize E k * b = q at *
    omega
theorem VN_s1 (D : Nat → Nat) (k : Nat) : VN (s1 D) (k + 1) = 1048576 * VN D k := by
  induction k with
  | zero => rfl
  | succ k ih =>
    show VN (s1 D) (k + 1) + D k * 1048576 ^ (k + 1) = 1048576 * (VN D k + D k * 1048576 ^ k)
    rw [ih, Nat.mul_add, Nat.pow_succ, Nat.mul_left_comm 1048576, Nat.mul_comm 1048576 (1048576 ^ k)]
theorem VN_step {D E : Nat → Nat} {k lo hi cy v : Nat} (hv : VN E k + cy * 1048576 ^ k = VN D k * lo + VN (s1 D) k * hi) (hq : v = D k * lo + s1 D k * hi + cy) :
    VN (upn E k (v % 1048576)) (k + 1) + v / 1048576 * 1048576 ^ (k + 1) = VN D (k + 1) * lo + VN (s1 D) (k + 1) * hi := by
  have e1 : VN (upn E k (v % 1048576)) k = VN E k := VN_congr fun i hi => upn_n _ _ (by omega)
  show VN (upn E k (v % 1048576)) k + upn E k (v % 1048576) k * 1048576 ^ k + v / 1048576 * 1048576 ^ (k + 1) = (VN D k + D k * 1048576 ^ k) * lo + (VN (s1 D) k + s1 D k * 1048576 ^ k) * hi
  rw [e1, upn_s, Nat.pow_succ]
  have e2 : v % 1048576 * 1048576 ^ k + v / 1048576 * (1048576 ^ k * 1048576) = v * 1048576 ^ k := by
    rw [Nat.mul_comm (1048576 ^ k) 1048576, ← Nat.mul_assoc, ← Nat.add_mul]
    congr 1
    omega
  rw [Nat.add_assoc, e2, hq, Nat.add_mul, Nat.add_mul, Nat.add_mul, Nat.add_mul]
  have e3 : D k * lo * 1048576 ^ k = D k * 1048576 ^ k * lo := Nat.mul_right_comm _ _ _
  have e4 : s1 D k * hi * 1048576 ^ k = s1 D k * 1048576 ^ k * hi := Nat.mul_right_comm _ _ _
  rw [e3, e4]
  omega
theorem VN_end {D E : Nat → Nat} {k lo hi cy x : Nat} (hv : VN E (k + 1) + cy * 1048576 ^ (k + 1) = VN D (k + 1) * lo + VN (s1 D) (k + 1) * hi) (hx : x = lo + 1048576 * hi) (h7 : VN D (k + 1) < 1048576 ^ k) (h8 : VN D (k + 1) * x < 1048576 ^ (k + 1)) : VN E (k + 1) = VN D (k + 1) * x := by
  have e7 : VN D (k + 1) = VN D k := by
    have e : VN D (k + 1) = VN D k + D k * 1048576 ^ k := rfl
    have : D k = 0 := by
      rcases Nat.eq_zero_or_pos (D k) with h | h
      · exact h
      · have : 1048576 ^ k ≤ D k * 1048576 ^ k := Nat.le_mul_of_pos_left _ h
        omega
    rw [e, this]; omega
  have e8 : VN (s1 D) (k + 1) = 1048576 * VN D (k + 1) := by rw [e7]; exact VN_s1 D k
  have e9 : VN D (k + 1) * x = VN D (k + 1) * lo + 1048576 * VN D (k + 1) * hi := by rw [hx, Nat.mul_add, ← Nat.mul_assoc, Nat.mul_comm (VN D (k + 1)) 1048576]
  rw [e8, ← e9] at hv
  have : cy = 0 := by
    rcases Nat.eq_zero_or_pos cy with h | h
    · exact h
    · have : 1048576 ^ (k + 1) ≤ cy * 1048576 ^ (k + 1) := Nat.le_mul_of_pos_left _ h
      omega
  rw [this] at hv
  omega
theorem VN_up3 (D : Nat → Nat) (k : Nat) : VN D (k + 3) = VN D k + 1048576 ^ k * (D k + D (k + 1) * 1048576 + D (k + 2) * 1099511627776) := by
  show VN D k + D k * 1048576 ^ k + D (k + 1) * 1048576 ^ (k + 1) + D (k + 2) * 1048576 ^ (k + 2) = _
  rw [Nat.pow_succ 1048576 (k + 1), Nat.pow_succ 1048576 k, Nat.mul_add, Nat.mul_add, Nat.mul_comm (D k)]
  have e1 : D (k + 1) * (1048576 ^ k * 1048576) = 1048576 ^ k * (D (k + 1) * 1048576) := Nat.mul_left_comm _ _ _
  have e2 : D (k + 2) * (1048576 ^ k * 1048576 * 1048576) = 1048576 ^ k * (D (k + 2) * 1099511627776) := by rw [Nat.mul_assoc, Nat.mul_left_comm]
  rw [e1, e2]
  omega
theorem VN_zero {D : Nat → Nat} {k : Nat} (h : ∀ i, i < k → D i = 0) : VN D k = 0 := by
  induction k with
  | zero => rfl
  | succ k ih => show VN D k + D k * 1048576 ^ k = 0; rw [ih (fun i hi => h i (by omega)), h k (by omega)]; omega
theorem VN_pos {D : Nat → Nat} {k i : Nat} (hi : i < k) (h : ¬ D i = 0) : 0 < VN D k := by
  induction k with
  | zero => omega
  | succ k ih =>
    show 0 < VN D k + D k * 1048576 ^ k
    by_cases e : i = k
    · subst e
      have := Nat.mul_pos (Nat.pos_of_ne_zero h) (Nat.pow_pos (n := i) (show 0 < 1048576 by decide))
      omega
    · have := ih (by omega)
      omega
/-- the number and its digits from place at on -/
theorem VN_ab {D : Nat → Nat} {at' n : Nat} (hn : n + (at' + 3) = 8) (h : VN D 8 < 1048576 ^ (at' + 3)) : VN D 8 = VN D at' + 1048576 ^ at' * (D at' + D (at' + 1) * 1048576 + D (at' + 2) * 1099511627776) := by
  rw [← VN_up3]
  have : ∀ n k, n + k = 8 → VN D 8 < 1048576 ^ k → VN D 8 = VN D k := by
    intro n
    induction n with
    | zero => intro k hk _; rw [show k = 8 by omega]
    | succ n ih =>
      intro k hk h
      have e := ih (k + 1) (by omega) (Nat.lt_of_lt_of_le h (Nat.pow_le_pow_right (by decide) (by omega)))
      have e2 : VN D (k + 1) = VN D k + D k * 1048576 ^ k := rfl
      have : D k = 0 := by
        rcases Nat.eq_zero_or_pos (D k) with h9 | h9
        · exact h9
        · have : 1048576 ^ k ≤ D k * 1048576 ^ k := Nat.le_mul_of_pos_left _ h9
          omega
      rw [e, e2, this]
      omega
  exact this n _ hn h
theorem ab_lt {r b ab due : Nat} (hr : r < b) (h : ab < due) : r + b * ab ≤ b * due := by
  have : b * (ab + 1) ≤ b * due := Nat.mul_le_mul_left _ h
  rw [Nat.mul_add] at this
  omega
theorem ab_gt {r b ab due : Nat} (hb : 0 < b) (h : due < ab) : ¬ r + b * ab ≤ b * due := by
  have : b * (due + 1) ≤ b * ab := Nat.mul_le_mul_left _ h
  rw [Nat.mul_add] at this
  omega
/-- longs that are small natural numbers -/
theorem lq_mul (a b : Nat) : lN a * lN b = lN (a * b) := (Int64.ofNat_mul a b).symm
theorem lq_add (a b : Nat) : lN a + lN b = lN (a + b) := (Int64.ofNat_add a b).symm
theorem lq_lt {a b : Nat} (ha : a < 2 ^ 63) (hb : b < 2 ^ 63) : lN a < lN b ↔ a < b := by rw [Int64.lt_iff_toInt_lt, pf_lI ha, pf_lI hb]; omega
theorem lq_eq {a b : Nat} (ha : a < 2 ^ 63) (hb : b < 2 ^ 63) : lN a = lN b ↔ a = b := ⟨fun h => by have := congrArg Int64.toInt h; rw [pf_lI ha, pf_lI hb] at this; omega, fun h => h ▸ rfl⟩
theorem sL_20 {a : Nat} (h : a < 2 ^ 62) : sL (lN a) (nI 20) = lN (a / 1048576) := pf_shr (d := 20) (by decide +kernel) h
theorem lL_k (a : Nat) {k : Nat} (h : k < 64) : lL (lN a) (nI k) = lN (a * 2 ^ k) := wb_shl a h
theorem lq_i {a : Nat} (h : a < 2 ^ 31) : (nI a).toInt64 = lN a := by
  apply Int64.toInt_inj.mp
  rw [pf_lI (by omega), Int32.toInt_toInt64, nI_toInt h]
theorem or3 {a b c : Nat} (ha : a < 1048576) (hb : b < 1048576) (hc : c < 1048576) : (lN a ||| lL (lN b) (nI 20)) ||| lL (lN c) (nI 40) = lN (a + b * 1048576 + c * 1099511627776) := by
  rw [lL_k b (by decide), lL_k c (by decide), g_or' (k := 20) (p := 1048576) rfl ha (by omega), g_or' (k := 40) (p := 1099511627776) rfl (by omega) (by omega)]
section GMS
variable {p : Program} {l : Launch} {e : Env} {R : Room} {s : State} {m : MethodId} {args : Array Value} {below : List Frame} {meth : Method} {c : Code} {H H0 : Heap} {locs : List Loc} {cells slots : Nat} {Q : State → Prop}
variable {cc : ByteArray} {pc : Nat} {ls : Array Slot} {rest : List Value} {A : Nat → Prop} {D : va_G} {cl : List vw_C} {tys : List (ClassId × FieldType)} {ws : va_W}
theorem ln_lcmpN (hx : p.tables.exec = Jvm.exec) (hb : c.code = cc) {x y : Nat} (hdg : decode cc pc = .ok (.lcmp, 1)) (h1 : x < 2 ^ 63) (h2 : y < 2 ^ 63)
    (k1 : x < y → W p l e R s m args below meth c H locs cells slots Q (F0 m (pc + 1) ls (.int (-1) :: rest))) (k2 : x = y → W p l e R s m args below meth c H locs cells slots Q (F0 m (pc + 1) ls (.int (nI 0) :: rest))) (k3 : y < x → W p l e R s m args below meth c H locs cells slots Q (F0 m (pc + 1) ls (.int (nI 1) :: rest))) : W p l e R s m args below meth c H locs cells slots Q (F0 m pc ls (.long (lN y) :: .long (lN x) :: rest)) := by
  refine ln_lcmp hx hb hdg ?_
  rcases Nat.lt_trichotomy x y with h | h | h
  · rw [if_neg (fun h9 => absurd ((lq_lt h2 h1).mp h9) (by omega)), if_neg (fun h9 => absurd ((lq_eq h1 h2).mp h9) (by omega))]
    exact k1 h
  · rw [if_neg (fun h9 => absurd ((lq_lt h2 h1).mp h9) (by omega)), if_pos ((lq_eq h1 h2).mpr h)]
    exact k2 h
  · rw [if_pos ((lq_lt h2 h1).mpr h)]
    exact k3 h
theorem ln_newz (hx : p.tables.exec = Jvm.exec) (hb : c.code = cc) (harr : (Cond.arrayClass .boolean).before args s = true) (hK : va_K D cl tys s) (hP : va_P D cl ws H) (hD : va_D A ws) (hS : va_S A H0 H locs) (hA : ∀ q, H0.size ≤ q → A q) (t0 : Nat) {cA : ClassId} (ht : tys[t0]? = some (cA, .boolean))
    {N : Nat} (hN : N < 2 ^ 27) (hcells : cells + 1 ≤ R.cells) (hslots : slots + N ≤ R.slots) (hdg : decode cc pc = .ok (.newarray .boolean, 2))
    (kk : ∀ (q : Nat) (H1 : Heap), va_P D cl (ws ++ [(q, .inl (cA, N, .inl (fun _ => 0)))]) H1 → va_D A (ws ++ [(q, .inl (cA, N, .inl (fun _ => 0)))]) → va_S A H0 H1 locs →
      W p l e R s m args below meth c H1 locs (cells + 1) (slots + N) Q (F0 m (pc + 2) ls (.ref q :: rest))) : W p l e R s m args below meth c H locs cells slots Q (F0 m pc ls (.int (nI N) :: rest)) := by
  refine va_newa (atype := .boolean) (ty := .boolean) (N' := N) (a0 := (N, .inl (fun _ => 0))) hx hb harr rfl hK hP hD hS hA (fun cA => vp_cell_i cA N (fun _ => 0)) (nI_pos (by omega)) (nI_clamp (by omega)) (by show N * 1 ≤ 536870912; omega) hcells hslots hdg (fun q cA' H1 hK' hP' hD' hS' => ?_)
  have h1 : s.vm.findClass ("[" ++ FieldType.boolean.toString) = some cA' := (hK'.2 tys.length (cA', .boolean) (by simp)).2
  have h2 : s.vm.findClass ("[" ++ FieldType.boolean.toString) = some cA := (hK.2 t0 (cA, .boolean) ht).2
  cases h1.symm.trans h2
  exact kk q H1 hP' hD' hS'
theorem ln_newl (hx : p.tables.exec = Jvm.exec) (hb : c.code = cc) (harr : (Cond.arrayClass .long).before args s = true) (hK : va_K D cl tys s) (hP : va_P D cl ws H) (hD : va_D A ws) (hS : va_S A H0 H locs) (hA : ∀ q, H0.size ≤ q → A q) (t0 : Nat) {cA : ClassId} (ht : tys[t0]? = some (cA, .long))
    {N : Nat} (hN : N < 2 ^ 26) (hcells : cells + 1 ≤ R.cells) (hslots : slots + N ≤ R.slots) (hdg : decode cc pc = .ok (.newarray .long, 2))
    (kk : ∀ (q : Nat) (H1 : Heap), va_P D cl (ws ++ [(q, .inl (cA, N, .inr (.inl (fun _ => 0))))]) H1 → va_D A (ws ++ [(q, .inl (cA, N, .inr (.inl (fun _ => 0))))]) → va_S A H0 H1 locs →
      W p l e R s m args below meth c H1 locs (cells + 1) (slots + N) Q (F0 m (pc + 2) ls (.ref q :: rest))) : W p l e R s m args below meth c H locs cells slots Q (F0 m pc ls (.int (nI N) :: rest)) := by
  refine va_newa (atype := .long) (ty := .long) (N' := N) (a0 := (N, .inr (.inl (fun _ => 0)))) hx hb harr rfl hK hP hD hS hA (fun cA => vp_cell_l cA N (fun _ => 0)) (nI_pos (by omega)) (nI_clamp (by omega)) (by show N * 8 ≤ 536870912; omega) hcells hslots hdg (fun q cA' H1 hK' hP' hD' hS' => ?_)
  have h1 : s.vm.findClass ("[" ++ FieldType.long.toString) = some cA' := (hK'.2 tys.length (cA', .long) (by simp)).2
  have h2 : s.vm.findClass ("[" ++ FieldType.long.toString) = some cA := (hK.2 t0 (cA, .long) ht).2
  cases h1.symm.trans h2
  exact kk q H1 hP' hD' hS'
end GMS
/-- the largest root below 2 to the 36th -/
def isRt (n P X : Nat) : Prop := X < 2 ^ 36 ∧ ∀ y, y ^ n ≤ P ↔ y ≤ X
theorem isRt_of {n P X : Nat} (h0 : X < 2 ^ 36) (h1 : X ^ n ≤ P) (h2 : P < (X + 1) ^ n) : isRt n P X :=
  ⟨h0, fun y => ⟨fun h => by
    by_cases e : y ≤ X
    · exact e
    · have := Nat.pow_le_pow_left (show X + 1 ≤ y by omega) n
      omega, fun h => Nat.le_trans (Nat.pow_le_pow_left h n) h1⟩⟩
theorem rt_or {x j : Nat} (h : x % 2 ^ (j + 1) = 0) (hx : x < 2 ^ 36) (hj : j < 36) : lN x ||| lL 1 (nI j) = lN (x + 2 ^ j) := by
  have e1 : lL 1 (nI j) = lN (2 ^ j) := (lL_k 1 (by omega)).trans (by rw [Nat.one_mul])
  have hp : 2 ^ j ≤ 2 ^ 35 := Nat.pow_le_pow_right (by decide) (by omega)
  have e2 : x = x / 2 ^ (j + 1) * 2 ^ (j + 1) := (Nat.div_mul_cancel (Nat.dvd_of_mod_eq_zero h)).symm
  have hl : 2 ^ j < 2 ^ (j + 1) := Nat.pow_lt_pow_right (by decide) (by omega)
  rw [e1]
  have := g_or (k := j + 1) (p := 2 ^ (j + 1)) (a := 2 ^ j) (b := x / 2 ^ (j + 1)) rfl hl (by rw [← e2]; omega)
  rw [← e2] at this
  exact this
theorem rt_mod {x j : Nat} (h : x % 2 ^ (j + 1) = 0) : x % 2 ^ j = 0 ∧ (x + 2 ^ j) % 2 ^ j = 0 := by
  have e : x % 2 ^ j = 0 := Nat.mod_eq_zero_of_dvd (Nat.dvd_trans (Nat.pow_dvd_pow 2 (by omega)) (Nat.dvd_of_mod_eq_zero h))
  exact ⟨e, by rw [Nat.add_mod_right]; exact e⟩
theorem rt_room {x j X : Nat} (h : x % 2 ^ (j + 1) = 0) (hx : x ≤ X) (hX : X < 2 ^ 36) (hj : j < 36) : x + 2 ^ j < 2 ^ 36 := by
  obtain ⟨q, rfl⟩ := Nat.dvd_of_mod_eq_zero h
  have e36 : (2 : Nat) ^ 36 = 2 ^ (j + 1) * 2 ^ (35 - j) := by rw [← Nat.pow_add]; congr 1; omega
  have hq : q < 2 ^ (35 - j) := Nat.lt_of_mul_lt_mul_left (a := 2 ^ (j + 1)) (by rw [← e36]; omega)
  have h2 : 2 ^ (j + 1) * (q + 1) ≤ 2 ^ 36 := by rw [e36]; exact Nat.mul_le_mul_left _ hq
  have hl : 2 ^ j < 2 ^ (j + 1) := Nat.pow_lt_pow_right (by decide) (by omega)
  rw [Nat.mul_add] at h2
  omega
def pr (n : Nat) : Bool := (List.range 20).all fun k => k < 2 || n < k * k || n % k != 0
theorem pr_yes {n : Nat} (h : ∀ i, 2 ≤ i → i * i ≤ n → ¬ n % i = 0) : pr n = true := by
  refine List.all_eq_true.mpr fun k _ => ?_
  by_cases h1 : k < 2
  · simp [h1]
  · by_cases h2 : n < k * k
    · simp [h2]
    · have := h k (by omega) (by omega)
      simp [this]
theorem pr_no {n i : Nat} (h20 : i < 20) (h2 : 2 ≤ i) (h : i * i ≤ n) (h0 : n % i = 0) : pr n = false := by
  refine List.all_eq_false.mpr ⟨i, List.mem_range.mpr h20, ?_⟩
  simp [h0, show ¬ i < 2 by omega, show ¬ n < i * i by omega]
theorem sq20 {i n : Nat} (hn : n < 400) (h : i * i ≤ n) : i < 20 := by
  by_cases e : i < 20
  · exact e
  · have := Nat.mul_le_mul (show 20 ≤ i by omega) (show 20 ≤ i by omega)
    omega
def prL : List Nat := [2, 3, 5, 7, 11, 13, 17, 19, 23, 29, 31, 37, 41, 43, 47, 53, 59, 61, 67, 71, 73, 79, 83, 89, 97, 101, 103, 107, 109, 113, 127, 131, 137, 139, 149, 151, 157, 163, 167, 173, 179, 181, 191, 193, 197, 199, 211, 223, 227, 229, 233, 239, 241, 251, 257, 263, 269, 271, 277, 281, 283, 293, 307, 311]
def pst (k : Nat) : Nat := (2 :: prL.map (fun p => p + 1)).getD k 0
def pk (k : Nat) : Nat := prL.getD k 0
theorem pk_tab : ∀ k, k < 64 → (∀ d, d < pk k - pst k → pr (pst k + d) = false) ∧ pr (pk k) = true ∧ pst k ≤ pk k ∧ pk k < 312 ∧ 2 ≤ pst k ∧ pst (k + 1) = pk k + 1 := by decide +kernel
def crL : List Nat := [5411319704, 6194414737, 7344290767, 8215976869, 9551921755, 10098905585, 11043570340, 11460697813, 12214315672, 13195500289, 13492127166, 14311783875, 14809980276, 15046980094, 15499789991, 16133124468, 16720292289, 16907126662, 17444216262, 17784676812, 17950125167, 18429019306, 18734950876, 19175934170, 19734090066, 20001703533, 20132865992, 20390182855, 20516441075, 20764397895, 21588763473, 21813078375, 22141143685, 22248366392, 22769593852, 22871018771, 23170020180, 23461497531, 23651862830, 23931792517, 24205322401, 24295138891, 24734567280, 24820601251, 24990902297, 25075189284, 25569408389, 26045227120, 26200031510, 26276752392, 26428864332, 26653801653, 26727943347, 27092625994, 27306805839, 27517677555, 27725365998, 27793908591, 27997534228, 28131656200, 28198240250, 28526537963, 28973835255, 29099129074]
def srL : List Nat := [6074000999, 7439101573, 9603838834, 11363415354, 14244795007, 15485724812, 17708603819, 18721328409]
theorem cr_tab : ∀ k, k < 64 → crL.getD k 0 < 2 ^ 36 ∧ crL.getD k 0 ^ 3 ≤ pk k * 2 ^ 96 ∧ pk k * 2 ^ 96 < (crL.getD k 0 + 1) ^ 3 ∧ (lN (crL.getD k 0)).toInt32 = sh_K k := by decide +kernel
theorem sr_tab : ∀ k, k < 8 → srL.getD k 0 < 2 ^ 36 ∧ srL.getD k 0 ^ 2 ≤ pk k * 2 ^ 64 ∧ pk k * 2 ^ 64 < (srL.getD k 0 + 1) ^ 2 ∧ (lN (srL.getD k 0)).toInt32 = rootsL.getD k 0 := by decide +kernel
theorem sq400 {n i : Nat} (hn : n < 400) (hi : i = 400) : n < i * i := by subst hi; omega
theorem vl_us (f : Nat → Int64) (k : Nat) (x : Int64) : vp_updL f k x k = x := if_pos rfl
theorem vl_un (f : Nat → Int64) {k i : Nat} (x : Int64) (h : ¬ i = k) : vp_updL f k x i = f i := if_neg h
theorem one_lt20 (j : Nat) : (fun q : Nat => if q = 0 then 1 else 0) j < 1048576 := by
  show (if j = 0 then 1 else 0) < 1048576
  split <;> decide
theorem one_VN {x : Nat} : VN (fun q => if q = 0 then 1 else 0) 8 = x ^ 0 := by
  rw [Nat.pow_zero]
  decide
theorem VN_00 (E D F : Nat → Nat) (a b : Nat) : VN E 0 + 0 * 1048576 ^ 0 = VN D 0 * a + VN F 0 * b := by
  show 0 + 0 * 1048576 ^ 0 = 0 * a + 0 * b
  rw [Nat.zero_mul, Nat.zero_mul, Nat.zero_mul]
theorem s1_le {D : Nat → Nat} (h : ∀ j, D j < 1048576) (k : Nat) : s1 D k ≤ 1048575 := by
  cases k with
  | zero => exact Nat.zero_le _
  | succ k => exact Nat.le_of_lt_succ (h k)
theorem xpow {x i : Nat} (h : x < 2 ^ 36) : x ^ i ≤ (2 ^ 36) ^ i := Nat.pow_le_pow_left (by omega) i
theorem xi7 {x i : Nat} (h : x < 2 ^ 36) (hi : i < 3) : x ^ i < 1048576 ^ 7 :=
  Nat.lt_of_le_of_lt (Nat.le_trans (xpow h) (Nat.pow_le_pow_right (by decide) (show i ≤ 2 by omega))) (by decide)
theorem xi8 {x i : Nat} (h : x < 2 ^ 36) (hi : i < 3) : x ^ i * x < 1048576 ^ 8 := by
  rw [← Nat.pow_succ]
  exact Nat.lt_of_le_of_lt (Nat.le_trans (xpow h) (Nat.pow_le_pow_right (by decide) (show i + 1 ≤ 3 by omega))) (by decide)
theorem xin2 {x : Nat} (h : x < 2 ^ 36) : x ^ 2 < 1048576 ^ (3 + 3) := Nat.lt_of_le_of_lt (xpow h) (by decide)
theorem xin3 {x : Nat} (h : x < 2 ^ 36) : x ^ 3 < 1048576 ^ (4 + 3) := Nat.lt_of_le_of_lt (xpow h) (by decide)
theorem hz01 {z : Nat} {a b : Prop} (h : (z = 1 ∧ a) ∨ (z = 0 ∧ b)) : narrow FieldType.boolean (Value.int (nI z)) = Value.int (nI z) := by
  rcases h with ⟨rfl, _⟩ | ⟨rfl, _⟩ <;> decide
set_option maxHeartbeats 1000000 in
set_option maxRecDepth 100000 in
theorem c_X6_isPrime (g : GG) (n : Nat) (hn : n < 400) : Cg g y_X6_isPrime b_X6_isPrime 2 (some .boolean) ({ frames := 0, cells := 0, slots := 0, locals := 0 } : Room) [.int (nI n)] [] (S := Unit) (fun (v : Option Value) (_ : Unit) => v = some (.int (nI (if pr n = true then 1 else 0)))) (fun (_ : Unit) => []) := by
  refine Ct_of (cc := b_X6_isPrime) (maxL := 2) (ret := (some .boolean)) (by decide) rfl (Nat.le_of_ble_eq_true rfl) ?_
  intro p e s m below meth c A ls hx hb hr hml hown hts hlocks hin hA hP hK hD hXs hS hl
  have ht : ∀ w ∈ tb, w.before [.int (nI n)].toArray s = true := fun w h => hts w (List.mem_cons_of_mem _ h)
  have hown : s.vm.findClass R_X6 = some m.cls := hown
  have hl : lv_has ls 2 [(0, .int (nI n))] := hl
  refine lv_iconst (v := (nI 2)) hx hb d_X6_isPrime_0 (by decide) ?_
  refine lv_istore_n (lv' := [(1, .int (nI 2)), (0, .int (nI n))]) hx hb d_X6_isPrime_1 rfl hl (by decide) rfl (fun ls hl => ?_)
  have loop : ∀ (k : Nat) (i : Nat) (hk : i + k = 400) (h2i : 2 ≤ i) (hp : ∀ j, 2 ≤ j → j < i → ¬ n % j = 0) (H : Heap) (locs : List Loc) (hP : va_P g.2.1 cls7 [] H) (hD : va_D A []) (hS : va_S A s.heap H locs) (ls : Array Slot) (hl : lv_has ls 2 [(1, .int (nI i)), (0, .int (nI n))]), W p g.1 e ({ frames := 0, cells := 0, slots := 0, locals := 0 } : Room) s m [.int (nI n)].toArray below meth c H locs 0 0 (MQ below (gQ g.2.1 cls7 (S := Unit) (fun (v : Option Value) (_ : Unit) => v = some (.int (nI (if pr n = true then 1 else 0)))) (fun (_ : Unit) => []) A) [.int (nI n)].toArray s ({ frames := 0, cells := 0, slots := 0, locals := 0 } : Room).cells ({ frames := 0, cells := 0, slots := 0, locals := 0 } : Room).slots A) (F0 m 2 ls []) := by
    intro k
    induction k with
    | zero =>
      intro i hk h2i hp H locs hP hD hS ls hl
      refine lv_iload_n hx hb d_X6_isPrime_2 rfl (lv_at hl 0 rfl) ?_
      refine lv_iload_n hx hb d_X6_isPrime_3 rfl (lv_at hl 0 rfl) ?_
      have hii : i * i < 2 ^ 31 := Nat.lt_of_le_of_lt (Nat.mul_le_mul (show i ≤ 1000 by omega) (show i ≤ 1000 by omega)) (by decide)
      refine ln_imul hx hb d_X6_isPrime_4 ?_
      refine lv_iload_n hx hb d_X6_isPrime_5 rfl (lv_at hl 1 rfl) ?_
      refine ln_icmp_gt_t (tgt := 23) hx hb d_X6_isPrime_6 (by decide) (by omega) (by omega) (sq400 hn (by omega)) ?_
      refine lv_iconst (v := (nI 1)) hx hb d_X6_isPrime_23 (by decide) ?_
      have h6 := sq400 hn (show i = 400 by omega)
      have e0 : 1 = (if pr n = true then 1 else 0) := (if_pos (pr_yes fun i2 h2 h3 => hp i2 h2 (Nat.lt_of_not_le fun h4 => absurd (Nat.mul_le_mul h4 h4) (by omega)))).symm
      exact g_zret (v := (nI 1)) hx hb hr hlocks hP hD hS () (List.Perm.refl _) (by decide) (congrArg (fun t => some (Value.int (nI t))) e0) (Nat.le_of_ble_eq_true rfl) (Nat.le_of_ble_eq_true rfl) d_X6_isPrime_24
    | succ k ih =>
      intro i hk h2i hp H locs hP hD hS ls hl
      refine lv_iload_n hx hb d_X6_isPrime_2 rfl (lv_at hl 0 rfl) ?_
      refine lv_iload_n hx hb d_X6_isPrime_3 rfl (lv_at hl 0 rfl) ?_
      have hii : i * i < 2 ^ 31 := Nat.lt_of_le_of_lt (Nat.mul_le_mul (show i ≤ 1000 by omega) (show i ≤ 1000 by omega)) (by decide)
      refine ln_imul hx hb d_X6_isPrime_4 ?_
      refine lv_iload_n hx hb d_X6_isPrime_5 rfl (lv_at hl 1 rfl) ?_
      refine ln_icmp_gt (tgt := 23) hx hb d_X6_isPrime_6 (by decide) (by omega) (by omega) (fun c_1 => ?_) (fun c_1 => ?_)
      · refine lv_iconst (v := (nI 1)) hx hb d_X6_isPrime_23 (by decide) ?_
        have e0 : 1 = (if pr n = true then 1 else 0) := (if_pos (pr_yes fun i2 h2 h3 => hp i2 h2 (Nat.lt_of_not_le fun h4 => absurd (Nat.mul_le_mul h4 h4) (by omega)))).symm
        exact g_zret (v := (nI 1)) hx hb hr hlocks hP hD hS () (List.Perm.refl _) (by decide) (congrArg (fun t => some (Value.int (nI t))) e0) (Nat.le_of_ble_eq_true rfl) (Nat.le_of_ble_eq_true rfl) d_X6_isPrime_24
      · refine lv_iload_n hx hb d_X6_isPrime_9 rfl (lv_at hl 1 rfl) ?_
        refine lv_iload_n hx hb d_X6_isPrime_10 rfl (lv_at hl 0 rfl) ?_
        refine ln_irem hx hb d_X6_isPrime_11 (by omega) (by omega) (by omega) ?_
        have hmi := Nat.mod_le n i
        refine ln_if_ne (tgt := 17) hx hb d_X6_isPrime_12 (by decide) (by omega) (fun c_2 => ?_) (fun c_2 => ?_)
        · refine ln_iinc (d := 1) (lv' := [(1, .int (nI (i + 1))), (0, .int (nI n))]) hx hb d_X6_isPrime_17 hl (k := 0) rfl rfl (by decide) rfl (fun ls hl => ?_)
          refine lv_goto (tgt := 2) hx hb d_X6_isPrime_20 (by decide) ?_
          have hp2 : ∀ j, 2 ≤ j → j < i + 1 → ¬ n % j = 0 := fun j h1 h2 => if e : j = i then (by subst e; omega) else hp j h1 (by omega)
          exact ih (i + 1) (by omega) (by omega) hp2 _ _ hP hD hS ls (lv_sub hl [0, 1] rfl)
        · refine lv_iconst (v := (nI 0)) hx hb d_X6_isPrime_15 (by decide) ?_
          have e0 : 0 = (if pr n = true then 1 else 0) := (if_neg (by rw [pr_no (sq20 hn (by omega)) (by omega) (by omega) (by omega)]; decide)).symm
          exact g_zret (v := (nI 0)) hx hb hr hlocks hP hD hS () (List.Perm.refl _) (by decide) (congrArg (fun t => some (Value.int (nI t))) e0) (Nat.le_of_ble_eq_true rfl) (Nat.le_of_ble_eq_true rfl) d_X6_isPrime_16
  exact loop 398 2 (by omega) (by decide) (fun j h1 h2 => by omega) _ _ hP hD hS ls (lv_sub hl [0, 1] rfl)

set_option maxHeartbeats 1000000 in
set_option maxRecDepth 100000 in
theorem c_X6_isAtMost_2 (g : GG) (mo : Nat) (ma : Nat → Nat) (th : Nat) (tp : Nat) (sz : Nat) (f : Nat → Int64) (x : Nat) (pp : Nat) (hx36 : x < 2 ^ 36) (hpp : pp < 400) : Cg g y_X6_isAtMost b_X6_isAtMost 17 (some .boolean) ({ frames := 0, cells := 0, slots := 0, locals := 0 } : Room) [.ref mo, .long (lN x), .int (nI 2), .int (nI pp)] [(mo, .inr (6, .int (nI th) :: .ref (ma 1) :: .int (nI tp) :: .ref (ma 3) :: .ref (ma 4) :: .ref (ma 5) :: .ref (ma 6) :: .ref (ma 7) :: .ref (ma 8) :: .ref (ma 9) :: .ref (ma 10) :: .ref (ma 11) :: .ref (ma 12) :: .ref (ma 13) :: .ref (ma 14) :: .ref (ma 15) :: .ref (ma 16) :: .ref (ma 17) :: .ref (ma 18) :: .ref (ma 19) :: .ref (ma 20) :: .ref (ma 21) :: .ref (ma 22) :: .ref (ma 23) :: .ref (ma 24) :: .ref (ma 25) :: .ref (ma 26) :: .ref (ma 27) :: .ref (ma 28) :: .ref (ma 29) :: .ref (ma 30) :: .ref (ma 31) :: .ref (ma 32) :: .int (nI sz) :: .ref (ma 34) :: .ref (ma 35) :: .ref (ma 36) :: .ref (ma 37) :: [])), (ma 29, .inl (cJ g, 8, .inr (.inl f)))] (S := Nat → Int64) (fun (v : Option Value) (u : Nat → Int64) => v = some (.int (nI (if x ^ 2 ≤ pp * 2 ^ 64 then 1 else 0)))) (fun (u : Nat → Int64) => [(mo, .inr (6, .int (nI th) :: .ref (ma 1) :: .int (nI tp) :: .ref (ma 3) :: .ref (ma 4) :: .ref (ma 5) :: .ref (ma 6) :: .ref (ma 7) :: .ref (ma 8) :: .ref (ma 9) :: .ref (ma 10) :: .ref (ma 11) :: .ref (ma 12) :: .ref (ma 13) :: .ref (ma 14) :: .ref (ma 15) :: .ref (ma 16) :: .ref (ma 17) :: .ref (ma 18) :: .ref (ma 19) :: .ref (ma 20) :: .ref (ma 21) :: .ref (ma 22) :: .ref (ma 23) :: .ref (ma 24) :: .ref (ma 25) :: .ref (ma 26) :: .ref (ma 27) :: .ref (ma 28) :: .ref (ma 29) :: .ref (ma 30) :: .ref (ma 31) :: .ref (ma 32) :: .int (nI sz) :: .ref (ma 34) :: .ref (ma 35) :: .ref (ma 36) :: .ref (ma 37) :: [])), (ma 29, .inl (cJ g, 8, .inr (.inl u)))]) := by
  refine Ct_of (cc := b_X6_isAtMost) (maxL := 17) (ret := (some .boolean)) (by decide) rfl (Nat.le_of_ble_eq_true rfl) ?_
  intro p e s m below meth c A ls hx hb hr hml hown hts hlocks hin hA hP hK hD hXs hS hl
  have ht : ∀ w ∈ tb, w.before [.ref mo, .long (lN x), .int (nI 2), .int (nI pp)].toArray s = true := fun w h => hts w (List.mem_cons_of_mem _ h)
  have hown : s.vm.findClass R_X6 = some m.cls := hown
  have hl : lv_has ls 17 [(0, .ref mo), (1, .long (lN x)), (3, .int (nI 2)), (4, .int (nI pp))] := hl
  refine lv_iconst (v := (nI 0)) hx hb d_X6_isAtMost_0 (by decide) ?_
  refine lv_istore (lv' := [(5, .int (nI 0)), (0, .ref mo), (1, .long (lN x)), (3, .int (nI 2)), (4, .int (nI pp))]) hx hb d_X6_isAtMost_1 hl (by decide) rfl (fun ls hl => ?_)
  have lpz : ∀ (k : Nat) (k0 : Nat) (fy : Nat → Int64) (hk : k0 + k = 8) (hz : ∀ i, i < k0 → fy i = lN 0) (H : Heap) (locs : List Loc) (hP : va_P g.2.1 cls7 [(mo, .inr (6, .int (nI th) :: .ref (ma 1) :: .int (nI tp) :: .ref (ma 3) :: .ref (ma 4) :: .ref (ma 5) :: .ref (ma 6) :: .ref (ma 7) :: .ref (ma 8) :: .ref (ma 9) :: .ref (ma 10) :: .ref (ma 11) :: .ref (ma 12) :: .ref (ma 13) :: .ref (ma 14) :: .ref (ma 15) :: .ref (ma 16) :: .ref (ma 17) :: .ref (ma 18) :: .ref (ma 19) :: .ref (ma 20) :: .ref (ma 21) :: .ref (ma 22) :: .ref (ma 23) :: .ref (ma 24) :: .ref (ma 25) :: .ref (ma 26) :: .ref (ma 27) :: .ref (ma 28) :: .ref (ma 29) :: .ref (ma 30) :: .ref (ma 31) :: .ref (ma 32) :: .int (nI sz) :: .ref (ma 34) :: .ref (ma 35) :: .ref (ma 36) :: .ref (ma 37) :: [])), (ma 29, .inl (cJ g, 8, .inr (.inl fy)))] H) (hD : va_D A [(mo, .inr (6, .int (nI th) :: .ref (ma 1) :: .int (nI tp) :: .ref (ma 3) :: .ref (ma 4) :: .ref (ma 5) :: .ref (ma 6) :: .ref (ma 7) :: .ref (ma 8) :: .ref (ma 9) :: .ref (ma 10) :: .ref (ma 11) :: .ref (ma 12) :: .ref (ma 13) :: .ref (ma 14) :: .ref (ma 15) :: .ref (ma 16) :: .ref (ma 17) :: .ref (ma 18) :: .ref (ma 19) :: .ref (ma 20) :: .ref (ma 21) :: .ref (ma 22) :: .ref (ma 23) :: .ref (ma 24) :: .ref (ma 25) :: .ref (ma 26) :: .ref (ma 27) :: .ref (ma 28) :: .ref (ma 29) :: .ref (ma 30) :: .ref (ma 31) :: .ref (ma 32) :: .int (nI sz) :: .ref (ma 34) :: .ref (ma 35) :: .ref (ma 36) :: .ref (ma 37) :: [])), (ma 29, .inl (cJ g, 8, .inr (.inl fy)))]) (hS : va_S A s.heap H locs) (ls : Array Slot) (hl : lv_has ls 17 [(5, .int (nI k0)), (0, .ref mo), (1, .long (lN x)), (3, .int (nI 2)), (4, .int (nI pp))]), W p g.1 e ({ frames := 0, cells := 0, slots := 0, locals := 0 } : Room) s m [.ref mo, .long (lN x), .int (nI 2), .int (nI pp)].toArray below meth c H locs 0 0 (MQ below (gQ g.2.1 cls7 (S := Nat → Int64) (fun (v : Option Value) (u : Nat → Int64) => v = some (.int (nI (if x ^ 2 ≤ pp * 2 ^ 64 then 1 else 0)))) (fun (u : Nat → Int64) => [(mo, .inr (6, .int (nI th) :: .ref (ma 1) :: .int (nI tp) :: .ref (ma 3) :: .ref (ma 4) :: .ref (ma 5) :: .ref (ma 6) :: .ref (ma 7) :: .ref (ma 8) :: .ref (ma 9) :: .ref (ma 10) :: .ref (ma 11) :: .ref (ma 12) :: .ref (ma 13) :: .ref (ma 14) :: .ref (ma 15) :: .ref (ma 16) :: .ref (ma 17) :: .ref (ma 18) :: .ref (ma 19) :: .ref (ma 20) :: .ref (ma 21) :: .ref (ma 22) :: .ref (ma 23) :: .ref (ma 24) :: .ref (ma 25) :: .ref (ma 26) :: .ref (ma 27) :: .ref (ma 28) :: .ref (ma 29) :: .ref (ma 30) :: .ref (ma 31) :: .ref (ma 32) :: .int (nI sz) :: .ref (ma 34) :: .ref (ma 35) :: .ref (ma 36) :: .ref (ma 37) :: [])), (ma 29, .inl (cJ g, 8, .inr (.inl u)))]) A) [.ref mo, .long (lN x), .int (nI 2), .int (nI pp)].toArray s ({ frames := 0, cells := 0, slots := 0, locals := 0 } : Room).cells ({ frames := 0, cells := 0, slots := 0, locals := 0 } : Room).slots A) (F0 m 3 ls []) := by
    intro k
    induction k with
    | zero =>
      intro k0 fy hk hz H locs hP hD hS ls hl
      refine lv_iload hx hb d_X6_isAtMost_3 (lv_at hl 0 rfl) ?_
      refine lv_bipush (v := (nI 8)) hx hb d_X6_isAtMost_5 (by decide) ?_
      refine ln_icmp_ge_t (tgt := 24) hx hb d_X6_isAtMost_7 (by decide) (by omega) (by omega) (by omega) ?_
      refine lv_aload_n hx hb d_X6_isAtMost_24 rfl (lv_at hl 1 rfl) ?_
      refine va_get (D := g.2.1) (ci := 6) (v := .ref (ma 29)) (C := R_X6) (T := T_X6) (N := 38) hx hb ht i_X6 hown hK hP 0 rfl rfl 29 (by decide) (ht _ w_697) (fun _ h9 => h9) rfl d_X6_isAtMost_25 ?_
      refine lv_iconst (v := (nI 0)) hx hb d_X6_isAtMost_28 (by decide) ?_
      refine lv_lconst (v := lN 1) hx hb d_X6_isAtMost_29 (by decide) ?_
      refine ln_last hx hb hK hP hD hS 1 1 rfl rfl (by omega) (by decide) d_X6_isAtMost_30 (fun H locs hP hD hS => ?_)
      have hP : va_P g.2.1 cls7 [(mo, .inr (6, .int (nI th) :: .ref (ma 1) :: .int (nI tp) :: .ref (ma 3) :: .ref (ma 4) :: .ref (ma 5) :: .ref (ma 6) :: .ref (ma 7) :: .ref (ma 8) :: .ref (ma 9) :: .ref (ma 10) :: .ref (ma 11) :: .ref (ma 12) :: .ref (ma 13) :: .ref (ma 14) :: .ref (ma 15) :: .ref (ma 16) :: .ref (ma 17) :: .ref (ma 18) :: .ref (ma 19) :: .ref (ma 20) :: .ref (ma 21) :: .ref (ma 22) :: .ref (ma 23) :: .ref (ma 24) :: .ref (ma 25) :: .ref (ma 26) :: .ref (ma 27) :: .ref (ma 28) :: .ref (ma 29) :: .ref (ma 30) :: .ref (ma 31) :: .ref (ma 32) :: .int (nI sz) :: .ref (ma 34) :: .ref (ma 35) :: .ref (ma 36) :: .ref (ma 37) :: [])), (ma 29, .inl (cJ g, 8, .inr (.inl (vp_updL fy 0 (lN 1)))))] H := hP
      have hD : va_D A [(mo, .inr (6, .int (nI th) :: .ref (ma 1) :: .int (nI tp) :: .ref (ma 3) :: .ref (ma 4) :: .ref (ma 5) :: .ref (ma 6) :: .ref (ma 7) :: .ref (ma 8) :: .ref (ma 9) :: .ref (ma 10) :: .ref (ma 11) :: .ref (ma 12) :: .ref (ma 13) :: .ref (ma 14) :: .ref (ma 15) :: .ref (ma 16) :: .ref (ma 17) :: .ref (ma 18) :: .ref (ma 19) :: .ref (ma 20) :: .ref (ma 21) :: .ref (ma 22) :: .ref (ma 23) :: .ref (ma 24) :: .ref (ma 25) :: .ref (ma 26) :: .ref (ma 27) :: .ref (ma 28) :: .ref (ma 29) :: .ref (ma 30) :: .ref (ma 31) :: .ref (ma 32) :: .int (nI sz) :: .ref (ma 34) :: .ref (ma 35) :: .ref (ma 36) :: .ref (ma 37) :: [])), (ma 29, .inl (cJ g, 8, .inr (.inl (vp_updL fy 0 (lN 1)))))] := hD
      refine lv_iconst (v := (nI 0)) hx hb d_X6_isAtMost_31 (by decide) ?_
      refine lv_istore (lv' := [(5, .int (nI 0)), (0, .ref mo), (1, .long (lN x)), (3, .int (nI 2)), (4, .int (nI pp))]) hx hb d_X6_isAtMost_32 hl (by decide) rfl (fun ls hl => ?_)
      have hD1 : ∀ j, j < 8 → (vp_updL fy 0 (lN 1)) j = lN ((fun q => if q = 0 then 1 else 0) j) := fun j hj => if e : j = 0 then by subst e; exact vl_us _ _ _ else (vl_un _ _ e).trans ((hz j (by omega)).trans (congrArg lN (if_neg e).symm))
      have lpo : ∀ (k : Nat) (i : Nat) (fo : Nat → Int64) (DD : Nat → Nat) (hk : i + k = 2) (hDD : ∀ j, j < 8 → fo j = lN (DD j)) (hDb : ∀ j, DD j < 1048576) (hVD : VN DD 8 = x ^ i) (H : Heap) (locs : List Loc) (hP : va_P g.2.1 cls7 [(mo, .inr (6, .int (nI th) :: .ref (ma 1) :: .int (nI tp) :: .ref (ma 3) :: .ref (ma 4) :: .ref (ma 5) :: .ref (ma 6) :: .ref (ma 7) :: .ref (ma 8) :: .ref (ma 9) :: .ref (ma 10) :: .ref (ma 11) :: .ref (ma 12) :: .ref (ma 13) :: .ref (ma 14) :: .ref (ma 15) :: .ref (ma 16) :: .ref (ma 17) :: .ref (ma 18) :: .ref (ma 19) :: .ref (ma 20) :: .ref (ma 21) :: .ref (ma 22) :: .ref (ma 23) :: .ref (ma 24) :: .ref (ma 25) :: .ref (ma 26) :: .ref (ma 27) :: .ref (ma 28) :: .ref (ma 29) :: .ref (ma 30) :: .ref (ma 31) :: .ref (ma 32) :: .int (nI sz) :: .ref (ma 34) :: .ref (ma 35) :: .ref (ma 36) :: .ref (ma 37) :: [])), (ma 29, .inl (cJ g, 8, .inr (.inl fo)))] H) (hD : va_D A [(mo, .inr (6, .int (nI th) :: .ref (ma 1) :: .int (nI tp) :: .ref (ma 3) :: .ref (ma 4) :: .ref (ma 5) :: .ref (ma 6) :: .ref (ma 7) :: .ref (ma 8) :: .ref (ma 9) :: .ref (ma 10) :: .ref (ma 11) :: .ref (ma 12) :: .ref (ma 13) :: .ref (ma 14) :: .ref (ma 15) :: .ref (ma 16) :: .ref (ma 17) :: .ref (ma 18) :: .ref (ma 19) :: .ref (ma 20) :: .ref (ma 21) :: .ref (ma 22) :: .ref (ma 23) :: .ref (ma 24) :: .ref (ma 25) :: .ref (ma 26) :: .ref (ma 27) :: .ref (ma 28) :: .ref (ma 29) :: .ref (ma 30) :: .ref (ma 31) :: .ref (ma 32) :: .int (nI sz) :: .ref (ma 34) :: .ref (ma 35) :: .ref (ma 36) :: .ref (ma 37) :: [])), (ma 29, .inl (cJ g, 8, .inr (.inl fo)))]) (hS : va_S A s.heap H locs) (ls : Array Slot) (hl : lv_has ls 17 [(5, .int (nI i)), (0, .ref mo), (1, .long (lN x)), (3, .int (nI 2)), (4, .int (nI pp))]), W p g.1 e ({ frames := 0, cells := 0, slots := 0, locals := 0 } : Room) s m [.ref mo, .long (lN x), .int (nI 2), .int (nI pp)].toArray below meth c H locs 0 0 (MQ below (gQ g.2.1 cls7 (S := Nat → Int64) (fun (v : Option Value) (u : Nat → Int64) => v = some (.int (nI (if x ^ 2 ≤ pp * 2 ^ 64 then 1 else 0)))) (fun (u : Nat → Int64) => [(mo, .inr (6, .int (nI th) :: .ref (ma 1) :: .int (nI tp) :: .ref (ma 3) :: .ref (ma 4) :: .ref (ma 5) :: .ref (ma 6) :: .ref (ma 7) :: .ref (ma 8) :: .ref (ma 9) :: .ref (ma 10) :: .ref (ma 11) :: .ref (ma 12) :: .ref (ma 13) :: .ref (ma 14) :: .ref (ma 15) :: .ref (ma 16) :: .ref (ma 17) :: .ref (ma 18) :: .ref (ma 19) :: .ref (ma 20) :: .ref (ma 21) :: .ref (ma 22) :: .ref (ma 23) :: .ref (ma 24) :: .ref (ma 25) :: .ref (ma 26) :: .ref (ma 27) :: .ref (ma 28) :: .ref (ma 29) :: .ref (ma 30) :: .ref (ma 31) :: .ref (ma 32) :: .int (nI sz) :: .ref (ma 34) :: .ref (ma 35) :: .ref (ma 36) :: .ref (ma 37) :: [])), (ma 29, .inl (cJ g, 8, .inr (.inl u)))]) A) [.ref mo, .long (lN x), .int (nI 2), .int (nI pp)].toArray s ({ frames := 0, cells := 0, slots := 0, locals := 0 } : Room).cells ({ frames := 0, cells := 0, slots := 0, locals := 0 } : Room).slots A) (F0 m 34 ls []) := by
        intro k
        induction k with
        | zero =>
          intro i fo DD hk hDD hDb hVD H locs hP hD hS ls hl
          refine lv_iload hx hb d_X6_isAtMost_34 (lv_at hl 0 rfl) ?_
          refine lv_iload_n hx hb d_X6_isAtMost_36 rfl (lv_at hl 3 rfl) ?_
          refine ln_icmp_ge_t (tgt := 131) hx hb d_X6_isAtMost_37 (by decide) (by omega) (by omega) (by omega) ?_
          refine lv_iload_n hx hb d_X6_isAtMost_131 rfl (lv_at hl 3 rfl) ?_
          refine lv_iconst (v := (nI 2)) hx hb d_X6_isAtMost_132 (by decide) ?_
          refine ln_icmp_ne_f (tgt := 140) hx hb d_X6_isAtMost_133 (by decide) (by omega) (by omega) (by omega) ?_
          refine lv_iconst (v := (nI 3)) hx hb d_X6_isAtMost_136 (by decide) ?_
          refine lv_goto (tgt := 141) hx hb d_X6_isAtMost_137 (by decide) ?_
          refine lv_istore (lv' := [(5, .int (nI 3)), (0, .ref mo), (1, .long (lN x)), (3, .int (nI 2)), (4, .int (nI pp))]) hx hb d_X6_isAtMost_141 hl (by decide) rfl (fun ls hl => ?_)
          refine lv_iload hx hb d_X6_isAtMost_143 (lv_at hl 4 rfl) ?_
          refine lv_i2l (v := lN pp) hx hb d_X6_isAtMost_145 (lq_i (by omega)) ?_
          refine lv_iload_n hx hb d_X6_isAtMost_146 rfl (lv_at hl 3 rfl) ?_
          refine lv_iconst (v := (nI 2)) hx hb d_X6_isAtMost_147 (by decide) ?_
          refine ln_icmp_ne_f (tgt := 155) hx hb d_X6_isAtMost_148 (by decide) (by omega) (by omega) (by omega) ?_
          refine lv_iconst (v := (nI 4)) hx hb d_X6_isAtMost_151 (by decide) ?_
          refine lv_goto (tgt := 157) hx hb d_X6_isAtMost_152 (by decide) ?_
          refine lv_lshl (v := lN (pp * 16)) hx hb d_X6_isAtMost_157 (lL_k pp (by decide)) ?_
          refine lv_lstore (lv' := [(6, .long (lN (pp * 16))), (5, .int (nI 3)), (0, .ref mo), (1, .long (lN x)), (3, .int (nI 2)), (4, .int (nI pp))]) hx hb d_X6_isAtMost_158 hl (by decide) rfl (fun ls hl => ?_)
          refine lv_aload_n hx hb d_X6_isAtMost_160 rfl (lv_at hl 2 rfl) ?_
          refine va_get (D := g.2.1) (ci := 6) (v := .ref (ma 29)) (C := R_X6) (T := T_X6) (N := 38) hx hb ht i_X6 hown hK hP 0 rfl rfl 29 (by decide) (ht _ w_697) (fun _ h9 => h9) rfl d_X6_isAtMost_161 ?_
          refine lv_iload hx hb d_X6_isAtMost_164 (lv_at hl 1 rfl) ?_
          refine ln_lald hx hb hK hP 1 1 rfl rfl (by omega) (by decide) d_X6_isAtMost_166 ?_
          refine W.eq (g2 := F0 m 167 ls [.long (lN (DD 3))]) (by rw [hDD 3 (by omega)]) ?_
          refine lv_aload_n hx hb d_X6_isAtMost_167 rfl (lv_at hl 2 rfl) ?_
          refine va_get (D := g.2.1) (ci := 6) (v := .ref (ma 29)) (C := R_X6) (T := T_X6) (N := 38) hx hb ht i_X6 hown hK hP 0 rfl rfl 29 (by decide) (ht _ w_697) (fun _ h9 => h9) rfl d_X6_isAtMost_168 ?_
          refine lv_iload hx hb d_X6_isAtMost_171 (lv_at hl 1 rfl) ?_
          refine lv_iconst (v := (nI 1)) hx hb d_X6_isAtMost_173 (by decide) ?_
          refine ln_iadd hx hb d_X6_isAtMost_174 ?_
          refine ln_lald hx hb hK hP 1 1 rfl rfl (by omega) (by decide) d_X6_isAtMost_175 ?_
          refine W.eq (g2 := F0 m 176 ls [.long (lN (DD (3 + 1))), .long (lN (DD 3))]) (by rw [hDD (3 + 1) (by omega)]) ?_
          refine lv_bipush (v := (nI 20)) hx hb d_X6_isAtMost_176 (by decide) ?_
          refine lv_lshl (v := lL (lN (DD (3 + 1))) (nI 20)) hx hb d_X6_isAtMost_178 rfl ?_
          refine lv_lor hx hb d_X6_isAtMost_179 ?_
          refine lv_aload_n hx hb d_X6_isAtMost_180 rfl (lv_at hl 2 rfl) ?_
          refine va_get (D := g.2.1) (ci := 6) (v := .ref (ma 29)) (C := R_X6) (T := T_X6) (N := 38) hx hb ht i_X6 hown hK hP 0 rfl rfl 29 (by decide) (ht _ w_697) (fun _ h9 => h9) rfl d_X6_isAtMost_181 ?_
          refine lv_iload hx hb d_X6_isAtMost_184 (lv_at hl 1 rfl) ?_
          refine lv_iconst (v := (nI 2)) hx hb d_X6_isAtMost_186 (by decide) ?_
          refine ln_iadd hx hb d_X6_isAtMost_187 ?_
          refine ln_lald hx hb hK hP 1 1 rfl rfl (by omega) (by decide) d_X6_isAtMost_188 ?_
          refine W.eq (g2 := F0 m 189 ls [.long (lN (DD (3 + 2))), .long ((lN (DD 3)) ||| (lL (lN (DD (3 + 1))) (nI 20)))]) (by rw [hDD (3 + 2) (by omega)]) ?_
          refine lv_bipush (v := (nI 40)) hx hb d_X6_isAtMost_189 (by decide) ?_
          refine lv_lshl (v := lL (lN (DD (3 + 2))) (nI 40)) hx hb d_X6_isAtMost_191 rfl ?_
          refine lv_lor hx hb d_X6_isAtMost_192 ?_
          have d0 := hDb 3
          have d1 := hDb 4
          have d2 := hDb 5
          obtain ⟨ab, eab⟩ : ∃ y : Nat, y = DD 3 + DD 4 * 1048576 + DD 5 * 1099511627776 := ⟨_, rfl⟩
          refine W.eq (g2 := F0 m 193 ls [.long (lN ab)]) (by rw [eab, ← or3 d0 d1 d2]) ?_
          have hV : x ^ 2 = VN DD 3 + 1048576 ^ 3 * ab := by
            obtain rfl : i = 2 := by omega
            rw [eab, ← hVD]
            exact VN_ab (at' := 3) (n := 2) rfl (by rw [hVD]; exact xin2 hx36)
          have hpe : pp * 2 ^ 64 = 1048576 ^ 3 * (pp * 16) := by rw [Nat.mul_left_comm]
          have hr0 : VN DD 3 < 1048576 ^ 3 := VN_lt fun i _ => hDb i
          refine lv_lstore (lv' := [(8, .long (lN ab)), (6, .long (lN (pp * 16))), (5, .int (nI 3)), (0, .ref mo), (1, .long (lN x)), (3, .int (nI 2)), (4, .int (nI pp))]) hx hb d_X6_isAtMost_193 hl (by decide) rfl (fun ls hl => ?_)
          refine lv_lload hx hb d_X6_isAtMost_195 (lv_at hl 0 rfl) ?_
          refine lv_lload hx hb d_X6_isAtMost_197 (lv_at hl 1 rfl) ?_
          refine ln_lcmpN hx hb d_X6_isAtMost_199 (by omega) (by omega) (fun hlt => ?_) (fun heq => ?_) (fun hgt => ?_)
          · refine lv_if_eq (tgt := 217) hx hb d_X6_isAtMost_200 (by decide) (fun c_1 => absurd c_1 (by decide)) (fun _ => ?_)
            refine lv_lload hx hb d_X6_isAtMost_203 (lv_at hl 0 rfl) ?_
            refine lv_lload hx hb d_X6_isAtMost_205 (lv_at hl 1 rfl) ?_
            refine ln_lcmpN hx hb d_X6_isAtMost_207 (by omega) (by omega) (fun _ => ?_) (fun h9 => absurd h9 (by omega)) (fun h9 => absurd h9 (by omega))
            refine lv_if_ge (tgt := 215) hx hb d_X6_isAtMost_208 (by decide) (fun c_2 => absurd c_2 (by decide)) (fun _ => ?_)
            refine lv_iconst (v := (nI 1)) hx hb d_X6_isAtMost_211 (by decide) ?_
            refine lv_goto (tgt := 216) hx hb d_X6_isAtMost_212 (by decide) ?_
            have e0 : 1 = (if x ^ 2 ≤ pp * 2 ^ 64 then 1 else 0) := (if_pos (by rw [hV, hpe]; exact ab_lt hr0 hlt)).symm
            exact g_zret (v := nI 1) hx hb hr hlocks hP hD hS fo (List.Perm.refl _) (by decide) (congrArg (fun t => some (Value.int (nI t))) e0) (Nat.le_of_ble_eq_true rfl) (Nat.le_of_ble_eq_true rfl) d_X6_isAtMost_216
          · refine ln_if_eq_t (tgt := 217) hx hb d_X6_isAtMost_200 (by decide) (by omega) rfl ?_
            refine lv_iconst (v := (nI 1)) hx hb d_X6_isAtMost_217 (by decide) ?_
            refine lv_istore (lv' := [(10, .int (nI 1)), (8, .long (lN ab)), (6, .long (lN (pp * 16))), (5, .int (nI 3)), (0, .ref mo), (1, .long (lN x)), (3, .int (nI 2)), (4, .int (nI pp))]) hx hb d_X6_isAtMost_218 hl (by decide) rfl (fun ls hl => ?_)
            refine lv_iconst (v := (nI 0)) hx hb d_X6_isAtMost_220 (by decide) ?_
            refine lv_istore (lv' := [(11, .int (nI 0)), (10, .int (nI 1)), (8, .long (lN ab)), (6, .long (lN (pp * 16))), (5, .int (nI 3)), (0, .ref mo), (1, .long (lN x)), (3, .int (nI 2)), (4, .int (nI pp))]) hx hb d_X6_isAtMost_221 hl (by decide) rfl (fun ls hl => ?_)
            have lpn : ∀ (k : Nat) (k2 : Nat) (z : Nat) (hk : k2 + k = 3) (hzz : (z = 1 ∧ ∀ j, j < k2 → DD j = 0) ∨ (z = 0 ∧ ∃ j, j < k2 ∧ ¬ DD j = 0)) (H : Heap) (locs : List Loc) (hP : va_P g.2.1 cls7 [(mo, .inr (6, .int (nI th) :: .ref (ma 1) :: .int (nI tp) :: .ref (ma 3) :: .ref (ma 4) :: .ref (ma 5) :: .ref (ma 6) :: .ref (ma 7) :: .ref (ma 8) :: .ref (ma 9) :: .ref (ma 10) :: .ref (ma 11) :: .ref (ma 12) :: .ref (ma 13) :: .ref (ma 14) :: .ref (ma 15) :: .ref (ma 16) :: .ref (ma 17) :: .ref (ma 18) :: .ref (ma 19) :: .ref (ma 20) :: .ref (ma 21) :: .ref (ma 22) :: .ref (ma 23) :: .ref (ma 24) :: .ref (ma 25) :: .ref (ma 26) :: .ref (ma 27) :: .ref (ma 28) :: .ref (ma 29) :: .ref (ma 30) :: .ref (ma 31) :: .ref (ma 32) :: .int (nI sz) :: .ref (ma 34) :: .ref (ma 35) :: .ref (ma 36) :: .ref (ma 37) :: [])), (ma 29, .inl (cJ g, 8, .inr (.inl fo)))] H) (hD : va_D A [(mo, .inr (6, .int (nI th) :: .ref (ma 1) :: .int (nI tp) :: .ref (ma 3) :: .ref (ma 4) :: .ref (ma 5) :: .ref (ma 6) :: .ref (ma 7) :: .ref (ma 8) :: .ref (ma 9) :: .ref (ma 10) :: .ref (ma 11) :: .ref (ma 12) :: .ref (ma 13) :: .ref (ma 14) :: .ref (ma 15) :: .ref (ma 16) :: .ref (ma 17) :: .ref (ma 18) :: .ref (ma 19) :: .ref (ma 20) :: .ref (ma 21) :: .ref (ma 22) :: .ref (ma 23) :: .ref (ma 24) :: .ref (ma 25) :: .ref (ma 26) :: .ref (ma 27) :: .ref (ma 28) :: .ref (ma 29) :: .ref (ma 30) :: .ref (ma 31) :: .ref (ma 32) :: .int (nI sz) :: .ref (ma 34) :: .ref (ma 35) :: .ref (ma 36) :: .ref (ma 37) :: [])), (ma 29, .inl (cJ g, 8, .inr (.inl fo)))]) (hS : va_S A s.heap H locs) (ls : Array Slot) (hl : lv_has ls 17 [(11, .int (nI k2)), (10, .int (nI z)), (5, .int (nI 3)), (0, .ref mo), (1, .long (lN x)), (3, .int (nI 2)), (4, .int (nI pp))]), W p g.1 e ({ frames := 0, cells := 0, slots := 0, locals := 0 } : Room) s m [.ref mo, .long (lN x), .int (nI 2), .int (nI pp)].toArray below meth c H locs 0 0 (MQ below (gQ g.2.1 cls7 (S := Nat → Int64) (fun (v : Option Value) (u : Nat → Int64) => v = some (.int (nI (if x ^ 2 ≤ pp * 2 ^ 64 then 1 else 0)))) (fun (u : Nat → Int64) => [(mo, .inr (6, .int (nI th) :: .ref (ma 1) :: .int (nI tp) :: .ref (ma 3) :: .ref (ma 4) :: .ref (ma 5) :: .ref (ma 6) :: .ref (ma 7) :: .ref (ma 8) :: .ref (ma 9) :: .ref (ma 10) :: .ref (ma 11) :: .ref (ma 12) :: .ref (ma 13) :: .ref (ma 14) :: .ref (ma 15) :: .ref (ma 16) :: .ref (ma 17) :: .ref (ma 18) :: .ref (ma 19) :: .ref (ma 20) :: .ref (ma 21) :: .ref (ma 22) :: .ref (ma 23) :: .ref (ma 24) :: .ref (ma 25) :: .ref (ma 26) :: .ref (ma 27) :: .ref (ma 28) :: .ref (ma 29) :: .ref (ma 30) :: .ref (ma 31) :: .ref (ma 32) :: .int (nI sz) :: .ref (ma 34) :: .ref (ma 35) :: .ref (ma 36) :: .ref (ma 37) :: [])), (ma 29, .inl (cJ g, 8, .inr (.inl u)))]) A) [.ref mo, .long (lN x), .int (nI 2), .int (nI pp)].toArray s ({ frames := 0, cells := 0, slots := 0, locals := 0 } : Room).cells ({ frames := 0, cells := 0, slots := 0, locals := 0 } : Room).slots A) (F0 m 223 ls []) := by
              intro k
              induction k with
              | zero =>
                intro k2 z hk hzz H locs hP hD hS ls hl
                refine lv_iload hx hb d_X6_isAtMost_223 (lv_at hl 0 rfl) ?_
                refine lv_iload hx hb d_X6_isAtMost_225 (lv_at hl 2 rfl) ?_
                refine ln_icmp_ge_t (tgt := 260) hx hb d_X6_isAtMost_227 (by decide) (by omega) (by omega) (by omega) ?_
                refine lv_iload hx hb d_X6_isAtMost_260 (lv_at hl 1 rfl) ?_
                have zz : (if x ^ 2 ≤ pp * 2 ^ 64 then 1 else 0) = z := by
                  rcases hzz with ⟨rfl, h0⟩ | ⟨rfl, j9, hj9, h0⟩
                  · exact if_pos (by rw [hV, hpe, heq, VN_zero (k := 3) (fun j hj => h0 j (by omega))]; omega)
                  · exact if_neg (by have := VN_pos (k := 3) (by omega) h0; rw [hV, hpe, heq]; omega)
                have e0 : z = (if x ^ 2 ≤ pp * 2 ^ 64 then 1 else 0) := (zz).symm
                exact g_zret (v := nI z) hx hb hr hlocks hP hD hS fo (List.Perm.refl _) (hz01 hzz) (congrArg (fun t => some (Value.int (nI t))) e0) (Nat.le_of_ble_eq_true rfl) (Nat.le_of_ble_eq_true rfl) d_X6_isAtMost_262
              | succ k ih =>
                intro k2 z hk hzz H locs hP hD hS ls hl
                refine lv_iload hx hb d_X6_isAtMost_223 (lv_at hl 0 rfl) ?_
                refine lv_iload hx hb d_X6_isAtMost_225 (lv_at hl 2 rfl) ?_
                refine ln_icmp_ge_f (tgt := 260) hx hb d_X6_isAtMost_227 (by decide) (by omega) (by omega) (by omega) ?_
                refine lv_iload hx hb d_X6_isAtMost_230 (lv_at hl 1 rfl) ?_
                refine ln_if_eq (tgt := 251) hx hb d_X6_isAtMost_232 (by decide) (by omega) (fun c_3 => ?_) (fun c_3 => ?_)
                · refine lv_iconst (v := (nI 0)) hx hb d_X6_isAtMost_251 (by decide) ?_
                  refine lv_istore (lv' := [(10, .int (nI 0)), (11, .int (nI k2)), (5, .int (nI 3)), (0, .ref mo), (1, .long (lN x)), (3, .int (nI 2)), (4, .int (nI pp))]) hx hb d_X6_isAtMost_252 hl (by decide) rfl (fun ls hl => ?_)
                  refine ln_iinc (d := 1) (lv' := [(11, .int (nI (k2 + 1))), (10, .int (nI 0)), (5, .int (nI 3)), (0, .ref mo), (1, .long (lN x)), (3, .int (nI 2)), (4, .int (nI pp))]) hx hb d_X6_isAtMost_254 hl (k := 1) rfl rfl (by decide) rfl (fun ls hl => ?_)
                  refine lv_goto (tgt := 223) hx hb d_X6_isAtMost_257 (by decide) ?_
                  have hz9 : (0 = 1 ∧ ∀ j, j < k2 + 1 → DD j = 0) ∨ (0 = 0 ∧ ∃ j, j < k2 + 1 ∧ ¬ DD j = 0) := by
                    rcases hzz with ⟨h0, _⟩ | ⟨_, j, hj, h0⟩
                    · omega
                    · exact Or.inr ⟨rfl, j, by omega, h0⟩
                  exact ih (k2 + 1) 0 (by omega) hz9 _ _ hP hD hS ls (lv_sub hl [0, 1, 2, 3, 4, 5, 6] rfl)
                · refine lv_aload_n hx hb d_X6_isAtMost_235 rfl (lv_at hl 3 rfl) ?_
                  refine va_get (D := g.2.1) (ci := 6) (v := .ref (ma 29)) (C := R_X6) (T := T_X6) (N := 38) hx hb ht i_X6 hown hK hP 0 rfl rfl 29 (by decide) (ht _ w_697) (fun _ h9 => h9) rfl d_X6_isAtMost_236 ?_
                  refine lv_iload hx hb d_X6_isAtMost_239 (lv_at hl 0 rfl) ?_
                  refine ln_lald hx hb hK hP 1 1 rfl rfl (by omega) (by decide) d_X6_isAtMost_241 ?_
                  refine W.eq (g2 := F0 m 242 ls [.long (lN (DD k2))]) (by rw [hDD k2 (by omega)]) ?_
                  refine lv_lconst (v := lN 0) hx hb d_X6_isAtMost_242 (by decide) ?_
                  have dk := hDb k2
                  refine ln_lcmpN hx hb d_X6_isAtMost_243 (by omega) (by decide) (fun h9 => absurd h9 (Nat.not_lt_zero _)) (fun hd0 => ?_) (fun hd0 => ?_)
                  · refine ln_if_ne_f (tgt := 251) hx hb d_X6_isAtMost_244 (by decide) (by omega) (by omega) ?_
                    refine lv_iconst (v := (nI 1)) hx hb d_X6_isAtMost_247 (by decide) ?_
                    refine lv_goto (tgt := 252) hx hb d_X6_isAtMost_248 (by decide) ?_
                    refine lv_istore (lv' := [(10, .int (nI 1)), (11, .int (nI k2)), (5, .int (nI 3)), (0, .ref mo), (1, .long (lN x)), (3, .int (nI 2)), (4, .int (nI pp))]) hx hb d_X6_isAtMost_252 hl (by decide) rfl (fun ls hl => ?_)
                    refine ln_iinc (d := 1) (lv' := [(11, .int (nI (k2 + 1))), (10, .int (nI 1)), (5, .int (nI 3)), (0, .ref mo), (1, .long (lN x)), (3, .int (nI 2)), (4, .int (nI pp))]) hx hb d_X6_isAtMost_254 hl (k := 1) rfl rfl (by decide) rfl (fun ls hl => ?_)
                    refine lv_goto (tgt := 223) hx hb d_X6_isAtMost_257 (by decide) ?_
                    have hz9 : (1 = 1 ∧ ∀ j, j < k2 + 1 → DD j = 0) ∨ (1 = 0 ∧ ∃ j, j < k2 + 1 ∧ ¬ DD j = 0) := by
                      rcases hzz with ⟨_, h0⟩ | ⟨h0, _⟩
                      · exact Or.inl ⟨rfl, fun j hj => if e : j = k2 then e ▸ hd0 else h0 j (by omega)⟩
                      · omega
                    exact ih (k2 + 1) 1 (by omega) hz9 _ _ hP hD hS ls (lv_sub hl [0, 1, 2, 3, 4, 5, 6] rfl)
                  · refine ln_if_ne_t (tgt := 251) hx hb d_X6_isAtMost_244 (by decide) (by omega) (by omega) ?_
                    refine lv_iconst (v := (nI 0)) hx hb d_X6_isAtMost_251 (by decide) ?_
                    refine lv_istore (lv' := [(10, .int (nI 0)), (11, .int (nI k2)), (5, .int (nI 3)), (0, .ref mo), (1, .long (lN x)), (3, .int (nI 2)), (4, .int (nI pp))]) hx hb d_X6_isAtMost_252 hl (by decide) rfl (fun ls hl => ?_)
                    refine ln_iinc (d := 1) (lv' := [(11, .int (nI (k2 + 1))), (10, .int (nI 0)), (5, .int (nI 3)), (0, .ref mo), (1, .long (lN x)), (3, .int (nI 2)), (4, .int (nI pp))]) hx hb d_X6_isAtMost_254 hl (k := 1) rfl rfl (by decide) rfl (fun ls hl => ?_)
                    refine lv_goto (tgt := 223) hx hb d_X6_isAtMost_257 (by decide) ?_
                    have hz9 : (0 = 1 ∧ ∀ j, j < k2 + 1 → DD j = 0) ∨ (0 = 0 ∧ ∃ j, j < k2 + 1 ∧ ¬ DD j = 0) := Or.inr ⟨rfl, k2, by omega, by omega⟩
                    exact ih (k2 + 1) 0 (by omega) hz9 _ _ hP hD hS ls (lv_sub hl [0, 1, 2, 3, 4, 5, 6] rfl)
            exact lpn 3 0 1 (by omega) (Or.inl ⟨rfl, fun j h => absurd h (Nat.not_lt_zero j)⟩) _ _ hP hD hS ls (lv_sub hl [0, 1, 4, 5, 6, 7, 8] rfl)
          · refine ln_if_eq_f (tgt := 217) hx hb d_X6_isAtMost_200 (by decide) (by omega) (by decide) ?_
            refine lv_lload hx hb d_X6_isAtMost_203 (lv_at hl 0 rfl) ?_
            refine lv_lload hx hb d_X6_isAtMost_205 (lv_at hl 1 rfl) ?_
            refine ln_lcmpN hx hb d_X6_isAtMost_207 (by omega) (by omega) (fun h9 => absurd h9 (by omega)) (fun h9 => absurd h9 (by omega)) (fun _ => ?_)
            refine ln_if_ge (tgt := 215) hx hb d_X6_isAtMost_208 (by decide) (by omega) (fun _ => ?_)
            refine lv_iconst (v := (nI 0)) hx hb d_X6_isAtMost_215 (by decide) ?_
            have e0 : 0 = (if x ^ 2 ≤ pp * 2 ^ 64 then 1 else 0) := (if_neg (by rw [hV, hpe]; exact ab_gt (Nat.pow_pos (by decide)) hgt)).symm
            exact g_zret (v := nI 0) hx hb hr hlocks hP hD hS fo (List.Perm.refl _) (by decide) (congrArg (fun t => some (Value.int (nI t))) e0) (Nat.le_of_ble_eq_true rfl) (Nat.le_of_ble_eq_true rfl) d_X6_isAtMost_216
        | succ k ih =>
          intro i fo DD hk hDD hDb hVD H locs hP hD hS ls hl
          refine lv_iload hx hb d_X6_isAtMost_34 (lv_at hl 0 rfl) ?_
          refine lv_iload_n hx hb d_X6_isAtMost_36 rfl (lv_at hl 3 rfl) ?_
          refine ln_icmp_ge_f (tgt := 131) hx hb d_X6_isAtMost_37 (by decide) (by omega) (by omega) (by omega) ?_
          refine lv_lload_n hx hb d_X6_isAtMost_40 rfl (lv_at hl 2 rfl) ?_
          refine lv_ldc2 (v := 1048575) hx hb hown (ht _ w_667) d_X6_isAtMost_41 ?_
          refine lv_land hx hb d_X6_isAtMost_44 ?_
          refine W.eq (g2 := F0 m 45 ls [.long (lN (x % 1048576))]) (by rw [show lN x &&& 1048575 = lN (x % 1048576) from g_mask (s := 20) (p := 1048576) rfl (by decide) (by omega)]) ?_
          refine lv_lstore (lv' := [(6, .long (lN (x % 1048576))), (5, .int (nI i)), (0, .ref mo), (1, .long (lN x)), (3, .int (nI 2)), (4, .int (nI pp))]) hx hb d_X6_isAtMost_45 hl (by decide) rfl (fun ls hl => ?_)
          refine lv_lload_n hx hb d_X6_isAtMost_47 rfl (lv_at hl 3 rfl) ?_
          refine lv_bipush (v := (nI 20)) hx hb d_X6_isAtMost_48 (by decide) ?_
          refine lv_lshr (v := lN (x / 1048576)) hx hb d_X6_isAtMost_50 (sL_20 (by omega)) ?_
          refine lv_lstore (lv' := [(8, .long (lN (x / 1048576))), (6, .long (lN (x % 1048576))), (5, .int (nI i)), (0, .ref mo), (1, .long (lN x)), (3, .int (nI 2)), (4, .int (nI pp))]) hx hb d_X6_isAtMost_51 hl (by decide) rfl (fun ls hl => ?_)
          refine lv_lconst (v := lN 0) hx hb d_X6_isAtMost_53 (by decide) ?_
          refine W.eq (g2 := F0 m 54 ls [.long (lN (s1 DD 0))]) (rfl) ?_
          refine lv_lstore (lv' := [(10, .long (lN (s1 DD 0))), (8, .long (lN (x / 1048576))), (6, .long (lN (x % 1048576))), (5, .int (nI i)), (0, .ref mo), (1, .long (lN x)), (3, .int (nI 2)), (4, .int (nI pp))]) hx hb d_X6_isAtMost_54 hl (by decide) rfl (fun ls hl => ?_)
          refine lv_lconst (v := lN 0) hx hb d_X6_isAtMost_56 (by decide) ?_
          refine lv_lstore (lv' := [(12, .long (lN 0)), (10, .long (lN (s1 DD 0))), (8, .long (lN (x / 1048576))), (6, .long (lN (x % 1048576))), (5, .int (nI i)), (0, .ref mo), (1, .long (lN x)), (3, .int (nI 2)), (4, .int (nI pp))]) hx hb d_X6_isAtMost_57 hl (by decide) rfl (fun ls hl => ?_)
          refine lv_iconst (v := (nI 0)) hx hb d_X6_isAtMost_59 (by decide) ?_
          refine lv_istore (lv' := [(14, .int (nI 0)), (12, .long (lN 0)), (10, .long (lN (s1 DD 0))), (8, .long (lN (x / 1048576))), (6, .long (lN (x % 1048576))), (5, .int (nI i)), (0, .ref mo), (1, .long (lN x)), (3, .int (nI 2)), (4, .int (nI pp))]) hx hb d_X6_isAtMost_60 hl (by decide) rfl (fun ls hl => ?_)
          have lpi : ∀ (k : Nat) (k1 : Nat) (fe : Nat → Int64) (EE : Nat → Nat) (cy : Nat) (hk : k1 + k = 8) (hEE : ∀ j, j < 8 → fe j = lN (EE j)) (hEb : ∀ j, EE j < 1048576) (hEk : ∀ j, k1 ≤ j → EE j = DD j) (hcy : cy < 2097152) (hv : VN EE k1 + cy * 1048576 ^ k1 = VN DD k1 * (x % 1048576) + VN (s1 DD) k1 * (x / 1048576)) (H : Heap) (locs : List Loc) (hP : va_P g.2.1 cls7 [(mo, .inr (6, .int (nI th) :: .ref (ma 1) :: .int (nI tp) :: .ref (ma 3) :: .ref (ma 4) :: .ref (ma 5) :: .ref (ma 6) :: .ref (ma 7) :: .ref (ma 8) :: .ref (ma 9) :: .ref (ma 10) :: .ref (ma 11) :: .ref (ma 12) :: .ref (ma 13) :: .ref (ma 14) :: .ref (ma 15) :: .ref (ma 16) :: .ref (ma 17) :: .ref (ma 18) :: .ref (ma 19) :: .ref (ma 20) :: .ref (ma 21) :: .ref (ma 22) :: .ref (ma 23) :: .ref (ma 24) :: .ref (ma 25) :: .ref (ma 26) :: .ref (ma 27) :: .ref (ma 28) :: .ref (ma 29) :: .ref (ma 30) :: .ref (ma 31) :: .ref (ma 32) :: .int (nI sz) :: .ref (ma 34) :: .ref (ma 35) :: .ref (ma 36) :: .ref (ma 37) :: [])), (ma 29, .inl (cJ g, 8, .inr (.inl fe)))] H) (hD : va_D A [(mo, .inr (6, .int (nI th) :: .ref (ma 1) :: .int (nI tp) :: .ref (ma 3) :: .ref (ma 4) :: .ref (ma 5) :: .ref (ma 6) :: .ref (ma 7) :: .ref (ma 8) :: .ref (ma 9) :: .ref (ma 10) :: .ref (ma 11) :: .ref (ma 12) :: .ref (ma 13) :: .ref (ma 14) :: .ref (ma 15) :: .ref (ma 16) :: .ref (ma 17) :: .ref (ma 18) :: .ref (ma 19) :: .ref (ma 20) :: .ref (ma 21) :: .ref (ma 22) :: .ref (ma 23) :: .ref (ma 24) :: .ref (ma 25) :: .ref (ma 26) :: .ref (ma 27) :: .ref (ma 28) :: .ref (ma 29) :: .ref (ma 30) :: .ref (ma 31) :: .ref (ma 32) :: .int (nI sz) :: .ref (ma 34) :: .ref (ma 35) :: .ref (ma 36) :: .ref (ma 37) :: [])), (ma 29, .inl (cJ g, 8, .inr (.inl fe)))]) (hS : va_S A s.heap H locs) (ls : Array Slot) (hl : lv_has ls 17 [(14, .int (nI k1)), (12, .long (lN cy)), (10, .long (lN (s1 DD k1))), (8, .long (lN (x / 1048576))), (6, .long (lN (x % 1048576))), (5, .int (nI i)), (0, .ref mo), (1, .long (lN x)), (3, .int (nI 2)), (4, .int (nI pp))]), W p g.1 e ({ frames := 0, cells := 0, slots := 0, locals := 0 } : Room) s m [.ref mo, .long (lN x), .int (nI 2), .int (nI pp)].toArray below meth c H locs 0 0 (MQ below (gQ g.2.1 cls7 (S := Nat → Int64) (fun (v : Option Value) (u : Nat → Int64) => v = some (.int (nI (if x ^ 2 ≤ pp * 2 ^ 64 then 1 else 0)))) (fun (u : Nat → Int64) => [(mo, .inr (6, .int (nI th) :: .ref (ma 1) :: .int (nI tp) :: .ref (ma 3) :: .ref (ma 4) :: .ref (ma 5) :: .ref (ma 6) :: .ref (ma 7) :: .ref (ma 8) :: .ref (ma 9) :: .ref (ma 10) :: .ref (ma 11) :: .ref (ma 12) :: .ref (ma 13) :: .ref (ma 14) :: .ref (ma 15) :: .ref (ma 16) :: .ref (ma 17) :: .ref (ma 18) :: .ref (ma 19) :: .ref (ma 20) :: .ref (ma 21) :: .ref (ma 22) :: .ref (ma 23) :: .ref (ma 24) :: .ref (ma 25) :: .ref (ma 26) :: .ref (ma 27) :: .ref (ma 28) :: .ref (ma 29) :: .ref (ma 30) :: .ref (ma 31) :: .ref (ma 32) :: .int (nI sz) :: .ref (ma 34) :: .ref (ma 35) :: .ref (ma 36) :: .ref (ma 37) :: [])), (ma 29, .inl (cJ g, 8, .inr (.inl u)))]) A) [.ref mo, .long (lN x), .int (nI 2), .int (nI pp)].toArray s ({ frames := 0, cells := 0, slots := 0, locals := 0 } : Room).cells ({ frames := 0, cells := 0, slots := 0, locals := 0 } : Room).slots A) (F0 m 62 ls []) := by
            intro k
            induction k with
            | zero =>
              intro k1 fe EE cy hk hEE hEb hEk hcy hv H locs hP hD hS ls hl
              refine lv_iload hx hb d_X6_isAtMost_62 (lv_at hl 0 rfl) ?_
              refine lv_bipush (v := (nI 8)) hx hb d_X6_isAtMost_64 (by decide) ?_
              refine ln_icmp_ge_t (tgt := 125) hx hb d_X6_isAtMost_66 (by decide) (by omega) (by omega) (by omega) ?_
              refine ln_iinc (d := 1) (lv' := [(5, .int (nI (i + 1))), (14, .int (nI k1)), (12, .long (lN cy)), (10, .long (lN (s1 DD k1))), (8, .long (lN (x / 1048576))), (6, .long (lN (x % 1048576))), (0, .ref mo), (1, .long (lN x)), (3, .int (nI 2)), (4, .int (nI pp))]) hx hb d_X6_isAtMost_125 hl (k := 5) rfl rfl (by decide) rfl (fun ls hl => ?_)
              refine lv_goto (tgt := 34) hx hb d_X6_isAtMost_128 (by decide) ?_
              have hxi : x ^ i * x < 1048576 ^ 8 := xi8 hx36 (by omega)
              have hVE : VN EE 8 = x ^ (i + 1) := by
                obtain rfl : k1 = 8 := by omega
                have h9 := VN_end (k := 7) (x := x) hv (by omega) (by rw [hVD]; exact xi7 hx36 (by omega)) (by rw [hVD]; exact hxi)
                rw [Nat.pow_succ, ← hVD]
                exact h9
              exact ih (i + 1) fe EE (by omega) hEE hEb hVE _ _ hP hD hS ls (lv_sub hl [0, 6, 7, 8, 9] rfl)
            | succ k ih =>
              intro k1 fe EE cy hk hEE hEb hEk hcy hv H locs hP hD hS ls hl
              refine lv_iload hx hb d_X6_isAtMost_62 (lv_at hl 0 rfl) ?_
              refine lv_bipush (v := (nI 8)) hx hb d_X6_isAtMost_64 (by decide) ?_
              refine ln_icmp_ge_f (tgt := 125) hx hb d_X6_isAtMost_66 (by decide) (by omega) (by omega) (by omega) ?_
              refine lv_aload_n hx hb d_X6_isAtMost_69 rfl (lv_at hl 6 rfl) ?_
              refine va_get (D := g.2.1) (ci := 6) (v := .ref (ma 29)) (C := R_X6) (T := T_X6) (N := 38) hx hb ht i_X6 hown hK hP 0 rfl rfl 29 (by decide) (ht _ w_697) (fun _ h9 => h9) rfl d_X6_isAtMost_70 ?_
              refine lv_iload hx hb d_X6_isAtMost_73 (lv_at hl 0 rfl) ?_
              refine ln_lald hx hb hK hP 1 1 rfl rfl (by omega) (by decide) d_X6_isAtMost_75 ?_
              refine W.eq (g2 := F0 m 76 ls [.long (lN (DD k1))]) (by rw [hEE k1 (by omega), hEk k1 (by omega)]) ?_
              refine lv_lload hx hb d_X6_isAtMost_76 (lv_at hl 4 rfl) ?_
              refine lv_lmul hx hb d_X6_isAtMost_78 ?_
              refine W.eq (g2 := F0 m 79 ls [.long (lN ((DD k1) * (x % 1048576)))]) (by rw [lq_mul]) ?_
              refine lv_lload hx hb d_X6_isAtMost_79 (lv_at hl 2 rfl) ?_
              refine lv_lload hx hb d_X6_isAtMost_81 (lv_at hl 3 rfl) ?_
              refine lv_lmul hx hb d_X6_isAtMost_83 ?_
              refine W.eq (g2 := F0 m 84 ls [.long (lN ((s1 DD k1) * (x / 1048576))), .long (lN ((DD k1) * (x % 1048576)))]) (by rw [lq_mul]) ?_
              refine lv_ladd hx hb d_X6_isAtMost_84 ?_
              refine W.eq (g2 := F0 m 85 ls [.long (lN (((DD k1) * (x % 1048576)) + ((s1 DD k1) * (x / 1048576))))]) (by rw [lq_add]) ?_
              refine lv_lload hx hb d_X6_isAtMost_85 (lv_at hl 1 rfl) ?_
              refine lv_ladd hx hb d_X6_isAtMost_87 ?_
              refine W.eq (g2 := F0 m 88 ls [.long (lN ((((DD k1) * (x % 1048576)) + ((s1 DD k1) * (x / 1048576))) + cy))]) (by rw [lq_add]) ?_
              have b1 : DD k1 * (x % 1048576) ≤ 1048575 * 1048575 := Nat.mul_le_mul (Nat.le_of_lt_succ (hDb k1)) (by omega)
              have b2 : s1 DD k1 * (x / 1048576) ≤ 1048575 * 65535 := Nat.mul_le_mul (s1_le hDb k1) (by omega)
              obtain ⟨v_4, ev_4⟩ : ∃ y : Nat, y = (((DD k1) * (x % 1048576)) + ((s1 DD k1) * (x / 1048576))) + cy := ⟨_, rfl⟩
              refine W.eq (g2 := F0 m 88 ls [.long (lN v_4)]) (by rw [ev_4]) ?_
              refine lv_lstore (lv' := [(15, .long (lN v_4)), (14, .int (nI k1)), (12, .long (lN cy)), (10, .long (lN (s1 DD k1))), (8, .long (lN (x / 1048576))), (6, .long (lN (x % 1048576))), (5, .int (nI i)), (0, .ref mo), (1, .long (lN x)), (3, .int (nI 2)), (4, .int (nI pp))]) hx hb d_X6_isAtMost_88 hl (by decide) rfl (fun ls hl => ?_)
              refine lv_aload_n hx hb d_X6_isAtMost_90 rfl (lv_at hl 7 rfl) ?_
              refine va_get (D := g.2.1) (ci := 6) (v := .ref (ma 29)) (C := R_X6) (T := T_X6) (N := 38) hx hb ht i_X6 hown hK hP 0 rfl rfl 29 (by decide) (ht _ w_697) (fun _ h9 => h9) rfl d_X6_isAtMost_91 ?_
              refine lv_iload hx hb d_X6_isAtMost_94 (lv_at hl 1 rfl) ?_
              refine ln_lald hx hb hK hP 1 1 rfl rfl (by omega) (by decide) d_X6_isAtMost_96 ?_
              refine W.eq (g2 := F0 m 97 ls [.long (lN (DD k1))]) (by rw [hEE k1 (by omega), hEk k1 (by omega)]) ?_
              refine W.eq (g2 := F0 m 97 ls [.long (lN (s1 DD (k1 + 1)))]) (rfl) ?_
              refine lv_lstore (lv' := [(10, .long (lN (s1 DD (k1 + 1)))), (15, .long (lN v_4)), (14, .int (nI k1)), (12, .long (lN cy)), (8, .long (lN (x / 1048576))), (6, .long (lN (x % 1048576))), (5, .int (nI i)), (0, .ref mo), (1, .long (lN x)), (3, .int (nI 2)), (4, .int (nI pp))]) hx hb d_X6_isAtMost_97 hl (by decide) rfl (fun ls hl => ?_)
              refine lv_aload_n hx hb d_X6_isAtMost_99 rfl (lv_at hl 7 rfl) ?_
              refine va_get (D := g.2.1) (ci := 6) (v := .ref (ma 29)) (C := R_X6) (T := T_X6) (N := 38) hx hb ht i_X6 hown hK hP 0 rfl rfl 29 (by decide) (ht _ w_697) (fun _ h9 => h9) rfl d_X6_isAtMost_100 ?_
              refine lv_iload hx hb d_X6_isAtMost_103 (lv_at hl 2 rfl) ?_
              refine lv_lload hx hb d_X6_isAtMost_105 (lv_at hl 1 rfl) ?_
              refine lv_ldc2 (v := 1048575) hx hb hown (ht _ w_667) d_X6_isAtMost_107 ?_
              refine lv_land hx hb d_X6_isAtMost_110 ?_
              refine W.eq (g2 := F0 m 111 ls [.long (lN (v_4 % 1048576)), .int (nI k1), .ref (ma 29)]) (by rw [show lN v_4 &&& 1048575 = lN (v_4 % 1048576) from g_mask (s := 20) (p := 1048576) rfl (by decide) (by omega)]) ?_
              refine ln_last hx hb hK hP hD hS 1 1 rfl rfl (by omega) (by decide) d_X6_isAtMost_111 (fun H locs hP hD hS => ?_)
              have hP : va_P g.2.1 cls7 [(mo, .inr (6, .int (nI th) :: .ref (ma 1) :: .int (nI tp) :: .ref (ma 3) :: .ref (ma 4) :: .ref (ma 5) :: .ref (ma 6) :: .ref (ma 7) :: .ref (ma 8) :: .ref (ma 9) :: .ref (ma 10) :: .ref (ma 11) :: .ref (ma 12) :: .ref (ma 13) :: .ref (ma 14) :: .ref (ma 15) :: .ref (ma 16) :: .ref (ma 17) :: .ref (ma 18) :: .ref (ma 19) :: .ref (ma 20) :: .ref (ma 21) :: .ref (ma 22) :: .ref (ma 23) :: .ref (ma 24) :: .ref (ma 25) :: .ref (ma 26) :: .ref (ma 27) :: .ref (ma 28) :: .ref (ma 29) :: .ref (ma 30) :: .ref (ma 31) :: .ref (ma 32) :: .int (nI sz) :: .ref (ma 34) :: .ref (ma 35) :: .ref (ma 36) :: .ref (ma 37) :: [])), (ma 29, .inl (cJ g, 8, .inr (.inl (vp_updL fe k1 (lN (v_4 % 1048576))))))] H := hP
              have hD : va_D A [(mo, .inr (6, .int (nI th) :: .ref (ma 1) :: .int (nI tp) :: .ref (ma 3) :: .ref (ma 4) :: .ref (ma 5) :: .ref (ma 6) :: .ref (ma 7) :: .ref (ma 8) :: .ref (ma 9) :: .ref (ma 10) :: .ref (ma 11) :: .ref (ma 12) :: .ref (ma 13) :: .ref (ma 14) :: .ref (ma 15) :: .ref (ma 16) :: .ref (ma 17) :: .ref (ma 18) :: .ref (ma 19) :: .ref (ma 20) :: .ref (ma 21) :: .ref (ma 22) :: .ref (ma 23) :: .ref (ma 24) :: .ref (ma 25) :: .ref (ma 26) :: .ref (ma 27) :: .ref (ma 28) :: .ref (ma 29) :: .ref (ma 30) :: .ref (ma 31) :: .ref (ma 32) :: .int (nI sz) :: .ref (ma 34) :: .ref (ma 35) :: .ref (ma 36) :: .ref (ma 37) :: [])), (ma 29, .inl (cJ g, 8, .inr (.inl (vp_updL fe k1 (lN (v_4 % 1048576))))))] := hD
              refine lv_lload hx hb d_X6_isAtMost_112 (lv_at hl 1 rfl) ?_
              refine lv_bipush (v := (nI 20)) hx hb d_X6_isAtMost_114 (by decide) ?_
              refine lv_lshr (v := lN (v_4 / 1048576)) hx hb d_X6_isAtMost_116 (sL_20 (by omega)) ?_
              refine lv_lstore (lv' := [(12, .long (lN (v_4 / 1048576))), (10, .long (lN (s1 DD (k1 + 1)))), (15, .long (lN v_4)), (14, .int (nI k1)), (8, .long (lN (x / 1048576))), (6, .long (lN (x % 1048576))), (5, .int (nI i)), (0, .ref mo), (1, .long (lN x)), (3, .int (nI 2)), (4, .int (nI pp))]) hx hb d_X6_isAtMost_117 hl (by decide) rfl (fun ls hl => ?_)
              refine ln_iinc (d := 1) (lv' := [(14, .int (nI (k1 + 1))), (12, .long (lN (v_4 / 1048576))), (10, .long (lN (s1 DD (k1 + 1)))), (15, .long (lN v_4)), (8, .long (lN (x / 1048576))), (6, .long (lN (x % 1048576))), (5, .int (nI i)), (0, .ref mo), (1, .long (lN x)), (3, .int (nI 2)), (4, .int (nI pp))]) hx hb d_X6_isAtMost_119 hl (k := 3) rfl rfl (by decide) rfl (fun ls hl => ?_)
              refine lv_goto (tgt := 62) hx hb d_X6_isAtMost_122 (by decide) ?_
              have hv2 := VN_step hv ev_4
              have hE2 : ∀ j, j < 8 → (vp_updL fe k1 (lN (v_4 % 1048576))) j = lN (upn EE k1 (v_4 % 1048576) j) := fun j hj => if e : j = k1 then by subst e; rw [upn_s]; exact vl_us _ _ _ else by rw [upn_n _ _ e]; exact (vl_un _ _ e).trans (hEE j hj)
              have hE3 : ∀ j, upn EE k1 (v_4 % 1048576) j < 1048576 := fun j => if e : j = k1 then by subst e; rw [upn_s]; exact Nat.mod_lt _ (by decide) else by rw [upn_n _ _ e]; exact hEb j
              have hE4 : ∀ j, k1 + 1 ≤ j → upn EE k1 (v_4 % 1048576) j = DD j := fun j hj => (upn_n _ _ (by omega)).trans (hEk j (by omega))
              exact ih (k1 + 1) (vp_updL fe k1 (lN (v_4 % 1048576))) (upn EE k1 (v_4 % 1048576)) (v_4 / 1048576) (by omega) hE2 hE3 hE4 (by omega) hv2 _ _ hP hD hS ls (lv_sub hl [0, 1, 2, 4, 5, 6, 7, 8, 9, 10] rfl)
          exact lpi 8 0 fo DD 0 (by omega) hDD hDb (fun _ _ => rfl) (by decide) (VN_00 _ _ _ _ _) _ _ hP hD hS ls (lv_sub hl [0, 1, 2, 3, 4, 5, 6, 7, 8, 9] rfl)
      exact lpo 2 0 (vp_updL fy 0 (lN 1)) (fun q => if q = 0 then 1 else 0) (by omega) hD1 one_lt20 one_VN _ _ hP hD hS ls (lv_sub hl [0, 1, 2, 3, 4] rfl)
    | succ k ih =>
      intro k0 fy hk hz H locs hP hD hS ls hl
      refine lv_iload hx hb d_X6_isAtMost_3 (lv_at hl 0 rfl) ?_
      refine lv_bipush (v := (nI 8)) hx hb d_X6_isAtMost_5 (by decide) ?_
      refine ln_icmp_ge_f (tgt := 24) hx hb d_X6_isAtMost_7 (by decide) (by omega) (by omega) (by omega) ?_
      refine lv_aload_n hx hb d_X6_isAtMost_10 rfl (lv_at hl 1 rfl) ?_
      refine va_get (D := g.2.1) (ci := 6) (v := .ref (ma 29)) (C := R_X6) (T := T_X6) (N := 38) hx hb ht i_X6 hown hK hP 0 rfl rfl 29 (by decide) (ht _ w_697) (fun _ h9 => h9) rfl d_X6_isAtMost_11 ?_
      refine lv_iload hx hb d_X6_isAtMost_14 (lv_at hl 0 rfl) ?_
      refine lv_lconst (v := lN 0) hx hb d_X6_isAtMost_16 (by decide) ?_
      refine ln_last hx hb hK hP hD hS 1 1 rfl rfl (by omega) (by decide) d_X6_isAtMost_17 (fun H locs hP hD hS => ?_)
      have hP : va_P g.2.1 cls7 [(mo, .inr (6, .int (nI th) :: .ref (ma 1) :: .int (nI tp) :: .ref (ma 3) :: .ref (ma 4) :: .ref (ma 5) :: .ref (ma 6) :: .ref (ma 7) :: .ref (ma 8) :: .ref (ma 9) :: .ref (ma 10) :: .ref (ma 11) :: .ref (ma 12) :: .ref (ma 13) :: .ref (ma 14) :: .ref (ma 15) :: .ref (ma 16) :: .ref (ma 17) :: .ref (ma 18) :: .ref (ma 19) :: .ref (ma 20) :: .ref (ma 21) :: .ref (ma 22) :: .ref (ma 23) :: .ref (ma 24) :: .ref (ma 25) :: .ref (ma 26) :: .ref (ma 27) :: .ref (ma 28) :: .ref (ma 29) :: .ref (ma 30) :: .ref (ma 31) :: .ref (ma 32) :: .int (nI sz) :: .ref (ma 34) :: .ref (ma 35) :: .ref (ma 36) :: .ref (ma 37) :: [])), (ma 29, .inl (cJ g, 8, .inr (.inl (vp_updL fy k0 (lN 0)))))] H := hP
      have hD : va_D A [(mo, .inr (6, .int (nI th) :: .ref (ma 1) :: .int (nI tp) :: .ref (ma 3) :: .ref (ma 4) :: .ref (ma 5) :: .ref (ma 6) :: .ref (ma 7) :: .ref (ma 8) :: .ref (ma 9) :: .ref (ma 10) :: .ref (ma 11) :: .ref (ma 12) :: .ref (ma 13) :: .ref (ma 14) :: .ref (ma 15) :: .ref (ma 16) :: .ref (ma 17) :: .ref (ma 18) :: .ref (ma 19) :: .ref (ma 20) :: .ref (ma 21) :: .ref (ma 22) :: .ref (ma 23) :: .ref (ma 24) :: .ref (ma 25) :: .ref (ma 26) :: .ref (ma 27) :: .ref (ma 28) :: .ref (ma 29) :: .ref (ma 30) :: .ref (ma 31) :: .ref (ma 32) :: .int (nI sz) :: .ref (ma 34) :: .ref (ma 35) :: .ref (ma 36) :: .ref (ma 37) :: [])), (ma 29, .inl (cJ g, 8, .inr (.inl (vp_updL fy k0 (lN 0)))))] := hD
      refine ln_iinc (d := 1) (lv' := [(5, .int (nI (k0 + 1))), (0, .ref mo), (1, .long (lN x)), (3, .int (nI 2)), (4, .int (nI pp))]) hx hb d_X6_isAtMost_18 hl (k := 0) rfl rfl (by decide) rfl (fun ls hl => ?_)
      refine lv_goto (tgt := 3) hx hb d_X6_isAtMost_21 (by decide) ?_
      have hz2 : ∀ i, i < k0 + 1 → (vp_updL fy k0 (lN 0)) i = lN 0 := fun i hi => if e : i = k0 then e ▸ vl_us _ _ _ else (vl_un _ _ e).trans (hz i (by omega))
      exact ih (k0 + 1) (vp_updL fy k0 (lN 0)) (by omega) hz2 _ _ hP hD hS ls (lv_sub hl [0, 1, 2, 3, 4] rfl)
  exact lpz 8 0 f (by omega) (fun i h => absurd h (Nat.not_lt_zero i)) _ _ hP hD hS ls (lv_sub hl [0, 1, 2, 3, 4] rfl)

set_option maxHeartbeats 1000000 in
set_option maxRecDepth 100000 in
theorem c_X6_isAtMost_3 (g : GG) (mo : Nat) (ma : Nat → Nat) (th : Nat) (tp : Nat) (sz : Nat) (f : Nat → Int64) (x : Nat) (pp : Nat) (hx36 : x < 2 ^ 36) (hpp : pp < 400) : Cg g y_X6_isAtMost b_X6_isAtMost 17 (some .boolean) ({ frames := 0, cells := 0, slots := 0, locals := 0 } : Room) [.ref mo, .long (lN x), .int (nI 3), .int (nI pp)] [(mo, .inr (6, .int (nI th) :: .ref (ma 1) :: .int (nI tp) :: .ref (ma 3) :: .ref (ma 4) :: .ref (ma 5) :: .ref (ma 6) :: .ref (ma 7) :: .ref (ma 8) :: .ref (ma 9) :: .ref (ma 10) :: .ref (ma 11) :: .ref (ma 12) :: .ref (ma 13) :: .ref (ma 14) :: .ref (ma 15) :: .ref (ma 16) :: .ref (ma 17) :: .ref (ma 18) :: .ref (ma 19) :: .ref (ma 20) :: .ref (ma 21) :: .ref (ma 22) :: .ref (ma 23) :: .ref (ma 24) :: .ref (ma 25) :: .ref (ma 26) :: .ref (ma 27) :: .ref (ma 28) :: .ref (ma 29) :: .ref (ma 30) :: .ref (ma 31) :: .ref (ma 32) :: .int (nI sz) :: .ref (ma 34) :: .ref (ma 35) :: .ref (ma 36) :: .ref (ma 37) :: [])), (ma 29, .inl (cJ g, 8, .inr (.inl f)))] (S := Nat → Int64) (fun (v : Option Value) (u : Nat → Int64) => v = some (.int (nI (if x ^ 3 ≤ pp * 2 ^ 96 then 1 else 0)))) (fun (u : Nat → Int64) => [(mo, .inr (6, .int (nI th) :: .ref (ma 1) :: .int (nI tp) :: .ref (ma 3) :: .ref (ma 4) :: .ref (ma 5) :: .ref (ma 6) :: .ref (ma 7) :: .ref (ma 8) :: .ref (ma 9) :: .ref (ma 10) :: .ref (ma 11) :: .ref (ma 12) :: .ref (ma 13) :: .ref (ma 14) :: .ref (ma 15) :: .ref (ma 16) :: .ref (ma 17) :: .ref (ma 18) :: .ref (ma 19) :: .ref (ma 20) :: .ref (ma 21) :: .ref (ma 22) :: .ref (ma 23) :: .ref (ma 24) :: .ref (ma 25) :: .ref (ma 26) :: .ref (ma 27) :: .ref (ma 28) :: .ref (ma 29) :: .ref (ma 30) :: .ref (ma 31) :: .ref (ma 32) :: .int (nI sz) :: .ref (ma 34) :: .ref (ma 35) :: .ref (ma 36) :: .ref (ma 37) :: [])), (ma 29, .inl (cJ g, 8, .inr (.inl u)))]) := by
  refine Ct_of (cc := b_X6_isAtMost) (maxL := 17) (ret := (some .boolean)) (by decide) rfl (Nat.le_of_ble_eq_true rfl) ?_
  intro p e s m below meth c A ls hx hb hr hml hown hts hlocks hin hA hP hK hD hXs hS hl
  have ht : ∀ w ∈ tb, w.before [.ref mo, .long (lN x), .int (nI 3), .int (nI pp)].toArray s = true := fun w h => hts w (List.mem_cons_of_mem _ h)
  have hown : s.vm.findClass R_X6 = some m.cls := hown
  have hl : lv_has ls 17 [(0, .ref mo), (1, .long (lN x)), (3, .int (nI 3)), (4, .int (nI pp))] := hl
  refine lv_iconst (v := (nI 0)) hx hb d_X6_isAtMost_0 (by decide) ?_
  refine lv_istore (lv' := [(5, .int (nI 0)), (0, .ref mo), (1, .long (lN x)), (3, .int (nI 3)), (4, .int (nI pp))]) hx hb d_X6_isAtMost_1 hl (by decide) rfl (fun ls hl => ?_)
  have lpz : ∀ (k : Nat) (k0 : Nat) (fy : Nat → Int64) (hk : k0 + k = 8) (hz : ∀ i, i < k0 → fy i = lN 0) (H : Heap) (locs : List Loc) (hP : va_P g.2.1 cls7 [(mo, .inr (6, .int (nI th) :: .ref (ma 1) :: .int (nI tp) :: .ref (ma 3) :: .ref (ma 4) :: .ref (ma 5) :: .ref (ma 6) :: .ref (ma 7) :: .ref (ma 8) :: .ref (ma 9) :: .ref (ma 10) :: .ref (ma 11) :: .ref (ma 12) :: .ref (ma 13) :: .ref (ma 14) :: .ref (ma 15) :: .ref (ma 16) :: .ref (ma 17) :: .ref (ma 18) :: .ref (ma 19) :: .ref (ma 20) :: .ref (ma 21) :: .ref (ma 22) :: .ref (ma 23) :: .ref (ma 24) :: .ref (ma 25) :: .ref (ma 26) :: .ref (ma 27) :: .ref (ma 28) :: .ref (ma 29) :: .ref (ma 30) :: .ref (ma 31) :: .ref (ma 32) :: .int (nI sz) :: .ref (ma 34) :: .ref (ma 35) :: .ref (ma 36) :: .ref (ma 37) :: [])), (ma 29, .inl (cJ g, 8, .inr (.inl fy)))] H) (hD : va_D A [(mo, .inr (6, .int (nI th) :: .ref (ma 1) :: .int (nI tp) :: .ref (ma 3) :: .ref (ma 4) :: .ref (ma 5) :: .ref (ma 6) :: .ref (ma 7) :: .ref (ma 8) :: .ref (ma 9) :: .ref (ma 10) :: .ref (ma 11) :: .ref (ma 12) :: .ref (ma 13) :: .ref (ma 14) :: .ref (ma 15) :: .ref (ma 16) :: .ref (ma 17) :: .ref (ma 18) :: .ref (ma 19) :: .ref (ma 20) :: .ref (ma 21) :: .ref (ma 22) :: .ref (ma 23) :: .ref (ma 24) :: .ref (ma 25) :: .ref (ma 26) :: .ref (ma 27) :: .ref (ma 28) :: .ref (ma 29) :: .ref (ma 30) :: .ref (ma 31) :: .ref (ma 32) :: .int (nI sz) :: .ref (ma 34) :: .ref (ma 35) :: .ref (ma 36) :: .ref (ma 37) :: [])), (ma 29, .inl (cJ g, 8, .inr (.inl fy)))]) (hS : va_S A s.heap H locs) (ls : Array Slot) (hl : lv_has ls 17 [(5, .int (nI k0)), (0, .ref mo), (1, .long (lN x)), (3, .int (nI 3)), (4, .int (nI pp))]), W p g.1 e ({ frames := 0, cells := 0, slots := 0, locals := 0 } : Room) s m [.ref mo, .long (lN x), .int (nI 3), .int (nI pp)].toArray below meth c H locs 0 0 (MQ below (gQ g.2.1 cls7 (S := Nat → Int64) (fun (v : Option Value) (u : Nat → Int64) => v = some (.int (nI (if x ^ 3 ≤ pp * 2 ^ 96 then 1 else 0)))) (fun (u : Nat → Int64) => [(mo, .inr (6, .int (nI th) :: .ref (ma 1) :: .int (nI tp) :: .ref (ma 3) :: .ref (ma 4) :: .ref (ma 5) :: .ref (ma 6) :: .ref (ma 7) :: .ref (ma 8) :: .ref (ma 9) :: .ref (ma 10) :: .ref (ma 11) :: .ref (ma 12) :: .ref (ma 13) :: .ref (ma 14) :: .ref (ma 15) :: .ref (ma 16) :: .ref (ma 17) :: .ref (ma 18) :: .ref (ma 19) :: .ref (ma 20) :: .ref (ma 21) :: .ref (ma 22) :: .ref (ma 23) :: .ref (ma 24) :: .ref (ma 25) :: .ref (ma 26) :: .ref (ma 27) :: .ref (ma 28) :: .ref (ma 29) :: .ref (ma 30) :: .ref (ma 31) :: .ref (ma 32) :: .int (nI sz) :: .ref (ma 34) :: .ref (ma 35) :: .ref (ma 36) :: .ref (ma 37) :: [])), (ma 29, .inl (cJ g, 8, .inr (.inl u)))]) A) [.ref mo, .long (lN x), .int (nI 3), .int (nI pp)].toArray s ({ frames := 0, cells := 0, slots := 0, locals := 0 } : Room).cells ({ frames := 0, cells := 0, slots := 0, locals := 0 } : Room).slots A) (F0 m 3 ls []) := by
    intro k
    induction k with
    | zero =>
      intro k0 fy hk hz H locs hP hD hS ls hl
      refine lv_iload hx hb d_X6_isAtMost_3 (lv_at hl 0 rfl) ?_
      refine lv_bipush (v := (nI 8)) hx hb d_X6_isAtMost_5 (by decide) ?_
      refine ln_icmp_ge_t (tgt := 24) hx hb d_X6_isAtMost_7 (by decide) (by omega) (by omega) (by omega) ?_
      refine lv_aload_n hx hb d_X6_isAtMost_24 rfl (lv_at hl 1 rfl) ?_
      refine va_get (D := g.2.1) (ci := 6) (v := .ref (ma 29)) (C := R_X6) (T := T_X6) (N := 38) hx hb ht i_X6 hown hK hP 0 rfl rfl 29 (by decide) (ht _ w_697) (fun _ h9 => h9) rfl d_X6_isAtMost_25 ?_
      refine lv_iconst (v := (nI 0)) hx hb d_X6_isAtMost_28 (by decide) ?_
      refine lv_lconst (v := lN 1) hx hb d_X6_isAtMost_29 (by decide) ?_
      refine ln_last hx hb hK hP hD hS 1 1 rfl rfl (by omega) (by decide) d_X6_isAtMost_30 (fun H locs hP hD hS => ?_)
      have hP : va_P g.2.1 cls7 [(mo, .inr (6, .int (nI th) :: .ref (ma 1) :: .int (nI tp) :: .ref (ma 3) :: .ref (ma 4) :: .ref (ma 5) :: .ref (ma 6) :: .ref (ma 7) :: .ref (ma 8) :: .ref (ma 9) :: .ref (ma 10) :: .ref (ma 11) :: .ref (ma 12) :: .ref (ma 13) :: .ref (ma 14) :: .ref (ma 15) :: .ref (ma 16) :: .ref (ma 17) :: .ref (ma 18) :: .ref (ma 19) :: .ref (ma 20) :: .ref (ma 21) :: .ref (ma 22) :: .ref (ma 23) :: .ref (ma 24) :: .ref (ma 25) :: .ref (ma 26) :: .ref (ma 27) :: .ref (ma 28) :: .ref (ma 29) :: .ref (ma 30) :: .ref (ma 31) :: .ref (ma 32) :: .int (nI sz) :: .ref (ma 34) :: .ref (ma 35) :: .ref (ma 36) :: .ref (ma 37) :: [])), (ma 29, .inl (cJ g, 8, .inr (.inl (vp_updL fy 0 (lN 1)))))] H := hP
      have hD : va_D A [(mo, .inr (6, .int (nI th) :: .ref (ma 1) :: .int (nI tp) :: .ref (ma 3) :: .ref (ma 4) :: .ref (ma 5) :: .ref (ma 6) :: .ref (ma 7) :: .ref (ma 8) :: .ref (ma 9) :: .ref (ma 10) :: .ref (ma 11) :: .ref (ma 12) :: .ref (ma 13) :: .ref (ma 14) :: .ref (ma 15) :: .ref (ma 16) :: .ref (ma 17) :: .ref (ma 18) :: .ref (ma 19) :: .ref (ma 20) :: .ref (ma 21) :: .ref (ma 22) :: .ref (ma 23) :: .ref (ma 24) :: .ref (ma 25) :: .ref (ma 26) :: .ref (ma 27) :: .ref (ma 28) :: .ref (ma 29) :: .ref (ma 30) :: .ref (ma 31) :: .ref (ma 32) :: .int (nI sz) :: .ref (ma 34) :: .ref (ma 35) :: .ref (ma 36) :: .ref (ma 37) :: [])), (ma 29, .inl (cJ g, 8, .inr (.inl (vp_updL fy 0 (lN 1)))))] := hD
      refine lv_iconst (v := (nI 0)) hx hb d_X6_isAtMost_31 (by decide) ?_
      refine lv_istore (lv' := [(5, .int (nI 0)), (0, .ref mo), (1, .long (lN x)), (3, .int (nI 3)), (4, .int (nI pp))]) hx hb d_X6_isAtMost_32 hl (by decide) rfl (fun ls hl => ?_)
      have hD1 : ∀ j, j < 8 → (vp_updL fy 0 (lN 1)) j = lN ((fun q => if q = 0 then 1 else 0) j) := fun j hj => if e : j = 0 then by subst e; exact vl_us _ _ _ else (vl_un _ _ e).trans ((hz j (by omega)).trans (congrArg lN (if_neg e).symm))
      have lpo : ∀ (k : Nat) (i : Nat) (fo : Nat → Int64) (DD : Nat → Nat) (hk : i + k = 3) (hDD : ∀ j, j < 8 → fo j = lN (DD j)) (hDb : ∀ j, DD j < 1048576) (hVD : VN DD 8 = x ^ i) (H : Heap) (locs : List Loc) (hP : va_P g.2.1 cls7 [(mo, .inr (6, .int (nI th) :: .ref (ma 1) :: .int (nI tp) :: .ref (ma 3) :: .ref (ma 4) :: .ref (ma 5) :: .ref (ma 6) :: .ref (ma 7) :: .ref (ma 8) :: .ref (ma 9) :: .ref (ma 10) :: .ref (ma 11) :: .ref (ma 12) :: .ref (ma 13) :: .ref (ma 14) :: .ref (ma 15) :: .ref (ma 16) :: .ref (ma 17) :: .ref (ma 18) :: .ref (ma 19) :: .ref (ma 20) :: .ref (ma 21) :: .ref (ma 22) :: .ref (ma 23) :: .ref (ma 24) :: .ref (ma 25) :: .ref (ma 26) :: .ref (ma 27) :: .ref (ma 28) :: .ref (ma 29) :: .ref (ma 30) :: .ref (ma 31) :: .ref (ma 32) :: .int (nI sz) :: .ref (ma 34) :: .ref (ma 35) :: .ref (ma 36) :: .ref (ma 37) :: [])), (ma 29, .inl (cJ g, 8, .inr (.inl fo)))] H) (hD : va_D A [(mo, .inr (6, .int (nI th) :: .ref (ma 1) :: .int (nI tp) :: .ref (ma 3) :: .ref (ma 4) :: .ref (ma 5) :: .ref (ma 6) :: .ref (ma 7) :: .ref (ma 8) :: .ref (ma 9) :: .ref (ma 10) :: .ref (ma 11) :: .ref (ma 12) :: .ref (ma 13) :: .ref (ma 14) :: .ref (ma 15) :: .ref (ma 16) :: .ref (ma 17) :: .ref (ma 18) :: .ref (ma 19) :: .ref (ma 20) :: .ref (ma 21) :: .ref (ma 22) :: .ref (ma 23) :: .ref (ma 24) :: .ref (ma 25) :: .ref (ma 26) :: .ref (ma 27) :: .ref (ma 28) :: .ref (ma 29) :: .ref (ma 30) :: .ref (ma 31) :: .ref (ma 32) :: .int (nI sz) :: .ref (ma 34) :: .ref (ma 35) :: .ref (ma 36) :: .ref (ma 37) :: [])), (ma 29, .inl (cJ g, 8, .inr (.inl fo)))]) (hS : va_S A s.heap H locs) (ls : Array Slot) (hl : lv_has ls 17 [(5, .int (nI i)), (0, .ref mo), (1, .long (lN x)), (3, .int (nI 3)), (4, .int (nI pp))]), W p g.1 e ({ frames := 0, cells := 0, slots := 0, locals := 0 } : Room) s m [.ref mo, .long (lN x), .int (nI 3), .int (nI pp)].toArray below meth c H locs 0 0 (MQ below (gQ g.2.1 cls7 (S := Nat → Int64) (fun (v : Option Value) (u : Nat → Int64) => v = some (.int (nI (if x ^ 3 ≤ pp * 2 ^ 96 then 1 else 0)))) (fun (u : Nat → Int64) => [(mo, .inr (6, .int (nI th) :: .ref (ma 1) :: .int (nI tp) :: .ref (ma 3) :: .ref (ma 4) :: .ref (ma 5) :: .ref (ma 6) :: .ref (ma 7) :: .ref (ma 8) :: .ref (ma 9) :: .ref (ma 10) :: .ref (ma 11) :: .ref (ma 12) :: .ref (ma 13) :: .ref (ma 14) :: .ref (ma 15) :: .ref (ma 16) :: .ref (ma 17) :: .ref (ma 18) :: .ref (ma 19) :: .ref (ma 20) :: .ref (ma 21) :: .ref (ma 22) :: .ref (ma 23) :: .ref (ma 24) :: .ref (ma 25) :: .ref (ma 26) :: .ref (ma 27) :: .ref (ma 28) :: .ref (ma 29) :: .ref (ma 30) :: .ref (ma 31) :: .ref (ma 32) :: .int (nI sz) :: .ref (ma 34) :: .ref (ma 35) :: .ref (ma 36) :: .ref (ma 37) :: [])), (ma 29, .inl (cJ g, 8, .inr (.inl u)))]) A) [.ref mo, .long (lN x), .int (nI 3), .int (nI pp)].toArray s ({ frames := 0, cells := 0, slots := 0, locals := 0 } : Room).cells ({ frames := 0, cells := 0, slots := 0, locals := 0 } : Room).slots A) (F0 m 34 ls []) := by
        intro k
        induction k with
        | zero =>
          intro i fo DD hk hDD hDb hVD H locs hP hD hS ls hl
          refine lv_iload hx hb d_X6_isAtMost_34 (lv_at hl 0 rfl) ?_
          refine lv_iload_n hx hb d_X6_isAtMost_36 rfl (lv_at hl 3 rfl) ?_
          refine ln_icmp_ge_t (tgt := 131) hx hb d_X6_isAtMost_37 (by decide) (by omega) (by omega) (by omega) ?_
          refine lv_iload_n hx hb d_X6_isAtMost_131 rfl (lv_at hl 3 rfl) ?_
          refine lv_iconst (v := (nI 2)) hx hb d_X6_isAtMost_132 (by decide) ?_
          refine ln_icmp_ne_t (tgt := 140) hx hb d_X6_isAtMost_133 (by decide) (by omega) (by omega) (by omega) ?_
          refine lv_iconst (v := (nI 4)) hx hb d_X6_isAtMost_140 (by decide) ?_
          refine lv_istore (lv' := [(5, .int (nI 4)), (0, .ref mo), (1, .long (lN x)), (3, .int (nI 3)), (4, .int (nI pp))]) hx hb d_X6_isAtMost_141 hl (by decide) rfl (fun ls hl => ?_)
          refine lv_iload hx hb d_X6_isAtMost_143 (lv_at hl 4 rfl) ?_
          refine lv_i2l (v := lN pp) hx hb d_X6_isAtMost_145 (lq_i (by omega)) ?_
          refine lv_iload_n hx hb d_X6_isAtMost_146 rfl (lv_at hl 3 rfl) ?_
          refine lv_iconst (v := (nI 2)) hx hb d_X6_isAtMost_147 (by decide) ?_
          refine ln_icmp_ne_t (tgt := 155) hx hb d_X6_isAtMost_148 (by decide) (by omega) (by omega) (by omega) ?_
          refine lv_bipush (v := (nI 16)) hx hb d_X6_isAtMost_155 (by decide) ?_
          refine lv_lshl (v := lN (pp * 65536)) hx hb d_X6_isAtMost_157 (lL_k pp (by decide)) ?_
          refine lv_lstore (lv' := [(6, .long (lN (pp * 65536))), (5, .int (nI 4)), (0, .ref mo), (1, .long (lN x)), (3, .int (nI 3)), (4, .int (nI pp))]) hx hb d_X6_isAtMost_158 hl (by decide) rfl (fun ls hl => ?_)
          refine lv_aload_n hx hb d_X6_isAtMost_160 rfl (lv_at hl 2 rfl) ?_
          refine va_get (D := g.2.1) (ci := 6) (v := .ref (ma 29)) (C := R_X6) (T := T_X6) (N := 38) hx hb ht i_X6 hown hK hP 0 rfl rfl 29 (by decide) (ht _ w_697) (fun _ h9 => h9) rfl d_X6_isAtMost_161 ?_
          refine lv_iload hx hb d_X6_isAtMost_164 (lv_at hl 1 rfl) ?_
          refine ln_lald hx hb hK hP 1 1 rfl rfl (by omega) (by decide) d_X6_isAtMost_166 ?_
          refine W.eq (g2 := F0 m 167 ls [.long (lN (DD 4))]) (by rw [hDD 4 (by omega)]) ?_
          refine lv_aload_n hx hb d_X6_isAtMost_167 rfl (lv_at hl 2 rfl) ?_
          refine va_get (D := g.2.1) (ci := 6) (v := .ref (ma 29)) (C := R_X6) (T := T_X6) (N := 38) hx hb ht i_X6 hown hK hP 0 rfl rfl 29 (by decide) (ht _ w_697) (fun _ h9 => h9) rfl d_X6_isAtMost_168 ?_
          refine lv_iload hx hb d_X6_isAtMost_171 (lv_at hl 1 rfl) ?_
          refine lv_iconst (v := (nI 1)) hx hb d_X6_isAtMost_173 (by decide) ?_
          refine ln_iadd hx hb d_X6_isAtMost_174 ?_
          refine ln_lald hx hb hK hP 1 1 rfl rfl (by omega) (by decide) d_X6_isAtMost_175 ?_
          refine W.eq (g2 := F0 m 176 ls [.long (lN (DD (4 + 1))), .long (lN (DD 4))]) (by rw [hDD (4 + 1) (by omega)]) ?_
          refine lv_bipush (v := (nI 20)) hx hb d_X6_isAtMost_176 (by decide) ?_
          refine lv_lshl (v := lL (lN (DD (4 + 1))) (nI 20)) hx hb d_X6_isAtMost_178 rfl ?_
          refine lv_lor hx hb d_X6_isAtMost_179 ?_
          refine lv_aload_n hx hb d_X6_isAtMost_180 rfl (lv_at hl 2 rfl) ?_
          refine va_get (D := g.2.1) (ci := 6) (v := .ref (ma 29)) (C := R_X6) (T := T_X6) (N := 38) hx hb ht i_X6 hown hK hP 0 rfl rfl 29 (by decide) (ht _ w_697) (fun _ h9 => h9) rfl d_X6_isAtMost_181 ?_
          refine lv_iload hx hb d_X6_isAtMost_184 (lv_at hl 1 rfl) ?_
          refine lv_iconst (v := (nI 2)) hx hb d_X6_isAtMost_186 (by decide) ?_
          refine ln_iadd hx hb d_X6_isAtMost_187 ?_
          refine ln_lald hx hb hK hP 1 1 rfl rfl (by omega) (by decide) d_X6_isAtMost_188 ?_
          refine W.eq (g2 := F0 m 189 ls [.long (lN (DD (4 + 2))), .long ((lN (DD 4)) ||| (lL (lN (DD (4 + 1))) (nI 20)))]) (by rw [hDD (4 + 2) (by omega)]) ?_
          refine lv_bipush (v := (nI 40)) hx hb d_X6_isAtMost_189 (by decide) ?_
          refine lv_lshl (v := lL (lN (DD (4 + 2))) (nI 40)) hx hb d_X6_isAtMost_191 rfl ?_
          refine lv_lor hx hb d_X6_isAtMost_192 ?_
          have d0 := hDb 4
          have d1 := hDb 5
          have d2 := hDb 6
          obtain ⟨ab, eab⟩ : ∃ y : Nat, y = DD 4 + DD 5 * 1048576 + DD 6 * 1099511627776 := ⟨_, rfl⟩
          refine W.eq (g2 := F0 m 193 ls [.long (lN ab)]) (by rw [eab, ← or3 d0 d1 d2]) ?_
          have hV : x ^ 3 = VN DD 4 + 1048576 ^ 4 * ab := by
            obtain rfl : i = 3 := by omega
            rw [eab, ← hVD]
            exact VN_ab (at' := 4) (n := 1) rfl (by rw [hVD]; exact xin3 hx36)
          have hpe : pp * 2 ^ 96 = 1048576 ^ 4 * (pp * 65536) := by rw [Nat.mul_left_comm]
          have hr0 : VN DD 4 < 1048576 ^ 4 := VN_lt fun i _ => hDb i
          refine lv_lstore (lv' := [(8, .long (lN ab)), (6, .long (lN (pp * 65536))), (5, .int (nI 4)), (0, .ref mo), (1, .long (lN x)), (3, .int (nI 3)), (4, .int (nI pp))]) hx hb d_X6_isAtMost_193 hl (by decide) rfl (fun ls hl => ?_)
          refine lv_lload hx hb d_X6_isAtMost_195 (lv_at hl 0 rfl) ?_
          refine lv_lload hx hb d_X6_isAtMost_197 (lv_at hl 1 rfl) ?_
          refine ln_lcmpN hx hb d_X6_isAtMost_199 (by omega) (by omega) (fun hlt => ?_) (fun heq => ?_) (fun hgt => ?_)
          · refine lv_if_eq (tgt := 217) hx hb d_X6_isAtMost_200 (by decide) (fun c_1 => absurd c_1 (by decide)) (fun _ => ?_)
            refine lv_lload hx hb d_X6_isAtMost_203 (lv_at hl 0 rfl) ?_
            refine lv_lload hx hb d_X6_isAtMost_205 (lv_at hl 1 rfl) ?_
            refine ln_lcmpN hx hb d_X6_isAtMost_207 (by omega) (by omega) (fun _ => ?_) (fun h9 => absurd h9 (by omega)) (fun h9 => absurd h9 (by omega))
            refine lv_if_ge (tgt := 215) hx hb d_X6_isAtMost_208 (by decide) (fun c_2 => absurd c_2 (by decide)) (fun _ => ?_)
            refine lv_iconst (v := (nI 1)) hx hb d_X6_isAtMost_211 (by decide) ?_
            refine lv_goto (tgt := 216) hx hb d_X6_isAtMost_212 (by decide) ?_
            have e0 : 1 = (if x ^ 3 ≤ pp * 2 ^ 96 then 1 else 0) := (if_pos (by rw [hV, hpe]; exact ab_lt hr0 hlt)).symm
            exact g_zret (v := nI 1) hx hb hr hlocks hP hD hS fo (List.Perm.refl _) (by decide) (congrArg (fun t => some (Value.int (nI t))) e0) (Nat.le_of_ble_eq_true rfl) (Nat.le_of_ble_eq_true rfl) d_X6_isAtMost_216
          · refine ln_if_eq_t (tgt := 217) hx hb d_X6_isAtMost_200 (by decide) (by omega) rfl ?_
            refine lv_iconst (v := (nI 1)) hx hb d_X6_isAtMost_217 (by decide) ?_
            refine lv_istore (lv' := [(10, .int (nI 1)), (8, .long (lN ab)), (6, .long (lN (pp * 65536))), (5, .int (nI 4)), (0, .ref mo), (1, .long (lN x)), (3, .int (nI 3)), (4, .int (nI pp))]) hx hb d_X6_isAtMost_218 hl (by decide) rfl (fun ls hl => ?_)
            refine lv_iconst (v := (nI 0)) hx hb d_X6_isAtMost_220 (by decide) ?_
            refine lv_istore (lv' := [(11, .int (nI 0)), (10, .int (nI 1)), (8, .long (lN ab)), (6, .long (lN (pp * 65536))), (5, .int (nI 4)), (0, .ref mo), (1, .long (lN x)), (3, .int (nI 3)), (4, .int (nI pp))]) hx hb d_X6_isAtMost_221 hl (by decide) rfl (fun ls hl => ?_)
            have lpn : ∀ (k : Nat) (k2 : Nat) (z : Nat) (hk : k2 + k = 4) (hzz : (z = 1 ∧ ∀ j, j < k2 → DD j = 0) ∨ (z = 0 ∧ ∃ j, j < k2 ∧ ¬ DD j = 0)) (H : Heap) (locs : List Loc) (hP : va_P g.2.1 cls7 [(mo, .inr (6, .int (nI th) :: .ref (ma 1) :: .int (nI tp) :: .ref (ma 3) :: .ref (ma 4) :: .ref (ma 5) :: .ref (ma 6) :: .ref (ma 7) :: .ref (ma 8) :: .ref (ma 9) :: .ref (ma 10) :: .ref (ma 11) :: .ref (ma 12) :: .ref (ma 13) :: .ref (ma 14) :: .ref (ma 15) :: .ref (ma 16) :: .ref (ma 17) :: .ref (ma 18) :: .ref (ma 19) :: .ref (ma 20) :: .ref (ma 21) :: .ref (ma 22) :: .ref (ma 23) :: .ref (ma 24) :: .ref (ma 25) :: .ref (ma 26) :: .ref (ma 27) :: .ref (ma 28) :: .ref (ma 29) :: .ref (ma 30) :: .ref (ma 31) :: .ref (ma 32) :: .int (nI sz) :: .ref (ma 34) :: .ref (ma 35) :: .ref (ma 36) :: .ref (ma 37) :: [])), (ma 29, .inl (cJ g, 8, .inr (.inl fo)))] H) (hD : va_D A [(mo, .inr (6, .int (nI th) :: .ref (ma 1) :: .int (nI tp) :: .ref (ma 3) :: .ref (ma 4) :: .ref (ma 5) :: .ref (ma 6) :: .ref (ma 7) :: .ref (ma 8) :: .ref (ma 9) :: .ref (ma 10) :: .ref (ma 11) :: .ref (ma 12) :: .ref (ma 13) :: .ref (ma 14) :: .ref (ma 15) :: .ref (ma 16) :: .ref (ma 17) :: .ref (ma 18) :: .ref (ma 19) :: .ref (ma 20) :: .ref (ma 21) :: .ref (ma 22) :: .ref (ma 23) :: .ref (ma 24) :: .ref (ma 25) :: .ref (ma 26) :: .ref (ma 27) :: .ref (ma 28) :: .ref (ma 29) :: .ref (ma 30) :: .ref (ma 31) :: .ref (ma 32) :: .int (nI sz) :: .ref (ma 34) :: .ref (ma 35) :: .ref (ma 36) :: .ref (ma 37) :: [])), (ma 29, .inl (cJ g, 8, .inr (.inl fo)))]) (hS : va_S A s.heap H locs) (ls : Array Slot) (hl : lv_has ls 17 [(11, .int (nI k2)), (10, .int (nI z)), (5, .int (nI 4)), (0, .ref mo), (1, .long (lN x)), (3, .int (nI 3)), (4, .int (nI pp))]), W p g.1 e ({ frames := 0, cells := 0, slots := 0, locals := 0 } : Room) s m [.ref mo, .long (lN x), .int (nI 3), .int (nI pp)].toArray below meth c H locs 0 0 (MQ below (gQ g.2.1 cls7 (S := Nat → Int64) (fun (v : Option Value) (u : Nat → Int64) => v = some (.int (nI (if x ^ 3 ≤ pp * 2 ^ 96 then 1 else 0)))) (fun (u : Nat → Int64) => [(mo, .inr (6, .int (nI th) :: .ref (ma 1) :: .int (nI tp) :: .ref (ma 3) :: .ref (ma 4) :: .ref (ma 5) :: .ref (ma 6) :: .ref (ma 7) :: .ref (ma 8) :: .ref (ma 9) :: .ref (ma 10) :: .ref (ma 11) :: .ref (ma 12) :: .ref (ma 13) :: .ref (ma 14) :: .ref (ma 15) :: .ref (ma 16) :: .ref (ma 17) :: .ref (ma 18) :: .ref (ma 19) :: .ref (ma 20) :: .ref (ma 21) :: .ref (ma 22) :: .ref (ma 23) :: .ref (ma 24) :: .ref (ma 25) :: .ref (ma 26) :: .ref (ma 27) :: .ref (ma 28) :: .ref (ma 29) :: .ref (ma 30) :: .ref (ma 31) :: .ref (ma 32) :: .int (nI sz) :: .ref (ma 34) :: .ref (ma 35) :: .ref (ma 36) :: .ref (ma 37) :: [])), (ma 29, .inl (cJ g, 8, .inr (.inl u)))]) A) [.ref mo, .long (lN x), .int (nI 3), .int (nI pp)].toArray s ({ frames := 0, cells := 0, slots := 0, locals := 0 } : Room).cells ({ frames := 0, cells := 0, slots := 0, locals := 0 } : Room).slots A) (F0 m 223 ls []) := by
              intro k
              induction k with
              | zero =>
                intro k2 z hk hzz H locs hP hD hS ls hl
                refine lv_iload hx hb d_X6_isAtMost_223 (lv_at hl 0 rfl) ?_
                refine lv_iload hx hb d_X6_isAtMost_225 (lv_at hl 2 rfl) ?_
                refine ln_icmp_ge_t (tgt := 260) hx hb d_X6_isAtMost_227 (by decide) (by omega) (by omega) (by omega) ?_
                refine lv_iload hx hb d_X6_isAtMost_260 (lv_at hl 1 rfl) ?_
                have zz : (if x ^ 3 ≤ pp * 2 ^ 96 then 1 else 0) = z := by
                  rcases hzz with ⟨rfl, h0⟩ | ⟨rfl, j9, hj9, h0⟩
                  · exact if_pos (by rw [hV, hpe, heq, VN_zero (k := 4) (fun j hj => h0 j (by omega))]; omega)
                  · exact if_neg (by have := VN_pos (k := 4) (by omega) h0; rw [hV, hpe, heq]; omega)
                have e0 : z = (if x ^ 3 ≤ pp * 2 ^ 96 then 1 else 0) := (zz).symm
                exact g_zret (v := nI z) hx hb hr hlocks hP hD hS fo (List.Perm.refl _) (hz01 hzz) (congrArg (fun t => some (Value.int (nI t))) e0) (Nat.le_of_ble_eq_true rfl) (Nat.le_of_ble_eq_true rfl) d_X6_isAtMost_262
              | succ k ih =>
                intro k2 z hk hzz H locs hP hD hS ls hl
                refine lv_iload hx hb d_X6_isAtMost_223 (lv_at hl 0 rfl) ?_
                refine lv_iload hx hb d_X6_isAtMost_225 (lv_at hl 2 rfl) ?_
                refine ln_icmp_ge_f (tgt := 260) hx hb d_X6_isAtMost_227 (by decide) (by omega) (by omega) (by omega) ?_
                refine lv_iload hx hb d_X6_isAtMost_230 (lv_at hl 1 rfl) ?_
                refine ln_if_eq (tgt := 251) hx hb d_X6_isAtMost_232 (by decide) (by omega) (fun c_3 => ?_) (fun c_3 => ?_)
                · refine lv_iconst (v := (nI 0)) hx hb d_X6_isAtMost_251 (by decide) ?_
                  refine lv_istore (lv' := [(10, .int (nI 0)), (11, .int (nI k2)), (5, .int (nI 4)), (0, .ref mo), (1, .long (lN x)), (3, .int (nI 3)), (4, .int (nI pp))]) hx hb d_X6_isAtMost_252 hl (by decide) rfl (fun ls hl => ?_)
                  refine ln_iinc (d := 1) (lv' := [(11, .int (nI (k2 + 1))), (10, .int (nI 0)), (5, .int (nI 4)), (0, .ref mo), (1, .long (lN x)), (3, .int (nI 3)), (4, .int (nI pp))]) hx hb d_X6_isAtMost_254 hl (k := 1) rfl rfl (by decide) rfl (fun ls hl => ?_)
                  refine lv_goto (tgt := 223) hx hb d_X6_isAtMost_257 (by decide) ?_
                  have hz9 : (0 = 1 ∧ ∀ j, j < k2 + 1 → DD j = 0) ∨ (0 = 0 ∧ ∃ j, j < k2 + 1 ∧ ¬ DD j = 0) := by
                    rcases hzz with ⟨h0, _⟩ | ⟨_, j, hj, h0⟩
                    · omega
                    · exact Or.inr ⟨rfl, j, by omega, h0⟩
                  exact ih (k2 + 1) 0 (by omega) hz9 _ _ hP hD hS ls (lv_sub hl [0, 1, 2, 3, 4, 5, 6] rfl)
                · refine lv_aload_n hx hb d_X6_isAtMost_235 rfl (lv_at hl 3 rfl) ?_
                  refine va_get (D := g.2.1) (ci := 6) (v := .ref (ma 29)) (C := R_X6) (T := T_X6) (N := 38) hx hb ht i_X6 hown hK hP 0 rfl rfl 29 (by decide) (ht _ w_697) (fun _ h9 => h9) rfl d_X6_isAtMost_236 ?_
                  refine lv_iload hx hb d_X6_isAtMost_239 (lv_at hl 0 rfl) ?_
                  refine ln_lald hx hb hK hP 1 1 rfl rfl (by omega) (by decide) d_X6_isAtMost_241 ?_
                  refine W.eq (g2 := F0 m 242 ls [.long (lN (DD k2))]) (by rw [hDD k2 (by omega)]) ?_
                  refine lv_lconst (v := lN 0) hx hb d_X6_isAtMost_242 (by decide) ?_
                  have dk := hDb k2
                  refine ln_lcmpN hx hb d_X6_isAtMost_243 (by omega) (by decide) (fun h9 => absurd h9 (Nat.not_lt_zero _)) (fun hd0 => ?_) (fun hd0 => ?_)
                  · refine ln_if_ne_f (tgt := 251) hx hb d_X6_isAtMost_244 (by decide) (by omega) (by omega) ?_
                    refine lv_iconst (v := (nI 1)) hx hb d_X6_isAtMost_247 (by decide) ?_
                    refine lv_goto (tgt := 252) hx hb d_X6_isAtMost_248 (by decide) ?_
                    refine lv_istore (lv' := [(10, .int (nI 1)), (11, .int (nI k2)), (5, .int (nI 4)), (0, .ref mo), (1, .long (lN x)), (3, .int (nI 3)), (4, .int (nI pp))]) hx hb d_X6_isAtMost_252 hl (by decide) rfl (fun ls hl => ?_)
                    refine ln_iinc (d := 1) (lv' := [(11, .int (nI (k2 + 1))), (10, .int (nI 1)), (5, .int (nI 4)), (0, .ref mo), (1, .long (lN x)), (3, .int (nI 3)), (4, .int (nI pp))]) hx hb d_X6_isAtMost_254 hl (k := 1) rfl rfl (by decide) rfl (fun ls hl => ?_)
                    refine lv_goto (tgt := 223) hx hb d_X6_isAtMost_257 (by decide) ?_
                    have hz9 : (1 = 1 ∧ ∀ j, j < k2 + 1 → DD j = 0) ∨ (1 = 0 ∧ ∃ j, j < k2 + 1 ∧ ¬ DD j = 0) := by
                      rcases hzz with ⟨_, h0⟩ | ⟨h0, _⟩
                      · exact Or.inl ⟨rfl, fun j hj => if e : j = k2 then e ▸ hd0 else h0 j (by omega)⟩
                      · omega
                    exact ih (k2 + 1) 1 (by omega) hz9 _ _ hP hD hS ls (lv_sub hl [0, 1, 2, 3, 4, 5, 6] rfl)
                  · refine ln_if_ne_t (tgt := 251) hx hb d_X6_isAtMost_244 (by decide) (by omega) (by omega) ?_
                    refine lv_iconst (v := (nI 0)) hx hb d_X6_isAtMost_251 (by decide) ?_
                    refine lv_istore (lv' := [(10, .int (nI 0)), (11, .int (nI k2)), (5, .int (nI 4)), (0, .ref mo), (1, .long (lN x)), (3, .int (nI 3)), (4, .int (nI pp))]) hx hb d_X6_isAtMost_252 hl (by decide) rfl (fun ls hl => ?_)
                    refine ln_iinc (d := 1) (lv' := [(11, .int (nI (k2 + 1))), (10, .int (nI 0)), (5, .int (nI 4)), (0, .ref mo), (1, .long (lN x)), (3, .int (nI 3)), (4, .int (nI pp))]) hx hb d_X6_isAtMost_254 hl (k := 1) rfl rfl (by decide) rfl (fun ls hl => ?_)
                    refine lv_goto (tgt := 223) hx hb d_X6_isAtMost_257 (by decide) ?_
                    have hz9 : (0 = 1 ∧ ∀ j, j < k2 + 1 → DD j = 0) ∨ (0 = 0 ∧ ∃ j, j < k2 + 1 ∧ ¬ DD j = 0) := Or.inr ⟨rfl, k2, by omega, by omega⟩
                    exact ih (k2 + 1) 0 (by omega) hz9 _ _ hP hD hS ls (lv_sub hl [0, 1, 2, 3, 4, 5, 6] rfl)
            exact lpn 4 0 1 (by omega) (Or.inl ⟨rfl, fun j h => absurd h (Nat.not_lt_zero j)⟩) _ _ hP hD hS ls (lv_sub hl [0, 1, 4, 5, 6, 7, 8] rfl)
          · refine ln_if_eq_f (tgt := 217) hx hb d_X6_isAtMost_200 (by decide) (by omega) (by decide) ?_
            refine lv_lload hx hb d_X6_isAtMost_203 (lv_at hl 0 rfl) ?_
            refine lv_lload hx hb d_X6_isAtMost_205 (lv_at hl 1 rfl) ?_
            refine ln_lcmpN hx hb d_X6_isAtMost_207 (by omega) (by omega) (fun h9 => absurd h9 (by omega)) (fun h9 => absurd h9 (by omega)) (fun _ => ?_)
            refine ln_if_ge (tgt := 215) hx hb d_X6_isAtMost_208 (by decide) (by omega) (fun _ => ?_)
            refine lv_iconst (v := (nI 0)) hx hb d_X6_isAtMost_215 (by decide) ?_
            have e0 : 0 = (if x ^ 3 ≤ pp * 2 ^ 96 then 1 else 0) := (if_neg (by rw [hV, hpe]; exact ab_gt (Nat.pow_pos (by decide)) hgt)).symm
            exact g_zret (v := nI 0) hx hb hr hlocks hP hD hS fo (List.Perm.refl _) (by decide) (congrArg (fun t => some (Value.int (nI t))) e0) (Nat.le_of_ble_eq_true rfl) (Nat.le_of_ble_eq_true rfl) d_X6_isAtMost_216
        | succ k ih =>
          intro i fo DD hk hDD hDb hVD H locs hP hD hS ls hl
          refine lv_iload hx hb d_X6_isAtMost_34 (lv_at hl 0 rfl) ?_
          refine lv_iload_n hx hb d_X6_isAtMost_36 rfl (lv_at hl 3 rfl) ?_
          refine ln_icmp_ge_f (tgt := 131) hx hb d_X6_isAtMost_37 (by decide) (by omega) (by omega) (by omega) ?_
          refine lv_lload_n hx hb d_X6_isAtMost_40 rfl (lv_at hl 2 rfl) ?_
          refine lv_ldc2 (v := 1048575) hx hb hown (ht _ w_667) d_X6_isAtMost_41 ?_
          refine lv_land hx hb d_X6_isAtMost_44 ?_
          refine W.eq (g2 := F0 m 45 ls [.long (lN (x % 1048576))]) (by rw [show lN x &&& 1048575 = lN (x % 1048576) from g_mask (s := 20) (p := 1048576) rfl (by decide) (by omega)]) ?_
          refine lv_lstore (lv' := [(6, .long (lN (x % 1048576))), (5, .int (nI i)), (0, .ref mo), (1, .long (lN x)), (3, .int (nI 3)), (4, .int (nI pp))]) hx hb d_X6_isAtMost_45 hl (by decide) rfl (fun ls hl => ?_)
          refine lv_lload_n hx hb d_X6_isAtMost_47 rfl (lv_at hl 3 rfl) ?_
          refine lv_bipush (v := (nI 20)) hx hb d_X6_isAtMost_48 (by decide) ?_
          refine lv_lshr (v := lN (x / 1048576)) hx hb d_X6_isAtMost_50 (sL_20 (by omega)) ?_
          refine lv_lstore (lv' := [(8, .long (lN (x / 1048576))), (6, .long (lN (x % 1048576))), (5, .int (nI i)), (0, .ref mo), (1, .long (lN x)), (3, .int (nI 3)), (4, .int (nI pp))]) hx hb d_X6_isAtMost_51 hl (by decide) rfl (fun ls hl => ?_)
          refine lv_lconst (v := lN 0) hx hb d_X6_isAtMost_53 (by decide) ?_
          refine W.eq (g2 := F0 m 54 ls [.long (lN (s1 DD 0))]) (rfl) ?_
          refine lv_lstore (lv' := [(10, .long (lN (s1 DD 0))), (8, .long (lN (x / 1048576))), (6, .long (lN (x % 1048576))), (5, .int (nI i)), (0, .ref mo), (1, .long (lN x)), (3, .int (nI 3)), (4, .int (nI pp))]) hx hb d_X6_isAtMost_54 hl (by decide) rfl (fun ls hl => ?_)
          refine lv_lconst (v := lN 0) hx hb d_X6_isAtMost_56 (by decide) ?_
          refine lv_lstore (lv' := [(12, .long (lN 0)), (10, .long (lN (s1 DD 0))), (8, .long (lN (x / 1048576))), (6, .long (lN (x % 1048576))), (5, .int (nI i)), (0, .ref mo), (1, .long (lN x)), (3, .int (nI 3)), (4, .int (nI pp))]) hx hb d_X6_isAtMost_57 hl (by decide) rfl (fun ls hl => ?_)
          refine lv_iconst (v := (nI 0)) hx hb d_X6_isAtMost_59 (by decide) ?_
          refine lv_istore (lv' := [(14, .int (nI 0)), (12, .long (lN 0)), (10, .long (lN (s1 DD 0))), (8, .long (lN (x / 1048576))), (6, .long (lN (x % 1048576))), (5, .int (nI i)), (0, .ref mo), (1, .long (lN x)), (3, .int (nI 3)), (4, .int (nI pp))]) hx hb d_X6_isAtMost_60 hl (by decide) rfl (fun ls hl => ?_)
          have lpi : ∀ (k : Nat) (k1 : Nat) (fe : Nat → Int64) (EE : Nat → Nat) (cy : Nat) (hk : k1 + k = 8) (hEE : ∀ j, j < 8 → fe j = lN (EE j)) (hEb : ∀ j, EE j < 1048576) (hEk : ∀ j, k1 ≤ j → EE j = DD j) (hcy : cy < 2097152) (hv : VN EE k1 + cy * 1048576 ^ k1 = VN DD k1 * (x % 1048576) + VN (s1 DD) k1 * (x / 1048576)) (H : Heap) (locs : List Loc) (hP : va_P g.2.1 cls7 [(mo, .inr (6, .int (nI th) :: .ref (ma 1) :: .int (nI tp) :: .ref (ma 3) :: .ref (ma 4) :: .ref (ma 5) :: .ref (ma 6) :: .ref (ma 7) :: .ref (ma 8) :: .ref (ma 9) :: .ref (ma 10) :: .ref (ma 11) :: .ref (ma 12) :: .ref (ma 13) :: .ref (ma 14) :: .ref (ma 15) :: .ref (ma 16) :: .ref (ma 17) :: .ref (ma 18) :: .ref (ma 19) :: .ref (ma 20) :: .ref (ma 21) :: .ref (ma 22) :: .ref (ma 23) :: .ref (ma 24) :: .ref (ma 25) :: .ref (ma 26) :: .ref (ma 27) :: .ref (ma 28) :: .ref (ma 29) :: .ref (ma 30) :: .ref (ma 31) :: .ref (ma 32) :: .int (nI sz) :: .ref (ma 34) :: .ref (ma 35) :: .ref (ma 36) :: .ref (ma 37) :: [])), (ma 29, .inl (cJ g, 8, .inr (.inl fe)))] H) (hD : va_D A [(mo, .inr (6, .int (nI th) :: .ref (ma 1) :: .int (nI tp) :: .ref (ma 3) :: .ref (ma 4) :: .ref (ma 5) :: .ref (ma 6) :: .ref (ma 7) :: .ref (ma 8) :: .ref (ma 9) :: .ref (ma 10) :: .ref (ma 11) :: .ref (ma 12) :: .ref (ma 13) :: .ref (ma 14) :: .ref (ma 15) :: .ref (ma 16) :: .ref (ma 17) :: .ref (ma 18) :: .ref (ma 19) :: .ref (ma 20) :: .ref (ma 21) :: .ref (ma 22) :: .ref (ma 23) :: .ref (ma 24) :: .ref (ma 25) :: .ref (ma 26) :: .ref (ma 27) :: .ref (ma 28) :: .ref (ma 29) :: .ref (ma 30) :: .ref (ma 31) :: .ref (ma 32) :: .int (nI sz) :: .ref (ma 34) :: .ref (ma 35) :: .ref (ma 36) :: .ref (ma 37) :: [])), (ma 29, .inl (cJ g, 8, .inr (.inl fe)))]) (hS : va_S A s.heap H locs) (ls : Array Slot) (hl : lv_has ls 17 [(14, .int (nI k1)), (12, .long (lN cy)), (10, .long (lN (s1 DD k1))), (8, .long (lN (x / 1048576))), (6, .long (lN (x % 1048576))), (5, .int (nI i)), (0, .ref mo), (1, .long (lN x)), (3, .int (nI 3)), (4, .int (nI pp))]), W p g.1 e ({ frames := 0, cells := 0, slots := 0, locals := 0 } : Room) s m [.ref mo, .long (lN x), .int (nI 3), .int (nI pp)].toArray below meth c H locs 0 0 (MQ below (gQ g.2.1 cls7 (S := Nat → Int64) (fun (v : Option Value) (u : Nat → Int64) => v = some (.int (nI (if x ^ 3 ≤ pp * 2 ^ 96 then 1 else 0)))) (fun (u : Nat → Int64) => [(mo, .inr (6, .int (nI th) :: .ref (ma 1) :: .int (nI tp) :: .ref (ma 3) :: .ref (ma 4) :: .ref (ma 5) :: .ref (ma 6) :: .ref (ma 7) :: .ref (ma 8) :: .ref (ma 9) :: .ref (ma 10) :: .ref (ma 11) :: .ref (ma 12) :: .ref (ma 13) :: .ref (ma 14) :: .ref (ma 15) :: .ref (ma 16) :: .ref (ma 17) :: .ref (ma 18) :: .ref (ma 19) :: .ref (ma 20) :: .ref (ma 21) :: .ref (ma 22) :: .ref (ma 23) :: .ref (ma 24) :: .ref (ma 25) :: .ref (ma 26) :: .ref (ma 27) :: .ref (ma 28) :: .ref (ma 29) :: .ref (ma 30) :: .ref (ma 31) :: .ref (ma 32) :: .int (nI sz) :: .ref (ma 34) :: .ref (ma 35) :: .ref (ma 36) :: .ref (ma 37) :: [])), (ma 29, .inl (cJ g, 8, .inr (.inl u)))]) A) [.ref mo, .long (lN x), .int (nI 3), .int (nI pp)].toArray s ({ frames := 0, cells := 0, slots := 0, locals := 0 } : Room).cells ({ frames := 0, cells := 0, slots := 0, locals := 0 } : Room).slots A) (F0 m 62 ls []) := by
            intro k
            induction k with
            | zero =>
              intro k1 fe EE cy hk hEE hEb hEk hcy hv H locs hP hD hS ls hl
              refine lv_iload hx hb d_X6_isAtMost_62 (lv_at hl 0 rfl) ?_
              refine lv_bipush (v := (nI 8)) hx hb d_X6_isAtMost_64 (by decide) ?_
              refine ln_icmp_ge_t (tgt := 125) hx hb d_X6_isAtMost_66 (by decide) (by omega) (by omega) (by omega) ?_
              refine ln_iinc (d := 1) (lv' := [(5, .int (nI (i + 1))), (14, .int (nI k1)), (12, .long (lN cy)), (10, .long (lN (s1 DD k1))), (8, .long (lN (x / 1048576))), (6, .long (lN (x % 1048576))), (0, .ref mo), (1, .long (lN x)), (3, .int (nI 3)), (4, .int (nI pp))]) hx hb d_X6_isAtMost_125 hl (k := 5) rfl rfl (by decide) rfl (fun ls hl => ?_)
              refine lv_goto (tgt := 34) hx hb d_X6_isAtMost_128 (by decide) ?_
              have hxi : x ^ i * x < 1048576 ^ 8 := xi8 hx36 (by omega)
              have hVE : VN EE 8 = x ^ (i + 1) := by
                obtain rfl : k1 = 8 := by omega
                have h9 := VN_end (k := 7) (x := x) hv (by omega) (by rw [hVD]; exact xi7 hx36 (by omega)) (by rw [hVD]; exact hxi)
                rw [Nat.pow_succ, ← hVD]
                exact h9
              exact ih (i + 1) fe EE (by omega) hEE hEb hVE _ _ hP hD hS ls (lv_sub hl [0, 6, 7, 8, 9] rfl)
            | succ k ih =>
              intro k1 fe EE cy hk hEE hEb hEk hcy hv H locs hP hD hS ls hl
              refine lv_iload hx hb d_X6_isAtMost_62 (lv_at hl 0 rfl) ?_
              refine lv_bipush (v := (nI 8)) hx hb d_X6_isAtMost_64 (by decide) ?_
              refine ln_icmp_ge_f (tgt := 125) hx hb d_X6_isAtMost_66 (by decide) (by omega) (by omega) (by omega) ?_
              refine lv_aload_n hx hb d_X6_isAtMost_69 rfl (lv_at hl 6 rfl) ?_
              refine va_get (D := g.2.1) (ci := 6) (v := .ref (ma 29)) (C := R_X6) (T := T_X6) (N := 38) hx hb ht i_X6 hown hK hP 0 rfl rfl 29 (by decide) (ht _ w_697) (fun _ h9 => h9) rfl d_X6_isAtMost_70 ?_
              refine lv_iload hx hb d_X6_isAtMost_73 (lv_at hl 0 rfl) ?_
              refine ln_lald hx hb hK hP 1 1 rfl rfl (by omega) (by decide) d_X6_isAtMost_75 ?_
              refine W.eq (g2 := F0 m 76 ls [.long (lN (DD k1))]) (by rw [hEE k1 (by omega), hEk k1 (by omega)]) ?_
              refine lv_lload hx hb d_X6_isAtMost_76 (lv_at hl 4 rfl) ?_
              refine lv_lmul hx hb d_X6_isAtMost_78 ?_
              refine W.eq (g2 := F0 m 79 ls [.long (lN ((DD k1) * (x % 1048576)))]) (by rw [lq_mul]) ?_
              refine lv_lload hx hb d_X6_isAtMost_79 (lv_at hl 2 rfl) ?_
              refine lv_lload hx hb d_X6_isAtMost_81 (lv_at hl 3 rfl) ?_
              refine lv_lmul hx hb d_X6_isAtMost_83 ?_
              refine W.eq (g2 := F0 m 84 ls [.long (lN ((s1 DD k1) * (x / 1048576))), .long (lN ((DD k1) * (x % 1048576)))]) (by rw [lq_mul]) ?_
              refine lv_ladd hx hb d_X6_isAtMost_84 ?_
              refine W.eq (g2 := F0 m 85 ls [.long (lN (((DD k1) * (x % 1048576)) + ((s1 DD k1) * (x / 1048576))))]) (by rw [lq_add]) ?_
              refine lv_lload hx hb d_X6_isAtMost_85 (lv_at hl 1 rfl) ?_
              refine lv_ladd hx hb d_X6_isAtMost_87 ?_
              refine W.eq (g2 := F0 m 88 ls [.long (lN ((((DD k1) * (x % 1048576)) + ((s1 DD k1) * (x / 1048576))) + cy))]) (by rw [lq_add]) ?_
              have b1 : DD k1 * (x % 1048576) ≤ 1048575 * 1048575 := Nat.mul_le_mul (Nat.le_of_lt_succ (hDb k1)) (by omega)
              have b2 : s1 DD k1 * (x / 1048576) ≤ 1048575 * 65535 := Nat.mul_le_mul (s1_le hDb k1) (by omega)
              obtain ⟨v_4, ev_4⟩ : ∃ y : Nat, y = (((DD k1) * (x % 1048576)) + ((s1 DD k1) * (x / 1048576))) + cy := ⟨_, rfl⟩
              refine W.eq (g2 := F0 m 88 ls [.long (lN v_4)]) (by rw [ev_4]) ?_
              refine lv_lstore (lv' := [(15, .long (lN v_4)), (14, .int (nI k1)), (12, .long (lN cy)), (10, .long (lN (s1 DD k1))), (8, .long (lN (x / 1048576))), (6, .long (lN (x % 1048576))), (5, .int (nI i)), (0, .ref mo), (1, .long (lN x)), (3, .int (nI 3)), (4, .int (nI pp))]) hx hb d_X6_isAtMost_88 hl (by decide) rfl (fun ls hl => ?_)
              refine lv_aload_n hx hb d_X6_isAtMost_90 rfl (lv_at hl 7 rfl) ?_
              refine va_get (D := g.2.1) (ci := 6) (v := .ref (ma 29)) (C := R_X6) (T := T_X6) (N := 38) hx hb ht i_X6 hown hK hP 0 rfl rfl 29 (by decide) (ht _ w_697) (fun _ h9 => h9) rfl d_X6_isAtMost_91 ?_
              refine lv_iload hx hb d_X6_isAtMost_94 (lv_at hl 1 rfl) ?_
              refine ln_lald hx hb hK hP 1 1 rfl rfl (by omega) (by decide) d_X6_isAtMost_96 ?_
              refine W.eq (g2 := F0 m 97 ls [.long (lN (DD k1))]) (by rw [hEE k1 (by omega), hEk k1 (by omega)]) ?_
              refine W.eq (g2 := F0 m 97 ls [.long (lN (s1 DD (k1 + 1)))]) (rfl) ?_
              refine lv_lstore (lv' := [(10, .long (lN (s1 DD (k1 + 1)))), (15, .long (lN v_4)), (14, .int (nI k1)), (12, .long (lN cy)), (8, .long (lN (x / 1048576))), (6, .long (lN (x % 1048576))), (5, .int (nI i)), (0, .ref mo), (1, .long (lN x)), (3, .int (nI 3)), (4, .int (nI pp))]) hx hb d_X6_isAtMost_97 hl (by decide) rfl (fun ls hl => ?_)
              refine lv_aload_n hx hb d_X6_isAtMost_99 rfl (lv_at hl 7 rfl) ?_
              refine va_get (D := g.2.1) (ci := 6) (v := .ref (ma 29)) (C := R_X6) (T := T_X6) (N := 38) hx hb ht i_X6 hown hK hP 0 rfl rfl 29 (by decide) (ht _ w_697) (fun _ h9 => h9) rfl d_X6_isAtMost_100 ?_
              refine lv_iload hx hb d_X6_isAtMost_103 (lv_at hl 2 rfl) ?_
              refine lv_lload hx hb d_X6_isAtMost_105 (lv_at hl 1 rfl) ?_
              refine lv_ldc2 (v := 1048575) hx hb hown (ht _ w_667) d_X6_isAtMost_107 ?_
              refine lv_land hx hb d_X6_isAtMost_110 ?_
              refine W.eq (g2 := F0 m 111 ls [.long (lN (v_4 % 1048576)), .int (nI k1), .ref (ma 29)]) (by rw [show lN v_4 &&& 1048575 = lN (v_4 % 1048576) from g_mask (s := 20) (p := 1048576) rfl (by decide) (by omega)]) ?_
              refine ln_last hx hb hK hP hD hS 1 1 rfl rfl (by omega) (by decide) d_X6_isAtMost_111 (fun H locs hP hD hS => ?_)
              have hP : va_P g.2.1 cls7 [(mo, .inr (6, .int (nI th) :: .ref (ma 1) :: .int (nI tp) :: .ref (ma 3) :: .ref (ma 4) :: .ref (ma 5) :: .ref (ma 6) :: .ref (ma 7) :: .ref (ma 8) :: .ref (ma 9) :: .ref (ma 10) :: .ref (ma 11) :: .ref (ma 12) :: .ref (ma 13) :: .ref (ma 14) :: .ref (ma 15) :: .ref (ma 16) :: .ref (ma 17) :: .ref (ma 18) :: .ref (ma 19) :: .ref (ma 20) :: .ref (ma 21) :: .ref (ma 22) :: .ref (ma 23) :: .ref (ma 24) :: .ref (ma 25) :: .ref (ma 26) :: .ref (ma 27) :: .ref (ma 28) :: .ref (ma 29) :: .ref (ma 30) :: .ref (ma 31) :: .ref (ma 32) :: .int (nI sz) :: .ref (ma 34) :: .ref (ma 35) :: .ref (ma 36) :: .ref (ma 37) :: [])), (ma 29, .inl (cJ g, 8, .inr (.inl (vp_updL fe k1 (lN (v_4 % 1048576))))))] H := hP
              have hD : va_D A [(mo, .inr (6, .int (nI th) :: .ref (ma 1) :: .int (nI tp) :: .ref (ma 3) :: .ref (ma 4) :: .ref (ma 5) :: .ref (ma 6) :: .ref (ma 7) :: .ref (ma 8) :: .ref (ma 9) :: .ref (ma 10) :: .ref (ma 11) :: .ref (ma 12) :: .ref (ma 13) :: .ref (ma 14) :: .ref (ma 15) :: .ref (ma 16) :: .ref (ma 17) :: .ref (ma 18) :: .ref (ma 19) :: .ref (ma 20) :: .ref (ma 21) :: .ref (ma 22) :: .ref (ma 23) :: .ref (ma 24) :: .ref (ma 25) :: .ref (ma 26) :: .ref (ma 27) :: .ref (ma 28) :: .ref (ma 29) :: .ref (ma 30) :: .ref (ma 31) :: .ref (ma 32) :: .int (nI sz) :: .ref (ma 34) :: .ref (ma 35) :: .ref (ma 36) :: .ref (ma 37) :: [])), (ma 29, .inl (cJ g, 8, .inr (.inl (vp_updL fe k1 (lN (v_4 % 1048576))))))] := hD
              refine lv_lload hx hb d_X6_isAtMost_112 (lv_at hl 1 rfl) ?_
              refine lv_bipush (v := (nI 20)) hx hb d_X6_isAtMost_114 (by decide) ?_
              refine lv_lshr (v := lN (v_4 / 1048576)) hx hb d_X6_isAtMost_116 (sL_20 (by omega)) ?_
              refine lv_lstore (lv' := [(12, .long (lN (v_4 / 1048576))), (10, .long (lN (s1 DD (k1 + 1)))), (15, .long (lN v_4)), (14, .int (nI k1)), (8, .long (lN (x / 1048576))), (6, .long (lN (x % 1048576))), (5, .int (nI i)), (0, .ref mo), (1, .long (lN x)), (3, .int (nI 3)), (4, .int (nI pp))]) hx hb d_X6_isAtMost_117 hl (by decide) rfl (fun ls hl => ?_)
              refine ln_iinc (d := 1) (lv' := [(14, .int (nI (k1 + 1))), (12, .long (lN (v_4 / 1048576))), (10, .long (lN (s1 DD (k1 + 1)))), (15, .long (lN v_4)), (8, .long (lN (x / 1048576))), (6, .long (lN (x % 1048576))), (5, .int (nI i)), (0, .ref mo), (1, .long (lN x)), (3, .int (nI 3)), (4, .int (nI pp))]) hx hb d_X6_isAtMost_119 hl (k := 3) rfl rfl (by decide) rfl (fun ls hl => ?_)
              refine lv_goto (tgt := 62) hx hb d_X6_isAtMost_122 (by decide) ?_
              have hv2 := VN_step hv ev_4
              have hE2 : ∀ j, j < 8 → (vp_updL fe k1 (lN (v_4 % 1048576))) j = lN (upn EE k1 (v_4 % 1048576) j) := fun j hj => if e : j = k1 then by subst e; rw [upn_s]; exact vl_us _ _ _ else by rw [upn_n _ _ e]; exact (vl_un _ _ e).trans (hEE j hj)
              have hE3 : ∀ j, upn EE k1 (v_4 % 1048576) j < 1048576 := fun j => if e : j = k1 then by subst e; rw [upn_s]; exact Nat.mod_lt _ (by decide) else by rw [upn_n _ _ e]; exact hEb j
              have hE4 : ∀ j, k1 + 1 ≤ j → upn EE k1 (v_4 % 1048576) j = DD j := fun j hj => (upn_n _ _ (by omega)).trans (hEk j (by omega))
              exact ih (k1 + 1) (vp_updL fe k1 (lN (v_4 % 1048576))) (upn EE k1 (v_4 % 1048576)) (v_4 / 1048576) (by omega) hE2 hE3 hE4 (by omega) hv2 _ _ hP hD hS ls (lv_sub hl [0, 1, 2, 4, 5, 6, 7, 8, 9, 10] rfl)
          exact lpi 8 0 fo DD 0 (by omega) hDD hDb (fun _ _ => rfl) (by decide) (VN_00 _ _ _ _ _) _ _ hP hD hS ls (lv_sub hl [0, 1, 2, 3, 4, 5, 6, 7, 8, 9] rfl)
      exact lpo 3 0 (vp_updL fy 0 (lN 1)) (fun q => if q = 0 then 1 else 0) (by omega) hD1 one_lt20 one_VN _ _ hP hD hS ls (lv_sub hl [0, 1, 2, 3, 4] rfl)
    | succ k ih =>
      intro k0 fy hk hz H locs hP hD hS ls hl
      refine lv_iload hx hb d_X6_isAtMost_3 (lv_at hl 0 rfl) ?_
      refine lv_bipush (v := (nI 8)) hx hb d_X6_isAtMost_5 (by decide) ?_
      refine ln_icmp_ge_f (tgt := 24) hx hb d_X6_isAtMost_7 (by decide) (by omega) (by omega) (by omega) ?_
      refine lv_aload_n hx hb d_X6_isAtMost_10 rfl (lv_at hl 1 rfl) ?_
      refine va_get (D := g.2.1) (ci := 6) (v := .ref (ma 29)) (C := R_X6) (T := T_X6) (N := 38) hx hb ht i_X6 hown hK hP 0 rfl rfl 29 (by decide) (ht _ w_697) (fun _ h9 => h9) rfl d_X6_isAtMost_11 ?_
      refine lv_iload hx hb d_X6_isAtMost_14 (lv_at hl 0 rfl) ?_
      refine lv_lconst (v := lN 0) hx hb d_X6_isAtMost_16 (by decide) ?_
      refine ln_last hx hb hK hP hD hS 1 1 rfl rfl (by omega) (by decide) d_X6_isAtMost_17 (fun H locs hP hD hS => ?_)
      have hP : va_P g.2.1 cls7 [(mo, .inr (6, .int (nI th) :: .ref (ma 1) :: .int (nI tp) :: .ref (ma 3) :: .ref (ma 4) :: .ref (ma 5) :: .ref (ma 6) :: .ref (ma 7) :: .ref (ma 8) :: .ref (ma 9) :: .ref (ma 10) :: .ref (ma 11) :: .ref (ma 12) :: .ref (ma 13) :: .ref (ma 14) :: .ref (ma 15) :: .ref (ma 16) :: .ref (ma 17) :: .ref (ma 18) :: .ref (ma 19) :: .ref (ma 20) :: .ref (ma 21) :: .ref (ma 22) :: .ref (ma 23) :: .ref (ma 24) :: .ref (ma 25) :: .ref (ma 26) :: .ref (ma 27) :: .ref (ma 28) :: .ref (ma 29) :: .ref (ma 30) :: .ref (ma 31) :: .ref (ma 32) :: .int (nI sz) :: .ref (ma 34) :: .ref (ma 35) :: .ref (ma 36) :: .ref (ma 37) :: [])), (ma 29, .inl (cJ g, 8, .inr (.inl (vp_updL fy k0 (lN 0)))))] H := hP
      have hD : va_D A [(mo, .inr (6, .int (nI th) :: .ref (ma 1) :: .int (nI tp) :: .ref (ma 3) :: .ref (ma 4) :: .ref (ma 5) :: .ref (ma 6) :: .ref (ma 7) :: .ref (ma 8) :: .ref (ma 9) :: .ref (ma 10) :: .ref (ma 11) :: .ref (ma 12) :: .ref (ma 13) :: .ref (ma 14) :: .ref (ma 15) :: .ref (ma 16) :: .ref (ma 17) :: .ref (ma 18) :: .ref (ma 19) :: .ref (ma 20) :: .ref (ma 21) :: .ref (ma 22) :: .ref (ma 23) :: .ref (ma 24) :: .ref (ma 25) :: .ref (ma 26) :: .ref (ma 27) :: .ref (ma 28) :: .ref (ma 29) :: .ref (ma 30) :: .ref (ma 31) :: .ref (ma 32) :: .int (nI sz) :: .ref (ma 34) :: .ref (ma 35) :: .ref (ma 36) :: .ref (ma 37) :: [])), (ma 29, .inl (cJ g, 8, .inr (.inl (vp_updL fy k0 (lN 0)))))] := hD
      refine ln_iinc (d := 1) (lv' := [(5, .int (nI (k0 + 1))), (0, .ref mo), (1, .long (lN x)), (3, .int (nI 3)), (4, .int (nI pp))]) hx hb d_X6_isAtMost_18 hl (k := 0) rfl rfl (by decide) rfl (fun ls hl => ?_)
      refine lv_goto (tgt := 3) hx hb d_X6_isAtMost_21 (by decide) ?_
      have hz2 : ∀ i, i < k0 + 1 → (vp_updL fy k0 (lN 0)) i = lN 0 := fun i hi => if e : i = k0 then e ▸ vl_us _ _ _ else (vl_un _ _ e).trans (hz i (by omega))
      exact ih (k0 + 1) (vp_updL fy k0 (lN 0)) (by omega) hz2 _ _ hP hD hS ls (lv_sub hl [0, 1, 2, 3, 4] rfl)
  exact lpz 8 0 f (by omega) (fun i h => absurd h (Nat.not_lt_zero i)) _ _ hP hD hS ls (lv_sub hl [0, 1, 2, 3, 4] rfl)
