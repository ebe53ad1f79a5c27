/-! ROWS FOR THE REFERENCE: rests and quotients, boolean and long arrays, long compares -/
def sL (x : Int64) (k : Int32) : Int64 := x >>> (k.toInt64 &&& 63)
def lL (x : Int64) (k : Int32) : Int64 := x <<< (k.toInt64 &&& 63)
section GMR
variable {p : Program} {l : Launch} {e : Env} {R : Room} {s : State} {m : MethodId} {args : Array Value} {below : List Frame} {meth : Method} {c : Code} {H H0 : Heap} {locs : List Loc} {cells slots : Nat} {Q : State → Prop}
variable {cc : ByteArray} {pc : Nat} {ls : Array Slot} {rest : List Value} {A : Nat → Prop} {D : va_G} {cl : List vw_C} {tys : List (ClassId × FieldType)} {ws : va_W} {a : Nat}
theorem ln_irem (hx : p.tables.exec = Jvm.exec) (hb : c.code = cc) {x y : Nat} (hdg : decode cc pc = .ok (.irem, 1)) (hx2 : x < 2 ^ 31) (h0 : 0 < y) (hy : y < 2 ^ 31)
    (k : W p l e R s m args below meth c H locs cells slots Q (F0 m (pc + 1) ls (.int (nI (x % y)) :: rest))) : W p l e R s m args below meth c H locs cells slots Q (F0 m pc ls (.int (nI y) :: .int (nI x) :: rest)) :=
  lv_irem hx hb hdg (nI_ne0 h0 hy) (by rw [pk_rem hx2 h0 hy]; exact k)
theorem ln_idiv (hx : p.tables.exec = Jvm.exec) (hb : c.code = cc) {x y : Nat} (hdg : decode cc pc = .ok (.idiv, 1)) (hx2 : x < 2 ^ 31) (h0 : 0 < y) (hy : y < 2 ^ 31)
    (k : W p l e R s m args below meth c H locs cells slots Q (F0 m (pc + 1) ls (.int (nI (x / y)) :: rest))) : W p l e R s m args below meth c H locs cells slots Q (F0 m pc ls (.int (nI y) :: .int (nI x) :: rest)) :=
  lv_idiv hx hb hdg (nI_ne0 h0 hy) (by rw [pk_div hx2 h0 hy]; exact k)
theorem ln_lcmp (hx : p.tables.exec = Jvm.exec) (hb : c.code = cc) {x y : Int64} (hdg : decode cc pc = .ok (.lcmp, 1))
    (k : W p l e R s m args below meth c H locs cells slots Q (F0 m (pc + 1) ls (.int (if y < x then 1 else if x = y then 0 else -1) :: rest))) : W p l e R s m args below meth c H locs cells slots Q (F0 m pc ls (.long y :: .long x :: rest)) := by
  intro T hT X
  obtain ⟨t, a, b⟩ := k T hT X
  refine ⟨t, ?_, b⟩
  jvm_step X.here [X.here.top, hx, hb, hdg]
  by_cases h1 : y < x
  · rw [if_pos h1] at a ⊢
    exact a
  · rw [if_neg h1] at a ⊢
    by_cases h2 : x = y
    · rw [if_pos h2] at a ⊢
      exact a
    · rw [if_neg h2] at a ⊢
      exact a
theorem ln_zald (hx : p.tables.exec = Jvm.exec) (hb : c.code = cc) (hK : va_K D cl tys s) (hP : va_P D cl ws H) (q0 t0 : Nat) {cA : ClassId} {n : Nat} {f : Nat → Int32} (ha : ws[q0]? = some (a, .inl (cA, n, .inl f))) (ht : tys[t0]? = some (cA, .boolean)) {k : Nat} (hk : k < n) (hn : n < 2 ^ 31) (hdg : decode cc pc = .ok (.baload, 1))
    (kk : W p l e R s m args below meth c H locs cells slots Q (F0 m (pc + 1) ls (.int (f k) :: rest))) : W p l e R s m args below meth c H locs cells slots Q (F0 m pc ls (.int (nI k) :: .ref a :: rest)) :=
  va_zald hx hb hK hP q0 t0 ha ht (vp_in_nI hk hn) hdg (by rw [nI_clamp (by omega)]; exact kk)
theorem ln_zast1 (hx : p.tables.exec = Jvm.exec) (hb : c.code = cc) (hK : va_K D cl tys s) (hP : va_P D cl ws H) (hD : va_D A ws) (hS : va_S A H0 H locs) (q0 t0 : Nat) {cA : ClassId} {n : Nat} {f : Nat → Int32} (ha : ws[q0]? = some (a, .inl (cA, n, .inl f))) (ht : tys[t0]? = some (cA, .boolean)) {k : Nat} (hk : k < n) (hn : n < 2 ^ 31) (hdg : decode cc pc = .ok (.bastore, 1))
    (kk : ∀ (H1 : Heap) (locs1 : List Loc), va_P D cl (ws.set q0 (a, .inl (cA, n, .inl (upd f k (nI 1))))) H1 → va_D A (ws.set q0 (a, .inl (cA, n, .inl (upd f k (nI 1))))) → va_S A H0 H1 locs1 → W p l e R s m args below meth c H1 locs1 cells slots Q (F0 m (pc + 1) ls rest)) : W p l e R s m args below meth c H locs cells slots Q (F0 m pc ls (.int (nI 1) :: .int (nI k) :: .ref a :: rest)) :=
  va_zast hx hb hK hP hD hS q0 t0 ha ht (vp_in_nI hk hn) hdg (by rw [nI_clamp (by omega), show vp_nar .boolean (nI 1) = nI 1 by decide]; exact kk)
theorem ln_lald (hx : p.tables.exec = Jvm.exec) (hb : c.code = cc) (hK : va_K D cl tys s) (hP : va_P D cl ws H) (q0 t0 : Nat) {cA : ClassId} {n : Nat} {f : Nat → Int64} (ha : ws[q0]? = some (a, .inl (cA, n, .inr (.inl f)))) (ht : tys[t0]? = some (cA, .long)) {k : Nat} (hk : k < n) (hn : n < 2 ^ 31) (hdg : decode cc pc = .ok (.laload, 1))
    (kk : W p l e R s m args below meth c H locs cells slots Q (F0 m (pc + 1) ls (.long (f k) :: rest))) : W p l e R s m args below meth c H locs cells slots Q (F0 m pc ls (.int (nI k) :: .ref a :: rest)) :=
  va_lald hx hb hK hP q0 t0 ha ht (vp_in_nI hk hn) hdg (by rw [nI_clamp (by omega)]; exact kk)
theorem ln_last (hx : p.tables.exec = Jvm.exec) (hb : c.code = cc) (hK : va_K D cl tys s) (hP : va_P D cl ws H) (hD : va_D A ws) (hS : va_S A H0 H locs) (q0 t0 : Nat) {cA : ClassId} {n : Nat} {f : Nat → Int64} (ha : ws[q0]? = some (a, .inl (cA, n, .inr (.inl f)))) (ht : tys[t0]? = some (cA, .long)) {k : Nat} {x : Int64} (hk : k < n) (hn : n < 2 ^ 31) (hdg : decode cc pc = .ok (.lastore, 1))
    (kk : ∀ (H1 : Heap) (locs1 : List Loc), va_P D cl (ws.set q0 (a, .inl (cA, n, .inr (.inl (vp_updL f k x))))) H1 → va_D A (ws.set q0 (a, .inl (cA, n, .inr (.inl (vp_updL f k x))))) → va_S A H0 H1 locs1 → W p l e R s m args below meth c H1 locs1 cells slots Q (F0 m (pc + 1) ls rest)) : W p l e R s m args below meth c H locs cells slots Q (F0 m pc ls (.long x :: .int (nI k) :: .ref a :: rest)) :=
  va_last hx hb hK hP hD hS q0 t0 ha ht (vp_in_nI hk hn) hdg (by rw [nI_clamp (by omega)]; exact kk)
end GMR
theorem ch_or (e f g : Int32) : (e &&& f) ||| ((e ^^^ (-1)) &&& g) = (e &&& f) ^^^ ((e ^^^ (-1)) &&& g) := by
  apply Int32.toBitVec_inj.mp
  show (e.toBitVec &&& f.toBitVec) ||| ((e.toBitVec ^^^ (-1 : Int32).toBitVec) &&& g.toBitVec) = (e.toBitVec &&& f.toBitVec) ^^^ ((e.toBitVec ^^^ (-1 : Int32).toBitVec) &&& g.toBitVec)
  have h1 : (-1 : Int32).toBitVec = BitVec.allOnes 32 := by decide
  rw [h1]
  apply BitVec.eq_of_getLsbD_eq
  intro i hi
  simp only [BitVec.getLsbD_or, BitVec.getLsbD_xor, BitVec.getLsbD_and, BitVec.getLsbD_allOnes, hi, decide_true]
  cases e.toBitVec.getLsbD i <;> cases f.toBitVec.getLsbD i <;> cases g.toBitVec.getLsbD i <;> rfl
/-- the eight registers turn in their row -/
theorem rot_step {y : Nat → Int32} {t : Nat} (ht : t < 64) {S : S8} (h : ∀ j, j < 8 → y ((64 - t + j) % 8) = s8_at S j) {p q k w : Int32}
    (hp : p = (((s8_at S 7 + sh_E (s8_at S 4)) + sh_ch (s8_at S 4) (s8_at S 5) (s8_at S 6)) + k) + w) (hq : q = sh_A (s8_at S 0) + sh_mj (s8_at S 0) (s8_at S 1) (s8_at S 2)) :
    ∀ j, j < 8 → upd (upd y ((67 - t) % 8) (y ((67 - t) % 8) + p)) ((71 - t) % 8) (p + q) ((64 - (t + 1) + j) % 8) = s8_at (sh_step k w S) j := by
  intro j hj
  obtain ⟨a, b, c, d, e, f, g, z⟩ := S
  have h3 : y ((67 - t) % 8) = d := (congrArg y (show (67 - t) % 8 = (64 - t + 3) % 8 by omega)).trans (h 3 (by decide))
  by_cases j0 : j = 0
  · subst j0
    rw [show (64 - (t + 1) + 0) % 8 = (71 - t) % 8 by omega, pk_us, hp, hq]
    rfl
  · by_cases j4 : j = 4
    · subst j4
      rw [show (64 - (t + 1) + 4) % 8 = (67 - t) % 8 by omega, pk_un (by omega), pk_us, h3, hp]
      rfl
    · rw [pk_un (by omega), pk_un (by omega), show (64 - (t + 1) + j) % 8 = (64 - t + (j - 1)) % 8 by omega, h (j - 1) (by omega)]
      rcases (show j = 1 ∨ j = 2 ∨ j = 3 ∨ j = 5 ∨ j = 6 ∨ j = 7 by omega) with rfl | rfl | rfl | rfl | rfl | rfl <;> rfl
