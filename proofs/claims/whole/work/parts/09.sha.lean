/-! THE DIGEST, as a pure value: rows of bytes are lists of numbers below 256 -/
def by8 (L : List Nat) : Prop := ∀ b ∈ L, b < 256
/-- the cells f begin with the bytes L -/
def bz (L : List Nat) (f : Nat → Int32) : Prop := ∀ i, i < L.length → f i = nI (L.getD i 0)
theorem bz_nil (f : Nat → Int32) : bz [] f := fun i h => absurd h (Nat.not_lt_zero i)
theorem bz_put {L : List Nat} {f : Nat → Int32} {b z : Nat} {x : Int32} (h : bz L f) (hz : z = L.length) (hx : x = nI b) : bz (L ++ [b]) (upd f z x) := by
  intro i hi
  subst hz hx
  rw [List.length_append, List.length_singleton] at hi
  by_cases e : i = L.length
  · subst e
    rw [pk_us]
    simp [List.getD_eq_getElem?_getD]
  · rw [pk_un e, h i (by omega)]
    simp [List.getD_eq_getElem?_getD, List.getElem?_append_left (show i < L.length by omega)]
theorem bz_cpy {L M : List Nat} {f h : Nat → Int32} {k z : Nat} (hh : bz L h) (hz : z = L.length) (hf : bz M f) (hk : k ≤ M.length) : bz (L ++ M.drop k) (va_cpy f h k z (M.length - k)) := by
  intro i hi
  subst hz
  rw [List.length_append, List.length_drop] at hi
  by_cases e : i < L.length
  · rw [pk_cpy_out (Or.inl e), hh i e]
    simp [List.getD_eq_getElem?_getD, List.getElem?_append_left e]
  · rw [pk_cpy_in (by omega) (by omega), hf _ (by omega)]
    simp [List.getD_eq_getElem?_getD, List.getElem?_append_right (show L.length ≤ i by omega)]
theorem bz_become {M : List Nat} {f h : Nat → Int32} {z : Nat} (hf : bz M f) (hz : z = M.length) : bz M (va_cpy f h 0 0 z) := by
  subst hz
  have := bz_cpy (k := 0) (z := 0) (bz_nil h) rfl hf (Nat.zero_le _)
  simpa using this
theorem and255 (x : Int32) : x &&& nI 255 = nI (x.toBitVec.toNat % 256) := pk_and x 8 (by decide)
theorem and255N {b : Nat} (h : b < 256) : nI b &&& nI 255 = nI b := by
  rw [and255, pk_tn (by omega), Nat.mod_eq_of_lt h]
-- the words of a block
def sh_s (x : Int32) : Int32 := ((us x (nI 7) ||| sl x (nI 25)) ^^^ (us x (nI 18) ||| sl x (nI 14))) ^^^ us x (nI 3)
def sh_r (x : Int32) : Int32 := ((us x (nI 17) ||| sl x (nI 15)) ^^^ (us x (nI 19) ||| sl x (nI 13))) ^^^ us x (nI 10)
def sh_w0 (b : Nat → Int32) (t : Nat) : Int32 := ((sl (b (4 * t)) (nI 24) ||| sl (b (4 * t + 1)) (nI 16)) ||| sl (b (4 * t + 2)) (nI 8)) ||| b (4 * t + 3)
def sh_w (b : Nat → Int32) (t : Nat) : Int32 := if h : t < 16 then sh_w0 b t else ((sh_w b (t - 16) + sh_s (sh_w b (t - 15))) + sh_w b (t - 7)) + sh_r (sh_w b (t - 2))
  termination_by t
theorem sh_w_lo {b : Nat → Int32} {t : Nat} (h : t < 16) : sh_w b t = sh_w0 b t := by rw [sh_w, dif_pos h]
theorem sh_w_hi {b : Nat → Int32} {t : Nat} (h : ¬ t < 16) : sh_w b t = ((sh_w b (t - 16) + sh_s (sh_w b (t - 15))) + sh_w b (t - 7)) + sh_r (sh_w b (t - 2)) := by rw [sh_w, dif_neg h]
-- the rounds
abbrev S8 : Type := Int32 × Int32 × Int32 × Int32 × Int32 × Int32 × Int32 × Int32
def sh_E (e : Int32) : Int32 := ((us e (nI 6) ||| sl e (nI 26)) ^^^ (us e (nI 11) ||| sl e (nI 21))) ^^^ (us e (nI 25) ||| sl e (nI 7))
def sh_A (a : Int32) : Int32 := ((us a (nI 2) ||| sl a (nI 30)) ^^^ (us a (nI 13) ||| sl a (nI 19))) ^^^ (us a (nI 22) ||| sl a (nI 10))
def sh_ch (e f g : Int32) : Int32 := (e &&& f) ^^^ ((e ^^^ (-1)) &&& g)
def sh_mj (a b c : Int32) : Int32 := ((a &&& b) ^^^ (a &&& c)) ^^^ (b &&& c)
def sh_step (k w : Int32) (s : S8) : S8 := match s with
  | (a, b, c, d, e, f, g, h) => (((((h + sh_E e) + sh_ch e f g) + k) + w) + (sh_A a + sh_mj a b c), a, b, c, d + ((((h + sh_E e) + sh_ch e f g) + k) + w), e, f, g)
def sh_it (K W : Nat → Int32) : Nat → S8 → S8
  | 0, s => s
  | t + 1, s => sh_step (K t) (W t) (sh_it K W t s)
def s8_at (s : S8) (i : Nat) : Int32 := match s with
  | (a, b, c, d, e, f, g, h) => match i with
    | 0 => a | 1 => b | 2 => c | 3 => d | 4 => e | 5 => f | 6 => g | _ => h
def sh_K (t : Nat) : Int32 := cubesL.getD t 0
def sh_comp (hs b : Nat → Int32) (i : Nat) : Int32 := hs i + s8_at (sh_it sh_K (sh_w b) 64 (hs 0, hs 1, hs 2, hs 3, hs 4, hs 5, hs 6, hs 7)) i
-- the padding
def zeroN (n : Nat) : Nat := (119 - n % 64) % 64
def padL (L : List Nat) : List Nat := (((((L ++ [128]) ++ List.replicate (zeroN L.length + 4) 0) ++ [8 * L.length / 2 ^ 24 % 256]) ++ [8 * L.length / 2 ^ 16 % 256]) ++ [8 * L.length / 2 ^ 8 % 256]) ++ [8 * L.length % 256]
def nbL (n : Nat) : Nat := (n + zeroN n + 9) / 64
theorem nbL_mul (n : Nat) : n + zeroN n + 9 = 64 * nbL n := by unfold nbL zeroN; omega
theorem padL_length (L : List Nat) : (padL L).length = 64 * nbL L.length := by
  rw [← nbL_mul]
  simp [padL]
  omega
def sh_H (P : List Nat) : Nat → Nat → Int32
  | 0 => fun i => rootsL.getD i 0
  | j + 1 => sh_comp (sh_H P j) (fun i => nI (P.getD (64 * j + i) 0))
def sh_byte (hs : Nat → Int32) (i : Nat) : Nat := (us (hs (i / 4)) (nI (24 - 8 * (i % 4)))).toBitVec.toNat % 256
def sha (L : List Nat) : List Nat := (List.range 32).map (sh_byte (sh_H (padL L) (nbL L.length)))
theorem sha_length (L : List Nat) : (sha L).length = 32 := by simp [sha]
theorem sha_by8 (L : List Nat) : by8 (sha L) := by
  intro b hb
  obtain ⟨i, -, rfl⟩ := List.mem_map.mp hb
  exact Nat.mod_lt _ (by decide)
theorem sh_w_congr {b b' : Nat → Int32} (h : ∀ i, i < 64 → b i = b' i) : ∀ t, t < 64 → sh_w b t = sh_w b' t := by
  intro t
  induction t using Nat.strongRecOn with
  | _ t ih =>
    intro ht
    by_cases h16 : t < 16
    · rw [sh_w_lo h16, sh_w_lo h16]
      unfold sh_w0
      rw [h _ (by omega), h _ (by omega), h _ (by omega), h _ (by omega)]
    · rw [sh_w_hi h16, sh_w_hi h16, ih _ (by omega) (by omega), ih _ (by omega) (by omega), ih _ (by omega) (by omega), ih _ (by omega) (by omega)]
theorem sh_it_congr {K W W' : Nat → Int32} {n : Nat} (h : ∀ t, t < n → W t = W' t) (s : S8) : sh_it K W n s = sh_it K W' n s := by
  induction n with
  | zero => rfl
  | succ n ih => rw [sh_it, sh_it, ih (fun t ht => h t (by omega)), h n (by omega)]
theorem s8_e (f : Nat → Int32) : ∀ i, i < 8 → s8_at (f 0, f 1, f 2, f 3, f 4, f 5, f 6, f 7) i = f i := by
  intro i hi
  rcases (show i = 0 ∨ i = 1 ∨ i = 2 ∨ i = 3 ∨ i = 4 ∨ i = 5 ∨ i = 6 ∨ i = 7 by omega) with rfl | rfl | rfl | rfl | rfl | rfl | rfl | rfl <;> rfl
-- numbers out of shifts
theorem us2 : ∀ i, i < 32 → us (nI i) (nI 2) = nI (i / 4) := by decide +kernel
theorem and3 : ∀ i, i < 32 → nI i &&& nI 3 = nI (i % 4) := by decide +kernel
theorem fm_a : ∀ z, z < 768 → 0 ≤ (nI 55 - nI z) ^^^ nI 64 → (nI 55 - nI z) - (nI 55 - nI z) / nI 64 * nI 64 = nI (zeroN z) := by decide +kernel
theorem fm_b : ∀ z, z < 768 → (nI 55 - nI z) - (nI 55 - nI z) / nI 64 * nI 64 = 0 → (nI 55 - nI z) - (nI 55 - nI z) / nI 64 * nI 64 = nI (zeroN z) := by decide +kernel
theorem fm_c : ∀ z, z < 768 → ¬ 0 ≤ (nI 55 - nI z) ^^^ nI 64 → ¬ (nI 55 - nI z) - (nI 55 - nI z) / nI 64 * nI 64 = 0 → (nI 55 - nI z) - (nI 55 - nI z) / nI 64 * nI 64 + nI 64 = nI (zeroN z) := by decide +kernel
/-- a byte of eight times a number, as the shifts give it -/
theorem us_byte {n k : Nat} (hn : n < 2 ^ 32) (hs : (((nI k).toUInt32 &&& Int32.toUInt32 31).toBitVec % 32).toNat = k) : us (nI n) (nI k) &&& nI 255 = nI (n / 2 ^ k % 256) := by
  have h1 : us (nI n) (nI k) = nI (n / 2 ^ k) := pk_ushrN hn (nI k) k hs
  rw [h1, and255, pk_tn (Nat.lt_of_le_of_lt (Nat.div_le_self _ _) hn)]
section GTI
variable {p : Program} {l : Launch} {e : Env} {R : Room} {s : State} {m : MethodId} {args : Array Value} {below : List Frame} {meth : Method} {c : Code} {H : Heap} {locs : List Loc} {cells slots : Nat} {Q : State → Prop}
variable {cc : ByteArray} {pc : Nat} {ls : Array Slot} {rest : List Value} {A : Nat → Prop}
theorem ln_ti (hx : p.tables.exec = Jvm.exec) (hb : c.code = cc) {t N k : Nat} {f : Nat → Value} {v : Int32} (hT : va_T .int t N f A s s.heap) (hS : va_S A s.heap H locs) (hk : k < N) (hN : N < 2 ^ 31) (hv : f k = .int v) (hdg : decode cc pc = .ok (.iaload, 1))
    (kk : W p l e R s m args below meth c H locs cells slots Q (F0 m (pc + 1) ls (.int v :: rest))) : W p l e R s m args below meth c H locs cells slots Q (F0 m pc ls (.int (nI k) :: .ref t :: rest)) :=
  va_ti hx hb hT hS (vp_in_nI hk hN) (by rw [nI_clamp (by omega)]; exact hv) hdg kk
end GTI
