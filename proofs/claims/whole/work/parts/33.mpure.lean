/-! PURE FACTS FOR THE REFERENCE -/
theorem srus {n : Nat} (hn : n ≤ 24) (x : Int32) : sr x (nI n) &&& nI 255 = us x (nI n) &&& nI 255 := by
  apply b_ext
  intro i hi
  rw [b_and, b_and]
  by_cases h8 : i < 8
  · rw [show bt (sr x (nI n)) i = bt x (n + i) from by unfold sr; rw [b_sshr n (by omega) x hi, if_pos (by omega)], show bt (us x (nI n)) i = bt x (n + i) from b_ushr n (by omega) x i]
  · rw [show bt (nI 255) i = decide (i < 8) from b_255 i, decide_eq_false h8, Bool.and_false, Bool.and_false]
theorem sL_N {a k : Nat} (ha : a < 2 ^ 62) (hk : k < 64) : sL (lN a) (nI k) = lN (a / 2 ^ k) := by
  unfold sL
  rw [wb_c k hk]
  exact pf_shr (by rw [wb_tb, wb_sm k hk, BitVec.toNat_ofNat, Nat.mod_eq_of_lt (by omega)]) ha
theorem mbyte {n k : Nat} (hn : n < 2 ^ 24) (hk : k < 8) : (sL (8 * (nI n).toInt64) (nI (8 * k))).toInt32 &&& nI 255 = nI (8 * n / 2 ^ (8 * k) % 256) := by
  rw [nI_l (by omega), show (8 : Int64) = lN 8 by decide, lN_mul, sL_N (by omega) (by omega), lN_i, and255, pk_tn (Nat.lt_of_le_of_lt (Nat.div_le_self _ _) (by omega))]
theorem tI32_bit (x : Int64) {i : Nat} (hi : i < 32) : bt x.toInt32 i = x.toBitVec.getLsbD i := by
  unfold bt
  rw [show x.toInt32.toBitVec = x.toBitVec.signExtend 32 from rfl, BitVec.getLsbD_signExtend]
  rw [if_pos (by omega), decide_eq_true hi, Bool.true_and]
theorem sL_bit (v : Int64) {n i : Nat} (hn : n < 64) (hi : n + i < 64) : (sL v (nI n)).toBitVec.getLsbD i = v.toBitVec.getLsbD (n + i) := by
  unfold sL
  rw [wb_c n hn]
  show (v.toBitVec.sshiftRight ((lN n).toBitVec.smod 64).toNat).getLsbD i = _
  rw [wb_tb, wb_sm n hn, BitVec.toNat_ofNat, Nat.mod_eq_of_lt (by omega), BitVec.getLsbD_sshiftRight]
  rw [if_pos hi, decide_eq_false (by omega)]
  rfl
theorem uL_bit (v : Int64) {n i : Nat} (hn : n < 64) : (uL v (nI n)).toBitVec.getLsbD i = v.toBitVec.getLsbD (n + i) := by
  unfold uL
  rw [wb_cu n hn]
  show (v.toBitVec >>> (UInt64.ofNat n % 64).toBitVec).getLsbD i = _
  rw [BitVec.ushiftRight_eq', BitVec.getLsbD_ushiftRight]
  congr 2
  show (UInt64.ofNat n % 64).toNat = n
  rw [UInt64.toNat_mod, u_tn (by omega)]
  exact Nat.mod_eq_of_lt hn
theorem bit255 : ∀ i, i < 64 → (255 : Int64).toBitVec.getLsbD i = decide (i < 8) := by decide +kernel
theorem feedb {v : Int64} {k : Nat} (hk : k < 8) : (sL v (nI (8 * k)) &&& 255).toInt32 = (uL v (nI (8 * k))).toInt32 &&& nI 255 := by
  apply b_ext
  intro i hi
  rw [b_and, tI32_bit _ hi, tI32_bit _ hi, show bt (nI 255) i = decide (i < 8) from b_255 i, Int64.toBitVec_and, BitVec.getLsbD_and, bit255 i (by omega)]
  by_cases h8 : i < 8
  · rw [sL_bit v (by omega) (by omega), uL_bit v (by omega)]
  · rw [decide_eq_false h8, Bool.and_false, Bool.and_false]
