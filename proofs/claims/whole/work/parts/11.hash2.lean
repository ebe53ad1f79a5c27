theorem xorN {a b : Nat} (ha : a < 256) (hb : b < 256) : (nI a ^^^ nI b) &&& nI 255 = nI (a ^^^ b) := by
  have h1 : nI a ^^^ nI b = nI (a ^^^ b) := by
    apply Int32.toBitVec_inj.mp
    show (nI a).toBitVec ^^^ (nI b).toBitVec = (nI (a ^^^ b)).toBitVec
    apply BitVec.eq_of_toNat_eq
    rw [BitVec.toNat_xor, pk_tn (by omega), pk_tn (by omega), pk_tn (Nat.lt_of_lt_of_le (Nat.xor_lt_two_pow (n := 8) ha hb) (by decide))]
  rw [h1, and255N (Nat.xor_lt_two_pow (n := 8) ha hb)]
def mkL (K : List Nat) (b : Nat) : List Nat := (List.range 64).map (fun i => K.getD i 0 ^^^ b)
theorem mkL_length (K : List Nat) (b : Nat) : (mkL K b).length = 64 := by simp [mkL]
theorem by8_getD {K : List Nat} (h : by8 K) (i : Nat) : K.getD i 0 < 256 := by
  rw [List.getD_eq_getElem?_getD]
  cases e : K[i]? with
  | none => simp
  | some x => exact h x (List.mem_of_getElem? e)
theorem bz_at {K : List Nat} {f : Nat → Int32} (h : bz K f) (i : Nat) : (if i < K.length then f i else 0) = nI (K.getD i 0) := by
  by_cases hi : i < K.length
  · rw [if_pos hi, h i hi]
  · rw [if_neg hi, List.getD_eq_getElem?_getD, List.getElem?_eq_none (by omega)]
    rfl
theorem range_put (F : Nat → Nat) (j : Nat) : (List.range j).map F ++ [F j] = (List.range (j + 1)).map F := by rw [List.range_succ, List.map_append]; rfl
theorem rep_put (X : List Nat) (j : Nat) : (X ++ List.replicate j 0) ++ [0] = X ++ List.replicate (j + 1) 0 := by rw [List.append_assoc, ← List.replicate_succ']
/-- one block more -/
theorem sh_next {P : List Nat} {j : Nat} {fs fz fw ft : Nat → Int32} (hP : 64 * j + 64 ≤ P.length) (hb : bz P ft) (hs : ∀ i, i < 8 → fs i = sh_H P j i) (hw : ∀ i, i < 64 → fw i = sh_w (fun q => ft (64 * j + q)) i)
    (hz : ∀ i, i < 8 → fz i = fs i + s8_at (sh_it sh_K fw 64 (fs 0, fs 1, fs 2, fs 3, fs 4, fs 5, fs 6, fs 7)) i) : ∀ i, i < 8 → fz i = sh_H P (j + 1) i := by
  intro i hi
  rw [hz i hi, sh_H, sh_comp, hs i hi]
  have e1 : sh_it sh_K fw 64 (fs 0, fs 1, fs 2, fs 3, fs 4, fs 5, fs 6, fs 7) = sh_it sh_K (sh_w (fun q => nI (P.getD (64 * j + q) 0))) 64 (fs 0, fs 1, fs 2, fs 3, fs 4, fs 5, fs 6, fs 7) :=
    sh_it_congr (fun t ht => (hw t ht).trans (sh_w_congr (fun q hq => hb _ (by omega)) t ht)) _
  rw [e1, hs 0 (by decide), hs 1 (by decide), hs 2 (by decide), hs 3 (by decide), hs 4 (by decide), hs 5 (by decide), hs 6 (by decide), hs 7 (by decide)]
set_option maxHeartbeats 1000000 in
set_option maxRecDepth 100000 in
theorem c_X0_openText (g : GG) (h : Nat) (nc : Nat) (fk : Nat) (ta : Nat) (ia : Nat) (qw : Nat) (qs : Nat) (tq : Nat) (ft : Nat → Int32) (zt : Nat) (ka : Nat) (kq : Nat) (kn : Nat) (kf : Nat → Int32) (K : List Nat) (mk : Nat) (hkb : bz K kf) (hk8 : by8 K) (hkn : K.length ≤ kn) (hkn2 : kn < 2 ^ 31) (hmk : mk < 256) : Cg g y_X0_openText b_X0_openText 4 none ({ frames := 1, cells := 0, slots := 0, locals := 21 } : Room) [.ref h, .ref ka, .int (nI mk)] [(h, .inr (0, [.ref nc, .ref fk, .ref ta, .ref ia, .ref qw, .ref qs])), (ta, .inr (3, [.ref tq, .int (nI zt)])), (tq, .inl (cI g, 768, .inl ft)), (ka, .inr (3, [.ref kq, .int (nI K.length)])), (kq, .inl (cI g, kn, .inl kf))] (S := Nat → Int32) (fun (v : Option Value) (u : Nat → Int32) => v = none ∧ bz (mkL K mk) u) (fun (u : Nat → Int32) => [(h, .inr (0, [.ref nc, .ref fk, .ref ta, .ref ia, .ref qw, .ref qs])), (ta, .inr (3, [.ref tq, .int (nI 64)])), (tq, .inl (cI g, 768, .inl u)), (ka, .inr (3, [.ref kq, .int (nI K.length)])), (kq, .inl (cI g, kn, .inl kf))]) := by
  refine Ct_of (cc := b_X0_openText) (maxL := 4) (ret := none) (by decide) rfl (Nat.le_of_ble_eq_true rfl) ?_
  intro p e s m below meth c A ls hx hb hr hml hown hts hlocks hin hA hP hK hD hXs hS hl
  have ht : ∀ w ∈ tb, w.before [.ref h, .ref ka, .int (nI mk)].toArray s = true := fun w h => hts w (List.mem_cons_of_mem _ h)
  have hown : s.vm.findClass R_X0 = some m.cls := hown
  have hl : lv_has ls 4 [(0, .ref h), (1, .ref ka), (2, .int (nI mk))] := hl
  refine lv_aload_n hx hb d_X0_openText_0 rfl (lv_at hl 0 rfl) ?_
  refine va_get (D := g.2.1) (ci := 0) (v := .ref ta) (C := R_X0) (T := T_X0) (N := 6) hx hb ht i_X0 hown hK hP 0 rfl rfl 2 (by decide) (ht _ w_63) (fun _ h9 => h9) rfl d_X0_openText_1 ?_
  refine g_callV (As := []) (rest := []) (wr := [(h, .inr (0, [.ref nc, .ref fk, .ref ta, .ref ia, .ref qw, .ref qs])), (ka, .inr (3, [.ref kq, .int (nI K.length)])), (kq, .inl (cI g, kn, .inl kf))]) (q0 := 0) (ci := 3) (XSok g) ⟨hx, hb, hml, hown, ht⟩ hK hA hXs hl.1 hP hD hS (c_X3_clear g ta tq 768 ft zt ) (g_perm 5 [1, 2, 0, 3, 4] rfl rfl (by decide +kernel)) rfl rfl (cwV 0 ht (tb_V w_353 w_213 w_214 w_3 k_X3_clear) rfl rfl rfl (by decide +kernel) ⟨(Nat.le_of_ble_eq_true rfl), (Nat.le_of_ble_eq_true rfl)⟩) rfl rfl (Nat.le_of_ble_eq_true rfl) d_X0_openText_4 ⟨(Nat.le_of_ble_eq_true rfl), (Nat.le_of_ble_eq_true rfl)⟩ (fun v u H locs hw hP hD hS => ?_)
  obtain rfl := hw
  have hP : va_P g.2.1 cls7 [(h, .inr (0, [.ref nc, .ref fk, .ref ta, .ref ia, .ref qw, .ref qs])), (ka, .inr (3, [.ref kq, .int (nI K.length)])), (kq, .inl (cI g, kn, .inl kf)), (ta, .inr (3, [.ref tq, .int (nI 0)])), (tq, .inl (cI g, 768, .inl ft))] H := hP
  have hD : va_D A [(h, .inr (0, [.ref nc, .ref fk, .ref ta, .ref ia, .ref qw, .ref qs])), (ka, .inr (3, [.ref kq, .int (nI K.length)])), (kq, .inl (cI g, kn, .inl kf)), (ta, .inr (3, [.ref tq, .int (nI 0)])), (tq, .inl (cI g, 768, .inl ft))] := hD
  refine W.eq (g2 := F0 m 7 ls []) rfl ?_
  refine lv_iconst (v := (nI 0)) hx hb d_X0_openText_7 (by decide) ?_
  refine lv_istore_n (lv' := [(3, .int (nI 0)), (0, .ref h), (1, .ref ka), (2, .int (nI mk))]) hx hb d_X0_openText_8 rfl hl (by decide) rfl (fun ls hl => ?_)
  have loop : ∀ (k : Nat) (j : Nat) (fy : Nat → Int32) (hk : j + k = 64) (hb2 : bz ((List.range j).map (fun i => K.getD i 0 ^^^ mk)) fy) (H : Heap) (locs : List Loc) (hP : va_P g.2.1 cls7 [(h, .inr (0, [.ref nc, .ref fk, .ref ta, .ref ia, .ref qw, .ref qs])), (ta, .inr (3, [.ref tq, .int (nI j)])), (tq, .inl (cI g, 768, .inl fy)), (ka, .inr (3, [.ref kq, .int (nI K.length)])), (kq, .inl (cI g, kn, .inl kf))] H) (hD : va_D A [(h, .inr (0, [.ref nc, .ref fk, .ref ta, .ref ia, .ref qw, .ref qs])), (ta, .inr (3, [.ref tq, .int (nI j)])), (tq, .inl (cI g, 768, .inl fy)), (ka, .inr (3, [.ref kq, .int (nI K.length)])), (kq, .inl (cI g, kn, .inl kf))]) (hS : va_S A s.heap H locs) (ls : Array Slot) (hl : lv_has ls 4 [(3, .int (nI j)), (0, .ref h), (1, .ref ka), (2, .int (nI mk))]), W p g.1 e ({ frames := 1, cells := 0, slots := 0, locals := 21 } : Room) s m [.ref h, .ref ka, .int (nI mk)].toArray below meth c H locs 0 0 (MQ below (gQ g.2.1 cls7 (S := Nat → Int32) (fun (v : Option Value) (u : Nat → Int32) => v = none ∧ bz (mkL K mk) u) (fun (u : Nat → Int32) => [(h, .inr (0, [.ref nc, .ref fk, .ref ta, .ref ia, .ref qw, .ref qs])), (ta, .inr (3, [.ref tq, .int (nI 64)])), (tq, .inl (cI g, 768, .inl u)), (ka, .inr (3, [.ref kq, .int (nI K.length)])), (kq, .inl (cI g, kn, .inl kf))]) A) [.ref h, .ref ka, .int (nI mk)].toArray s ({ frames := 1, cells := 0, slots := 0, locals := 21 } : Room).cells ({ frames := 1, cells := 0, slots := 0, locals := 21 } : Room).slots A) (F0 m 9 ls []) := by
    intro k
    induction k with
    | zero =>
      intro j fy hk hb2 H locs hP hD hS ls hl
      refine lv_iload_n hx hb d_X0_openText_9 rfl (lv_at hl 0 rfl) ?_
      refine lv_bipush (v := (nI 64)) hx hb d_X0_openText_10 (by decide) ?_
      refine ln_icmp_ge_t (tgt := 35) hx hb d_X0_openText_12 (by decide) (by omega) (by omega) (by omega) ?_
      obtain rfl : j = 64 := by omega
      exact g_vret hx hb hr hlocks hP hD hS fy (List.Perm.refl _) ⟨rfl, hb2⟩ (Nat.le_of_ble_eq_true rfl) (Nat.le_of_ble_eq_true rfl) d_X0_openText_35
    | succ k ih =>
      intro j fy hk hb2 H locs hP hD hS ls hl
      refine lv_iload_n hx hb d_X0_openText_9 rfl (lv_at hl 0 rfl) ?_
      refine lv_bipush (v := (nI 64)) hx hb d_X0_openText_10 (by decide) ?_
      refine ln_icmp_ge_f (tgt := 35) hx hb d_X0_openText_12 (by decide) (by omega) (by omega) (by omega) ?_
      refine lv_aload_n hx hb d_X0_openText_15 rfl (lv_at hl 1 rfl) ?_
      refine va_get (D := g.2.1) (ci := 0) (v := .ref ta) (C := R_X0) (T := T_X0) (N := 6) hx hb ht i_X0 hown hK hP 0 rfl rfl 2 (by decide) (ht _ w_63) (fun _ h9 => h9) rfl d_X0_openText_16 ?_
      refine lv_aload_n hx hb d_X0_openText_19 rfl (lv_at hl 2 rfl) ?_
      refine lv_iload_n hx hb d_X0_openText_20 rfl (lv_at hl 0 rfl) ?_
      refine g_callV (As := [.int (nI j)]) (rest := [.ref ta]) (wr := [(h, .inr (0, [.ref nc, .ref fk, .ref ta, .ref ia, .ref qw, .ref qs])), (ta, .inr (3, [.ref tq, .int (nI j)])), (tq, .inl (cI g, 768, .inl fy))]) (q0 := 0) (ci := 3) (XSok g) ⟨hx, hb, hml, hown, ht⟩ hK hA hXs hl.1 hP hD hS (c_X3_at g ka kq kn kf K.length j hkn hkn2 (by omega)) (g_perm 5 [3, 4, 0, 1, 2] rfl rfl (by decide +kernel)) rfl rfl (cwV 1 ht (tb_V w_354 w_355 w_356 w_3 k_X3_at) rfl rfl rfl (by decide +kernel) ⟨(Nat.le_of_ble_eq_true rfl), (Nat.le_of_ble_eq_true rfl)⟩) rfl rfl (Nat.le_of_ble_eq_true rfl) d_X0_openText_21 ⟨(Nat.le_of_ble_eq_true rfl), (Nat.le_of_ble_eq_true rfl)⟩ (fun v u H locs hw hP hD hS => ?_)
      obtain rfl := hw
      have hP : va_P g.2.1 cls7 [(h, .inr (0, [.ref nc, .ref fk, .ref ta, .ref ia, .ref qw, .ref qs])), (ta, .inr (3, [.ref tq, .int (nI j)])), (tq, .inl (cI g, 768, .inl fy)), (ka, .inr (3, [.ref kq, .int (nI K.length)])), (kq, .inl (cI g, kn, .inl kf))] H := hP
      have hD : va_D A [(h, .inr (0, [.ref nc, .ref fk, .ref ta, .ref ia, .ref qw, .ref qs])), (ta, .inr (3, [.ref tq, .int (nI j)])), (tq, .inl (cI g, 768, .inl fy)), (ka, .inr (3, [.ref kq, .int (nI K.length)])), (kq, .inl (cI g, kn, .inl kf))] := hD
      refine W.eq (g2 := F0 m 24 ls [.int (if j < K.length then kf j else 0), .ref ta]) rfl ?_
      rw [bz_at hkb j]
      refine lv_iload_n hx hb d_X0_openText_24 rfl (lv_at hl 3 rfl) ?_
      refine lv_ixor hx hb d_X0_openText_25 ?_
      refine g_callV (As := [.int ((nI (K.getD j 0)) ^^^ (nI mk))]) (rest := []) (wr := [(h, .inr (0, [.ref nc, .ref fk, .ref ta, .ref ia, .ref qw, .ref qs])), (ka, .inr (3, [.ref kq, .int (nI K.length)])), (kq, .inl (cI g, kn, .inl kf))]) (q0 := 0) (ci := 3) (XSok g) ⟨hx, hb, hml, hown, ht⟩ hK hA hXs hl.1 hP hD hS (c_X3_put g ta tq 768 fy j ((nI (K.getD j 0)) ^^^ (nI mk)) (by omega) (by decide)) (g_perm 5 [1, 2, 0, 3, 4] rfl rfl (by decide +kernel)) rfl rfl (cwV 1 ht (tb_V w_55 w_56 w_57 w_3 k_X3_put) rfl rfl rfl (by decide +kernel) ⟨(Nat.le_of_ble_eq_true rfl), (Nat.le_of_ble_eq_true rfl)⟩) rfl rfl (Nat.le_of_ble_eq_true rfl) d_X0_openText_26 ⟨(Nat.le_of_ble_eq_true rfl), (Nat.le_of_ble_eq_true rfl)⟩ (fun v u H locs hw hP hD hS => ?_)
      obtain rfl := hw
      have hP : va_P g.2.1 cls7 [(h, .inr (0, [.ref nc, .ref fk, .ref ta, .ref ia, .ref qw, .ref qs])), (ka, .inr (3, [.ref kq, .int (nI K.length)])), (kq, .inl (cI g, kn, .inl kf)), (ta, .inr (3, [.ref tq, .int (nI (j + 1))])), (tq, .inl (cI g, 768, .inl (upd fy j (((nI (K.getD j 0)) ^^^ (nI mk)) &&& nI 255))))] H := hP
      have hD : va_D A [(h, .inr (0, [.ref nc, .ref fk, .ref ta, .ref ia, .ref qw, .ref qs])), (ka, .inr (3, [.ref kq, .int (nI K.length)])), (kq, .inl (cI g, kn, .inl kf)), (ta, .inr (3, [.ref tq, .int (nI (j + 1))])), (tq, .inl (cI g, 768, .inl (upd fy j (((nI (K.getD j 0)) ^^^ (nI mk)) &&& nI 255))))] := hD
      refine W.eq (g2 := F0 m 29 ls []) rfl ?_
      have hb1 : bz ((List.range (j + 1)).map (fun i => K.getD i 0 ^^^ mk)) (upd fy j (((nI (K.getD j 0)) ^^^ (nI mk)) &&& nI 255)) := by
        rw [← range_put]
        exact bz_put hb2 (by simp) (xorN (by8_getD hk8 j) hmk)
      refine ln_iinc (d := 1) (lv' := [(3, .int (nI (j + 1))), (0, .ref h), (1, .ref ka), (2, .int (nI mk))]) hx hb d_X0_openText_29 hl (k := 0) rfl rfl (by decide) rfl (fun ls hl => ?_)
      refine lv_goto (tgt := 9) hx hb d_X0_openText_32 (by decide) ?_
      exact ih (j + 1) (upd fy j (((nI (K.getD j 0)) ^^^ (nI mk)) &&& nI 255)) (by omega) hb1 _ _ (wP_perm hP (g_perm 5 [0, 3, 4, 1, 2] rfl rfl (by decide +kernel))) (wD_perm hD (g_perm 5 [0, 3, 4, 1, 2] rfl rfl (by decide +kernel))) hS ls (lv_sub hl [0, 1, 2, 3] rfl)
  exact loop 64 0 ft (by omega) (bz_nil ft) _ _ (wP_perm hP (g_perm 5 [0, 3, 4, 1, 2] rfl rfl (by decide +kernel))) (wD_perm hD (g_perm 5 [0, 3, 4, 1, 2] rfl rfl (by decide +kernel))) hS ls (lv_sub hl [0, 1, 2, 3] rfl)

set_option maxHeartbeats 1000000 in
set_option maxRecDepth 100000 in
theorem c_X0_closeText (g : GG) (h : Nat) (nc : Nat) (fk : Nat) (ta : Nat) (ia : Nat) (qw : Nat) (qs : Nat) (tq : Nat) (ft : Nat → Int32) (L : List Nat) (fw : Nat → Int32) (fs : Nat → Int32) (oa : Nat) (oq : Nat) (on : Nat) (fo : Nat → Int32) (zo : Nat) (hbz : bz L ft) (hL : L.length ≤ 759) (ho : 32 ≤ on) (ho2 : on < 2 ^ 31) : Cg g y_X0_closeText b_X0_closeText 5 none ({ frames := 1, cells := 0, slots := 0, locals := 35 } : Room) [.ref h, .ref oa] [(h, .inr (0, [.ref nc, .ref fk, .ref ta, .ref ia, .ref qw, .ref qs])), (ta, .inr (3, [.ref tq, .int (nI L.length)])), (tq, .inl (cI g, 768, .inl ft)), (qw, .inl (cI g, 64, .inl fw)), (qs, .inl (cI g, 8, .inl fs)), (oa, .inr (3, [.ref oq, .int (nI zo)])), (oq, .inl (cI g, on, .inl fo))] (S := (Nat → Int32) × Nat × (Nat → Int32) × (Nat → Int32) × (Nat → Int32)) (fun (v : Option Value) (u : (Nat → Int32) × Nat × (Nat → Int32) × (Nat → Int32) × (Nat → Int32)) => v = none ∧ bz (sha L) u.2.2.2.2) (fun (u : (Nat → Int32) × Nat × (Nat → Int32) × (Nat → Int32) × (Nat → Int32)) => [(h, .inr (0, [.ref nc, .ref fk, .ref ta, .ref ia, .ref qw, .ref qs])), (ta, .inr (3, [.ref tq, .int (nI u.2.1)])), (tq, .inl (cI g, 768, .inl u.1)), (qw, .inl (cI g, 64, .inl u.2.2.1)), (qs, .inl (cI g, 8, .inl u.2.2.2.1)), (oa, .inr (3, [.ref oq, .int (nI 32)])), (oq, .inl (cI g, on, .inl u.2.2.2.2))]) := by
  refine Ct_of (cc := b_X0_closeText) (maxL := 5) (ret := none) (by decide) rfl (Nat.le_of_ble_eq_true rfl) ?_
  intro p e s m below meth c A ls hx hb hr hml hown hts hlocks hin hA hP hK hD hXs hS hl
  have ht : ∀ w ∈ tb, w.before [.ref h, .ref oa].toArray s = true := fun w h => hts w (List.mem_cons_of_mem _ h)
  have hown : s.vm.findClass R_X0 = some m.cls := hown
  have hl : lv_has ls 5 [(0, .ref h), (1, .ref oa)] := hl
  have hnb := nbL_mul L.length
  have hz9 : zeroN L.length < 64 := Nat.mod_lt _ (by decide)
  refine lv_bipush (v := (nI 8)) hx hb d_X0_closeText_0 (by decide) ?_
  refine lv_aload_n hx hb d_X0_closeText_2 rfl (lv_at hl 0 rfl) ?_
  refine va_get (D := g.2.1) (ci := 0) (v := .ref ta) (C := R_X0) (T := T_X0) (N := 6) hx hb ht i_X0 hown hK hP 0 rfl rfl 2 (by decide) (ht _ w_63) (fun _ h9 => h9) rfl d_X0_closeText_3 ?_
  refine va_get (D := g.2.1) (ci := 3) (v := .int (nI L.length)) (C := R_X3) (T := T_X3) (N := 2) hx hb ht i_X3 hown hK hP 1 rfl rfl 1 (by decide) (ht _ w_48) (fun _ h9 => h9) rfl d_X0_closeText_6 ?_
  refine ln_imul hx hb d_X0_closeText_9 ?_
  refine lv_istore_n (lv' := [(2, .int (nI (8 * L.length))), (0, .ref h), (1, .ref oa)]) hx hb d_X0_closeText_10 rfl hl (by decide) rfl (fun ls hl => ?_)
  refine lv_bipush (v := (nI 55)) hx hb d_X0_closeText_11 (by decide) ?_
  refine lv_aload_n hx hb d_X0_closeText_13 rfl (lv_at hl 1 rfl) ?_
  refine va_get (D := g.2.1) (ci := 0) (v := .ref ta) (C := R_X0) (T := T_X0) (N := 6) hx hb ht i_X0 hown hK hP 0 rfl rfl 2 (by decide) (ht _ w_63) (fun _ h9 => h9) rfl d_X0_closeText_14 ?_
  refine va_get (D := g.2.1) (ci := 3) (v := .int (nI L.length)) (C := R_X3) (T := T_X3) (N := 2) hx hb ht i_X3 hown hK hP 1 rfl rfl 1 (by decide) (ht _ w_48) (fun _ h9 => h9) rfl d_X0_closeText_17 ?_
  refine lv_isub hx hb d_X0_closeText_20 ?_
  refine lv_bipush (v := (nI 64)) hx hb d_X0_closeText_21 (by decide) ?_
  refine g_callS (As := [.int (nI 55 - nI L.length), .int (nI 64)]) (rest := []) (wr := [(h, .inr (0, [.ref nc, .ref fk, .ref ta, .ref ia, .ref qw, .ref qs])), (ta, .inr (3, [.ref tq, .int (nI L.length)])), (tq, .inl (cI g, 768, .inl ft)), (qw, .inl (cI g, 64, .inl fw)), (qs, .inl (cI g, 8, .inl fs)), (oa, .inr (3, [.ref oq, .int (nI zo)])), (oq, .inl (cI g, on, .inl fo))]) (XSok g) ⟨hx, hb, hml, hown, ht⟩ hK hA hXs hl.1 hP hD hS (c_JM_floorMod g L.length (by omega)) (g_perm 7 [0, 1, 2, 3, 4, 5, 6] rfl rfl (by decide +kernel)) (va_cwS 2 ht (tb_S2 w_363 w_364 w_4 k_JM_floorMod) rfl rfl rfl (by decide +kernel) ⟨(Nat.le_of_ble_eq_true rfl), (Nat.le_of_ble_eq_true rfl)⟩) rfl rfl (Nat.le_of_ble_eq_true rfl) d_X0_closeText_23 ⟨(Nat.le_of_ble_eq_true rfl), (Nat.le_of_ble_eq_true rfl)⟩ (fun v u H locs hw hP hD hS => ?_)
  obtain rfl := hw
  have hP : va_P g.2.1 cls7 [(h, .inr (0, [.ref nc, .ref fk, .ref ta, .ref ia, .ref qw, .ref qs])), (ta, .inr (3, [.ref tq, .int (nI L.length)])), (tq, .inl (cI g, 768, .inl ft)), (qw, .inl (cI g, 64, .inl fw)), (qs, .inl (cI g, 8, .inl fs)), (oa, .inr (3, [.ref oq, .int (nI zo)])), (oq, .inl (cI g, on, .inl fo))] H := hP
  have hD : va_D A [(h, .inr (0, [.ref nc, .ref fk, .ref ta, .ref ia, .ref qw, .ref qs])), (ta, .inr (3, [.ref tq, .int (nI L.length)])), (tq, .inl (cI g, 768, .inl ft)), (qw, .inl (cI g, 64, .inl fw)), (qs, .inl (cI g, 8, .inl fs)), (oa, .inr (3, [.ref oq, .int (nI zo)])), (oq, .inl (cI g, on, .inl fo))] := hD
  refine W.eq (g2 := F0 m 26 ls [.int (nI (zeroN L.length))]) rfl ?_
  refine lv_istore_n (lv' := [(3, .int (nI (zeroN L.length))), (2, .int (nI (8 * L.length))), (0, .ref h), (1, .ref oa)]) hx hb d_X0_closeText_26 rfl hl (by decide) rfl (fun ls hl => ?_)
  refine lv_aload_n hx hb d_X0_closeText_27 rfl (lv_at hl 2 rfl) ?_
  refine va_get (D := g.2.1) (ci := 0) (v := .ref ta) (C := R_X0) (T := T_X0) (N := 6) hx hb ht i_X0 hown hK hP 0 rfl rfl 2 (by decide) (ht _ w_63) (fun _ h9 => h9) rfl d_X0_closeText_28 ?_
  refine lv_sipush (v := (nI 128)) hx hb d_X0_closeText_31 (by decide) ?_
  refine g_callV (As := [.int (nI 128)]) (rest := []) (wr := [(h, .inr (0, [.ref nc, .ref fk, .ref ta, .ref ia, .ref qw, .ref qs])), (qw, .inl (cI g, 64, .inl fw)), (qs, .inl (cI g, 8, .inl fs)), (oa, .inr (3, [.ref oq, .int (nI zo)])), (oq, .inl (cI g, on, .inl fo))]) (q0 := 0) (ci := 3) (XSok g) ⟨hx, hb, hml, hown, ht⟩ hK hA hXs hl.1 hP hD hS (c_X3_put g ta tq 768 ft L.length (nI 128) (by omega) (by decide)) (g_perm 7 [1, 2, 0, 3, 4, 5, 6] rfl rfl (by decide +kernel)) rfl rfl (cwV 1 ht (tb_V w_55 w_56 w_57 w_3 k_X3_put) rfl rfl rfl (by decide +kernel) ⟨(Nat.le_of_ble_eq_true rfl), (Nat.le_of_ble_eq_true rfl)⟩) rfl rfl (Nat.le_of_ble_eq_true rfl) d_X0_closeText_34 ⟨(Nat.le_of_ble_eq_true rfl), (Nat.le_of_ble_eq_true rfl)⟩ (fun v u H locs hw hP hD hS => ?_)
  obtain rfl := hw
  have hP : va_P g.2.1 cls7 [(h, .inr (0, [.ref nc, .ref fk, .ref ta, .ref ia, .ref qw, .ref qs])), (qw, .inl (cI g, 64, .inl fw)), (qs, .inl (cI g, 8, .inl fs)), (oa, .inr (3, [.ref oq, .int (nI zo)])), (oq, .inl (cI g, on, .inl fo)), (ta, .inr (3, [.ref tq, .int (nI (L.length + 1))])), (tq, .inl (cI g, 768, .inl (upd ft L.length ((nI 128) &&& nI 255))))] H := hP
  have hD : va_D A [(h, .inr (0, [.ref nc, .ref fk, .ref ta, .ref ia, .ref qw, .ref qs])), (qw, .inl (cI g, 64, .inl fw)), (qs, .inl (cI g, 8, .inl fs)), (oa, .inr (3, [.ref oq, .int (nI zo)])), (oq, .inl (cI g, on, .inl fo)), (ta, .inr (3, [.ref tq, .int (nI (L.length + 1))])), (tq, .inl (cI g, 768, .inl (upd ft L.length ((nI 128) &&& nI 255))))] := hD
  refine W.eq (g2 := F0 m 37 ls []) rfl ?_
  have hb1 : bz ((L) ++ [128]) (upd ft L.length ((nI 128) &&& nI 255)) := bz_put hbz (by simp; try omega) (and255N (by decide))
  generalize (upd ft L.length ((nI 128) &&& nI 255)) = f1 at hP hD hb1
  refine lv_iconst (v := (nI 0)) hx hb d_X0_closeText_37 (by decide) ?_
  refine lv_istore (lv' := [(4, .int (nI 0)), (3, .int (nI (zeroN L.length))), (2, .int (nI (8 * L.length))), (0, .ref h), (1, .ref oa)]) hx hb d_X0_closeText_38 hl (by decide) rfl (fun ls hl => ?_)
  have loop : ∀ (k : Nat) (j : Nat) (f2 : Nat → Int32) (hk : j + k = zeroN L.length + 4) (hb2 : bz ((L ++ [128]) ++ List.replicate j 0) f2) (H : Heap) (locs : List Loc) (hP : va_P g.2.1 cls7 [(h, .inr (0, [.ref nc, .ref fk, .ref ta, .ref ia, .ref qw, .ref qs])), (ta, .inr (3, [.ref tq, .int (nI (L.length + 1 + j))])), (tq, .inl (cI g, 768, .inl f2)), (qw, .inl (cI g, 64, .inl fw)), (qs, .inl (cI g, 8, .inl fs)), (oa, .inr (3, [.ref oq, .int (nI zo)])), (oq, .inl (cI g, on, .inl fo))] H) (hD : va_D A [(h, .inr (0, [.ref nc, .ref fk, .ref ta, .ref ia, .ref qw, .ref qs])), (ta, .inr (3, [.ref tq, .int (nI (L.length + 1 + j))])), (tq, .inl (cI g, 768, .inl f2)), (qw, .inl (cI g, 64, .inl fw)), (qs, .inl (cI g, 8, .inl fs)), (oa, .inr (3, [.ref oq, .int (nI zo)])), (oq, .inl (cI g, on, .inl fo))]) (hS : va_S A s.heap H locs) (ls : Array Slot) (hl : lv_has ls 5 [(4, .int (nI j)), (3, .int (nI (zeroN L.length))), (2, .int (nI (8 * L.length))), (0, .ref h), (1, .ref oa)]), W p g.1 e ({ frames := 1, cells := 0, slots := 0, locals := 35 } : Room) s m [.ref h, .ref oa].toArray below meth c H locs 0 0 (MQ below (gQ g.2.1 cls7 (S := (Nat → Int32) × Nat × (Nat → Int32) × (Nat → Int32) × (Nat → Int32)) (fun (v : Option Value) (u : (Nat → Int32) × Nat × (Nat → Int32) × (Nat → Int32) × (Nat → Int32)) => v = none ∧ bz (sha L) u.2.2.2.2) (fun (u : (Nat → Int32) × Nat × (Nat → Int32) × (Nat → Int32) × (Nat → Int32)) => [(h, .inr (0, [.ref nc, .ref fk, .ref ta, .ref ia, .ref qw, .ref qs])), (ta, .inr (3, [.ref tq, .int (nI u.2.1)])), (tq, .inl (cI g, 768, .inl u.1)), (qw, .inl (cI g, 64, .inl u.2.2.1)), (qs, .inl (cI g, 8, .inl u.2.2.2.1)), (oa, .inr (3, [.ref oq, .int (nI 32)])), (oq, .inl (cI g, on, .inl u.2.2.2.2))]) A) [.ref h, .ref oa].toArray s ({ frames := 1, cells := 0, slots := 0, locals := 35 } : Room).cells ({ frames := 1, cells := 0, slots := 0, locals := 35 } : Room).slots A) (F0 m 40 ls []) := by
    intro k
    induction k with
    | zero =>
      intro j f2 hk hb2 H locs hP hD hS ls hl
      refine lv_iload hx hb d_X0_closeText_40 (lv_at hl 0 rfl) ?_
      refine lv_iload_n hx hb d_X0_closeText_42 rfl (lv_at hl 1 rfl) ?_
      refine lv_iconst (v := (nI 4)) hx hb d_X0_closeText_43 (by decide) ?_
      refine ln_iadd hx hb d_X0_closeText_44 ?_
      refine ln_icmp_ge_t (tgt := 62) hx hb d_X0_closeText_45 (by decide) (by omega) (by omega) (by omega) ?_
      have ej : j = zeroN L.length + 4 := by omega
      subst ej
      refine lv_bipush (v := (nI 24)) hx hb d_X0_closeText_62 (by decide) ?_
      refine lv_istore (lv' := [(4, .int (nI 24)), (3, .int (nI (zeroN L.length))), (2, .int (nI (8 * L.length))), (0, .ref h), (1, .ref oa)]) hx hb d_X0_closeText_64 hl (by decide) rfl (fun ls hl => ?_)
      refine lv_iload hx hb d_X0_closeText_66 (lv_at hl 0 rfl) ?_
      refine ln_if_lt (tgt := 88) hx hb d_X0_closeText_68 (by decide) (by omega) (fun _ => ?_)
      refine lv_aload_n hx hb d_X0_closeText_71 rfl (lv_at hl 3 rfl) ?_
      refine va_get (D := g.2.1) (ci := 0) (v := .ref ta) (C := R_X0) (T := T_X0) (N := 6) hx hb ht i_X0 hown hK hP 0 rfl rfl 2 (by decide) (ht _ w_63) (fun _ h9 => h9) rfl d_X0_closeText_72 ?_
      refine lv_iload_n hx hb d_X0_closeText_75 rfl (lv_at hl 2 rfl) ?_
      refine lv_iload hx hb d_X0_closeText_76 (lv_at hl 0 rfl) ?_
      refine lv_iushr (v := us (nI (8 * L.length)) (nI 24)) hx hb d_X0_closeText_78 rfl ?_
      refine g_callV (As := [.int (us (nI (8 * L.length)) (nI 24))]) (rest := []) (wr := [(h, .inr (0, [.ref nc, .ref fk, .ref ta, .ref ia, .ref qw, .ref qs])), (qw, .inl (cI g, 64, .inl fw)), (qs, .inl (cI g, 8, .inl fs)), (oa, .inr (3, [.ref oq, .int (nI zo)])), (oq, .inl (cI g, on, .inl fo))]) (q0 := 0) (ci := 3) (XSok g) ⟨hx, hb, hml, hown, ht⟩ hK hA hXs hl.1 hP hD hS (c_X3_put g ta tq 768 f2 (L.length + 1 + (zeroN L.length + 4)) (us (nI (8 * L.length)) (nI 24)) (by omega) (by decide)) (g_perm 7 [1, 2, 0, 3, 4, 5, 6] rfl rfl (by decide +kernel)) rfl rfl (cwV 1 ht (tb_V w_55 w_56 w_57 w_3 k_X3_put) rfl rfl rfl (by decide +kernel) ⟨(Nat.le_of_ble_eq_true rfl), (Nat.le_of_ble_eq_true rfl)⟩) rfl rfl (Nat.le_of_ble_eq_true rfl) d_X0_closeText_79 ⟨(Nat.le_of_ble_eq_true rfl), (Nat.le_of_ble_eq_true rfl)⟩ (fun v u H locs hw hP hD hS => ?_)
      obtain rfl := hw
      have hP : va_P g.2.1 cls7 [(h, .inr (0, [.ref nc, .ref fk, .ref ta, .ref ia, .ref qw, .ref qs])), (qw, .inl (cI g, 64, .inl fw)), (qs, .inl (cI g, 8, .inl fs)), (oa, .inr (3, [.ref oq, .int (nI zo)])), (oq, .inl (cI g, on, .inl fo)), (ta, .inr (3, [.ref tq, .int (nI ((L.length + 1 + (zeroN L.length + 4)) + 1))])), (tq, .inl (cI g, 768, .inl (upd f2 (L.length + 1 + (zeroN L.length + 4)) ((us (nI (8 * L.length)) (nI 24)) &&& nI 255))))] H := hP
      have hD : va_D A [(h, .inr (0, [.ref nc, .ref fk, .ref ta, .ref ia, .ref qw, .ref qs])), (qw, .inl (cI g, 64, .inl fw)), (qs, .inl (cI g, 8, .inl fs)), (oa, .inr (3, [.ref oq, .int (nI zo)])), (oq, .inl (cI g, on, .inl fo)), (ta, .inr (3, [.ref tq, .int (nI ((L.length + 1 + (zeroN L.length + 4)) + 1))])), (tq, .inl (cI g, 768, .inl (upd f2 (L.length + 1 + (zeroN L.length + 4)) ((us (nI (8 * L.length)) (nI 24)) &&& nI 255))))] := hD
      refine W.eq (g2 := F0 m 82 ls []) rfl ?_
      have hb4 : bz (((L ++ [128]) ++ List.replicate (zeroN L.length + 4) 0) ++ [8 * L.length / 2 ^ 24 % 256]) (upd f2 (L.length + 1 + (zeroN L.length + 4)) ((us (nI (8 * L.length)) (nI 24)) &&& nI 255)) := bz_put hb2 (by simp; try omega) (us_byte (by omega) (by decide))
      generalize (upd f2 (L.length + 1 + (zeroN L.length + 4)) ((us (nI (8 * L.length)) (nI 24)) &&& nI 255)) = f4 at hP hD hb4
      refine lv_iinc (v := (nI 16)) (lv' := [(4, .int (nI 16)), (3, .int (nI (zeroN L.length))), (2, .int (nI (8 * L.length))), (0, .ref h), (1, .ref oa)]) hx hb d_X0_closeText_82 hl (k := 0) rfl (by decide) (by decide) rfl (fun ls hl => ?_)
      refine lv_goto (tgt := 66) hx hb d_X0_closeText_85 (by decide) ?_
      refine lv_iload hx hb d_X0_closeText_66 (lv_at hl 0 rfl) ?_
      refine ln_if_lt (tgt := 88) hx hb d_X0_closeText_68 (by decide) (by omega) (fun _ => ?_)
      refine lv_aload_n hx hb d_X0_closeText_71 rfl (lv_at hl 3 rfl) ?_
      refine va_get (D := g.2.1) (ci := 0) (v := .ref ta) (C := R_X0) (T := T_X0) (N := 6) hx hb ht i_X0 hown hK hP 0 rfl rfl 2 (by decide) (ht _ w_63) (fun _ h9 => h9) rfl d_X0_closeText_72 ?_
      refine lv_iload_n hx hb d_X0_closeText_75 rfl (lv_at hl 2 rfl) ?_
      refine lv_iload hx hb d_X0_closeText_76 (lv_at hl 0 rfl) ?_
      refine lv_iushr (v := us (nI (8 * L.length)) (nI 16)) hx hb d_X0_closeText_78 rfl ?_
      refine g_callV (As := [.int (us (nI (8 * L.length)) (nI 16))]) (rest := []) (wr := [(h, .inr (0, [.ref nc, .ref fk, .ref ta, .ref ia, .ref qw, .ref qs])), (qw, .inl (cI g, 64, .inl fw)), (qs, .inl (cI g, 8, .inl fs)), (oa, .inr (3, [.ref oq, .int (nI zo)])), (oq, .inl (cI g, on, .inl fo))]) (q0 := 0) (ci := 3) (XSok g) ⟨hx, hb, hml, hown, ht⟩ hK hA hXs hl.1 hP hD hS (c_X3_put g ta tq 768 f4 ((L.length + 1 + (zeroN L.length + 4)) + 1) (us (nI (8 * L.length)) (nI 16)) (by omega) (by decide)) (g_perm 7 [5, 6, 0, 1, 2, 3, 4] rfl rfl (by decide +kernel)) rfl rfl (cwV 1 ht (tb_V w_55 w_56 w_57 w_3 k_X3_put) rfl rfl rfl (by decide +kernel) ⟨(Nat.le_of_ble_eq_true rfl), (Nat.le_of_ble_eq_true rfl)⟩) rfl rfl (Nat.le_of_ble_eq_true rfl) d_X0_closeText_79 ⟨(Nat.le_of_ble_eq_true rfl), (Nat.le_of_ble_eq_true rfl)⟩ (fun v u H locs hw hP hD hS => ?_)
      obtain rfl := hw
      have hP : va_P g.2.1 cls7 [(h, .inr (0, [.ref nc, .ref fk, .ref ta, .ref ia, .ref qw, .ref qs])), (qw, .inl (cI g, 64, .inl fw)), (qs, .inl (cI g, 8, .inl fs)), (oa, .inr (3, [.ref oq, .int (nI zo)])), (oq, .inl (cI g, on, .inl fo)), (ta, .inr (3, [.ref tq, .int (nI (((L.length + 1 + (zeroN L.length + 4)) + 1) + 1))])), (tq, .inl (cI g, 768, .inl (upd f4 ((L.length + 1 + (zeroN L.length + 4)) + 1) ((us (nI (8 * L.length)) (nI 16)) &&& nI 255))))] H := hP
      have hD : va_D A [(h, .inr (0, [.ref nc, .ref fk, .ref ta, .ref ia, .ref qw, .ref qs])), (qw, .inl (cI g, 64, .inl fw)), (qs, .inl (cI g, 8, .inl fs)), (oa, .inr (3, [.ref oq, .int (nI zo)])), (oq, .inl (cI g, on, .inl fo)), (ta, .inr (3, [.ref tq, .int (nI (((L.length + 1 + (zeroN L.length + 4)) + 1) + 1))])), (tq, .inl (cI g, 768, .inl (upd f4 ((L.length + 1 + (zeroN L.length + 4)) + 1) ((us (nI (8 * L.length)) (nI 16)) &&& nI 255))))] := hD
      refine W.eq (g2 := F0 m 82 ls []) rfl ?_
      have hb5 : bz ((((L ++ [128]) ++ List.replicate (zeroN L.length + 4) 0) ++ [8 * L.length / 2 ^ 24 % 256]) ++ [8 * L.length / 2 ^ 16 % 256]) (upd f4 ((L.length + 1 + (zeroN L.length + 4)) + 1) ((us (nI (8 * L.length)) (nI 16)) &&& nI 255)) := bz_put hb4 (by simp; try omega) (us_byte (by omega) (by decide))
      generalize (upd f4 ((L.length + 1 + (zeroN L.length + 4)) + 1) ((us (nI (8 * L.length)) (nI 16)) &&& nI 255)) = f5 at hP hD hb5
      refine lv_iinc (v := (nI 8)) (lv' := [(4, .int (nI 8)), (3, .int (nI (zeroN L.length))), (2, .int (nI (8 * L.length))), (0, .ref h), (1, .ref oa)]) hx hb d_X0_closeText_82 hl (k := 0) rfl (by decide) (by decide) rfl (fun ls hl => ?_)
      refine lv_goto (tgt := 66) hx hb d_X0_closeText_85 (by decide) ?_
      refine lv_iload hx hb d_X0_closeText_66 (lv_at hl 0 rfl) ?_
      refine ln_if_lt (tgt := 88) hx hb d_X0_closeText_68 (by decide) (by omega) (fun _ => ?_)
      refine lv_aload_n hx hb d_X0_closeText_71 rfl (lv_at hl 3 rfl) ?_
      refine va_get (D := g.2.1) (ci := 0) (v := .ref ta) (C := R_X0) (T := T_X0) (N := 6) hx hb ht i_X0 hown hK hP 0 rfl rfl 2 (by decide) (ht _ w_63) (fun _ h9 => h9) rfl d_X0_closeText_72 ?_
      refine lv_iload_n hx hb d_X0_closeText_75 rfl (lv_at hl 2 rfl) ?_
      refine lv_iload hx hb d_X0_closeText_76 (lv_at hl 0 rfl) ?_
      refine lv_iushr (v := us (nI (8 * L.length)) (nI 8)) hx hb d_X0_closeText_78 rfl ?_
      refine g_callV (As := [.int (us (nI (8 * L.length)) (nI 8))]) (rest := []) (wr := [(h, .inr (0, [.ref nc, .ref fk, .ref ta, .ref ia, .ref qw, .ref qs])), (qw, .inl (cI g, 64, .inl fw)), (qs, .inl (cI g, 8, .inl fs)), (oa, .inr (3, [.ref oq, .int (nI zo)])), (oq, .inl (cI g, on, .inl fo))]) (q0 := 0) (ci := 3) (XSok g) ⟨hx, hb, hml, hown, ht⟩ hK hA hXs hl.1 hP hD hS (c_X3_put g ta tq 768 f5 (((L.length + 1 + (zeroN L.length + 4)) + 1) + 1) (us (nI (8 * L.length)) (nI 8)) (by omega) (by decide)) (g_perm 7 [5, 6, 0, 1, 2, 3, 4] rfl rfl (by decide +kernel)) rfl rfl (cwV 1 ht (tb_V w_55 w_56 w_57 w_3 k_X3_put) rfl rfl rfl (by decide +kernel) ⟨(Nat.le_of_ble_eq_true rfl), (Nat.le_of_ble_eq_true rfl)⟩) rfl rfl (Nat.le_of_ble_eq_true rfl) d_X0_closeText_79 ⟨(Nat.le_of_ble_eq_true rfl), (Nat.le_of_ble_eq_true rfl)⟩ (fun v u H locs hw hP hD hS => ?_)
      obtain rfl := hw
      have hP : va_P g.2.1 cls7 [(h, .inr (0, [.ref nc, .ref fk, .ref ta, .ref ia, .ref qw, .ref qs])), (qw, .inl (cI g, 64, .inl fw)), (qs, .inl (cI g, 8, .inl fs)), (oa, .inr (3, [.ref oq, .int (nI zo)])), (oq, .inl (cI g, on, .inl fo)), (ta, .inr (3, [.ref tq, .int (nI ((((L.length + 1 + (zeroN L.length + 4)) + 1) + 1) + 1))])), (tq, .inl (cI g, 768, .inl (upd f5 (((L.length + 1 + (zeroN L.length + 4)) + 1) + 1) ((us (nI (8 * L.length)) (nI 8)) &&& nI 255))))] H := hP
      have hD : va_D A [(h, .inr (0, [.ref nc, .ref fk, .ref ta, .ref ia, .ref qw, .ref qs])), (qw, .inl (cI g, 64, .inl fw)), (qs, .inl (cI g, 8, .inl fs)), (oa, .inr (3, [.ref oq, .int (nI zo)])), (oq, .inl (cI g, on, .inl fo)), (ta, .inr (3, [.ref tq, .int (nI ((((L.length + 1 + (zeroN L.length + 4)) + 1) + 1) + 1))])), (tq, .inl (cI g, 768, .inl (upd f5 (((L.length + 1 + (zeroN L.length + 4)) + 1) + 1) ((us (nI (8 * L.length)) (nI 8)) &&& nI 255))))] := hD
      refine W.eq (g2 := F0 m 82 ls []) rfl ?_
      have hb6 : bz (((((L ++ [128]) ++ List.replicate (zeroN L.length + 4) 0) ++ [8 * L.length / 2 ^ 24 % 256]) ++ [8 * L.length / 2 ^ 16 % 256]) ++ [8 * L.length / 2 ^ 8 % 256]) (upd f5 (((L.length + 1 + (zeroN L.length + 4)) + 1) + 1) ((us (nI (8 * L.length)) (nI 8)) &&& nI 255)) := bz_put hb5 (by simp; try omega) (us_byte (by omega) (by decide))
      generalize (upd f5 (((L.length + 1 + (zeroN L.length + 4)) + 1) + 1) ((us (nI (8 * L.length)) (nI 8)) &&& nI 255)) = f6 at hP hD hb6
      refine lv_iinc (v := (nI 0)) (lv' := [(4, .int (nI 0)), (3, .int (nI (zeroN L.length))), (2, .int (nI (8 * L.length))), (0, .ref h), (1, .ref oa)]) hx hb d_X0_closeText_82 hl (k := 0) rfl (by decide) (by decide) rfl (fun ls hl => ?_)
      refine lv_goto (tgt := 66) hx hb d_X0_closeText_85 (by decide) ?_
      refine lv_iload hx hb d_X0_closeText_66 (lv_at hl 0 rfl) ?_
      refine ln_if_lt (tgt := 88) hx hb d_X0_closeText_68 (by decide) (by omega) (fun _ => ?_)
      refine lv_aload_n hx hb d_X0_closeText_71 rfl (lv_at hl 3 rfl) ?_
      refine va_get (D := g.2.1) (ci := 0) (v := .ref ta) (C := R_X0) (T := T_X0) (N := 6) hx hb ht i_X0 hown hK hP 0 rfl rfl 2 (by decide) (ht _ w_63) (fun _ h9 => h9) rfl d_X0_closeText_72 ?_
      refine lv_iload_n hx hb d_X0_closeText_75 rfl (lv_at hl 2 rfl) ?_
      refine lv_iload hx hb d_X0_closeText_76 (lv_at hl 0 rfl) ?_
      refine lv_iushr (v := us (nI (8 * L.length)) (nI 0)) hx hb d_X0_closeText_78 rfl ?_
      refine g_callV (As := [.int (us (nI (8 * L.length)) (nI 0))]) (rest := []) (wr := [(h, .inr (0, [.ref nc, .ref fk, .ref ta, .ref ia, .ref qw, .ref qs])), (qw, .inl (cI g, 64, .inl fw)), (qs, .inl (cI g, 8, .inl fs)), (oa, .inr (3, [.ref oq, .int (nI zo)])), (oq, .inl (cI g, on, .inl fo))]) (q0 := 0) (ci := 3) (XSok g) ⟨hx, hb, hml, hown, ht⟩ hK hA hXs hl.1 hP hD hS (c_X3_put g ta tq 768 f6 ((((L.length + 1 + (zeroN L.length + 4)) + 1) + 1) + 1) (us (nI (8 * L.length)) (nI 0)) (by omega) (by decide)) (g_perm 7 [5, 6, 0, 1, 2, 3, 4] rfl rfl (by decide +kernel)) rfl rfl (cwV 1 ht (tb_V w_55 w_56 w_57 w_3 k_X3_put) rfl rfl rfl (by decide +kernel) ⟨(Nat.le_of_ble_eq_true rfl), (Nat.le_of_ble_eq_true rfl)⟩) rfl rfl (Nat.le_of_ble_eq_true rfl) d_X0_closeText_79 ⟨(Nat.le_of_ble_eq_true rfl), (Nat.le_of_ble_eq_true rfl)⟩ (fun v u H locs hw hP hD hS => ?_)
      obtain rfl := hw
      have hP : va_P g.2.1 cls7 [(h, .inr (0, [.ref nc, .ref fk, .ref ta, .ref ia, .ref qw, .ref qs])), (qw, .inl (cI g, 64, .inl fw)), (qs, .inl (cI g, 8, .inl fs)), (oa, .inr (3, [.ref oq, .int (nI zo)])), (oq, .inl (cI g, on, .inl fo)), (ta, .inr (3, [.ref tq, .int (nI (((((L.length + 1 + (zeroN L.length + 4)) + 1) + 1) + 1) + 1))])), (tq, .inl (cI g, 768, .inl (upd f6 ((((L.length + 1 + (zeroN L.length + 4)) + 1) + 1) + 1) ((us (nI (8 * L.length)) (nI 0)) &&& nI 255))))] H := hP
      have hD : va_D A [(h, .inr (0, [.ref nc, .ref fk, .ref ta, .ref ia, .ref qw, .ref qs])), (qw, .inl (cI g, 64, .inl fw)), (qs, .inl (cI g, 8, .inl fs)), (oa, .inr (3, [.ref oq, .int (nI zo)])), (oq, .inl (cI g, on, .inl fo)), (ta, .inr (3, [.ref tq, .int (nI (((((L.length + 1 + (zeroN L.length + 4)) + 1) + 1) + 1) + 1))])), (tq, .inl (cI g, 768, .inl (upd f6 ((((L.length + 1 + (zeroN L.length + 4)) + 1) + 1) + 1) ((us (nI (8 * L.length)) (nI 0)) &&& nI 255))))] := hD
      refine W.eq (g2 := F0 m 82 ls []) rfl ?_
      have hb7 : bz ((((((L ++ [128]) ++ List.replicate (zeroN L.length + 4) 0) ++ [8 * L.length / 2 ^ 24 % 256]) ++ [8 * L.length / 2 ^ 16 % 256]) ++ [8 * L.length / 2 ^ 8 % 256]) ++ [8 * L.length % 256]) (upd f6 ((((L.length + 1 + (zeroN L.length + 4)) + 1) + 1) + 1) ((us (nI (8 * L.length)) (nI 0)) &&& nI 255)) := bz_put hb6 (by simp; try omega) (by have := us_byte (n := 8 * L.length) (k := 0) (by omega) (by decide); simpa using this)
      generalize (upd f6 ((((L.length + 1 + (zeroN L.length + 4)) + 1) + 1) + 1) ((us (nI (8 * L.length)) (nI 0)) &&& nI 255)) = f7 at hP hD hb7
      refine lv_iinc (v := (-8)) (lv' := [(4, .int (-8)), (3, .int (nI (zeroN L.length))), (2, .int (nI (8 * L.length))), (0, .ref h), (1, .ref oa)]) hx hb d_X0_closeText_82 hl (k := 0) rfl (by decide) (by decide) rfl (fun ls hl => ?_)
      refine lv_goto (tgt := 66) hx hb d_X0_closeText_85 (by decide) ?_
      refine lv_iload hx hb d_X0_closeText_66 (lv_at hl 0 rfl) ?_
      refine lv_if_lt (tgt := 88) hx hb d_X0_closeText_68 (by decide) (fun _ => ?_) (fun c_1 => absurd (by decide : ((-8) : Int32) < 0) c_1)
      have hbp : bz (padL L) f7 := hb7
      have hpl := padL_length L
      refine lv_aload_n hx hb d_X0_closeText_88 rfl (lv_at hl 3 rfl) ?_
      refine g_callV (As := []) (rest := []) (wr := [(qw, .inl (cI g, 64, .inl fw)), (oa, .inr (3, [.ref oq, .int (nI zo)])), (oq, .inl (cI g, on, .inl fo)), (ta, .inr (3, [.ref tq, .int (nI (((((L.length + 1 + (zeroN L.length + 4)) + 1) + 1) + 1) + 1))])), (tq, .inl (cI g, 768, .inl f7))]) (q0 := 0) (ci := 0) (XSok g) ⟨hx, hb, hml, hown, ht⟩ hK hA hXs hl.1 hP hD hS (c_X0_startSums g h nc fk ta ia qw qs fs ) (g_perm 7 [0, 2, 1, 3, 4, 5, 6] rfl rfl (by decide +kernel)) rfl rfl (cwV 0 ht (tb_V w_366 w_368 wp_5 w_2 k_X0_startSums) rfl rfl rfl (by decide +kernel) ⟨(Nat.le_of_ble_eq_true rfl), (Nat.le_of_ble_eq_true rfl)⟩) rfl rfl (Nat.le_of_ble_eq_true rfl) d_X0_closeText_89 ⟨(Nat.le_of_ble_eq_true rfl), (Nat.le_of_ble_eq_true rfl)⟩ (fun v u H locs hs1 hP hD hS => ?_)
      obtain ⟨s1, rfl⟩ : ∃ z, z = u := ⟨_, rfl⟩
      obtain ⟨rfl, hs1⟩ := hs1
      have hP : va_P g.2.1 cls7 [(qw, .inl (cI g, 64, .inl fw)), (oa, .inr (3, [.ref oq, .int (nI zo)])), (oq, .inl (cI g, on, .inl fo)), (ta, .inr (3, [.ref tq, .int (nI (((((L.length + 1 + (zeroN L.length + 4)) + 1) + 1) + 1) + 1))])), (tq, .inl (cI g, 768, .inl f7)), (h, .inr (0, [.ref nc, .ref fk, .ref ta, .ref ia, .ref qw, .ref qs])), (qs, .inl (cI g, 8, .inl s1))] H := hP
      have hD : va_D A [(qw, .inl (cI g, 64, .inl fw)), (oa, .inr (3, [.ref oq, .int (nI zo)])), (oq, .inl (cI g, on, .inl fo)), (ta, .inr (3, [.ref tq, .int (nI (((((L.length + 1 + (zeroN L.length + 4)) + 1) + 1) + 1) + 1))])), (tq, .inl (cI g, 768, .inl f7)), (h, .inr (0, [.ref nc, .ref fk, .ref ta, .ref ia, .ref qw, .ref qs])), (qs, .inl (cI g, 8, .inl s1))] := hD
      refine W.eq (g2 := F0 m 92 ls []) rfl ?_
      refine lv_iconst (v := (nI 0)) hx hb d_X0_closeText_92 (by decide) ?_
      refine lv_istore (lv' := [(4, .int (nI 0)), (3, .int (nI (zeroN L.length))), (2, .int (nI (8 * L.length))), (0, .ref h), (1, .ref oa)]) hx hb d_X0_closeText_93 hl (by decide) rfl (fun ls hl => ?_)
      have loopf : ∀ (k : Nat) (j : Nat) (w2 : Nat → Int32) (s2 : Nat → Int32) (hk : j + k = nbL L.length) (hs : ∀ i, i < 8 → s2 i = sh_H (padL L) j i) (H : Heap) (locs : List Loc) (hP : va_P g.2.1 cls7 [(h, .inr (0, [.ref nc, .ref fk, .ref ta, .ref ia, .ref qw, .ref qs])), (ta, .inr (3, [.ref tq, .int (nI (((((L.length + 1 + (zeroN L.length + 4)) + 1) + 1) + 1) + 1))])), (tq, .inl (cI g, 768, .inl f7)), (qw, .inl (cI g, 64, .inl w2)), (qs, .inl (cI g, 8, .inl s2)), (oa, .inr (3, [.ref oq, .int (nI zo)])), (oq, .inl (cI g, on, .inl fo))] H) (hD : va_D A [(h, .inr (0, [.ref nc, .ref fk, .ref ta, .ref ia, .ref qw, .ref qs])), (ta, .inr (3, [.ref tq, .int (nI (((((L.length + 1 + (zeroN L.length + 4)) + 1) + 1) + 1) + 1))])), (tq, .inl (cI g, 768, .inl f7)), (qw, .inl (cI g, 64, .inl w2)), (qs, .inl (cI g, 8, .inl s2)), (oa, .inr (3, [.ref oq, .int (nI zo)])), (oq, .inl (cI g, on, .inl fo))]) (hS : va_S A s.heap H locs) (ls : Array Slot) (hl : lv_has ls 5 [(4, .int (nI (64 * j))), (0, .ref h), (1, .ref oa)]), W p g.1 e ({ frames := 1, cells := 0, slots := 0, locals := 35 } : Room) s m [.ref h, .ref oa].toArray below meth c H locs 0 0 (MQ below (gQ g.2.1 cls7 (S := (Nat → Int32) × Nat × (Nat → Int32) × (Nat → Int32) × (Nat → Int32)) (fun (v : Option Value) (u : (Nat → Int32) × Nat × (Nat → Int32) × (Nat → Int32) × (Nat → Int32)) => v = none ∧ bz (sha L) u.2.2.2.2) (fun (u : (Nat → Int32) × Nat × (Nat → Int32) × (Nat → Int32) × (Nat → Int32)) => [(h, .inr (0, [.ref nc, .ref fk, .ref ta, .ref ia, .ref qw, .ref qs])), (ta, .inr (3, [.ref tq, .int (nI u.2.1)])), (tq, .inl (cI g, 768, .inl u.1)), (qw, .inl (cI g, 64, .inl u.2.2.1)), (qs, .inl (cI g, 8, .inl u.2.2.2.1)), (oa, .inr (3, [.ref oq, .int (nI 32)])), (oq, .inl (cI g, on, .inl u.2.2.2.2))]) A) [.ref h, .ref oa].toArray s ({ frames := 1, cells := 0, slots := 0, locals := 35 } : Room).cells ({ frames := 1, cells := 0, slots := 0, locals := 35 } : Room).slots A) (F0 m 95 ls []) := by
        intro k
        induction k with
        | zero =>
          intro j w2 s2 hk hs H locs hP hD hS ls hl
          refine lv_iload hx hb d_X0_closeText_95 (lv_at hl 0 rfl) ?_
          refine lv_bipush (v := (nI 64)) hx hb d_X0_closeText_97 (by decide) ?_
          refine ln_iadd hx hb d_X0_closeText_99 ?_
          refine lv_aload_n hx hb d_X0_closeText_100 rfl (lv_at hl 1 rfl) ?_
          refine va_get (D := g.2.1) (ci := 0) (v := .ref ta) (C := R_X0) (T := T_X0) (N := 6) hx hb ht i_X0 hown hK hP 0 rfl rfl 2 (by decide) (ht _ w_63) (fun _ h9 => h9) rfl d_X0_closeText_101 ?_
          refine va_get (D := g.2.1) (ci := 3) (v := .int (nI (((((L.length + 1 + (zeroN L.length + 4)) + 1) + 1) + 1) + 1))) (C := R_X3) (T := T_X3) (N := 2) hx hb ht i_X3 hown hK hP 1 rfl rfl 1 (by decide) (ht _ w_48) (fun _ h9 => h9) rfl d_X0_closeText_104 ?_
          refine ln_icmp_gt_t (tgt := 126) hx hb d_X0_closeText_107 (by decide) (by omega) (by omega) (by omega) ?_
          obtain rfl : j = nbL L.length := by omega
          refine lv_aload_n hx hb d_X0_closeText_126 rfl (lv_at hl 2 rfl) ?_
          refine g_callV (As := []) (rest := []) (wr := [(h, .inr (0, [.ref nc, .ref fk, .ref ta, .ref ia, .ref qw, .ref qs])), (ta, .inr (3, [.ref tq, .int (nI (((((L.length + 1 + (zeroN L.length + 4)) + 1) + 1) + 1) + 1))])), (tq, .inl (cI g, 768, .inl f7)), (qw, .inl (cI g, 64, .inl w2)), (qs, .inl (cI g, 8, .inl s2))]) (q0 := 0) (ci := 3) (XSok g) ⟨hx, hb, hml, hown, ht⟩ hK hA hXs hl.1 hP hD hS (c_X3_clear g oa oq on fo zo ) (g_perm 7 [5, 6, 0, 1, 2, 3, 4] rfl rfl (by decide +kernel)) rfl rfl (cwV 0 ht (tb_V w_353 w_213 w_214 w_3 k_X3_clear) rfl rfl rfl (by decide +kernel) ⟨(Nat.le_of_ble_eq_true rfl), (Nat.le_of_ble_eq_true rfl)⟩) rfl rfl (Nat.le_of_ble_eq_true rfl) d_X0_closeText_127 ⟨(Nat.le_of_ble_eq_true rfl), (Nat.le_of_ble_eq_true rfl)⟩ (fun v u H locs hw hP hD hS => ?_)
          obtain rfl := hw
          have hP : va_P g.2.1 cls7 [(h, .inr (0, [.ref nc, .ref fk, .ref ta, .ref ia, .ref qw, .ref qs])), (ta, .inr (3, [.ref tq, .int (nI (((((L.length + 1 + (zeroN L.length + 4)) + 1) + 1) + 1) + 1))])), (tq, .inl (cI g, 768, .inl f7)), (qw, .inl (cI g, 64, .inl w2)), (qs, .inl (cI g, 8, .inl s2)), (oa, .inr (3, [.ref oq, .int (nI 0)])), (oq, .inl (cI g, on, .inl fo))] H := hP
          have hD : va_D A [(h, .inr (0, [.ref nc, .ref fk, .ref ta, .ref ia, .ref qw, .ref qs])), (ta, .inr (3, [.ref tq, .int (nI (((((L.length + 1 + (zeroN L.length + 4)) + 1) + 1) + 1) + 1))])), (tq, .inl (cI g, 768, .inl f7)), (qw, .inl (cI g, 64, .inl w2)), (qs, .inl (cI g, 8, .inl s2)), (oa, .inr (3, [.ref oq, .int (nI 0)])), (oq, .inl (cI g, on, .inl fo))] := hD
          refine W.eq (g2 := F0 m 130 ls []) rfl ?_
          refine lv_iconst (v := (nI 0)) hx hb d_X0_closeText_130 (by decide) ?_
          refine lv_istore (lv' := [(4, .int (nI 0)), (0, .ref h), (1, .ref oa)]) hx hb d_X0_closeText_131 hl (by decide) rfl (fun ls hl => ?_)
          have loopg : ∀ (k : Nat) (i : Nat) (o2 : Nat → Int32) (hk : i + k = 32) (hb8 : bz ((List.range i).map (sh_byte (sh_H (padL L) (nbL L.length)))) o2) (H : Heap) (locs : List Loc) (hP : va_P g.2.1 cls7 [(h, .inr (0, [.ref nc, .ref fk, .ref ta, .ref ia, .ref qw, .ref qs])), (ta, .inr (3, [.ref tq, .int (nI (((((L.length + 1 + (zeroN L.length + 4)) + 1) + 1) + 1) + 1))])), (tq, .inl (cI g, 768, .inl f7)), (qw, .inl (cI g, 64, .inl w2)), (qs, .inl (cI g, 8, .inl s2)), (oa, .inr (3, [.ref oq, .int (nI i)])), (oq, .inl (cI g, on, .inl o2))] H) (hD : va_D A [(h, .inr (0, [.ref nc, .ref fk, .ref ta, .ref ia, .ref qw, .ref qs])), (ta, .inr (3, [.ref tq, .int (nI (((((L.length + 1 + (zeroN L.length + 4)) + 1) + 1) + 1) + 1))])), (tq, .inl (cI g, 768, .inl f7)), (qw, .inl (cI g, 64, .inl w2)), (qs, .inl (cI g, 8, .inl s2)), (oa, .inr (3, [.ref oq, .int (nI i)])), (oq, .inl (cI g, on, .inl o2))]) (hS : va_S A s.heap H locs) (ls : Array Slot) (hl : lv_has ls 5 [(4, .int (nI i)), (0, .ref h), (1, .ref oa)]), W p g.1 e ({ frames := 1, cells := 0, slots := 0, locals := 35 } : Room) s m [.ref h, .ref oa].toArray below meth c H locs 0 0 (MQ below (gQ g.2.1 cls7 (S := (Nat → Int32) × Nat × (Nat → Int32) × (Nat → Int32) × (Nat → Int32)) (fun (v : Option Value) (u : (Nat → Int32) × Nat × (Nat → Int32) × (Nat → Int32) × (Nat → Int32)) => v = none ∧ bz (sha L) u.2.2.2.2) (fun (u : (Nat → Int32) × Nat × (Nat → Int32) × (Nat → Int32) × (Nat → Int32)) => [(h, .inr (0, [.ref nc, .ref fk, .ref ta, .ref ia, .ref qw, .ref qs])), (ta, .inr (3, [.ref tq, .int (nI u.2.1)])), (tq, .inl (cI g, 768, .inl u.1)), (qw, .inl (cI g, 64, .inl u.2.2.1)), (qs, .inl (cI g, 8, .inl u.2.2.2.1)), (oa, .inr (3, [.ref oq, .int (nI 32)])), (oq, .inl (cI g, on, .inl u.2.2.2.2))]) A) [.ref h, .ref oa].toArray s ({ frames := 1, cells := 0, slots := 0, locals := 35 } : Room).cells ({ frames := 1, cells := 0, slots := 0, locals := 35 } : Room).slots A) (F0 m 133 ls []) := by
            intro k
            induction k with
            | zero =>
              intro i o2 hk hb8 H locs hP hD hS ls hl
              refine lv_iload hx hb d_X0_closeText_133 (lv_at hl 0 rfl) ?_
              refine lv_bipush (v := (nI 32)) hx hb d_X0_closeText_135 (by decide) ?_
              refine ln_icmp_ge_t (tgt := 170) hx hb d_X0_closeText_137 (by decide) (by omega) (by omega) (by omega) ?_
              obtain rfl : i = 32 := by omega
              exact g_vret hx hb hr hlocks hP hD hS (f7, ((((L.length + 1 + (zeroN L.length + 4)) + 1) + 1) + 1) + 1, w2, s2, o2) (List.Perm.refl _) ⟨rfl, hb8⟩ (Nat.le_of_ble_eq_true rfl) (Nat.le_of_ble_eq_true rfl) d_X0_closeText_170
            | succ k ih =>
              intro i o2 hk hb8 H locs hP hD hS ls hl
              refine lv_iload hx hb d_X0_closeText_133 (lv_at hl 0 rfl) ?_
              refine lv_bipush (v := (nI 32)) hx hb d_X0_closeText_135 (by decide) ?_
              refine ln_icmp_ge_f (tgt := 170) hx hb d_X0_closeText_137 (by decide) (by omega) (by omega) (by omega) ?_
              refine lv_aload_n hx hb d_X0_closeText_140 rfl (lv_at hl 2 rfl) ?_
              refine lv_aload_n hx hb d_X0_closeText_141 rfl (lv_at hl 1 rfl) ?_
              refine va_get (D := g.2.1) (ci := 0) (v := .ref qs) (C := R_X0) (T := T_X0) (N := 6) hx hb ht i_X0 hown hK hP 0 rfl rfl 5 (by decide) (ht _ w_66) (fun _ h9 => h9) rfl d_X0_closeText_142 ?_
              refine lv_iload hx hb d_X0_closeText_145 (lv_at hl 0 rfl) ?_
              refine lv_iconst (v := (nI 2)) hx hb d_X0_closeText_147 (by decide) ?_
              refine lv_iushr (v := us (nI i) (nI 2)) hx hb d_X0_closeText_148 rfl ?_
              rw [us2 i (by omega)]
              refine ln_iald hx hb hK hP 4 0 rfl rfl (by omega) (by omega) d_X0_closeText_149 ?_
              refine lv_bipush (v := (nI 24)) hx hb d_X0_closeText_150 (by decide) ?_
              refine lv_bipush (v := (nI 8)) hx hb d_X0_closeText_152 (by decide) ?_
              refine lv_iload hx hb d_X0_closeText_154 (lv_at hl 0 rfl) ?_
              refine lv_iconst (v := (nI 3)) hx hb d_X0_closeText_156 (by decide) ?_
              refine lv_iand hx hb d_X0_closeText_157 ?_
              rw [and3 i (by omega)]
              refine ln_imul hx hb d_X0_closeText_158 ?_
              refine ln_isub hx hb d_X0_closeText_159 (by omega) ?_
              refine lv_iushr (v := us (s2 (i / 4)) (nI (24 - (8 * (i % 4))))) hx hb d_X0_closeText_160 rfl ?_
              refine g_callV (As := [.int (us (s2 (i / 4)) (nI (24 - (8 * (i % 4)))))]) (rest := []) (wr := [(h, .inr (0, [.ref nc, .ref fk, .ref ta, .ref ia, .ref qw, .ref qs])), (ta, .inr (3, [.ref tq, .int (nI (((((L.length + 1 + (zeroN L.length + 4)) + 1) + 1) + 1) + 1))])), (tq, .inl (cI g, 768, .inl f7)), (qw, .inl (cI g, 64, .inl w2)), (qs, .inl (cI g, 8, .inl s2))]) (q0 := 0) (ci := 3) (XSok g) ⟨hx, hb, hml, hown, ht⟩ hK hA hXs hl.1 hP hD hS (c_X3_put g oa oq on o2 i (us (s2 (i / 4)) (nI (24 - (8 * (i % 4))))) (by omega) (by omega)) (g_perm 7 [5, 6, 0, 1, 2, 3, 4] rfl rfl (by decide +kernel)) rfl rfl (cwV 1 ht (tb_V w_55 w_56 w_57 w_3 k_X3_put) rfl rfl rfl (by decide +kernel) ⟨(Nat.le_of_ble_eq_true rfl), (Nat.le_of_ble_eq_true rfl)⟩) rfl rfl (Nat.le_of_ble_eq_true rfl) d_X0_closeText_161 ⟨(Nat.le_of_ble_eq_true rfl), (Nat.le_of_ble_eq_true rfl)⟩ (fun v u H locs hw hP hD hS => ?_)
              obtain rfl := hw
              have hP : va_P g.2.1 cls7 [(h, .inr (0, [.ref nc, .ref fk, .ref ta, .ref ia, .ref qw, .ref qs])), (ta, .inr (3, [.ref tq, .int (nI (((((L.length + 1 + (zeroN L.length + 4)) + 1) + 1) + 1) + 1))])), (tq, .inl (cI g, 768, .inl f7)), (qw, .inl (cI g, 64, .inl w2)), (qs, .inl (cI g, 8, .inl s2)), (oa, .inr (3, [.ref oq, .int (nI (i + 1))])), (oq, .inl (cI g, on, .inl (upd o2 i ((us (s2 (i / 4)) (nI (24 - (8 * (i % 4))))) &&& nI 255))))] H := hP
              have hD : va_D A [(h, .inr (0, [.ref nc, .ref fk, .ref ta, .ref ia, .ref qw, .ref qs])), (ta, .inr (3, [.ref tq, .int (nI (((((L.length + 1 + (zeroN L.length + 4)) + 1) + 1) + 1) + 1))])), (tq, .inl (cI g, 768, .inl f7)), (qw, .inl (cI g, 64, .inl w2)), (qs, .inl (cI g, 8, .inl s2)), (oa, .inr (3, [.ref oq, .int (nI (i + 1))])), (oq, .inl (cI g, on, .inl (upd o2 i ((us (s2 (i / 4)) (nI (24 - (8 * (i % 4))))) &&& nI 255))))] := hD
              refine W.eq (g2 := F0 m 164 ls []) rfl ?_
              have hb9 : bz ((List.range (i + 1)).map (sh_byte (sh_H (padL L) (nbL L.length)))) (upd o2 i ((us (s2 (i / 4)) (nI (24 - (8 * (i % 4))))) &&& nI 255)) := by
                rw [← range_put]
                refine bz_put hb8 (by simp) ?_
                rw [and255, hs (i / 4) (by omega)]
                rfl
              refine ln_iinc (d := 1) (lv' := [(4, .int (nI (i + 1))), (0, .ref h), (1, .ref oa)]) hx hb d_X0_closeText_164 hl (k := 0) rfl rfl (by decide) rfl (fun ls hl => ?_)
              refine lv_goto (tgt := 133) hx hb d_X0_closeText_167 (by decide) ?_
              exact ih (i + 1) (upd o2 i ((us (s2 (i / 4)) (nI (24 - (8 * (i % 4))))) &&& nI 255)) (by omega) hb9 _ _ hP hD hS ls (lv_sub hl [0, 1, 2] rfl)
          exact loopg 32 0 fo (by omega) (bz_nil fo) _ _ hP hD hS ls (lv_sub hl [0, 1, 2] rfl)
        | succ k ih =>
          intro j w2 s2 hk hs H locs hP hD hS ls hl
          refine lv_iload hx hb d_X0_closeText_95 (lv_at hl 0 rfl) ?_
          refine lv_bipush (v := (nI 64)) hx hb d_X0_closeText_97 (by decide) ?_
          refine ln_iadd hx hb d_X0_closeText_99 ?_
          refine lv_aload_n hx hb d_X0_closeText_100 rfl (lv_at hl 1 rfl) ?_
          refine va_get (D := g.2.1) (ci := 0) (v := .ref ta) (C := R_X0) (T := T_X0) (N := 6) hx hb ht i_X0 hown hK hP 0 rfl rfl 2 (by decide) (ht _ w_63) (fun _ h9 => h9) rfl d_X0_closeText_101 ?_
          refine va_get (D := g.2.1) (ci := 3) (v := .int (nI (((((L.length + 1 + (zeroN L.length + 4)) + 1) + 1) + 1) + 1))) (C := R_X3) (T := T_X3) (N := 2) hx hb ht i_X3 hown hK hP 1 rfl rfl 1 (by decide) (ht _ w_48) (fun _ h9 => h9) rfl d_X0_closeText_104 ?_
          refine ln_icmp_gt_f (tgt := 126) hx hb d_X0_closeText_107 (by decide) (by omega) (by omega) (by omega) ?_
          refine lv_aload_n hx hb d_X0_closeText_110 rfl (lv_at hl 1 rfl) ?_
          refine lv_iload hx hb d_X0_closeText_111 (lv_at hl 0 rfl) ?_
          refine g_callV (As := [.int (nI (64 * j))]) (rest := []) (wr := [(qs, .inl (cI g, 8, .inl s2)), (oa, .inr (3, [.ref oq, .int (nI zo)])), (oq, .inl (cI g, on, .inl fo))]) (q0 := 0) (ci := 0) (XSok g) ⟨hx, hb, hml, hown, ht⟩ hK hA hXs hl.1 hP hD hS (c_X0_spread g h nc fk ta ia qw qs tq f7 (((((L.length + 1 + (zeroN L.length + 4)) + 1) + 1) + 1) + 1) w2 (64 * j) (by omega)) (g_perm 7 [0, 1, 2, 3, 4, 5, 6] rfl rfl (by decide +kernel)) rfl rfl (cwV 1 ht (tb_V w_372 w_374 wp_6 w_2 k_X0_spread) rfl rfl rfl (by decide +kernel) ⟨(Nat.le_of_ble_eq_true rfl), (Nat.le_of_ble_eq_true rfl)⟩) rfl rfl (Nat.le_of_ble_eq_true rfl) d_X0_closeText_113 ⟨(Nat.le_of_ble_eq_true rfl), (Nat.le_of_ble_eq_true rfl)⟩ (fun v u H locs hw3 hP hD hS => ?_)
          obtain ⟨w3, rfl⟩ : ∃ z, z = u := ⟨_, rfl⟩
          obtain ⟨rfl, hw3⟩ := hw3
          have hP : va_P g.2.1 cls7 [(qs, .inl (cI g, 8, .inl s2)), (oa, .inr (3, [.ref oq, .int (nI zo)])), (oq, .inl (cI g, on, .inl fo)), (h, .inr (0, [.ref nc, .ref fk, .ref ta, .ref ia, .ref qw, .ref qs])), (ta, .inr (3, [.ref tq, .int (nI (((((L.length + 1 + (zeroN L.length + 4)) + 1) + 1) + 1) + 1))])), (tq, .inl (cI g, 768, .inl f7)), (qw, .inl (cI g, 64, .inl w3))] H := hP
          have hD : va_D A [(qs, .inl (cI g, 8, .inl s2)), (oa, .inr (3, [.ref oq, .int (nI zo)])), (oq, .inl (cI g, on, .inl fo)), (h, .inr (0, [.ref nc, .ref fk, .ref ta, .ref ia, .ref qw, .ref qs])), (ta, .inr (3, [.ref tq, .int (nI (((((L.length + 1 + (zeroN L.length + 4)) + 1) + 1) + 1) + 1))])), (tq, .inl (cI g, 768, .inl f7)), (qw, .inl (cI g, 64, .inl w3))] := hD
          refine W.eq (g2 := F0 m 116 ls []) rfl ?_
          refine lv_aload_n hx hb d_X0_closeText_116 rfl (lv_at hl 1 rfl) ?_
          refine g_callV (As := []) (rest := []) (wr := [(oa, .inr (3, [.ref oq, .int (nI zo)])), (oq, .inl (cI g, on, .inl fo)), (ta, .inr (3, [.ref tq, .int (nI (((((L.length + 1 + (zeroN L.length + 4)) + 1) + 1) + 1) + 1))])), (tq, .inl (cI g, 768, .inl f7))]) (q0 := 0) (ci := 0) (XSok g) ⟨hx, hb, hml, hown, ht⟩ hK hA hXs hl.1 hP hD hS (c_X0_stir g h nc fk ta ia qw qs w3 s2 ) (g_perm 7 [3, 6, 0, 1, 2, 4, 5] rfl rfl (by decide +kernel)) rfl rfl (cwV 0 ht (tb_V w_376 w_378 wp_7 w_2 k_X0_stir) rfl rfl rfl (by decide +kernel) ⟨(Nat.le_of_ble_eq_true rfl), (Nat.le_of_ble_eq_true rfl)⟩) rfl rfl (Nat.le_of_ble_eq_true rfl) d_X0_closeText_117 ⟨(Nat.le_of_ble_eq_true rfl), (Nat.le_of_ble_eq_true rfl)⟩ (fun v u H locs hs3 hP hD hS => ?_)
          obtain ⟨s3, rfl⟩ : ∃ z, z = u := ⟨_, rfl⟩
          obtain ⟨rfl, hs3⟩ := hs3
          have hP : va_P g.2.1 cls7 [(oa, .inr (3, [.ref oq, .int (nI zo)])), (oq, .inl (cI g, on, .inl fo)), (ta, .inr (3, [.ref tq, .int (nI (((((L.length + 1 + (zeroN L.length + 4)) + 1) + 1) + 1) + 1))])), (tq, .inl (cI g, 768, .inl f7)), (h, .inr (0, [.ref nc, .ref fk, .ref ta, .ref ia, .ref qw, .ref qs])), (qw, .inl (cI g, 64, .inl w3)), (qs, .inl (cI g, 8, .inl s3))] H := hP
          have hD : va_D A [(oa, .inr (3, [.ref oq, .int (nI zo)])), (oq, .inl (cI g, on, .inl fo)), (ta, .inr (3, [.ref tq, .int (nI (((((L.length + 1 + (zeroN L.length + 4)) + 1) + 1) + 1) + 1))])), (tq, .inl (cI g, 768, .inl f7)), (h, .inr (0, [.ref nc, .ref fk, .ref ta, .ref ia, .ref qw, .ref qs])), (qw, .inl (cI g, 64, .inl w3)), (qs, .inl (cI g, 8, .inl s3))] := hD
          refine W.eq (g2 := F0 m 120 ls []) rfl ?_
          refine ln_iinc (d := 64) (lv' := [(4, .int (nI (64 * j + 64))), (0, .ref h), (1, .ref oa)]) hx hb d_X0_closeText_120 hl (k := 0) rfl rfl (by decide) rfl (fun ls hl => ?_)
          refine lv_goto (tgt := 95) hx hb d_X0_closeText_123 (by decide) ?_
          exact ih (j + 1) w3 s3 (by omega) (sh_next (by omega) hbp hs hw3 hs3) _ _ (wP_perm hP (g_perm 7 [4, 2, 3, 5, 6, 0, 1] rfl rfl (by decide +kernel))) (wD_perm hD (g_perm 7 [4, 2, 3, 5, 6, 0, 1] rfl rfl (by decide +kernel))) hS ls (lv_sub hl [0, 1, 2] rfl)
      exact loopf (nbL L.length) 0 fw s1 (by omega) (fun i hi => hs1 i hi) _ _ (wP_perm hP (g_perm 7 [5, 3, 4, 0, 6, 1, 2] rfl rfl (by decide +kernel))) (wD_perm hD (g_perm 7 [5, 3, 4, 0, 6, 1, 2] rfl rfl (by decide +kernel))) hS ls (lv_sub hl [0, 3, 4] rfl)
    | succ k ih =>
      intro j f2 hk hb2 H locs hP hD hS ls hl
      refine lv_iload hx hb d_X0_closeText_40 (lv_at hl 0 rfl) ?_
      refine lv_iload_n hx hb d_X0_closeText_42 rfl (lv_at hl 1 rfl) ?_
      refine lv_iconst (v := (nI 4)) hx hb d_X0_closeText_43 (by decide) ?_
      refine ln_iadd hx hb d_X0_closeText_44 ?_
      refine ln_icmp_ge_f (tgt := 62) hx hb d_X0_closeText_45 (by decide) (by omega) (by omega) (by omega) ?_
      refine lv_aload_n hx hb d_X0_closeText_48 rfl (lv_at hl 3 rfl) ?_
      refine va_get (D := g.2.1) (ci := 0) (v := .ref ta) (C := R_X0) (T := T_X0) (N := 6) hx hb ht i_X0 hown hK hP 0 rfl rfl 2 (by decide) (ht _ w_63) (fun _ h9 => h9) rfl d_X0_closeText_49 ?_
      refine lv_iconst (v := (nI 0)) hx hb d_X0_closeText_52 (by decide) ?_
      refine g_callV (As := [.int (nI 0)]) (rest := []) (wr := [(h, .inr (0, [.ref nc, .ref fk, .ref ta, .ref ia, .ref qw, .ref qs])), (qw, .inl (cI g, 64, .inl fw)), (qs, .inl (cI g, 8, .inl fs)), (oa, .inr (3, [.ref oq, .int (nI zo)])), (oq, .inl (cI g, on, .inl fo))]) (q0 := 0) (ci := 3) (XSok g) ⟨hx, hb, hml, hown, ht⟩ hK hA hXs hl.1 hP hD hS (c_X3_put g ta tq 768 f2 (L.length + 1 + j) (nI 0) (by omega) (by decide)) (g_perm 7 [1, 2, 0, 3, 4, 5, 6] rfl rfl (by decide +kernel)) rfl rfl (cwV 1 ht (tb_V w_55 w_56 w_57 w_3 k_X3_put) rfl rfl rfl (by decide +kernel) ⟨(Nat.le_of_ble_eq_true rfl), (Nat.le_of_ble_eq_true rfl)⟩) rfl rfl (Nat.le_of_ble_eq_true rfl) d_X0_closeText_53 ⟨(Nat.le_of_ble_eq_true rfl), (Nat.le_of_ble_eq_true rfl)⟩ (fun v u H locs hw hP hD hS => ?_)
      obtain rfl := hw
      have hP : va_P g.2.1 cls7 [(h, .inr (0, [.ref nc, .ref fk, .ref ta, .ref ia, .ref qw, .ref qs])), (qw, .inl (cI g, 64, .inl fw)), (qs, .inl (cI g, 8, .inl fs)), (oa, .inr (3, [.ref oq, .int (nI zo)])), (oq, .inl (cI g, on, .inl fo)), (ta, .inr (3, [.ref tq, .int (nI ((L.length + 1 + j) + 1))])), (tq, .inl (cI g, 768, .inl (upd f2 (L.length + 1 + j) ((nI 0) &&& nI 255))))] H := hP
      have hD : va_D A [(h, .inr (0, [.ref nc, .ref fk, .ref ta, .ref ia, .ref qw, .ref qs])), (qw, .inl (cI g, 64, .inl fw)), (qs, .inl (cI g, 8, .inl fs)), (oa, .inr (3, [.ref oq, .int (nI zo)])), (oq, .inl (cI g, on, .inl fo)), (ta, .inr (3, [.ref tq, .int (nI ((L.length + 1 + j) + 1))])), (tq, .inl (cI g, 768, .inl (upd f2 (L.length + 1 + j) ((nI 0) &&& nI 255))))] := hD
      refine W.eq (g2 := F0 m 56 ls []) rfl ?_
      have hb3 : bz ((L ++ [128]) ++ List.replicate (j + 1) 0) (upd f2 (L.length + 1 + j) ((nI 0) &&& nI 255)) := by
        rw [← rep_put]
        exact bz_put hb2 (by simp; try omega) (and255N (by decide))
      refine ln_iinc (d := 1) (lv' := [(4, .int (nI (j + 1))), (3, .int (nI (zeroN L.length))), (2, .int (nI (8 * L.length))), (0, .ref h), (1, .ref oa)]) hx hb d_X0_closeText_56 hl (k := 0) rfl rfl (by decide) rfl (fun ls hl => ?_)
      refine lv_goto (tgt := 40) hx hb d_X0_closeText_59 (by decide) ?_
      exact ih (j + 1) (upd f2 (L.length + 1 + j) ((nI 0) &&& nI 255)) (by omega) hb3 _ _ (wP_perm hP (g_perm 7 [0, 5, 6, 1, 2, 3, 4] rfl rfl (by decide +kernel))) (wD_perm hD (g_perm 7 [0, 5, 6, 1, 2, 3, 4] rfl rfl (by decide +kernel))) hS ls (lv_sub hl [0, 1, 2, 3, 4] rfl)
  exact loop (zeroN L.length + 4) 0 f1 (by omega) (by simpa using hb1) _ _ (wP_perm hP (g_perm 7 [0, 5, 6, 1, 2, 3, 4] rfl rfl (by decide +kernel))) (wD_perm hD (g_perm 7 [0, 5, 6, 1, 2, 3, 4] rfl rfl (by decide +kernel))) hS ls (lv_sub hl [0, 1, 2, 3, 4] rfl)
