section GLR
variable {p : Program} {l : Launch} {e : Env} {R : Room} {s : State} {m : MethodId} {args : Array Value} {below : List Frame} {meth : Method} {c : Code} {H : Heap} {locs : List Loc} {cells slots : Nat} {Q : State → Prop}
variable {cc : ByteArray} {pc nL index : Nat} {ls : Array Slot} {rest st0 : List Value} {D : va_G} {cl : List vw_C} {tys : List (ClassId × FieldType)} {X : (Nat → Prop) → State → Heap → Prop} {A : Nat → Prop} {wo wc wr : va_W} {own C : String}
/-- a call on an object that is no cell of the world -/
theorem g_callVr {S : Type} {post : Option Value → S → Prop} {w1 : S → va_W} {y : MethodName} {bytes : ByteArray} {maxL n : Nat} {ret : Option FieldType} {ws Ts : List Cond} {rm : Room} {b : Nat} {As : List Value}
    (hX : XOk X) (G : CallFix p m c cc nL s args Ts own) (hK : va_K D cl tys s) (hA : ∀ q, s.heap.size ≤ q → A q) (hXs : X A s s.heap) (hls : ls.size = nL)
    (hP : va_P D cl wo H) (hD : va_D A wo) (hS : va_S A s.heap H locs)
    (hM : Ct l D cl tys X y ws rm (.ref b :: As) wc post w1) (hp : wo.Perm (wc ++ wr)) (hrec : ∃ cell : Cell, H[b]? = some cell ∧ cell.vm.isStatics = false ∧ s.vm.findClass C = some cell.cls)
    (cw : CallW R s args own C index y bytes maxL ret ws rm rm.cells rm.slots n) (hn : As.length = n) (hst : st0 = As.reverse ++ .ref b :: rest) (hW : (rest.map fun v => v.category).sum ≤ 8) (hdg : decode cc pc = .ok (.invokevirtual index, 3)) (hf : cells + rm.cells ≤ R.cells ∧ slots + rm.slots ≤ R.slots)
    (kk : ∀ (v : Option Value) (u : S) (H1 : Heap) (locs1 : List Loc), post v u → va_P D cl (wr ++ w1 u) H1 → va_D A (wr ++ w1 u) → va_S A s.heap H1 locs1 → W p l e R s m args below meth c H1 locs1 (cells + rm.cells) (slots + rm.slots) Q (F0 m (pc + 3) ls (v.toList ++ rest))) :
    W p l e R s m args below meth c H locs cells slots Q (F0 m pc ls st0) := by
  obtain ⟨hb1, hb2⟩ := g_pre (av := .ref b :: As) hX hp hP hD hK hS hA hXs
  exact g_after hp hP hD hS hA (va_runV (As := As) (rest := rest) G (hM H.size) cw ⟨hb1, hrec, hb2⟩ rfl hn hls hst (lv_room hW) hdg hf) kk
end GLR
theorem lab_c2 : ∀ i, i < 7 → ∀ k, k < labN.getD i 0 → (((labB.getD i []).getD k 0 &&& nI 255).toUInt32 % 65536).toInt32 = (labB.getD i []).getD k 0 ∧ narrow .char (.int ((labB.getD i []).getD k 0)) = .int ((labB.getD i []).getD k 0) := by decide +kernel
theorem labN_lt : ∀ i, i < 7 → labN.getD i 0 < 16 := by decide +kernel
theorem sr0 : ∀ n, n < 16 → sr (nI n) 0 = nI n := by decide +kernel
set_option maxHeartbeats 1000000 in
set_option maxRecDepth 100000 in
theorem c_JS_coder (g : GG) (i : Nat) (hi : i < 7) : Cg g y_JS_coder b_JS_coder 1 (some .byte) ({ frames := 0, cells := 0, slots := 0, locals := 0 } : Room) [.ref (g.2.2.2.1 i)] [] (S := Unit) (fun (v : Option Value) (_ : Unit) => v = some (.int 0)) (fun (_ : Unit) => []) := by
  refine Ct_ofF (cc := b_JS_coder) (maxL := 1) (ret := (some .byte)) (by decide +kernel) rfl (Nat.le_of_ble_eq_true rfl) ?_
  intro p e s m below meth c A ls hx hb hr hml hown hts hlocks hin hA hP hK hD hXs hS hl
  have ht : ∀ w ∈ tb, w.before [.ref (g.2.2.2.1 i)].toArray s = true := fun w h => hts w (List.mem_cons_of_mem _ h)
  have hown : s.vm.findClass "java/lang/String" = some m.cls := hown
  have hl : lv_has ls 1 [(0, .ref (g.2.2.2.1 i))] := hl
  refine va_gets hx hb (hXs.2.2.2.2.2.1).1 hS hown (ht _ w_408) (fun _ h9 => h9) d_JS_coder_0 ?_
  refine lv_if_eq (tgt := 13) hx hb d_JS_coder_3 (by decide) (fun c_1 => absurd c_1 (by decide)) (fun _ => ?_)
  refine lv_aload_n hx hb d_JS_coder_6 rfl (lv_at hl 0 rfl) ?_
  refine vk_getf hx hb ((hXs.2.2.2.2.2.2.2.1).1 i hi).2.1 hS hown (ht _ w_946) (fun _ h9 => h9) d_JS_coder_7 ?_
  refine lv_goto (tgt := 14) hx hb d_JS_coder_10 (by decide) ?_
  exact g_zret (v := 0) hx hb hr hlocks hP hD hS () (List.Perm.refl _) (by decide) rfl (Nat.le_of_ble_eq_true rfl) (Nat.le_of_ble_eq_true rfl) d_JS_coder_14

set_option maxHeartbeats 1000000 in
set_option maxRecDepth 100000 in
theorem c_JS_isLatin1 (g : GG) (i : Nat) (hi : i < 7) : Cg g y_JS_isLatin1 b_JS_isLatin1 1 (some .boolean) ({ frames := 0, cells := 0, slots := 0, locals := 0 } : Room) [.ref (g.2.2.2.1 i)] [] (S := Unit) (fun (v : Option Value) (_ : Unit) => v = some (.int 1)) (fun (_ : Unit) => []) := by
  refine Ct_ofF (cc := b_JS_isLatin1) (maxL := 1) (ret := (some .boolean)) (by decide +kernel) rfl (Nat.le_of_ble_eq_true rfl) ?_
  intro p e s m below meth c A ls hx hb hr hml hown hts hlocks hin hA hP hK hD hXs hS hl
  have ht : ∀ w ∈ tb, w.before [.ref (g.2.2.2.1 i)].toArray s = true := fun w h => hts w (List.mem_cons_of_mem _ h)
  have hown : s.vm.findClass "java/lang/String" = some m.cls := hown
  have hl : lv_has ls 1 [(0, .ref (g.2.2.2.1 i))] := hl
  refine va_gets hx hb (hXs.2.2.2.2.2.1).1 hS hown (ht _ w_408) (fun _ h9 => h9) d_JS_isLatin1_0 ?_
  refine lv_if_eq (tgt := 17) hx hb d_JS_isLatin1_3 (by decide) (fun c_1 => absurd c_1 (by decide)) (fun _ => ?_)
  refine lv_aload_n hx hb d_JS_isLatin1_6 rfl (lv_at hl 0 rfl) ?_
  refine vk_getf hx hb ((hXs.2.2.2.2.2.2.2.1).1 i hi).2.1 hS hown (ht _ w_946) (fun _ h9 => h9) d_JS_isLatin1_7 ?_
  refine lv_if_ne (tgt := 17) hx hb d_JS_isLatin1_10 (by decide) (fun c_2 => absurd c_2 (by decide)) (fun _ => ?_)
  refine lv_iconst (v := (nI 1)) hx hb d_JS_isLatin1_13 (by decide) ?_
  refine lv_goto (tgt := 18) hx hb d_JS_isLatin1_14 (by decide) ?_
  exact g_zret (v := (nI 1)) hx hb hr hlocks hP hD hS () (List.Perm.refl _) (by decide) rfl (Nat.le_of_ble_eq_true rfl) (Nat.le_of_ble_eq_true rfl) d_JS_isLatin1_18

set_option maxHeartbeats 1000000 in
set_option maxRecDepth 100000 in
theorem c_JS_length (g : GG) (i : Nat) (hi : i < 7) : Cg g y_JS_length b_JS_length 1 (some .int) ({ frames := 1, cells := 0, slots := 0, locals := 20 } : Room) [.ref (g.2.2.2.1 i)] [] (S := Unit) (fun (v : Option Value) (_ : Unit) => v = some (.int (nI (labN.getD i 0)))) (fun (_ : Unit) => []) := by
  refine Ct_ofF (cc := b_JS_length) (maxL := 1) (ret := (some .int)) (by decide +kernel) rfl (Nat.le_of_ble_eq_true rfl) ?_
  intro p e s m below meth c A ls hx hb hr hml hown hts hlocks hin hA hP hK hD hXs hS hl
  have ht : ∀ w ∈ tb, w.before [.ref (g.2.2.2.1 i)].toArray s = true := fun w h => hts w (List.mem_cons_of_mem _ h)
  have hown : s.vm.findClass "java/lang/String" = some m.cls := hown
  have hl : lv_has ls 1 [(0, .ref (g.2.2.2.1 i))] := hl
  refine lv_aload_n hx hb d_JS_length_0 rfl (lv_at hl 0 rfl) ?_
  refine vk_getf hx hb ((hXs.2.2.2.2.2.2.2.1).1 i hi).2.2.1 hS hown (ht _ w_945) (fun _ h9 => h9) d_JS_length_1 ?_
  refine va_tlen (v := nI (labN.getD i 0)) hx hb ((hXs.2.2.2.2.2.2.2.1).1 i hi).2.2.2 hS rfl d_JS_length_4 ?_
  refine lv_aload_n hx hb d_JS_length_5 rfl (lv_at hl 0 rfl) ?_
  refine g_callVr (As := []) (rest := [.int (nI (labN.getD i 0))]) (wr := []) (XSok g) ⟨hx, hb, hml, hown, ht⟩ hK hA hXs hl.1 hP hD hS (c_JS_coder g i hi) (g_perm 0 [] rfl rfl (by decide +kernel)) (vk_recv hXs.2.2.2.2.2.2.2.1 (hi) hS) (cwV 0 ht (tb_V w_404 w_405 w_406 w_14 k_JS_coder) rfl rfl rfl (by decide +kernel) ⟨(Nat.le_of_ble_eq_true rfl), (Nat.le_of_ble_eq_true rfl)⟩) rfl rfl (Nat.le_of_ble_eq_true rfl) d_JS_length_6 ⟨(Nat.le_of_ble_eq_true rfl), (Nat.le_of_ble_eq_true rfl)⟩ (fun v u H locs hw hP hD hS => ?_)
  obtain rfl := hw
  have hP : va_P g.2.1 cls7 [] H := hP
  have hD : va_D A [] := hD
  refine W.eq (g2 := F0 m 9 ls [.int 0, .int (nI (labN.getD i 0))]) rfl ?_
  refine ln_ishr hx hb d_JS_length_9 ?_
  exact g_iret (v := (sr (nI (labN.getD i 0)) 0)) hx hb hr hlocks hP hD hS () (List.Perm.refl _) (congrArg (fun t => some (Value.int t)) (sr0 _ (labN_lt i hi))) (Nat.le_of_ble_eq_true rfl) (Nat.le_of_ble_eq_true rfl) d_JS_length_10

set_option maxHeartbeats 1000000 in
set_option maxRecDepth 100000 in
theorem c_JP_checkIndex_n (g : GG) (k : Nat) (n : Nat) (hk : k < n) (hn : n < 2 ^ 31) : Cg g y_JP_checkIndex b_JP_checkIndex 3 (some .int) ({ frames := 0, cells := 0, slots := 0, locals := 0 } : Room) [.int (nI k), .int (nI n), .null] [] (S := Unit) (fun (v : Option Value) (_ : Unit) => v = some (.int (nI k))) (fun (_ : Unit) => []) := by
  refine Ct_ofF (cc := b_JP_checkIndex) (maxL := 3) (ret := (some .int)) (by decide +kernel) rfl (Nat.le_of_ble_eq_true rfl) ?_
  intro p e s m below meth c A ls hx hb hr hml hown hts hlocks hin hA hP hK hD hXs hS hl
  have ht : ∀ w ∈ tb, w.before [.int (nI k), .int (nI n), .null].toArray s = true := fun w h => hts w (List.mem_cons_of_mem _ h)
  have hown : s.vm.findClass "jdk/internal/util/Preconditions" = some m.cls := hown
  have hl : lv_has ls 3 [(0, .int (nI k)), (1, .int (nI n)), (2, .null)] := hl
  refine lv_iload_n hx hb d_JP_checkIndex_0 rfl (lv_at hl 0 rfl) ?_
  refine ln_if_lt (tgt := 9) hx hb d_JP_checkIndex_1 (by decide) (by omega) (fun _ => ?_)
  refine lv_iload_n hx hb d_JP_checkIndex_4 rfl (lv_at hl 0 rfl) ?_
  refine lv_iload_n hx hb d_JP_checkIndex_5 rfl (lv_at hl 1 rfl) ?_
  refine ln_icmp_lt_t (tgt := 16) hx hb d_JP_checkIndex_6 (by decide) (by omega) (by omega) (by omega) ?_
  refine lv_iload_n hx hb d_JP_checkIndex_16 rfl (lv_at hl 0 rfl) ?_
  exact g_iret (v := (nI k)) hx hb hr hlocks hP hD hS () (List.Perm.refl _) rfl (Nat.le_of_ble_eq_true rfl) (Nat.le_of_ble_eq_true rfl) d_JP_checkIndex_17

set_option maxHeartbeats 1000000 in
set_option maxRecDepth 100000 in
theorem c_JP_checkIndex_r (g : GG) (k : Nat) (n : Nat) (tF : Nat) (hk : k < n) (hn : n < 2 ^ 31) : Cg g y_JP_checkIndex b_JP_checkIndex 3 (some .int) ({ frames := 0, cells := 0, slots := 0, locals := 0 } : Room) [.int (nI k), .int (nI n), .ref tF] [] (S := Unit) (fun (v : Option Value) (_ : Unit) => v = some (.int (nI k))) (fun (_ : Unit) => []) := by
  refine Ct_ofF (cc := b_JP_checkIndex) (maxL := 3) (ret := (some .int)) (by decide +kernel) rfl (Nat.le_of_ble_eq_true rfl) ?_
  intro p e s m below meth c A ls hx hb hr hml hown hts hlocks hin hA hP hK hD hXs hS hl
  have ht : ∀ w ∈ tb, w.before [.int (nI k), .int (nI n), .ref tF].toArray s = true := fun w h => hts w (List.mem_cons_of_mem _ h)
  have hown : s.vm.findClass "jdk/internal/util/Preconditions" = some m.cls := hown
  have hl : lv_has ls 3 [(0, .int (nI k)), (1, .int (nI n)), (2, .ref tF)] := hl
  refine lv_iload_n hx hb d_JP_checkIndex_0 rfl (lv_at hl 0 rfl) ?_
  refine ln_if_lt (tgt := 9) hx hb d_JP_checkIndex_1 (by decide) (by omega) (fun _ => ?_)
  refine lv_iload_n hx hb d_JP_checkIndex_4 rfl (lv_at hl 0 rfl) ?_
  refine lv_iload_n hx hb d_JP_checkIndex_5 rfl (lv_at hl 1 rfl) ?_
  refine ln_icmp_lt_t (tgt := 16) hx hb d_JP_checkIndex_6 (by decide) (by omega) (by omega) (by omega) ?_
  refine lv_iload_n hx hb d_JP_checkIndex_16 rfl (lv_at hl 0 rfl) ?_
  exact g_iret (v := (nI k)) hx hb hr hlocks hP hD hS () (List.Perm.refl _) rfl (Nat.le_of_ble_eq_true rfl) (Nat.le_of_ble_eq_true rfl) d_JP_checkIndex_17

set_option maxHeartbeats 1000000 in
set_option maxRecDepth 100000 in
theorem c_JS_checkIndex (g : GG) (k : Nat) (n : Nat) (hk : k < n) (hn : n < 2 ^ 31) : Cg g y_JS_checkIndex b_JS_checkIndex 2 none ({ frames := 1, cells := 0, slots := 0, locals := 22 } : Room) [.int (nI k), .int (nI n)] [] (S := Unit) (fun (v : Option Value) (_ : Unit) => v = none) (fun (_ : Unit) => []) := by
  refine Ct_ofF (cc := b_JS_checkIndex) (maxL := 2) (ret := none) (by decide +kernel) rfl (Nat.le_of_ble_eq_true rfl) ?_
  intro p e s m below meth c A ls hx hb hr hml hown hts hlocks hin hA hP hK hD hXs hS hl
  have ht : ∀ w ∈ tb, w.before [.int (nI k), .int (nI n)].toArray s = true := fun w h => hts w (List.mem_cons_of_mem _ h)
  have hown : s.vm.findClass "java/lang/String" = some m.cls := hown
  have hl : lv_has ls 2 [(0, .int (nI k)), (1, .int (nI n))] := hl
  refine lv_iload_n hx hb d_JS_checkIndex_0 rfl (lv_at hl 0 rfl) ?_
  refine lv_iload_n hx hb d_JS_checkIndex_1 rfl (lv_at hl 1 rfl) ?_
  rcases (hXs.2.2.2.2.2.1).2 with hZF | ⟨tF, hZF⟩
  · refine va_gets hx hb hZF hS hown (ht _ w_424) (fun _ h9 => h9) d_JS_checkIndex_2 ?_
    refine g_callS (As := [.int (nI k), .int (nI n), .null]) (rest := []) (wr := []) (XSok g) ⟨hx, hb, hml, hown, ht⟩ hK hA hXs hl.1 hP hD hS (c_JP_checkIndex_n g k n hk hn) (g_perm 0 [] rfl rfl (by decide +kernel)) (va_cwS 3 ht (tb_S2 w_426 w_427 w_16 k_JP_checkIndex) rfl rfl rfl (by decide +kernel) ⟨(Nat.le_of_ble_eq_true rfl), (Nat.le_of_ble_eq_true rfl)⟩) rfl rfl (Nat.le_of_ble_eq_true rfl) d_JS_checkIndex_5 ⟨(Nat.le_of_ble_eq_true rfl), (Nat.le_of_ble_eq_true rfl)⟩ (fun v u H locs hw hP hD hS => ?_)
    obtain rfl := hw
    have hP : va_P g.2.1 cls7 [] H := hP
    have hD : va_D A [] := hD
    refine W.eq (g2 := F0 m 8 ls [.int (nI k)]) rfl ?_
    refine lv_pop hx hb d_JS_checkIndex_8 rfl ?_
    exact g_vret hx hb hr hlocks hP hD hS () (List.Perm.refl _) rfl (Nat.le_of_ble_eq_true rfl) (Nat.le_of_ble_eq_true rfl) d_JS_checkIndex_9
  · refine va_gets hx hb hZF hS hown (ht _ w_424) (fun _ h9 => h9) d_JS_checkIndex_2 ?_
    refine g_callS (As := [.int (nI k), .int (nI n), .ref tF]) (rest := []) (wr := []) (XSok g) ⟨hx, hb, hml, hown, ht⟩ hK hA hXs hl.1 hP hD hS (c_JP_checkIndex_r g k n tF hk hn) (g_perm 0 [] rfl rfl (by decide +kernel)) (va_cwS 3 ht (tb_S2 w_426 w_427 w_16 k_JP_checkIndex) rfl rfl rfl (by decide +kernel) ⟨(Nat.le_of_ble_eq_true rfl), (Nat.le_of_ble_eq_true rfl)⟩) rfl rfl (Nat.le_of_ble_eq_true rfl) d_JS_checkIndex_5 ⟨(Nat.le_of_ble_eq_true rfl), (Nat.le_of_ble_eq_true rfl)⟩ (fun v u H locs hw hP hD hS => ?_)
    obtain rfl := hw
    have hP : va_P g.2.1 cls7 [] H := hP
    have hD : va_D A [] := hD
    refine W.eq (g2 := F0 m 8 ls [.int (nI k)]) rfl ?_
    refine lv_pop hx hb d_JS_checkIndex_8 rfl ?_
    exact g_vret hx hb hr hlocks hP hD hS () (List.Perm.refl _) rfl (Nat.le_of_ble_eq_true rfl) (Nat.le_of_ble_eq_true rfl) d_JS_checkIndex_9

set_option maxHeartbeats 1000000 in
set_option maxRecDepth 100000 in
theorem c_JL_charAt (g : GG) (i : Nat) (k : Nat) (hi : i < 7) (hk : k < labN.getD i 0) : Cg g y_JL_charAt b_JL_charAt 2 (some .char) ({ frames := 2, cells := 0, slots := 0, locals := 43 } : Room) [.ref (g.2.2.2.2 i), .int (nI k)] [] (S := Unit) (fun (v : Option Value) (_ : Unit) => v = some (.int ((labB.getD i []).getD k 0))) (fun (_ : Unit) => []) := by
  refine Ct_ofF (cc := b_JL_charAt) (maxL := 2) (ret := (some .char)) (by decide +kernel) rfl (Nat.le_of_ble_eq_true rfl) ?_
  intro p e s m below meth c A ls hx hb hr hml hown hts hlocks hin hA hP hK hD hXs hS hl
  have ht : ∀ w ∈ tb, w.before [.ref (g.2.2.2.2 i), .int (nI k)].toArray s = true := fun w h => hts w (List.mem_cons_of_mem _ h)
  have hown : s.vm.findClass "java/lang/StringLatin1" = some m.cls := hown
  have hl : lv_has ls 2 [(0, .ref (g.2.2.2.2 i)), (1, .int (nI k))] := hl
  refine lv_iload_n hx hb d_JL_charAt_0 rfl (lv_at hl 1 rfl) ?_
  refine lv_aload_n hx hb d_JL_charAt_1 rfl (lv_at hl 0 rfl) ?_
  refine va_tlen (v := nI (labN.getD i 0)) hx hb ((hXs.2.2.2.2.2.2.2.1).1 i hi).2.2.2 hS rfl d_JL_charAt_2 ?_
  refine g_callS (As := [.int (nI k), .int (nI (labN.getD i 0))]) (rest := []) (wr := []) (XSok g) ⟨hx, hb, hml, hown, ht⟩ hK hA hXs hl.1 hP hD hS (c_JS_checkIndex g k (labN.getD i 0) hk (by have := labN_lt i hi; omega)) (g_perm 0 [] rfl rfl (by decide +kernel)) (va_cwS 2 ht (tb_S2 w_421 w_422 w_14 k_JS_checkIndex) rfl rfl rfl (by decide +kernel) ⟨(Nat.le_of_ble_eq_true rfl), (Nat.le_of_ble_eq_true rfl)⟩) rfl rfl (Nat.le_of_ble_eq_true rfl) d_JL_charAt_3 ⟨(Nat.le_of_ble_eq_true rfl), (Nat.le_of_ble_eq_true rfl)⟩ (fun v u H locs hw hP hD hS => ?_)
  obtain rfl := hw
  have hP : va_P g.2.1 cls7 [] H := hP
  have hD : va_D A [] := hD
  refine W.eq (g2 := F0 m 6 ls []) rfl ?_
  refine lv_aload_n hx hb d_JL_charAt_6 rfl (lv_at hl 0 rfl) ?_
  refine lv_iload_n hx hb d_JL_charAt_7 rfl (lv_at hl 1 rfl) ?_
  refine va_tb (v := .int ((labB.getD i []).getD k 0)) hx hb ((hXs.2.2.2.2.2.2.2.1).1 i hi).2.2.2 hS (vp_in_nI hk (by have := labN_lt i hi; omega)) (by rw [nI_clamp (by have := labN_lt i hi; omega)]) d_JL_charAt_8 ?_
  refine lv_sipush (v := (nI 255)) hx hb d_JL_charAt_9 (by decide) ?_
  refine lv_iand hx hb d_JL_charAt_12 ?_
  refine lv_i2c (v := (labB.getD i []).getD k 0) hx hb d_JL_charAt_13 (lab_c2 i hi k hk).1 ?_
  exact g_zret (v := ((labB.getD i []).getD k 0)) hx hb hr hlocks hP hD hS () (List.Perm.refl _) (lab_c2 i hi k hk).2 rfl (Nat.le_of_ble_eq_true rfl) (Nat.le_of_ble_eq_true rfl) d_JL_charAt_14

set_option maxHeartbeats 1000000 in
set_option maxRecDepth 100000 in
theorem c_JS_charAt (g : GG) (i : Nat) (k : Nat) (hi : i < 7) (hk : k < labN.getD i 0) : Cg g y_JS_charAt b_JS_charAt 2 (some .char) ({ frames := 3, cells := 0, slots := 0, locals := 64 } : Room) [.ref (g.2.2.2.1 i), .int (nI k)] [] (S := Unit) (fun (v : Option Value) (_ : Unit) => v = some (.int ((labB.getD i []).getD k 0))) (fun (_ : Unit) => []) := by
  refine Ct_ofF (cc := b_JS_charAt) (maxL := 2) (ret := (some .char)) (by decide +kernel) rfl (Nat.le_of_ble_eq_true rfl) ?_
  intro p e s m below meth c A ls hx hb hr hml hown hts hlocks hin hA hP hK hD hXs hS hl
  have ht : ∀ w ∈ tb, w.before [.ref (g.2.2.2.1 i), .int (nI k)].toArray s = true := fun w h => hts w (List.mem_cons_of_mem _ h)
  have hown : s.vm.findClass "java/lang/String" = some m.cls := hown
  have hl : lv_has ls 2 [(0, .ref (g.2.2.2.1 i)), (1, .int (nI k))] := hl
  refine lv_aload_n hx hb d_JS_charAt_0 rfl (lv_at hl 0 rfl) ?_
  refine g_callVr (As := []) (rest := []) (wr := []) (XSok g) ⟨hx, hb, hml, hown, ht⟩ hK hA hXs hl.1 hP hD hS (c_JS_isLatin1 g i hi) (g_perm 0 [] rfl rfl (by decide +kernel)) (vk_recv hXs.2.2.2.2.2.2.2.1 (hi) hS) (cwV 0 ht (tb_V w_414 w_415 w_416 w_14 k_JS_isLatin1) rfl rfl rfl (by decide +kernel) ⟨(Nat.le_of_ble_eq_true rfl), (Nat.le_of_ble_eq_true rfl)⟩) rfl rfl (Nat.le_of_ble_eq_true rfl) d_JS_charAt_1 ⟨(Nat.le_of_ble_eq_true rfl), (Nat.le_of_ble_eq_true rfl)⟩ (fun v u H locs hw hP hD hS => ?_)
  obtain rfl := hw
  have hP : va_P g.2.1 cls7 [] H := hP
  have hD : va_D A [] := hD
  refine W.eq (g2 := F0 m 4 ls [.int 1]) rfl ?_
  refine lv_if_eq (tgt := 16) hx hb d_JS_charAt_4 (by decide) (fun c_1 => absurd c_1 (by decide)) (fun _ => ?_)
  refine lv_aload_n hx hb d_JS_charAt_7 rfl (lv_at hl 0 rfl) ?_
  refine vk_getf hx hb ((hXs.2.2.2.2.2.2.2.1).1 i hi).2.2.1 hS hown (ht _ w_945) (fun _ h9 => h9) d_JS_charAt_8 ?_
  refine lv_iload_n hx hb d_JS_charAt_11 rfl (lv_at hl 1 rfl) ?_
  refine g_callS (As := [.ref (g.2.2.2.2 i), .int (nI k)]) (rest := []) (wr := []) (XSok g) ⟨hx, hb, hml, hown, ht⟩ hK hA hXs hl.1 hP hD hS (c_JL_charAt g i k hi hk) (g_perm 0 [] rfl rfl (by decide +kernel)) (va_cwS 2 ht (tb_S2 w_418 w_419 w_15 k_JL_charAt) rfl rfl rfl (by decide +kernel) ⟨(Nat.le_of_ble_eq_true rfl), (Nat.le_of_ble_eq_true rfl)⟩) rfl rfl (Nat.le_of_ble_eq_true rfl) d_JS_charAt_12 ⟨(Nat.le_of_ble_eq_true rfl), (Nat.le_of_ble_eq_true rfl)⟩ (fun v u H locs hw hP hD hS => ?_)
  obtain rfl := hw
  have hP : va_P g.2.1 cls7 [] H := hP
  have hD : va_D A [] := hD
  refine W.eq (g2 := F0 m 15 ls [.int ((labB.getD i []).getD k 0)]) rfl ?_
  exact g_zret (v := ((labB.getD i []).getD k 0)) hx hb hr hlocks hP hD hS () (List.Perm.refl _) (lab_c2 i hi k hk).2 rfl (Nat.le_of_ble_eq_true rfl) (Nat.le_of_ble_eq_true rfl) d_JS_charAt_15

set_option maxHeartbeats 1000000 in
set_option maxRecDepth 100000 in
theorem c_X0_nameOf_4 (g : GG)   : Cg g y_X0_nameOf b_X0_nameOf 1 (some (.object "java/lang/String")) ({ frames := 0, cells := 0, slots := 0, locals := 0 } : Room) [.int (nI 4)] [] (S := Unit) (fun (v : Option Value) (_ : Unit) => v = some (.ref (g.2.2.2.1 0))) (fun (_ : Unit) => []) := by
  refine Ct_of (cc := b_X0_nameOf) (maxL := 1) (ret := (some (.object "java/lang/String"))) (by decide) rfl (Nat.le_of_ble_eq_true rfl) ?_
  intro p e s m below meth c A ls hx hb hr hml hown hts hlocks hin hA hP hK hD hXs hS hl
  have ht : ∀ w ∈ tb, w.before [.int (nI 4)].toArray s = true := fun w h => hts w (List.mem_cons_of_mem _ h)
  have hown : s.vm.findClass R_X0 = some m.cls := hown
  have hl : lv_has ls 1 [(0, .int (nI 4))] := hl
  refine lv_iload_n hx hb d_X0_nameOf_0 rfl (lv_at hl 0 rfl) ?_
  refine lv_tableIn (off := 39) (tgt := 40) hx hb d_X0_nameOf_1 (by decide) (by decide) rfl (by decide) ?_
  refine va_ldcS hx hb hown (hXs.2.2.2.2.2.2.2.2 0 (by decide)) d_X0_nameOf_40 ?_
  exact g_aret hx hb hr (Or.inl ⟨_, rfl⟩) hlocks hP hD hS () (List.Perm.refl _) rfl (Nat.le_of_ble_eq_true rfl) (Nat.le_of_ble_eq_true rfl) d_X0_nameOf_42

set_option maxHeartbeats 1000000 in
set_option maxRecDepth 100000 in
theorem c_X0_nameOf_5 (g : GG)   : Cg g y_X0_nameOf b_X0_nameOf 1 (some (.object "java/lang/String")) ({ frames := 0, cells := 0, slots := 0, locals := 0 } : Room) [.int (nI 5)] [] (S := Unit) (fun (v : Option Value) (_ : Unit) => v = some (.ref (g.2.2.2.1 1))) (fun (_ : Unit) => []) := by
  refine Ct_of (cc := b_X0_nameOf) (maxL := 1) (ret := (some (.object "java/lang/String"))) (by decide) rfl (Nat.le_of_ble_eq_true rfl) ?_
  intro p e s m below meth c A ls hx hb hr hml hown hts hlocks hin hA hP hK hD hXs hS hl
  have ht : ∀ w ∈ tb, w.before [.int (nI 5)].toArray s = true := fun w h => hts w (List.mem_cons_of_mem _ h)
  have hown : s.vm.findClass R_X0 = some m.cls := hown
  have hl : lv_has ls 1 [(0, .int (nI 5))] := hl
  refine lv_iload_n hx hb d_X0_nameOf_0 rfl (lv_at hl 0 rfl) ?_
  refine lv_tableIn (off := 42) (tgt := 43) hx hb d_X0_nameOf_1 (by decide) (by decide) rfl (by decide) ?_
  refine va_ldcS hx hb hown (hXs.2.2.2.2.2.2.2.2 1 (by decide)) d_X0_nameOf_43 ?_
  exact g_aret hx hb hr (Or.inl ⟨_, rfl⟩) hlocks hP hD hS () (List.Perm.refl _) rfl (Nat.le_of_ble_eq_true rfl) (Nat.le_of_ble_eq_true rfl) d_X0_nameOf_45

set_option maxHeartbeats 1000000 in
set_option maxRecDepth 100000 in
theorem c_X0_nameOf_6 (g : GG)   : Cg g y_X0_nameOf b_X0_nameOf 1 (some (.object "java/lang/String")) ({ frames := 0, cells := 0, slots := 0, locals := 0 } : Room) [.int (nI 6)] [] (S := Unit) (fun (v : Option Value) (_ : Unit) => v = some (.ref (g.2.2.2.1 2))) (fun (_ : Unit) => []) := by
  refine Ct_of (cc := b_X0_nameOf) (maxL := 1) (ret := (some (.object "java/lang/String"))) (by decide) rfl (Nat.le_of_ble_eq_true rfl) ?_
  intro p e s m below meth c A ls hx hb hr hml hown hts hlocks hin hA hP hK hD hXs hS hl
  have ht : ∀ w ∈ tb, w.before [.int (nI 6)].toArray s = true := fun w h => hts w (List.mem_cons_of_mem _ h)
  have hown : s.vm.findClass R_X0 = some m.cls := hown
  have hl : lv_has ls 1 [(0, .int (nI 6))] := hl
  refine lv_iload_n hx hb d_X0_nameOf_0 rfl (lv_at hl 0 rfl) ?_
  refine lv_tableIn (off := 45) (tgt := 46) hx hb d_X0_nameOf_1 (by decide) (by decide) rfl (by decide) ?_
  refine va_ldcS hx hb hown (hXs.2.2.2.2.2.2.2.2 2 (by decide)) d_X0_nameOf_46 ?_
  exact g_aret hx hb hr (Or.inl ⟨_, rfl⟩) hlocks hP hD hS () (List.Perm.refl _) rfl (Nat.le_of_ble_eq_true rfl) (Nat.le_of_ble_eq_true rfl) d_X0_nameOf_48

set_option maxHeartbeats 1000000 in
set_option maxRecDepth 100000 in
theorem c_X0_nameOf_7 (g : GG)   : Cg g y_X0_nameOf b_X0_nameOf 1 (some (.object "java/lang/String")) ({ frames := 0, cells := 0, slots := 0, locals := 0 } : Room) [.int (nI 7)] [] (S := Unit) (fun (v : Option Value) (_ : Unit) => v = some (.ref (g.2.2.2.1 3))) (fun (_ : Unit) => []) := by
  refine Ct_of (cc := b_X0_nameOf) (maxL := 1) (ret := (some (.object "java/lang/String"))) (by decide) rfl (Nat.le_of_ble_eq_true rfl) ?_
  intro p e s m below meth c A ls hx hb hr hml hown hts hlocks hin hA hP hK hD hXs hS hl
  have ht : ∀ w ∈ tb, w.before [.int (nI 7)].toArray s = true := fun w h => hts w (List.mem_cons_of_mem _ h)
  have hown : s.vm.findClass R_X0 = some m.cls := hown
  have hl : lv_has ls 1 [(0, .int (nI 7))] := hl
  refine lv_iload_n hx hb d_X0_nameOf_0 rfl (lv_at hl 0 rfl) ?_
  refine lv_tableIn (off := 48) (tgt := 49) hx hb d_X0_nameOf_1 (by decide) (by decide) rfl (by decide) ?_
  refine va_ldcS hx hb hown (hXs.2.2.2.2.2.2.2.2 3 (by decide)) d_X0_nameOf_49 ?_
  exact g_aret hx hb hr (Or.inl ⟨_, rfl⟩) hlocks hP hD hS () (List.Perm.refl _) rfl (Nat.le_of_ble_eq_true rfl) (Nat.le_of_ble_eq_true rfl) d_X0_nameOf_51

set_option maxHeartbeats 1000000 in
set_option maxRecDepth 100000 in
theorem c_X0_nameOf_8 (g : GG)   : Cg g y_X0_nameOf b_X0_nameOf 1 (some (.object "java/lang/String")) ({ frames := 0, cells := 0, slots := 0, locals := 0 } : Room) [.int (nI 8)] [] (S := Unit) (fun (v : Option Value) (_ : Unit) => v = some (.ref (g.2.2.2.1 4))) (fun (_ : Unit) => []) := by
  refine Ct_of (cc := b_X0_nameOf) (maxL := 1) (ret := (some (.object "java/lang/String"))) (by decide) rfl (Nat.le_of_ble_eq_true rfl) ?_
  intro p e s m below meth c A ls hx hb hr hml hown hts hlocks hin hA hP hK hD hXs hS hl
  have ht : ∀ w ∈ tb, w.before [.int (nI 8)].toArray s = true := fun w h => hts w (List.mem_cons_of_mem _ h)
  have hown : s.vm.findClass R_X0 = some m.cls := hown
  have hl : lv_has ls 1 [(0, .int (nI 8))] := hl
  refine lv_iload_n hx hb d_X0_nameOf_0 rfl (lv_at hl 0 rfl) ?_
  refine lv_tableIn (off := 51) (tgt := 52) hx hb d_X0_nameOf_1 (by decide) (by decide) rfl (by decide) ?_
  refine va_ldcS hx hb hown (hXs.2.2.2.2.2.2.2.2 4 (by decide)) d_X0_nameOf_52 ?_
  exact g_aret hx hb hr (Or.inl ⟨_, rfl⟩) hlocks hP hD hS () (List.Perm.refl _) rfl (Nat.le_of_ble_eq_true rfl) (Nat.le_of_ble_eq_true rfl) d_X0_nameOf_54

set_option maxHeartbeats 1000000 in
set_option maxRecDepth 100000 in
theorem c_X0_nameOf_9 (g : GG)   : Cg g y_X0_nameOf b_X0_nameOf 1 (some (.object "java/lang/String")) ({ frames := 0, cells := 0, slots := 0, locals := 0 } : Room) [.int (nI 9)] [] (S := Unit) (fun (v : Option Value) (_ : Unit) => v = some (.ref (g.2.2.2.1 5))) (fun (_ : Unit) => []) := by
  refine Ct_of (cc := b_X0_nameOf) (maxL := 1) (ret := (some (.object "java/lang/String"))) (by decide) rfl (Nat.le_of_ble_eq_true rfl) ?_
  intro p e s m below meth c A ls hx hb hr hml hown hts hlocks hin hA hP hK hD hXs hS hl
  have ht : ∀ w ∈ tb, w.before [.int (nI 9)].toArray s = true := fun w h => hts w (List.mem_cons_of_mem _ h)
  have hown : s.vm.findClass R_X0 = some m.cls := hown
  have hl : lv_has ls 1 [(0, .int (nI 9))] := hl
  refine lv_iload_n hx hb d_X0_nameOf_0 rfl (lv_at hl 0 rfl) ?_
  refine lv_tableIn (off := 54) (tgt := 55) hx hb d_X0_nameOf_1 (by decide) (by decide) rfl (by decide) ?_
  refine va_ldcS hx hb hown (hXs.2.2.2.2.2.2.2.2 5 (by decide)) d_X0_nameOf_55 ?_
  exact g_aret hx hb hr (Or.inl ⟨_, rfl⟩) hlocks hP hD hS () (List.Perm.refl _) rfl (Nat.le_of_ble_eq_true rfl) (Nat.le_of_ble_eq_true rfl) d_X0_nameOf_57

set_option maxHeartbeats 1000000 in
set_option maxRecDepth 100000 in
theorem c_X0_nameOf_10 (g : GG)   : Cg g y_X0_nameOf b_X0_nameOf 1 (some (.object "java/lang/String")) ({ frames := 0, cells := 0, slots := 0, locals := 0 } : Room) [.int (nI 10)] [] (S := Unit) (fun (v : Option Value) (_ : Unit) => v = some (.ref (g.2.2.2.1 6))) (fun (_ : Unit) => []) := by
  refine Ct_of (cc := b_X0_nameOf) (maxL := 1) (ret := (some (.object "java/lang/String"))) (by decide) rfl (Nat.le_of_ble_eq_true rfl) ?_
  intro p e s m below meth c A ls hx hb hr hml hown hts hlocks hin hA hP hK hD hXs hS hl
  have ht : ∀ w ∈ tb, w.before [.int (nI 10)].toArray s = true := fun w h => hts w (List.mem_cons_of_mem _ h)
  have hown : s.vm.findClass R_X0 = some m.cls := hown
  have hl : lv_has ls 1 [(0, .int (nI 10))] := hl
  refine lv_iload_n hx hb d_X0_nameOf_0 rfl (lv_at hl 0 rfl) ?_
  refine lv_tableOut (tgt := 58) hx hb d_X0_nameOf_1 (by decide) (by decide) ?_
  refine va_ldcS hx hb hown (hXs.2.2.2.2.2.2.2.2 6 (by decide)) d_X0_nameOf_58 ?_
  exact g_aret hx hb hr (Or.inl ⟨_, rfl⟩) hlocks hP hD hS () (List.Perm.refl _) rfl (Nat.le_of_ble_eq_true rfl) (Nat.le_of_ble_eq_true rfl) d_X0_nameOf_60
