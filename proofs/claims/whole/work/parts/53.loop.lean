/-! THE CLAIM OUT OF ONE WALK OF THE LAW'S BODY. Your part is whole_start (and what it stands on); all else here is the same for every law, but numbers. -/
def R_law : String := "GreetDeskLaw"
def lw_P (b : Addr) (xs : List Int32) (args : Array Value) (s : State) : Prop := args = #[.ref b] ∧ s.IntsAt b xs ∧ xs.length ≤ 2560 ∧ (Jvm.Cond.and given_1 narrow_1).before args s = true
def lw_Q (_ : Array Value) (s : State) (o : Outcome) (t : State) : Prop := o = .returned (some (.int 1)) ∧ Framed s o t [] 601024 7293033
def lw_Z (below : List Frame) (a : Array Value) (s : State) : State → Prop := fun t => ∃ o, t.status = .running ∧ Ended t below o ∧ lw_Q a s o t
/-- the law's own end, with 1 on the stack, nothing written that was there before, its room as the claim has it -/
theorem lw_ret {p : Program} {l : Launch} {e : Env} {s : State} {m : MethodId} {below : List Frame} {meth : Method} {c : Code} {b : Nat} (hx : p.tables.exec = Jvm.exec) (hb : c.code = code) (hr : meth.sig.returnType = ret) (hlocks : meth.locks = false) {pc : Nat} {H : Heap} {ls : Array Slot} (hdg : decode code pc = .ok (.ireturn, 1)) : W p l e room_1 s m #[Value.ref b] below meth c H [] 601024 7293033 (lw_Z below #[Value.ref b] s) (F0 m pc ls [.int 1]) := by
  intro T hT X
  obtain ⟨fs, hret, hrun, hended, hW, hframe⟩ := X.leave (v := some (.int 1)) (hlocks := hlocks) (fun h => by rw [hr] at h; cases h)
  have hmeth' : T.vm.method? m = some meth := X.method'
  refine ⟨T.setFrames fs, ?_, .returned (some (.int 1)), hrun, hended, rfl, ⟨_, rfl⟩, hW, hframe⟩
  jvm_step X.here [X.here.top, hx, hb, hdg, hmeth', hr, ret, narrow_b1]
  (try refine ⟨rfl, ?_⟩); (try refine ⟨rfl, ?_⟩)
  first | (intro acts; rw [hret _ acts rfl rfl rfl]) | rw [hret _ _ rfl rfl rfl]
  exact Steps.refl _
/-- what holds at the law's entry: the machine, the code, the tables' words (any of lw_tbl by 'hts w (by decide +kernel)'), the script of L ints xs at the cell b, what the Statement gives of the start (any of its parts by flat_of_before) -/
def lw_At (p : Program) (s : State) (m : MethodId) (meth : Method) (c : Code) (b L : Nat) (xs : Nat → Int32) : Prop :=
  p.tables.exec = Jvm.exec ∧ c.code = code ∧ meth.sig.returnType = ret ∧ c.maxLocals = 7 ∧ s.vm.findClass R_law = some m.cls ∧ (∀ w ∈ lw_tbl, w.before #[Value.ref b] s = true) ∧ va_X b L xs s s.heap ∧ b < s.heap.size ∧ meth.locks = false ∧ (Jvm.Cond.and given_1 narrow_1).before #[Value.ref b] s = true
theorem tb_SW {own : String} {i : Nat} {y : MethodName} {b : ByteArray} {n : Nat} {r : Option FieldType} {hh : List (Nat × Nat × Nat × Nat)} (h1 : Cond.methodLink own i y ∈ tb) (h2 : Cond.static y ∈ tb) (h4 : Cond.initialized y.cls ∈ tb) (h5 : Cond.codeWith y b n r hh ∈ tb) : GoodIn tb (va_wsS own i y (.codeWith y b n r hh :: tb)) := by
  intro w hw
  have hm : w ∈ tb := by
    rcases List.mem_append.mp hw with h | h
    · simp only [List.mem_cons, List.not_mem_nil, or_false] at h
      rcases h with rfl | rfl | rfl
      · exact h1
      · exact h2
      · exact h4
    · rcases List.mem_cons.mp h with rfl | h
      · exact h5
      · exact h
  exact ⟨hm, tb_good hm⟩
section LSC
variable {p : Program} {l : Launch} {e : Env} {R : Room} {s : State} {m : MethodId} {args : Array Value} {below : List Frame} {meth : Method} {c : Code} {H H0 : Heap} {locs : List Loc} {cells slots : Nat} {Q : State → Prop}
variable {cc : ByteArray} {pc : Nat} {ls : Array Slot} {rest : List Value} {A : Nat → Prop}
theorem ln_sld (hx : p.tables.exec = Jvm.exec) (hb : c.code = cc) {b L : Nat} {xs : Nat → Int32} (hX : va_X b L xs s H0) (hbl : b < H0.size) (hbA : ¬ A b) (hS : va_S A H0 H locs) {k : Nat} (hk : k < L) (hL : L < 2 ^ 31) (hdg : decode cc pc = .ok (.iaload, 1))
    (kk : W p l e R s m args below meth c H locs cells slots Q (F0 m (pc + 1) ls (.int (xs k) :: rest))) : W p l e R s m args below meth c H locs cells slots Q (F0 m pc ls (.int (nI k) :: .ref b :: rest)) :=
  va_sld hx hb hX hbl hbA hS (vp_in_nI hk hL) hdg (by rw [nI_clamp (by omega)]; exact kk)
end LSC
theorem lc_self (y : Int64) : (if y < y then (1 : Int32) else if y = y then 0 else -1) = 0 := by rw [if_neg (Int64.lt_irrefl), if_pos rfl]
theorem sub5 {L t : Nat} (hL : L ≤ 2560) (ht : t ≤ 513) (h : ¬ nI L - nI 5 < nI (5 * t)) : 5 * t + 5 ≤ L := by
  rw [Int32.lt_iff_toInt_lt, pk_sub_toInt (by omega) (by decide), nI_toInt (by omega)] at h
  omega
theorem step_thrown (g : GG) (mo : Nat) (ma : Nat → Nat) (sf rd : Nat → Int32) (q : MT) : Ct g.1 g.2.1 cls7 (tysG g) (XS g) y_X6_thrown (.code y_X6_thrown b_X6_thrown 1 (some .int) :: tb) RM9 [.ref mo] (mWd g mo ma sf rd q) (S := Unit) (fun v _ => v = some (.int (nI q.2.2.1))) (fun _ => mWd g mo ma sf rd q) := by
  obtain ⟨tpf, tp, th, sz, hm, mf⟩ := q
  exact Ct_wrap (wr := [(ma 30, .inl (cI g, 8, .inl (hm 30))), (ma 31, .inl (cI g, 64, .inl (hm 31))), (ma 32, .inl (cI g, 4096, .inl (hm 32))), (ma 34, .inl (cI g, 32, .inl (hm 34))), (ma 35, .inl (cI g, 32, .inl (hm 35))), (ma 36, .inl (cI g, 32, .inl (hm 36))), (ma 37, .inl (cI g, 32, .inl (hm 37))), (ma 27, .inl (cI g, 8, .inl sf)), (ma 28, .inl (cI g, 64, .inl rd)), (ma 3, .inl (cZ g, 2, .inl (mf 3))), (ma 4, .inl (cZ g, 2, .inl (mf 4))), (ma 5, .inl (cI g, 64, .inl (mf 5))), (ma 6, .inl (cI g, 64, .inl (mf 6))), (ma 7, .inl (cI g, 600, .inl (mf 7))), (ma 8, .inl (cI g, 2, .inl (mf 8))), (ma 9, .inl (cI g, 40, .inl (mf 9))), (ma 10, .inl (cI g, 2, .inl (mf 10))), (ma 11, .inl (cZ g, 2, .inl (mf 11))), (ma 12, .inl (cI g, 2, .inl (mf 12))), (ma 13, .inl (cZ g, 2, .inl (mf 13))), (ma 14, .inl (cI g, 2, .inl (mf 14))), (ma 15, .inl (cI g, 8192, .inl (mf 15))), (ma 16, .inl (cI g, 4, .inl (mf 16))), (ma 17, .inl (cI g, 4, .inl (mf 17))), (ma 18, .inl (cI g, 8192, .inl (mf 18))), (ma 19, .inl (cI g, 4, .inl (mf 19))), (ma 20, .inl (cI g, 600, .inl (mf 20))), (ma 21, .inl (cI g, 2, .inl (mf 21))), (ma 22, .inl (cI g, 4096, .inl (mf 22))), (ma 23, .inl (cI g, 2, .inl (mf 23))), (ma 24, .inl (cI g, 384, .inl (mf 24))), (ma 25, .inl (cI g, 2, .inl (mf 25))), (ma 26, .inl (cI g, 64, .inl (mf 26))), (ma 1, .inl (cI g, 2048, .inl tpf))]) (c_X6_thrown g mo ma th tp sz) (XSok g) (g_perm 35 [0, 1, 2, 3, 4, 5, 6, 7, 8, 9, 10, 11, 12, 13, 14, 15, 16, 17, 18, 19, 20, 21, 22, 23, 24, 25, 26, 27, 28, 29, 30, 31, 32, 33, 34] rfl rfl (by decide +kernel)) (fun _ => ()) (fun v u h => h) (fun u => g_perm 35 [34, 0, 1, 2, 3, 4, 5, 6, 7, 8, 9, 10, 11, 12, 13, 14, 15, 16, 17, 18, 19, 20, 21, 22, 23, 24, 25, 26, 27, 28, 29, 30, 31, 32, 33] rfl rfl (by decide +kernel)) (Nat.le_of_ble_eq_true rfl) (Nat.le_of_ble_eq_true rfl) (Nat.le_of_ble_eq_true rfl) (Nat.le_of_ble_eq_true rfl)
set_option maxHeartbeats 4000000 in
theorem step_wipe (g : GG) (a : DA) (ff : Nat → Int32) (mo : Nat) (ma : Nat → Nat) (sf rd : Nat → Int32) (oa : Nat) (s : PS) (hI : inv s) : ∃ (r : Int32) (s' : PS), inv s' ∧
    (∀ (d : DS) (f : Nat → Int64), okD s d → Ct g.1 g.2.1 cls7 (tysG g) (XS g) y_X5_wipe (.code y_X5_wipe b_X5_wipe 2 (some .int) :: tb) RM9 [.ref a.1] (outC g oa f :: dWd g a ff d) (S := DS) (fun v u => v = some (.int r) ∧ okD s' u) (fun u => outC g oa f :: dWd g a ff u)) ∧
    (∀ q : MT, okM s q → Ct g.1 g.2.1 cls7 (tysG g) (XS g) y_X6_wipe (.code y_X6_wipe b_X6_wipe 2 (some .int) :: tb) RM9 [.ref mo] (mWd g mo ma sf rd q) (S := MT) (fun v u => v = some (.int r) ∧ okM s' u) (fun u => mWd g mo ma sf rd u)) := by
  obtain ⟨x, dt, dq, da, hh, sh, sa⟩ := a
  obtain ⟨T, LL, nn⟩ := s
  refine ⟨nI T.length, ([], LL, nn), ⟨by8_nil, Nat.zero_le _, hI.2.2⟩, ?_, ?_⟩
  · rintro ⟨tf, tz, hs, hz, zs, fs, ns⟩ f hd0
    refine Ct_wrap (wr := [(oa, .inl (cJ g, 1, .inr (.inl f))), (hh, .inr (0, [.ref (sh 0), .ref (sh 2), .ref (sh 4), .ref (sh 6), .ref (sh 8), .ref (sh 9)])), (sh 0, .inr (3, [.ref (sh 1), .int (nI 0)])), (sh 1, .inl (cI g, 0, .inl (fun _ => 0))), (sh 2, .inr (3, [.ref (sh 3), .int (nI 20)])), (sh 3, .inl (cI g, 20, .inl ff)), (sh 4, .inr (3, [.ref (sh 5), .int (nI (hz 0))])), (sh 5, .inl (cI g, 768, .inl (hs 0))), (sh 6, .inr (3, [.ref (sh 7), .int (nI (hz 1))])), (sh 7, .inl (cI g, 32, .inl (hs 3))), (sh 8, .inl (cI g, 64, .inl (hs 1))), (sh 9, .inl (cI g, 8, .inl (hs 2))), (da 0, .inr (4, [.int (nI 0), .ref ((sa 0) 0), .ref ((sa 0) 2), .ref ((sa 0) 4), .int (nI ((ns 0) 0)), .int (nI ((ns 0) 1)), .int (nI ((ns 0) 2)), .int (nI ((ns 0) 3)), .int (nI ((ns 0) 4)), .ref hh, .ref ((sa 0) 6), .ref ((sa 0) 8), .ref ((sa 0) 10), .ref ((sa 0) 12), .ref ((sa 0) 14), .ref ((sa 0) 38), .ref ((sa 0) 39), .ref ((sa 0) 40), .ref ((sa 0) 41), .ref ((sa 0) 42)])), ((sa 0) 0, .inr (3, [.ref ((sa 0) 1), .int (nI ((zs 0) 0))])), ((sa 0) 1, .inl (cI g, 32, .inl ((fs 0) 0))), ((sa 0) 2, .inr (3, [.ref ((sa 0) 3), .int (nI ((zs 0) 1))])), ((sa 0) 3, .inl (cI g, 32, .inl ((fs 0) 1))), ((sa 0) 4, .inr (3, [.ref ((sa 0) 5), .int (nI ((zs 0) 2))])), ((sa 0) 5, .inl (cI g, 300, .inl ((fs 0) 2))), ((sa 0) 6, .inr (3, [.ref ((sa 0) 7), .int (nI ((zs 0) 3))])), ((sa 0) 7, .inl (cI g, 300, .inl ((fs 0) 3))), ((sa 0) 8, .inr (3, [.ref ((sa 0) 9), .int (nI ((zs 0) 4))])), ((sa 0) 9, .inl (cI g, 336, .inl ((fs 0) 4))), ((sa 0) 10, .inr (3, [.ref ((sa 0) 11), .int (nI ((zs 0) 5))])), ((sa 0) 11, .inl (cI g, 748, .inl ((fs 0) 5))), ((sa 0) 12, .inr (3, [.ref ((sa 0) 13), .int (nI ((zs 0) 6))])), ((sa 0) 13, .inl (cI g, 32, .inl ((fs 0) 6))), ((sa 0) 14, .inr (3, [.ref ((sa 0) 15), .int (nI ((zs 0) 7))])), ((sa 0) 15, .inl (cI g, 32, .inl ((fs 0) 7))), ((sa 0) 16, .inr (3, [.ref ((sa 0) 17), .int (nI ((zs 0) 8))])), ((sa 0) 17, .inl (cI g, 336, .inl ((fs 0) 8))), ((sa 0) 18, .inr (3, [.ref ((sa 0) 19), .int (nI ((zs 0) 9))])), ((sa 0) 19, .inl (cI g, 340, .inl ((fs 0) 9))), ((sa 0) 20, .inr (3, [.ref ((sa 0) 21), .int (nI ((zs 0) 10))])), ((sa 0) 21, .inl (cI g, 32, .inl ((fs 0) 10))), ((sa 0) 22, .inr (3, [.ref ((sa 0) 23), .int (nI ((zs 0) 11))])), ((sa 0) 23, .inl (cI g, 32, .inl ((fs 0) 11))), ((sa 0) 24, .inr (3, [.ref ((sa 0) 25), .int (nI ((zs 0) 12))])), ((sa 0) 25, .inl (cI g, 32, .inl ((fs 0) 12))), ((sa 0) 26, .inr (3, [.ref ((sa 0) 27), .int (nI ((zs 0) 13))])), ((sa 0) 27, .inl (cI g, 32, .inl ((fs 0) 13))), ((sa 0) 28, .inr (3, [.ref ((sa 0) 29), .int (nI ((zs 0) 14))])), ((sa 0) 29, .inl (cI g, 32, .inl ((fs 0) 14))), ((sa 0) 30, .inr (3, [.ref ((sa 0) 31), .int (nI ((zs 0) 15))])), ((sa 0) 31, .inl (cI g, 32, .inl ((fs 0) 15))), ((sa 0) 32, .inr (3, [.ref ((sa 0) 33), .int (nI ((zs 0) 16))])), ((sa 0) 33, .inl (cI g, 32, .inl ((fs 0) 16))), ((sa 0) 34, .inr (3, [.ref ((sa 0) 35), .int (nI ((zs 0) 17))])), ((sa 0) 35, .inl (cI g, 32, .inl ((fs 0) 17))), ((sa 0) 36, .inr (3, [.ref ((sa 0) 37), .int (nI ((zs 0) 18))])), ((sa 0) 37, .inl (cI g, 32, .inl ((fs 0) 18))), ((sa 0) 38, .inr (1, [.ref ((sa 0) 16), .int (nI ((ns 0) 5))])), ((sa 0) 39, .inr (1, [.ref ((sa 0) 18), .int (nI ((ns 0) 6))])), ((sa 0) 40, .inr (2, [.ref ((sa 0) 20), .ref ((sa 0) 22), .ref ((sa 0) 24)])), ((sa 0) 41, .inr (2, [.ref ((sa 0) 26), .ref ((sa 0) 28), .ref ((sa 0) 30)])), ((sa 0) 42, .inr (2, [.ref ((sa 0) 32), .ref ((sa 0) 34), .ref ((sa 0) 36)])), (da 1, .inr (4, [.int (nI 1), .ref ((sa 1) 0), .ref ((sa 1) 2), .ref ((sa 1) 4), .int (nI ((ns 1) 0)), .int (nI ((ns 1) 1)), .int (nI ((ns 1) 2)), .int (nI ((ns 1) 3)), .int (nI ((ns 1) 4)), .ref hh, .ref ((sa 1) 6), .ref ((sa 1) 8), .ref ((sa 1) 10), .ref ((sa 1) 12), .ref ((sa 1) 14), .ref ((sa 1) 38), .ref ((sa 1) 39), .ref ((sa 1) 40), .ref ((sa 1) 41), .ref ((sa 1) 42)])), ((sa 1) 0, .inr (3, [.ref ((sa 1) 1), .int (nI ((zs 1) 0))])), ((sa 1) 1, .inl (cI g, 32, .inl ((fs 1) 0))), ((sa 1) 2, .inr (3, [.ref ((sa 1) 3), .int (nI ((zs 1) 1))])), ((sa 1) 3, .inl (cI g, 32, .inl ((fs 1) 1))), ((sa 1) 4, .inr (3, [.ref ((sa 1) 5), .int (nI ((zs 1) 2))])), ((sa 1) 5, .inl (cI g, 300, .inl ((fs 1) 2))), ((sa 1) 6, .inr (3, [.ref ((sa 1) 7), .int (nI ((zs 1) 3))])), ((sa 1) 7, .inl (cI g, 300, .inl ((fs 1) 3))), ((sa 1) 8, .inr (3, [.ref ((sa 1) 9), .int (nI ((zs 1) 4))])), ((sa 1) 9, .inl (cI g, 336, .inl ((fs 1) 4))), ((sa 1) 10, .inr (3, [.ref ((sa 1) 11), .int (nI ((zs 1) 5))])), ((sa 1) 11, .inl (cI g, 748, .inl ((fs 1) 5))), ((sa 1) 12, .inr (3, [.ref ((sa 1) 13), .int (nI ((zs 1) 6))])), ((sa 1) 13, .inl (cI g, 32, .inl ((fs 1) 6))), ((sa 1) 14, .inr (3, [.ref ((sa 1) 15), .int (nI ((zs 1) 7))])), ((sa 1) 15, .inl (cI g, 32, .inl ((fs 1) 7))), ((sa 1) 16, .inr (3, [.ref ((sa 1) 17), .int (nI ((zs 1) 8))])), ((sa 1) 17, .inl (cI g, 336, .inl ((fs 1) 8))), ((sa 1) 18, .inr (3, [.ref ((sa 1) 19), .int (nI ((zs 1) 9))])), ((sa 1) 19, .inl (cI g, 340, .inl ((fs 1) 9))), ((sa 1) 20, .inr (3, [.ref ((sa 1) 21), .int (nI ((zs 1) 10))])), ((sa 1) 21, .inl (cI g, 32, .inl ((fs 1) 10))), ((sa 1) 22, .inr (3, [.ref ((sa 1) 23), .int (nI ((zs 1) 11))])), ((sa 1) 23, .inl (cI g, 32, .inl ((fs 1) 11))), ((sa 1) 24, .inr (3, [.ref ((sa 1) 25), .int (nI ((zs 1) 12))])), ((sa 1) 25, .inl (cI g, 32, .inl ((fs 1) 12))), ((sa 1) 26, .inr (3, [.ref ((sa 1) 27), .int (nI ((zs 1) 13))])), ((sa 1) 27, .inl (cI g, 32, .inl ((fs 1) 13))), ((sa 1) 28, .inr (3, [.ref ((sa 1) 29), .int (nI ((zs 1) 14))])), ((sa 1) 29, .inl (cI g, 32, .inl ((fs 1) 14))), ((sa 1) 30, .inr (3, [.ref ((sa 1) 31), .int (nI ((zs 1) 15))])), ((sa 1) 31, .inl (cI g, 32, .inl ((fs 1) 15))), ((sa 1) 32, .inr (3, [.ref ((sa 1) 33), .int (nI ((zs 1) 16))])), ((sa 1) 33, .inl (cI g, 32, .inl ((fs 1) 16))), ((sa 1) 34, .inr (3, [.ref ((sa 1) 35), .int (nI ((zs 1) 17))])), ((sa 1) 35, .inl (cI g, 32, .inl ((fs 1) 17))), ((sa 1) 36, .inr (3, [.ref ((sa 1) 37), .int (nI ((zs 1) 18))])), ((sa 1) 37, .inl (cI g, 32, .inl ((fs 1) 18))), ((sa 1) 38, .inr (1, [.ref ((sa 1) 16), .int (nI ((ns 1) 5))])), ((sa 1) 39, .inr (1, [.ref ((sa 1) 18), .int (nI ((ns 1) 6))])), ((sa 1) 40, .inr (2, [.ref ((sa 1) 20), .ref ((sa 1) 22), .ref ((sa 1) 24)])), ((sa 1) 41, .inr (2, [.ref ((sa 1) 26), .ref ((sa 1) 28), .ref ((sa 1) 30)])), ((sa 1) 42, .inr (2, [.ref ((sa 1) 32), .ref ((sa 1) 34), .ref ((sa 1) 36)]))]) (c_X5_wipe g x dt da dq tf tz) (XSok g) (g_perm 103 [1, 2, 3, 0, 4, 5, 6, 7, 8, 9, 10, 11, 12, 13, 14, 15, 16, 17, 18, 19, 20, 21, 22, 23, 24, 25, 26, 27, 28, 29, 30, 31, 32, 33, 34, 35, 36, 37, 38, 39, 40, 41, 42, 43, 44, 45, 46, 47, 48, 49, 50, 51, 52, 53, 54, 55, 56, 57, 58, 59, 60, 61, 62, 63, 64, 65, 66, 67, 68, 69, 70, 71, 72, 73, 74, 75, 76, 77, 78, 79, 80, 81, 82, 83, 84, 85, 86, 87, 88, 89, 90, 91, 92, 93, 94, 95, 96, 97, 98, 99, 100, 101, 102] rfl rfl (by decide +kernel)) (fun _ => (tf, 0, hs, hz, zs, fs, ns)) (fun v u h => ?_) (fun u => g_perm 103 [0, 100, 101, 102, 1, 2, 3, 4, 5, 6, 7, 8, 9, 10, 11, 12, 13, 14, 15, 16, 17, 18, 19, 20, 21, 22, 23, 24, 25, 26, 27, 28, 29, 30, 31, 32, 33, 34, 35, 36, 37, 38, 39, 40, 41, 42, 43, 44, 45, 46, 47, 48, 49, 50, 51, 52, 53, 54, 55, 56, 57, 58, 59, 60, 61, 62, 63, 64, 65, 66, 67, 68, 69, 70, 71, 72, 73, 74, 75, 76, 77, 78, 79, 80, 81, 82, 83, 84, 85, 86, 87, 88, 89, 90, 91, 92, 93, 94, 95, 96, 97, 98, 99] rfl rfl (by decide +kernel)) (Nat.le_of_ble_eq_true rfl) (Nat.le_of_ble_eq_true rfl) (Nat.le_of_ble_eq_true rfl) (Nat.le_of_ble_eq_true rfl)
    exact ⟨h.trans (congrArg (fun z => some (Value.int (nI z))) hd0.2.1), bz_nil _, rfl, hd0.2.2⟩
  · rintro ⟨tpf, tp, th, sz, hm, mf⟩ hq0
    refine Ct_wrap (wr := [(ma 30, .inl (cI g, 8, .inl (hm 30))), (ma 31, .inl (cI g, 64, .inl (hm 31))), (ma 32, .inl (cI g, 4096, .inl (hm 32))), (ma 34, .inl (cI g, 32, .inl (hm 34))), (ma 35, .inl (cI g, 32, .inl (hm 35))), (ma 36, .inl (cI g, 32, .inl (hm 36))), (ma 37, .inl (cI g, 32, .inl (hm 37))), (ma 27, .inl (cI g, 8, .inl sf)), (ma 28, .inl (cI g, 64, .inl rd)), (ma 3, .inl (cZ g, 2, .inl (mf 3))), (ma 4, .inl (cZ g, 2, .inl (mf 4))), (ma 5, .inl (cI g, 64, .inl (mf 5))), (ma 6, .inl (cI g, 64, .inl (mf 6))), (ma 7, .inl (cI g, 600, .inl (mf 7))), (ma 8, .inl (cI g, 2, .inl (mf 8))), (ma 9, .inl (cI g, 40, .inl (mf 9))), (ma 10, .inl (cI g, 2, .inl (mf 10))), (ma 11, .inl (cZ g, 2, .inl (mf 11))), (ma 12, .inl (cI g, 2, .inl (mf 12))), (ma 13, .inl (cZ g, 2, .inl (mf 13))), (ma 14, .inl (cI g, 2, .inl (mf 14))), (ma 15, .inl (cI g, 8192, .inl (mf 15))), (ma 16, .inl (cI g, 4, .inl (mf 16))), (ma 17, .inl (cI g, 4, .inl (mf 17))), (ma 18, .inl (cI g, 8192, .inl (mf 18))), (ma 19, .inl (cI g, 4, .inl (mf 19))), (ma 20, .inl (cI g, 600, .inl (mf 20))), (ma 21, .inl (cI g, 2, .inl (mf 21))), (ma 22, .inl (cI g, 4096, .inl (mf 22))), (ma 23, .inl (cI g, 2, .inl (mf 23))), (ma 24, .inl (cI g, 384, .inl (mf 24))), (ma 25, .inl (cI g, 2, .inl (mf 25))), (ma 26, .inl (cI g, 64, .inl (mf 26))), (ma 1, .inl (cI g, 2048, .inl tpf))]) (c_X6_wipe g mo ma th tp sz) (XSok g) (g_perm 35 [0, 1, 2, 3, 4, 5, 6, 7, 8, 9, 10, 11, 12, 13, 14, 15, 16, 17, 18, 19, 20, 21, 22, 23, 24, 25, 26, 27, 28, 29, 30, 31, 32, 33, 34] rfl rfl (by decide +kernel)) (fun _ => (tpf, 0, 0, sz, hm, mf)) (fun v u h => ?_) (fun u => g_perm 35 [34, 0, 1, 2, 3, 4, 5, 6, 7, 8, 9, 10, 11, 12, 13, 14, 15, 16, 17, 18, 19, 20, 21, 22, 23, 24, 25, 26, 27, 28, 29, 30, 31, 32, 33] rfl rfl (by decide +kernel)) (Nat.le_of_ble_eq_true rfl) (Nat.le_of_ble_eq_true rfl) (Nat.le_of_ble_eq_true rfl) (Nat.le_of_ble_eq_true rfl)
    exact ⟨h.trans (congrArg (fun z => some (Value.int (nI z))) hq0.2.1), bz_nil _, rfl, hq0.2.2⟩
set_option maxHeartbeats 8000000 in
set_option maxRecDepth 100000 in
theorem law_loop (g : GG) (a : DA) (ff : Nat → Int32) (hff : bz fkL ff) (mo : Nat) (ma : Nat → Nat) (sf rd : Nat → Int32) (hsf : ∀ i, i < 8 → sf i = rootsL.getD i 0) (hrd : ∀ t, t < 64 → rd t = sh_K t) (oa : Nat) {p : Program} {e : Env} {s : State} {m : MethodId} {below : List Frame} {meth : Method} {c : Code} {b L : Nat} {xs : Nat → Int32} (hL : L ≤ 2560) (C0 : lw_At p s m meth c b L xs) (hK : va_K g.2.1 cls7 (tysG g) s) (hXl : XL g (fun q : Nat => s.heap.size ≤ q) s s.heap) :
    ∀ (k t : Nat) (ht9 : t + k = 513) (s9 : PS) (hI : inv s9) (d : DS) (q : MT) (f : Nat → Int64) (hd : okD s9 d) (hq : okM s9 q) (H : Heap) (locs : List Loc) (hP : va_P g.2.1 cls7 ((outC g oa f :: dWd g a ff d) ++ mWd g mo ma sf rd q) H) (hD : va_D (fun q : Nat => s.heap.size ≤ q) ((outC g oa f :: dWd g a ff d) ++ mWd g mo ma sf rd q)) (hS : va_S (fun q : Nat => s.heap.size ≤ q) s.heap H locs) (ls : Array Slot) (hl : lv_has ls 7 [(4, .int (nI (5 * t))), (0, .ref b), (1, .ref a.1), (2, .ref mo), (3, .ref oa)]), W p g.1 e room_1 s m #[Value.ref b] below meth c H locs (1000 + 3 * t) (100000 + 20 * t) (lw_Z below #[Value.ref b] s) (F0 m 23 ls []) := by
  obtain ⟨hx, hb, hr, hml, hown, hts, hX, hbl, hlocks, hgv⟩ := id C0
  have hA : ∀ q : Nat, s.heap.size ≤ q → (fun q : Nat => s.heap.size ≤ q) q := fun _ h => h
  have hbA : ¬ (fun q : Nat => s.heap.size ≤ q) b := Nat.not_le.mpr hbl
  have ht : ∀ w ∈ tb, w.before #[Value.ref b] s = true := fun w h => hts w (List.mem_filter.mp h).1
  have hXs := hXl.1
  have hown : s.vm.findClass R_L = some m.cls := hown
  intro k
  induction k with
  | zero =>
    intro t ht9 s9 hI d q f hd hq H locs hP hD hS ls hl
    refine lv_iload hx hb d_L_law_23 (lv_at hl 0 rfl) ?_
    refine lv_aload_n hx hb d_L_law_25 rfl (lv_at hl 1 rfl) ?_
    refine va_slen hx hb hX hbl hbA hS d_L_law_26 ?_
    refine W.eq (g2 := F0 m 27 ls [.int (nI L), .int (nI (5 * t))]) rfl ?_
    refine lv_iconst (v := (nI 5)) hx hb d_L_law_27 (by decide) ?_
    refine lv_isub hx hb d_L_law_28 ?_
    refine lv_icmp_gt (tgt := 751) hx hb d_L_law_29 (by decide) (fun hgt => ?_) (fun hng => ?_)
    · refine lv_iconst (v := nI 1) hx hb d_L_law_751 (by decide) ?_
      refine va_forget hS.2.2 ?_
      refine W.widen (k := 601024) (n := 7293033) (by omega) (by omega) ?_
      exact lw_ret hx hb hr hlocks d_L_law_752
    have hroom := sub5 hL (by omega) hng
    omega
  | succ k ih =>
    intro t ht9 s9 hI d q f hd hq H locs hP hD hS ls hl
    refine lv_iload hx hb d_L_law_23 (lv_at hl 0 rfl) ?_
    refine lv_aload_n hx hb d_L_law_25 rfl (lv_at hl 1 rfl) ?_
    refine va_slen hx hb hX hbl hbA hS d_L_law_26 ?_
    refine W.eq (g2 := F0 m 27 ls [.int (nI L), .int (nI (5 * t))]) rfl ?_
    refine lv_iconst (v := (nI 5)) hx hb d_L_law_27 (by decide) ?_
    refine lv_isub hx hb d_L_law_28 ?_
    refine lv_icmp_gt (tgt := 751) hx hb d_L_law_29 (by decide) (fun hgt => ?_) (fun hng => ?_)
    · refine lv_iconst (v := nI 1) hx hb d_L_law_751 (by decide) ?_
      refine va_forget hS.2.2 ?_
      refine W.widen (k := 601024) (n := 7293033) (by omega) (by omega) ?_
      exact lw_ret hx hb hr hlocks d_L_law_752
    have hroom := sub5 hL (by omega) hng
    have nxt : ∀ (s2 : PS) (hI2 : inv s2) (d2 : DS) (q2 : MT) (f2 : Nat → Int64) (hd2 : okD s2 d2) (hq2 : okM s2 q2) (H : Heap) (locs : List Loc) (hP : va_P g.2.1 cls7 ((outC g oa f2 :: dWd g a ff d2) ++ mWd g mo ma sf rd q2) H) (hD : va_D (fun q : Nat => s.heap.size ≤ q) ((outC g oa f2 :: dWd g a ff d2) ++ mWd g mo ma sf rd q2)) (hS : va_S (fun q : Nat => s.heap.size ≤ q) s.heap H locs) (ls : Array Slot) (hl : lv_has ls 7 [(4, .int (nI (5 * t))), (0, .ref b), (1, .ref a.1), (2, .ref mo), (3, .ref oa)]), W p g.1 e room_1 s m #[Value.ref b] below meth c H locs (1000 + 3 * t + 3) (100000 + 20 * t + 20) (lw_Z below #[Value.ref b] s) (F0 m 745 ls []) := by
      intro s2 hI2 d2 q2 f2 hd2 hq2 H locs hP hD hS ls hl
      refine ln_iinc (d := 5) (lv' := [(4, .int (nI (5 * t + 5))), (0, .ref b), (1, .ref a.1), (2, .ref mo), (3, .ref oa)]) hx hb d_L_law_745 hl (k := 0) rfl rfl (by decide) rfl (fun ls hl => ?_)
      refine lv_goto (tgt := 23) hx hb d_L_law_748 (by decide) ?_
      exact ih (t + 1) (by omega) s2 hI2 d2 q2 f2 hd2 hq2 H locs hP hD hS ls hl
    refine lv_aload_n hx hb d_L_law_32 rfl (lv_at hl 1 rfl) ?_
    refine lv_iload hx hb d_L_law_33 (lv_at hl 0 rfl) ?_
    refine ln_sld hx hb hX hbl hbA hS (by omega) (by omega) d_L_law_35 ?_
    refine lv_bipush (v := (nI 15)) hx hb d_L_law_36 (by decide) ?_
    refine lv_iand hx hb d_L_law_38 ?_
    obtain ⟨j, hj, ej⟩ := pk_andE (xs (5 * t)) (m := nI 15) 4 (by decide)
    refine W.eq (g2 := F0 m 39 ls [.int (nI j)]) (by rw [ej]) ?_
    rcases (show j = 0 ∨ j = 1 ∨ j = 2 ∨ j = 3 ∨ j = 4 ∨ j = 5 ∨ j = 6 ∨ j = 7 ∨ j = 8 ∨ j = 9 ∨ j = 10 ∨ j = 11 ∨ j = 12 ∨ j = 13 ∨ j = 14 ∨ j = 15 by omega) with rfl | rfl | rfl | rfl | rfl | rfl | rfl | rfl | rfl | rfl | rfl | rfl | rfl | rfl | rfl | rfl
    · refine lv_tableIn (off := 53) (tgt := 92) hx hb d_L_law_39 (by decide) (by decide) rfl (by decide) ?_
      refine lv_aload_n hx hb d_L_law_92 rfl (lv_at hl 2 rfl) ?_
      refine lv_aload_n hx hb d_L_law_93 rfl (lv_at hl 1 rfl) ?_
      refine lv_iload hx hb d_L_law_94 (lv_at hl 0 rfl) ?_
      refine lv_iconst (v := (nI 1)) hx hb d_L_law_96 (by decide) ?_
      refine ln_iadd hx hb d_L_law_97 ?_
      refine ln_sld hx hb hX hbl hbA hS (by omega) (by omega) d_L_law_98 ?_
      refine lv_aload_n hx hb d_L_law_99 rfl (lv_at hl 1 rfl) ?_
      refine lv_iload hx hb d_L_law_100 (lv_at hl 0 rfl) ?_
      refine lv_iconst (v := (nI 2)) hx hb d_L_law_102 (by decide) ?_
      refine ln_iadd hx hb d_L_law_103 ?_
      refine ln_sld hx hb hX hbl hbA hS (by omega) (by omega) d_L_law_104 ?_
      refine lv_i2l (v := (xs ((5 * t) + 2)).toInt64) hx hb d_L_law_105 rfl ?_
      refine lv_bipush (v := (nI 32)) hx hb d_L_law_106 (by decide) ?_
      refine lv_lshl (v := lL ((xs ((5 * t) + 2)).toInt64) (nI 32)) hx hb d_L_law_108 rfl ?_
      refine lv_aload_n hx hb d_L_law_109 rfl (lv_at hl 1 rfl) ?_
      refine lv_iload hx hb d_L_law_110 (lv_at hl 0 rfl) ?_
      refine lv_iconst (v := (nI 3)) hx hb d_L_law_112 (by decide) ?_
      refine ln_iadd hx hb d_L_law_113 ?_
      refine ln_sld hx hb hX hbl hbA hS (by omega) (by omega) d_L_law_114 ?_
      refine lv_i2l (v := (xs ((5 * t) + 3)).toInt64) hx hb d_L_law_115 rfl ?_
      refine lv_ldc2 (v := 4294967295) hx hb hown (ht _ w_943) d_L_law_116 ?_
      refine lv_land hx hb d_L_law_119 ?_
      refine lv_lor hx hb d_L_law_120 ?_
      refine lv_aload_n hx hb d_L_law_121 rfl (lv_at hl 4 rfl) ?_
      obtain ⟨kk, r, s2, hk3, hI2, hHh, hMm⟩ := step_feed g a ff hff mo ma sf rd hsf hrd oa (xs ((5 * t) + 1)) ((lL ((xs ((5 * t) + 2)).toInt64) (nI 32)) ||| (((xs ((5 * t) + 3)).toInt64) &&& 4294967295)) s9 hI
      refine g_callSW (As := [.ref a.1, .int (xs ((5 * t) + 1)), .long ((lL ((xs ((5 * t) + 2)).toInt64) (nI 32)) ||| (((xs ((5 * t) + 3)).toInt64) &&& 4294967295)), .ref oa]) (rest := []) (wr := mWd g mo ma sf rd q) (XLok g) ⟨hx, hb, hml, hown, ht⟩ hK hA hXl hl.1 hP hD hS (hHh d f hd) (List.Perm.refl _) (vx_cwSW 4 ht (tb_SW w_216 w_217 w_0 kL_feed) rfl rfl rfl (by decide +kernel) ⟨(Nat.le_of_ble_eq_true rfl), (Nat.le_of_ble_eq_true rfl)⟩) rfl rfl (Nat.le_of_ble_eq_true rfl) d_L_law_122 ⟨by show 1000 + 3 * t + 1 ≤ 601024; omega, by show 100000 + 20 * t + 6 ≤ 7293033; omega⟩ (fun v u H locs hw hP hD hS => ?_)
      obtain ⟨d2, f2⟩ := u
      obtain ⟨rfl, hd2, hout⟩ := hw
      have hP : va_P g.2.1 cls7 ((outC g oa f2 :: dWd g a ff d2) ++ mWd g mo ma sf rd q) H := wP_perm hP List.perm_append_comm
      have hD : va_D (fun q : Nat => s.heap.size ≤ q) ((outC g oa f2 :: dWd g a ff d2) ++ mWd g mo ma sf rd q) := wD_perm hD List.perm_append_comm
      refine W.eq (g2 := F0 m 125 ls [.int (nI kk)]) rfl ?_
      refine lv_istore (lv' := [(5, .int (nI kk)), (4, .int (nI (5 * t))), (0, .ref b), (1, .ref a.1), (2, .ref mo), (3, .ref oa)]) hx hb d_L_law_125 hl (by decide) rfl (fun ls hl => ?_)
      refine lv_aload_n hx hb d_L_law_127 rfl (lv_at hl 4 rfl) ?_
      refine lv_aload_n hx hb d_L_law_128 rfl (lv_at hl 2 rfl) ?_
      refine lv_iload hx hb d_L_law_129 (lv_at hl 1 rfl) ?_
      refine lv_iconst (v := (nI 1)) hx hb d_L_law_131 (by decide) ?_
      refine ln_iadd hx hb d_L_law_132 ?_
      refine ln_sld hx hb hX hbl hbA hS (by omega) (by omega) d_L_law_133 ?_
      refine lv_aload_n hx hb d_L_law_134 rfl (lv_at hl 2 rfl) ?_
      refine lv_iload hx hb d_L_law_135 (lv_at hl 1 rfl) ?_
      refine lv_iconst (v := (nI 2)) hx hb d_L_law_137 (by decide) ?_
      refine ln_iadd hx hb d_L_law_138 ?_
      refine ln_sld hx hb hX hbl hbA hS (by omega) (by omega) d_L_law_139 ?_
      refine lv_i2l (v := (xs ((5 * t) + 2)).toInt64) hx hb d_L_law_140 rfl ?_
      refine lv_bipush (v := (nI 32)) hx hb d_L_law_141 (by decide) ?_
      refine lv_lshl (v := lL ((xs ((5 * t) + 2)).toInt64) (nI 32)) hx hb d_L_law_143 rfl ?_
      refine lv_aload_n hx hb d_L_law_144 rfl (lv_at hl 2 rfl) ?_
      refine lv_iload hx hb d_L_law_145 (lv_at hl 1 rfl) ?_
      refine lv_iconst (v := (nI 3)) hx hb d_L_law_147 (by decide) ?_
      refine ln_iadd hx hb d_L_law_148 ?_
      refine ln_sld hx hb hX hbl hbA hS (by omega) (by omega) d_L_law_149 ?_
      refine lv_i2l (v := (xs ((5 * t) + 3)).toInt64) hx hb d_L_law_150 rfl ?_
      refine lv_ldc2 (v := 4294967295) hx hb hown (ht _ w_943) d_L_law_151 ?_
      refine lv_land hx hb d_L_law_154 ?_
      refine lv_lor hx hb d_L_law_155 ?_
      refine g_callV (As := [.int (xs ((5 * t) + 1)), .long ((lL ((xs ((5 * t) + 2)).toInt64) (nI 32)) ||| (((xs ((5 * t) + 3)).toInt64) &&& 4294967295))]) (rest := []) (wr := outC g oa f2 :: dWd g a ff d2) (q0 := 0) (ci := 6) (XSok g) ⟨hx, hb, hml, hown, ht⟩ hK hA hXs hl.1 hP hD hS (hMm q hq) List.perm_append_comm rfl rfl (cwV 2 ht (tb_V w_789 w_790 w_791 w_8 k_X6_feed) rfl rfl rfl (by decide +kernel) ⟨(Nat.le_of_ble_eq_true rfl), (Nat.le_of_ble_eq_true rfl)⟩) rfl rfl (Nat.le_of_ble_eq_true rfl) d_L_law_156 ⟨by show 1000 + 3 * t + 1 + 1 ≤ 601024; omega, by show 100000 + 20 * t + 6 + 6 ≤ 7293033; omega⟩ (fun v q2 H locs hw hP hD hS => ?_)
      obtain ⟨rfl, hq2, hth⟩ := hw
      refine W.eq (g2 := F0 m 159 ls [.int r]) rfl ?_
      refine lv_istore (lv' := [(6, .int r), (5, .int (nI kk)), (4, .int (nI (5 * t))), (0, .ref b), (1, .ref a.1), (2, .ref mo), (3, .ref oa)]) hx hb d_L_law_159 hl (by decide) rfl (fun ls hl => ?_)
      refine lv_aload_n hx hb d_L_law_161 rfl (lv_at hl 5 rfl) ?_
      refine g_callV (As := []) (rest := []) (wr := outC g oa f2 :: dWd g a ff d2) (q0 := 0) (ci := 6) (XSok g) ⟨hx, hb, hml, hown, ht⟩ hK hA hXs hl.1 hP hD hS (step_thrown g mo ma sf rd q2) List.perm_append_comm rfl rfl (cwV 0 ht (tb_V w_785 w_786 w_787 w_8 k_X6_thrown) rfl rfl rfl (by decide +kernel) ⟨(Nat.le_of_ble_eq_true rfl), (Nat.le_of_ble_eq_true rfl)⟩) rfl rfl (Nat.le_of_ble_eq_true rfl) d_L_law_162 ⟨by show 1000 + 3 * t + 1 + 1 + 1 ≤ 601024; omega, by show 100000 + 20 * t + 6 + 6 + 6 ≤ 7293033; omega⟩ (fun v u H locs hw hP hD hS => ?_)
      obtain rfl := hw
      refine W.eq (g2 := F0 m 165 ls [.int (nI kk)]) (by rw [hth]; rfl) ?_
      refine W.widen (k := 1000 + 3 * t + 3) (n := 100000 + 20 * t + 20) (by show 1000 + 3 * t + 1 + 1 + 1 ≤ _; omega) (by show 100000 + 20 * t + 6 + 6 + 6 ≤ _; omega) ?_
      refine lv_iload hx hb d_L_law_165 (lv_at hl 1 rfl) ?_
      refine lv_icmp_eq (tgt := 172) hx hb d_L_law_167 (by decide) (fun _ => ?_) (fun hne => absurd rfl hne)
      refine lv_iload hx hb d_L_law_172 (lv_at hl 1 rfl) ?_
      refine ln_if_ne (tgt := 189) hx hb d_L_law_174 (by decide) (by omega) (fun hk0 => ?_) (fun hk0 => ?_)
      · refine lv_goto (tgt := 745) hx hb d_L_law_189 (by decide) ?_
        exact nxt s2 hI2 d2 q2 f2 hd2 hq2 H locs hP hD hS ls (lv_sub hl [2, 3, 4, 5, 6] rfl)
      have ho : f2 0 = r.toInt64 := hout hk0
      refine lv_aload_n hx hb d_L_law_177 rfl (lv_at hl 6 rfl) ?_
      refine lv_iconst (v := (nI 0)) hx hb d_L_law_178 (by decide) ?_
      refine ln_lald (k := 0) hx hb hK hP 0 1 rfl rfl (by decide) (by decide) d_L_law_179 ?_
      refine lv_iload hx hb d_L_law_180 (lv_at hl 0 rfl) ?_
      refine lv_i2l (v := r.toInt64) hx hb d_L_law_182 rfl ?_
      refine W.eq (g2 := F0 m 183 ls [.long r.toInt64, .long r.toInt64]) (by rw [ho]) ?_
      refine ln_lcmp hx hb d_L_law_183 ?_
      refine lv_if_eq (tgt := 189) hx hb d_L_law_184 (by decide) (fun _ => ?_) (fun hne => absurd (lc_self _) hne)
      refine lv_goto (tgt := 745) hx hb d_L_law_189 (by decide) ?_
      exact nxt s2 hI2 d2 q2 f2 hd2 hq2 H locs hP hD hS ls (lv_sub hl [2, 3, 4, 5, 6] rfl)
    · refine lv_tableIn (off := 153) (tgt := 192) hx hb d_L_law_39 (by decide) (by decide) rfl (by decide) ?_
      obtain ⟨r, s2, hI2, hDd, hMm⟩ := step_wipe g a ff mo ma sf rd oa s9 hI
      refine lv_aload_n hx hb d_L_law_192 rfl (lv_at hl 2 rfl) ?_
      refine g_callV (As := []) (rest := []) (wr := mWd g mo ma sf rd q) (q0 := 1) (ci := 5) (XSok g) ⟨hx, hb, hml, hown, ht⟩ hK hA hXs hl.1 hP hD hS (hDd d f hd) (List.Perm.refl _) rfl rfl (cwV 0 ht (tb_V w_208 w_209 w_210 w_1 k_X5_wipe) rfl rfl rfl (by decide +kernel) ⟨(Nat.le_of_ble_eq_true rfl), (Nat.le_of_ble_eq_true rfl)⟩) rfl rfl (Nat.le_of_ble_eq_true rfl) d_L_law_193 ⟨by show 1000 + 3 * t + 1 ≤ 601024; omega, by show 100000 + 20 * t + 6 ≤ 7293033; omega⟩ (fun v d2 H locs hw hP hD hS => ?_)
      obtain ⟨rfl, hd2⟩ := hw
      have hP : va_P g.2.1 cls7 ((outC g oa f :: dWd g a ff d2) ++ mWd g mo ma sf rd q) H := wP_perm hP List.perm_append_comm
      have hD : va_D (fun q : Nat => s.heap.size ≤ q) ((outC g oa f :: dWd g a ff d2) ++ mWd g mo ma sf rd q) := wD_perm hD List.perm_append_comm
      refine W.eq (g2 := F0 m 196 ls [.int r]) rfl ?_
      refine lv_aload_n hx hb d_L_law_196 rfl (lv_at hl 3 rfl) ?_
      refine g_callV (As := []) (rest := [.int r]) (wr := outC g oa f :: dWd g a ff d2) (q0 := 0) (ci := 6) (XSok g) ⟨hx, hb, hml, hown, ht⟩ hK hA hXs hl.1 hP hD hS (hMm q hq) List.perm_append_comm rfl rfl (cwV 0 ht (tb_V w_798 w_799 w_800 w_8 k_X6_wipe) rfl rfl rfl (by decide +kernel) ⟨(Nat.le_of_ble_eq_true rfl), (Nat.le_of_ble_eq_true rfl)⟩) rfl rfl (Nat.le_of_ble_eq_true rfl) d_L_law_197 ⟨by show 1000 + 3 * t + 1 + 1 ≤ 601024; omega, by show 100000 + 20 * t + 6 + 6 ≤ 7293033; omega⟩ (fun v q2 H locs hw hP hD hS => ?_)
      obtain ⟨rfl, hq2⟩ := hw
      refine W.eq (g2 := F0 m 200 ls [.int r, .int r]) rfl ?_
      refine lv_icmp_eq (tgt := 745) hx hb d_L_law_200 (by decide) (fun _ => ?_) (fun hne => absurd rfl hne)
      refine W.widen (k := 1000 + 3 * t + 3) (n := 100000 + 20 * t + 20) (by show 1000 + 3 * t + 1 + 1 ≤ _; omega) (by show 100000 + 20 * t + 6 + 6 ≤ _; omega) ?_
      exact nxt s2 hI2 d2 q2 f hd2 hq2 H locs hP hD hS ls hl
    · refine lv_tableIn (off := 166) (tgt := 205) hx hb d_L_law_39 (by decide) (by decide) rfl (by decide) ?_
      refine lv_aload_n hx hb d_L_law_205 rfl (lv_at hl 2 rfl) ?_
      refine lv_aload_n hx hb d_L_law_206 rfl (lv_at hl 1 rfl) ?_
      refine lv_iload hx hb d_L_law_207 (lv_at hl 0 rfl) ?_
      refine lv_iconst (v := (nI 1)) hx hb d_L_law_209 (by decide) ?_
      refine ln_iadd hx hb d_L_law_210 ?_
      refine ln_sld hx hb hX hbl hbA hS (by omega) (by omega) d_L_law_211 ?_
      refine lv_aload_n hx hb d_L_law_212 rfl (lv_at hl 1 rfl) ?_
      refine lv_iload hx hb d_L_law_213 (lv_at hl 0 rfl) ?_
      refine lv_iconst (v := (nI 2)) hx hb d_L_law_215 (by decide) ?_
      refine ln_iadd hx hb d_L_law_216 ?_
      refine ln_sld hx hb hX hbl hbA hS (by omega) (by omega) d_L_law_217 ?_
      obtain ⟨kk, s2, hk3, hI2, hHh, hMm⟩ := step_tell g a ff hff mo ma sf rd hsf hrd (xs ((5 * t) + 1)) (xs ((5 * t) + 2)) s9 hI
      refine g_callSW (As := [.ref a.1, .int (xs ((5 * t) + 1)), .int (xs ((5 * t) + 2))]) (rest := []) (wc := dWd g a ff d) (wr := outC g oa f :: mWd g mo ma sf rd q) (XLok g) ⟨hx, hb, hml, hown, ht⟩ hK hA hXl hl.1 hP hD hS (hHh d hd) (List.perm_middle.symm) (vx_cwSW 3 ht (tb_SW w_310 w_311 w_0 kL_tell) rfl rfl rfl (by decide +kernel) ⟨(Nat.le_of_ble_eq_true rfl), (Nat.le_of_ble_eq_true rfl)⟩) rfl rfl (Nat.le_of_ble_eq_true rfl) d_L_law_218 ⟨by show 1000 + 3 * t + 1 ≤ 601024; omega, by show 100000 + 20 * t + 6 ≤ 7293033; omega⟩ (fun v d2 H locs hw hP hD hS => ?_)
      obtain ⟨rfl, hd2⟩ := hw
      have hpm : (outC g oa f :: mWd g mo ma sf rd q ++ dWd g a ff d2).Perm ((outC g oa f :: dWd g a ff d2) ++ mWd g mo ma sf rd q) := List.Perm.cons _ List.perm_append_comm
      have hP : va_P g.2.1 cls7 ((outC g oa f :: dWd g a ff d2) ++ mWd g mo ma sf rd q) H := wP_perm hP hpm
      have hD : va_D (fun q : Nat => s.heap.size ≤ q) ((outC g oa f :: dWd g a ff d2) ++ mWd g mo ma sf rd q) := wD_perm hD hpm
      refine W.eq (g2 := F0 m 221 ls [.int (nI kk)]) rfl ?_
      refine lv_istore (lv' := [(5, .int (nI kk)), (4, .int (nI (5 * t))), (0, .ref b), (1, .ref a.1), (2, .ref mo), (3, .ref oa)]) hx hb d_L_law_221 hl (by decide) rfl (fun ls hl => ?_)
      refine lv_aload_n hx hb d_L_law_223 rfl (lv_at hl 4 rfl) ?_
      refine lv_aload_n hx hb d_L_law_224 rfl (lv_at hl 2 rfl) ?_
      refine lv_iload hx hb d_L_law_225 (lv_at hl 1 rfl) ?_
      refine lv_iconst (v := (nI 1)) hx hb d_L_law_227 (by decide) ?_
      refine ln_iadd hx hb d_L_law_228 ?_
      refine ln_sld hx hb hX hbl hbA hS (by omega) (by omega) d_L_law_229 ?_
      refine lv_aload_n hx hb d_L_law_230 rfl (lv_at hl 2 rfl) ?_
      refine lv_iload hx hb d_L_law_231 (lv_at hl 1 rfl) ?_
      refine lv_iconst (v := (nI 2)) hx hb d_L_law_233 (by decide) ?_
      refine ln_iadd hx hb d_L_law_234 ?_
      refine ln_sld hx hb hX hbl hbA hS (by omega) (by omega) d_L_law_235 ?_
      refine g_callV (As := [.int (xs ((5 * t) + 1)), .int (xs ((5 * t) + 2))]) (rest := []) (wr := outC g oa f :: dWd g a ff d2) (q0 := 0) (ci := 6) (XSok g) ⟨hx, hb, hml, hown, ht⟩ hK hA hXs hl.1 hP hD hS (hMm q hq) List.perm_append_comm rfl rfl (cwV 2 ht (tb_V w_802 w_803 w_804 w_8 k_X6_tell) rfl rfl rfl (by decide +kernel) ⟨(Nat.le_of_ble_eq_true rfl), (Nat.le_of_ble_eq_true rfl)⟩) rfl rfl (Nat.le_of_ble_eq_true rfl) d_L_law_236 ⟨by show 1000 + 3 * t + 1 + 1 ≤ 601024; omega, by show 100000 + 20 * t + 6 + 6 ≤ 7293033; omega⟩ (fun v q2 H locs hw hP hD hS => ?_)
      obtain ⟨rfl, hq2, hth⟩ := hw
      refine W.eq (g2 := F0 m 239 ls []) rfl ?_
      refine lv_aload_n hx hb d_L_law_239 rfl (lv_at hl 4 rfl) ?_
      refine g_callV (As := []) (rest := []) (wr := outC g oa f :: dWd g a ff d2) (q0 := 0) (ci := 6) (XSok g) ⟨hx, hb, hml, hown, ht⟩ hK hA hXs hl.1 hP hD hS (step_thrown g mo ma sf rd q2) List.perm_append_comm rfl rfl (cwV 0 ht (tb_V w_785 w_786 w_787 w_8 k_X6_thrown) rfl rfl rfl (by decide +kernel) ⟨(Nat.le_of_ble_eq_true rfl), (Nat.le_of_ble_eq_true rfl)⟩) rfl rfl (Nat.le_of_ble_eq_true rfl) d_L_law_240 ⟨by show 1000 + 3 * t + 1 + 1 + 1 ≤ 601024; omega, by show 100000 + 20 * t + 6 + 6 + 6 ≤ 7293033; omega⟩ (fun v u H locs hw hP hD hS => ?_)
      obtain rfl := hw
      refine W.eq (g2 := F0 m 243 ls [.int (nI kk)]) (by rw [hth]; rfl) ?_
      refine W.widen (k := 1000 + 3 * t + 3) (n := 100000 + 20 * t + 20) (by show 1000 + 3 * t + 1 + 1 + 1 ≤ _; omega) (by show 100000 + 20 * t + 6 + 6 + 6 ≤ _; omega) ?_
      refine lv_iload hx hb d_L_law_243 (lv_at hl 0 rfl) ?_
      refine lv_icmp_eq (tgt := 250) hx hb d_L_law_245 (by decide) (fun _ => ?_) (fun hne => absurd rfl hne)
      refine lv_goto (tgt := 745) hx hb d_L_law_250 (by decide) ?_
      exact nxt s2 hI2 d2 q2 f hd2 hq2 H locs hP hD hS ls (lv_sub hl [1, 2, 3, 4, 5] rfl)
    · refine lv_tableIn (off := 214) (tgt := 253) hx hb d_L_law_39 (by decide) (by decide) rfl (by decide) ?_
      refine lv_aload_n hx hb d_L_law_253 rfl (lv_at hl 2 rfl) ?_
      refine lv_aload_n hx hb d_L_law_254 rfl (lv_at hl 1 rfl) ?_
      refine lv_iload hx hb d_L_law_255 (lv_at hl 0 rfl) ?_
      refine lv_iconst (v := (nI 1)) hx hb d_L_law_257 (by decide) ?_
      refine ln_iadd hx hb d_L_law_258 ?_
      refine ln_sld hx hb hX hbl hbA hS (by omega) (by omega) d_L_law_259 ?_
      obtain ⟨kk, s2, hk3, hI2, hHh, hMm⟩ := step_begin g a ff hff mo ma sf rd hsf hrd (xs ((5 * t) + 1)) s9 hI
      refine g_callSW (As := [.ref a.1, .int (xs ((5 * t) + 1))]) (rest := []) (wc := dWd g a ff d) (wr := outC g oa f :: mWd g mo ma sf rd q) (XLok g) ⟨hx, hb, hml, hown, ht⟩ hK hA hXl hl.1 hP hD hS (hHh d hd) (List.perm_middle.symm) (vx_cwSW 2 ht (tb_SW w_448 w_449 w_0 kL_begin) rfl rfl rfl (by decide +kernel) ⟨(Nat.le_of_ble_eq_true rfl), (Nat.le_of_ble_eq_true rfl)⟩) rfl rfl (Nat.le_of_ble_eq_true rfl) d_L_law_260 ⟨by show 1000 + 3 * t + 1 ≤ 601024; omega, by show 100000 + 20 * t + 6 ≤ 7293033; omega⟩ (fun v d2 H locs hw hP hD hS => ?_)
      obtain ⟨rfl, hd2⟩ := hw
      have hpm : (outC g oa f :: mWd g mo ma sf rd q ++ dWd g a ff d2).Perm ((outC g oa f :: dWd g a ff d2) ++ mWd g mo ma sf rd q) := List.Perm.cons _ List.perm_append_comm
      have hP : va_P g.2.1 cls7 ((outC g oa f :: dWd g a ff d2) ++ mWd g mo ma sf rd q) H := wP_perm hP hpm
      have hD : va_D (fun q : Nat => s.heap.size ≤ q) ((outC g oa f :: dWd g a ff d2) ++ mWd g mo ma sf rd q) := wD_perm hD hpm
      refine W.eq (g2 := F0 m 263 ls [.int (nI kk)]) rfl ?_
      refine lv_istore (lv' := [(5, .int (nI kk)), (4, .int (nI (5 * t))), (0, .ref b), (1, .ref a.1), (2, .ref mo), (3, .ref oa)]) hx hb d_L_law_263 hl (by decide) rfl (fun ls hl => ?_)
      refine lv_aload_n hx hb d_L_law_265 rfl (lv_at hl 4 rfl) ?_
      refine lv_aload_n hx hb d_L_law_266 rfl (lv_at hl 2 rfl) ?_
      refine lv_iload hx hb d_L_law_267 (lv_at hl 1 rfl) ?_
      refine lv_iconst (v := (nI 1)) hx hb d_L_law_269 (by decide) ?_
      refine ln_iadd hx hb d_L_law_270 ?_
      refine ln_sld hx hb hX hbl hbA hS (by omega) (by omega) d_L_law_271 ?_
      refine g_callV (As := [.int (xs ((5 * t) + 1))]) (rest := []) (wr := outC g oa f :: dWd g a ff d2) (q0 := 0) (ci := 6) (XSok g) ⟨hx, hb, hml, hown, ht⟩ hK hA hXs hl.1 hP hD hS (hMm q hq) List.perm_append_comm rfl rfl (cwV 1 ht (tb_V w_853 w_854 w_855 w_8 k_X6_begin) rfl rfl rfl (by decide +kernel) ⟨(Nat.le_of_ble_eq_true rfl), (Nat.le_of_ble_eq_true rfl)⟩) rfl rfl (Nat.le_of_ble_eq_true rfl) d_L_law_272 ⟨by show 1000 + 3 * t + 1 + 1 ≤ 601024; omega, by show 100000 + 20 * t + 6 + 6 ≤ 7293033; omega⟩ (fun v q2 H locs hw hP hD hS => ?_)
      obtain ⟨rfl, hq2, hth⟩ := hw
      refine W.eq (g2 := F0 m 275 ls []) rfl ?_
      refine lv_aload_n hx hb d_L_law_275 rfl (lv_at hl 4 rfl) ?_
      refine g_callV (As := []) (rest := []) (wr := outC g oa f :: dWd g a ff d2) (q0 := 0) (ci := 6) (XSok g) ⟨hx, hb, hml, hown, ht⟩ hK hA hXs hl.1 hP hD hS (step_thrown g mo ma sf rd q2) List.perm_append_comm rfl rfl (cwV 0 ht (tb_V w_785 w_786 w_787 w_8 k_X6_thrown) rfl rfl rfl (by decide +kernel) ⟨(Nat.le_of_ble_eq_true rfl), (Nat.le_of_ble_eq_true rfl)⟩) rfl rfl (Nat.le_of_ble_eq_true rfl) d_L_law_276 ⟨by show 1000 + 3 * t + 1 + 1 + 1 ≤ 601024; omega, by show 100000 + 20 * t + 6 + 6 + 6 ≤ 7293033; omega⟩ (fun v u H locs hw hP hD hS => ?_)
      obtain rfl := hw
      refine W.eq (g2 := F0 m 279 ls [.int (nI kk)]) (by rw [hth]; rfl) ?_
      refine W.widen (k := 1000 + 3 * t + 3) (n := 100000 + 20 * t + 20) (by show 1000 + 3 * t + 1 + 1 + 1 ≤ _; omega) (by show 100000 + 20 * t + 6 + 6 + 6 ≤ _; omega) ?_
      refine lv_iload hx hb d_L_law_279 (lv_at hl 0 rfl) ?_
      refine lv_icmp_eq (tgt := 286) hx hb d_L_law_281 (by decide) (fun _ => ?_) (fun hne => absurd rfl hne)
      refine lv_goto (tgt := 745) hx hb d_L_law_286 (by decide) ?_
      exact nxt s2 hI2 d2 q2 f hd2 hq2 H locs hP hD hS ls (lv_sub hl [1, 2, 3, 4, 5] rfl)
    · refine lv_tableIn (off := 250) (tgt := 289) hx hb d_L_law_39 (by decide) (by decide) rfl (by decide) ?_
      refine lv_aload_n hx hb d_L_law_289 rfl (lv_at hl 2 rfl) ?_
      refine lv_aload_n hx hb d_L_law_290 rfl (lv_at hl 1 rfl) ?_
      refine lv_iload hx hb d_L_law_291 (lv_at hl 0 rfl) ?_
      refine lv_iconst (v := (nI 1)) hx hb d_L_law_293 (by decide) ?_
      refine ln_iadd hx hb d_L_law_294 ?_
      refine ln_sld hx hb hX hbl hbA hS (by omega) (by omega) d_L_law_295 ?_
      refine lv_aload_n hx hb d_L_law_296 rfl (lv_at hl 1 rfl) ?_
      refine lv_iload hx hb d_L_law_297 (lv_at hl 0 rfl) ?_
      refine lv_iconst (v := (nI 2)) hx hb d_L_law_299 (by decide) ?_
      refine ln_iadd hx hb d_L_law_300 ?_
      refine ln_sld hx hb hX hbl hbA hS (by omega) (by omega) d_L_law_301 ?_
      refine lv_aload_n hx hb d_L_law_302 rfl (lv_at hl 4 rfl) ?_
      obtain ⟨kk, r, s2, hk3, hI2, hHh, hMm⟩ := step_take g a ff hff mo ma sf rd hsf hrd oa (xs ((5 * t) + 1)) (xs ((5 * t) + 2)) s9 hI
      refine g_callSW (As := [.ref a.1, .int (xs ((5 * t) + 1)), .int (xs ((5 * t) + 2)), .ref oa]) (rest := []) (wr := mWd g mo ma sf rd q) (XLok g) ⟨hx, hb, hml, hown, ht⟩ hK hA hXl hl.1 hP hD hS (hHh d f hd) (List.Perm.refl _) (vx_cwSW 4 ht (tb_SW w_483 w_484 w_0 kL_take) rfl rfl rfl (by decide +kernel) ⟨(Nat.le_of_ble_eq_true rfl), (Nat.le_of_ble_eq_true rfl)⟩) rfl rfl (Nat.le_of_ble_eq_true rfl) d_L_law_303 ⟨by show 1000 + 3 * t + 1 ≤ 601024; omega, by show 100000 + 20 * t + 6 ≤ 7293033; omega⟩ (fun v u H locs hw hP hD hS => ?_)
      obtain ⟨d2, f2⟩ := u
      obtain ⟨rfl, hd2, hout⟩ := hw
      have hP : va_P g.2.1 cls7 ((outC g oa f2 :: dWd g a ff d2) ++ mWd g mo ma sf rd q) H := wP_perm hP List.perm_append_comm
      have hD : va_D (fun q : Nat => s.heap.size ≤ q) ((outC g oa f2 :: dWd g a ff d2) ++ mWd g mo ma sf rd q) := wD_perm hD List.perm_append_comm
      refine W.eq (g2 := F0 m 306 ls [.int (nI kk)]) rfl ?_
      refine lv_istore (lv' := [(5, .int (nI kk)), (4, .int (nI (5 * t))), (0, .ref b), (1, .ref a.1), (2, .ref mo), (3, .ref oa)]) hx hb d_L_law_306 hl (by decide) rfl (fun ls hl => ?_)
      refine lv_aload_n hx hb d_L_law_308 rfl (lv_at hl 4 rfl) ?_
      refine lv_aload_n hx hb d_L_law_309 rfl (lv_at hl 2 rfl) ?_
      refine lv_iload hx hb d_L_law_310 (lv_at hl 1 rfl) ?_
      refine lv_iconst (v := (nI 1)) hx hb d_L_law_312 (by decide) ?_
      refine ln_iadd hx hb d_L_law_313 ?_
      refine ln_sld hx hb hX hbl hbA hS (by omega) (by omega) d_L_law_314 ?_
      refine lv_aload_n hx hb d_L_law_315 rfl (lv_at hl 2 rfl) ?_
      refine lv_iload hx hb d_L_law_316 (lv_at hl 1 rfl) ?_
      refine lv_iconst (v := (nI 2)) hx hb d_L_law_318 (by decide) ?_
      refine ln_iadd hx hb d_L_law_319 ?_
      refine ln_sld hx hb hX hbl hbA hS (by omega) (by omega) d_L_law_320 ?_
      refine g_callV (As := [.int (xs ((5 * t) + 1)), .int (xs ((5 * t) + 2))]) (rest := []) (wr := outC g oa f2 :: dWd g a ff d2) (q0 := 0) (ci := 6) (XSok g) ⟨hx, hb, hml, hown, ht⟩ hK hA hXs hl.1 hP hD hS (hMm q hq) List.perm_append_comm rfl rfl (cwV 2 ht (tb_V w_869 w_870 w_871 w_8 k_X6_take) rfl rfl rfl (by decide +kernel) ⟨(Nat.le_of_ble_eq_true rfl), (Nat.le_of_ble_eq_true rfl)⟩) rfl rfl (Nat.le_of_ble_eq_true rfl) d_L_law_321 ⟨by show 1000 + 3 * t + 1 + 1 ≤ 601024; omega, by show 100000 + 20 * t + 6 + 6 ≤ 7293033; omega⟩ (fun v q2 H locs hw hP hD hS => ?_)
      obtain ⟨rfl, hq2, hth⟩ := hw
      refine W.eq (g2 := F0 m 324 ls [.int r]) rfl ?_
      refine lv_istore (lv' := [(6, .int r), (5, .int (nI kk)), (4, .int (nI (5 * t))), (0, .ref b), (1, .ref a.1), (2, .ref mo), (3, .ref oa)]) hx hb d_L_law_324 hl (by decide) rfl (fun ls hl => ?_)
      refine lv_aload_n hx hb d_L_law_326 rfl (lv_at hl 5 rfl) ?_
      refine g_callV (As := []) (rest := []) (wr := outC g oa f2 :: dWd g a ff d2) (q0 := 0) (ci := 6) (XSok g) ⟨hx, hb, hml, hown, ht⟩ hK hA hXs hl.1 hP hD hS (step_thrown g mo ma sf rd q2) List.perm_append_comm rfl rfl (cwV 0 ht (tb_V w_785 w_786 w_787 w_8 k_X6_thrown) rfl rfl rfl (by decide +kernel) ⟨(Nat.le_of_ble_eq_true rfl), (Nat.le_of_ble_eq_true rfl)⟩) rfl rfl (Nat.le_of_ble_eq_true rfl) d_L_law_327 ⟨by show 1000 + 3 * t + 1 + 1 + 1 ≤ 601024; omega, by show 100000 + 20 * t + 6 + 6 + 6 ≤ 7293033; omega⟩ (fun v u H locs hw hP hD hS => ?_)
      obtain rfl := hw
      refine W.eq (g2 := F0 m 330 ls [.int (nI kk)]) (by rw [hth]; rfl) ?_
      refine W.widen (k := 1000 + 3 * t + 3) (n := 100000 + 20 * t + 20) (by show 1000 + 3 * t + 1 + 1 + 1 ≤ _; omega) (by show 100000 + 20 * t + 6 + 6 + 6 ≤ _; omega) ?_
      refine lv_iload hx hb d_L_law_330 (lv_at hl 1 rfl) ?_
      refine lv_icmp_eq (tgt := 337) hx hb d_L_law_332 (by decide) (fun _ => ?_) (fun hne => absurd rfl hne)
      refine lv_iload hx hb d_L_law_337 (lv_at hl 1 rfl) ?_
      refine ln_if_ne (tgt := 354) hx hb d_L_law_339 (by decide) (by omega) (fun hk0 => ?_) (fun hk0 => ?_)
      · refine lv_goto (tgt := 745) hx hb d_L_law_354 (by decide) ?_
        exact nxt s2 hI2 d2 q2 f2 hd2 hq2 H locs hP hD hS ls (lv_sub hl [2, 3, 4, 5, 6] rfl)
      have ho : f2 0 = r.toInt64 := hout hk0
      refine lv_aload_n hx hb d_L_law_342 rfl (lv_at hl 6 rfl) ?_
      refine lv_iconst (v := (nI 0)) hx hb d_L_law_343 (by decide) ?_
      refine ln_lald (k := 0) hx hb hK hP 0 1 rfl rfl (by decide) (by decide) d_L_law_344 ?_
      refine lv_iload hx hb d_L_law_345 (lv_at hl 0 rfl) ?_
      refine lv_i2l (v := r.toInt64) hx hb d_L_law_347 rfl ?_
      refine W.eq (g2 := F0 m 348 ls [.long r.toInt64, .long r.toInt64]) (by rw [ho]) ?_
      refine ln_lcmp hx hb d_L_law_348 ?_
      refine lv_if_eq (tgt := 354) hx hb d_L_law_349 (by decide) (fun _ => ?_) (fun hne => absurd (lc_self _) hne)
      refine lv_goto (tgt := 745) hx hb d_L_law_354 (by decide) ?_
      exact nxt s2 hI2 d2 q2 f2 hd2 hq2 H locs hP hD hS ls (lv_sub hl [2, 3, 4, 5, 6] rfl)
    · refine lv_tableIn (off := 318) (tgt := 357) hx hb d_L_law_39 (by decide) (by decide) rfl (by decide) ?_
      refine lv_aload_n hx hb d_L_law_357 rfl (lv_at hl 2 rfl) ?_
      refine lv_aload_n hx hb d_L_law_358 rfl (lv_at hl 1 rfl) ?_
      refine lv_iload hx hb d_L_law_359 (lv_at hl 0 rfl) ?_
      refine lv_iconst (v := (nI 1)) hx hb d_L_law_361 (by decide) ?_
      refine ln_iadd hx hb d_L_law_362 ?_
      refine ln_sld hx hb hX hbl hbA hS (by omega) (by omega) d_L_law_363 ?_
      refine lv_aload_n hx hb d_L_law_364 rfl (lv_at hl 1 rfl) ?_
      refine lv_iload hx hb d_L_law_365 (lv_at hl 0 rfl) ?_
      refine lv_iconst (v := (nI 2)) hx hb d_L_law_367 (by decide) ?_
      refine ln_iadd hx hb d_L_law_368 ?_
      refine ln_sld hx hb hX hbl hbA hS (by omega) (by omega) d_L_law_369 ?_
      refine lv_aload_n hx hb d_L_law_370 rfl (lv_at hl 1 rfl) ?_
      refine lv_iload hx hb d_L_law_371 (lv_at hl 0 rfl) ?_
      refine lv_iconst (v := (nI 3)) hx hb d_L_law_373 (by decide) ?_
      refine ln_iadd hx hb d_L_law_374 ?_
      refine ln_sld hx hb hX hbl hbA hS (by omega) (by omega) d_L_law_375 ?_
      refine lv_aload_n hx hb d_L_law_376 rfl (lv_at hl 4 rfl) ?_
      obtain ⟨kk, r, s2, hk3, hI2, hHh, hMm⟩ := step_carry g a ff hff mo ma sf rd hsf hrd oa (xs ((5 * t) + 1)) (xs ((5 * t) + 2)) (xs ((5 * t) + 3)) s9 hI
      refine g_callSW (As := [.ref a.1, .int (xs ((5 * t) + 1)), .int (xs ((5 * t) + 2)), .int (xs ((5 * t) + 3)), .ref oa]) (rest := []) (wr := mWd g mo ma sf rd q) (XLok g) ⟨hx, hb, hml, hown, ht⟩ hK hA hXl hl.1 hP hD hS (hHh d f hd) (List.Perm.refl _) (vx_cwSW 5 ht (tb_SW w_566 w_567 w_0 kL_carry) rfl rfl rfl (by decide +kernel) ⟨(Nat.le_of_ble_eq_true rfl), (Nat.le_of_ble_eq_true rfl)⟩) rfl rfl (Nat.le_of_ble_eq_true rfl) d_L_law_377 ⟨by show 1000 + 3 * t + 1 ≤ 601024; omega, by show 100000 + 20 * t + 6 ≤ 7293033; omega⟩ (fun v u H locs hw hP hD hS => ?_)
      obtain ⟨d2, f2⟩ := u
      obtain ⟨rfl, hd2, hout⟩ := hw
      have hP : va_P g.2.1 cls7 ((outC g oa f2 :: dWd g a ff d2) ++ mWd g mo ma sf rd q) H := wP_perm hP List.perm_append_comm
      have hD : va_D (fun q : Nat => s.heap.size ≤ q) ((outC g oa f2 :: dWd g a ff d2) ++ mWd g mo ma sf rd q) := wD_perm hD List.perm_append_comm
      refine W.eq (g2 := F0 m 380 ls [.int (nI kk)]) rfl ?_
      refine lv_istore (lv' := [(5, .int (nI kk)), (4, .int (nI (5 * t))), (0, .ref b), (1, .ref a.1), (2, .ref mo), (3, .ref oa)]) hx hb d_L_law_380 hl (by decide) rfl (fun ls hl => ?_)
      refine lv_aload_n hx hb d_L_law_382 rfl (lv_at hl 4 rfl) ?_
      refine lv_aload_n hx hb d_L_law_383 rfl (lv_at hl 2 rfl) ?_
      refine lv_iload hx hb d_L_law_384 (lv_at hl 1 rfl) ?_
      refine lv_iconst (v := (nI 1)) hx hb d_L_law_386 (by decide) ?_
      refine ln_iadd hx hb d_L_law_387 ?_
      refine ln_sld hx hb hX hbl hbA hS (by omega) (by omega) d_L_law_388 ?_
      refine lv_aload_n hx hb d_L_law_389 rfl (lv_at hl 2 rfl) ?_
      refine lv_iload hx hb d_L_law_390 (lv_at hl 1 rfl) ?_
      refine lv_iconst (v := (nI 2)) hx hb d_L_law_392 (by decide) ?_
      refine ln_iadd hx hb d_L_law_393 ?_
      refine ln_sld hx hb hX hbl hbA hS (by omega) (by omega) d_L_law_394 ?_
      refine lv_aload_n hx hb d_L_law_395 rfl (lv_at hl 2 rfl) ?_
      refine lv_iload hx hb d_L_law_396 (lv_at hl 1 rfl) ?_
      refine lv_iconst (v := (nI 3)) hx hb d_L_law_398 (by decide) ?_
      refine ln_iadd hx hb d_L_law_399 ?_
      refine ln_sld hx hb hX hbl hbA hS (by omega) (by omega) d_L_law_400 ?_
      refine g_callV (As := [.int (xs ((5 * t) + 1)), .int (xs ((5 * t) + 2)), .int (xs ((5 * t) + 3))]) (rest := []) (wr := outC g oa f2 :: dWd g a ff d2) (q0 := 0) (ci := 6) (XSok g) ⟨hx, hb, hml, hown, ht⟩ hK hA hXs hl.1 hP hD hS (hMm q hq) List.perm_append_comm rfl rfl (cwV 3 ht (tb_V w_919 w_920 w_921 w_8 k_X6_carry) rfl rfl rfl (by decide +kernel) ⟨(Nat.le_of_ble_eq_true rfl), (Nat.le_of_ble_eq_true rfl)⟩) rfl rfl (Nat.le_of_ble_eq_true rfl) d_L_law_401 ⟨by show 1000 + 3 * t + 1 + 1 ≤ 601024; omega, by show 100000 + 20 * t + 6 + 6 ≤ 7293033; omega⟩ (fun v q2 H locs hw hP hD hS => ?_)
      obtain ⟨rfl, hq2, hth⟩ := hw
      refine W.eq (g2 := F0 m 404 ls [.int r]) rfl ?_
      refine lv_istore (lv' := [(6, .int r), (5, .int (nI kk)), (4, .int (nI (5 * t))), (0, .ref b), (1, .ref a.1), (2, .ref mo), (3, .ref oa)]) hx hb d_L_law_404 hl (by decide) rfl (fun ls hl => ?_)
      refine lv_aload_n hx hb d_L_law_406 rfl (lv_at hl 5 rfl) ?_
      refine g_callV (As := []) (rest := []) (wr := outC g oa f2 :: dWd g a ff d2) (q0 := 0) (ci := 6) (XSok g) ⟨hx, hb, hml, hown, ht⟩ hK hA hXs hl.1 hP hD hS (step_thrown g mo ma sf rd q2) List.perm_append_comm rfl rfl (cwV 0 ht (tb_V w_785 w_786 w_787 w_8 k_X6_thrown) rfl rfl rfl (by decide +kernel) ⟨(Nat.le_of_ble_eq_true rfl), (Nat.le_of_ble_eq_true rfl)⟩) rfl rfl (Nat.le_of_ble_eq_true rfl) d_L_law_407 ⟨by show 1000 + 3 * t + 1 + 1 + 1 ≤ 601024; omega, by show 100000 + 20 * t + 6 + 6 + 6 ≤ 7293033; omega⟩ (fun v u H locs hw hP hD hS => ?_)
      obtain rfl := hw
      refine W.eq (g2 := F0 m 410 ls [.int (nI kk)]) (by rw [hth]; rfl) ?_
      refine W.widen (k := 1000 + 3 * t + 3) (n := 100000 + 20 * t + 20) (by show 1000 + 3 * t + 1 + 1 + 1 ≤ _; omega) (by show 100000 + 20 * t + 6 + 6 + 6 ≤ _; omega) ?_
      refine lv_iload hx hb d_L_law_410 (lv_at hl 1 rfl) ?_
      refine lv_icmp_eq (tgt := 417) hx hb d_L_law_412 (by decide) (fun _ => ?_) (fun hne => absurd rfl hne)
      refine lv_iload hx hb d_L_law_417 (lv_at hl 1 rfl) ?_
      refine ln_if_ne (tgt := 434) hx hb d_L_law_419 (by decide) (by omega) (fun hk0 => ?_) (fun hk0 => ?_)
      · refine lv_goto (tgt := 745) hx hb d_L_law_434 (by decide) ?_
        exact nxt s2 hI2 d2 q2 f2 hd2 hq2 H locs hP hD hS ls (lv_sub hl [2, 3, 4, 5, 6] rfl)
      have ho : f2 0 = r.toInt64 := hout hk0
      refine lv_aload_n hx hb d_L_law_422 rfl (lv_at hl 6 rfl) ?_
      refine lv_iconst (v := (nI 0)) hx hb d_L_law_423 (by decide) ?_
      refine ln_lald (k := 0) hx hb hK hP 0 1 rfl rfl (by decide) (by decide) d_L_law_424 ?_
      refine lv_iload hx hb d_L_law_425 (lv_at hl 0 rfl) ?_
      refine lv_i2l (v := r.toInt64) hx hb d_L_law_427 rfl ?_
      refine W.eq (g2 := F0 m 428 ls [.long r.toInt64, .long r.toInt64]) (by rw [ho]) ?_
      refine ln_lcmp hx hb d_L_law_428 ?_
      refine lv_if_eq (tgt := 434) hx hb d_L_law_429 (by decide) (fun _ => ?_) (fun hne => absurd (lc_self _) hne)
      refine lv_goto (tgt := 745) hx hb d_L_law_434 (by decide) ?_
      exact nxt s2 hI2 d2 q2 f2 hd2 hq2 H locs hP hD hS ls (lv_sub hl [2, 3, 4, 5, 6] rfl)
    · refine lv_tableIn (off := 398) (tgt := 437) hx hb d_L_law_39 (by decide) (by decide) rfl (by decide) ?_
      refine lv_aload_n hx hb d_L_law_437 rfl (lv_at hl 2 rfl) ?_
      refine lv_aload_n hx hb d_L_law_438 rfl (lv_at hl 1 rfl) ?_
      refine lv_iload hx hb d_L_law_439 (lv_at hl 0 rfl) ?_
      refine lv_iconst (v := (nI 1)) hx hb d_L_law_441 (by decide) ?_
      refine ln_iadd hx hb d_L_law_442 ?_
      refine ln_sld hx hb hX hbl hbA hS (by omega) (by omega) d_L_law_443 ?_
      refine lv_aload_n hx hb d_L_law_444 rfl (lv_at hl 1 rfl) ?_
      refine lv_iload hx hb d_L_law_445 (lv_at hl 0 rfl) ?_
      refine lv_iconst (v := (nI 2)) hx hb d_L_law_447 (by decide) ?_
      refine ln_iadd hx hb d_L_law_448 ?_
      refine ln_sld hx hb hX hbl hbA hS (by omega) (by omega) d_L_law_449 ?_
      refine lv_aload_n hx hb d_L_law_450 rfl (lv_at hl 1 rfl) ?_
      refine lv_iload hx hb d_L_law_451 (lv_at hl 0 rfl) ?_
      refine lv_iconst (v := (nI 3)) hx hb d_L_law_453 (by decide) ?_
      refine ln_iadd hx hb d_L_law_454 ?_
      refine ln_sld hx hb hX hbl hbA hS (by omega) (by omega) d_L_law_455 ?_
      refine lv_aload_n hx hb d_L_law_456 rfl (lv_at hl 4 rfl) ?_
      obtain ⟨kk, r, s2, hk3, hI2, hHh, hMm⟩ := step_sent g a ff hff mo ma sf rd hsf hrd oa (xs ((5 * t) + 1)) (xs ((5 * t) + 2)) (xs ((5 * t) + 3)) s9 hI
      refine g_callSW (As := [.ref a.1, .int (xs ((5 * t) + 1)), .int (xs ((5 * t) + 2)), .int (xs ((5 * t) + 3)), .ref oa]) (rest := []) (wr := mWd g mo ma sf rd q) (XLok g) ⟨hx, hb, hml, hown, ht⟩ hK hA hXl hl.1 hP hD hS (hHh d f hd) (List.Perm.refl _) (vx_cwSW 5 ht (tb_SW w_579 w_580 w_0 kL_sent) rfl rfl rfl (by decide +kernel) ⟨(Nat.le_of_ble_eq_true rfl), (Nat.le_of_ble_eq_true rfl)⟩) rfl rfl (Nat.le_of_ble_eq_true rfl) d_L_law_457 ⟨by show 1000 + 3 * t + 1 ≤ 601024; omega, by show 100000 + 20 * t + 6 ≤ 7293033; omega⟩ (fun v u H locs hw hP hD hS => ?_)
      obtain ⟨d2, f2⟩ := u
      obtain ⟨rfl, hd2, hout⟩ := hw
      have hP : va_P g.2.1 cls7 ((outC g oa f2 :: dWd g a ff d2) ++ mWd g mo ma sf rd q) H := wP_perm hP List.perm_append_comm
      have hD : va_D (fun q : Nat => s.heap.size ≤ q) ((outC g oa f2 :: dWd g a ff d2) ++ mWd g mo ma sf rd q) := wD_perm hD List.perm_append_comm
      refine W.eq (g2 := F0 m 460 ls [.int (nI kk)]) rfl ?_
      refine lv_istore (lv' := [(5, .int (nI kk)), (4, .int (nI (5 * t))), (0, .ref b), (1, .ref a.1), (2, .ref mo), (3, .ref oa)]) hx hb d_L_law_460 hl (by decide) rfl (fun ls hl => ?_)
      refine lv_aload_n hx hb d_L_law_462 rfl (lv_at hl 4 rfl) ?_
      refine lv_aload_n hx hb d_L_law_463 rfl (lv_at hl 2 rfl) ?_
      refine lv_iload hx hb d_L_law_464 (lv_at hl 1 rfl) ?_
      refine lv_iconst (v := (nI 1)) hx hb d_L_law_466 (by decide) ?_
      refine ln_iadd hx hb d_L_law_467 ?_
      refine ln_sld hx hb hX hbl hbA hS (by omega) (by omega) d_L_law_468 ?_
      refine lv_aload_n hx hb d_L_law_469 rfl (lv_at hl 2 rfl) ?_
      refine lv_iload hx hb d_L_law_470 (lv_at hl 1 rfl) ?_
      refine lv_iconst (v := (nI 2)) hx hb d_L_law_472 (by decide) ?_
      refine ln_iadd hx hb d_L_law_473 ?_
      refine ln_sld hx hb hX hbl hbA hS (by omega) (by omega) d_L_law_474 ?_
      refine lv_aload_n hx hb d_L_law_475 rfl (lv_at hl 2 rfl) ?_
      refine lv_iload hx hb d_L_law_476 (lv_at hl 1 rfl) ?_
      refine lv_iconst (v := (nI 3)) hx hb d_L_law_478 (by decide) ?_
      refine ln_iadd hx hb d_L_law_479 ?_
      refine ln_sld hx hb hX hbl hbA hS (by omega) (by omega) d_L_law_480 ?_
      refine g_callV (As := [.int (xs ((5 * t) + 1)), .int (xs ((5 * t) + 2)), .int (xs ((5 * t) + 3))]) (rest := []) (wr := outC g oa f2 :: dWd g a ff d2) (q0 := 0) (ci := 6) (XSok g) ⟨hx, hb, hml, hown, ht⟩ hK hA hXs hl.1 hP hD hS (hMm q hq) List.perm_append_comm rfl rfl (cwV 3 ht (tb_V w_923 w_924 w_925 w_8 k_X6_sent) rfl rfl rfl (by decide +kernel) ⟨(Nat.le_of_ble_eq_true rfl), (Nat.le_of_ble_eq_true rfl)⟩) rfl rfl (Nat.le_of_ble_eq_true rfl) d_L_law_481 ⟨by show 1000 + 3 * t + 1 + 1 ≤ 601024; omega, by show 100000 + 20 * t + 6 + 6 ≤ 7293033; omega⟩ (fun v q2 H locs hw hP hD hS => ?_)
      obtain ⟨rfl, hq2, hth⟩ := hw
      refine W.eq (g2 := F0 m 484 ls [.int r]) rfl ?_
      refine lv_istore (lv' := [(6, .int r), (5, .int (nI kk)), (4, .int (nI (5 * t))), (0, .ref b), (1, .ref a.1), (2, .ref mo), (3, .ref oa)]) hx hb d_L_law_484 hl (by decide) rfl (fun ls hl => ?_)
      refine lv_aload_n hx hb d_L_law_486 rfl (lv_at hl 5 rfl) ?_
      refine g_callV (As := []) (rest := []) (wr := outC g oa f2 :: dWd g a ff d2) (q0 := 0) (ci := 6) (XSok g) ⟨hx, hb, hml, hown, ht⟩ hK hA hXs hl.1 hP hD hS (step_thrown g mo ma sf rd q2) List.perm_append_comm rfl rfl (cwV 0 ht (tb_V w_785 w_786 w_787 w_8 k_X6_thrown) rfl rfl rfl (by decide +kernel) ⟨(Nat.le_of_ble_eq_true rfl), (Nat.le_of_ble_eq_true rfl)⟩) rfl rfl (Nat.le_of_ble_eq_true rfl) d_L_law_487 ⟨by show 1000 + 3 * t + 1 + 1 + 1 ≤ 601024; omega, by show 100000 + 20 * t + 6 + 6 + 6 ≤ 7293033; omega⟩ (fun v u H locs hw hP hD hS => ?_)
      obtain rfl := hw
      refine W.eq (g2 := F0 m 490 ls [.int (nI kk)]) (by rw [hth]; rfl) ?_
      refine W.widen (k := 1000 + 3 * t + 3) (n := 100000 + 20 * t + 20) (by show 1000 + 3 * t + 1 + 1 + 1 ≤ _; omega) (by show 100000 + 20 * t + 6 + 6 + 6 ≤ _; omega) ?_
      refine lv_iload hx hb d_L_law_490 (lv_at hl 1 rfl) ?_
      refine lv_icmp_eq (tgt := 497) hx hb d_L_law_492 (by decide) (fun _ => ?_) (fun hne => absurd rfl hne)
      refine lv_iload hx hb d_L_law_497 (lv_at hl 1 rfl) ?_
      refine ln_if_ne (tgt := 514) hx hb d_L_law_499 (by decide) (by omega) (fun hk0 => ?_) (fun hk0 => ?_)
      · refine lv_goto (tgt := 745) hx hb d_L_law_514 (by decide) ?_
        exact nxt s2 hI2 d2 q2 f2 hd2 hq2 H locs hP hD hS ls (lv_sub hl [2, 3, 4, 5, 6] rfl)
      have ho : f2 0 = r.toInt64 := hout hk0
      refine lv_aload_n hx hb d_L_law_502 rfl (lv_at hl 6 rfl) ?_
      refine lv_iconst (v := (nI 0)) hx hb d_L_law_503 (by decide) ?_
      refine ln_lald (k := 0) hx hb hK hP 0 1 rfl rfl (by decide) (by decide) d_L_law_504 ?_
      refine lv_iload hx hb d_L_law_505 (lv_at hl 0 rfl) ?_
      refine lv_i2l (v := r.toInt64) hx hb d_L_law_507 rfl ?_
      refine W.eq (g2 := F0 m 508 ls [.long r.toInt64, .long r.toInt64]) (by rw [ho]) ?_
      refine ln_lcmp hx hb d_L_law_508 ?_
      refine lv_if_eq (tgt := 514) hx hb d_L_law_509 (by decide) (fun _ => ?_) (fun hne => absurd (lc_self _) hne)
      refine lv_goto (tgt := 745) hx hb d_L_law_514 (by decide) ?_
      exact nxt s2 hI2 d2 q2 f2 hd2 hq2 H locs hP hD hS ls (lv_sub hl [2, 3, 4, 5, 6] rfl)
    · refine lv_tableIn (off := 478) (tgt := 517) hx hb d_L_law_39 (by decide) (by decide) rfl (by decide) ?_
      refine lv_aload_n hx hb d_L_law_517 rfl (lv_at hl 2 rfl) ?_
      refine lv_aload_n hx hb d_L_law_518 rfl (lv_at hl 1 rfl) ?_
      refine lv_iload hx hb d_L_law_519 (lv_at hl 0 rfl) ?_
      refine lv_iconst (v := (nI 1)) hx hb d_L_law_521 (by decide) ?_
      refine ln_iadd hx hb d_L_law_522 ?_
      refine ln_sld hx hb hX hbl hbA hS (by omega) (by omega) d_L_law_523 ?_
      refine lv_aload_n hx hb d_L_law_524 rfl (lv_at hl 1 rfl) ?_
      refine lv_iload hx hb d_L_law_525 (lv_at hl 0 rfl) ?_
      refine lv_iconst (v := (nI 2)) hx hb d_L_law_527 (by decide) ?_
      refine ln_iadd hx hb d_L_law_528 ?_
      refine ln_sld hx hb hX hbl hbA hS (by omega) (by omega) d_L_law_529 ?_
      refine lv_aload_n hx hb d_L_law_530 rfl (lv_at hl 1 rfl) ?_
      refine lv_iload hx hb d_L_law_531 (lv_at hl 0 rfl) ?_
      refine lv_iconst (v := (nI 3)) hx hb d_L_law_533 (by decide) ?_
      refine ln_iadd hx hb d_L_law_534 ?_
      refine ln_sld hx hb hX hbl hbA hS (by omega) (by omega) d_L_law_535 ?_
      refine lv_aload_n hx hb d_L_law_536 rfl (lv_at hl 1 rfl) ?_
      refine lv_iload hx hb d_L_law_537 (lv_at hl 0 rfl) ?_
      refine lv_iconst (v := (nI 4)) hx hb d_L_law_539 (by decide) ?_
      refine ln_iadd hx hb d_L_law_540 ?_
      refine ln_sld hx hb hX hbl hbA hS (by omega) (by omega) d_L_law_541 ?_
      refine lv_aload_n hx hb d_L_law_542 rfl (lv_at hl 4 rfl) ?_
      obtain ⟨kk, r, s2, hk3, hI2, hHh, hMm⟩ := step_secret g a ff hff mo ma sf rd hsf hrd oa (xs ((5 * t) + 1)) (xs ((5 * t) + 2)) (xs ((5 * t) + 3)) (xs ((5 * t) + 4)) s9 hI
      refine g_callSW (As := [.ref a.1, .int (xs ((5 * t) + 1)), .int (xs ((5 * t) + 2)), .int (xs ((5 * t) + 3)), .int (xs ((5 * t) + 4)), .ref oa]) (rest := []) (wr := mWd g mo ma sf rd q) (XLok g) ⟨hx, hb, hml, hown, ht⟩ hK hA hXl hl.1 hP hD hS (hHh d f hd) (List.Perm.refl _) (vx_cwSW 6 ht (tb_SW w_608 w_609 w_0 kL_secret) rfl rfl rfl (by decide +kernel) ⟨(Nat.le_of_ble_eq_true rfl), (Nat.le_of_ble_eq_true rfl)⟩) rfl rfl (Nat.le_of_ble_eq_true rfl) d_L_law_543 ⟨by show 1000 + 3 * t + 1 ≤ 601024; omega, by show 100000 + 20 * t + 6 ≤ 7293033; omega⟩ (fun v u H locs hw hP hD hS => ?_)
      obtain ⟨d2, f2⟩ := u
      obtain ⟨rfl, hd2, hout⟩ := hw
      have hP : va_P g.2.1 cls7 ((outC g oa f2 :: dWd g a ff d2) ++ mWd g mo ma sf rd q) H := wP_perm hP List.perm_append_comm
      have hD : va_D (fun q : Nat => s.heap.size ≤ q) ((outC g oa f2 :: dWd g a ff d2) ++ mWd g mo ma sf rd q) := wD_perm hD List.perm_append_comm
      refine W.eq (g2 := F0 m 546 ls [.int (nI kk)]) rfl ?_
      refine lv_istore (lv' := [(5, .int (nI kk)), (4, .int (nI (5 * t))), (0, .ref b), (1, .ref a.1), (2, .ref mo), (3, .ref oa)]) hx hb d_L_law_546 hl (by decide) rfl (fun ls hl => ?_)
      refine lv_aload_n hx hb d_L_law_548 rfl (lv_at hl 4 rfl) ?_
      refine lv_aload_n hx hb d_L_law_549 rfl (lv_at hl 2 rfl) ?_
      refine lv_iload hx hb d_L_law_550 (lv_at hl 1 rfl) ?_
      refine lv_iconst (v := (nI 1)) hx hb d_L_law_552 (by decide) ?_
      refine ln_iadd hx hb d_L_law_553 ?_
      refine ln_sld hx hb hX hbl hbA hS (by omega) (by omega) d_L_law_554 ?_
      refine lv_aload_n hx hb d_L_law_555 rfl (lv_at hl 2 rfl) ?_
      refine lv_iload hx hb d_L_law_556 (lv_at hl 1 rfl) ?_
      refine lv_iconst (v := (nI 2)) hx hb d_L_law_558 (by decide) ?_
      refine ln_iadd hx hb d_L_law_559 ?_
      refine ln_sld hx hb hX hbl hbA hS (by omega) (by omega) d_L_law_560 ?_
      refine lv_aload_n hx hb d_L_law_561 rfl (lv_at hl 2 rfl) ?_
      refine lv_iload hx hb d_L_law_562 (lv_at hl 1 rfl) ?_
      refine lv_iconst (v := (nI 3)) hx hb d_L_law_564 (by decide) ?_
      refine ln_iadd hx hb d_L_law_565 ?_
      refine ln_sld hx hb hX hbl hbA hS (by omega) (by omega) d_L_law_566 ?_
      refine lv_aload_n hx hb d_L_law_567 rfl (lv_at hl 2 rfl) ?_
      refine lv_iload hx hb d_L_law_568 (lv_at hl 1 rfl) ?_
      refine lv_iconst (v := (nI 4)) hx hb d_L_law_570 (by decide) ?_
      refine ln_iadd hx hb d_L_law_571 ?_
      refine ln_sld hx hb hX hbl hbA hS (by omega) (by omega) d_L_law_572 ?_
      refine g_callV (As := [.int (xs ((5 * t) + 1)), .int (xs ((5 * t) + 2)), .int (xs ((5 * t) + 3)), .int (xs ((5 * t) + 4))]) (rest := []) (wr := outC g oa f2 :: dWd g a ff d2) (q0 := 0) (ci := 6) (XSok g) ⟨hx, hb, hml, hown, ht⟩ hK hA hXs hl.1 hP hD hS (hMm q hq) List.perm_append_comm rfl rfl (cwV 4 ht (tb_V w_927 w_928 w_929 w_8 k_X6_secret) rfl rfl rfl (by decide +kernel) ⟨(Nat.le_of_ble_eq_true rfl), (Nat.le_of_ble_eq_true rfl)⟩) rfl rfl (Nat.le_of_ble_eq_true rfl) d_L_law_573 ⟨by show 1000 + 3 * t + 1 + 1 ≤ 601024; omega, by show 100000 + 20 * t + 6 + 6 ≤ 7293033; omega⟩ (fun v q2 H locs hw hP hD hS => ?_)
      obtain ⟨rfl, hq2, hth⟩ := hw
      refine W.eq (g2 := F0 m 576 ls [.int r]) rfl ?_
      refine lv_istore (lv' := [(6, .int r), (5, .int (nI kk)), (4, .int (nI (5 * t))), (0, .ref b), (1, .ref a.1), (2, .ref mo), (3, .ref oa)]) hx hb d_L_law_576 hl (by decide) rfl (fun ls hl => ?_)
      refine lv_aload_n hx hb d_L_law_578 rfl (lv_at hl 5 rfl) ?_
      refine g_callV (As := []) (rest := []) (wr := outC g oa f2 :: dWd g a ff d2) (q0 := 0) (ci := 6) (XSok g) ⟨hx, hb, hml, hown, ht⟩ hK hA hXs hl.1 hP hD hS (step_thrown g mo ma sf rd q2) List.perm_append_comm rfl rfl (cwV 0 ht (tb_V w_785 w_786 w_787 w_8 k_X6_thrown) rfl rfl rfl (by decide +kernel) ⟨(Nat.le_of_ble_eq_true rfl), (Nat.le_of_ble_eq_true rfl)⟩) rfl rfl (Nat.le_of_ble_eq_true rfl) d_L_law_579 ⟨by show 1000 + 3 * t + 1 + 1 + 1 ≤ 601024; omega, by show 100000 + 20 * t + 6 + 6 + 6 ≤ 7293033; omega⟩ (fun v u H locs hw hP hD hS => ?_)
      obtain rfl := hw
      refine W.eq (g2 := F0 m 582 ls [.int (nI kk)]) (by rw [hth]; rfl) ?_
      refine W.widen (k := 1000 + 3 * t + 3) (n := 100000 + 20 * t + 20) (by show 1000 + 3 * t + 1 + 1 + 1 ≤ _; omega) (by show 100000 + 20 * t + 6 + 6 + 6 ≤ _; omega) ?_
      refine lv_iload hx hb d_L_law_582 (lv_at hl 1 rfl) ?_
      refine lv_icmp_eq (tgt := 589) hx hb d_L_law_584 (by decide) (fun _ => ?_) (fun hne => absurd rfl hne)
      refine lv_iload hx hb d_L_law_589 (lv_at hl 1 rfl) ?_
      refine ln_if_ne (tgt := 606) hx hb d_L_law_591 (by decide) (by omega) (fun hk0 => ?_) (fun hk0 => ?_)
      · refine lv_goto (tgt := 745) hx hb d_L_law_606 (by decide) ?_
        exact nxt s2 hI2 d2 q2 f2 hd2 hq2 H locs hP hD hS ls (lv_sub hl [2, 3, 4, 5, 6] rfl)
      have ho : f2 0 = r.toInt64 := hout hk0
      refine lv_aload_n hx hb d_L_law_594 rfl (lv_at hl 6 rfl) ?_
      refine lv_iconst (v := (nI 0)) hx hb d_L_law_595 (by decide) ?_
      refine ln_lald (k := 0) hx hb hK hP 0 1 rfl rfl (by decide) (by decide) d_L_law_596 ?_
      refine lv_iload hx hb d_L_law_597 (lv_at hl 0 rfl) ?_
      refine lv_i2l (v := r.toInt64) hx hb d_L_law_599 rfl ?_
      refine W.eq (g2 := F0 m 600 ls [.long r.toInt64, .long r.toInt64]) (by rw [ho]) ?_
      refine ln_lcmp hx hb d_L_law_600 ?_
      refine lv_if_eq (tgt := 606) hx hb d_L_law_601 (by decide) (fun _ => ?_) (fun hne => absurd (lc_self _) hne)
      refine lv_goto (tgt := 745) hx hb d_L_law_606 (by decide) ?_
      exact nxt s2 hI2 d2 q2 f2 hd2 hq2 H locs hP hD hS ls (lv_sub hl [2, 3, 4, 5, 6] rfl)
    · refine lv_tableIn (off := 570) (tgt := 609) hx hb d_L_law_39 (by decide) (by decide) rfl (by decide) ?_
      refine lv_aload_n hx hb d_L_law_609 rfl (lv_at hl 2 rfl) ?_
      refine lv_aload_n hx hb d_L_law_610 rfl (lv_at hl 1 rfl) ?_
      refine lv_iload hx hb d_L_law_611 (lv_at hl 0 rfl) ?_
      refine lv_iconst (v := (nI 1)) hx hb d_L_law_613 (by decide) ?_
      refine ln_iadd hx hb d_L_law_614 ?_
      refine ln_sld hx hb hX hbl hbA hS (by omega) (by omega) d_L_law_615 ?_
      refine lv_aload_n hx hb d_L_law_616 rfl (lv_at hl 1 rfl) ?_
      refine lv_iload hx hb d_L_law_617 (lv_at hl 0 rfl) ?_
      refine lv_iconst (v := (nI 2)) hx hb d_L_law_619 (by decide) ?_
      refine ln_iadd hx hb d_L_law_620 ?_
      refine ln_sld hx hb hX hbl hbA hS (by omega) (by omega) d_L_law_621 ?_
      refine lv_aload_n hx hb d_L_law_622 rfl (lv_at hl 4 rfl) ?_
      obtain ⟨kk, r, s2, hk3, hI2, hHh, hMm⟩ := step_theirs g a ff hff mo ma sf rd hsf hrd oa (xs ((5 * t) + 1)) (xs ((5 * t) + 2)) s9 hI
      refine g_callSW (As := [.ref a.1, .int (xs ((5 * t) + 1)), .int (xs ((5 * t) + 2)), .ref oa]) (rest := []) (wr := mWd g mo ma sf rd q) (XLok g) ⟨hx, hb, hml, hown, ht⟩ hK hA hXl hl.1 hP hD hS (hHh d f hd) (List.Perm.refl _) (vx_cwSW 4 ht (tb_SW w_622 w_623 w_0 kL_theirs) rfl rfl rfl (by decide +kernel) ⟨(Nat.le_of_ble_eq_true rfl), (Nat.le_of_ble_eq_true rfl)⟩) rfl rfl (Nat.le_of_ble_eq_true rfl) d_L_law_623 ⟨by show 1000 + 3 * t + 1 ≤ 601024; omega, by show 100000 + 20 * t + 6 ≤ 7293033; omega⟩ (fun v u H locs hw hP hD hS => ?_)
      obtain ⟨d2, f2⟩ := u
      obtain ⟨rfl, hd2, hout⟩ := hw
      have hP : va_P g.2.1 cls7 ((outC g oa f2 :: dWd g a ff d2) ++ mWd g mo ma sf rd q) H := wP_perm hP List.perm_append_comm
      have hD : va_D (fun q : Nat => s.heap.size ≤ q) ((outC g oa f2 :: dWd g a ff d2) ++ mWd g mo ma sf rd q) := wD_perm hD List.perm_append_comm
      refine W.eq (g2 := F0 m 626 ls [.int (nI kk)]) rfl ?_
      refine lv_istore (lv' := [(5, .int (nI kk)), (4, .int (nI (5 * t))), (0, .ref b), (1, .ref a.1), (2, .ref mo), (3, .ref oa)]) hx hb d_L_law_626 hl (by decide) rfl (fun ls hl => ?_)
      refine lv_aload_n hx hb d_L_law_628 rfl (lv_at hl 4 rfl) ?_
      refine lv_aload_n hx hb d_L_law_629 rfl (lv_at hl 2 rfl) ?_
      refine lv_iload hx hb d_L_law_630 (lv_at hl 1 rfl) ?_
      refine lv_iconst (v := (nI 1)) hx hb d_L_law_632 (by decide) ?_
      refine ln_iadd hx hb d_L_law_633 ?_
      refine ln_sld hx hb hX hbl hbA hS (by omega) (by omega) d_L_law_634 ?_
      refine lv_aload_n hx hb d_L_law_635 rfl (lv_at hl 2 rfl) ?_
      refine lv_iload hx hb d_L_law_636 (lv_at hl 1 rfl) ?_
      refine lv_iconst (v := (nI 2)) hx hb d_L_law_638 (by decide) ?_
      refine ln_iadd hx hb d_L_law_639 ?_
      refine ln_sld hx hb hX hbl hbA hS (by omega) (by omega) d_L_law_640 ?_
      refine g_callV (As := [.int (xs ((5 * t) + 1)), .int (xs ((5 * t) + 2))]) (rest := []) (wr := outC g oa f2 :: dWd g a ff d2) (q0 := 0) (ci := 6) (XSok g) ⟨hx, hb, hml, hown, ht⟩ hK hA hXs hl.1 hP hD hS (hMm q hq) List.perm_append_comm rfl rfl (cwV 2 ht (tb_V w_935 w_936 w_937 w_8 k_X6_theirs) rfl rfl rfl (by decide +kernel) ⟨(Nat.le_of_ble_eq_true rfl), (Nat.le_of_ble_eq_true rfl)⟩) rfl rfl (Nat.le_of_ble_eq_true rfl) d_L_law_641 ⟨by show 1000 + 3 * t + 1 + 1 ≤ 601024; omega, by show 100000 + 20 * t + 6 + 6 ≤ 7293033; omega⟩ (fun v q2 H locs hw hP hD hS => ?_)
      obtain ⟨rfl, hq2, hth⟩ := hw
      refine W.eq (g2 := F0 m 644 ls [.int r]) rfl ?_
      refine lv_istore (lv' := [(6, .int r), (5, .int (nI kk)), (4, .int (nI (5 * t))), (0, .ref b), (1, .ref a.1), (2, .ref mo), (3, .ref oa)]) hx hb d_L_law_644 hl (by decide) rfl (fun ls hl => ?_)
      refine lv_aload_n hx hb d_L_law_646 rfl (lv_at hl 5 rfl) ?_
      refine g_callV (As := []) (rest := []) (wr := outC g oa f2 :: dWd g a ff d2) (q0 := 0) (ci := 6) (XSok g) ⟨hx, hb, hml, hown, ht⟩ hK hA hXs hl.1 hP hD hS (step_thrown g mo ma sf rd q2) List.perm_append_comm rfl rfl (cwV 0 ht (tb_V w_785 w_786 w_787 w_8 k_X6_thrown) rfl rfl rfl (by decide +kernel) ⟨(Nat.le_of_ble_eq_true rfl), (Nat.le_of_ble_eq_true rfl)⟩) rfl rfl (Nat.le_of_ble_eq_true rfl) d_L_law_647 ⟨by show 1000 + 3 * t + 1 + 1 + 1 ≤ 601024; omega, by show 100000 + 20 * t + 6 + 6 + 6 ≤ 7293033; omega⟩ (fun v u H locs hw hP hD hS => ?_)
      obtain rfl := hw
      refine W.eq (g2 := F0 m 650 ls [.int (nI kk)]) (by rw [hth]; rfl) ?_
      refine W.widen (k := 1000 + 3 * t + 3) (n := 100000 + 20 * t + 20) (by show 1000 + 3 * t + 1 + 1 + 1 ≤ _; omega) (by show 100000 + 20 * t + 6 + 6 + 6 ≤ _; omega) ?_
      refine lv_iload hx hb d_L_law_650 (lv_at hl 1 rfl) ?_
      refine lv_icmp_eq (tgt := 657) hx hb d_L_law_652 (by decide) (fun _ => ?_) (fun hne => absurd rfl hne)
      refine lv_iload hx hb d_L_law_657 (lv_at hl 1 rfl) ?_
      refine ln_if_ne (tgt := 674) hx hb d_L_law_659 (by decide) (by omega) (fun hk0 => ?_) (fun hk0 => ?_)
      · refine lv_goto (tgt := 745) hx hb d_L_law_674 (by decide) ?_
        exact nxt s2 hI2 d2 q2 f2 hd2 hq2 H locs hP hD hS ls (lv_sub hl [2, 3, 4, 5, 6] rfl)
      have ho : f2 0 = r.toInt64 := hout hk0
      refine lv_aload_n hx hb d_L_law_662 rfl (lv_at hl 6 rfl) ?_
      refine lv_iconst (v := (nI 0)) hx hb d_L_law_663 (by decide) ?_
      refine ln_lald (k := 0) hx hb hK hP 0 1 rfl rfl (by decide) (by decide) d_L_law_664 ?_
      refine lv_iload hx hb d_L_law_665 (lv_at hl 0 rfl) ?_
      refine lv_i2l (v := r.toInt64) hx hb d_L_law_667 rfl ?_
      refine W.eq (g2 := F0 m 668 ls [.long r.toInt64, .long r.toInt64]) (by rw [ho]) ?_
      refine ln_lcmp hx hb d_L_law_668 ?_
      refine lv_if_eq (tgt := 674) hx hb d_L_law_669 (by decide) (fun _ => ?_) (fun hne => absurd (lc_self _) hne)
      refine lv_goto (tgt := 745) hx hb d_L_law_674 (by decide) ?_
      exact nxt s2 hI2 d2 q2 f2 hd2 hq2 H locs hP hD hS ls (lv_sub hl [2, 3, 4, 5, 6] rfl)
    · refine lv_tableIn (off := 638) (tgt := 677) hx hb d_L_law_39 (by decide) (by decide) rfl (by decide) ?_
      refine lv_aload_n hx hb d_L_law_677 rfl (lv_at hl 2 rfl) ?_
      refine lv_aload_n hx hb d_L_law_678 rfl (lv_at hl 1 rfl) ?_
      refine lv_iload hx hb d_L_law_679 (lv_at hl 0 rfl) ?_
      refine lv_iconst (v := (nI 1)) hx hb d_L_law_681 (by decide) ?_
      refine ln_iadd hx hb d_L_law_682 ?_
      refine ln_sld hx hb hX hbl hbA hS (by omega) (by omega) d_L_law_683 ?_
      refine lv_aload_n hx hb d_L_law_684 rfl (lv_at hl 1 rfl) ?_
      refine lv_iload hx hb d_L_law_685 (lv_at hl 0 rfl) ?_
      refine lv_iconst (v := (nI 2)) hx hb d_L_law_687 (by decide) ?_
      refine ln_iadd hx hb d_L_law_688 ?_
      refine ln_sld hx hb hX hbl hbA hS (by omega) (by omega) d_L_law_689 ?_
      refine lv_aload_n hx hb d_L_law_690 rfl (lv_at hl 4 rfl) ?_
      obtain ⟨kk, r, s2, hk3, hI2, hHh, hMm⟩ := step_look g a ff hff mo ma sf rd hsf hrd oa (xs ((5 * t) + 1)) (xs ((5 * t) + 2)) s9 hI
      refine g_callSW (As := [.ref a.1, .int (xs ((5 * t) + 1)), .int (xs ((5 * t) + 2)), .ref oa]) (rest := []) (wr := mWd g mo ma sf rd q) (XLok g) ⟨hx, hb, hml, hown, ht⟩ hK hA hXl hl.1 hP hD hS (hHh d f hd) (List.Perm.refl _) (vx_cwSW 4 ht (tb_SW w_630 w_631 w_0 kL_look) rfl rfl rfl (by decide +kernel) ⟨(Nat.le_of_ble_eq_true rfl), (Nat.le_of_ble_eq_true rfl)⟩) rfl rfl (Nat.le_of_ble_eq_true rfl) d_L_law_691 ⟨by show 1000 + 3 * t + 1 ≤ 601024; omega, by show 100000 + 20 * t + 6 ≤ 7293033; omega⟩ (fun v u H locs hw hP hD hS => ?_)
      obtain ⟨d2, f2⟩ := u
      obtain ⟨rfl, hd2, hout⟩ := hw
      have hP : va_P g.2.1 cls7 ((outC g oa f2 :: dWd g a ff d2) ++ mWd g mo ma sf rd q) H := wP_perm hP List.perm_append_comm
      have hD : va_D (fun q : Nat => s.heap.size ≤ q) ((outC g oa f2 :: dWd g a ff d2) ++ mWd g mo ma sf rd q) := wD_perm hD List.perm_append_comm
      refine W.eq (g2 := F0 m 694 ls [.int (nI kk)]) rfl ?_
      refine lv_istore (lv' := [(5, .int (nI kk)), (4, .int (nI (5 * t))), (0, .ref b), (1, .ref a.1), (2, .ref mo), (3, .ref oa)]) hx hb d_L_law_694 hl (by decide) rfl (fun ls hl => ?_)
      refine lv_aload_n hx hb d_L_law_696 rfl (lv_at hl 4 rfl) ?_
      refine lv_aload_n hx hb d_L_law_697 rfl (lv_at hl 2 rfl) ?_
      refine lv_iload hx hb d_L_law_698 (lv_at hl 1 rfl) ?_
      refine lv_iconst (v := (nI 1)) hx hb d_L_law_700 (by decide) ?_
      refine ln_iadd hx hb d_L_law_701 ?_
      refine ln_sld hx hb hX hbl hbA hS (by omega) (by omega) d_L_law_702 ?_
      refine lv_aload_n hx hb d_L_law_703 rfl (lv_at hl 2 rfl) ?_
      refine lv_iload hx hb d_L_law_704 (lv_at hl 1 rfl) ?_
      refine lv_iconst (v := (nI 2)) hx hb d_L_law_706 (by decide) ?_
      refine ln_iadd hx hb d_L_law_707 ?_
      refine ln_sld hx hb hX hbl hbA hS (by omega) (by omega) d_L_law_708 ?_
      refine g_callV (As := [.int (xs ((5 * t) + 1)), .int (xs ((5 * t) + 2))]) (rest := []) (wr := outC g oa f2 :: dWd g a ff d2) (q0 := 0) (ci := 6) (XSok g) ⟨hx, hb, hml, hown, ht⟩ hK hA hXs hl.1 hP hD hS (hMm q hq) List.perm_append_comm rfl rfl (cwV 2 ht (tb_V w_939 w_940 w_941 w_8 k_X6_look) rfl rfl rfl (by decide +kernel) ⟨(Nat.le_of_ble_eq_true rfl), (Nat.le_of_ble_eq_true rfl)⟩) rfl rfl (Nat.le_of_ble_eq_true rfl) d_L_law_709 ⟨by show 1000 + 3 * t + 1 + 1 ≤ 601024; omega, by show 100000 + 20 * t + 6 + 6 ≤ 7293033; omega⟩ (fun v q2 H locs hw hP hD hS => ?_)
      obtain ⟨rfl, hq2, hth⟩ := hw
      refine W.eq (g2 := F0 m 712 ls [.int r]) rfl ?_
      refine lv_istore (lv' := [(6, .int r), (5, .int (nI kk)), (4, .int (nI (5 * t))), (0, .ref b), (1, .ref a.1), (2, .ref mo), (3, .ref oa)]) hx hb d_L_law_712 hl (by decide) rfl (fun ls hl => ?_)
      refine lv_aload_n hx hb d_L_law_714 rfl (lv_at hl 5 rfl) ?_
      refine g_callV (As := []) (rest := []) (wr := outC g oa f2 :: dWd g a ff d2) (q0 := 0) (ci := 6) (XSok g) ⟨hx, hb, hml, hown, ht⟩ hK hA hXs hl.1 hP hD hS (step_thrown g mo ma sf rd q2) List.perm_append_comm rfl rfl (cwV 0 ht (tb_V w_785 w_786 w_787 w_8 k_X6_thrown) rfl rfl rfl (by decide +kernel) ⟨(Nat.le_of_ble_eq_true rfl), (Nat.le_of_ble_eq_true rfl)⟩) rfl rfl (Nat.le_of_ble_eq_true rfl) d_L_law_715 ⟨by show 1000 + 3 * t + 1 + 1 + 1 ≤ 601024; omega, by show 100000 + 20 * t + 6 + 6 + 6 ≤ 7293033; omega⟩ (fun v u H locs hw hP hD hS => ?_)
      obtain rfl := hw
      refine W.eq (g2 := F0 m 718 ls [.int (nI kk)]) (by rw [hth]; rfl) ?_
      refine W.widen (k := 1000 + 3 * t + 3) (n := 100000 + 20 * t + 20) (by show 1000 + 3 * t + 1 + 1 + 1 ≤ _; omega) (by show 100000 + 20 * t + 6 + 6 + 6 ≤ _; omega) ?_
      refine lv_iload hx hb d_L_law_718 (lv_at hl 1 rfl) ?_
      refine lv_icmp_eq (tgt := 725) hx hb d_L_law_720 (by decide) (fun _ => ?_) (fun hne => absurd rfl hne)
      refine lv_iload hx hb d_L_law_725 (lv_at hl 1 rfl) ?_
      refine ln_if_ne (tgt := 742) hx hb d_L_law_727 (by decide) (by omega) (fun hk0 => ?_) (fun hk0 => ?_)
      · refine lv_goto (tgt := 745) hx hb d_L_law_742 (by decide) ?_
        exact nxt s2 hI2 d2 q2 f2 hd2 hq2 H locs hP hD hS ls (lv_sub hl [2, 3, 4, 5, 6] rfl)
      have ho : f2 0 = r.toInt64 := hout hk0
      refine lv_aload_n hx hb d_L_law_730 rfl (lv_at hl 6 rfl) ?_
      refine lv_iconst (v := (nI 0)) hx hb d_L_law_731 (by decide) ?_
      refine ln_lald (k := 0) hx hb hK hP 0 1 rfl rfl (by decide) (by decide) d_L_law_732 ?_
      refine lv_iload hx hb d_L_law_733 (lv_at hl 0 rfl) ?_
      refine lv_i2l (v := r.toInt64) hx hb d_L_law_735 rfl ?_
      refine W.eq (g2 := F0 m 736 ls [.long r.toInt64, .long r.toInt64]) (by rw [ho]) ?_
      refine ln_lcmp hx hb d_L_law_736 ?_
      refine lv_if_eq (tgt := 742) hx hb d_L_law_737 (by decide) (fun _ => ?_) (fun hne => absurd (lc_self _) hne)
      refine lv_goto (tgt := 745) hx hb d_L_law_742 (by decide) ?_
      exact nxt s2 hI2 d2 q2 f2 hd2 hq2 H locs hP hD hS ls (lv_sub hl [2, 3, 4, 5, 6] rfl)
    · refine lv_tableOut (tgt := 745) hx hb d_L_law_39 (by decide) (by decide)  ?_
      refine W.widen (k := 1000 + 3 * t + 3) (n := 100000 + 20 * t + 20) (by omega) (by omega) ?_
      exact nxt s9 hI d q f hd hq H locs hP hD hS ls hl
    · refine lv_tableOut (tgt := 745) hx hb d_L_law_39 (by decide) (by decide)  ?_
      refine W.widen (k := 1000 + 3 * t + 3) (n := 100000 + 20 * t + 20) (by omega) (by omega) ?_
      exact nxt s9 hI d q f hd hq H locs hP hD hS ls hl
    · refine lv_tableOut (tgt := 745) hx hb d_L_law_39 (by decide) (by decide)  ?_
      refine W.widen (k := 1000 + 3 * t + 3) (n := 100000 + 20 * t + 20) (by omega) (by omega) ?_
      exact nxt s9 hI d q f hd hq H locs hP hD hS ls hl
    · refine lv_tableOut (tgt := 745) hx hb d_L_law_39 (by decide) (by decide)  ?_
      refine W.widen (k := 1000 + 3 * t + 3) (n := 100000 + 20 * t + 20) (by omega) (by omega) ?_
      exact nxt s9 hI d q f hd hq H locs hP hD hS ls hl
    · refine lv_tableOut (tgt := 745) hx hb d_L_law_39 (by decide) (by decide)  ?_
      refine W.widen (k := 1000 + 3 * t + 3) (n := 100000 + 20 * t + 20) (by omega) (by omega) ?_
      exact nxt s9 hI d q f hd hq H locs hP hD hS ls hl
    · refine lv_tableOut (tgt := 745) hx hb d_L_law_39 (by decide) (by decide)  ?_
      refine W.widen (k := 1000 + 3 * t + 3) (n := 100000 + 20 * t + 20) (by omega) (by omega) ?_
      exact nxt s9 hI d q f hd hq H locs hP hD hS ls hl
