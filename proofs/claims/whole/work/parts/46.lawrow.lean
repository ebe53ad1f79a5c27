/-! THE LAW'S HELPERS: methods with a table of handlers -/
def IAE : String := "java/lang/IllegalArgumentException"
def ISE : String := "java/lang/IllegalStateException"
def NSE : String := "java/util/NoSuchElementException"
def XL (g : GG) (A : Nat → Prop) (U : State) (H : Heap) : Prop := XS g A U H ∧ va_Nc "java/lang/IllegalStateException" "java/lang/IllegalArgumentException" U ∧ va_Nc "java/util/NoSuchElementException" "java/lang/IllegalArgumentException" U
theorem XLok (g : GG) : XOk (XL g) := by
  refine ⟨?_, ?_, ?_⟩
  · rintro A u U H hW ⟨h0, h1, h2⟩
    exact ⟨(XSok g).1 A u U H hW h0, h1.moved hW.alike, h2.moved hW.alike⟩
  · rintro A U H H1 ⟨h0, h1, h2⟩ hq
    exact ⟨(XSok g).2.1 A U H H1 h0 hq, h1, h2⟩
  · rintro A B U H ⟨h0, h1, h2⟩ hq
    exact ⟨(XSok g).2.2 A B U H h0 hq, h1, h2⟩
/-- a contract under richer facts -/
theorem Ct_X {l : Launch} {D : va_G} {cl : List vw_C} {tys : List (ClassId × FieldType)} {X X2 : (Nat → Prop) → State → Heap → Prop} {y : MethodName} {ws : List Cond} {rm : Room} {av : List Value} {wc : va_W} {S : Type} {post : Option Value → S → Prop} {w1 : S → va_W} (h : Ct l D cl tys X y ws rm av wc post w1) (hx : ∀ A U H, X2 A U H → X A U H) : Ct l D cl tys X2 y ws rm av wc post w1 := by
  intro sz p e ha hc hk s m args below hf happ hP hK
  exact h sz p e ha hc hk s m args below hf happ ⟨hP.1, hP.2.1, hP.2.2.1, hP.2.2.2.1, hP.2.2.2.2.1, hx _ _ _ hP.2.2.2.2.2⟩ hK
/-- the frame: cells beside those that a contract speaks of; the cells that come back in another order -/
theorem Ct_frame {l : Launch} {D : va_G} {cl : List vw_C} {tys : List (ClassId × FieldType)} {X : (Nat → Prop) → State → Heap → Prop} {y : MethodName} {ws : List Cond} {rm : Room} {av : List Value} {wc wo wr : va_W} {S : Type} {post : Option Value → S → Prop} {w1 w2 : S → va_W} (h : Ct l D cl tys X y ws rm av wc post w1) (hX : XOk X) (hp : wo.Perm (wc ++ wr)) (hq : ∀ u, (wr ++ w1 u).Perm (w2 u)) : Ct l D cl tys X y ws rm av wo post w2 := by
  intro sz p e ha hc hk s m args below hf happ hP hK
  obtain ⟨hav, hsz, hPo, hKo, hDo, hXo⟩ := hP
  have hsub : ∀ q, va_A wc sz q → va_A wo sz q := by
    intro q hq
    rcases wA_mem.mp hq with ⟨e, h⟩ | h
    · exact wA_mem.mpr (Or.inl ⟨e, hp.mem_iff.mpr (List.mem_append_left _ h)⟩)
    · exact wA_mem.mpr (Or.inr h)
  obtain ⟨n, o, h1, h2, h3, ⟨⟨v, u, a, b, c, d⟩, z, k⟩, r⟩ := h sz p e ha hc hk s m args below hf happ ⟨hav, hsz, wP_left (wP_perm hPo hp), hKo, wD_left (wD_perm hDo hp), hX.2.2 _ _ _ _ hXo hsub⟩ hK
  have hDA : va_D (va_A wo sz) wo := hDo.self (sz := sz)
  subst hsz
  obtain ⟨j1, j2⟩ := g_join (A := va_A wo s.heap.size) hp hPo hDA k hsub c d
  refine ⟨n, o, h1, h2, h3, ⟨⟨v, u, a, b, wP_perm j1 (hq u), wD_perm j2 (hq u)⟩, z, fun q hz hnq => k q hz (fun h => hnq (hsub q h))⟩, ?_⟩
  obtain ⟨L9, ra, hl⟩ := r
  exact ⟨L9, ra, fun z hz => hsub _ (hl z hz)⟩
theorem Ct_ofH {l : Launch} {D : va_G} {cl : List vw_C} {tys : List (ClassId × FieldType)} {X : (Nat → Prop) → State → Heap → Prop} {y : MethodName} {ws ws' : List Cond} {rm : Room} {av : List Value} {wc : va_W} {S : Type} {post : Option Value → S → Prop} {w1 : S → va_W} {cc : ByteArray} {maxL : Nat} {ret : Option FieldType} {hh : List (Nat × Nat × Nat × Nat)}
    (hy : plainName y.cls = true) (hw : ws = Cond.codeWith y cc maxL ret hh :: ws') (hlen : (lg_sl av).length ≤ maxL)
    (body : ∀ (p : Program) (e : Env) (s : State) (m : MethodId) (below : List Frame) (meth : Method) (c : Code) (A : Nat → Prop) (ls : Array Slot), p.tables.exec = Jvm.exec → c.code = cc → meth.sig.returnType = ret → c.maxLocals = maxL → s.vm.findClass y.cls = some m.cls → (∀ w ∈ ws, w.before av.toArray s = true) → meth.locks = false → c.exceptionTable.toList = tableOf hh →
      (∀ q, s.heap.size ≤ q → A q) → va_P D cl wc s.heap → va_K D cl tys s → va_D A wc → X A s s.heap → va_S A s.heap s.heap [] → lv_has ls maxL (lv_args 0 av) →
      W p l e rm s m av.toArray below meth c s.heap [] 0 0 (MQ below (gQ D cl post w1 A) av.toArray s rm.cells rm.slots A) (F0 m 0 ls [])) :
    Ct l D cl tys X y ws rm av wc post w1 := by
  intro sz
  refine MetFree.of_bodyS (code := cc) (maxLocals := maxL) (ret := ret) hy ?_ ?_
  · intro args s m h hn
    obtain ⟨m9, meth, c, hn9, h1, h2, h3, h4, -, h5, h6, -⟩ := Cond.codeWith_spec (atoms_spec (ws := ws) h _ (by rw [hw]; exact List.mem_cons_self))
    cases hn.symm.trans hn9
    exact ⟨meth, c, h1, h2, h3, h4, h5, h6⟩
  · intro p e s m args below meth c s₁ B hml hv _
    obtain ⟨rfl, hsz, hP, hK, hD0, hXs⟩ := hv
    subst hsz
    have hh0 : s₁.heap = s.heap := by rw [B.state]; rfl
    have hall := atoms_spec (ws := ws) B.pre
    have K := body p e s m below meth c (va_A wc s.heap.size) _ B.exec B.bytes B.returns hml (findClass_of_methodNamed B.named) hall B.notSynchronized (vx_table (x := y) B (hall _ (by rw [hw]; exact List.mem_cons_self)))
      (fun q h => Or.inr h) hP hK (hD0.self (sz := s.heap.size)) hXs va_S.rf (lv_entry av hlen)
    rw [← lg_entry_eq] at K
    obtain ⟨t, a1, o, b1, b2, b3⟩ := K s₁ hh0 (Stand.of_body B)
    exact ⟨t, o, a1, b1, b2, b3⟩
section GLW
variable {p : Program} {l : Launch} {e : Env} {R : Room} {s : State} {m : MethodId} {args : Array Value} {below : List Frame} {meth : Method} {c : Code} {H : Heap} {locs : List Loc} {cells slots : Nat} {Q : State → Prop}
variable {cc : ByteArray} {pc nL index : Nat} {ls : Array Slot} {rest st0 : List Value} {D : va_G} {cl : List vw_C} {tys : List (ClassId × FieldType)} {X : (Nat → Prop) → State → Heap → Prop} {A : Nat → Prop} {wo wc wr : va_W} {own C : String}
theorem g_callSW {S : Type} {post : Option Value → S → Prop} {w1 : S → va_W} {y : MethodName} {bytes : ByteArray} {maxL n : Nat} {ret : Option FieldType} {hh : List (Nat × Nat × Nat × Nat)} {ws Ts : List Cond} {rm : Room} {As : List Value}
    (hX : XOk X) (G : CallFix p m c cc nL s args Ts own) (hK : va_K D cl tys s) (hA : ∀ q, s.heap.size ≤ q → A q) (hXs : X A s s.heap) (hls : ls.size = nL)
    (hP : va_P D cl wo H) (hD : va_D A wo) (hS : va_S A s.heap H locs)
    (hM : Ct l D cl tys X y ws rm As wc post w1) (hp : wo.Perm (wc ++ wr))
    (cw : vx_CSW R s args own index y bytes maxL ret hh ws rm rm.cells rm.slots n) (hn : As.length = n) (hst : st0 = As.reverse ++ rest) (hW : (rest.map fun v => v.category).sum ≤ 8) (hdg : decode cc pc = .ok (.invokestatic index, 3)) (hf : cells + rm.cells ≤ R.cells ∧ slots + rm.slots ≤ R.slots)
    (kk : ∀ (v : Option Value) (u : S) (H1 : Heap) (locs1 : List Loc), post v u → va_P D cl (wr ++ w1 u) H1 → va_D A (wr ++ w1 u) → va_S A s.heap H1 locs1 → W p l e R s m args below meth c H1 locs1 (cells + rm.cells) (slots + rm.slots) Q (F0 m (pc + 3) ls (v.toList ++ rest))) :
    W p l e R s m args below meth c H locs cells slots Q (F0 m pc ls st0) :=
  g_after hp hP hD hS hA (vx_runSW (As := As) (rest := rest) G (hM H.size) cw (g_pre hX hp hP hD hK hS hA hXs) rfl hn hls hst (lv_room hW) hdg hf) kk
/-- a call that throws -/
theorem g_thrV {y : MethodName} {bytes : ByteArray} {maxL n q0 ci : Nat} {ret : Option FieldType} {ws Ts : List Cond} {rm : Room} {b : Nat} {As fs : List Value} {qc : vw_C} {E : String}
    (hX : XOk X) (G : CallFix p m c cc nL s args Ts own) (hK : va_K D cl tys s) (hA : ∀ q, s.heap.size ≤ q → A q) (hXs : X A s s.heap) (hls : ls.size = nL)
    (hP : va_P D cl wo H) (hD : va_D A wo) (hS : va_S A s.heap H locs)
    (hM : Tx l D cl tys X y ws rm (.ref b :: As) wc E) (hp : wo.Perm (wc ++ wr)) (hq : wo[q0]? = some (b, .inr (ci, fs))) (hc : cl[ci]? = some qc)
    (cw : CallW R s args own qc.1 index y bytes maxL ret ws rm rm.cells rm.slots n) (hn : As.length = n) (hst : st0 = As.reverse ++ .ref b :: rest) (hW : (rest.map fun v => v.category).sum ≤ 8) (hdg : decode cc pc = .ok (.invokevirtual index, 3)) (hf : cells + rm.cells ≤ R.cells ∧ slots + rm.slots ≤ R.slots)
    (kk : ∀ (q9 : Addr) (ce : Cell) (H1 : Heap) (locs1 : List Loc), va_P D cl (wr ++ wc) H1 → va_D A (wr ++ wc) → va_S A s.heap H1 locs1 → H1[q9]? = some ce → ce.vm = .none → s.vm.findClass E = some ce.cls → vx_W p l e R s m args below meth c H1 locs1 (cells + rm.cells) (slots + rm.slots) Q (F0 m pc ls rest) q9) :
    W p l e R s m args below meth c H locs cells slots Q (F0 m pc ls st0) := by
  obtain ⟨hb1, hb2⟩ := g_pre (av := .ref b :: As) hX hp hP hD hK hS hA hXs
  have hr := vx_runV (cells := cells) (slots := slots) (locs := locs) (below := below) (meth := meth) (e := e) (As := As) (rest := rest) (g := F0 m pc ls st0) G (hM H.size) cw ⟨hb1, va_recv hK hP hc hq, hb2⟩ rfl hn hls hst (lv_room hW) hdg hf
  have hF := g_free hp hD hS hA
  have hD2 : va_D (fun _ => True) wc := va_D.weaken (wD_left (wD_perm hD hp)) (fun _ _ _ _ => trivial)
  have hD1 : va_D (va_A wc H.size) wc := hD2.self (sz := H.size)
  intro T hT X9
  rcases hr T hT X9 with ⟨v, st₀, t, T', L, h0, X', hL, e1, e2, hno, st⟩ | ⟨q, st₀, t, T', L, E', ce, h0, X', hL, e1, e2, ⟨rfl, hP1, hz, hk⟩, hce, hcv, hcl, st⟩
  · exact hno.elim
  · rw [h0] at hz hk
    obtain ⟨j1, j2⟩ := g_join hp hP hD (H1 := t.heap) hk hF hP1 hD1
    obtain ⟨t2, a1, b1⟩ := kk q ce T'.heap (locs ++ L) (by rw [e1]; exact j1) j2
      ⟨Nat.le_trans hS.1 (by rw [e1]; exact hz), fun q h1 h2 => by rw [e1, hk q (Nat.lt_of_lt_of_le h1 hS.1) (fun z => h2 (hF q z))]; exact hS.2.1 q h1 h2, fun q hq => by
        rcases List.mem_append.mp hq with h | h
        · exact hS.2.2 q h
        · exact hF _ (hL q h)⟩ (by rw [e1]; exact hce) hcv hcl T' rfl X'
    exact ⟨t2, st.trans a1, b1⟩
end GLW
theorem y_cast {args : Array Value} {s : State} {E : String} {k : ClassId} (h : s.vm.findClass E = some k) : (Cond.castable E E).before args s = true := by
  show (Cond.castable E E).holds args s none s [] = true
  simp [Cond.holds, Cond.value, h, Jvm.Free.SB.assignable_self]
abbrev hh_feed : List (Nat × Nat × Nat × Nat) := [(0, 11, 14, 13), (0, 11, 18, 15)]
theorem kL_feed : Cond.codeWith y_L_feed b_L_feed 6 (some .int) hh_feed ∈ tb := tb_in 267 (by decide +kernel) rfl
abbrev hh_tell : List (Nat × Nat × Nat × Nat) := [(0, 6, 9, 13), (0, 6, 12, 15)]
theorem kL_tell : Cond.codeWith y_L_tell b_L_tell 4 (some .int) hh_tell ∈ tb := tb_in 361 (by decide +kernel) rfl
abbrev hh_begin : List (Nat × Nat × Nat × Nat) := [(0, 5, 8, 13), (0, 5, 11, 15)]
theorem kL_begin : Cond.codeWith y_L_begin b_L_begin 3 (some .int) hh_begin ∈ tb := tb_in 499 (by decide +kernel) rfl
abbrev hh_take : List (Nat × Nat × Nat × Nat) := [(0, 10, 13, 13), (0, 10, 17, 15)]
theorem kL_take : Cond.codeWith y_L_take b_L_take 5 (some .int) hh_take ∈ tb := tb_in 534 (by decide +kernel) rfl
abbrev hh_carry : List (Nat × Nat × Nat × Nat) := [(0, 12, 15, 13), (0, 12, 19, 15)]
theorem kL_carry : Cond.codeWith y_L_carry b_L_carry 6 (some .int) hh_carry ∈ tb := tb_in 617 (by decide +kernel) rfl
abbrev hh_sent : List (Nat × Nat × Nat × Nat) := [(0, 12, 15, 13), (0, 12, 19, 36)]
theorem kL_sent : Cond.codeWith y_L_sent b_L_sent 6 (some .int) hh_sent ∈ tb := tb_in 630 (by decide +kernel) rfl
abbrev hh_secret : List (Nat × Nat × Nat × Nat) := [(0, 14, 17, 13), (0, 14, 21, 36)]
theorem kL_secret : Cond.codeWith y_L_secret b_L_secret 7 (some .int) hh_secret ∈ tb := tb_in 659 (by decide +kernel) rfl
abbrev hh_theirs : List (Nat × Nat × Nat × Nat) := [(0, 10, 13, 13), (0, 10, 17, 36)]
theorem kL_theirs : Cond.codeWith y_L_theirs b_L_theirs 5 (some .int) hh_theirs ∈ tb := tb_in 673 (by decide +kernel) rfl
abbrev hh_look : List (Nat × Nat × Nat × Nat) := [(0, 10, 13, 13), (0, 10, 17, 36)]
theorem kL_look : Cond.codeWith y_L_look b_L_look 5 (some .int) hh_look ∈ tb := tb_in 681 (by decide +kernel) rfl
