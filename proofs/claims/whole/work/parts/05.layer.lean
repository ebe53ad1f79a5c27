/-! OUR LAYER over the kit: contracts of one form (Ct), entry, calls by a permutation of the world, ends; rows over natural numbers. -/
/-- the facts beside the world that a contract may ask (statics, constants): they outlive warmer tables, heaps that changed inside A alone, smaller A -/
def XOk (X : (Nat → Prop) → State → Heap → Prop) : Prop :=
  (∀ (A : Nat → Prop) (u U : State) (H : Heap), u.WarmedH U.vm → X A u H → X A U H) ∧
  (∀ (A : Nat → Prop) (U : State) (H H1 : Heap), X A U H → (∀ a : Nat, a < H.size → ¬ A a → H1[a]? = H[a]?) → X A U H1) ∧
  (∀ (A B : Nat → Prop) (U : State) (H : Heap), X A U H → (∀ q, B q → A q) → X B U H)
def gP (D : va_G) (cl : List vw_C) (tys : List (ClassId × FieldType)) (X : (Nat → Prop) → State → Heap → Prop) (wc : va_W) (sz : Nat) (U : State) : Prop :=
  U.heap.size = sz ∧ va_P D cl wc U.heap ∧ va_K D cl tys U ∧ va_D (fun _ => True) wc ∧ X (va_A wc sz) U U.heap
def gQ (D : va_G) (cl : List vw_C) {S : Type} (post : Option Value → S → Prop) (w1 : S → va_W) (A : Nat → Prop) : Array Value → State → Outcome → State → Prop :=
  fun _ st oc t => (∃ (v : Option Value) (u : S), oc = .returned v ∧ post v u ∧ va_P D cl (w1 u) t.heap ∧ va_D A (w1 u)) ∧ va_F A st t
/-- A CONTRACT: with the arguments av over the cells wc: it returns v, and there is u with 'post v u' and the cells 'w1 u' -/
def Ct (l : Launch) (D : va_G) (cl : List vw_C) (tys : List (ClassId × FieldType)) (X : (Nat → Prop) → State → Heap → Prop) (y : MethodName) (ws : List Cond) (rm : Room) (av : List Value) (wc : va_W) {S : Type} (post : Option Value → S → Prop) (w1 : S → va_W) : Prop :=
  ∀ sz : Nat, Met l y ws rm (va_Pc av (gP D cl tys X wc sz)) (gQ D cl post w1 (va_A wc sz)) rm.cells rm.slots (va_A wc sz)
theorem gP_blind {D : va_G} {cl : List vw_C} {tys : List (ClassId × FieldType)} {X : (Nat → Prop) → State → Heap → Prop} (hX : XOk X) {wc : va_W} {sz : Nat} {av : List Value} : FrameBlind (va_Pc av (gP D cl tys X wc sz)) := by
  intro a U g mk q
  obtain ⟨q0, q1, qP, qK, qD, qX⟩ := q
  exact ⟨q0, q1, qP, va_K.moved (u := U) (U := U.calling g mk a) (Vm.Alike.refl U.vm) qK, qD, hX.1 _ U (U.calling g mk a) _ (State.WarmedH.refl U) qX⟩
-- permutations of a world
theorem wP_mem {D : va_G} {cl : List vw_C} {ws : va_W} {H : Heap} : va_P D cl ws H ↔ ∀ q ∈ ws, va_at D cl q H := by
  constructor
  · intro h q hq
    obtain ⟨k, hk⟩ := List.mem_iff_getElem?.mp hq
    exact h k q hk
  · intro h k q hk
    exact h q (List.mem_of_getElem? hk)
theorem wD_mem {A : Nat → Prop} {ws : va_W} : va_D A ws ↔ (ws.map Prod.fst).Nodup ∧ ∀ q ∈ ws, A q.1 := by
  constructor
  · intro h
    refine ⟨?_, fun q hq => ?_⟩
    · refine List.pairwise_iff_getElem.mpr (fun i j hi hj hij e => ?_)
      have hil : i < ws.length := by simpa using hi
      have hjl : j < ws.length := by simpa using hj
      have h3 := h.1 i j ws[i] ws[j] (List.getElem?_eq_getElem hil) (List.getElem?_eq_getElem hjl) (by simpa using e)
      omega
    · obtain ⟨k, hk⟩ := List.mem_iff_getElem?.mp hq
      exact h.2 k q hk
  · intro h
    refine ⟨fun i j p q hi hj e => ?_, fun k q hk => h.2 q (List.mem_of_getElem? hk)⟩
    have hn := List.pairwise_iff_getElem.mp h.1
    obtain ⟨hil, hie⟩ := List.getElem?_eq_some_iff.mp hi
    obtain ⟨hjl, hje⟩ := List.getElem?_eq_some_iff.mp hj
    rcases Nat.lt_trichotomy i j with g | g | g
    · exact (hn i j (by simpa using hil) (by simpa using hjl) g (by simp [hie, hje, e])).elim
    · exact g
    · exact (hn j i (by simpa using hjl) (by simpa using hil) g (by simp [hie, hje, e])).elim
theorem wP_perm {D : va_G} {cl : List vw_C} {ws ws' : va_W} {H : Heap} (h : va_P D cl ws H) (hp : ws.Perm ws') : va_P D cl ws' H :=
  wP_mem.mpr fun q hq => wP_mem.mp h q (hp.mem_iff.mpr hq)
theorem wD_perm {A : Nat → Prop} {ws ws' : va_W} (h : va_D A ws) (hp : ws.Perm ws') : va_D A ws' := by
  obtain ⟨h1, h2⟩ := wD_mem.mp h
  exact wD_mem.mpr ⟨(hp.map Prod.fst).nodup_iff.mp h1, fun q hq => h2 q (hp.mem_iff.mpr hq)⟩
theorem wP_left {D : va_G} {cl : List vw_C} {w1 w2 : va_W} {H : Heap} (h : va_P D cl (w1 ++ w2) H) : va_P D cl w1 H := wP_mem.mpr fun q hq => wP_mem.mp h q (List.mem_append_left _ hq)
theorem wP_right {D : va_G} {cl : List vw_C} {w1 w2 : va_W} {H : Heap} (h : va_P D cl (w1 ++ w2) H) : va_P D cl w2 H := wP_mem.mpr fun q hq => wP_mem.mp h q (List.mem_append_right _ hq)
theorem wD_left {A : Nat → Prop} {w1 w2 : va_W} (h : va_D A (w1 ++ w2)) : va_D A w1 := by
  obtain ⟨h1, h2⟩ := wD_mem.mp h
  rw [List.map_append] at h1
  exact wD_mem.mpr ⟨(List.nodup_append.mp h1).1, fun q hq => h2 q (List.mem_append_left _ hq)⟩
theorem wD_right {A : Nat → Prop} {w1 w2 : va_W} (h : va_D A (w1 ++ w2)) : va_D A w2 := by
  obtain ⟨h1, h2⟩ := wD_mem.mp h
  rw [List.map_append] at h1
  exact wD_mem.mpr ⟨(List.nodup_append.mp h1).2.1, fun q hq => h2 q (List.mem_append_right _ hq)⟩
/-- a permutation by places: is names every place of ws once -/
def g_isPerm (is : List Nat) (n : Nat) : Bool := (List.range n).isPerm is
theorem g_perm_range {is : List Nat} {n : Nat} (h : g_isPerm is n = true) : (List.range n).Perm is := List.isPerm_iff.mp h
theorem g_perm {α : Type} {ws ws' : List α} (n : Nat) (is : List Nat) (hn : ws.length = n) (h : is.map (fun i => ws[i]?) = ws'.map some) (hp : g_isPerm is n = true) : ws.Perm ws' := by
  subst hn
  have h1 : ((List.range ws.length).map (fun i => ws[i]?)).Perm (is.map (fun i => ws[i]?)) := (g_perm_range hp).map _
  rw [h] at h1
  have h2 : (List.range ws.length).map (fun i => ws[i]?) = ws.map some := by
    apply List.ext_getElem?
    intro i
    by_cases hi : i < ws.length
    · simp [hi]
    · simp [hi]
  rw [h2] at h1
  have h3 := h1.filterMap id
  simpa using h3
theorem wA_mem {ws : va_W} {sz q : Nat} : va_A ws sz q ↔ (∃ e : va_E, (q, e) ∈ ws) ∨ sz ≤ q := by
  constructor
  · rintro (⟨k, e, h⟩ | h)
    · exact Or.inl ⟨e, List.mem_of_getElem? h⟩
    · exact Or.inr h
  · rintro (⟨e, h⟩ | h)
    · obtain ⟨k, hk⟩ := List.mem_iff_getElem?.mp h
      exact Or.inl ⟨k, e, hk⟩
    · exact Or.inr h
/-- the frame rule with a permutation: what came back of wc stands beside the rest -/
theorem g_free {A : Nat → Prop} {wo wc wr : va_W} {H0 H : Heap} {locs : List Loc} (hp : wo.Perm (wc ++ wr)) (hD : va_D A wo) (hS : va_S A H0 H locs) (hA : ∀ q, H0.size ≤ q → A q) : ∀ q, va_A wc H.size q → A q := by
  intro q hq
  rcases wA_mem.mp hq with ⟨e, h⟩ | h
  · exact (wD_mem.mp hD).2 (q, e) (hp.mem_iff.mpr (List.mem_append_left _ h))
  · exact hA q (Nat.le_trans hS.1 h)
theorem g_join {A : Nat → Prop} {D : va_G} {cl : List vw_C} {wo wc wr w1 : va_W} {H H1 : Heap} (hp : wo.Perm (wc ++ wr)) (hP : va_P D cl wo H) (hD : va_D A wo)
    (hk : ∀ q : Nat, q < H.size → ¬ va_A wc H.size q → H1[q]? = H[q]?) (hF : ∀ q, va_A wc H.size q → A q) (hP1 : va_P D cl w1 H1) (hD1 : va_D (va_A wc H.size) w1) : va_P D cl (wr ++ w1) H1 ∧ va_D A (wr ++ w1) := by
  have hPs := wP_perm hP hp
  have hDs := wD_perm hD hp
  have hPr := wP_right hPs
  have hout : ∀ q ∈ wr, ¬ va_A wc H.size q.1 := by
    intro q hq hin
    rcases wA_mem.mp hin with ⟨e, h⟩ | h
    · have hn := (wD_mem.mp hDs).1
      rw [List.map_append] at hn
      exact (List.nodup_append.mp hn).2.2 q.1 (List.mem_map.mpr ⟨_, h, rfl⟩) q.1 (List.mem_map.mpr ⟨_, hq, rfl⟩) rfl
    · exact absurd (va_at.lt (wP_mem.mp hPr q hq)) (Nat.not_lt.mpr h)
  refine ⟨va_P.app (wP_mem.mpr fun q hq => ?_) hP1, ?_⟩
  · exact va_at.kept (wP_mem.mp hPr q hq) (hk q.1 (va_at.lt (wP_mem.mp hPr q hq)) (hout q hq))
  · obtain ⟨n1, a1⟩ := wD_mem.mp (wD_right hDs)
    obtain ⟨n2, a2⟩ := wD_mem.mp hD1
    refine wD_mem.mpr ⟨?_, fun q hq => ?_⟩
    · rw [List.map_append, List.nodup_append]
      refine ⟨n1, n2, fun a ha b hb e => ?_⟩
      obtain ⟨x, hx, rfl⟩ := List.mem_map.mp ha
      obtain ⟨y, hy, rfl⟩ := List.mem_map.mp hb
      exact hout x hx (by rw [e]; exact a2 y hy)
    · rcases List.mem_append.mp hq with h | h
      · exact a1 q h
      · exact hF q.1 (a2 q h)
section GL
variable {p : Program} {l : Launch} {e : Env} {R : Room} {s : State} {m : MethodId} {args : Array Value} {below : List Frame} {meth : Method} {c : Code} {H : Heap} {locs : List Loc} {cells slots : Nat} {Q : State → Prop}
variable {cc : ByteArray} {pc nL index : Nat} {ls : Array Slot} {rest st0 : List Value} {D : va_G} {cl : List vw_C} {tys : List (ClassId × FieldType)} {X : (Nat → Prop) → State → Heap → Prop} {A : Nat → Prop} {wo wc wr : va_W} {own C : String}
/-- behind every call: the run of a contract, and what goes on -/
theorem g_after {S : Type} {post : Option Value → S → Prop} {w1 : S → va_W} {a : Array Value} {mc ms : Nat} (hp : wo.Perm (wc ++ wr)) (hP : va_P D cl wo H) (hD : va_D A wo) (hS : va_S A s.heap H locs) (hA : ∀ q, s.heap.size ≤ q → A q)
    (hr : va_Run p l e R s m args below meth c H locs cells slots mc ms (F0 m pc ls st0) rest (gQ D cl post w1 (va_A wc H.size) a) (va_A wc H.size))
    (kk : ∀ (v : Option Value) (u : S) (H1 : Heap) (locs1 : List Loc), post v u → va_P D cl (wr ++ w1 u) H1 → va_D A (wr ++ w1 u) → va_S A s.heap H1 locs1 → W p l e R s m args below meth c H1 locs1 (cells + mc) (slots + ms) Q (F0 m (pc + 3) ls (v.toList ++ rest))) :
    W p l e R s m args below meth c H locs cells slots Q (F0 m pc ls st0) := by
  have hF := g_free hp hD hS hA
  intro T hT X
  obtain ⟨v, st₀, t, T', L, h0, X', hL, e1, e2, ⟨⟨v', u, hv, hpo, hP1, hD1⟩, hz, hk⟩, st⟩ := hr T hT X
  cases hv
  rw [h0] at hz hk
  obtain ⟨j1, j2⟩ := g_join hp hP hD (H1 := t.heap) hk hF hP1 hD1
  obtain ⟨t2, a1, b1⟩ := kk v u T'.heap (locs ++ L) hpo (by rw [e1]; exact j1) j2
    ⟨Nat.le_trans hS.1 (by rw [e1]; exact hz), fun q h1 h2 => by rw [e1, hk q (Nat.lt_of_lt_of_le h1 hS.1) (fun z => h2 (hF q z))]; exact hS.2.1 q h1 h2, fun q hq => by
      rcases List.mem_append.mp hq with h | h
      · exact hS.2.2 q h
      · exact hF _ (hL q h)⟩ T' rfl X'
  exact ⟨t2, st t2 a1, b1⟩
/-- the start of a contract at a call -/
theorem g_pre {av : List Value} (hX : XOk X) (hp : wo.Perm (wc ++ wr)) (hP : va_P D cl wo H) (hD : va_D A wo) (hK : va_K D cl tys s) (hS : va_S A s.heap H locs) (hA : ∀ q, s.heap.size ≤ q → A q) (hXs : X A s s.heap) :
    FrameBlind (va_Pc av (gP D cl tys X wc H.size)) ∧ ∀ U : State, U.heap = H → s.WarmedH U.vm → va_Pc av (gP D cl tys X wc H.size) av.toArray U := by
  refine ⟨gP_blind hX, fun U hU hW => ⟨rfl, by rw [hU], by rw [hU]; exact wP_left (wP_perm hP hp), va_K.moved hW.alike hK, va_D.weaken (wD_left (wD_perm hD hp)) (fun _ _ _ _ => trivial), ?_⟩⟩
  rw [hU]
  exact hX.1 _ s U H hW (hX.2.2 _ _ s H (hX.2.1 _ s _ H hXs hS.2.1) (g_free hp hD hS hA))
theorem g_callV {S : Type} {post : Option Value → S → Prop} {w1 : S → va_W} {y : MethodName} {bytes : ByteArray} {maxL n q0 ci : Nat} {ret : Option FieldType} {ws Ts : List Cond} {rm : Room} {b : Nat} {As fs : List Value} {qc : vw_C}
    (hX : XOk X) (G : CallFix p m c cc nL s args Ts own) (hK : va_K D cl tys s) (hA : ∀ q, s.heap.size ≤ q → A q) (hXs : X A s s.heap) (hls : ls.size = nL)
    (hP : va_P D cl wo H) (hD : va_D A wo) (hS : va_S A s.heap H locs)
    (hM : Ct l D cl tys X y ws rm (.ref b :: As) wc post w1) (hp : wo.Perm (wc ++ wr)) (hq : wc[q0]? = some (b, .inr (ci, fs))) (hc : cl[ci]? = some qc)
    (cw : CallW R s args own qc.1 index y bytes maxL ret ws rm rm.cells rm.slots n) (hn : As.length = n) (hst : st0 = As.reverse ++ .ref b :: rest) (hW : (rest.map fun v => v.category).sum ≤ 8) (hdg : decode cc pc = .ok (.invokevirtual index, 3)) (hf : cells + rm.cells ≤ R.cells ∧ slots + rm.slots ≤ R.slots)
    (kk : ∀ (v : Option Value) (u : S) (H1 : Heap) (locs1 : List Loc), post v u → va_P D cl (wr ++ w1 u) H1 → va_D A (wr ++ w1 u) → va_S A s.heap H1 locs1 → W p l e R s m args below meth c H1 locs1 (cells + rm.cells) (slots + rm.slots) Q (F0 m (pc + 3) ls (v.toList ++ rest))) :
    W p l e R s m args below meth c H locs cells slots Q (F0 m pc ls st0) := by
  obtain ⟨hb1, hb2⟩ := g_pre (av := .ref b :: As) hX hp hP hD hK hS hA hXs
  exact g_after hp hP hD hS hA (va_runV (As := As) (rest := rest) G (hM H.size) cw ⟨hb1, va_recv hK (wP_left (wP_perm hP hp)) hc hq, hb2⟩ rfl hn hls hst (lv_room hW) hdg hf) kk
theorem g_callS {S : Type} {post : Option Value → S → Prop} {w1 : S → va_W} {y : MethodName} {bytes : ByteArray} {maxL n : Nat} {ret : Option FieldType} {ws Ts : List Cond} {rm : Room} {As : List Value}
    (hX : XOk X) (G : CallFix p m c cc nL s args Ts own) (hK : va_K D cl tys s) (hA : ∀ q, s.heap.size ≤ q → A q) (hXs : X A s s.heap) (hls : ls.size = nL)
    (hP : va_P D cl wo H) (hD : va_D A wo) (hS : va_S A s.heap H locs)
    (hM : Ct l D cl tys X y ws rm As wc post w1) (hp : wo.Perm (wc ++ wr))
    (cw : CallB R s args own index y bytes maxL ret ws rm rm.cells rm.slots n ∧ (Cond.static y).before args s = true) (hn : As.length = n) (hst : st0 = As.reverse ++ rest) (hW : (rest.map fun v => v.category).sum ≤ 8) (hdg : decode cc pc = .ok (.invokestatic index, 3)) (hf : cells + rm.cells ≤ R.cells ∧ slots + rm.slots ≤ R.slots)
    (kk : ∀ (v : Option Value) (u : S) (H1 : Heap) (locs1 : List Loc), post v u → va_P D cl (wr ++ w1 u) H1 → va_D A (wr ++ w1 u) → va_S A s.heap H1 locs1 → W p l e R s m args below meth c H1 locs1 (cells + rm.cells) (slots + rm.slots) Q (F0 m (pc + 3) ls (v.toList ++ rest))) :
    W p l e R s m args below meth c H locs cells slots Q (F0 m pc ls st0) :=
  g_after hp hP hD hS hA (va_runS (As := As) (rest := rest) G (hM H.size) cw (g_pre hX hp hP hD hK hS hA hXs) rfl hn hls hst (lv_room hW) hdg hf) kk
theorem g_callI {S : Type} {post : Option Value → S → Prop} {w1 : S → va_W} {y : MethodName} {bytes : ByteArray} {maxL n : Nat} {ws Ts : List Cond} {rm : Room} {b : Nat} {As : List Value}
    (hX : XOk X) (G : CallFix p m c cc nL s args Ts own) (hK : va_K D cl tys s) (hA : ∀ q, s.heap.size ≤ q → A q) (hXs : X A s s.heap) (hls : ls.size = nL)
    (hP : va_P D cl wo H) (hD : va_D A wo) (hS : va_S A s.heap H locs)
    (hM : Ct l D cl tys X y ws rm (.ref b :: As) wc post w1) (hp : wo.Perm (wc ++ wr))
    (cw : CallB R s args own index y bytes maxL none ws rm rm.cells rm.slots n ∧ y.name = "<init>" ∧ (Cond.instanceMethod y).before args s = true) (hn : As.length = n) (hst : st0 = As.reverse ++ .ref b :: rest) (hW : (rest.map fun v => v.category).sum ≤ 8) (hdg : decode cc pc = .ok (.invokespecial index, 3)) (hf : cells + rm.cells ≤ R.cells ∧ slots + rm.slots ≤ R.slots)
    (kk : ∀ (v : Option Value) (u : S) (H1 : Heap) (locs1 : List Loc), post v u → va_P D cl (wr ++ w1 u) H1 → va_D A (wr ++ w1 u) → va_S A s.heap H1 locs1 → W p l e R s m args below meth c H1 locs1 (cells + rm.cells) (slots + rm.slots) Q (F0 m (pc + 3) ls (v.toList ++ rest))) :
    W p l e R s m args below meth c H locs cells slots Q (F0 m pc ls st0) :=
  g_after hp hP hD hS hA (va_runI (As := As) (rest := rest) G (hM H.size) cw (g_pre (av := .ref b :: As) hX hp hP hD hK hS hA hXs) rfl hn hls hst (lv_room hW) hdg hf) kk
end GL
/-- a contract out of the walk of its body -/
theorem Ct_of {l : Launch} {D : va_G} {cl : List vw_C} {tys : List (ClassId × FieldType)} {X : (Nat → Prop) → State → Heap → Prop} {y : MethodName} {ws ws' : List Cond} {rm : Room} {av : List Value} {wc : va_W} {S : Type} {post : Option Value → S → Prop} {w1 : S → va_W} {cc : ByteArray} {maxL : Nat} {ret : Option FieldType}
    (hy : plainName y.cls = true) (hw : ws = Cond.code y cc maxL ret :: ws') (hlen : (lg_sl av).length ≤ maxL)
    (body : ∀ (p : Program) (e : Env) (s : State) (m : MethodId) (below : List Frame) (meth : Method) (c : Code) (A : Nat → Prop) (ls : Array Slot), p.tables.exec = Jvm.exec → c.code = cc → meth.sig.returnType = ret → c.maxLocals = maxL → s.vm.findClass y.cls = some m.cls → (∀ w ∈ ws, w.before av.toArray s = true) → meth.locks = false → meth.name = y.name →
      (∀ q, s.heap.size ≤ q → A q) → va_P D cl wc s.heap → va_K D cl tys s → va_D A wc → X A s s.heap → va_S A s.heap s.heap [] → lv_has ls maxL (lv_args 0 av) →
      W p l e rm s m av.toArray below meth c s.heap [] 0 0 (MQ below (gQ D cl post w1 A) av.toArray s rm.cells rm.slots A) (F0 m 0 ls [])) :
    Ct l D cl tys X y ws rm av wc post w1 := by
  intro sz
  refine Met.ofW (cc := cc) (maxL := maxL) (ret := ret) hy hw ?_
  intro p e s m args below meth c s₁ B hml hv
  obtain ⟨rfl, hsz, hP, hK, hD0, hXs⟩ := hv
  subst hsz
  rw [lg_entry_eq]
  exact body p e s m below meth c (va_A wc s.heap.size) _ B.exec B.bytes B.returns hml (findClass_of_methodNamed B.named) (atoms_spec (ws := ws) B.pre) B.notSynchronized (name_of_methodNamed B.named B.method).1
    (fun q h => Or.inr h) hP hK (hD0.self (sz := s.heap.size)) hXs va_S.rf (lv_entry av hlen)
section GN
variable {p : Program} {l : Launch} {e : Env} {R : Room} {s : State} {m : MethodId} {args : Array Value} {below : List Frame} {meth : Method} {c : Code} {H : Heap} {locs : List Loc} {cells slots : Nat} {Q : State → Prop}
variable {cc : ByteArray} {pc nL : Nat} {ls : Array Slot} {rest : List Value}
theorem ln_iadd (hx : p.tables.exec = Jvm.exec) (hb : c.code = cc) {a b : Nat} (hdg : decode cc pc = .ok (.iadd, 1)) (k : W p l e R s m args below meth c H locs cells slots Q (F0 m (pc + 1) ls (.int (nI (a + b)) :: rest))) : W p l e R s m args below meth c H locs cells slots Q (F0 m pc ls (.int (nI b) :: .int (nI a) :: rest)) := lv_iadd hx hb hdg (by rw [nI_add]; exact k)
theorem ln_isub (hx : p.tables.exec = Jvm.exec) (hb : c.code = cc) {a b : Nat} (hdg : decode cc pc = .ok (.isub, 1)) (h : b ≤ a) (k : W p l e R s m args below meth c H locs cells slots Q (F0 m (pc + 1) ls (.int (nI (a - b)) :: rest))) : W p l e R s m args below meth c H locs cells slots Q (F0 m pc ls (.int (nI b) :: .int (nI a) :: rest)) := lv_isub hx hb hdg (by rw [pk_sub h]; exact k)
theorem ln_imul (hx : p.tables.exec = Jvm.exec) (hb : c.code = cc) {a b : Nat} (hdg : decode cc pc = .ok (.imul, 1)) (k : W p l e R s m args below meth c H locs cells slots Q (F0 m (pc + 1) ls (.int (nI (a * b)) :: rest))) : W p l e R s m args below meth c H locs cells slots Q (F0 m pc ls (.int (nI b) :: .int (nI a) :: rest)) := lv_imul hx hb hdg (by rw [pk_mul]; exact k)
theorem ln_iinc (hx : p.tables.exec = Jvm.exec) (hb : c.code = cc) {i k d a : Nat} {n : Int} {lv lv' : List (Nat × Value)} (hdg : decode cc pc = .ok (.iinc i n, 3)) (h : lv_has ls nL lv) (hk : lv[k]? = some (i, .int (nI a))) (hd : n = (d : Int)) (hn : i < nL) (hl : (i, Value.int (nI (a + d))) :: lv.filter (fun q => !(q.1 == i) && !(q.1 + 1 == i && q.2.category == 2)) = lv')
    (kk : ∀ ls' : Array Slot, lv_has ls' nL lv' → W p l e R s m args below meth c H locs cells slots Q (F0 m (pc + 3) ls' rest)) : W p l e R s m args below meth c H locs cells slots Q (F0 m pc ls rest) :=
  lv_iinc (v := nI (a + d)) hx hb hdg h hk (by rw [hd, ← nI_add]; rfl) hn hl kk

theorem ln_icmp_lt (hx : p.tables.exec = Jvm.exec) (hb : c.code = cc) {a b : Nat} {off : Int} {tgt : Nat} (hdg : decode cc pc = .ok (.if_icmp .lt off, 3)) (ht : (pc : Int) + off = (tgt : Int)) (ha2 : a < 2 ^ 31) (hb2 : b < 2 ^ 31)
    (kt : a < b → W p l e R s m args below meth c H locs cells slots Q (F0 m tgt ls rest)) (kf : b ≤ a → W p l e R s m args below meth c H locs cells slots Q (F0 m (pc + 3) ls rest)) : W p l e R s m args below meth c H locs cells slots Q (F0 m pc ls (.int (nI b) :: .int (nI a) :: rest)) :=
  lv_icmp_lt hx hb hdg ht (fun q => kt ((nI_ltI ha2 hb2).mp q)) (fun q => kf (Nat.not_lt.mp (fun z => q ((nI_ltI ha2 hb2).mpr z))))
theorem ln_icmp_lt_t (hx : p.tables.exec = Jvm.exec) (hb : c.code = cc) {a b : Nat} {off : Int} {tgt : Nat} (hdg : decode cc pc = .ok (.if_icmp .lt off, 3)) (ht : (pc : Int) + off = (tgt : Int)) (ha2 : a < 2 ^ 31) (hb2 : b < 2 ^ 31) (h : a < b)
    (kt : W p l e R s m args below meth c H locs cells slots Q (F0 m tgt ls rest)) : W p l e R s m args below meth c H locs cells slots Q (F0 m pc ls (.int (nI b) :: .int (nI a) :: rest)) :=
  ln_icmp_lt hx hb hdg ht ha2 hb2 (fun _ => kt) (fun q => absurd h (by omega))
theorem ln_icmp_lt_f (hx : p.tables.exec = Jvm.exec) (hb : c.code = cc) {a b : Nat} {off : Int} {tgt : Nat} (hdg : decode cc pc = .ok (.if_icmp .lt off, 3)) (ht : (pc : Int) + off = (tgt : Int)) (ha2 : a < 2 ^ 31) (hb2 : b < 2 ^ 31) (h : b ≤ a)
    (kf : W p l e R s m args below meth c H locs cells slots Q (F0 m (pc + 3) ls rest)) : W p l e R s m args below meth c H locs cells slots Q (F0 m pc ls (.int (nI b) :: .int (nI a) :: rest)) :=
  ln_icmp_lt hx hb hdg ht ha2 hb2 (fun q => absurd h (by omega)) (fun _ => kf)

theorem ln_icmp_ge (hx : p.tables.exec = Jvm.exec) (hb : c.code = cc) {a b : Nat} {off : Int} {tgt : Nat} (hdg : decode cc pc = .ok (.if_icmp .ge off, 3)) (ht : (pc : Int) + off = (tgt : Int)) (ha2 : a < 2 ^ 31) (hb2 : b < 2 ^ 31)
    (kt : b ≤ a → W p l e R s m args below meth c H locs cells slots Q (F0 m tgt ls rest)) (kf : a < b → W p l e R s m args below meth c H locs cells slots Q (F0 m (pc + 3) ls rest)) : W p l e R s m args below meth c H locs cells slots Q (F0 m pc ls (.int (nI b) :: .int (nI a) :: rest)) :=
  lv_icmp_ge hx hb hdg ht (fun q => kt ((nI_leI hb2 ha2).mp q)) (fun q => kf (Nat.not_le.mp (fun z => q ((nI_leI hb2 ha2).mpr z))))
theorem ln_icmp_ge_t (hx : p.tables.exec = Jvm.exec) (hb : c.code = cc) {a b : Nat} {off : Int} {tgt : Nat} (hdg : decode cc pc = .ok (.if_icmp .ge off, 3)) (ht : (pc : Int) + off = (tgt : Int)) (ha2 : a < 2 ^ 31) (hb2 : b < 2 ^ 31) (h : b ≤ a)
    (kt : W p l e R s m args below meth c H locs cells slots Q (F0 m tgt ls rest)) : W p l e R s m args below meth c H locs cells slots Q (F0 m pc ls (.int (nI b) :: .int (nI a) :: rest)) :=
  ln_icmp_ge hx hb hdg ht ha2 hb2 (fun _ => kt) (fun q => absurd h (by omega))
theorem ln_icmp_ge_f (hx : p.tables.exec = Jvm.exec) (hb : c.code = cc) {a b : Nat} {off : Int} {tgt : Nat} (hdg : decode cc pc = .ok (.if_icmp .ge off, 3)) (ht : (pc : Int) + off = (tgt : Int)) (ha2 : a < 2 ^ 31) (hb2 : b < 2 ^ 31) (h : a < b)
    (kf : W p l e R s m args below meth c H locs cells slots Q (F0 m (pc + 3) ls rest)) : W p l e R s m args below meth c H locs cells slots Q (F0 m pc ls (.int (nI b) :: .int (nI a) :: rest)) :=
  ln_icmp_ge hx hb hdg ht ha2 hb2 (fun q => absurd h (by omega)) (fun _ => kf)

theorem ln_icmp_gt (hx : p.tables.exec = Jvm.exec) (hb : c.code = cc) {a b : Nat} {off : Int} {tgt : Nat} (hdg : decode cc pc = .ok (.if_icmp .gt off, 3)) (ht : (pc : Int) + off = (tgt : Int)) (ha2 : a < 2 ^ 31) (hb2 : b < 2 ^ 31)
    (kt : b < a → W p l e R s m args below meth c H locs cells slots Q (F0 m tgt ls rest)) (kf : a ≤ b → W p l e R s m args below meth c H locs cells slots Q (F0 m (pc + 3) ls rest)) : W p l e R s m args below meth c H locs cells slots Q (F0 m pc ls (.int (nI b) :: .int (nI a) :: rest)) :=
  lv_icmp_gt hx hb hdg ht (fun q => kt ((nI_ltI hb2 ha2).mp q)) (fun q => kf (Nat.not_lt.mp (fun z => q ((nI_ltI hb2 ha2).mpr z))))
theorem ln_icmp_gt_t (hx : p.tables.exec = Jvm.exec) (hb : c.code = cc) {a b : Nat} {off : Int} {tgt : Nat} (hdg : decode cc pc = .ok (.if_icmp .gt off, 3)) (ht : (pc : Int) + off = (tgt : Int)) (ha2 : a < 2 ^ 31) (hb2 : b < 2 ^ 31) (h : b < a)
    (kt : W p l e R s m args below meth c H locs cells slots Q (F0 m tgt ls rest)) : W p l e R s m args below meth c H locs cells slots Q (F0 m pc ls (.int (nI b) :: .int (nI a) :: rest)) :=
  ln_icmp_gt hx hb hdg ht ha2 hb2 (fun _ => kt) (fun q => absurd h (by omega))
theorem ln_icmp_gt_f (hx : p.tables.exec = Jvm.exec) (hb : c.code = cc) {a b : Nat} {off : Int} {tgt : Nat} (hdg : decode cc pc = .ok (.if_icmp .gt off, 3)) (ht : (pc : Int) + off = (tgt : Int)) (ha2 : a < 2 ^ 31) (hb2 : b < 2 ^ 31) (h : a ≤ b)
    (kf : W p l e R s m args below meth c H locs cells slots Q (F0 m (pc + 3) ls rest)) : W p l e R s m args below meth c H locs cells slots Q (F0 m pc ls (.int (nI b) :: .int (nI a) :: rest)) :=
  ln_icmp_gt hx hb hdg ht ha2 hb2 (fun q => absurd h (by omega)) (fun _ => kf)

theorem ln_icmp_le (hx : p.tables.exec = Jvm.exec) (hb : c.code = cc) {a b : Nat} {off : Int} {tgt : Nat} (hdg : decode cc pc = .ok (.if_icmp .le off, 3)) (ht : (pc : Int) + off = (tgt : Int)) (ha2 : a < 2 ^ 31) (hb2 : b < 2 ^ 31)
    (kt : a ≤ b → W p l e R s m args below meth c H locs cells slots Q (F0 m tgt ls rest)) (kf : b < a → W p l e R s m args below meth c H locs cells slots Q (F0 m (pc + 3) ls rest)) : W p l e R s m args below meth c H locs cells slots Q (F0 m pc ls (.int (nI b) :: .int (nI a) :: rest)) :=
  lv_icmp_le hx hb hdg ht (fun q => kt ((nI_leI ha2 hb2).mp q)) (fun q => kf (Nat.not_le.mp (fun z => q ((nI_leI ha2 hb2).mpr z))))
theorem ln_icmp_le_t (hx : p.tables.exec = Jvm.exec) (hb : c.code = cc) {a b : Nat} {off : Int} {tgt : Nat} (hdg : decode cc pc = .ok (.if_icmp .le off, 3)) (ht : (pc : Int) + off = (tgt : Int)) (ha2 : a < 2 ^ 31) (hb2 : b < 2 ^ 31) (h : a ≤ b)
    (kt : W p l e R s m args below meth c H locs cells slots Q (F0 m tgt ls rest)) : W p l e R s m args below meth c H locs cells slots Q (F0 m pc ls (.int (nI b) :: .int (nI a) :: rest)) :=
  ln_icmp_le hx hb hdg ht ha2 hb2 (fun _ => kt) (fun q => absurd h (by omega))
theorem ln_icmp_le_f (hx : p.tables.exec = Jvm.exec) (hb : c.code = cc) {a b : Nat} {off : Int} {tgt : Nat} (hdg : decode cc pc = .ok (.if_icmp .le off, 3)) (ht : (pc : Int) + off = (tgt : Int)) (ha2 : a < 2 ^ 31) (hb2 : b < 2 ^ 31) (h : b < a)
    (kf : W p l e R s m args below meth c H locs cells slots Q (F0 m (pc + 3) ls rest)) : W p l e R s m args below meth c H locs cells slots Q (F0 m pc ls (.int (nI b) :: .int (nI a) :: rest)) :=
  ln_icmp_le hx hb hdg ht ha2 hb2 (fun q => absurd h (by omega)) (fun _ => kf)

theorem ln_icmp_eq (hx : p.tables.exec = Jvm.exec) (hb : c.code = cc) {a b : Nat} {off : Int} {tgt : Nat} (hdg : decode cc pc = .ok (.if_icmp .eq off, 3)) (ht : (pc : Int) + off = (tgt : Int)) (ha2 : a < 2 ^ 31) (hb2 : b < 2 ^ 31)
    (kt : a = b → W p l e R s m args below meth c H locs cells slots Q (F0 m tgt ls rest)) (kf : a ≠ b → W p l e R s m args below meth c H locs cells slots Q (F0 m (pc + 3) ls rest)) : W p l e R s m args below meth c H locs cells slots Q (F0 m pc ls (.int (nI b) :: .int (nI a) :: rest)) :=
  lv_icmp_eq hx hb hdg ht (fun q => kt ((nI_eq ha2 hb2).mp q)) (fun q => kf (fun z => q ((nI_eq ha2 hb2).mpr z)))
theorem ln_icmp_eq_t (hx : p.tables.exec = Jvm.exec) (hb : c.code = cc) {a b : Nat} {off : Int} {tgt : Nat} (hdg : decode cc pc = .ok (.if_icmp .eq off, 3)) (ht : (pc : Int) + off = (tgt : Int)) (ha2 : a < 2 ^ 31) (hb2 : b < 2 ^ 31) (h : a = b)
    (kt : W p l e R s m args below meth c H locs cells slots Q (F0 m tgt ls rest)) : W p l e R s m args below meth c H locs cells slots Q (F0 m pc ls (.int (nI b) :: .int (nI a) :: rest)) :=
  ln_icmp_eq hx hb hdg ht ha2 hb2 (fun _ => kt) (fun q => absurd h (by omega))
theorem ln_icmp_eq_f (hx : p.tables.exec = Jvm.exec) (hb : c.code = cc) {a b : Nat} {off : Int} {tgt : Nat} (hdg : decode cc pc = .ok (.if_icmp .eq off, 3)) (ht : (pc : Int) + off = (tgt : Int)) (ha2 : a < 2 ^ 31) (hb2 : b < 2 ^ 31) (h : a ≠ b)
    (kf : W p l e R s m args below meth c H locs cells slots Q (F0 m (pc + 3) ls rest)) : W p l e R s m args below meth c H locs cells slots Q (F0 m pc ls (.int (nI b) :: .int (nI a) :: rest)) :=
  ln_icmp_eq hx hb hdg ht ha2 hb2 (fun q => absurd h (by omega)) (fun _ => kf)

theorem ln_icmp_ne (hx : p.tables.exec = Jvm.exec) (hb : c.code = cc) {a b : Nat} {off : Int} {tgt : Nat} (hdg : decode cc pc = .ok (.if_icmp .ne off, 3)) (ht : (pc : Int) + off = (tgt : Int)) (ha2 : a < 2 ^ 31) (hb2 : b < 2 ^ 31)
    (kt : a ≠ b → W p l e R s m args below meth c H locs cells slots Q (F0 m tgt ls rest)) (kf : a = b → W p l e R s m args below meth c H locs cells slots Q (F0 m (pc + 3) ls rest)) : W p l e R s m args below meth c H locs cells slots Q (F0 m pc ls (.int (nI b) :: .int (nI a) :: rest)) :=
  lv_icmp_ne hx hb hdg ht (fun q => kt (fun z => q ((nI_eq ha2 hb2).mpr z))) (fun q => kf ((nI_eq ha2 hb2).mp q))
theorem ln_icmp_ne_t (hx : p.tables.exec = Jvm.exec) (hb : c.code = cc) {a b : Nat} {off : Int} {tgt : Nat} (hdg : decode cc pc = .ok (.if_icmp .ne off, 3)) (ht : (pc : Int) + off = (tgt : Int)) (ha2 : a < 2 ^ 31) (hb2 : b < 2 ^ 31) (h : a ≠ b)
    (kt : W p l e R s m args below meth c H locs cells slots Q (F0 m tgt ls rest)) : W p l e R s m args below meth c H locs cells slots Q (F0 m pc ls (.int (nI b) :: .int (nI a) :: rest)) :=
  ln_icmp_ne hx hb hdg ht ha2 hb2 (fun _ => kt) (fun q => absurd h (by omega))
theorem ln_icmp_ne_f (hx : p.tables.exec = Jvm.exec) (hb : c.code = cc) {a b : Nat} {off : Int} {tgt : Nat} (hdg : decode cc pc = .ok (.if_icmp .ne off, 3)) (ht : (pc : Int) + off = (tgt : Int)) (ha2 : a < 2 ^ 31) (hb2 : b < 2 ^ 31) (h : a = b)
    (kf : W p l e R s m args below meth c H locs cells slots Q (F0 m (pc + 3) ls rest)) : W p l e R s m args below meth c H locs cells slots Q (F0 m pc ls (.int (nI b) :: .int (nI a) :: rest)) :=
  ln_icmp_ne hx hb hdg ht ha2 hb2 (fun q => absurd h (by omega)) (fun _ => kf)

theorem ln_if_eq (hx : p.tables.exec = Jvm.exec) (hb : c.code = cc) {a : Nat} {off : Int} {tgt : Nat} (hdg : decode cc pc = .ok (.ifCond .eq off, 3)) (ht : (pc : Int) + off = (tgt : Int)) (ha2 : a < 2 ^ 31) (kt : a = 0 → W p l e R s m args below meth c H locs cells slots Q (F0 m tgt ls rest)) (kf : 0 < a → W p l e R s m args below meth c H locs cells slots Q (F0 m (pc + 3) ls rest)) : W p l e R s m args below meth c H locs cells slots Q (F0 m pc ls (.int (nI a) :: rest)) :=
  lv_if_eq hx hb hdg ht (fun q => kt ((nI_eq ha2 (by decide)).mp q)) (fun q => kf (Nat.pos_of_ne_zero (fun z => q (by rw [z]; rfl))))

theorem ln_if_eq_t (hx : p.tables.exec = Jvm.exec) (hb : c.code = cc) {a : Nat} {off : Int} {tgt : Nat} (hdg : decode cc pc = .ok (.ifCond .eq off, 3)) (ht : (pc : Int) + off = (tgt : Int)) (ha2 : a < 2 ^ 31) (h : a = 0) (kt : W p l e R s m args below meth c H locs cells slots Q (F0 m tgt ls rest)) : W p l e R s m args below meth c H locs cells slots Q (F0 m pc ls (.int (nI a) :: rest)) :=
  ln_if_eq hx hb hdg ht ha2 (fun _ => kt) (fun q => absurd h (by omega))
theorem ln_if_eq_f (hx : p.tables.exec = Jvm.exec) (hb : c.code = cc) {a : Nat} {off : Int} {tgt : Nat} (hdg : decode cc pc = .ok (.ifCond .eq off, 3)) (ht : (pc : Int) + off = (tgt : Int)) (ha2 : a < 2 ^ 31) (h : 0 < a) (kf : W p l e R s m args below meth c H locs cells slots Q (F0 m (pc + 3) ls rest)) : W p l e R s m args below meth c H locs cells slots Q (F0 m pc ls (.int (nI a) :: rest)) :=
  ln_if_eq hx hb hdg ht ha2 (fun q => absurd h (by omega)) (fun _ => kf)

theorem ln_if_ne (hx : p.tables.exec = Jvm.exec) (hb : c.code = cc) {a : Nat} {off : Int} {tgt : Nat} (hdg : decode cc pc = .ok (.ifCond .ne off, 3)) (ht : (pc : Int) + off = (tgt : Int)) (ha2 : a < 2 ^ 31) (kt : 0 < a → W p l e R s m args below meth c H locs cells slots Q (F0 m tgt ls rest)) (kf : a = 0 → W p l e R s m args below meth c H locs cells slots Q (F0 m (pc + 3) ls rest)) : W p l e R s m args below meth c H locs cells slots Q (F0 m pc ls (.int (nI a) :: rest)) :=
  lv_if_ne hx hb hdg ht (fun q => kt (Nat.pos_of_ne_zero (fun z => q (by rw [z]; rfl)))) (fun q => kf ((nI_eq ha2 (by decide)).mp q))

theorem ln_if_ne_t (hx : p.tables.exec = Jvm.exec) (hb : c.code = cc) {a : Nat} {off : Int} {tgt : Nat} (hdg : decode cc pc = .ok (.ifCond .ne off, 3)) (ht : (pc : Int) + off = (tgt : Int)) (ha2 : a < 2 ^ 31) (h : 0 < a) (kt : W p l e R s m args below meth c H locs cells slots Q (F0 m tgt ls rest)) : W p l e R s m args below meth c H locs cells slots Q (F0 m pc ls (.int (nI a) :: rest)) :=
  ln_if_ne hx hb hdg ht ha2 (fun _ => kt) (fun q => absurd h (by omega))
theorem ln_if_ne_f (hx : p.tables.exec = Jvm.exec) (hb : c.code = cc) {a : Nat} {off : Int} {tgt : Nat} (hdg : decode cc pc = .ok (.ifCond .ne off, 3)) (ht : (pc : Int) + off = (tgt : Int)) (ha2 : a < 2 ^ 31) (h : a = 0) (kf : W p l e R s m args below meth c H locs cells slots Q (F0 m (pc + 3) ls rest)) : W p l e R s m args below meth c H locs cells slots Q (F0 m pc ls (.int (nI a) :: rest)) :=
  ln_if_ne hx hb hdg ht ha2 (fun q => absurd h (by omega)) (fun _ => kf)

theorem ln_if_lt (hx : p.tables.exec = Jvm.exec) (hb : c.code = cc) {a : Nat} {off : Int} {tgt : Nat} (hdg : decode cc pc = .ok (.ifCond .lt off, 3)) (ht : (pc : Int) + off = (tgt : Int)) (ha2 : a < 2 ^ 31) (kf : 0 ≤ a → W p l e R s m args below meth c H locs cells slots Q (F0 m (pc + 3) ls rest)) : W p l e R s m args below meth c H locs cells slots Q (F0 m pc ls (.int (nI a) :: rest)) :=
  lv_if_lt hx hb hdg ht (fun q => absurd q (nI_pos ha2)) (fun _ => kf (Nat.zero_le a))

theorem ln_if_ge (hx : p.tables.exec = Jvm.exec) (hb : c.code = cc) {a : Nat} {off : Int} {tgt : Nat} (hdg : decode cc pc = .ok (.ifCond .ge off, 3)) (ht : (pc : Int) + off = (tgt : Int)) (ha2 : a < 2 ^ 31) (kt : 0 ≤ a → W p l e R s m args below meth c H locs cells slots Q (F0 m tgt ls rest)) : W p l e R s m args below meth c H locs cells slots Q (F0 m pc ls (.int (nI a) :: rest)) :=
  lv_if_ge hx hb hdg ht (fun _ => kt (Nat.zero_le a)) (fun q => absurd (nI_pos' ha2) q)

theorem ln_if_gt (hx : p.tables.exec = Jvm.exec) (hb : c.code = cc) {a : Nat} {off : Int} {tgt : Nat} (hdg : decode cc pc = .ok (.ifCond .gt off, 3)) (ht : (pc : Int) + off = (tgt : Int)) (ha2 : a < 2 ^ 31) (kt : 0 < a → W p l e R s m args below meth c H locs cells slots Q (F0 m tgt ls rest)) (kf : a = 0 → W p l e R s m args below meth c H locs cells slots Q (F0 m (pc + 3) ls rest)) : W p l e R s m args below meth c H locs cells slots Q (F0 m pc ls (.int (nI a) :: rest)) :=
  lv_if_gt hx hb hdg ht (fun q => kt ((nI_ltI (by decide) ha2).mp q)) (fun q => kf (Nat.eq_zero_of_not_pos (fun z => q ((nI_ltI (by decide) ha2).mpr z))))

theorem ln_if_gt_t (hx : p.tables.exec = Jvm.exec) (hb : c.code = cc) {a : Nat} {off : Int} {tgt : Nat} (hdg : decode cc pc = .ok (.ifCond .gt off, 3)) (ht : (pc : Int) + off = (tgt : Int)) (ha2 : a < 2 ^ 31) (h : 0 < a) (kt : W p l e R s m args below meth c H locs cells slots Q (F0 m tgt ls rest)) : W p l e R s m args below meth c H locs cells slots Q (F0 m pc ls (.int (nI a) :: rest)) :=
  ln_if_gt hx hb hdg ht ha2 (fun _ => kt) (fun q => absurd h (by omega))
theorem ln_if_gt_f (hx : p.tables.exec = Jvm.exec) (hb : c.code = cc) {a : Nat} {off : Int} {tgt : Nat} (hdg : decode cc pc = .ok (.ifCond .gt off, 3)) (ht : (pc : Int) + off = (tgt : Int)) (ha2 : a < 2 ^ 31) (h : a = 0) (kf : W p l e R s m args below meth c H locs cells slots Q (F0 m (pc + 3) ls rest)) : W p l e R s m args below meth c H locs cells slots Q (F0 m pc ls (.int (nI a) :: rest)) :=
  ln_if_gt hx hb hdg ht ha2 (fun q => absurd h (by omega)) (fun _ => kf)

theorem ln_if_le (hx : p.tables.exec = Jvm.exec) (hb : c.code = cc) {a : Nat} {off : Int} {tgt : Nat} (hdg : decode cc pc = .ok (.ifCond .le off, 3)) (ht : (pc : Int) + off = (tgt : Int)) (ha2 : a < 2 ^ 31) (kt : a = 0 → W p l e R s m args below meth c H locs cells slots Q (F0 m tgt ls rest)) (kf : 0 < a → W p l e R s m args below meth c H locs cells slots Q (F0 m (pc + 3) ls rest)) : W p l e R s m args below meth c H locs cells slots Q (F0 m pc ls (.int (nI a) :: rest)) :=
  lv_if_le hx hb hdg ht (fun q => kt (Nat.le_zero.mp ((nI_leI ha2 (by decide)).mp q))) (fun q => kf (Nat.pos_of_ne_zero (fun z => q (by rw [z]; decide))))

theorem ln_if_le_t (hx : p.tables.exec = Jvm.exec) (hb : c.code = cc) {a : Nat} {off : Int} {tgt : Nat} (hdg : decode cc pc = .ok (.ifCond .le off, 3)) (ht : (pc : Int) + off = (tgt : Int)) (ha2 : a < 2 ^ 31) (h : a = 0) (kt : W p l e R s m args below meth c H locs cells slots Q (F0 m tgt ls rest)) : W p l e R s m args below meth c H locs cells slots Q (F0 m pc ls (.int (nI a) :: rest)) :=
  ln_if_le hx hb hdg ht ha2 (fun _ => kt) (fun q => absurd h (by omega))
theorem ln_if_le_f (hx : p.tables.exec = Jvm.exec) (hb : c.code = cc) {a : Nat} {off : Int} {tgt : Nat} (hdg : decode cc pc = .ok (.ifCond .le off, 3)) (ht : (pc : Int) + off = (tgt : Int)) (ha2 : a < 2 ^ 31) (h : 0 < a) (kf : W p l e R s m args below meth c H locs cells slots Q (F0 m (pc + 3) ls rest)) : W p l e R s m args below meth c H locs cells slots Q (F0 m pc ls (.int (nI a) :: rest)) :=
  ln_if_le hx hb hdg ht ha2 (fun q => absurd h (by omega)) (fun _ => kf)

end GN
section GE
variable {p : Program} {l : Launch} {e : Env} {R : Room} {s : State} {m : MethodId} {args : Array Value} {below : List Frame} {meth : Method} {c : Code} {H : Heap} {locs : List Loc} {cells slots mc ms : Nat}
variable {cc : ByteArray} {pc nL : Nat} {ls : Array Slot} {D : va_G} {cl : List vw_C} {A : Nat → Prop} {wo : va_W} {S : Type} {post : Option Value → S → Prop} {w1 : S → va_W}
theorem g_iret {v : Int32} (hx : p.tables.exec = Jvm.exec) (hb : c.code = cc) (hr : meth.sig.returnType = some .int) (hlocks : meth.locks = false) (hP : va_P D cl wo H) (hD : va_D A wo) (hS : va_S A s.heap H locs) (u : S) (hp : wo.Perm (w1 u)) (hpo : post (some (.int v)) u) (h1 : cells ≤ mc) (h2 : slots ≤ ms) (hdg : decode cc pc = .ok (.ireturn, 1)) :
    W p l e R s m args below meth c H locs cells slots (MQ below (gQ D cl post w1 A) args s mc ms A) (F0 m pc ls [.int v]) :=
  W.widen h1 h2 (W.iret hx hb hr (fun t ht hW => ⟨⟨_, u, rfl, hpo, by rw [ht]; exact wP_perm hP hp, wD_perm hD hp⟩, hS.F ht⟩) hS.2.2 hdg hlocks)
theorem g_zret {v : Int32} {ty : FieldType} (hx : p.tables.exec = Jvm.exec) (hb : c.code = cc) (hr : meth.sig.returnType = some ty) (hlocks : meth.locks = false) (hP : va_P D cl wo H) (hD : va_D A wo) (hS : va_S A s.heap H locs) (u : S) (hp : wo.Perm (w1 u)) (hn : narrow ty (.int v) = .int v) (hpo : post (some (.int v)) u) (h1 : cells ≤ mc) (h2 : slots ≤ ms) (hdg : decode cc pc = .ok (.ireturn, 1)) :
    W p l e R s m args below meth c H locs cells slots (MQ below (gQ D cl post w1 A) args s mc ms A) (F0 m pc ls [.int v]) :=
  W.widen h1 h2 (W.zret hx hb hr hn (fun t ht hW => ⟨⟨_, u, rfl, hpo, by rw [ht]; exact wP_perm hP hp, wD_perm hD hp⟩, hS.F ht⟩) hS.2.2 hdg hlocks)
theorem g_vret (hx : p.tables.exec = Jvm.exec) (hb : c.code = cc) (hr : meth.sig.returnType = none) (hlocks : meth.locks = false) (hP : va_P D cl wo H) (hD : va_D A wo) (hS : va_S A s.heap H locs) (u : S) (hp : wo.Perm (w1 u)) (hpo : post none u) (h1 : cells ≤ mc) (h2 : slots ≤ ms) (hdg : decode cc pc = .ok (.return_, 1)) :
    W p l e R s m args below meth c H locs cells slots (MQ below (gQ D cl post w1 A) args s mc ms A) (F0 m pc ls []) :=
  W.widen h1 h2 (W.vret hx hb hr (fun t ht hW => ⟨⟨_, u, rfl, hpo, by rw [ht]; exact wP_perm hP hp, wD_perm hD hp⟩, hS.F ht⟩) hS.2.2 hdg hlocks)
theorem g_aret {a : Nat} {rt : FieldType} (hx : p.tables.exec = Jvm.exec) (hb : c.code = cc) (hr : meth.sig.returnType = some rt) (hrt : (∃ n, rt = .object n) ∨ ∃ t, rt = .array t) (hlocks : meth.locks = false) (hP : va_P D cl wo H) (hD : va_D A wo) (hS : va_S A s.heap H locs) (u : S) (hp : wo.Perm (w1 u)) (hpo : post (some (.ref a)) u) (h1 : cells ≤ mc) (h2 : slots ≤ ms) (hdg : decode cc pc = .ok (.areturn, 1)) :
    W p l e R s m args below meth c H locs cells slots (MQ below (gQ D cl post w1 A) args s mc ms A) (F0 m pc ls [.ref a]) :=
  W.widen h1 h2 (W.aret hx hb hr hrt (Or.inr ⟨a, rfl⟩) (fun t ht hW => ⟨⟨_, u, rfl, hpo, by rw [ht]; exact wP_perm hP hp, wD_perm hD hp⟩, hS.F ht⟩) hS.2.2 hdg hlocks)
end GE
section GA
variable {p : Program} {l : Launch} {e : Env} {R : Room} {s : State} {m : MethodId} {args : Array Value} {below : List Frame} {meth : Method} {c : Code} {H : Heap} {locs : List Loc} {cells slots : Nat} {Q : State → Prop}
variable {cc : ByteArray} {pc : Nat} {ls : Array Slot} {rest : List Value} {D : va_G} {cl : List vw_C} {A : Nat → Prop} {a : Nat} {tys : List (ClassId × FieldType)} {ws : va_W} {H0 : Heap}
theorem ln_iald (hx : p.tables.exec = Jvm.exec) (hb : c.code = cc) (hK : va_K D cl tys s) (hP : va_P D cl ws H) (q0 t0 : Nat) {cA : ClassId} {n : Nat} {f : Nat → Int32} (ha : ws[q0]? = some (a, .inl (cA, n, .inl f))) (ht : tys[t0]? = some (cA, .int)) {k : Nat} (hk : k < n) (hn : n < 2 ^ 31) (hdg : decode cc pc = .ok (.iaload, 1))
    (kk : W p l e R s m args below meth c H locs cells slots Q (F0 m (pc + 1) ls (.int (f k) :: rest))) : W p l e R s m args below meth c H locs cells slots Q (F0 m pc ls (.int (nI k) :: .ref a :: rest)) :=
  va_iald hx hb hK hP q0 t0 ha ht (vp_in_nI hk hn) hdg (by rw [nI_clamp (by omega)]; exact kk)
theorem ln_iast (hx : p.tables.exec = Jvm.exec) (hb : c.code = cc) (hK : va_K D cl tys s) (hP : va_P D cl ws H) (hD : va_D A ws) (hS : va_S A H0 H locs) (q0 t0 : Nat) {cA : ClassId} {n : Nat} {f : Nat → Int32} (ha : ws[q0]? = some (a, .inl (cA, n, .inl f))) (ht : tys[t0]? = some (cA, .int)) {k : Nat} {x : Int32} (hk : k < n) (hn : n < 2 ^ 31) (hdg : decode cc pc = .ok (.iastore, 1))
    (kk : ∀ (H1 : Heap) (locs1 : List Loc), va_P D cl (ws.set q0 (a, .inl (cA, n, .inl (upd f k x)))) H1 → va_D A (ws.set q0 (a, .inl (cA, n, .inl (upd f k x)))) → va_S A H0 H1 locs1 → W p l e R s m args below meth c H1 locs1 cells slots Q (F0 m (pc + 1) ls rest)) : W p l e R s m args below meth c H locs cells slots Q (F0 m pc ls (.int x :: .int (nI k) :: .ref a :: rest)) :=
  va_iast hx hb hK hP hD hS q0 t0 ha ht (vp_in_nI hk hn) hdg (by rw [nI_clamp (by omega)]; exact kk)
theorem ln_alen (hx : p.tables.exec = Jvm.exec) (hb : c.code = cc) (hK : va_K D cl tys s) (hP : va_P D cl ws H) (q0 t0 : Nat) {cA : ClassId} {x : vp_A} (ha : ws[q0]? = some (a, .inl (cA, x))) {ty : FieldType} (ht : tys[t0]? = some (cA, ty)) (hdg : decode cc pc = .ok (.arraylength, 1))
    (kk : W p l e R s m args below meth c H locs cells slots Q (F0 m (pc + 1) ls (.int (nI x.1) :: rest))) : W p l e R s m args below meth c H locs cells slots Q (F0 m pc ls (.ref a :: rest)) :=
  va_alen hx hb hK hP q0 t0 ha ht rfl hdg kk
/-- a new int array: its class is the one that the tables name -/
theorem ln_newi (hx : p.tables.exec = Jvm.exec) (hb : c.code = cc) (harr : (Cond.arrayClass .int).before args s = true) (hK : va_K D cl tys s) (hP : va_P D cl ws H) (hD : va_D A ws) (hS : va_S A H0 H locs) (hA : ∀ q, H0.size ≤ q → A q) (t0 : Nat) {cA : ClassId} (ht : tys[t0]? = some (cA, .int))
    {N : Nat} (hN : N < 2 ^ 27) (hcells : cells + 1 ≤ R.cells) (hslots : slots + N ≤ R.slots) (hdg : decode cc pc = .ok (.newarray .int, 2))
    (kk : ∀ (q : Nat) (H1 : Heap), va_P D cl (ws ++ [(q, .inl (cA, N, .inl (fun _ => 0)))]) H1 → va_D A (ws ++ [(q, .inl (cA, N, .inl (fun _ => 0)))]) → va_S A H0 H1 locs →
      W p l e R s m args below meth c H1 locs (cells + 1) (slots + N) Q (F0 m (pc + 2) ls (.ref q :: rest))) : W p l e R s m args below meth c H locs cells slots Q (F0 m pc ls (.int (nI N) :: rest)) := by
  refine va_newa (atype := .int) (ty := .int) (N' := N) (a0 := (N, .inl (fun _ => 0))) hx hb harr rfl hK hP hD hS hA (fun cA => vp_cell_i cA N (fun _ => 0)) (nI_pos (by omega)) (nI_clamp (by omega)) (by show N * 4 ≤ 536870912; omega) hcells hslots hdg (fun q cA' H1 hK' hP' hD' hS' => ?_)
  have h1 : s.vm.findClass ("[" ++ FieldType.int.toString) = some cA' := (hK'.2 tys.length (cA', .int) (by simp)).2
  have h2 : s.vm.findClass ("[" ++ FieldType.int.toString) = some cA := (hK.2 t0 (cA, .int) ht).2
  cases h1.symm.trans h2
  exact kk q H1 hP' hD' hS'
end GA
theorem tb_S2 {own : String} {i : Nat} {y : MethodName} {b : ByteArray} {n : Nat} {r : Option FieldType} (h1 : Cond.methodLink own i y ∈ tb) (h2 : Cond.static y ∈ tb) (h4 : Cond.initialized y.cls ∈ tb) (h5 : Cond.code y b n r ∈ tb) : GoodIn tb (va_wsS own i y (.code y b n r :: tb)) := by
  intro w hw
  have hm : w ∈ tb := by
    rcases List.mem_append.mp hw with h | h
    · simp only [List.mem_cons, List.not_mem_nil, or_false] at h
      rcases h with rfl | rfl | rfl
      · exact h1
      · exact h2
      · exact h4
    · rcases List.mem_cons.mp h with rfl | h
      · exact h5
      · exact h
  exact ⟨hm, tb_good hm⟩
/-- as Ct_of, of a method of the library's own: no native stands in its place -/
theorem Ct_ofF {l : Launch} {D : va_G} {cl : List vw_C} {tys : List (ClassId × FieldType)} {X : (Nat → Prop) → State → Heap → Prop} {y : MethodName} {ws ws' : List Cond} {rm : Room} {av : List Value} {wc : va_W} {S : Type} {post : Option Value → S → Prop} {w1 : S → va_W} {cc : ByteArray} {maxL : Nat} {ret : Option FieldType}
    (hy : plainFor y = true) (hw : ws = Cond.code y cc maxL ret :: ws') (hlen : (lg_sl av).length ≤ maxL)
    (body : ∀ (p : Program) (e : Env) (s : State) (m : MethodId) (below : List Frame) (meth : Method) (c : Code) (A : Nat → Prop) (ls : Array Slot), p.tables.exec = Jvm.exec → c.code = cc → meth.sig.returnType = ret → c.maxLocals = maxL → s.vm.findClass y.cls = some m.cls → (∀ w ∈ ws, w.before av.toArray s = true) → meth.locks = false → meth.name = y.name →
      (∀ q, s.heap.size ≤ q → A q) → va_P D cl wc s.heap → va_K D cl tys s → va_D A wc → X A s s.heap → va_S A s.heap s.heap [] → lv_has ls maxL (lv_args 0 av) →
      W p l e rm s m av.toArray below meth c s.heap [] 0 0 (MQ below (gQ D cl post w1 A) av.toArray s rm.cells rm.slots A) (F0 m 0 ls [])) :
    Ct l D cl tys X y ws rm av wc post w1 := by
  intro sz
  refine MetFree.of_bodySF (code := cc) (maxLocals := maxL) (ret := ret) hy ?_ ?_
  · intro args s m h hn
    obtain ⟨meth, c, h1, h2, h3, h4, h5, h6, -, -⟩ := Cond.code_spec hn (atoms_spec (ws := ws) h _ (by rw [hw]; exact List.mem_cons_self))
    exact ⟨meth, c, h1, h2, h3, h4, h5, h6⟩
  · intro p e s m args below meth c s₁ B hml hv _
    have hh0 : s₁.heap = s.heap := by rw [B.state]; rfl
    obtain ⟨rfl, hsz, hP, hK, hD0, hXs⟩ := hv
    subst hsz
    have K := body p e s m below meth c (va_A wc s.heap.size) _ B.exec B.bytes B.returns hml (findClass_of_methodNamed B.named) (atoms_spec (ws := ws) B.pre) B.notSynchronized (name_of_methodNamed B.named B.method).1
      (fun q h => Or.inr h) hP hK (hD0.self (sz := s.heap.size)) hXs va_S.rf (lv_entry av hlen)
    rw [← lg_entry_eq] at K
    obtain ⟨t, a1, o, b1, b2, b3⟩ := K s₁ hh0 (Stand.of_body B)
    exact ⟨t, o, a1, b1, b2, ⟨b3.1, b3.2⟩⟩
