/-! THROWS: a contract that says that a call throws E over the cells wc, which stay -/
def gX (D : va_G) (cl : List vw_C) (wc : va_W) (E : String) (A : Nat → Prop) : String → State → State → Prop := fun E' st t => E' = E ∧ va_P D cl wc t.heap ∧ va_F A st t
def Tx (l : Launch) (D : va_G) (cl : List vw_C) (tys : List (ClassId × FieldType)) (X : (Nat → Prop) → State → Heap → Prop) (y : MethodName) (ws : List Cond) (rm : Room) (av : List Value) (wc : va_W) (E : String) : Prop :=
  ∀ sz : Nat, vx_Met l y ws rm (va_Pc av (gP D cl tys X wc sz)) (fun _ _ _ _ => False) (gX D cl wc E (va_A wc sz)) rm.cells rm.slots (va_A wc sz)
abbrev Tg (g : GG) (y : MethodName) (b : ByteArray) (n : Nat) (r : Option FieldType) (rm : Room) (av : List Value) (wc : va_W) (E : String) : Prop :=
  Tx g.1 g.2.1 cls7 (tysG g) (XS g) y (.code y b n r :: tb) rm av wc E
theorem Tx_of {l : Launch} {D : va_G} {cl : List vw_C} {tys : List (ClassId × FieldType)} {X : (Nat → Prop) → State → Heap → Prop} {y : MethodName} {ws ws' : List Cond} {rm : Room} {av : List Value} {wc : va_W} {E : String} {cc : ByteArray} {maxL : Nat} {ret : Option FieldType}
    (hy : plainName y.cls = true) (hw : ws = Cond.code y cc maxL ret :: ws') (hlen : (lg_sl av).length ≤ maxL)
    (body : ∀ (p : Program) (e : Env) (s : State) (m : MethodId) (below : List Frame) (meth : Method) (c : Code) (A : Nat → Prop) (ls : Array Slot), p.tables.exec = Jvm.exec → c.code = cc → meth.sig.returnType = ret → c.maxLocals = maxL → s.vm.findClass y.cls = some m.cls → (∀ w ∈ ws, w.before av.toArray s = true) → meth.locks = false → (∀ x ∈ c.exceptionTable.toList, False) →
      (∀ q, s.heap.size ≤ q → A q) → va_P D cl wc s.heap → va_K D cl tys s → va_D A wc → X A s s.heap → va_S A s.heap s.heap [] → lv_has ls maxL (lv_args 0 av) →
      W p l e rm s m av.toArray below meth c s.heap [] 0 0 (vx_MQ below (fun _ _ _ _ => False) (gX D cl wc E A) av.toArray s rm.cells rm.slots A) (F0 m 0 ls [])) :
    Tx l D cl tys X y ws rm av wc E := by
  intro sz
  refine vx_ofW (cc := cc) (maxL := maxL) (ret := ret) hy hw ?_
  intro p e s m args below meth c s₁ B hml hno hv
  obtain ⟨rfl, hsz, hP, hK, hD0, hXs⟩ := hv
  subst hsz
  rw [lg_entry_eq]
  exact body p e s m below meth c (va_A wc s.heap.size) _ B.exec B.bytes B.returns hml (findClass_of_methodNamed B.named) (atoms_spec (ws := ws) B.pre) B.notSynchronized hno
    (fun q h => Or.inr h) hP hK (hD0.self (sz := s.heap.size)) hXs va_S.rf (lv_entry av hlen)
def exNames : List String := ["java/lang/RuntimeException", "java/lang/Exception"]
/-- the three kinds that the desk throws: class, its place in the pool, its constructor's -/
def exL : List (String × Nat × Nat) := [("java/lang/IllegalArgumentException", 33, 37), ("java/lang/IllegalStateException", 44, 48), ("java/util/NoSuchElementException", 132, 136)]
