/-! WHAT EVERY CONTRACT OF OURS SPEAKS OF: g = (launch, the tables' numbers, the array kinds' numbers int[] long[] boolean[], where the seven label texts and their bytes lie) -/
abbrev GG : Type := Launch × va_G × (ClassId × ClassId × ClassId) × (Nat → Nat) × (Nat → Nat)
abbrev cI (g : GG) : ClassId := g.2.2.1.1
abbrev cJ (g : GG) : ClassId := g.2.2.1.2.1
abbrev cZ (g : GG) : ClassId := g.2.2.1.2.2
abbrev tysG (g : GG) : List (ClassId × FieldType) := [(cI g, .int), (cJ g, .long), (cZ g, .boolean)]
/-- the eight first words, the 64 others -/
def rootsL : List Int32 := [1779033703, -1150833019, 1013904242, -1521486534, 1359893119, -1694144372, 528734635, 1541459225]
def cubesL : List Int32 := [1116352408, 1899447441, -1245643825, -373957723, 961987163, 1508970993, -1841331548, -1424204075, -670586216, 310598401, 607225278, 1426881987, 1925078388, -2132889090, -1680079193, -1046744716, -459576895, -272742522, 264347078, 604807628, 770255983, 1249150122, 1555081692, 1996064986, -1740746414, -1473132947, -1341970488, -1084653625, -958395405, -710438585, 113926993, 338241895, 666307205, 773529912, 1294757372, 1396182291, 1695183700, 1986661051, -2117940946, -1838011259, -1564481375, -1474664885, -1035236496, -949202525, -778901479, -694614492, -200395387, 275423344, 430227734, 506948616, 659060556, 883997877, 958139571, 1322822218, 1537002063, 1747873779, 1955562222, 2024104815, -2067236844, -1933114872, -1866530822, -1538233109, -1090935817, -965641998]
/-- the label texts by their places: their bytes -/
def labB : List (List Int32) := [[118, 49, 32, 102, 105, 114, 115, 116, 32, 97], [118, 49, 32, 102, 105, 114, 115, 116, 32, 98], [118, 49, 32, 103, 114, 101, 101, 116, 32, 97], [118, 49, 32, 103, 114, 101, 101, 116, 32, 98], [118, 49, 32, 116, 97, 108, 107, 32, 97], [118, 49, 32, 116, 97, 108, 107, 32, 98], [118, 49, 32, 100, 111, 110, 101]]
def labN : List Nat := [10, 10, 10, 10, 9, 9, 7]
/-- the texts of the throws: whose pool, which entry, the text -/
def strL : List (String × Nat × String) := [("GreetDesk", 35, "n is not 1 .. 8"), ("GreetDesk", 46, "the tape has no room for these bytes"), ("GreetDesk", 63, "no such side or what, or not as many bytes as said"), ("GreetDesk", 73, "the side has begun"), ("GreetDesk", 79, "no such side"), ("GreetDesk", 87, "the side has begun, or has no key or random bytes"), ("GreetDesk", 95, "no such side or level"), ("GreetDesk", 101, "the side has not begun, or had a fault"), ("GreetDesk", 107, "no such side or level, or n is below 1"), ("GreetDesk", 109, "the other side has not begun, or had a fault"), ("GreetDesk", 134, "no such byte was sent"), ("GreetDesk", 141, "no such side or level, or k is not 0 .. 31"), ("GreetDesk", 153, "the side has no such secret"), ("GreetDesk", 158, "no such byte of the other side's parameters"), ("GreetDesk", 160, "no such what")]
def labX : List (Nat × String) := [(75, "v1 first a"), (77, "v1 first b"), (79, "v1 greet a"), (81, "v1 greet b"), (83, "v1 talk a"), (85, "v1 talk b"), (87, "v1 done")]
/-- what stands beside the worlds: the launch, the two static tables, the statics that a throw reads, the texts -/
def XS (g : GG) (A : Nat → Prop) (U : State) (H : Heap) : Prop :=
  g.1.stackTraces = false ∧
  (∃ t : Nat, va_Z "GreetDesk$Hash" "ROOTS" "[I" (.ref t) A U H ∧ va_T .int t 8 (fun j => .int (rootsL.getD j 0)) A U H) ∧
  (∃ t : Nat, va_Z "GreetDesk$Hash" "CUBE_ROOTS" "[I" (.ref t) A U H ∧ va_T .int t 64 (fun j => .int (cubesL.getD j 0)) A U H) ∧
  vx_Zq Bundle.tN "UNASSIGNED_STACK" Bundle.steD A U H ∧ vx_Zq Bundle.tN "SUPPRESSED_SENTINEL" Bundle.listD A U H ∧
  (va_Z "java/lang/String" "COMPACT_STRINGS" "Z" (.int 1) A U H ∧ va_Zq "jdk/internal/util/Preconditions" "SIOOBE_FORMATTER" "Ljava/util/function/BiFunction;" A U H) ∧
  (∀ q ∈ strL, ∃ sa : Nat, vk_R q.1 q.2.1 q.2.2 sa U) ∧
  vk_S 7 labN labB g.2.2.2.1 g.2.2.2.2 A U H ∧
  (∀ i : Nat, i < 7 → vk_R "GreetDesk$Hash" (labX.getD i (0, "")).1 (labX.getD i (0, "")).2 (g.2.2.2.1 i) U)
theorem XSok (g : GG) : XOk (XS g) := by
  refine ⟨?_, ?_, ?_⟩
  · rintro A u U H hW ⟨h0, ⟨t1, h1, h1'⟩, ⟨t2, h2, h2'⟩, h3, h4, h5, h6, h7, h8⟩
    have hv := hW.alike
    exact ⟨h0, ⟨t1, h1.moved hv, h1'.moved hv⟩, ⟨t2, h2.moved hv, h2'.moved hv⟩, h3.moved hv, h4.moved hv, ⟨h5.1.moved hv, h5.2.moved hv⟩, fun q hq => (h6 q hq).imp fun _ h => h.warm hW, h7.moved hv, fun i hi => (h8 i hi).warm hW⟩
  · rintro A U H H1 ⟨h0, ⟨t1, h1, h1'⟩, ⟨t2, h2, h2'⟩, h3, h4, h5, h6, h7, h8⟩ hq
    exact ⟨h0, ⟨t1, h1.kept hq, h1'.kept hq⟩, ⟨t2, h2.kept hq, h2'.kept hq⟩, h3.kept hq, h4.kept hq, ⟨h5.1.kept hq, h5.2.kept hq⟩, h6, h7.kept hq, h8⟩
  · rintro A B U H ⟨h0, ⟨t1, h1, h1'⟩, ⟨t2, h2, h2'⟩, h3, h4, h5, h6, h7, h8⟩ hq
    exact ⟨h0, ⟨t1, h1.narrow hq, h1'.narrow hq⟩, ⟨t2, h2.narrow hq, h2'.narrow hq⟩, h3.narrow hq, h4.narrow hq, ⟨h5.1.narrow hq, h5.2.narrow hq⟩, h6, h7.narrow hq, h8⟩
/-- a contract of ours: the words are the method's own code and the tables' good words -/
abbrev Cg (g : GG) (y : MethodName) (b : ByteArray) (n : Nat) (r : Option FieldType) (rm : Room) (av : List Value) (wc : va_W) {S : Type} (post : Option Value → S → Prop) (w1 : S → va_W) : Prop :=
  Ct g.1 g.2.1 cls7 (tysG g) (XS g) y (.code y b n r :: tb) rm av wc post w1
/-- shifts as the machine has them -/
def us (x k : Int32) : Int32 := (x.toUInt32 >>> (k.toUInt32 &&& Int32.toUInt32 31)).toInt32
def sl (x k : Int32) : Int32 := x <<< (k &&& 31)
def sr (x k : Int32) : Int32 := x >>> (k &&& 31)
def uL (x : Int64) (k : Int32) : Int64 := (x.toUInt64 >>> (k.toInt64.toUInt64 &&& Int64.toUInt64 63)).toInt64
