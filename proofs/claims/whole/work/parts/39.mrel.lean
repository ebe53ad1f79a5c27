/-! THE RELATION: what a side of the reference holds (mf: its arrays by their fields) beside the class's rows and numbers -/
def wtL (l w : Nat) (M : List Nat) : List Nat := if lvB l w = true then M else []
def mS0 (nb : Nat) (mf : Nat → Nat → Int32) (Ls : Nat → List Nat) (ns : Nat → Nat) : Prop :=
  (bo (Ls 0) (mf 5) (32 * nb) ∧ bo (Ls 1) (mf 6) (32 * nb) ∧ bo (Ls 3) (mf 7) (300 * nb) ∧ mf 8 nb = nI (Ls 3).length) ∧
  (mf 3 nb = nI (if (Ls 0).length = 0 then 0 else 1) ∧ mf 4 nb = nI (if (Ls 1).length = 0 then 0 else 1)) ∧
  (mf 11 nb = nI (ns 1) ∧ mf 12 nb = nI (ns 4) ∧ mf 13 nb = nI (ns 2) ∧ mf 14 nb = nI (ns 3)) ∧
  ((bo (Ls 8) (mf 15) (2048 * (2 * nb + 0)) ∧ mf 16 (2 * nb + 0) = nI (Ls 8).length) ∧ bo (Ls 9) (mf 15) (2048 * (2 * nb + 1)) ∧ mf 16 (2 * nb + 1) = nI (Ls 9).length) ∧
  (mf 17 (2 * nb + 0) = nI (ns 5) ∧ mf 17 (2 * nb + 1) = nI (ns 6)) ∧
  (bo (Ls 2) (mf 20) (300 * nb) ∧ mf 21 nb = if ns 0 = 1 then nI (Ls 2).length else -1) ∧
  (nb = 1 ∨ ns 2 = 0 → bo (Ls 5) (mf 22) (2048 * nb) ∧ mf 23 nb = nI (Ls 5).length) ∧
  ((bo (Ls 11) (mf 24) (32 * (6 * nb + 2 * 0 + 0)) ∧ bo (Ls 12) (mf 24) (32 * (6 * nb + 2 * 0 + 1))) ∧ (bo (Ls 14) (mf 24) (32 * (6 * nb + 2 * 1 + 0)) ∧ bo (Ls 15) (mf 24) (32 * (6 * nb + 2 * 1 + 1))) ∧ bo (Ls 17) (mf 24) (32 * (6 * nb + 2 * 2 + 0)) ∧ bo (Ls 18) (mf 24) (32 * (6 * nb + 2 * 2 + 1))) ∧
  mf 25 nb = nI (if 0 < (Ls 17).length then 2 else if 0 < (Ls 14).length then 1 else 0) ∧ bo (Ls 13) (mf 26) (32 * nb) ∧
  (∃ n, n ≤ 20 ∧ mf 10 nb = nI n ∧ (0 < n ↔ 0 < (Ls 11).length))
/-- its waiting rows -/
def mW (nb : Nat) (mf : Nat → Nat → Int32) (Ls : Nat → List Nat) (ns : Nat → Nat) : Prop :=
  (bo (wtL 0 (ns 4) (Ls 4)) (mf 18) (2048 * (2 * nb + 0)) ∧ mf 19 (2 * nb + 0) = nI (wtL 0 (ns 4) (Ls 4)).length) ∧ bo (wtL 1 (ns 4) (Ls 4)) (mf 18) (2048 * (2 * nb + 1)) ∧ mf 19 (2 * nb + 1) = nI (wtL 1 (ns 4) (Ls 4)).length
def mS (nb : Nat) (mf : Nat → Nat → Int32) (Ls : Nat → List Nat) (ns : Nat → Nat) : Prop := mS0 nb mf Ls ns ∧ mW nb mf Ls ns
/-- how many cells of an array are a side's -/
def wdM (k : Nat) : Nat := [1, 1, 1, 1, 1, 32, 32, 300, 1, 20, 1, 1, 1, 1, 1, 4096, 2, 2, 4096, 2, 300, 1, 2048, 1, 192, 1, 32].getD k 1
/-- only the side's own cells have changed -/
def mFr (nb : Nat) (mf mf9 : Nat → Nat → Int32) : Prop := ∀ k j, k < 27 → ¬ j / wdM k = nb → mf9 k j = mf k j
theorem mFr_rf (nb : Nat) (mf : Nat → Nat → Int32) : mFr nb mf mf := fun _ _ _ _ => rfl
theorem mFr.tr {nb : Nat} {a b c : Nat → Nat → Int32} (h1 : mFr nb a b) (h2 : mFr nb b c) : mFr nb a c := fun k j hk hj => (h2 k j hk hj).trans (h1 k j hk hj)
theorem mFr_wr {nb : Nat} {a b : Nat → Nat → Int32} (h : mFr nb a b) (k o : Nat) (L : List Nat) (hr : ∀ j, o ≤ j → j < o + L.length → j / wdM k = nb) : mFr nb a (va_up b k (wrL (b k) o L)) := by
  intro q j hq hj
  by_cases e : q = k
  · subst e
    rw [va_up_self, wr_out, h q j hq hj]
    by_cases h1 : j < o
    · exact Or.inl h1
    · by_cases h2 : o + L.length ≤ j
      · exact Or.inr h2
      · exact absurd (hr j (by omega) (by omega)) hj
  · rw [va_up_ne _ _ e]
    exact h q j hq hj
theorem mFr_up {nb : Nat} {a b : Nat → Nat → Int32} (h : mFr nb a b) (k i : Nat) (x : Int32) (hr : i / wdM k = nb) : mFr nb a (va_up b k (upd (b k) i x)) := by
  intro q j hq hj
  by_cases e : q = k
  · subst e
    rw [va_up_self, pk_un (fun e2 => hj (by rw [e2]; exact hr)), h q j hq hj]
  · rw [va_up_ne _ _ e]
    exact h q j hq hj
theorem bo_fr {L : List Nat} {f f9 : Nat → Int32} {o : Nat} (h : bo L f o) (hf : ∀ i, i < L.length → f9 (o + i) = f (o + i)) : bo L f9 o := fun i hi => (hf i hi).trans (h i hi)
theorem bo_ne {L M : List Nat} {f : Nat → Int32} {o o2 : Nat} (h : bo L f o) (hd : o + L.length ≤ o2 ∨ o2 + M.length ≤ o) : bo L (wrL f o2 M) o := bo_fr h fun i hi => wr_out (by omega)
theorem bo_app {L M : List Nat} {f : Nat → Int32} {o z : Nat} (h : bo L f o) (hz : z = o + L.length) : bo (L ++ M) (wrL f z M) o := by
  subst hz
  intro i hi
  rw [List.length_append] at hi
  by_cases e : i < L.length
  · rw [wr_out (Or.inl (by omega)), h i e]
    simp [List.getD_eq_getElem?_getD, List.getElem?_append_left e]
  · rw [show o + i = (o + L.length) + (i - L.length) by omega, wr_in (by omega)]
    simp [List.getD_eq_getElem?_getD, List.getElem?_append_right (show L.length ≤ i by omega)]
theorem bo_nil (f : Nat → Int32) (o : Nat) : bo [] f o := fun i h => absurd h (Nat.not_lt_zero i)
theorem bo_0 {L : List Nat} (f : Nat → Int32) (o : Nat) (h : L.length = 0) : bo L f o := by
  rw [List.length_eq_zero_iff.mp h]
  exact bo_nil f o
theorem bo_drop {L : List Nat} {f : Nat → Int32} {o : Nat} (h : bo L f o) (k : Nat) : bo (L.drop k) f (o + k) := by
  intro i hi
  rw [List.length_drop] at hi
  rw [Nat.add_assoc, h (k + i) (by omega)]
  simp [List.getD_eq_getElem?_getD]
def RMk (k : Nat) : Nat := [32, 32, 300, 300, 336, 748, 32, 32, 336, 340, 32, 32, 32, 32, 32, 32, 32, 32, 32].getD k 0
def bd (Ls : Nat → List Nat) : Prop := ∀ k, k < 19 → (Ls k).length ≤ RMk k
theorem bd_up {Ls : Nat → List Nat} {k : Nat} {L : List Nat} (h : bd Ls) (hL : L.length ≤ RMk k) : bd (va_up Ls k L) := by
  intro j hj
  by_cases e : j = k
  · subst e; rw [va_up_self]; exact hL
  · rw [va_up_ne _ _ e]; exact h j hj
/-- the other side is as it was -/
theorem mS_fr {nb n2 : Nat} {mf m9 : Nat → Nat → Int32} {Ls : Nat → List Nat} {ns : Nat → Nat} (hf : mFr n2 mf m9) (h1 : nb < 2) (h2 : n2 < 2) (hne : nb ≠ n2) (hb : bd Ls) (h : mS nb mf Ls ns) : mS nb m9 Ls ns := by
  have b0 : (Ls 0).length ≤ 32 := hb 0 (by decide)
  have b1 : (Ls 1).length ≤ 32 := hb 1 (by decide)
  have b2 : (Ls 2).length ≤ 300 := hb 2 (by decide)
  have b3 : (Ls 3).length ≤ 300 := hb 3 (by decide)
  have b4 : (Ls 4).length ≤ 336 := hb 4 (by decide)
  have b5 : (Ls 5).length ≤ 748 := hb 5 (by decide)
  have b8 : (Ls 8).length ≤ 336 := hb 8 (by decide)
  have b9 : (Ls 9).length ≤ 340 := hb 9 (by decide)
  have b11 : (Ls 11).length ≤ 32 := hb 11 (by decide)
  have b12 : (Ls 12).length ≤ 32 := hb 12 (by decide)
  have b13 : (Ls 13).length ≤ 32 := hb 13 (by decide)
  have b14 : (Ls 14).length ≤ 32 := hb 14 (by decide)
  have b15 : (Ls 15).length ≤ 32 := hb 15 (by decide)
  have b17 : (Ls 17).length ≤ 32 := hb 17 (by decide)
  have b18 : (Ls 18).length ≤ 32 := hb 18 (by decide)
  have bw : ∀ l, (wtL l (ns 4) (Ls 4)).length ≤ 336 := fun l => by
    unfold wtL
    split
    · exact b4
    · exact Nat.zero_le _
  have bw0 := bw 0
  have bw1 := bw 1
  have e : ∀ k j d, k < 27 → wdM k = d → ¬ j / d = n2 → m9 k j = mf k j := fun k j d hk hd hj => hf k j hk (by rw [hd]; exact hj)
  obtain ⟨⟨⟨a1, a2, a3, a4⟩, ⟨c1, c2⟩, ⟨d1, d2, d3, d4⟩, ⟨⟨f1, f2⟩, f3, f4⟩, ⟨g1, g2⟩, ⟨i1, i2⟩, j1, ⟨⟨s1, s2⟩, ⟨s3, s4⟩, s5, s6⟩, t1, u1, n, v1, v2, v3⟩, ⟨x1, x2⟩, x3, x4⟩ := h
  refine ⟨⟨⟨bo_fr a1 fun i hi => e 5 _ 32 (by decide) rfl (by omega), bo_fr a2 fun i hi => e 6 _ 32 (by decide) rfl (by omega), bo_fr a3 fun i hi => e 7 _ 300 (by decide) rfl (by omega), (e 8 _ 1 (by decide) rfl (by omega)).trans a4⟩,
    ⟨(e 3 _ 1 (by decide) rfl (by omega)).trans c1, (e 4 _ 1 (by decide) rfl (by omega)).trans c2⟩, ⟨(e 11 _ 1 (by decide) rfl (by omega)).trans d1, (e 12 _ 1 (by decide) rfl (by omega)).trans d2, (e 13 _ 1 (by decide) rfl (by omega)).trans d3, (e 14 _ 1 (by decide) rfl (by omega)).trans d4⟩,
    ⟨⟨bo_fr f1 fun i hi => e 15 _ 4096 (by decide) rfl (by omega), (e 16 _ 2 (by decide) rfl (by omega)).trans f2⟩, bo_fr f3 fun i hi => e 15 _ 4096 (by decide) rfl (by omega), (e 16 _ 2 (by decide) rfl (by omega)).trans f4⟩,
    ⟨(e 17 _ 2 (by decide) rfl (by omega)).trans g1, (e 17 _ 2 (by decide) rfl (by omega)).trans g2⟩, ⟨bo_fr i1 fun i hi => e 20 _ 300 (by decide) rfl (by omega), (e 21 _ 1 (by decide) rfl (by omega)).trans i2⟩,
    fun q => ⟨bo_fr (j1 q).1 fun i hi => e 22 _ 2048 (by decide) rfl (by omega), (e 23 _ 1 (by decide) rfl (by omega)).trans (j1 q).2⟩,
    ⟨⟨bo_fr s1 fun i hi => e 24 _ 192 (by decide) rfl (by omega), bo_fr s2 fun i hi => e 24 _ 192 (by decide) rfl (by omega)⟩, ⟨bo_fr s3 fun i hi => e 24 _ 192 (by decide) rfl (by omega), bo_fr s4 fun i hi => e 24 _ 192 (by decide) rfl (by omega)⟩, bo_fr s5 fun i hi => e 24 _ 192 (by decide) rfl (by omega), bo_fr s6 fun i hi => e 24 _ 192 (by decide) rfl (by omega)⟩,
    (e 25 _ 1 (by decide) rfl (by omega)).trans t1, bo_fr u1 fun i hi => e 26 _ 32 (by decide) rfl (by omega), n, v1, (e 10 _ 1 (by decide) rfl (by omega)).trans v2, v3⟩,
    ⟨bo_fr x1 fun i hi => e 18 _ 4096 (by decide) rfl (by omega), (e 19 _ 2 (by decide) rfl (by omega)).trans x2⟩, bo_fr x3 fun i hi => e 18 _ 4096 (by decide) rfl (by omega), (e 19 _ 2 (by decide) rfl (by omega)).trans x4⟩
/-- rows that the relation doesn't name -/
theorem mS0_row {nb k : Nat} {mf : Nat → Nat → Int32} {Ls : Nat → List Nat} {ns : Nat → Nat} {L : List Nat} (h : mS0 nb mf Ls ns) (hk : k = 4 ∨ k = 6 ∨ k = 7 ∨ k = 10 ∨ k = 16) : mS0 nb mf (va_up Ls k L) ns := by
  rcases hk with rfl | rfl | rfl | rfl | rfl <;> exact h
theorem va_upC {α : Type} (f : Nat → α) {i j : Nat} (h : i ≠ j) (x y : α) : va_up (va_up f i x) j y = va_up (va_up f j y) i x := by
  funext k
  by_cases e1 : k = i
  · subst e1; rw [va_up_ne _ _ h, va_up_self, va_up_self]
  · by_cases e2 : k = j
    · subst e2; rw [va_up_self, va_up_ne _ _ e1, va_up_self]
    · rw [va_up_ne _ _ e2, va_up_ne _ _ e1, va_up_ne _ _ e1, va_up_ne _ _ e2]
/-- what is noted -/
theorem mS0_note {nb : Nat} {mf : Nat → Nat → Int32} {Ls : Nat → List Nat} {ns : Nat → Nat} (h : mS0 nb mf Ls ns) (M : List Nat) :
    mS0 nb (va_up (va_up mf 22 (wrL (mf 22) (2048 * nb + (Ls 5).length) M)) 23 (upd (mf 23) nb (nI ((Ls 5).length + M.length)))) (va_up Ls 5 (Ls 5 ++ M)) ns := by
  obtain ⟨a, c, d, f, g, i, j, s, t, u, v⟩ := h
  refine ⟨a, c, d, f, g, i, fun q => ⟨bo_app (j q).1 rfl, ?_⟩, s, t, u, v⟩
  show upd (mf 23) nb (nI ((Ls 5).length + M.length)) nb = nI (Ls 5 ++ M).length
  rw [pk_us, List.length_append]
theorem mS0_send0 {nb : Nat} {mf : Nat → Nat → Int32} {Ls : Nat → List Nat} {ns : Nat → Nat} (h : mS0 nb mf Ls ns) (M : List Nat) (hl : (Ls 8).length + M.length ≤ 2048) :
    mS0 nb (va_up (va_up mf 15 (wrL (mf 15) (2048 * (2 * nb + 0) + (Ls 8).length) M)) 16 (upd (mf 16) (2 * nb + 0) (nI ((Ls 8).length + M.length)))) (va_up Ls 8 (Ls 8 ++ M)) ns := by
  obtain ⟨a, c, d, ⟨⟨f1, f2⟩, f3, f4⟩, g, i, j, s, t, u, v⟩ := h
  refine ⟨a, c, d, ⟨⟨bo_app f1 rfl, ?_⟩, bo_ne (L := Ls 9) f3 (by omega), ?_⟩, g, i, j, s, t, u, v⟩
  · show upd (mf 16) (2 * nb + 0) _ (2 * nb + 0) = nI (Ls 8 ++ M).length
    rw [pk_us, List.length_append]
  · show upd (mf 16) (2 * nb + 0) _ (2 * nb + 1) = _
    rw [pk_un (by omega)]
    exact f4
theorem mS0_send1 {nb : Nat} {mf : Nat → Nat → Int32} {Ls : Nat → List Nat} {ns : Nat → Nat} (h : mS0 nb mf Ls ns) (M : List Nat) (hl : (Ls 8).length ≤ 2048) :
    mS0 nb (va_up (va_up mf 15 (wrL (mf 15) (2048 * (2 * nb + 1) + (Ls 9).length) M)) 16 (upd (mf 16) (2 * nb + 1) (nI ((Ls 9).length + M.length)))) (va_up Ls 9 (Ls 9 ++ M)) ns := by
  obtain ⟨a, c, d, ⟨⟨f1, f2⟩, f3, f4⟩, g, i, j, s, t, u, v⟩ := h
  refine ⟨a, c, d, ⟨⟨bo_ne (L := Ls 8) f1 (by omega), ?_⟩, bo_app f3 rfl, ?_⟩, g, i, j, s, t, u, v⟩
  · show upd (mf 16) (2 * nb + 1) _ (2 * nb + 0) = _
    rw [pk_un (by omega)]
    exact f2
  · show upd (mf 16) (2 * nb + 1) _ (2 * nb + 1) = nI (Ls 9 ++ M).length
    rw [pk_us, List.length_append]
theorem mS0_oth {nb : Nat} {mf : Nat → Nat → Int32} {Ls : Nat → List Nat} {ns : Nat → Nat} (h : mS0 nb mf Ls ns) (Y : List Nat) :
    mS0 nb (va_up (va_up mf 20 (wrL (mf 20) (300 * nb) Y)) 21 (upd (mf 21) nb (nI Y.length))) (va_up Ls 2 Y) (va_up ns 0 1) := by
  obtain ⟨a, c, d, f, g, i, j, s, t, u, v⟩ := h
  refine ⟨a, c, d, f, g, ⟨bo_wr, ?_⟩, j, s, t, u, v⟩
  show upd (mf 21) nb (nI Y.length) nb = if va_up ns 0 1 0 = 1 then nI (va_up Ls 2 Y 2).length else -1
  rw [pk_us, va_up_self, va_up_self, if_pos rfl]
theorem mS0_wait {nb w : Nat} {mf : Nat → Nat → Int32} {Ls : Nat → List Nat} {ns : Nat → Nat} (h : mS0 nb mf Ls ns) : mS0 nb (va_up mf 12 (upd (mf 12) nb (nI w))) Ls (va_up ns 4 w) := by
  obtain ⟨a, c, ⟨d1, d2, d3, d4⟩, r⟩ := h
  exact ⟨a, c, ⟨d1, pk_us, d3, d4⟩, r⟩
theorem mS0_fault {nb w : Nat} {mf : Nat → Nat → Int32} {Ls : Nat → List Nat} {ns : Nat → Nat} (h : mS0 nb mf Ls ns) : mS0 nb (va_up mf 14 (upd (mf 14) nb (nI w))) Ls (va_up ns 3 w) := by
  obtain ⟨a, c, ⟨d1, d2, d3, d4⟩, r⟩ := h
  exact ⟨a, c, ⟨d1, d2, d3, pk_us⟩, r⟩
theorem mS0_fin {nb : Nat} {mf : Nat → Nat → Int32} {Ls : Nat → List Nat} {ns : Nat → Nat} (h : mS0 nb mf Ls ns) : mS0 nb (va_up mf 13 (upd (mf 13) nb (nI 1))) Ls (va_up ns 2 1) := by
  obtain ⟨a, c, ⟨d1, d2, d3, d4⟩, f, g, i, j, r⟩ := h
  refine ⟨a, c, ⟨d1, d2, pk_us, d4⟩, f, g, i, fun q => j ?_, r⟩
  rcases q with q | q
  · exact Or.inl q
  · exact absurd q (by rw [va_up_self]; decide)
/-- the finished asker: its story goes on, the reference's talk doesn't -/
theorem mS0_late {mf : Nat → Nat → Int32} {Ls : Nat → List Nat} {ns : Nat → Nat} {L : List Nat} (h : mS0 0 mf Ls ns) (h2 : ns 2 = 1) : mS0 0 mf (va_up Ls 5 L) ns := by
  obtain ⟨a, c, d, f, g, i, j, r⟩ := h
  exact ⟨a, c, d, f, g, i, fun q => absurd q (by omega), r⟩
theorem mS0_greet {nb : Nat} {mf : Nat → Nat → Int32} {Ls : Nat → List Nat} {ns : Nat → Nat} (h : mS0 nb mf Ls ns) {R A B : List Nat} (hA : A.length = 32) (hB : B.length = 32) (h17 : (Ls 17).length = 0) (b11 : (Ls 11).length ≤ 32) (b12 : (Ls 12).length ≤ 32) (b18 : (Ls 18).length ≤ 32) :
    mS0 nb (va_up (va_up (va_up mf 26 (wrL (mf 26) (32 * nb) R)) 24 (wrL (wrL (mf 24) (32 * (6 * nb + 2 * 1 + 0)) A) (32 * (6 * nb + 2 * 1 + 1)) B)) 25 (upd (mf 25) nb (nI 1))) (va_up (va_up (va_up Ls 13 R) 14 A) 15 B) ns := by
  obtain ⟨a, c, d, f, g, i, j, ⟨⟨s1, s2⟩, ⟨s3, s4⟩, s5, s6⟩, t, u, v⟩ := h
  refine ⟨a, c, d, f, g, i, j, ⟨⟨bo_ne (L := Ls 11) (bo_ne (L := Ls 11) s1 (by omega)) (by omega), bo_ne (L := Ls 12) (bo_ne (L := Ls 12) s2 (by omega)) (by omega)⟩, ⟨bo_ne (L := A) bo_wr (by omega), bo_wr⟩, bo_ne (L := Ls 17) (bo_ne (L := Ls 17) s5 (by omega)) (by omega), bo_ne (L := Ls 18) (bo_ne (L := Ls 18) s6 (by omega)) (by omega)⟩, ?_, bo_wr, v⟩
  show upd (mf 25) nb (nI 1) nb = nI (if 0 < (Ls 17).length then 2 else if 0 < A.length then 1 else 0)
  rw [pk_us, if_neg (by omega), if_pos (by omega)]
theorem mS0_talk {nb : Nat} {mf : Nat → Nat → Int32} {Ls : Nat → List Nat} {ns : Nat → Nat} (h : mS0 nb mf Ls ns) {A B : List Nat} (hA : A.length = 32) (hB : B.length = 32) (b11 : (Ls 11).length ≤ 32) (b12 : (Ls 12).length ≤ 32) (b14 : (Ls 14).length ≤ 32) (b15 : (Ls 15).length ≤ 32) :
    mS0 nb (va_up (va_up mf 24 (wrL (wrL (mf 24) (32 * (6 * nb + 2 * 2 + 0)) A) (32 * (6 * nb + 2 * 2 + 1)) B)) 25 (upd (mf 25) nb (nI 2))) (va_up (va_up Ls 17 A) 18 B) ns := by
  obtain ⟨a, c, d, f, g, i, j, ⟨⟨s1, s2⟩, ⟨s3, s4⟩, s5, s6⟩, t, u, v⟩ := h
  refine ⟨a, c, d, f, g, i, j, ⟨⟨bo_ne (L := Ls 11) (bo_ne (L := Ls 11) s1 (by omega)) (by omega), bo_ne (L := Ls 12) (bo_ne (L := Ls 12) s2 (by omega)) (by omega)⟩, ⟨bo_ne (L := Ls 14) (bo_ne (L := Ls 14) s3 (by omega)) (by omega), bo_ne (L := Ls 15) (bo_ne (L := Ls 15) s4 (by omega)) (by omega)⟩, bo_ne (L := A) bo_wr (by omega), bo_wr⟩, ?_, u, v⟩
  show upd (mf 25) nb (nI 2) nb = nI (if 0 < A.length then 2 else if 0 < (Ls 14).length then 1 else 0)
  rw [pk_us, if_pos (by omega)]
theorem list_32 {A B : List Nat} (hA : A.length = 32) (hB : B.length = 32) (h : ∀ i, i < 32 → A.getD i 0 = B.getD i 0) : A = B := by
  apply List.ext_getElem (by omega)
  intro i h1 h2
  have := h i (by omega)
  simpa [List.getD_eq_getElem?_getD, h1, h2] using this
theorem by8_n {L : List Nat} (h : by8 L) (i : Nat) : L.getD i 0 < 2 ^ 31 := by have := by8_getD h i; omega
theorem getD_drop (L : List Nat) (k i : Nat) : (L.drop k).getD i 0 = L.getD (k + i) 0 := by simp [List.getD_eq_getElem?_getD]
