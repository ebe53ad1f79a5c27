/-! ONE BYTE AT A TIME: the class's step and the reference's -/
theorem stB_flt {nb l b v : Nat} {Ls : Nat → List Nat} {ns : Nat → Nat} (h : fltN l (ns 4) (Ls 4 ++ [b]) = v) (hv : v ≠ 0) : stB nb l b (Ls, ns) = (va_up Ls 4 (Ls 4 ++ [b]), va_up ns 3 v) := by
  unfold stB
  rw [if_neg (by rw [h]; exact hv), h]
theorem stB_more {nb l b : Nat} {Ls : Nat → List Nat} {ns : Nat → Nat} (h : fltN l (ns 4) (Ls 4 ++ [b]) = 0) (hn : ¬ (4 ≤ (Ls 4 ++ [b]).length ∧ (Ls 4 ++ [b]).length = 4 + bsz (Ls 4 ++ [b]))) : stB nb l b (Ls, ns) = (va_up Ls 4 (Ls 4 ++ [b]), va_up ns 3 0) := by
  unfold stB
  rw [if_pos h, if_neg hn]
theorem stB_whole {nb l b : Nat} {Ls : Nat → List Nat} {ns : Nat → Nat} (h : fltN l (ns 4) (Ls 4 ++ [b]) = 0) (hn : 4 ≤ (Ls 4 ++ [b]).length ∧ (Ls 4 ++ [b]).length = 4 + bsz (Ls 4 ++ [b])) : stB nb l b (Ls, ns) = (va_up (rmL nb (ns 4) (va_up Ls 4 (Ls 4 ++ [b]))) 4 [], rmN nb (ns 4) (va_up Ls 4 (Ls 4 ++ [b])) (va_up ns 3 0)) := by
  unfold stB
  rw [if_pos h, if_pos hn]
theorem wt_t {l w : Nat} {M : List Nat} (h : lvB l w = true) : wtL l w M = M := if_pos h
theorem wt_f {l w : Nat} {M : List Nat} (h : ¬ lvB l w = true) : wtL l w M = [] := if_neg h
theorem wt_0 (l : Nat) (M : List Nat) : wtL l 0 M = [] := by unfold wtL; rw [lvB_0]; rfl
theorem wt_n (l w : Nat) : wtL l w [] = [] := by unfold wtL; split <;> rfl
theorem lvB_other {l w : Nat} (hl : l < 2) (h : lvB l w = true) : ¬ lvB (1 - l) w = true := by
  unfold lvB at h ⊢
  simp only [decide_eq_true_eq] at h ⊢
  omega
/-- what the reference sees is what the class sees -/
theorem lk_flt {l w b : Nat} {M : List Nat} (hf : ¬ fltN l w (M ++ [b]) = 0) : lkA l w (wtL l w M ++ [b]) = -(nI (fltN l w (M ++ [b]))) ∧ (fltN l w (M ++ [b]) = 266 ∨ fltN l w (M ++ [b]) = 306) := by
  by_cases hl : lvB l w = true
  · rw [wt_t hl]
    by_cases h0 : (M ++ [b]).getD 0 0 = w
    · by_cases h1 : 4 ≤ (M ++ [b]).length ∧ szB w (bsz (M ++ [b])) = false
      · have e : fltN l w (M ++ [b]) = 306 := by
          unfold fltN
          rw [if_neg (fun h => h ⟨hl, h0⟩), if_pos h1]
        have e2 : lkA l w (M ++ [b]) = -306 := by
          unfold lkA
          rw [if_neg (by simp), if_neg (fun h => h ⟨hl, h0⟩), if_neg (by omega), if_pos h1.2]
        rw [e, e2]
        exact ⟨by decide, Or.inr rfl⟩
      · exfalso
        apply hf
        unfold fltN
        rw [if_neg (fun h => h ⟨hl, h0⟩), if_neg h1]
    · have e : fltN l w (M ++ [b]) = 266 := by
        unfold fltN
        rw [if_pos (fun h => h0 h.2)]
      have e2 : lkA l w (M ++ [b]) = -266 := by
        unfold lkA
        rw [if_neg (by simp), if_pos (fun h => h0 h.2)]
      rw [e, e2]
      exact ⟨by decide, Or.inl rfl⟩
  · rw [wt_f hl]
    have e : fltN l w (M ++ [b]) = 266 := by
      unfold fltN
      rw [if_pos (fun h => hl h.1)]
    have e2 : lkA l w ([] ++ [b]) = -266 := by
      unfold lkA
      rw [if_neg (by simp), if_pos (fun h => hl h.1)]
    rw [e, e2]
    exact ⟨by decide, Or.inl rfl⟩
theorem lk_ok {l w b : Nat} {M : List Nat} (hf : fltN l w (M ++ [b]) = 0) (hp : ptM w M) : lvB l w = true ∧ lkA l w (M ++ [b]) = (if 4 ≤ (M ++ [b]).length ∧ (M ++ [b]).length = 4 + bsz (M ++ [b]) then nI (M ++ [b]).length else nI 0) := by
  obtain ⟨hl, hs⟩ := fltN_0 hf
  refine ⟨hl, ?_⟩
  have h0 : (M ++ [b]).getD 0 0 = w := by
    unfold fltN at hf
    by_cases h : lvB l w = true ∧ (M ++ [b]).getD 0 0 = w
    · exact h.2
    · rw [if_pos h] at hf
      omega
  unfold lkA
  rw [if_neg (by simp), if_neg (fun h => h ⟨hl, h0⟩)]
  have hlen : (M ++ [b]).length = M.length + 1 := by simp
  by_cases h4 : (M ++ [b]).length < 4
  · rw [if_pos h4, if_neg (by omega)]
    exact nI_0.symm
  · rw [if_neg h4, if_neg (by rw [hs (by omega)]; decide)]
    have hle : (M ++ [b]).length ≤ 4 + bsz (M ++ [b]) := by
      rcases hp with hp | hp
      · omega
      · by_cases h3 : M.length < 4
        · omega
        · rw [bsz_app (by omega)]
          omega
    by_cases h5 : (M ++ [b]).length < 4 + bsz (M ++ [b])
    · rw [if_pos h5, if_neg (by omega)]
      exact nI_0.symm
    · rw [if_neg h5, if_pos ⟨by omega, by omega⟩]
      congr 1
      omega
/-- the reference's numbers behind a whole message: a wrong proof is told by the answer alone -/
def dnB (nb w : Nat) (Ls : Nat → List Nat) : Prop := w = 20 ∧ ¬ (Ls 4).drop 4 = macL (lblL (Ls (15 - nb)) 6 []) (sha (Ls 5))
theorem mW_0 {nb w : Nat} {mf : Nat → Nat → Int32} {Ls : Nat → List Nat} {ns : Nat → Nat} (h4 : wtL 0 (ns 4) (Ls 4) = [] ∧ wtL 1 (ns 4) (Ls 4) = []) (h0 : mf 19 (2 * nb + 0) = nI 0) (h1 : mf 19 (2 * nb + 1) = nI 0) : mW nb mf Ls ns := by
  unfold mW
  rw [h4.1, h4.2]
  exact ⟨⟨bo_nil _ _, h0⟩, bo_nil _ _, h1⟩
theorem neg3 {v : Nat} (h : v = 266 ∨ v = 306 ∨ v = 307) : -(nI v) ≤ 0 ∧ ¬ 0 ≤ -(nI v) ∧ -(-(nI v)) = nI v ∧ ¬ nI v ≤ 0 := by
  rcases h with rfl | rfl | rfl <;> decide
