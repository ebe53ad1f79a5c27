/-! A SIDE HEARS: one byte, a piece, its end (pure) -/
def fltN (l w : Nat) (M : List Nat) : Nat := if ¬ (lvB l w = true ∧ M.getD 0 0 = w) then 266 else if 4 ≤ M.length ∧ szB w (bsz M) = false then 306 else 0
abbrev Sd : Type := (Nat → List Nat) × (Nat → Nat)
def stB (nb l b : Nat) (q : Sd) : Sd :=
  if fltN l (q.2 4) (q.1 4 ++ [b]) = 0 then
    (if 4 ≤ (q.1 4 ++ [b]).length ∧ (q.1 4 ++ [b]).length = 4 + bsz (q.1 4 ++ [b]) then
      (va_up (rmL nb (q.2 4) (va_up q.1 4 (q.1 4 ++ [b]))) 4 [], rmN nb (q.2 4) (va_up q.1 4 (q.1 4 ++ [b])) (va_up q.2 3 0))
    else (va_up q.1 4 (q.1 4 ++ [b]), va_up q.2 3 0))
  else (va_up q.1 4 (q.1 4 ++ [b]), va_up q.2 3 (fltN l (q.2 4) (q.1 4 ++ [b])))
def stF (nb l : Nat) : List Nat → Sd → Sd
  | [], q => q
  | b :: R, q => if q.2 3 = 0 then stF nb l R (stB nb l b q) else q
def stE (q : Sd) : Sd := if q.2 3 = 0 then q else (va_up q.1 4 [], va_up q.2 4 0)
theorem stF_dead {nb l : Nat} {R : List Nat} {q : Sd} (h : ¬ q.2 3 = 0) : stF nb l R q = q := by
  cases R with
  | nil => rfl
  | cons b R => rw [stF, if_neg h]
theorem stF_cons {nb l b : Nat} {R : List Nat} {q : Sd} (h : q.2 3 = 0) : stF nb l (b :: R) q = stF nb l R (stB nb l b q) := by rw [stF, if_pos h]
/-- a part of a message waits -/
def ptM (w : Nat) (M : List Nat) : Prop := M.length < 4 ∨ (M.length < 4 + bsz M ∧ szB w (bsz M) = true)
def hrI (nb : Nat) (Ls : Nat → List Nat) (ns : Nat → Nat) : Prop := (¬ ns 3 = 0 ∧ ns 3 ≤ 307) ∨ (ns 3 = 0 ∧ isT (ns 4) ∧ ((ns 4 = 0 ∧ (Ls 4).length = 0) ∨ (okW nb Ls (ns 4) ∧ ptM (ns 4) (Ls 4))))
theorem szB_le {w n : Nat} (h : szB w n = true) : n ≤ 332 := by
  unfold szB at h
  split at h
  · exact (of_decide_eq_true h).2
  · split at h
    · have := of_decide_eq_true h
      omega
    · have := of_decide_eq_true h
      omega
theorem ptM_lt {w : Nat} {M : List Nat} (h : ptM w M) : M.length < 336 := by
  rcases h with h | ⟨h, h2⟩
  · omega
  · have := szB_le h2
    omega
theorem hrI_lt {nb : Nat} {Ls : Nat → List Nat} {ns : Nat → Nat} (h : hrI nb Ls ns) (h0 : ns 3 = 0) : (Ls 4).length < 336 := by
  rcases h with h | ⟨-, -, h | h⟩
  · exact absurd h0 h.1
  · omega
  · exact ptM_lt h.2
theorem hrI_T {nb : Nat} {Ls : Nat → List Nat} {ns : Nat → Nat} (h : hrI nb Ls ns) (h0 : ns 3 = 0) : isT (ns 4) := by
  rcases h with h | ⟨-, h, -⟩
  · exact absurd h0 h.1
  · exact h
theorem hrI_3 {nb : Nat} {Ls : Nat → List Nat} {ns : Nat → Nat} (h : hrI nb Ls ns) : ns 3 ≤ 307 := by
  rcases h with h | h
  · exact h.2
  · omega
theorem lvB_0 (l : Nat) : lvB l 0 = false := by
  unfold lvB
  simp
theorem fltN_le (l w : Nat) (M : List Nat) : fltN l w M ≤ 306 := by
  unfold fltN
  split
  · omega
  · split <;> omega
theorem fltN_0 {l w : Nat} {M : List Nat} (h : fltN l w M = 0) : lvB l w = true ∧ (4 ≤ M.length → szB w (bsz M) = true) := by
  unfold fltN at h
  split at h
  · omega
  · rename_i h1
    have h1 := Decidable.not_not.mp h1
    split at h
    · omega
    · rename_i h2
      refine ⟨h1.1, fun h4 => ?_⟩
      cases e : szB w (bsz M) with
      | true => rfl
      | false => exact absurd ⟨h4, e⟩ h2
theorem okW_4 {nb w : Nat} {Ls : Nat → List Nat} {X : List Nat} (h : okW nb Ls w) : okW nb (va_up Ls 4 X) w := h
theorem bsz_app {M : List Nat} (h : 4 ≤ M.length) (b : Nat) : bsz (M ++ [b]) = bsz M := by
  unfold bsz
  simp only [List.getD_eq_getElem?_getD]
  rw [List.getElem?_append_left (by omega), List.getElem?_append_left (by omega), List.getElem?_append_left (by omega)]
/-- it waits for something, and the byte is no fault -/
theorem hrI_live {nb l b : Nat} {Ls : Nat → List Nat} {ns : Nat → Nat} (h : hrI nb Ls ns) (h0 : ns 3 = 0) (hf : fltN l (ns 4) (Ls 4 ++ [b]) = 0) : okW nb Ls (ns 4) ∧ ptM (ns 4) (Ls 4) := by
  rcases h with h | ⟨-, -, h | h⟩
  · exact absurd h0 h.1
  · have h1 := (fltN_0 hf).1
    rw [h.1, lvB_0] at h1
    exact absurd h1 (by decide)
  · exact h
theorem hrI_more {nb l b : Nat} {Ls : Nat → List Nat} {ns : Nat → Nat} (h : hrI nb Ls ns) (h0 : ns 3 = 0) (hf : fltN l (ns 4) (Ls 4 ++ [b]) = 0) (hn : ¬ (4 ≤ (Ls 4 ++ [b]).length ∧ (Ls 4 ++ [b]).length = 4 + bsz (Ls 4 ++ [b]))) : hrI nb (va_up Ls 4 (Ls 4 ++ [b])) (va_up ns 3 0) := by
  obtain ⟨hw, hp⟩ := hrI_live h h0 hf
  refine Or.inr ⟨rfl, (show isT (ns 4) from hrI_T h h0), Or.inr ⟨okW_4 hw, ?_⟩⟩
  show ptM (ns 4) (Ls 4 ++ [b])
  rw [List.length_append, List.length_singleton] at hn
  by_cases h4 : (Ls 4).length + 1 < 4
  · left
    rw [List.length_append, List.length_singleton]
    exact h4
  · right
    have hs := (fltN_0 hf).2 (by rw [List.length_append, List.length_singleton]; omega)
    refine ⟨?_, hs⟩
    rw [List.length_append, List.length_singleton]
    rcases hp with hp | hp
    · omega
    · by_cases h3 : (Ls 4).length = 3
      · omega
      · have := bsz_app (M := Ls 4) (by omega) b
        rw [this] at hn ⊢
        omega
theorem hrI_whole {nb l b : Nat} {Ls : Nat → List Nat} {ns : Nat → Nat} (hf : fltN l (ns 4) (Ls 4 ++ [b]) = 0) (hn : 4 ≤ (Ls 4 ++ [b]).length ∧ (Ls 4 ++ [b]).length = 4 + bsz (Ls 4 ++ [b])) : whM (ns 4) (va_up Ls 4 (Ls 4 ++ [b]) 4) := ⟨hn.2, (fltN_0 hf).2 hn.1⟩
theorem pSec_o {Ls : Nat → List Nat} {r i k : Nat} {K : List Nat} (h : k ≠ 6 ∧ k ≠ r ∧ k ≠ r + 1 ∧ k ≠ r + 2) : pSec Ls r i K k = Ls k := by
  unfold pSec
  rw [va_up_ne _ _ h.2.2.2, va_up_ne _ _ h.2.2.1, va_up_ne _ _ h.2.1, va_up_ne _ _ h.1]
theorem pSay_o {Ls : Nat → List Nat} {t l k : Nat} {M : List Nat} (h : k ≠ 5 ∧ k ≠ 8 + l) : pSay Ls t l M k = Ls k := by
  unfold pSay
  rw [va_up_ne _ _ h.1, va_up_ne _ _ h.2]
theorem pSay_5 {Ls : Nat → List Nat} {t l : Nat} {M : List Nat} : pSay Ls t l M 5 = Ls 5 ++ msgL t M := va_up_self _ _ _
theorem pPrf_o {Ls : Nat → List Nat} {q k : Nat} (h : k ≠ 7 ∧ k ≠ 6) : pPrf Ls q k = Ls k := by
  unfold pPrf
  rw [va_up_ne _ _ h.1, va_up_ne _ _ h.2]
theorem pPrf_7 {Ls : Nat → List Nat} {q : Nat} : (pPrf Ls q 7).length = 32 := by
  unfold pPrf
  rw [va_up_self]
  exact macL_length _ _
theorem pSto_o {Ls : Nat → List Nat} {k : Nat} (h : k ≠ 5) : pSto Ls k = Ls k := va_up_ne _ _ h
theorem pSto_5 {Ls : Nat → List Nat} : pSto Ls 5 = Ls 5 ++ Ls 4 := va_up_self _ _ _
theorem pOth_o {Ls : Nat → List Nat} {q k : Nat} (h : k ≠ 2) : pOth Ls q k = Ls k := va_up_ne _ _ h
theorem pSec_len {Ls : Nat → List Nat} {r i : Nat} {K : List Nat} (hr : 7 ≤ r) : (pSec Ls r i K r).length = 32 ∧ (pSec Ls r i K (r + 1)).length = 32 ∧ (pSec Ls r i K (r + 2)).length = 32 := by
  unfold pSec
  refine ⟨?_, ?_, ?_⟩
  · rw [va_up_ne _ _ (by omega), va_up_ne _ _ (by omega), va_up_self]
    exact macL_length _ _
  · rw [va_up_ne _ _ (by omega), va_up_self]
    exact lblL_length _ _ _
  · rw [va_up_self]
    exact lblL_length _ _ _
theorem rdHello_is (L : Nat → List Nat) : ∃ (K1 K2 : List Nat) (L3 L5 : Nat → List Nat), L3 = pSay (pSto (pOth L 36)) 2 0 (pSto (pOth L 36) 1) ∧ L5 = pSay (pSec L3 13 2 K1) 8 1 (pSec L3 13 2 K1 3) ∧ rdHello L = pSec (pSay (pPrf L5 15) 20 1 (pPrf L5 15 7)) 16 4 K2 := ⟨_, _, _, _, rfl, rfl, rfl⟩
theorem rdHello_o {L : Nat → List Nat} {k : Nat} (h : k = 0 ∨ k = 1 ∨ k = 3) : rdHello L k = L k := by
  obtain ⟨K1, K2, L3, L5, e3, e5, e⟩ := rdHello_is L
  rw [e, pSec_o (by omega), pSay_o (by omega), pPrf_o (by omega), e5, pSay_o (by omega), pSec_o (by omega), e3, pSay_o (by omega), pSto_o (by omega), pOth_o (by omega)]
theorem rdHello_14 (L : Nat → List Nat) : (rdHello L 14).length = 32 := by
  obtain ⟨K1, K2, L3, L5, e3, e5, e⟩ := rdHello_is L
  rw [e, pSec_o (by omega), pSay_o (by omega), pPrf_o (by omega), e5, pSay_o (by omega)]
  exact (pSec_len (r := 13) (by decide)).2.1
theorem rdHello_5 (L : Nat → List Nat) : (rdHello L 5).length = (L 5).length + (L 4).length + (4 + (L 1).length) + (4 + (L 3).length) + 36 := by
  obtain ⟨K1, K2, L3, L5, e3, e5, e⟩ := rdHello_is L
  rw [e, pSec_o (by omega), pSay_5, List.length_append, msgL_length, pPrf_7, pPrf_o (by omega), e5, pSay_5, List.length_append, msgL_length, pSec_o (by omega), pSec_o (by omega), e3, pSay_5, List.length_append, msgL_length, pSay_o (by omega), pSto_5, List.length_append, pSto_o (by omega), pSto_o (by omega), pOth_o (by omega), pOth_o (by omega), pOth_o (by omega), pOth_o (by omega)]
/-- behind a whole message -/
theorem hrI_read {nb w : Nat} {L : Nat → List Nat} {n : Nat → Nat} (hw : okW nb L w) (hm : whM w (L 4)) (h3 : n 3 = 0) : hrI nb (va_up (rmL nb w L) 4 []) (rmN nb w L n) := by
  obtain ⟨hm1, hm2⟩ := hm
  obtain ⟨h0, h1, hp, hW⟩ := hw
  have hnil : ∀ X : Nat → List Nat, ptM 20 (va_up X 4 [] 4) ∧ ptM 8 (va_up X 4 [] 4) ∧ (va_up X 4 [] 4).length = 0 := fun X => by
    rw [va_up_self]
    exact ⟨Or.inl (by decide), Or.inl (by decide), rfl⟩
  rcases hW with ⟨w1, n1, a, b, d⟩ | ⟨w1, n1, a, b⟩ | ⟨w1, n1, a, b, d, d2, d3⟩ | ⟨w1, n1, a, b, d, d2, d3⟩ | ⟨w1, n1, a, b⟩ <;> subst w1 <;> subst n1
  · have hsz := of_decide_eq_true (show decide (32 ≤ bsz (L 4) ∧ bsz (L 4) ≤ 332) = true from hm2)
    have h5 := rdHello_5 L
    rw [show rmL 1 1 L = rdHello L from rfl, show rmN 1 1 L n = va_up (va_up n 0 1) 4 20 from rfl]
    refine Or.inr ⟨h3, Or.inr (Or.inr (Or.inr (Or.inr rfl))), Or.inr ⟨okW_4 ⟨?_, ?_, ?_, Or.inr (Or.inr (Or.inr (Or.inr ⟨rfl, rfl, ?_, rdHello_14 L⟩)))⟩, (hnil _).1⟩⟩
    · rw [rdHello_o (by omega)]; exact h0
    · rw [rdHello_o (by omega)]; exact h1
    · rw [rdHello_o (by omega)]; exact hp
    · omega
  · have hsz := of_decide_eq_true (show decide (bsz (L 4) = 32) = true from hm2)
    rw [show rmL 0 2 L = pSec (pSto L) 13 2 (pSto L 0) from rfl, show rmN 0 2 L n = va_up n 4 8 from rfl]
    obtain ⟨q1, q2, q3⟩ := pSec_len (Ls := pSto L) (r := 13) (i := 2) (K := pSto L 0) (by decide)
    refine Or.inr ⟨h3, Or.inr (Or.inr (Or.inr (Or.inl rfl))), Or.inr ⟨okW_4 ⟨?_, ?_, ?_, Or.inr (Or.inr (Or.inl ⟨rfl, rfl, ?_, ?_, q1, q2, q3⟩))⟩, (hnil _).2.1⟩⟩
    · rw [pSec_o (by omega), pSto_o (by omega)]; exact h0
    · rw [pSec_o (by omega), pSto_o (by omega)]; exact h1
    · rw [pSec_o (by omega), pSto_o (by omega)]; exact hp
    · rw [pSec_o (by omega), pSto_5, List.length_append]; omega
    · rw [pSec_o (by omega), pSto_o (by omega)]; exact b
  · have hsz := of_decide_eq_true (show decide (bsz (L 4) ≤ 300) = true from hm2)
    rw [show rmL 0 8 L = pSto (pOth L 4) from rfl, show rmN 0 8 L n = va_up (va_up n 0 1) 4 20 from rfl]
    refine Or.inr ⟨h3, Or.inr (Or.inr (Or.inr (Or.inr rfl))), Or.inr ⟨okW_4 ⟨?_, ?_, ?_, Or.inr (Or.inr (Or.inr (Or.inl ⟨rfl, rfl, ?_, ?_, ?_, ?_, ?_⟩)))⟩, (hnil _).1⟩⟩
    · rw [pSto_o (by omega), pOth_o (by omega)]; exact h0
    · rw [pSto_o (by omega), pOth_o (by omega)]; exact h1
    · rw [pSto_o (by omega), pOth_o (by omega)]; exact hp
    · rw [pSto_5, pOth_o (by omega), pOth_o (by omega), List.length_append]; omega
    · rw [pSto_o (by omega), pOth_o (by omega)]; exact b
    · rw [pSto_o (by omega), pOth_o (by omega)]; exact d
    · rw [pSto_o (by omega), pOth_o (by omega)]; exact d2
    · rw [pSto_o (by omega), pOth_o (by omega)]; exact d3
  · by_cases hg : (L 4).drop 4 = macL (lblL (L 15) 6 []) (sha (L 5))
    · rw [show rmN 0 20 L n = va_up (va_up n 2 1) 4 0 from if_pos hg]
      exact Or.inr ⟨h3, Or.inl rfl, Or.inl ⟨rfl, (hnil _).2.2⟩⟩
    · rw [show rmN 0 20 L n = va_up n 3 307 from if_neg hg]
      exact Or.inl ⟨by show ¬ 307 = 0; decide, Nat.le_refl 307⟩
  · by_cases hg : (L 4).drop 4 = macL (lblL (L 14) 6 []) (sha (L 5))
    · rw [show rmN 1 20 L n = va_up (va_up n 2 1) 4 0 from if_pos hg]
      exact Or.inr ⟨h3, Or.inl rfl, Or.inl ⟨rfl, (hnil _).2.2⟩⟩
    · rw [show rmN 1 20 L n = va_up n 3 307 from if_neg hg]
      exact Or.inl ⟨by show ¬ 307 = 0; decide, Nat.le_refl 307⟩
theorem tk_cons {M : List Nat} {k i ct : Nat} (hk : k + ct ≤ M.length) (hi : i < ct) : (M.drop (k + i)).take (ct - i) = M.getD (k + i) 0 :: (M.drop (k + (i + 1))).take (ct - (i + 1)) := by
  have h1 : k + i < M.length := by omega
  rw [List.drop_eq_getElem_cons h1, show ct - i = (ct - (i + 1)) + 1 by omega, List.take_succ_cons, List.getD_eq_getElem?_getD, List.getElem?_eq_getElem h1]
  rfl
