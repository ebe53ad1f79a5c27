/-! WHAT STAYS TRUE OF BOTH SIDES, STEP BY STEP -/
theorem dWd_nn {g : GG} {a : DA} {ff tf : Nat → Int32} {tz : Nat} {hs : Nat → Nat → Int32} {hz : Nat → Nat} {zs : Nat → Nat → Nat} {fs : Nat → Nat → Nat → Int32} {ns nn : Nat → Nat → Nat} (h0 : ns 0 = nn 0) (h1 : ns 1 = nn 1) : dWd g a ff (tf, tz, hs, hz, zs, fs, ns) = dWd g a ff (tf, tz, hs, hz, zs, fs, nn) := by
  unfold dWd
  show _ ++ (_ ++ (sWd g _ _ 0 _ (ns 0) _ _ ++ sWd g _ _ 1 _ (ns 1) _ _)) = _ ++ (_ ++ (sWd g _ _ 0 _ (nn 0) _ _ ++ sWd g _ _ 1 _ (nn 1) _ _))
  rw [h0, h1]
theorem okD_row {T T9 : List Nat} {LL : Nat → Nat → List Nat} {nn : Nat → Nat → Nat} {tf t9 : Nat → Int32} {tz z9 : Nat} {hs h9 : Nat → Nat → Int32} {hz hz9 : Nat → Nat} {zs : Nat → Nat → Nat} {fs : Nat → Nat → Nat → Int32} {nb : Nat} {L9 : Nat → List Nat} {zz : Nat → Nat} {f9 : Nat → Nat → Int32}
    (h : okD (T, LL, nn) (tf, tz, hs, hz, zs, fs, nn)) (hT : bz T9 t9) (hz9' : z9 = T9.length) (hO : okB L9 zz f9) : okD (T9, va_up LL nb L9, nn) (t9, z9, h9, hz9, va_up zs nb zz, va_up fs nb f9, nn) := by
  refine ⟨hT, hz9', fun k hk => ?_⟩
  by_cases e : k = nb
  · subst e
    show okB (va_up LL k L9 k) (va_up zs k zz k) (va_up fs k f9 k) ∧ nn k = nn k
    rw [va_up_self, va_up_self, va_up_self]
    exact ⟨hO, rfl⟩
  · show okB (va_up LL nb L9 k) (va_up zs nb zz k) (va_up fs nb f9 k) ∧ nn k = nn k
    rw [va_up_ne _ _ e, va_up_ne _ _ e, va_up_ne _ _ e]
    exact h.2.2 k hk
theorem okM_row {T T9 : List Nat} {LL : Nat → Nat → List Nat} {nn : Nat → Nat → Nat} {q q9 : MT} {nb : Nat} {L9 : Nat → List Nat} (h : okM (T, LL, nn) q) (hI : inv (T, LL, nn)) (hnb : nb < 2) (hT : bz T9 q9.1) (hz9 : q9.2.1 = T9.length) (hS : mS nb q9.2.2.2.2.2 L9 (nn nb)) (hF : mFr nb q.2.2.2.2.2 q9.2.2.2.2.2) : okM (T9, va_up LL nb L9, nn) q9 := by
  have h2 := okM_side (n9 := nn nb) h hI hnb hT hz9 hS hF
  rw [va_upS (f := nn) (k := nb) rfl] at h2
  exact h2
theorem inv_row {T T9 : List Nat} {LL : Nat → Nat → List Nat} {nn : Nat → Nat → Nat} {nb : Nat} {L9 : Nat → List Nat} (hI : inv (T, LL, nn)) (h8 : by8 T9) (hl : T9.length ≤ 2048) (hS : SI nb L9 (nn nb)) : inv (T9, va_up LL nb L9, nn) := by
  have h2 := inv_side (n9 := nn nb) hI h8 hl hS
  rw [va_upS (f := nn) (k := nb) rfl] at h2
  exact h2
theorem SI_key {nb : Nat} {Ls : Nat → List Nat} {ns : Nat → Nat} {T : List Nat} (h : SI nb Ls ns) (h1 : ns 1 = 0) (h8 : by8 T) (hT : T.length = 32) : SI nb (va_up Ls 0 T) ns := by
  obtain ⟨r, a, b, c, d⟩ := h
  refine ⟨rk_up r h8 (by rw [hT]; decide), a, b, ?_, d⟩
  rcases c with ⟨c1, f1, f2, f3, f4⟩ | ⟨c1, -⟩
  · exact Or.inl ⟨c1, f1, Or.inr hT, f3, f4⟩
  · omega
theorem SI_rnd {nb : Nat} {Ls : Nat → List Nat} {ns : Nat → Nat} {T : List Nat} (h : SI nb Ls ns) (h1 : ns 1 = 0) (h8 : by8 T) (hT : T.length = 32) : SI nb (va_up Ls 1 T) ns := by
  obtain ⟨r, a, b, c, d⟩ := h
  refine ⟨rk_up r h8 (by rw [hT]; decide), a, b, ?_, d⟩
  rcases c with ⟨c1, f1, f2, f3, f4⟩ | ⟨c1, -⟩
  · exact Or.inl ⟨c1, f1, f2, Or.inr hT, f4⟩
  · omega
theorem SI_own {nb : Nat} {Ls : Nat → List Nat} {ns : Nat → Nat} {T : List Nat} (h : SI nb Ls ns) (h1 : ns 1 = 0) (h8 : by8 T) (hT : T.length ≤ 300) : SI nb (va_up Ls 3 T) ns := by
  obtain ⟨r, a, b, c, d⟩ := h
  refine ⟨rk_up r h8 hT, a, b, ?_, d⟩
  rcases c with ⟨c1, f⟩ | ⟨c1, -⟩
  · exact Or.inl ⟨c1, f⟩
  · omega
theorem SI_nam {nb : Nat} {Ls : Nat → List Nat} {ns : Nat → Nat} {T : List Nat} (h : SI nb Ls ns) : SI nb (pFirst Ls T) ns := by
  obtain ⟨r, a, b, c, d1, d2, d3, d⟩ := h
  have r2 : rk (pFirst Ls T) := rk_up (rk_up (rk_up r (macL_by8 _ _) (by rw [macL_length]; decide)) (lblL_by8 _ _ _) (by rw [lblL_length]; decide)) (lblL_by8 _ _ _) (by rw [lblL_length]; decide)
  refine ⟨r2, a, b, ?_, d1, d2, Or.inr ⟨lblL_length _ _ _, lblL_length _ _ _⟩, d⟩
  rcases c with ⟨c1, f⟩ | ⟨c1, s1, s2⟩
  · exact Or.inl ⟨c1, f⟩
  · exact Or.inr ⟨c1, r2, s2⟩
/-- the sizes that a read message leaves alone or lets grow -/
def gr (L L2 : Nat → List Nat) : Prop := (L 8).length ≤ (L2 8).length ∧ (L 9).length ≤ (L2 9).length ∧ (L2 11).length = (L 11).length ∧ (L2 12).length = (L 12).length ∧
  (((L2 14).length = (L 14).length ∧ (L2 15).length = (L 15).length) ∨ ((L2 14).length = 32 ∧ (L2 15).length = 32)) ∧ (((L2 17).length = (L 17).length ∧ (L2 18).length = (L 18).length) ∨ ((L2 17).length = 32 ∧ (L2 18).length = 32 ∧ 0 < (L2 14).length))
theorem gr_rf (L : Nat → List Nat) : gr L L := ⟨Nat.le_refl _, Nat.le_refl _, rfl, rfl, Or.inl ⟨rfl, rfl⟩, Or.inl ⟨rfl, rfl⟩⟩
theorem gr_read {nb w : Nat} {L : Nat → List Nat} (hw : okW nb L w) : gr L (rmL nb w L) := by
  obtain ⟨h0, h1, hp, hW⟩ := hw
  rcases hW with ⟨w1, n1, a, b, d⟩ | ⟨w1, n1, a, b⟩ | ⟨w1, n1, a, b, d, d2, d3⟩ | ⟨w1, n1, a, b, d, d2, d3⟩ | ⟨w1, n1, a, b⟩ <;> subst w1 <;> subst n1
  · rw [show rmL 1 1 L = rdHello L from rfl]
    obtain ⟨K1, K2, L3, L5, e3, e5, e⟩ := rdHello_is L
    have q := pSec_len (Ls := L3) (r := 13) (i := 2) (K := K1) (by decide)
    have q2 := pSec_len (Ls := pSay (pPrf L5 15) 20 1 (pPrf L5 15 7)) (r := 16) (i := 4) (K := K2) (by decide)
    have l14 : (rdHello L 14).length = 32 := rdHello_14 L
    have l15 : (rdHello L 15).length = 32 := by
      rw [e, pSec_o (by omega), pSay_o (by omega), pPrf_o (by omega), e5, pSay_o (by omega)]
      exact q.2.2
    refine ⟨by omega, by omega, ?_, ?_, Or.inr ⟨l14, l15⟩, Or.inr ⟨?_, ?_, by omega⟩⟩
    · rw [e, pSec_o (by omega), pSay_o (by omega), pPrf_o (by omega), e5, pSay_o (by omega), pSec_o (by omega), e3, pSay_o (by omega), pSto_o (by omega), pOth_o (by omega)]
    · rw [e, pSec_o (by omega), pSay_o (by omega), pPrf_o (by omega), e5, pSay_o (by omega), pSec_o (by omega), e3, pSay_o (by omega), pSto_o (by omega), pOth_o (by omega)]
    · rw [e]; exact q2.2.1
    · rw [e]; exact q2.2.2
  · rw [show rmL 0 2 L = pSec (pSto L) 13 2 (pSto L 0) from rfl]
    obtain ⟨q1, q2, q3⟩ := pSec_len (Ls := pSto L) (r := 13) (i := 2) (K := pSto L 0) (by decide)
    refine ⟨?_, ?_, ?_, ?_, Or.inr ⟨q2, q3⟩, Or.inl ⟨?_, ?_⟩⟩
    all_goals rw [pSec_o (by omega), pSto_o (by omega)]
    all_goals exact Nat.le_refl _
  · exact gr_rf L
  · by_cases hg : (L 4).drop 4 = macL (lblL (L 15) 6 []) (sha (L 5))
    · rw [show rmL 0 20 L = rdDone0 L from if_pos hg, show rdDone0 L = pSay (pPrf (pSec (pSto (pPrf L 15)) 16 4 (pSto (pPrf L 15) 13)) 14) 20 1 (pPrf (pSec (pSto (pPrf L 15)) 16 4 (pSto (pPrf L 15) 13)) 14 7) from rfl]
      obtain ⟨q1, q2, q3⟩ := pSec_len (Ls := pSto (pPrf L 15)) (r := 16) (i := 4) (K := pSto (pPrf L 15) 13) (by decide)
      have o : ∀ k, k ≠ 5 → k ≠ 9 → k ≠ 6 → k ≠ 7 → k ≠ 16 → k ≠ 17 → k ≠ 18 → pSay (pPrf (pSec (pSto (pPrf L 15)) 16 4 (pSto (pPrf L 15) 13)) 14) 20 1 (pPrf (pSec (pSto (pPrf L 15)) 16 4 (pSto (pPrf L 15) 13)) 14 7) k = L k := fun k a1 a2 a3 a4 a5 a6 a7 => by
        rw [pSay_o ⟨a1, a2⟩, pPrf_o ⟨a4, a3⟩, pSec_o ⟨a3, a5, a6, a7⟩, pSto_o a1, pPrf_o ⟨a4, a3⟩]
      refine ⟨by rw [o 8 (by decide) (by decide) (by decide) (by decide) (by decide) (by decide) (by decide)]; exact Nat.le_refl _, by omega, by rw [o 11 (by decide) (by decide) (by decide) (by decide) (by decide) (by decide) (by decide)], by rw [o 12 (by decide) (by decide) (by decide) (by decide) (by decide) (by decide) (by decide)],
        Or.inl ⟨by rw [o 14 (by decide) (by decide) (by decide) (by decide) (by decide) (by decide) (by decide)], by rw [o 15 (by decide) (by decide) (by decide) (by decide) (by decide) (by decide) (by decide)]⟩, Or.inr ⟨?_, ?_, by rw [o 14 (by decide) (by decide) (by decide) (by decide) (by decide) (by decide) (by decide)]; omega⟩⟩
      · rw [pSay_o (by omega), pPrf_o (by omega)]; exact q2
      · rw [pSay_o (by omega), pPrf_o (by omega)]; exact q3
    · rw [show rmL 0 20 L = pPrf L 15 from if_neg hg]
      exact gr_rf L
  · by_cases hg : (L 4).drop 4 = macL (lblL (L 14) 6 []) (sha (L 5))
    · rw [show rmL 1 20 L = rdDone1 L from if_pos hg]
      exact gr_rf L
    · rw [show rmL 1 20 L = pPrf L 14 from if_neg hg]
      exact gr_rf L
theorem rm_2 {nb w : Nat} {L : Nat → List Nat} {n : Nat → Nat} (hw : okW nb L w) : rmN nb w L n 0 = 0 → (rmL nb w L 2).length = (L 2).length ∧ n 0 = 0 := by
  obtain ⟨h0, h1, hp, hW⟩ := hw
  rcases hW with ⟨w1, n1, a, b, d⟩ | ⟨w1, n1, a, b⟩ | ⟨w1, n1, a, b, d, d2, d3⟩ | ⟨w1, n1, a, b, d, d2, d3⟩ | ⟨w1, n1, a, b⟩ <;> subst w1 <;> subst n1
  · intro h
    have h : (1 : Nat) = 0 := h
    omega
  · intro h
    exact ⟨rfl, h⟩
  · intro h
    have h : (1 : Nat) = 0 := h
    omega
  · by_cases hg : (L 4).drop 4 = macL (lblL (L 15) 6 []) (sha (L 5))
    · rw [show rmL 0 20 L = rdDone0 L from if_pos hg, show rmN 0 20 L n = va_up (va_up n 2 1) 4 0 from if_pos hg]
      intro h
      exact ⟨rfl, h⟩
    · rw [show rmL 0 20 L = pPrf L 15 from if_neg hg, show rmN 0 20 L n = va_up n 3 307 from if_neg hg]
      intro h
      exact ⟨rfl, h⟩
  · by_cases hg : (L 4).drop 4 = macL (lblL (L 14) 6 []) (sha (L 5))
    · rw [show rmL 1 20 L = rdDone1 L from if_pos hg, show rmN 1 20 L n = va_up (va_up n 2 1) 4 0 from if_pos hg]
      intro h
      exact ⟨rfl, h⟩
    · rw [show rmL 1 20 L = pPrf L 14 from if_neg hg, show rmN 1 20 L n = va_up n 3 307 from if_neg hg]
      intro h
      exact ⟨rfl, h⟩
/-- the rest of what stays true, from rows that only grew -/
theorem SI_gr {nb : Nat} {Ls L2 : Nat → List Nat} {ns n2 : Nat → Nat} (h : SI nb Ls ns) (hs : sI nb L2 n2) (hg : gr Ls L2) (e1 : n2 1 = 1) (e5 : n2 5 = ns 5) (e6 : n2 6 = ns 6) (e0 : n2 0 = 0 → (L2 2).length = 0) : SI nb L2 n2 := by
  obtain ⟨r, a, b, c, d1, d2, d3, d4, d5, d6, d7⟩ := h
  obtain ⟨g1, g2, g3, g4, g5, g6⟩ := hg
  refine ⟨hs.1, by omega, by omega, Or.inr ⟨e1, hs⟩, by omega, by omega, ?_, by omega, by omega, by omega, e0⟩
  rw [g3, g4]
  exact d3
theorem gr_4 {L L2 : Nat → List Nat} {X : List Nat} (h : gr (va_up L 4 X) L2) : gr L L2 := h
theorem gr_5 {L L2 : Nat → List Nat} {X : List Nat} (h : gr L L2) : gr L (va_up L2 4 X) := h
theorem up2 {L : Nat → List Nat} {X : List Nat} : (va_up L 4 X 2).length = (L 2).length := rfl
theorem SI_step {nb l b : Nat} {Ls : Nat → List Nat} {ns : Nat → Nat} (h : SI nb Ls ns) (h1 : ns 1 = 1) (h0 : ns 3 = 0) (hb : b < 256) : SI nb (stE (stB nb l b (Ls, ns))).1 (stE (stB nb l b (Ls, ns))).2 ∧ (stE (stB nb l b (Ls, ns))).2 1 = 1 := by
  have hsI : sI nb Ls ns := by
    rcases h.2.2.2.1 with ⟨q, -⟩ | ⟨-, q⟩
    · omega
    · exact q
  have hs := sI_step (l := l) hsI h0 hb
  have h7 := h.2.2.2.2.2.2.2.2.2.2
  by_cases hf : fltN l (ns 4) (Ls 4 ++ [b]) = 0
  · by_cases hw : 4 ≤ (Ls 4 ++ [b]).length ∧ (Ls 4 ++ [b]).length = 4 + bsz (Ls 4 ++ [b])
    · obtain ⟨ok, -⟩ := hrI_live hsI.2.1 h0 hf
      have okA : okW nb (va_up Ls 4 (Ls 4 ++ [b])) (ns 4) := okW_4 ok
      have hne : ¬ ns 4 = 0 := by
        intro e
        have := (fltN_0 hf).1
        rw [e, lvB_0] at this
        exact absurd this (by decide)
      obtain ⟨k1, k2, k3, k4⟩ := rmN_f (n := va_up ns 3 0) okA (hsI.2.2.2.1 hne) hsI.2.2.2.2.2.1 hsI.2.2.2.2.1
      have hgr : gr Ls (rmL nb (ns 4) (va_up Ls 4 (Ls 4 ++ [b]))) := gr_4 (gr_read okA)
      have h2 := rm_2 (n := va_up ns 3 0) okA
      rw [stB_whole hf hw] at hs ⊢
      by_cases hg : rmN nb (ns 4) (va_up Ls 4 (Ls 4 ++ [b])) (va_up ns 3 0) 3 = 0
      · rw [show stE (va_up (rmL nb (ns 4) (va_up Ls 4 (Ls 4 ++ [b]))) 4 [], rmN nb (ns 4) (va_up Ls 4 (Ls 4 ++ [b])) (va_up ns 3 0)) = (va_up (rmL nb (ns 4) (va_up Ls 4 (Ls 4 ++ [b]))) 4 [], rmN nb (ns 4) (va_up Ls 4 (Ls 4 ++ [b])) (va_up ns 3 0)) from if_pos hg] at hs ⊢
        have e1 : rmN nb (ns 4) (va_up Ls 4 (Ls 4 ++ [b])) (va_up ns 3 0) 1 = 1 := (k4 1 (by omega)).trans h1
        exact ⟨SI_gr h hs (gr_5 hgr) e1 (k4 5 (by omega)) (k4 6 (by omega)) (fun e => (up2 (L := rmL nb (ns 4) (va_up Ls 4 (Ls 4 ++ [b]))) (X := [])).trans ((h2 e).1.trans (h7 (h2 e).2))), e1⟩
      · rw [show stE (va_up (rmL nb (ns 4) (va_up Ls 4 (Ls 4 ++ [b]))) 4 [], rmN nb (ns 4) (va_up Ls 4 (Ls 4 ++ [b])) (va_up ns 3 0)) = (va_up (va_up (rmL nb (ns 4) (va_up Ls 4 (Ls 4 ++ [b]))) 4 []) 4 [], va_up (rmN nb (ns 4) (va_up Ls 4 (Ls 4 ++ [b])) (va_up ns 3 0)) 4 0) from if_neg hg] at hs ⊢
        have e1 : rmN nb (ns 4) (va_up Ls 4 (Ls 4 ++ [b])) (va_up ns 3 0) 1 = 1 := (k4 1 (by omega)).trans h1
        exact ⟨SI_gr h hs (gr_5 (gr_5 hgr)) e1 (k4 5 (by omega)) (k4 6 (by omega)) (fun e => (up2 (L := rmL nb (ns 4) (va_up Ls 4 (Ls 4 ++ [b]))) (X := [])).trans ((h2 e).1.trans (h7 (h2 e).2))), e1⟩
    · rw [stB_more hf hw] at hs ⊢
      rw [show stE (va_up Ls 4 (Ls 4 ++ [b]), va_up ns 3 0) = (va_up Ls 4 (Ls 4 ++ [b]), va_up ns 3 0) from if_pos rfl] at hs ⊢
      exact ⟨SI_gr h hs (gr_rf Ls) h1 rfl rfl h7, h1⟩
  · rw [stB_flt rfl hf] at hs ⊢
    rw [show stE (va_up Ls 4 (Ls 4 ++ [b]), va_up ns 3 (fltN l (ns 4) (Ls 4 ++ [b]))) = (va_up (va_up Ls 4 (Ls 4 ++ [b])) 4 [], va_up (va_up ns 3 (fltN l (ns 4) (Ls 4 ++ [b]))) 4 0) from if_neg hf] at hs ⊢
    exact ⟨SI_gr h hs (gr_rf Ls) h1 rfl rfl h7, h1⟩
theorem SI_F {nb l : Nat} {R : List Nat} : ∀ {q : Sd}, by8 R → SI nb (stE q).1 (stE q).2 → (stE q).2 1 = 1 → SI nb (stE (stF nb l R q)).1 (stE (stF nb l R q)).2 := by
  induction R with
  | nil => intro q _ h _; exact h
  | cons b R ih =>
    intro q h8 h h1
    by_cases e : q.2 3 = 0
    · rw [stF_cons e]
      rw [show stE q = q from if_pos e] at h h1
      have hs := SI_step (l := l) h h1 e (h8 b List.mem_cons_self)
      exact ih (fun x hx => h8 x (List.mem_cons_of_mem _ hx)) hs.1 hs.2
    · rw [stF_dead e]
      exact h
theorem SI_hear {nb l k0 ct : Nat} {M : List Nat} {Ls : Nat → List Nat} {ns : Nat → Nat} (h : SI nb Ls ns) (hop : ns 1 = 1 ∧ ns 3 = 0) (h8 : by8 M) : SI nb (hrQ nb l M k0 ct Ls ns).1 (hrQ nb l M k0 ct Ls ns).2 := by
  unfold hrQ
  refine SI_F (fun b hb => h8 b (List.mem_of_mem_drop (List.mem_of_mem_take hb))) ?_ ?_
  · rw [show stE (Ls, ns) = (Ls, ns) from if_pos hop.2]
    exact h
  · rw [show stE (Ls, ns) = (Ls, ns) from if_pos hop.2]
    exact hop.1
theorem SI_car0 {nb c : Nat} {Ls : Nat → List Nat} {ns : Nat → Nat} (h : SI nb Ls ns) (hc : c ≤ (Ls 8).length) : SI nb Ls (va_up ns 5 c) := by
  obtain ⟨r, a, b, c1, d⟩ := h
  exact ⟨r, hc, b, c1, d⟩
theorem SI_car1 {nb c : Nat} {Ls : Nat → List Nat} {ns : Nat → Nat} (h : SI nb Ls ns) (hc : c ≤ (Ls 9).length) : SI nb Ls (va_up ns 6 c) := by
  obtain ⟨r, a, b, c1, d⟩ := h
  exact ⟨r, a, hc, c1, d⟩
theorem SI_beg1 {Ls : Nat → List Nat} {ns : Nat → Nat} (h : SI 1 Ls ns) (h1 : ns 1 = 0) (k0 : (Ls 0).length = 32) (k1 : (Ls 1).length = 32) : SI 1 Ls (va_up (va_up ns 1 1) 4 1) := by
  obtain ⟨r, a, b, c, d⟩ := h
  rcases c with ⟨-, ⟨f1, f2, f3, f4⟩, f5, f6, ⟨g1, g2, g3, g4, g5⟩, g6, g7⟩ | ⟨c1, -⟩
  · exact ⟨r, a, b, Or.inr ⟨rfl, r, Or.inr ⟨f3, Or.inr (Or.inl rfl), Or.inr ⟨⟨k0, k1, r.2 3 (by decide), Or.inl ⟨rfl, rfl, g3, g4, g5⟩⟩, Or.inl (by show (Ls 4).length < 4; omega)⟩⟩, fun _ => g7, fun _ => f2, Or.inr (Or.inl rfl), by show ns 0 < 2; omega, by show ns 2 < 2; omega⟩, d⟩
  · omega
theorem SI_beg0 {Ls : Nat → List Nat} {ns : Nat → Nat} (h : SI 0 Ls ns) (h1 : ns 1 = 0) (k0 : (Ls 0).length = 32) (k1 : (Ls 1).length = 32) : SI 0 (sayHi Ls) (va_up (va_up ns 1 1) 4 2) := by
  obtain ⟨r, a, b, c, d1, d2, d3, d4, d5, d6, d7⟩ := h
  rcases c with ⟨-, ⟨f1, f2, f3, f4⟩, f5, f6, ⟨g1, g2, g3, g4, g5⟩, g6, g7⟩ | ⟨c1, -⟩
  · have b3 : (Ls 3).length ≤ 300 := r.2 3 (by decide)
    have hM : (msgL 1 (Ls 1 ++ Ls 3)).length = 4 + (32 + (Ls 3).length) := by rw [msgL_length, List.length_append, k1]
    have m8 : by8 (msgL 1 (Ls 1 ++ Ls 3)) := by8_msg (by decide) (by8_app (r.1 1 (by decide)) (r.1 3 (by decide)))
    have hR := sayHi_rows Ls
    have r2 : rk (va_up (va_up (va_up Ls 8 (Ls 8 ++ msgL 1 (Ls 1 ++ Ls 3))) 5 (Ls 5 ++ msgL 1 (Ls 1 ++ Ls 3))) 4 []) :=
      rk_up (rk_up (rk_up r (by8_app (r.1 8 (by decide)) m8) (by rw [List.length_append, hM]; show _ ≤ 336; omega)) (by8_app (r.1 5 (by decide)) m8) (by rw [List.length_append, hM]; show _ ≤ 748; omega)) by8_nil (Nat.zero_le _)
    have r3 : rk (sayHi Ls) := ⟨fun k hk => by rw [← hR k hk]; exact r2.1 k hk, fun k hk => by rw [← hR k hk]; exact r2.2 k hk⟩
    have l5 : (sayHi Ls 5).length ≤ 336 := by
      rw [← hR 5 (by decide)]
      show (Ls 5 ++ msgL 1 (Ls 1 ++ Ls 3)).length ≤ 336
      rw [List.length_append, hM]
      omega
    have l8 : (Ls 8).length ≤ (sayHi Ls 8).length := by
      rw [← hR 8 (by decide)]
      show _ ≤ (Ls 8 ++ msgL 1 (Ls 1 ++ Ls 3)).length
      rw [List.length_append]
      omega
    refine ⟨r3, Nat.le_trans a l8, b, Or.inr ⟨rfl, r3, Or.inr ⟨f3, Or.inr (Or.inr (Or.inl rfl)), Or.inr ⟨⟨k0, k1, b3, Or.inr (Or.inl ⟨rfl, rfl, l5, g5⟩)⟩, Or.inl (by show (0 : Nat) < 4; decide)⟩⟩, fun _ => g7, fun _ => f2, Or.inr (Or.inr (Or.inl rfl)), by show ns 0 < 2; omega, by show ns 2 < 2; omega⟩, d1, d2, d3, d4, d5, d6, d7⟩
  · omega
