/-! WHAT STAYS TRUE OF A SIDE BYTE BY BYTE -/
theorem Ct_mono {l : Launch} {D : va_G} {cl : List vw_C} {tys : List (ClassId × FieldType)} {X : (Nat → Prop) → State → Heap → Prop} {y : MethodName} {ws : List Cond} {rm : Room} {av : List Value} {wc : va_W} {S : Type} {post post' : Option Value → S → Prop} {w1 : S → va_W} (h : Ct l D cl tys X y ws rm av wc post w1) (hp : ∀ v u, post v u → post' v u) : Ct l D cl tys X y ws rm av wc post' w1 := by
  intro sz p e ha hc hk s m args below hf happ hP hK
  obtain ⟨n, o, h1, h2, h3, ⟨⟨v, u, a, b, c⟩, d⟩, r⟩ := h sz p e ha hc hk s m args below hf happ hP hK
  exact ⟨n, o, h1, h2, h3, ⟨⟨v, u, a, hp v u b, c⟩, d⟩, r⟩
def rk (Ls : Nat → List Nat) : Prop := (∀ k, k < 19 → by8 (Ls k)) ∧ bd Ls
theorem rk_up {Ls : Nat → List Nat} {k : Nat} {L : List Nat} (h : rk Ls) (h8 : by8 L) (hl : L.length ≤ RMk k) : rk (va_up Ls k L) := by
  refine ⟨fun j hj => ?_, bd_up h.2 hl⟩
  by_cases e : j = k
  · subst e; rw [va_up_self]; exact h8
  · rw [va_up_ne _ _ e]; exact h.1 j hj
theorem rk_sec {Ls : Nat → List Nat} {i : Nat} {K : List Nat} (r : Nat) (hr : r = 13 ∨ r = 16) (h : rk Ls) : rk (pSec Ls r i K) := by
  unfold pSec
  rcases hr with rfl | rfl
  · exact rk_up (rk_up (rk_up (rk_up h (sha_by8 _) (by rw [sha_length]; decide)) (macL_by8 _ _) (by rw [macL_length]; decide)) (lblL_by8 _ _ _) (by rw [lblL_length]; decide)) (lblL_by8 _ _ _) (by rw [lblL_length]; decide)
  · exact rk_up (rk_up (rk_up (rk_up h (sha_by8 _) (by rw [sha_length]; decide)) (macL_by8 _ _) (by rw [macL_length]; decide)) (lblL_by8 _ _ _) (by rw [lblL_length]; decide)) (lblL_by8 _ _ _) (by rw [lblL_length]; decide)
theorem rk_prf {Ls : Nat → List Nat} (k : Nat) (h : rk Ls) : rk (pPrf Ls k) := rk_up (rk_up h (sha_by8 _) (by rw [sha_length]; decide)) (macL_by8 _ _) (by rw [macL_length]; decide)
theorem rk_sto {Ls : Nat → List Nat} (h : rk Ls) (hl : (Ls 5).length + (Ls 4).length ≤ 748) : rk (pSto Ls) := rk_up h (by8_app (h.1 5 (by decide)) (h.1 4 (by decide))) (by rw [List.length_append]; exact hl)
theorem rk_oth {Ls : Nat → List Nat} (k : Nat) (h : rk Ls) (hl : (Ls 4).length ≤ k + 300) : rk (pOth Ls k) := rk_up h (by8_drop (h.1 4 (by decide)) k) (by rw [List.length_drop]; show _ ≤ 300; omega)
theorem rk_say {Ls : Nat → List Nat} {t l : Nat} {M : List Nat} (h : rk Ls) (ht : t < 256) (h8 : by8 M) (hl : l = 0 ∨ l = 1) (h1 : (Ls (8 + l)).length + 4 + M.length ≤ 336) (h5 : (Ls 5).length + 4 + M.length ≤ 748) : rk (pSay Ls t l M) := by
  unfold pSay
  refine rk_up (rk_up h (by8_app (h.1 _ (by omega)) (by8_msg ht h8)) ?_) (by8_app (h.1 5 (by decide)) (by8_msg ht h8)) (by rw [List.length_append, msgL_length]; show _ ≤ 748; omega)
  rw [List.length_append, msgL_length]
  rcases hl with rfl | rfl
  · show (Ls 8).length + _ ≤ 336
    have h1 : (Ls 8).length + 4 + M.length ≤ 336 := h1
    omega
  · show (Ls 9).length + _ ≤ 340
    have h1 : (Ls 9).length + 4 + M.length ≤ 336 := h1
    omega
theorem rk_say9 {Ls : Nat → List Nat} {M : List Nat} (h : rk Ls) (h8 : by8 M) (h1 : (Ls 9).length + 4 + M.length ≤ 340) (h5 : (Ls 5).length + 4 + M.length ≤ 748) : rk (pSay Ls 20 1 M) := rk_up (rk_up h (by8_app (h.1 9 (by decide)) (by8_msg (by decide) h8)) (by rw [List.length_append, msgL_length]; show _ ≤ 340; have h1 : (Ls (8 + 1)).length + 4 + M.length ≤ 340 := h1; omega)) (by8_app (h.1 5 (by decide)) (by8_msg (by decide) h8)) (by rw [List.length_append, msgL_length]; show _ ≤ 748; omega)
/-- a whole message is read: the rows stay within their rooms -/
theorem rk_read {nb w : Nat} {L : Nat → List Nat} (h : rk L) (hw : okW nb L w) (hm : whM w (L 4)) : rk (rmL nb w L) := by
  obtain ⟨hm1, hm2⟩ := hm
  obtain ⟨h0, h1, hp, hW⟩ := hw
  rcases hW with ⟨w1, n1, a, b, d⟩ | ⟨w1, n1, a, b⟩ | ⟨w1, n1, a, b, d, d2, d3⟩ | ⟨w1, n1, a, b, d, d2, d3⟩ | ⟨w1, n1, a, b⟩ <;> subst w1 <;> subst n1
  · have hsz := of_decide_eq_true (show decide (32 ≤ bsz (L 4) ∧ bsz (L 4) ≤ 332) = true from hm2)
    have r2 : rk (pSto (pOth L 36)) := rk_sto (rk_oth 36 h (by omega)) (by rw [pOth_o (by decide), pOth_o (by decide)]; omega)
    obtain ⟨L2, e2⟩ : ∃ q, q = pSto (pOth L 36) := ⟨_, rfl⟩
    rw [← e2] at r2
    have q1 : L2 1 = L 1 := by rw [e2, pSto_o (by decide), pOth_o (by decide)]
    have q3 : L2 3 = L 3 := by rw [e2, pSto_o (by decide), pOth_o (by decide)]
    have q8 : (L2 8).length = 0 := by rw [e2, pSto_o (by decide), pOth_o (by decide)]; exact b
    have q9 : (L2 9).length = 0 := by rw [e2, pSto_o (by decide), pOth_o (by decide)]; exact d
    have q5 : (L2 5).length ≤ 336 := by rw [e2, pSto_5, List.length_append, pOth_o (by decide), pOth_o (by decide)]; omega
    have r3 : rk (pSay L2 2 0 (L2 1)) := rk_say r2 (by decide) (r2.1 1 (by decide)) (Or.inl rfl) (by show (L2 8).length + 4 + _ ≤ _; rw [q1]; omega) (by rw [q1]; omega)
    have r4 : rk (pSec (pSay L2 2 0 (L2 1)) 13 2 (pSay L2 2 0 (L2 1) 0)) := rk_sec 13 (Or.inl rfl) r3
    obtain ⟨L4, e4⟩ : ∃ q, q = pSec (pSay L2 2 0 (L2 1)) 13 2 (pSay L2 2 0 (L2 1) 0) := ⟨_, rfl⟩
    rw [← e4] at r4
    have p3 : L4 3 = L 3 := by rw [e4, pSec_o (by decide), pSay_o (by decide), q3]
    have p9 : (L4 9).length = 0 := by rw [e4, pSec_o (by decide), pSay_o (by decide)]; exact q9
    have p5 : (L4 5).length ≤ 372 := by rw [e4, pSec_o (by decide), pSay_5, List.length_append, msgL_length, q1]; omega
    have r5 : rk (pSay L4 8 1 (L4 3)) := rk_say r4 (by decide) (r4.1 3 (by decide)) (Or.inr rfl) (by show (L4 9).length + 4 + _ ≤ _; rw [p3]; omega) (by rw [p3]; omega)
    have r6 : rk (pPrf (pSay L4 8 1 (L4 3)) 15) := rk_prf 15 r5
    obtain ⟨L6, e6⟩ : ∃ q, q = pPrf (pSay L4 8 1 (L4 3)) 15 := ⟨_, rfl⟩
    rw [← e6] at r6
    have s7 : (L6 7).length = 32 := by rw [e6]; exact pPrf_7
    have s9 : (L6 9).length ≤ 304 := by
      rw [e6, pPrf_o (by decide)]
      show (L4 9 ++ msgL 8 (L4 3)).length ≤ 304
      rw [List.length_append, msgL_length, p3]
      omega
    have s5 : (L6 5).length ≤ 676 := by rw [e6, pPrf_o (by decide), pSay_5, List.length_append, msgL_length, p3]; omega
    have r9 := rk_sec (i := 4) (K := pSay L6 20 1 (L6 7) 13) 16 (Or.inr rfl) (rk_say9 r6 (r6.1 7 (by decide)) (by omega) (by omega))
    rw [e6, e4, e2] at r9
    exact r9
  · have hsz := of_decide_eq_true (show decide (bsz (L 4) = 32) = true from hm2)
    exact rk_sec 13 (Or.inl rfl) (rk_sto h (by omega))
  · have hsz := of_decide_eq_true (show decide (bsz (L 4) ≤ 300) = true from hm2)
    exact rk_sto (rk_oth 4 h (by omega)) (by rw [pOth_o (by decide), pOth_o (by decide)]; omega)
  · have hsz := of_decide_eq_true (show decide (bsz (L 4) = 32) = true from hm2)
    by_cases hg : (L 4).drop 4 = macL (lblL (L 15) 6 []) (sha (L 5))
    · rw [show rmL 0 20 L = rdDone0 L from if_pos hg]
      have r2 : rk (pSto (pPrf L 15)) := rk_sto (rk_prf 15 h) (by rw [pPrf_o (by decide), pPrf_o (by decide)]; omega)
      obtain ⟨L2, e2⟩ : ∃ q, q = pSto (pPrf L 15) := ⟨_, rfl⟩
      rw [← e2] at r2
      have q5 : (L2 5).length ≤ 712 := by rw [e2, pSto_5, List.length_append, pPrf_o (by decide), pPrf_o (by decide)]; omega
      have q9 : (L2 9).length = 0 := by rw [e2, pSto_o (by decide), pPrf_o (by decide)]; exact b
      have r4 : rk (pPrf (pSec L2 16 4 (L2 13)) 14) := rk_prf 14 (rk_sec 16 (Or.inr rfl) r2)
      obtain ⟨L4, e4⟩ : ∃ q, q = pPrf (pSec L2 16 4 (L2 13)) 14 := ⟨_, rfl⟩
      rw [← e4] at r4
      have s7 : (L4 7).length = 32 := by rw [e4]; exact pPrf_7
      have s9 : (L4 9).length = 0 := by rw [e4, pPrf_o (by decide), pSec_o (by decide)]; exact q9
      have s5 : (L4 5).length ≤ 712 := by rw [e4, pPrf_o (by decide), pSec_o (by decide)]; exact q5
      have r9 := rk_say9 r4 (r4.1 7 (by decide)) (by omega) (by omega)
      rw [e4, e2] at r9
      exact r9
    · rw [show rmL 0 20 L = pPrf L 15 from if_neg hg]
      exact rk_prf 15 h
  · by_cases hg : (L 4).drop 4 = macL (lblL (L 14) 6 []) (sha (L 5))
    · rw [show rmL 1 20 L = rdDone1 L from if_pos hg]
      exact rk_prf 14 h
    · rw [show rmL 1 20 L = pPrf L 14 from if_neg hg]
      exact rk_prf 14 h
/-- what stays true of a side that has begun -/
def sI (nb : Nat) (Ls : Nat → List Nat) (ns : Nat → Nat) : Prop := rk Ls ∧ hrI nb Ls ns ∧ (ns 4 = 1 ∨ ns 4 = 2 → (Ls 17).length = 0) ∧ (¬ ns 4 = 0 → ns 2 = 0) ∧ isT (ns 4) ∧ ns 0 < 2 ∧ ns 2 < 2
theorem rmN_f {nb w : Nat} {L : Nat → List Nat} {n : Nat → Nat} (hw : okW nb L w) (h2 : n 2 = 0) (h0 : n 0 < 2) (hT : isT (n 4)) : isT (rmN nb w L n 4) ∧ (¬ dnB nb w L → ¬ (rmN nb w L n 4 = 1 ∨ rmN nb w L n 4 = 2) ∧ (¬ rmN nb w L n 4 = 0 → rmN nb w L n 2 = 0) ∧ rmN nb w L n 0 < 2 ∧ rmN nb w L n 2 < 2 ∧ rmN nb w L n 3 = n 3) ∧ (dnB nb w L → rmN nb w L n = va_up n 3 307) ∧ (∀ k, k = 1 ∨ k = 5 ∨ k = 6 → rmN nb w L n k = n k) := by
  obtain ⟨-, -, -, hW⟩ := hw
  rcases hW with ⟨w1, n1, -⟩ | ⟨w1, n1, -⟩ | ⟨w1, n1, -⟩ | ⟨w1, n1, -⟩ | ⟨w1, n1, -⟩ <;> subst w1 <;> subst n1
  · rw [show rmN 1 1 L n = va_up (va_up n 0 1) 4 20 from rfl]
    exact ⟨Or.inr (Or.inr (Or.inr (Or.inr rfl))), fun _ => ⟨by rw [va_up_self]; omega, fun _ => h2, by show 1 < 2; decide, by show n 2 < 2; omega, rfl⟩, fun h => absurd h.1 (by decide), fun k hk => by rcases hk with rfl | rfl | rfl <;> rfl⟩
  · rw [show rmN 0 2 L n = va_up n 4 8 from rfl]
    exact ⟨Or.inr (Or.inr (Or.inr (Or.inl rfl))), fun _ => ⟨by rw [va_up_self]; omega, fun _ => h2, h0, by show n 2 < 2; omega, rfl⟩, fun h => absurd h.1 (by decide), fun k hk => by rcases hk with rfl | rfl | rfl <;> rfl⟩
  · rw [show rmN 0 8 L n = va_up (va_up n 0 1) 4 20 from rfl]
    exact ⟨Or.inr (Or.inr (Or.inr (Or.inr rfl))), fun _ => ⟨by rw [va_up_self]; omega, fun _ => h2, by show 1 < 2; decide, by show n 2 < 2; omega, rfl⟩, fun h => absurd h.1 (by decide), fun k hk => by rcases hk with rfl | rfl | rfl <;> rfl⟩
  · by_cases hg : (L 4).drop 4 = macL (lblL (L 15) 6 []) (sha (L 5))
    · rw [show rmN 0 20 L n = va_up (va_up n 2 1) 4 0 from if_pos hg]
      exact ⟨Or.inl rfl, fun _ => ⟨by rw [va_up_self]; omega, fun h => absurd (va_up_self _ _ _) h, h0, by show 1 < 2; decide, rfl⟩, fun h => absurd hg h.2, fun k hk => by rcases hk with rfl | rfl | rfl <;> rfl⟩
    · rw [show rmN 0 20 L n = va_up n 3 307 from if_neg hg]
      exact ⟨hT, fun h => absurd ⟨rfl, hg⟩ h, fun _ => rfl, fun k hk => by rcases hk with rfl | rfl | rfl <;> rfl⟩
  · by_cases hg : (L 4).drop 4 = macL (lblL (L 14) 6 []) (sha (L 5))
    · rw [show rmN 1 20 L n = va_up (va_up n 2 1) 4 0 from if_pos hg]
      exact ⟨Or.inl rfl, fun _ => ⟨by rw [va_up_self]; omega, fun h => absurd (va_up_self _ _ _) h, h0, by show 1 < 2; decide, rfl⟩, fun h => absurd hg h.2, fun k hk => by rcases hk with rfl | rfl | rfl <;> rfl⟩
    · rw [show rmN 1 20 L n = va_up n 3 307 from if_neg hg]
      exact ⟨hT, fun h => absurd ⟨rfl, hg⟩ h, fun _ => rfl, fun k hk => by rcases hk with rfl | rfl | rfl <;> rfl⟩
theorem hrI_dead {nb v : Nat} {Ls : Nat → List Nat} {ns : Nat → Nat} (h : ns 3 = v) (h0 : v ≠ 0) (h1 : v ≤ 307) : hrI nb Ls ns := Or.inl ⟨by omega, by omega⟩
/-- a byte more -/
theorem sI_step {nb l b : Nat} {Ls : Nat → List Nat} {ns : Nat → Nat} (h : sI nb Ls ns) (h0 : ns 3 = 0) (hb : b < 256) : sI nb (stE (stB nb l b (Ls, ns))).1 (stE (stB nb l b (Ls, ns))).2 := by
  obtain ⟨hr, hI, hJ, h2, hT, hn0, hn2⟩ := h
  have h4 := hrI_lt hI h0
  have r1 : rk (va_up Ls 4 (Ls 4 ++ [b])) := rk_up hr (by8_app (hr.1 4 (by decide)) (fun x hx => by rw [List.mem_singleton.mp hx]; exact hb)) (by rw [List.length_append, List.length_singleton]; show _ ≤ 336; omega)
  by_cases hf : fltN l (ns 4) (Ls 4 ++ [b]) = 0
  · by_cases hw : 4 ≤ (Ls 4 ++ [b]).length ∧ (Ls 4 ++ [b]).length = 4 + bsz (Ls 4 ++ [b])
    · rw [stB_whole hf hw]
      obtain ⟨ok, -⟩ := hrI_live hI h0 hf
      have okA : okW nb (va_up Ls 4 (Ls 4 ++ [b])) (ns 4) := okW_4 ok
      have wh : whM (ns 4) (va_up Ls 4 (Ls 4 ++ [b]) 4) := hrI_whole (nb := nb) hf hw
      have r2 : rk (va_up (rmL nb (ns 4) (va_up Ls 4 (Ls 4 ++ [b]))) 4 []) := rk_up (rk_read r1 okA wh) by8_nil (Nat.zero_le _)
      have i2 : hrI nb (va_up (rmL nb (ns 4) (va_up Ls 4 (Ls 4 ++ [b]))) 4 []) (rmN nb (ns 4) (va_up Ls 4 (Ls 4 ++ [b])) (va_up ns 3 0)) := hrI_read okA wh rfl
      have hne : ¬ ns 4 = 0 := by
        intro e
        have := (fltN_0 hf).1
        rw [e, lvB_0] at this
        exact absurd this (by decide)
      obtain ⟨k1, k2, k3, k4⟩ := rmN_f (n := va_up ns 3 0) okA (h2 hne) hn0 hT
      by_cases hg : dnB nb (ns 4) (va_up Ls 4 (Ls 4 ++ [b]))
      · have e3 := k3 hg
        unfold stE
        rw [if_neg (by show ¬ rmN nb (ns 4) (va_up Ls 4 (Ls 4 ++ [b])) (va_up ns 3 0) 3 = 0; rw [e3, va_up_self]; decide)]
        refine ⟨rk_up r2 by8_nil (Nat.zero_le _), hrI_dead (v := 307) ?_ (by decide) (by decide), fun h => ?_, fun h => absurd (show (0 : Nat) = 0 from rfl) h, Or.inl rfl, ?_, ?_⟩
        · show rmN nb (ns 4) (va_up Ls 4 (Ls 4 ++ [b])) (va_up ns 3 0) 3 = 307
          rw [e3, va_up_self]
        · have h : (0 : Nat) = 1 ∨ (0 : Nat) = 2 := h
          omega
        · show rmN nb (ns 4) (va_up Ls 4 (Ls 4 ++ [b])) (va_up ns 3 0) 0 < 2
          rw [e3]
          exact hn0
        · show rmN nb (ns 4) (va_up Ls 4 (Ls 4 ++ [b])) (va_up ns 3 0) 2 < 2
          rw [e3]
          exact hn2
      · obtain ⟨q1, q2, q3, q4, q5⟩ := k2 hg
        unfold stE
        rw [if_pos (by show rmN nb (ns 4) (va_up Ls 4 (Ls 4 ++ [b])) (va_up ns 3 0) 3 = 0; rw [q5]; rfl)]
        exact ⟨r2, i2, fun h => absurd h q1, q2, k1, q3, q4⟩
    · rw [stB_more hf hw]
      unfold stE
      rw [if_pos (show (va_up Ls 4 (Ls 4 ++ [b]), va_up ns 3 0).2 3 = 0 from rfl)]
      exact ⟨r1, hrI_more hI h0 hf hw, hJ, h2, hT, hn0, hn2⟩
  · obtain ⟨-, hv⟩ := lk_flt hf
    rw [stB_flt rfl hf]
    unfold stE
    rw [if_neg (by show ¬ va_up ns 3 _ 3 = 0; rw [va_up_self]; exact hf)]
    refine ⟨rk_up r1 by8_nil (Nat.zero_le _), hrI_dead (v := fltN l (ns 4) (Ls 4 ++ [b])) rfl hf (by omega), fun h => ?_, fun h => absurd (show (0 : Nat) = 0 from rfl) h, Or.inl rfl, hn0, hn2⟩
    have h : (0 : Nat) = 1 ∨ (0 : Nat) = 2 := h
    omega
