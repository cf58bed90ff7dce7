/-! ===== methods, both sides: kinds, recipes, settings, plans told, prices told, people, deals ===== -/
theorem iK {m : Nat} {a : Int32} (h : 0 ≤ a ∧ a ≤ nI m - 1) (hm : m ≤ 1000) : ∃ k : Nat, k < m ∧ a = nI k := gLt (by omega) h
theorem nlt {a b : Nat} (h : a < b) (hb : b ≤ 100000) : nI a < nI b := nI_lt h (by omega)
theorem nnlt {a b : Nat} (h : b ≤ a) (hb : a ≤ 100000) : ¬ nI a < nI b := nI_nlt h (by omega)
theorem nne {a b : Nat} (h : a ≠ b) (ha : a ≤ 100000) (hb : b ≤ 100000) : ¬ nI a = nI b := fun q => h ((nI_eq (by omega) (by omega)).mp q)
theorem s_kind {c : Nat} {q : St} {M M' : mh_M} (hX : XS q M) (hM : MS q M') (hI : Inv c q) (hc : c < 512) (n : Nat) (a0 a1 a2 : Int32) : Both c M M' (fX9_kind n M a0 a1 a2) (fX10_kind n M' a0 a1 a2) := by
  simp only [fX9_kind, fX10_kind, eX_isIn, eM_in, eX_isBar, eM_isBar, eX_isKind, eM_isKind, eX_isRecipe, eM_isRecipe, eX_isKeeper, eX_isTime, bd_some, bd2_some, b01, pl_e]
  by_cases h0 : (0 : Int32) ≤ a0 ∧ a0 ≤ 2000
  case neg => exact both_no hX hM hI hc (if_neg h0) (if_neg h0)
  simp only [if_pos h0]
  by_cases h1 : (100 : Int32) ≤ a1 ∧ a1 ≤ 2000
  case neg => exact both_no hX hM hI hc (if_neg h1) (if_neg h1)
  simp only [if_pos h1]
  by_cases h2 : (50 : Int32) ≤ a2 ∧ a2 ≤ 150
  case neg => exact both_no hX hM hI hc (if_neg h2) (if_neg h2)
  simp only [if_pos h2]
  obtain ⟨K, Rc, T, A, FT, PR, DL, hn, hb, i1, i2, i3, i4, i5, i6, i7⟩ := id hI
  have eK : M 0 0 1 = nI K := (rXc0 hX).trans hn.1
  have eK' : M' 40 0 0 = nI K := (rmc0 hM).trans hn.1
  simp only [eK, eK']
  by_cases hK : K = 10
  · subst hK
    exact both_no hX hM hI hc (if_neg (nnlt (a := 10) (b := 10) (by omega) (by omega))) (if_pos rfl)
  have hK2 : K < 10 := by omega
  rw [if_pos (show nI K < (10 : Int32) from nlt (b := 10) hK2 (by omega)), if_neg (show ¬ nI K = (10 : Int32) from nne (b := 10) hK (by omega) (by omega))]
  simp only [inbN hK2 (by omega), ck_t, clN (show K < 2 ^ 31 by omega)]
  simp (disch := omega) only [rd_s, rd_t, rd_i, rd_k, eK, eK', inbN hK2 (show 10 ≤ 2 ^ 31 by omega), ck_t, clN (show K < 2 ^ 31 by omega)]
  have a2n : a2 ≠ 0 := fun z => absurd (z ▸ h2.1) (by decide)
  refine ⟨(vu (vu (vu (vu q.1 42 K a0) 43 K a1) 44 K a2) 40 0 (nI K + 1), q.2), _, _, _, rfl, ?_, ?_, rfl, ?_, ?_, ?_⟩
  · skip
    refine XS_step hX ?_ ?_ ?_ ?_ ?_ ?_ ?_ ?_
    · rw [wuc0, wu20_2 hK2, wu20_1 hK2, wu20_0 hK2, hX.1]
    · try simp (disch := omega) only [rd_s, rd_t, rd_i, rd_k]
    · try simp (disch := omega) only [mh_up_t]
    · intro r; try simp (disch := omega) only [rd_s, rd_t, rd_i, rd_k]
    · intro r; try simp (disch := omega) only [rd_s, rd_t, rd_i, rd_k]
    · try simp (disch := omega) only [rd_s, rd_t, rd_i, rd_k]
    · try simp (disch := omega) only [vu_at, vu_t, vu_j]
    · intro j; try simp (disch := omega) only [vu_at, vu_t, vu_j]
  · intro t ht; try simp (disch := omega) only [mh_up_t]
  · skip
    refine MS_step hM ?_ ?_ ?_ ?_
    · rw [wmc0, wm44 hK2 a2n, wm43 hK2, wm42 hK2, hM.1]
    · try simp (disch := omega) only [mh_up_t]
    · try simp (disch := omega) only [mh_up_t]
    · try simp (disch := omega) only [vu_at, vu_t, vu_j]
  · intro t ht; try simp (disch := omega) only [mh_up_t]
  · obtain ⟨tt, htt, rfl⟩ := gIn (m := 2000) (by omega) h0
    obtain ⟨d, hd, rfl⟩ := gIn (m := 150) (by omega) (show 0 ≤ a2 ∧ a2 ≤ nI 150 from ⟨Int32.le_trans (by decide) h2.1, h2.2⟩)
    have hd50 : 50 ≤ d := (nI_leI (by omega) (by omega)).mp h2.1
    refine ⟨K + 1, Rc, T, A, FT, PR, DL, ?_, ?_, ?_, ?_, ?_, ?_, ?_, ?_, ?_⟩
    · simp (disch := omega) only [vu_at, vu_t, vu_j, hn, nI_1, and_self]
    · omega
    · intro k hk
      by_cases hkk : k = K
      · subst hkk
        exact ⟨d, hd50, hd, by simp (disch := omega) only [vu_at, vu_t, vu_j], tt, htt, by simp (disch := omega) only [vu_at, vu_t, vu_j]⟩
      · obtain ⟨e, e1, e2, e3, t4, e4, e5⟩ := i1 k (by omega)
        exact ⟨e, e1, e2, by simp (disch := omega) only [vu_at, vu_t, vu_j]; exact e3, t4, e4, by simp (disch := omega) only [vu_at, vu_t, vu_j]; exact e5⟩
    · intro r hr k hk
      obtain ⟨p, p1, p2, p3⟩ := i2 r hr k hk
      exact ⟨p, p1, by simp (disch := omega) only [vu_at, vu_t, vu_j]; exact p2, fun z => p3 (by omega)⟩
    · intro j hj
      have := i3 j hj
      simp (disch := omega) only [vu_at, vu_t, vu_j]
      omega
    · intro j hj
      simp (disch := omega) only [vu_at, vu_t, vu_j]
      exact i4 j hj
    · intro j hj
      simp (disch := omega) only [vu_at, vu_t, vu_j]
      exact i5 j hj
    · intro j hj
      simp (disch := omega) only [vu_at, vu_t, vu_j]
      exact i6 j hj
    · intro a ha
      obtain ⟨w, b, t, g1, g2, g3, g4, g5, g6, g7⟩ := i7 a ha
      exact ⟨w, b, t, g1, g2, g3, g4, g5, fun z => Nat.lt_succ_of_lt (g6 z), g7⟩
theorem s_recipe {c : Nat} {q : St} {M M' : mh_M} (hX : XS q M) (hM : MS q M') (hI : Inv c q) (hc : c < 512) (n : Nat) (a0 : Int32) : Both c M M' (fX9_recipe n M a0) (fX10_recipe n M' a0) := by
  simp only [fX9_recipe, fX10_recipe, eX_isIn, eM_in, eX_isBar, eM_isBar, eX_isKind, eM_isKind, eX_isRecipe, eM_isRecipe, eX_isKeeper, eX_isTime, bd_some, bd2_some, b01, pl_e]
  by_cases h0 : (0 : Int32) ≤ a0 ∧ a0 ≤ 10000
  case neg => exact both_no hX hM hI hc (if_neg h0) (if_neg h0)
  simp only [if_pos h0]
  obtain ⟨K, Rc, T, A, FT, PR, DL, hn, hb, i1, i2, i3, i4, i5, i6, i7⟩ := id hI
  have eK : M 0 0 3 = nI Rc := (rXc4 hX).trans hn.2.1
  have eK' : M' 40 0 4 = nI Rc := (rmc4 hM).trans hn.2.1
  simp only [eK, eK']
  by_cases hRc : Rc = 12
  · subst hRc
    exact both_no hX hM hI hc (if_neg (nnlt (a := 12) (b := 12) (by omega) (by omega))) (if_pos rfl)
  have hRc2 : Rc < 12 := by omega
  rw [if_pos (show nI Rc < (12 : Int32) from nlt (b := 12) hRc2 (by omega)), if_neg (show ¬ nI Rc = (12 : Int32) from nne (b := 12) hRc (by omega) (by omega))]
  simp (disch := omega) only [rd_s, rd_t, rd_i, rd_k, ck_t, eK, eK', inbN hRc2 (show 12 ≤ 2 ^ 31 by omega), clN (show Rc < 2 ^ 31 by omega)]
  refine ⟨(vu (vu q.1 46 Rc a0) 40 4 (nI Rc + 1), q.2), _, _, _, rfl, ?_, ?_, rfl, ?_, ?_, ?_⟩
  · skip
    refine XS_step hX ?_ ?_ ?_ ?_ ?_ ?_ ?_ ?_
    · rw [wuc4, wu23_0 hRc2, hX.1]
    · try simp (disch := omega) only [rd_s, rd_t, rd_i, rd_k]
    · try simp (disch := omega) only [mh_up_t]
    · intro r; try simp (disch := omega) only [rd_s, rd_t, rd_i, rd_k]
    · intro r; try simp (disch := omega) only [rd_s, rd_t, rd_i, rd_k]
    · try simp (disch := omega) only [rd_s, rd_t, rd_i, rd_k]
    · try simp (disch := omega) only [vu_at, vu_t, vu_j]
    · intro j; try simp (disch := omega) only [vu_at, vu_t, vu_j]
  · intro t ht; try simp (disch := omega) only [mh_up_t]
  · skip
    refine MS_step hM ?_ ?_ ?_ ?_
    · rw [wmc4, wm46 hRc2, hM.1]
    · try simp (disch := omega) only [mh_up_t]
    · try simp (disch := omega) only [mh_up_t]
    · try simp (disch := omega) only [vu_at, vu_t, vu_j]
  · intro t ht; try simp (disch := omega) only [mh_up_t]
  · skip
    refine ⟨K, Rc + 1, T, A, FT, PR, DL, ?_, ?_, ?_, ?_, ?_, ?_, ?_, ?_, ?_⟩
    · try simp (disch := omega) only [vu_at, vu_t, vu_j, hn, nI_1, and_self]
    · omega
    · intro k hk
      try simp (disch := omega) only [vu_at, vu_t, vu_j]
      exact i1 k hk
    · intro r hr k hk
      try simp (disch := omega) only [vu_at, vu_t, vu_j]
      exact i2 r hr k hk
    · intro j hj
      have := i3 j hj
      try simp (disch := omega) only [vu_at, vu_t, vu_j]
      omega
    · intro j hj
      try simp (disch := omega) only [vu_at, vu_t, vu_j]
      exact i4 j hj
    · intro j hj
      try simp (disch := omega) only [vu_at, vu_t, vu_j]
      exact i5 j hj
    · intro j hj
      try simp (disch := omega) only [vu_at, vu_t, vu_j]
      exact i6 j hj
    · intro a ha
      obtain ⟨w, b, t, g1, g2, g3, g4, g5, g6, g7⟩ := i7 a ha
      exact ⟨w, b, t, g1, g2, g3, g4, g5, g6, fun z => ⟨Nat.lt_succ_of_lt (g7 z).1, (g7 z).2⟩⟩
theorem e_top {n : Nat} {M : mh_M} {k : Nat} (h : k ≤ 6) : fX10_top n M (nI k) = some (mh_most k) := by
  rcases (show k = 0 ∨ k = 1 ∨ k = 2 ∨ k = 3 ∨ k = 4 ∨ k = 5 ∨ k = 6 by omega) with rfl | rfl | rfl | rfl | rfl | rfl | rfl <;> rfl
theorem s_rule {c : Nat} {q : St} {M M' : mh_M} (hX : XS q M) (hM : MS q M') (hI : Inv c q) (hc : c < 512) (n : Nat) (a0 a1 : Int32) : Both c M M' (fX9_rule n M a0 a1) (fX10_rule n M' a0 a1) := by
  simp only [fX9_rule, fX10_rule, eX_isIn, eM_in, eX_isBar, eM_isBar, eX_isKind, eM_isKind, eX_isRecipe, eM_isRecipe, eX_isKeeper, eX_isTime, bd_some, bd2_some, b01, pl_e, show (7 : Int32) - 1 = 6 from rfl]
  by_cases h0 : (0 : Int32) ≤ a0 ∧ a0 ≤ 6
  case neg => exact both_no hX hM hI hc (if_neg h0) (if_neg h0)
  simp only [if_pos h0]
  obtain ⟨k, hk, rfl⟩ := gIn (m := 6) (by omega) h0
  simp only [e_top hk, inbN (show k < 7 by omega) (show 7 ≤ 2 ^ 31 by omega), ck_t, clN (show k < 2 ^ 31 by omega), bd_some]
  by_cases h1 : (0 : Int32) ≤ a1 ∧ a1 ≤ mh_most k
  case neg => exact both_no hX hM hI hc (if_neg h1) (if_neg h1)
  simp only [if_pos h1]
  have hk7 : k < 7 := by omega
  rw [show M 3 0 k = q.1 49 k from rX3 hX hk7, show M' 49 0 k = q.1 49 k from rm49 hM hk7]
  refine ⟨(vu q.1 49 k a1, q.2), _, _, _, rfl, ?_, ?_, rfl, ?_, ?_, ?_⟩
  · skip
    refine XS_step hX ?_ ?_ ?_ ?_ ?_ ?_ ?_ ?_
    · rw [wu3 hk7, hX.1]
    · try simp (disch := omega) only [rd_s, rd_t, rd_i, rd_k]
    · try simp (disch := omega) only [mh_up_t]
    · intro r; try simp (disch := omega) only [rd_s, rd_t, rd_i, rd_k]
    · intro r; try simp (disch := omega) only [rd_s, rd_t, rd_i, rd_k]
    · try simp (disch := omega) only [rd_s, rd_t, rd_i, rd_k]
    · try simp (disch := omega) only [vu_at, vu_t, vu_j]
    · intro j; try simp (disch := omega) only [vu_at, vu_t, vu_j]
  · intro t ht; try simp (disch := omega) only [mh_up_t]
  · skip
    refine MS_step hM ?_ ?_ ?_ ?_
    · rw [wm49 hk7, hM.1]
    · try simp (disch := omega) only [mh_up_t]
    · try simp (disch := omega) only [mh_up_t]
    · try simp (disch := omega) only [vu_at, vu_t, vu_j]
  · intro t ht; try simp (disch := omega) only [mh_up_t]
  · exact Inv_step hI hc (fun t j ht => by unfold InvT at ht; simp (disch := omega) only [vu_at, vu_t, vu_j])
theorem s_foretell {c : Nat} {q : St} {M M' : mh_M} (hX : XS q M) (hM : MS q M') (hI : Inv c q) (hc : c < 512) (n : Nat) (a0 a1 : Int32) : Both c M M' (fX9_foretell n M a0 a1) (fX10_foretell n M' a0 a1) := by
  simp only [fX9_foretell, fX10_foretell, fX3_add, eX_isIn, eM_in, eX_isBar, eM_isBar, eX_isKind, eM_isKind, eX_isRecipe, eM_isRecipe, eX_isKeeper, eX_isTime, bd_some, bd2_some, b01, pl_e]
  by_cases h0 : (0 : Int32) ≤ a0 ∧ a0 ≤ 200
  case neg => exact both_no hX hM hI hc (if_neg h0) (if_neg h0)
  simp only [if_pos h0]
  by_cases h1 : (1 : Int32) ≤ a1 ∧ a1 ≤ 100
  case neg => exact both_no hX hM hI hc (if_neg h1) (if_neg h1)
  simp only [if_pos h1]
  obtain ⟨K, Rc, T, A, FT, PR, DL, hn, hb, i1, i2, i3, i4, i5, i6, i7⟩ := id hI
  have eK : M 8 0 2 = nI FT := (rXc21 hX).trans hn.2.2.2.2.1
  have eK' : M' 40 0 21 = nI FT := (rmc21 hM).trans hn.2.2.2.2.1
  simp only [eK, eK']
  by_cases hFT : FT = 8
  · subst hFT
    exact both_no hX hM hI hc (if_neg (nnlt (a := 8) (b := 8) (by omega) (by omega))) (if_pos rfl)
  have hFT2 : FT < 8 := by omega
  rw [if_pos (show nI FT < (8 : Int32) from nlt (b := 8) hFT2 (by omega)), if_neg (show ¬ nI FT = (8 : Int32) from nne (b := 8) hFT (by omega) (by omega))]
  simp (disch := omega) only [rd_s, rd_t, rd_i, rd_k, ck_t, eK, eK', inbN hFT2 (show 8 ≤ 2 ^ 31 by omega), clN (show FT < 2 ^ 31 by omega), bd_some]
  refine ⟨(vu (vu (vu q.1 63 FT a0) 64 FT a1) 40 21 (nI FT + 1), q.2), _, _, _, rfl, ?_, ?_, rfl, ?_, ?_, ?_⟩
  · skip
    refine XS_step hX ?_ ?_ ?_ ?_ ?_ ?_ ?_ ?_
    · rw [wuc21, wu10 hFT2, wu9 hFT2, hX.1]
    · try simp (disch := omega) only [rd_s, rd_t, rd_i, rd_k]
    · try simp (disch := omega) only [mh_up_t]
    · intro r; try simp (disch := omega) only [rd_s, rd_t, rd_i, rd_k]
    · intro r; try simp (disch := omega) only [rd_s, rd_t, rd_i, rd_k]
    · try simp (disch := omega) only [rd_s, rd_t, rd_i, rd_k]
    · try simp (disch := omega) only [vu_at, vu_t, vu_j]
    · intro j; try simp (disch := omega) only [vu_at, vu_t, vu_j]
  · intro t ht; try simp (disch := omega) only [mh_up_t]
  · skip
    refine MS_step hM ?_ ?_ ?_ ?_
    · rw [wmc21, wm64 hFT2, wm63 hFT2, hM.1]
    · try simp (disch := omega) only [mh_up_t]
    · try simp (disch := omega) only [mh_up_t]
    · try simp (disch := omega) only [vu_at, vu_t, vu_j]
  · intro t ht; try simp (disch := omega) only [mh_up_t]
  · obtain ⟨d, hd, rfl⟩ := gIn (m := 200) (by omega) h0
    refine ⟨K, Rc, T, A, FT + 1, PR, DL, ?_, ?_, ?_, ?_, ?_, ?_, ?_, ?_, ?_⟩
    · try simp (disch := omega) only [vu_at, vu_t, vu_j, hn, nI_1, and_self]
    · omega
    · intro k hk
      try simp (disch := omega) only [vu_at, vu_t, vu_j]
      exact i1 k hk
    · intro r hr k hk
      try simp (disch := omega) only [vu_at, vu_t, vu_j]
      exact i2 r hr k hk
    · intro j hj
      have := i3 j hj
      try simp (disch := omega) only [vu_at, vu_t, vu_j]
      omega
    · intro j hj
      by_cases hj2 : j = FT
      · subst hj2
        exact ⟨d, hd, by simp (disch := omega) only [vu_at, vu_t, vu_j]⟩
      · try simp (disch := omega) only [vu_at, vu_t, vu_j]
        exact i4 j (by omega)
    · intro j hj
      try simp (disch := omega) only [vu_at, vu_t, vu_j]
      exact i5 j hj
    · intro j hj
      try simp (disch := omega) only [vu_at, vu_t, vu_j]
      exact i6 j hj
    · exact i7
theorem s_forget {c : Nat} {q : St} {M M' : mh_M} (hX : XS q M) (hM : MS q M') (hI : Inv c q) (hc : c < 512) (n : Nat) : Both c M M' (fX9_forget n M) (fX10_forget n M') := by
  simp only [fX9_forget, fX10_forget, eX_isIn, eM_in, eX_isBar, eM_isBar, eX_isKind, eM_isKind, eX_isRecipe, eM_isRecipe, eX_isKeeper, eX_isTime, bd_some, bd2_some, b01, pl_e]
  obtain ⟨K, Rc, T, A, FT, PR, DL, hn, hb, i1, i2, i3, i4, i5, i6, i7⟩ := id hI
  have eK : M 8 0 2 = nI FT := (rXc21 hX).trans hn.2.2.2.2.1
  have eK' : M' 40 0 21 = nI FT := (rmc21 hM).trans hn.2.2.2.2.1
  simp only [eK, eK']
  refine ⟨(vu q.1 40 21 0, q.2), _, _, _, rfl, ?_, ?_, rfl, ?_, ?_, ?_⟩
  · skip
    refine XS_step hX ?_ ?_ ?_ ?_ ?_ ?_ ?_ ?_
    · rw [wuc21, hX.1]
    · try simp (disch := omega) only [rd_s, rd_t, rd_i, rd_k]
    · try simp (disch := omega) only [mh_up_t]
    · intro r; try simp (disch := omega) only [rd_s, rd_t, rd_i, rd_k]
    · intro r; try simp (disch := omega) only [rd_s, rd_t, rd_i, rd_k]
    · try simp (disch := omega) only [rd_s, rd_t, rd_i, rd_k]
    · try simp (disch := omega) only [vu_at, vu_t, vu_j]
    · intro j; try simp (disch := omega) only [vu_at, vu_t, vu_j]
  · intro t ht; try simp (disch := omega) only [mh_up_t]
  · skip
    refine MS_step hM ?_ ?_ ?_ ?_
    · rw [wmc21, hM.1]
    · try simp (disch := omega) only [mh_up_t]
    · try simp (disch := omega) only [mh_up_t]
    · try simp (disch := omega) only [vu_at, vu_t, vu_j]
  · intro t ht; try simp (disch := omega) only [mh_up_t]
  · skip
    refine ⟨K, Rc, T, A, 0, PR, DL, ?_, ?_, ?_, ?_, ?_, ?_, ?_, ?_, ?_⟩
    · simp (disch := omega) only [vu_at, vu_t, vu_j, hn, true_and, and_true]
      rfl
    · omega
    · intro k hk
      try simp (disch := omega) only [vu_at, vu_t, vu_j]
      exact i1 k hk
    · intro r hr k hk
      try simp (disch := omega) only [vu_at, vu_t, vu_j]
      exact i2 r hr k hk
    · intro j hj
      have := i3 j hj
      try simp (disch := omega) only [vu_at, vu_t, vu_j]
      omega
    · intro j hj
      omega
    · intro j hj
      try simp (disch := omega) only [vu_at, vu_t, vu_j]
      exact i5 j hj
    · intro j hj
      try simp (disch := omega) only [vu_at, vu_t, vu_j]
      exact i6 j hj
    · exact i7
theorem s_person {c : Nat} {q : St} {M M' : mh_M} (hX : XS q M) (hM : MS q M') (hI : Inv c q) (hc : c < 512) (n : Nat) (a0 a1 a2 : Int32) : Both c M M' (fX9_person n M a0 a1 a2) (fX10_person n M' a0 a1 a2) := by
  simp only [fX9_person, fX10_person, eX_isIn, eM_in, eX_isBar, eM_isBar, eX_isKind, eM_isKind, eX_isRecipe, eM_isRecipe, eX_isKeeper, eX_isTime, bd_some, bd2_some, b01, pl_e]
  by_cases h0 : (0 : Int32) ≤ a0 ∧ a0 ≤ 5
  case neg => exact both_no hX hM hI hc (if_neg h0) (if_neg h0)
  simp only [if_pos h0]
  by_cases h1 : (0 : Int32) ≤ a1 ∧ a1 ≤ 10
  case neg => exact both_no hX hM hI hc (if_neg h1) (if_neg h1)
  simp only [if_pos h1]
  by_cases h2 : (0 : Int32) ≤ a2 ∧ a2 ≤ 1440
  case neg => exact both_no hX hM hI hc (if_neg h2) (if_neg h2)
  simp only [if_pos h2]
  obtain ⟨k, hk, rfl⟩ := gIn (m := 5) (by omega) h0
  have hk6 : k < 6 := by omega
  simp only [inbN hk6 (show 6 ≤ 2 ^ 31 by omega), ck_t, clN (show k < 2 ^ 31 by omega)]
  refine ⟨(vu q.1 70 k (a1 * a2), q.2), _, _, _, rfl, ?_, ?_, rfl, ?_, ?_, ?_⟩
  · skip
    refine XS_step hX ?_ ?_ ?_ ?_ ?_ ?_ ?_ ?_
    · rw [wu14 hk6, hX.1]
    · try simp (disch := omega) only [rd_s, rd_t, rd_i, rd_k]
    · try simp (disch := omega) only [mh_up_t]
    · intro r; try simp (disch := omega) only [rd_s, rd_t, rd_i, rd_k]
    · intro r; try simp (disch := omega) only [rd_s, rd_t, rd_i, rd_k]
    · try simp (disch := omega) only [rd_s, rd_t, rd_i, rd_k]
    · try simp (disch := omega) only [vu_at, vu_t, vu_j]
    · intro j; try simp (disch := omega) only [vu_at, vu_t, vu_j]
  · intro t ht; try simp (disch := omega) only [mh_up_t]
  · skip
    refine MS_step hM ?_ ?_ ?_ ?_
    · rw [wm70 hk6, hM.1]
    · try simp (disch := omega) only [mh_up_t]
    · try simp (disch := omega) only [mh_up_t]
    · try simp (disch := omega) only [vu_at, vu_t, vu_j]
  · intro t ht; try simp (disch := omega) only [mh_up_t]
  · exact Inv_step hI hc (fun t j ht => by unfold InvT at ht; simp (disch := omega) only [vu_at, vu_t, vu_j])
theorem s_deal {c : Nat} {q : St} {M M' : mh_M} (hX : XS q M) (hM : MS q M') (hI : Inv c q) (hc : c < 512) (n : Nat) (a0 a1 : Int32) : Both c M M' (fX9_deal n M a0 a1) (fX10_deal n M' a0 a1) := by
  simp only [fX9_deal, fX10_deal, fX2_add, eX_isIn, eM_in, eX_isBar, eM_isBar, eX_isKind, eM_isKind, eX_isRecipe, eM_isRecipe, eX_isKeeper, eX_isTime, bd_some, bd2_some, b01, pl_e]
  by_cases h0 : (1 : Int32) ≤ a0 ∧ a0 ≤ 24
  case neg => exact both_no hX hM hI hc (if_neg h0) (if_neg h0)
  simp only [if_pos h0]
  by_cases h1 : (0 : Int32) ≤ a1 ∧ a1 ≤ 100000
  case neg => exact both_no hX hM hI hc (if_neg h1) (if_neg h1)
  simp only [if_pos h1]
  obtain ⟨K, Rc, T, A, FT, PR, DL, hn, hb, i1, i2, i3, i4, i5, i6, i7⟩ := id hI
  have eK : M 15 0 2 = nI DL := (rXc30 hX).trans hn.2.2.2.2.2.2
  have eK' : M' 40 0 30 = nI DL := (rmc30 hM).trans hn.2.2.2.2.2.2
  simp only [eK, eK']
  by_cases hDL : DL = 5
  · subst hDL
    exact both_no hX hM hI hc (if_neg (nnlt (a := 5) (b := 5) (by omega) (by omega))) (if_pos rfl)
  have hDL2 : DL < 5 := by omega
  rw [if_pos (show nI DL < (5 : Int32) from nlt (b := 5) hDL2 (by omega)), if_neg (show ¬ nI DL = (5 : Int32) from nne (b := 5) hDL (by omega) (by omega))]
  simp (disch := omega) only [rd_s, rd_t, rd_i, rd_k, ck_t, eK, eK', inbN hDL2 (show 5 ≤ 2 ^ 31 by omega), clN (show DL < 2 ^ 31 by omega), bd_some]
  refine ⟨(vu (vu (vu q.1 72 DL a0) 73 DL a1) 40 30 (nI DL + 1), q.2), _, _, _, rfl, ?_, ?_, rfl, ?_, ?_, ?_⟩
  · skip
    refine XS_step hX ?_ ?_ ?_ ?_ ?_ ?_ ?_ ?_
    · rw [wuc30, wu17 hDL2, wu16 hDL2, hX.1]
    · try simp (disch := omega) only [rd_s, rd_t, rd_i, rd_k]
    · try simp (disch := omega) only [mh_up_t]
    · intro r; try simp (disch := omega) only [rd_s, rd_t, rd_i, rd_k]
    · intro r; try simp (disch := omega) only [rd_s, rd_t, rd_i, rd_k]
    · try simp (disch := omega) only [rd_s, rd_t, rd_i, rd_k]
    · try simp (disch := omega) only [vu_at, vu_t, vu_j]
    · intro j; try simp (disch := omega) only [vu_at, vu_t, vu_j]
  · intro t ht; try simp (disch := omega) only [mh_up_t]
  · skip
    refine MS_step hM ?_ ?_ ?_ ?_
    · rw [wmc30, wm73 hDL2, wm72 hDL2, hM.1]
    · try simp (disch := omega) only [mh_up_t]
    · try simp (disch := omega) only [mh_up_t]
    · try simp (disch := omega) only [vu_at, vu_t, vu_j]
  · intro t ht; try simp (disch := omega) only [mh_up_t]
  · obtain ⟨d, hd, rfl⟩ := gIn (m := 24) (by omega) (show 0 ≤ a0 ∧ a0 ≤ nI 24 from ⟨Int32.le_trans (by decide) h0.1, h0.2⟩)
    have hd1 : 1 ≤ d := (nI_leI (by omega) (by omega)).mp h0.1
    obtain ⟨e, he, rfl⟩ := gIn (m := 100000) (by omega) h1
    refine ⟨K, Rc, T, A, FT, PR, DL + 1, ?_, ?_, ?_, ?_, ?_, ?_, ?_, ?_, ?_⟩
    · try simp (disch := omega) only [vu_at, vu_t, vu_j, hn, nI_1, and_self]
    · omega
    · intro k hk
      try simp (disch := omega) only [vu_at, vu_t, vu_j]
      exact i1 k hk
    · intro r hr k hk
      try simp (disch := omega) only [vu_at, vu_t, vu_j]
      exact i2 r hr k hk
    · intro j hj
      have := i3 j hj
      try simp (disch := omega) only [vu_at, vu_t, vu_j]
      omega
    · intro j hj
      try simp (disch := omega) only [vu_at, vu_t, vu_j]
      exact i4 j hj
    · intro j hj
      try simp (disch := omega) only [vu_at, vu_t, vu_j]
      exact i5 j hj
    · intro j hj
      by_cases hj2 : j = DL
      · subst hj2
        exact ⟨d, e, hd1, hd, he, by simp (disch := omega) only [vu_at, vu_t, vu_j], by simp (disch := omega) only [vu_at, vu_t, vu_j]⟩
      · try simp (disch := omega) only [vu_at, vu_t, vu_j]
        exact i6 j (by omega)
    · exact i7
