/-! ===== keepers, rules of prices, parts, the NIGHT's end: both sides ===== -/
theorem s_keeper {c : Nat} {q : St} {M M' : mh_M} (hX : XS q M) (hM : MS q M') (hI : Inv c q) (hc : c < 512) (n : Nat) (a0 a1 : Int32) : Both c M M' (fX9_keeper n M a0 a1) (fX10_keeper n M' a0 a1) := by
  simp only [fX9_keeper, fX10_keeper, eX_isIn, eM_in, eX_isBar, eM_isBar, eX_isKind, eM_isKind, eX_isRecipe, eM_isRecipe, eX_isKeeper, eX_isTime, bd_some, bd2_some, b01, pl_e]
  by_cases h0 : (0 : Int32) ≤ a0 ∧ a0 ≤ 1
  case neg => exact both_no hX hM hI hc (if_neg h0) (if_neg h0)
  simp only [if_pos h0]
  by_cases h1 : (0 : Int32) ≤ a1 ∧ a1 ≤ 2
  case neg => exact both_no hX hM hI hc (if_neg h1) (if_neg h1)
  simp only [if_pos h1]
  obtain ⟨K, Rc, T, A, FT, PR, DL, hn, hb, i1, i2, i3, i4, i5, i6, i7⟩ := id hI
  obtain ⟨b, hb1, rfl⟩ := gIn (m := 1) (by omega) h0
  have hb2 : b < 2 := by omega
  have hs : 2 * T + b < 40 := by omega
  simp only [(rXc11 hX).trans hn.2.2.1, (rmc11 hM).trans hn.2.2.1, eX_sheetOf n M (show T < 20 by omega) hb2, bd_some, ix2, inbN hs (show 40 ≤ 2 ^ 31 by omega), ck_t, clN (show 2 * T + b < 2 ^ 31 by omega), rX25 hX hs, rm57 hM hs]
  refine ⟨(vu q.1 57 (2 * T + b) a1, q.2), _, _, _, rfl, ?_, ?_, rfl, ?_, ?_, ?_⟩
  · skip
    refine XS_step hX ?_ ?_ ?_ ?_ ?_ ?_ ?_ ?_
    · rw [wu25 hs, hX.1]
    · try simp (disch := omega) only [rd_s, rd_t, rd_i, rd_k]
    · try simp (disch := omega) only [mh_up_t]
    · intro r; try simp (disch := omega) only [rd_s, rd_t, rd_i, rd_k]
    · intro r; try simp (disch := omega) only [rd_s, rd_t, rd_i, rd_k]
    · try simp (disch := omega) only [rd_s, rd_t, rd_i, rd_k]
    · try simp (disch := omega) only [vu_at, vu_t, vu_j]
    · intro j; try simp (disch := omega) only [vu_at, vu_t, vu_j]
  · intro t ht; try simp (disch := omega) only [mh_up_t]
  · skip
    refine MS_step hM ?_ ?_ ?_ ?_
    · rw [wm57 hs, hM.1]
    · try simp (disch := omega) only [mh_up_t]
    · try simp (disch := omega) only [mh_up_t]
    · try simp (disch := omega) only [vu_at, vu_t, vu_j]
  · intro t ht; try simp (disch := omega) only [mh_up_t]
  · exact Inv_step hI hc (fun t j ht => by unfold InvT at ht; simp (disch := omega) only [vu_at, vu_t, vu_j])
theorem b01z {c : Prop} [Decidable c] {α : Type} (A B : α) : (if (if c then (1 : Int32) else 0) = 0 then A else B) = if c then B else A := b01 A B
theorem z10 : ((1 : Int32) = 0) = False := by simp
theorem s_priceRule {c : Nat} {q : St} {M M' : mh_M} (hX : XS q M) (hM : MS q M') (hI : Inv c q) (hc : c < 512) (n : Nat) (a0 a1 a2 a3 : Int32) : Both c M M' (fX9_priceRule n M a0 a1 a2 a3) (fX10_priceRule n M' a0 a1 a2 a3) := by
  simp only [fX9_priceRule, fX10_priceRule, eX_isIn, eM_in, eX_isBar, eM_isBar, eX_isKind, eM_isKind, eX_isRecipe, eM_isRecipe, eX_isKeeper, eX_isTime, bd_some, bd2_some, b01, pl_e, if_true, z10, if_false]
  by_cases h0 : (0 : Int32) ≤ a0 ∧ a0 ≤ 127
  case neg =>
    refine both_no hX hM hI hc ?_ (if_neg h0)
    simp only [if_neg h0]
    repeat' (first | rfl | split)
  simp only [if_pos h0]
  by_cases h1 : (0 : Int32) ≤ a1 ∧ a1 ≤ 1439
  case neg => exact both_no hX hM hI hc (if_neg h1) (if_neg h1)
  simp only [if_pos h1]
  by_cases h2 : (0 : Int32) ≤ a2 ∧ a2 ≤ 1439
  case neg => exact both_no hX hM hI hc (if_neg h2) (if_neg h2)
  simp only [if_pos h2]
  by_cases h3 : (0 : Int32) ≤ a3 ∧ a3 ≤ 200
  case neg => exact both_no hX hM hI hc (if_neg h3) (if_neg h3)
  simp only [if_pos h3]
  obtain ⟨K, Rc, T, A, FT, PR, DL, hn, hb, i1, i2, i3, i4, i5, i6, i7⟩ := id hI
  have eK : M 0 0 11 = nI PR := (rXc24 hX).trans hn.2.2.2.2.2.1
  have eK' : M' 40 0 24 = nI PR := (rmc24 hM).trans hn.2.2.2.2.2.1
  simp only [eK, eK']
  by_cases hPR : PR = 12
  · subst hPR
    exact both_no hX hM hI hc (if_neg (nnlt (a := 12) (b := 12) (by omega) (by omega))) (if_pos rfl)
  have hPR2 : PR < 12 := by omega
  rw [if_pos (show nI PR < (12 : Int32) from nlt (b := 12) hPR2 (by omega)), if_neg (show ¬ nI PR = (12 : Int32) from nne (b := 12) hPR (by omega) (by omega))]
  simp (disch := omega) only [rd_s, rd_t, rd_i, rd_k, ck_t, eK, eK', inbN hPR2 (show 12 ≤ 2 ^ 31 by omega), clN (show PR < 2 ^ 31 by omega)]
  refine ⟨(vu (vu (vu (vu (vu q.1 66 PR a0) 67 PR a1) 68 PR a2) 69 PR a3) 40 24 (nI PR + 1), q.2), _, _, _, rfl, ?_, ?_, rfl, ?_, ?_, ?_⟩
  · skip
    refine XS_step hX ?_ ?_ ?_ ?_ ?_ ?_ ?_ ?_
    · rw [wuc24, wu31_3 hPR2, wu31_2 hPR2, wu31_1 hPR2, wu31_0 hPR2, hX.1]
    · try simp (disch := omega) only [rd_s, rd_t, rd_i, rd_k]
    · try simp (disch := omega) only [mh_up_t]
    · intro r; try simp (disch := omega) only [rd_s, rd_t, rd_i, rd_k]
    · intro r; try simp (disch := omega) only [rd_s, rd_t, rd_i, rd_k]
    · try simp (disch := omega) only [rd_s, rd_t, rd_i, rd_k]
    · try simp (disch := omega) only [vu_at, vu_t, vu_j]
    · intro j; try simp (disch := omega) only [vu_at, vu_t, vu_j]
  · intro t ht; try simp (disch := omega) only [mh_up_t]
  · skip
    refine MS_step hM ?_ ?_ ?_ ?_
    · rw [wmc24, wm69 hPR2, wm68 hPR2, wm67 hPR2, wm66 hPR2, hM.1]
    · try simp (disch := omega) only [mh_up_t]
    · try simp (disch := omega) only [mh_up_t]
    · try simp (disch := omega) only [vu_at, vu_t, vu_j]
  · intro t ht; try simp (disch := omega) only [mh_up_t]
  · obtain ⟨d, hd, rfl⟩ := gIn (m := 1439) (by omega) h1
    obtain ⟨e, he, rfl⟩ := gIn (m := 1439) (by omega) h2
    refine ⟨K, Rc, T, A, FT, PR + 1, DL, ?_, ?_, ?_, ?_, ?_, ?_, ?_, ?_, ?_⟩
    · try simp (disch := omega) only [vu_at, vu_t, vu_j, hn, nI_1, and_self]
    · omega
    · intro k hk
      try simp (disch := omega) only [vu_at, vu_t, vu_j]
      exact i1 k hk
    · intro r hr k hk
      try simp (disch := omega) only [vu_at, vu_t, vu_j]
      exact i2 r hr k hk
    · intro j hj
      have := i3 j hj
      try simp (disch := omega) only [vu_at, vu_t, vu_j]
      omega
    · intro j hj
      try simp (disch := omega) only [vu_at, vu_t, vu_j]
      exact i4 j hj
    · intro j hj
      by_cases hj2 : j = PR
      · subst hj2
        exact ⟨d, e, hd, he, by simp (disch := omega) only [vu_at, vu_t, vu_j], by simp (disch := omega) only [vu_at, vu_t, vu_j]⟩
      · try simp (disch := omega) only [vu_at, vu_t, vu_j]
        exact i5 j (by omega)
    · intro j hj
      try simp (disch := omega) only [vu_at, vu_t, vu_j]
      exact i6 j hj
    · exact i7
theorem need_or {x : Int32} {k : Nat} (hk : k < 10) {p : Nat → Bool} (h : ∀ i, i < 32 → bt x i = (decide (i < 10) && p i)) : ∀ i, i < 32 → bt (x ||| (1 : Int32) <<< (nI k &&& 31)) i = (decide (i < 10) && (if i = k then true else p i)) := by
  intro i hi
  have e1 : ∀ j, bt 1 j = decide (j = 0) := fun j => by
    rcases Nat.lt_or_ge j 32 with g | g
    · exact (by decide +kernel : ∀ j, j < 32 → bt 1 j = decide (j = 0)) j g
    · rw [b_big g]
      simp
      omega
  rw [b_or, h i hi, b_shl k (by omega) 1 hi, e1]
  by_cases hik : i = k
  · subst hik
    simp [hk]
  · rw [if_neg hik]
    have : (decide (k ≤ i) && decide (i - k = 0)) = false := by
      simp
      omega
    rw [this, Bool.or_false]
theorem need_and {x : Int32} {k : Nat} (hk : k < 10) {p : Nat → Bool} (h : ∀ i, i < 32 → bt x i = (decide (i < 10) && p i)) : ∀ i, i < 32 → bt (x &&& ((1 : Int32) <<< (nI k &&& 31) ^^^ (-1 : Int32))) i = (decide (i < 10) && (if i = k then false else p i)) := by
  intro i hi
  have e1 : ∀ j, bt 1 j = decide (j = 0) := fun j => by
    rcases Nat.lt_or_ge j 32 with g | g
    · exact (by decide +kernel : ∀ j, j < 32 → bt 1 j = decide (j = 0)) j g
    · rw [b_big g]
      simp
      omega
  rw [b_and, b_xor, h i hi, b_shl k (by omega) 1 hi, e1, b_m1 i hi]
  by_cases hik : i = k
  · subst hik
    simp
  · rw [if_neg hik]
    have : (decide (k ≤ i) && decide (i - k = 0)) = false := by
      simp
      omega
    rw [this]
    simp
theorem s_part {c : Nat} {q : St} {M M' : mh_M} (hX : XS q M) (hM : MS q M') (hI : Inv c q) (hc : c < 512) (n : Nat) (a0 a1 a2 : Int32) : Both c M M' (fX9_part n M a0 a1 a2) (fX10_part n M' a0 a1 a2) := by
  simp only [fX9_part, fX10_part, fX6_putParts, eX_isIn, eM_in, eX_isBar, eM_isBar, eX_isKind, eM_isKind, eX_isRecipe, eM_isRecipe, eX_isKeeper, eX_isTime, bd_some, bd2_some, b01, pl_e]
  obtain ⟨K, Rc, T, A, FT, PR, DL, hn, hb, i1, i2, i3, i4, i5, i6, i7⟩ := id hI
  rw [(rXc0 hX).trans hn.1, (rmc0 hM).trans hn.1, (rXc4 hX).trans hn.2.1, (rmc4 hM).trans hn.2.1]
  by_cases h0 : 0 ≤ a0 ∧ a0 ≤ nI Rc - 1
  case neg => exact both_no hX hM hI hc (if_neg h0) (if_neg h0)
  simp only [if_pos h0]
  by_cases h1 : 0 ≤ a1 ∧ a1 ≤ nI K - 1
  case neg => exact both_no hX hM hI hc (if_neg h1) (if_neg h1)
  simp only [if_pos h1]
  by_cases h2 : (0 : Int32) ≤ a2 ∧ a2 ≤ 20
  case neg => exact both_no hX hM hI hc (if_neg h2) (if_neg h2)
  simp only [if_pos h2]
  obtain ⟨r, hr, rfl⟩ := iK h0 (by omega)
  obtain ⟨k, hk, rfl⟩ := iK h1 (by omega)
  have hr12 : r < 12 := by omega
  have hk10 : k < 10 := by omega
  have hj : 10 * r + k < 120 := by omega
  simp only [inbN hr12 (show 12 ≤ 2 ^ 31 by omega), inbN hk10 (show 10 ≤ 2 ^ 31 by omega), inbN hj (show 120 ≤ 2 ^ 31 by omega), ck_t, ix10, clN (show r < 2 ^ 31 by omega), clN (show k < 2 ^ 31 by omega), clN (show 10 * r + k < 2 ^ 31 by omega), rX24 hX hr12 hk10, rm47 hM hj]
  obtain ⟨x1, x2, x3, x4⟩ := id hX
  obtain ⟨m1, m2, m3⟩ := id hM
  rw [m3 r hr12]
  by_cases hsold : q.2.2 r = true
  · exact both_no hX hM hI hc (if_pos ((x3 r hr12).1.mpr hsold)) (by rw [if_pos hsold]; rfl)
  rw [if_neg (fun z => hsold ((x3 r hr12).1.mp z)), if_neg hsold, if_pos rfl]
  obtain ⟨p, hp, rfl⟩ := gIn (m := 20) (by omega) h2
  have fin : ∀ N : mh_M, (N = mh_up (mh_up M 24 r k (nI p)) 23 r 2 (N 23 r 2)) → (∀ i, i < 32 → bt (N 23 r 2) i = (decide (i < 10) && (if i = k then decide (0 < nI p) else decide (0 < q.1 47 (10 * r + i))))) →
      Both c M M' (some (N, q.1 47 (10 * r + k))) (some (mh_up M' 47 0 (10 * r + k) (nI p), q.1 47 (10 * r + k))) := by
    intro N hN hbits
    refine ⟨(vu q.1 47 (10 * r + k) (nI p), q.2), _, _, _, rfl, ?_, ?_, rfl, ?_, ?_, ?_⟩
    · have ea : acN (vu q.1 47 (10 * r + k) (nI p)) = acN q.1 := by
        unfold acN
        simp (disch := omega) only [vu_at, vu_t, vu_j]
      obtain ⟨nx, g1, g2, g3⟩ := x2
      refine ⟨?_, ⟨nx, g1, ?_, ?_⟩, ?_, ?_⟩
      · rw [hN, wX_off (j0 := 0) rfl, wu24 hr12 hk10, x1]
      · rw [hN, rd_t (by omega), rd_t (by omega)]
        exact g2
      · intro a ha j hj
        have ha' : a < acN (vu q.1 47 (10 * r + k) (nI p)) := ha
        show N 30 ((nx + 40 - acN (vu q.1 47 (10 * r + k) (nI p)) + a) % 40) j = q.2.1 a j
        rw [ea] at ha' ⊢
        rw [hN, rd_t (by omega), rd_t (by omega)]
        exact g3 a ha' j hj
      · intro r' hr'
        rw [hN, rd_k (by omega), rd_t (by omega), rd_t (by omega), rd_t (by omega)]
        exact x3 r' hr'
      · intro r' hr' i hi
        show bt (N 23 r' 2) i = (decide (i < 10) && decide (0 < vu q.1 47 (10 * r + k) (nI p) 47 (10 * r' + i)))
        by_cases e : r' = r
        · subst e
          rw [hbits i hi]
          by_cases ik : i = k
          · subst ik
            rw [if_pos rfl, vu_at]
          · rw [if_neg ik, vu_j (by omega)]
        · rw [hN, rd_i e, rd_t (by omega), x4 r' hr' i hi]
          by_cases i10 : i < 10
          · rw [vu_j (by omega)]
          · simp [i10]
    · intro t ht
      rw [hN]
      simp (disch := omega) only [mh_up_t]
    · skip
      refine MS_step hM ?_ ?_ ?_ ?_
      · rw [wm47 hj, hM.1]
      · try simp (disch := omega) only [mh_up_t]
      · try simp (disch := omega) only [mh_up_t]
      · try simp (disch := omega) only [vu_at, vu_t, vu_j]
    · intro t ht; try simp (disch := omega) only [mh_up_t]
    · skip
      refine ⟨K, Rc, T, A, FT, PR, DL, ?_, ?_, ?_, ?_, ?_, ?_, ?_, ?_, ?_⟩
      · try simp (disch := omega) only [vu_at, vu_t, vu_j, hn, nI_1, and_self]
      · omega
      · intro k hk
        try simp (disch := omega) only [vu_at, vu_t, vu_j]
        exact i1 k hk
      · intro r' hr' k' hk'
        by_cases e : 10 * r' + k' = 10 * r + k
        · have e1 : k' = k := by omega
          subst e1
          exact ⟨p, hp, by rw [e]; simp (disch := omega) only [vu_at, vu_t, vu_j], fun z => absurd hk (by omega)⟩
        · simp (disch := omega) only [vu_at, vu_t, vu_j]
          exact i2 r' hr' k' hk'
      · intro j hj
        have := i3 j hj
        try simp (disch := omega) only [vu_at, vu_t, vu_j]
        omega
      · intro j hj
        try simp (disch := omega) only [vu_at, vu_t, vu_j]
        exact i4 j hj
      · intro j hj
        try simp (disch := omega) only [vu_at, vu_t, vu_j]
        exact i5 j hj
      · intro j hj
        try simp (disch := omega) only [vu_at, vu_t, vu_j]
        exact i6 j hj
      · exact i7
  have hbit := x4 r hr12
  by_cases p0 : nI p ≤ 0
  · rw [if_pos p0]
    refine fin (mh_up (mh_up M 24 r k (nI p)) 23 r 2 (mh_up M 24 r k (nI p) 23 r 2 &&& ((1 : Int32) <<< (nI k &&& 31) ^^^ (-1 : Int32)))) (by rw [rd_s]) ?_
    rw [rd_s, rd_t (by omega)]
    intro i hi
    rw [need_and hk10 (p := fun i => decide (0 < q.1 47 (10 * r + i))) hbit i hi]
    by_cases ik : i = k
    · rw [if_pos ik, if_pos ik, decide_eq_false (Int32.not_lt.mpr p0)]
    · rw [if_neg ik, if_neg ik]
  · rw [if_neg p0]
    refine fin (mh_up (mh_up M 24 r k (nI p)) 23 r 2 (mh_up M 24 r k (nI p) 23 r 2 ||| (1 : Int32) <<< (nI k &&& 31))) (by rw [rd_s]) ?_
    rw [rd_s, rd_t (by omega)]
    intro i hi
    rw [need_or hk10 (p := fun i => decide (0 < q.1 47 (10 * r + i))) hbit i hi]
    by_cases ik : i = k
    · rw [if_pos ik, if_pos ik, decide_eq_true (Int32.not_le.mp p0)]
    · rw [if_neg ik, if_neg ik]
