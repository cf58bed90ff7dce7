/-! ===== methods that read, both sides ===== -/
def BothP {α : Type} (oX oM : Option α) : Prop := ∃ r : α, oX = some r ∧ oM = some r
theorem nz10 : (!decide ((10 : Int32) = 0)) = true := by decide
theorem nz50000 : (!decide ((50000 : Int32) = 0)) = true := by decide
theorem nz100 : (!decide ((100 : Int32) = 0)) = true := by decide
theorem nz40 : (!decide ((40 : Int32) = 0)) = true := by decide
theorem ib0 : inb (0 : Int32) 7 = true := by decide
theorem ib1 : inb (1 : Int32) 7 = true := by decide
theorem ib2 : inb (2 : Int32) 7 = true := by decide
theorem ib3 : inb (3 : Int32) 7 = true := by decide
theorem ib4 : inb (4 : Int32) 7 = true := by decide
theorem ib5 : inb (5 : Int32) 7 = true := by decide
theorem ib6 : inb (6 : Int32) 7 = true := by decide
theorem cl0 : (0 : Int32).toNatClampNeg = 0 := by decide
theorem cl1 : (1 : Int32).toNatClampNeg = 1 := by decide
theorem cl2 : (2 : Int32).toNatClampNeg = 2 := by decide
theorem cl3 : (3 : Int32).toNatClampNeg = 3 := by decide
theorem cl4 : (4 : Int32).toNatClampNeg = 4 := by decide
theorem cl5 : (5 : Int32).toNatClampNeg = 5 := by decide
theorem cl6 : (6 : Int32).toNatClampNeg = 6 := by decide
theorem nz_of {x : Int32} (h : x ≠ 0) : (!decide (x = 0)) = true := by simp [h]
/-- sums and products of places -/
theorem ix10 (b k : Nat) : (10 : Int32) * nI b + nI k = nI (10 * b + k) := by rw [litN, pk_mul, nI_add]
theorem ix2 (b k : Nat) : (2 : Int32) * nI b + nI k = nI (2 * b + k) := by rw [litN, pk_mul, nI_add]
theorem ix5 (b k : Nat) : (5 : Int32) * nI b + nI k = nI (5 * b + k) := by rw [litN, pk_mul, nI_add]
theorem ixS (t b : Nat) : nI t * (2 : Int32) + nI b = nI (2 * t + b) := by rw [litN, pk_mul, nI_add, Nat.mul_comm]
theorem ixA (t b k : Nat) : (20 : Int32) * nI t + (10 : Int32) * nI b + nI k = nI (10 * (2 * t + b) + k) := by rw [litN 20, litN 10, pk_mul, pk_mul, nI_add, nI_add, show 20 * t + 10 * b + k = 10 * (2 * t + b) + k by omega]
theorem eM_at (n : Nat) (M : mh_M) (t b k : Nat) : fX10_at n M (nI t) (nI b) (nI k) = some (nI (10 * (2 * t + b) + k)) := by
  simp only [fX10_at, pl_e, ixA]
theorem eX_sheetOf (n : Nat) (M : mh_M) {t b : Nat} (ht : t < 20) (hb : b < 2) : fX9_sheetOf n M (nI t) (nI b) = some (2 * t + b) := by
  have h : 2 * t + b < 40 := by omega
  simp only [fX9_sheetOf, pl_e, ixS, inbN h (show 40 ≤ 2 ^ 31 by omega), ck_t, clN (show 2 * t + b < 2 ^ 31 by omega)]
theorem dn {K k : Nat} {q : St} (i1 : ∀ k, k < K → ∃ d : Nat, 50 ≤ d ∧ d ≤ 150 ∧ q.1 44 k = nI d ∧ ∃ t : Nat, t ≤ 2000 ∧ q.1 42 k = nI t) (hk : k < K) : q.1 44 k ≠ 0 ∧ q.1 44 k ≠ 1 := by
  obtain ⟨d, h1, h2, h3, -⟩ := i1 k hk
  rw [h3]
  exact ⟨nne (b := 0) (by omega) (by omega) (by omega), nne (b := 1) (by omega) (by omega) (by omega)⟩
def spanV (w : Vw) (s k : Nat) : Int32 := ((100 : Int32) * w 49 0 + w 44 k - 1) / w 44 k + w 49 1 * w 55 (10 * s + k)
theorem eX_span {q : St} {M : mh_M} (hX : XS q M) (n : Nat) {s k : Nat} (hs : s < 40) (hk : k < 10) (hd : q.1 44 k ≠ 0) : fX9_spanNow n M s (nI k) = some (spanV q.1 s k) := by
  simp only [fX9_spanNow, fX4_mlOfScale, pl_e, inbN hk (show 10 ≤ 2 ^ 31 by omega), ck_t, clN (show k < 2 ^ 31 by omega), ib0, ib1, cl0, cl1, bd_some, rX20_2 hX hk, rX3 hX (show 0 < 7 by omega), rX3 hX (show 1 < 7 by omega), rX26 hX hs hk, nz_of hd, spanV]
theorem mod10 {j : Nat} (h : j < 400) : nI j - nI j / (10 : Int32) * (10 : Int32) = nI (j % 10) := by
  rw [litN 10]
  exact pk_rem (by omega) (by omega) (by omega)
theorem eM_span {q : St} {M : mh_M} (hM : MS q M) (n : Nat) {s k : Nat} (hs : s < 40) (hk : k < 10) (hd : q.1 44 k ≠ 0) (hd1 : q.1 44 k ≠ 1) : fX10_spanNow n M (nI (10 * s + k)) = some (spanV q.1 s k) := by
  have hj : 10 * s + k < 400 := by omega
  have hm : (10 * s + k) % 10 = k := by omega
  simp only [fX10_spanNow, pl_e, nz10, ck_t, mod10 hj, hm, ib0, ib1, cl0, cl1, inbN hk (show 10 ≤ 2 ^ 31 by omega), inbN hj (show 400 ≤ 2 ^ 31 by omega), clN (show k < 2 ^ 31 by omega), clN (show 10 * s + k < 2 ^ 31 by omega), rM44 hM hk hd1, rm49 hM (show 0 < 7 by omega), rm49 hM (show 1 < 7 by omega), rm55 hM hj, nz_of hd, spanV]
  rw [Int32.mul_comm (q.1 49 0) (100 : Int32)]
def spanO (w : Vw) (s k : Nat) : Int32 := if w 54 (10 * s + k) = 0 then spanV w s k else w 56 (10 * s + k)
theorem eM_spanOf {q : St} {M : mh_M} (hM : MS q M) (n : Nat) {s k : Nat} (hs : s < 40) (hk : k < 10) (hd : q.1 44 k ≠ 0) (hd1 : q.1 44 k ≠ 1) : fX10_spanOf n M (nI (10 * s + k)) = some (spanO q.1 s k) := by
  have hj : 10 * s + k < 400 := by omega
  simp only [fX10_spanOf, pl_e, ck_t, inbN hj (show 400 ≤ 2 ^ 31 by omega), clN (show 10 * s + k < 2 ^ 31 by omega), rm54 hM hj, rm56 hM hj, eM_span hM n hs hk hd hd1, bd_some, spanO]
  by_cases h : q.1 54 (10 * s + k) = 0
  · rw [if_pos h, if_pos h]
  · rw [if_neg h, if_neg h]
def toldV (w : Vw) (s k : Nat) : Int32 := if w 54 (10 * s + k) = 0 then 0 else if (if 0 ≤ w 53 (10 * s + k) then w 53 (10 * s + k) else 0 - w 53 (10 * s + k)) ≤ w 56 (10 * s + k) then 0 else 1
theorem eX_told {q : St} {M : mh_M} (hX : XS q M) (n : Nat) {s k : Nat} (hs : s < 40) (hk : k < 10) : fX7_isTold n M s (nI k) = some (toldV q.1 s k) := by
  simp only [fX7_isTold, pl_e, inbN hk (show 10 ≤ 2 ^ 31 by omega), ck_t, clN (show k < 2 ^ 31 by omega), rX27 hX hs hk, rX29 hX hs hk, toldV]
  by_cases h : q.1 54 (10 * s + k) = 0
  · rw [if_pos h, if_pos h]
  · rw [if_neg h, if_neg h, rX28 hX hs hk h]
    repeat' (first | rfl | split)
theorem neg_0 (x : Int32) : -x = 0 - x := (Int32.zero_sub x).symm
theorem eM_told {q : St} {M : mh_M} (hM : MS q M) (n : Nat) {s k : Nat} (hs : s < 40) (hk : k < 10) (hd : q.1 44 k ≠ 0) (hd1 : q.1 44 k ≠ 1) : fX10_isTold n M (nI (10 * s + k)) = some (toldV q.1 s k) := by
  have hj : 10 * s + k < 400 := by omega
  simp only [fX10_isTold, pl_e, ck_t, inbN hj (show 400 ≤ 2 ^ 31 by omega), clN (show 10 * s + k < 2 ^ 31 by omega), rm54 hM hj, eM_spanOf hM n hs hk hd hd1, bd_some, toldV]
  by_cases h : q.1 54 (10 * s + k) = 0
  · simp only [if_pos h]
    split <;> rfl
  · simp only [if_neg h, rM53 hM hj h, spanO, neg_0]
    by_cases h2 : 0 ≤ q.1 53 (10 * s + k)
    · simp only [if_pos h2]
      split <;> rfl
    · simp only [if_neg h2]
      split <;> rfl
theorem s_has {c : Nat} {q : St} {M M' : mh_M} (hX : XS q M) (hM : MS q M') (hI : Inv c q) (n : Nat) (a0 a1 : Int32) : BothP (fX9_has n M a0 a1) (fX10_has n M' a0 a1) := by
  simp only [fX9_has, fX10_has, eX_isIn, eM_in, eX_isBar, eM_isBar, eX_isKind, eM_isKind, eX_isRecipe, eM_isRecipe, eX_isKeeper, eX_isTime, bd_some, bd2_some, b01, pl_e]
  obtain ⟨K, Rc, T, A, FT, PR, DL, hn, hb, i1, i2, i3, i4, i5, i6, i7⟩ := id hI
  rw [(rXc0 hX).trans hn.1, (rmc0 hM).trans hn.1]
  by_cases h0 : (0 : Int32) ≤ a0 ∧ a0 ≤ 2
  case neg => exact ⟨_, if_neg h0, if_neg h0⟩
  simp only [if_pos h0]
  by_cases h1 : 0 ≤ a1 ∧ a1 ≤ nI K - 1
  case neg => exact ⟨_, if_neg h1, if_neg h1⟩
  simp only [if_pos h1]
  obtain ⟨b, hb2, rfl⟩ := gIn (m := 2) (by omega) h0
  obtain ⟨k, hk, rfl⟩ := iK h1 (by omega)
  have hk10 : k < 10 := by omega
  simp only [inbN hk10 (show 10 ≤ 2 ^ 31 by omega), ck_t, clN (show k < 2 ^ 31 by omega), rX20_3 hX hk10, rm50 hM hk10, ix10]
  by_cases hb3 : b = 2
  · subst hb3
    exact ⟨_, if_pos rfl, if_pos rfl⟩
  have hb4 : b < 2 := by omega
  have hj : 10 * b + k < 20 := by omega
  rw [if_neg (show ¬ nI b = (2 : Int32) from nne (b := 2) hb3 (by omega) (by omega)), if_neg (show ¬ nI b = (2 : Int32) from nne (b := 2) hb3 (by omega) (by omega))]
  simp only [inbN hb4 (show 2 ≤ 2 ^ 31 by omega), inbN hj (show 20 ≤ 2 ^ 31 by omega), ck_t, clN (show b < 2 ^ 31 by omega), clN (show 10 * b + k < 2 ^ 31 by omega), rX21 hX hk10 hb4, rm51 hM hj]
  exact ⟨_, rfl, rfl⟩
theorem s_all {c : Nat} {q : St} {M M' : mh_M} (hX : XS q M) (hM : MS q M') (hI : Inv c q) (n : Nat) (a0 a1 : Int32) : BothP (fX9_all n M a0 a1) (fX10_all n M' a0 a1) := by
  simp only [fX9_all, fX10_all, eX_isIn, eM_in, eX_isBar, eM_isBar, eX_isKind, eM_isKind, eX_isRecipe, eM_isRecipe, eX_isKeeper, eX_isTime, bd_some, bd2_some, b01, pl_e]
  obtain ⟨K, Rc, T, A, FT, PR, DL, hn, hb, i1, i2, i3, i4, i5, i6, i7⟩ := id hI
  rw [(rXc0 hX).trans hn.1, (rmc0 hM).trans hn.1]
  by_cases h1 : 0 ≤ a0 ∧ a0 ≤ nI K - 1
  case neg => exact ⟨_, if_neg h1, if_neg h1⟩
  simp only [if_pos h1]
  by_cases h0 : (0 : Int32) ≤ a1 ∧ a1 ≤ 4
  case neg => exact ⟨_, if_neg h0, if_neg h0⟩
  simp only [if_pos h0]
  obtain ⟨j, hj, rfl⟩ := gIn (m := 4) (by omega) h0
  obtain ⟨k, hk, rfl⟩ := iK h1 (by omega)
  have hk10 : k < 10 := by omega
  have hx : 5 * k + j < 50 := by omega
  simp only [inbN hk10 (show 10 ≤ 2 ^ 31 by omega), inbN hx (show 50 ≤ 2 ^ 31 by omega), ck_t, clN (show k < 2 ^ 31 by omega), rX20_4 hX hk10, ix5, clN (show 5 * k + j < 2 ^ 31 by omega), rm58 hM hx]
  by_cases hj4 : j = 4
  · subst hj4
    exact ⟨_, if_pos rfl, rfl⟩
  have hj5 : j < 4 := by omega
  rw [if_neg (show ¬ nI j = (4 : Int32) from nne (b := 4) hj4 (by omega) (by omega))]
  simp only [inbN hj5 (show 4 ≤ 2 ^ 31 by omega), ck_t, clN (show j < 2 ^ 31 by omega), rX22 hX hk10 hj5]
  exact ⟨_, rfl, rfl⟩
theorem s_takings {c : Nat} {q : St} {M M' : mh_M} (hX : XS q M) (hM : MS q M') (hI : Inv c q) (n : Nat) (a0 : Int32) : BothP (fX9_takings n M a0) (fX10_takings n M' a0) := by
  simp only [fX9_takings, fX10_takings, eX_isIn, eM_in, eX_isBar, eM_isBar, eX_isKind, eM_isKind, eX_isRecipe, eM_isRecipe, eX_isKeeper, eX_isTime, bd_some, bd2_some, b01, pl_e]
  by_cases h0 : (0 : Int32) ≤ a0 ∧ a0 ≤ 1
  case neg => exact ⟨_, if_neg h0, if_neg h0⟩
  simp only [if_pos h0]
  obtain ⟨b, hb1, rfl⟩ := gIn (m := 1) (by omega) h0
  have hb2 : b < 2 := by omega
  simp only [inbN hb2 (show 2 ≤ 2 ^ 31 by omega), ck_t, clN (show b < 2 ^ 31 by omega), rX7 hX hb2, rm59 hM hb2]
  exact ⟨_, rfl, rfl⟩
theorem s_count {c : Nat} {q : St} {M M' : mh_M} (hX : XS q M) (hM : MS q M') (hI : Inv c q) (n : Nat) (a0 : Int32) : BothP (fX9_count n M a0) (fX10_count n M' a0) := by
  simp only [fX9_count, fX10_count, pl_e, rXc0 hX, rXc4 hX, rXc11 hX, rXc19 hX, rXc21 hX, rXc24 hX, rXc30 hX, rmc0 hM, rmc4 hM, rmc11 hM, rmc19 hM, rmc21 hM, rmc24 hM, rmc30 hM]
  repeat' (first | exact ⟨_, rfl, rfl⟩ | split)
theorem sub4 : ∀ h, h < 41 → (if (0 : Int32) < nI h - 4 then nI h - 4 else 0) = if h ≤ 4 then 0 else nI h - 4 := by decide +kernel
theorem s_keg {c : Nat} {q : St} {M M' : mh_M} (hX : XS q M) (hM : MS q M') (hI : Inv c q) (n : Nat) (a0 a1 : Int32) : BothP (fX9_keg n M a0 a1) (fX10_keg n M' a0 a1) := by
  simp only [fX9_keg, fX10_keg, eX_isIn, eM_in, eX_isBar, eM_isBar, eX_isKind, eM_isKind, eX_isRecipe, eM_isRecipe, eX_isKeeper, eX_isTime, bd_some, bd2_some, b01, pl_e]
  by_cases h0 : (1000 : Int32) ≤ a0 ∧ a0 ≤ 100000
  case neg => exact ⟨_, if_neg h0, if_neg h0⟩
  simp only [if_pos h0]
  by_cases h1 : (0 : Int32) ≤ a1 ∧ a1 ≤ 40
  case neg => exact ⟨_, if_neg h1, if_neg h1⟩
  simp only [if_pos h1]
  obtain ⟨h, hh, rfl⟩ := gIn (m := 40) (by omega) h1
  simp only [ib5, ib6, cl5, cl6, ck_t, nz50000, rX3 hX (show 5 < 7 by omega), rX3 hX (show 6 < 7 by omega), rm49 hM (show 5 < 7 by omega), rm49 hM (show 6 < 7 by omega), sub4 h (by omega)]
  generalize q.1 49 5 = f0
  generalize q.1 49 6 = f1
  have key : ∀ x : Int32, (if x < 90 then x else 90) = if x ≤ 90 then x else 90 := fun x => by
    by_cases e1 : x < 90
    · rw [if_pos e1, if_pos (Int32.le_of_lt e1)]
    · rw [if_neg e1]
      by_cases e2 : x ≤ 90
      · rw [if_pos e2]
        exact (Int32.le_antisymm e2 (Int32.not_lt.mp e1)).symm
      · rw [if_neg e2]
  simp only [key]
  by_cases h4 : h ≤ 4
  · rw [if_pos h4, if_pos (show nI h ≤ (4 : Int32) from (nI_leI (b := 4) (by omega) (by omega)).mpr h4)]
    simp only [Int32.mul_zero, Int32.add_zero]
    by_cases e : f0 ≤ 90
    · simp only [if_pos e]
      exact ⟨_, rfl, rfl⟩
    · simp only [if_neg e]
      exact ⟨_, rfl, rfl⟩
  · rw [if_neg h4, if_neg (show ¬ nI h ≤ (4 : Int32) from fun z => h4 ((nI_leI (b := 4) (by omega) (by omega)).mp z))]
    by_cases e : f0 + f1 * (nI h - 4) ≤ 90
    · simp only [if_pos e]
      exact ⟨_, rfl, rfl⟩
    · simp only [if_neg e]
      exact ⟨_, rfl, rfl⟩
theorem s_gap {c : Nat} {q : St} {M M' : mh_M} (hX : XS q M) (hM : MS q M') (hI : Inv c q) (n : Nat) (a0 a1 a2 a3 : Int32) : BothP (fX9_gap n M a0 a1 a2 a3) (fX10_gap n M' a0 a1 a2 a3) := by
  simp only [fX9_gap, fX10_gap, eX_isIn, eM_in, eX_isBar, eM_isBar, eX_isKind, eM_isKind, eX_isRecipe, eM_isRecipe, eX_isKeeper, eX_isTime, bd_some, bd2_some, b01, pl_e]
  obtain ⟨K, Rc, T, A, FT, PR, DL, hn, hb, i1, i2, i3, i4, i5, i6, i7⟩ := id hI
  rw [(rXc0 hX).trans hn.1, (rmc0 hM).trans hn.1, (rXc11 hX).trans hn.2.2.1, (rmc11 hM).trans hn.2.2.1]
  by_cases h0 : (0 : Int32) ≤ a0 ∧ a0 ≤ nI T
  case neg => exact ⟨_, if_neg h0, if_neg h0⟩
  simp only [if_pos h0]
  by_cases h1 : (0 : Int32) ≤ a1 ∧ a1 ≤ 1
  case neg => exact ⟨_, if_neg h1, if_neg h1⟩
  simp only [if_pos h1]
  by_cases h2 : 0 ≤ a2 ∧ a2 ≤ nI K - 1
  case neg => exact ⟨_, if_neg h2, if_neg h2⟩
  simp only [if_pos h2]
  by_cases h3 : (0 : Int32) ≤ a3 ∧ a3 ≤ 4
  case neg => exact ⟨_, if_neg h3, if_neg h3⟩
  simp only [if_pos h3]
  obtain ⟨t, ht, rfl⟩ := gIn (by omega) h0
  obtain ⟨b, hb1, rfl⟩ := gIn (m := 1) (by omega) h1
  obtain ⟨k, hk, rfl⟩ := iK h2 (by omega)
  have hb2 : b < 2 := by omega
  have hk10 : k < 10 := by omega
  have ht20 : t < 20 := by omega
  have hs : 2 * t + b < 40 := by omega
  have hj : 10 * (2 * t + b) + k < 400 := by omega
  obtain ⟨d0, d1⟩ := dn i1 hk
  simp only [eX_sheetOf n M ht20 hb2, eM_at, bd_some, eX_span hX n hs hk10 d0, eM_spanOf hM n hs hk10 d0 d1, eX_told hX n hs hk10, eM_told hM n hs hk10 d0 d1, ix2, inbN hk10 (show 10 ≤ 2 ^ 31 by omega), inbN hj (show 400 ≤ 2 ^ 31 by omega), inbN hs (show 40 ≤ 2 ^ 31 by omega), ck_t, clN (show k < 2 ^ 31 by omega), clN (show 10 * (2 * t + b) + k < 2 ^ 31 by omega), clN (show 2 * t + b < 2 ^ 31 by omega), rX27 hX hs hk10, rX29 hX hs hk10, rX26 hX hs hk10, rX25 hX hs, rm54 hM hj, rm55 hM hj, rm57 hM hs]
  by_cases e0 : a3 = 0
  · rw [if_pos e0, if_pos e0]
    by_cases w0 : q.1 54 (10 * (2 * t + b) + k) = 0
    · exact ⟨_, if_pos w0, if_pos w0⟩
    · rw [if_neg w0, if_neg w0, rX28 hX hs hk10 w0, rM53 hM hj w0]
      exact ⟨_, rfl, rfl⟩
  rw [if_neg e0, if_neg e0]
  by_cases e1 : a3 = 1
  · rw [if_pos e1, if_pos e1]
    simp only [spanO]
    by_cases w0 : q.1 54 (10 * (2 * t + b) + k) = 0
    · exact ⟨_, if_pos w0, by rw [if_pos w0]⟩
    · exact ⟨_, if_neg w0, by rw [if_neg w0]⟩
  rw [if_neg e1, if_neg e1]
  by_cases e2 : a3 = 2
  · simp only [if_pos e2]
    split <;> exact ⟨_, rfl, rfl⟩
  simp only [if_neg e2]
  by_cases e3 : a3 = 3
  · simp only [if_pos e3]
    exact ⟨_, rfl, rfl⟩
  simp only [if_neg e3]
  exact ⟨_, rfl, rfl⟩
