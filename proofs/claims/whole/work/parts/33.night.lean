/-! ===== the NIGHT's end, both sides ===== -/
theorem nar0 : vp_nar .boolean (0 : Int32) = 0 := by decide
theorem nar1 : vp_nar .boolean (1 : Int32) = 1 := by decide
theorem VM_off48 {M N : mh_M} (h : ∀ t, t ≠ 48 → N t = M t) : VM N = VM M := by
  funext t j
  simp only [VM]
  by_cases hd : vdom t j = true
  · have hne : t ≠ 48 := fun q => by
      subst q
      cases hd
    rw [if_pos hd, if_pos hd, h t hne, h 44 (by omega)]
  · rw [if_neg hd, if_neg hd]
theorem eX_sheet0 (n : Nat) (M : mh_M) {t : Nat} (ht : t < 20) : fX9_sheetOf n M (nI t) 0 = some (2 * t) := eX_sheetOf n M (b := 0) ht (by omega)
theorem eX_sheet1 (n : Nat) (M : mh_M) {t : Nat} (ht : t < 20) : fX9_sheetOf n M (nI t) 1 = some (2 * t + 1) := eX_sheetOf n M (b := 1) ht (by omega)
def clr (M : mh_M) (x : Nat) : mh_M := fun t i j => if t = 48 ∧ i = 0 ∧ x ≤ j ∧ j < 12 then 0 else M t i j
theorem night_loop (n : Nat) : ∀ (d x k : Nat) (M : mh_M), x + d = 12 → d < k → itr2 (fX10_night_L79 n) k M (nI x) = some (clr M x, M 40 0 11) := by
  intro d
  induction d with
  | zero =>
    intro x k M hx hk
    obtain ⟨k, rfl⟩ : ∃ m, k = m + 1 := ⟨k - 1, by omega⟩
    have hx2 : x = 12 := by omega
    subst hx2
    show fX10_night_L79 n (itr2 (fX10_night_L79 n) k) M (nI 12) = _
    simp only [fX10_night_L79, pl_e]
    rw [if_pos (show (12 : Int32) ≤ nI 12 from (nI_leI (a := 12) (by omega) (by omega)).mpr (by omega))]
    have : clr M 12 = M := by
      funext t i j
      exact if_neg (by omega)
    rw [this]
  | succ d ih =>
    intro x k M hx hk
    obtain ⟨k, rfl⟩ : ∃ m, k = m + 1 := ⟨k - 1, by omega⟩
    have hx2 : x < 12 := by omega
    show fX10_night_L79 n (itr2 (fX10_night_L79 n) k) M (nI x) = _
    simp only [fX10_night_L79, pl_e]
    rw [if_neg (show ¬ (12 : Int32) ≤ nI x from fun z => absurd ((nI_leI (a := 12) (by omega) (by omega)).mp z) (by omega))]
    rw [inbN hx2 (by omega), ck_t, clN (by omega), nar0, nI_1, ih (x + 1) k _ (by omega) (by omega), rd_t (by omega)]
    have : clr (mh_up M 48 0 x 0) (x + 1) = clr M x := by
      funext t i j
      simp only [clr, mh_up]
      by_cases h1 : t = 48 ∧ i = 0 ∧ x + 1 ≤ j ∧ j < 12
      · rw [if_pos h1, if_pos (by omega)]
      · rw [if_neg h1]
        by_cases h2 : t = 48 ∧ i = 0 ∧ j = x
        · rw [if_pos h2, if_pos (by omega)]
        · rw [if_neg h2, if_neg (by omega)]
    rw [this]
theorem night_X (n m : Nat) (M : mh_M) : itr2 (fX9_night_L14 n) (m + 3) M 0 = fX9_night_L14 n (fX9_night_L14 n (fX9_night_L14 n (itr2 (fX9_night_L14 n) m))) M 0 := rfl
theorem s_night {c : Nat} {q : St} {M M' : mh_M} (hX : XS q M) (hM : MS q M') (hI : Inv c q) (hc : c < 512) (n : Nat) (hnn : 20 ≤ n) : Both c M M' (fX9_night n M) (fX10_night n M') := by
  simp only [fX9_night, fX10_night, eX_isIn, eM_in, eX_isBar, eM_isBar, eX_isKind, eM_isKind, eX_isRecipe, eM_isRecipe, eX_isKeeper, eX_isTime, bd_some, bd2_some, b01, pl_e]
  obtain ⟨K, Rc, T, A, FT, PR, DL, hn, hb, i1, i2, i3, i4, i5, i6, i7⟩ := id hI
  have eT : M 0 0 6 = nI T := (rXc11 hX).trans hn.2.2.1
  have eT' : M' 40 0 11 = nI T := (rmc11 hM).trans hn.2.2.1
  simp only [eT, eT']
  by_cases hT : T = 19
  · subst hT
    exact both_no hX hM hI hc (if_neg (nnlt (a := 19) (b := 19) (by omega) (by omega))) (if_pos rfl)
  have hT2 : T < 19 := by omega
  rw [if_pos (show nI T < (19 : Int32) from nlt (b := 19) hT2 (by omega)), if_neg (show ¬ nI T = (19 : Int32) from nne (b := 19) hT (by omega) (by omega))]
  obtain ⟨m, rfl⟩ : ∃ m, n = m + 3 := ⟨n - 3, by omega⟩
  have hT20 : T + 1 < 20 := by omega
  have g1 : 2 * (T + 1) < 40 := by omega
  have g2 : 2 * (T + 1) + 1 < 40 := by omega
  have g3 : 2 * T < 40 := by omega
  have g4 : 2 * T + 1 < 40 := by omega
  simp (disch := omega) only [night_X, fX9_night_L14, pl_e, show ¬ (2 : Int32) ≤ 0 from by decide, show (0 : Int32) + 1 = 1 from rfl, show ¬ (2 : Int32) ≤ 1 from by decide, show (1 : Int32) + 1 = 2 from rfl, show (2 : Int32) ≤ 2 from by decide, if_true, if_false, eT, nI_1, eX_sheet0 (m + 3) _ (show T < 20 by omega), eX_sheet1 (m + 3) _ (show T < 20 by omega), eX_sheet0 (m + 3) _ hT20, eX_sheet1 (m + 3) _ hT20, bd_some, rd_s, rd_t, rd_i, rX25 hX g3, rX25 hX g4]
  have a1 : (2 : Int32) * nI (T + 1) = nI (2 * (T + 1)) := by rw [litN, pk_mul]
  have a2 : nI (2 * (T + 1)) - (2 : Int32) = nI (2 * T) := by
    show nI (2 * (T + 1)) - nI 2 = _
    rw [pk_sub (by omega)]
    congr 1
  have a3 : nI (2 * (T + 1)) - (1 : Int32) = nI (2 * T + 1) := by
    show nI (2 * (T + 1)) - nI 1 = _
    rw [pk_sub (by omega)]
    congr 1
  simp (disch := omega) only [nI_1, rd_s, rd_t, rd_i, rd_k, a1, a2, a3, inbN g1 (show 40 ≤ 2 ^ 31 by omega), inbN g2 (show 40 ≤ 2 ^ 31 by omega), inbN g3 (show 40 ≤ 2 ^ 31 by omega), inbN g4 (show 40 ≤ 2 ^ 31 by omega), ck_t, clN (show 2 * (T + 1) < 2 ^ 31 by omega), clN (show 2 * (T + 1) + 1 < 2 ^ 31 by omega), clN (show 2 * T < 2 ^ 31 by omega), clN (show 2 * T + 1 < 2 ^ 31 by omega), rm57 hM g3, rm57 hM g4]
  rw [show (0 : Int32) = nI 0 from rfl, night_loop (m + 3) 12 0 (m + 3) _ (by omega) (by omega)]
  simp (disch := omega) only [rd_s, rd_t, rd_i, rd_k]
  have ea : acN (vu (vu (vu (vu q.1 57 (2 * (T + 1)) (q.1 57 (2 * T))) 57 (2 * (T + 1) + 1) (q.1 57 (2 * T + 1))) 40 11 (nI (T + 1))) 40 19 (nI 0)) = 0 := by
    unfold acN
    rw [vu_at]
    rfl
  refine ⟨(vu (vu (vu (vu q.1 57 (2 * (T + 1)) (q.1 57 (2 * T))) 57 (2 * (T + 1) + 1) (q.1 57 (2 * T + 1))) 40 11 (nI (T + 1))) 40 19 (nI 0), q.2.1, fun _ => false), _, _, _, rfl, ?_, ?_, rfl, ?_, ?_, ?_⟩
  · obtain ⟨x1, ⟨nx, y1, y2, y3⟩, x3, x4⟩ := id hX
    refine ⟨?_, ⟨nx, y1, ?_, ?_⟩, ?_, ?_⟩
    · rw [wuc19, wuc11, wu25 g2, wu25 g1, x1]
    · simp (disch := omega) only [rd_s, rd_t, rd_i, rd_k]
      exact y2
    · intro a ha
      exact absurd (show a < acN _ from ha) (by rw [ea]; omega)
    · intro r hr
      simp (disch := omega) only [rd_s, rd_t, rd_i, rd_k]
      have hb9 := (x3 r hr).2
      rw [eT, nI_toInt (by omega)] at hb9
      refine ⟨⟨fun z => ?_, fun z => by cases z⟩, ?_⟩
      · rw [z, nI_toInt (by omega)] at hb9
        omega
      · rw [nI_toInt (by omega)]
        omega
    · intro r hr i hi
      simp (disch := omega) only [rd_s, rd_t, rd_i, rd_k, vu_t]
      exact x4 r hr i hi
  · intro t ht; try simp (disch := omega) only [mh_up_t]
  · obtain ⟨m1, m2, m3⟩ := id hM
    refine ⟨?_, ?_, ?_⟩
    · unfold wM
      rw [VM_off48 (M := mh_up (mh_up (mh_up (mh_up M' 40 0 11 (nI (T + 1))) 57 0 (2 * (T + 1)) (q.1 57 (2 * T))) 57 0 (2 * (T + 1) + 1) (q.1 57 (2 * T + 1))) 40 0 19 (nI 0))]
      · show wM _ = _
        rw [wmc19, wm57 g2, wm57 g1, wmc11, m1, vu_comm (v := q.1) (t := 40) (j := 11) (by omega), vu_comm (t := 40) (j := 11) (t' := 57) (by omega)]
      · intro t ht
        funext i j
        exact if_neg (fun z => ht z.1)
    · intro a ha
      exact absurd (show a < acN _ from ha) (by rw [ea]; omega)
    · intro r hr
      show clr _ 0 48 0 r = _
      simp [clr, hr]
  · intro t ht
    funext i j
    show clr _ 0 t i j = _
    simp only [clr]
    rw [if_neg (by omega)]
    simp (disch := omega) only [rd_t]
  · skip
    refine ⟨K, Rc, T + 1, 0, FT, PR, DL, ?_, ?_, ?_, ?_, ?_, ?_, ?_, ?_, ?_⟩
    · simp (disch := omega) only [vu_at, vu_t, vu_j, hn, and_self]
    · omega
    · intro k hk
      try simp (disch := omega) only [vu_at, vu_t, vu_j]
      exact i1 k hk
    · intro r hr k hk
      try simp (disch := omega) only [vu_at, vu_t, vu_j]
      exact i2 r hr k hk
    · intro j hj
      have := i3 j hj
      try simp (disch := omega) only [vu_at, vu_t, vu_j]
      omega
    · intro j hj
      try simp (disch := omega) only [vu_at, vu_t, vu_j]
      exact i4 j hj
    · intro j hj
      try simp (disch := omega) only [vu_at, vu_t, vu_j]
      exact i5 j hj
    · intro j hj
      try simp (disch := omega) only [vu_at, vu_t, vu_j]
      exact i6 j hj
    · intro a ha
      omega
