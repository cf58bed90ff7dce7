/-! ===== weighing, both sides ===== -/
theorem vu_sort {v : Vw} {x x' : Int32} {t j t' j' : Nat} (h : t' < t) : vu (vu v t j x) t' j' x' = vu (vu v t' j' x') t j x := vu_comm (by omega)
theorem i32_pos (x : Int32) : 0 < x ↔ 0 < x.toInt := Int32.lt_iff_toInt_lt
theorem maxN {g t : Nat} (hg : g ≤ 5000) (ht : t ≤ 2000) : (if (0 : Int32) < nI g - nI t then nI g - nI t else 0) = nI (g - t) := by
  by_cases h : t < g
  · rw [if_pos ((i32_pos _).mpr (by rw [pk_sub_toInt (by omega) (by omega)]; omega)), pk_sub (by omega)]
  · rw [if_neg (fun z => by
      have := (i32_pos _).mp z
      rw [pk_sub_toInt (by omega) (by omega)] at this
      omega), show g - t = 0 by omega]
    rfl
theorem sub_sub (a b : Int32) : a - (a - b) = b := by
  rw [Int32.sub_eq_add_neg, Int32.neg_sub, Int32.sub_eq_add_neg, Int32.add_comm b, ← Int32.add_assoc, Int32.add_right_neg, Int32.zero_add]
set_option maxHeartbeats 4000000 in
theorem s_weigh {c : Nat} {q : St} {M M' : mh_M} (hX : XS q M) (hM : MS q M') (hI : Inv c q) (hc : c < 512) (n : Nat) (hnn : 300 ≤ n) (a0 a1 a2 a3 : Int32) : Both c M M' (fX9_weigh n M a0 a1 a2 a3) (fX10_weigh n M' a0 a1 a2 a3) := by
  unfold fX9_weigh fX10_weigh
  simp only [eX_isIn, eM_in, eX_isBar, eM_isBar, eX_isKind, eM_isKind, bd_some, b01]
  obtain ⟨K, Rc, T, A, FT, PR, DL, hn, hb, i1, i2, i3, i4, i5, i6, i7⟩ := id hI
  rw [(rXc0 hX).trans hn.1, (rmc0 hM).trans hn.1]
  by_cases hg : (0 : Int32) ≤ a0 ∧ a0 ≤ 1
  case neg => exact both_no hX hM hI hc (if_neg hg) (if_neg hg)
  simp only [if_pos hg]
  by_cases h0 : 0 ≤ a1 ∧ a1 ≤ nI K - 1
  case neg => exact both_no hX hM hI hc (if_neg h0) (if_neg h0)
  simp only [if_pos h0]
  by_cases h1 : (0 : Int32) ≤ a2 ∧ a2 ≤ 50
  case neg => exact both_no hX hM hI hc (if_neg h1) (if_neg h1)
  simp only [if_pos h1]
  by_cases h2 : (0 : Int32) ≤ a3 ∧ a3 ≤ 5000
  case neg => exact both_no hX hM hI hc (if_neg h2) (if_neg h2)
  simp only [if_pos h2]
  obtain ⟨b, hb1, rfl⟩ := gIn (m := 1) (by omega) hg
  have hb2 : b < 2 := by omega
  obtain ⟨k, hk, rfl⟩ := iK h0 (by omega)
  obtain ⟨g, hg5, rfl⟩ := gIn (m := 5000) (by omega) h2
  have hk10 : k < 10 := by omega
  have hj20 : 10 * b + k < 20 := by omega
  have hA := hn.2.2.2.1
  have hT := hn.2.2.1
  have hA40 : A ≤ 40 := by omega
  have hT20 : T < 20 := by omega
  have hs : 2 * T + b < 40 := by omega
  have hj : 10 * (2 * T + b) + k < 400 := by omega
  have hj5 : 5 * k + 3 < 50 := by omega
  obtain ⟨d0, d1⟩ := dn i1 hk
  obtain ⟨-, -, -, -, t, ht, et⟩ := i1 k hk
  have rm44' : M' 44 0 k = q.1 44 k := rM44 hM hk10 d1
  rw [(rXc11 hX).trans hT, (rmc11 hM).trans hT]
  simp only [pl_e, eX_sheetOf n M hT20 hb2, eM_at, bd_some, inbN hk10 (show 10 ≤ 2 ^ 31 by omega), inbN hb2 (show 2 ≤ 2 ^ 31 by omega), inbN hj (show 400 ≤ 2 ^ 31 by omega), ck_t, clN (show k < 2 ^ 31 by omega), clN (show b < 2 ^ 31 by omega), clN (show 10 * (2 * T + b) + k < 2 ^ 31 by omega), rX27 hX hs hk10, rm54 hM hj, rX21 hX hk10 hb2]
  by_cases hw : q.1 54 (10 * (2 * T + b) + k) = 0
  case neg => exact both_no hX hM hI hc (if_neg hw) (if_neg hw)
  simp only [if_pos hw]
  obtain ⟨fo, hfo⟩ : ∃ fo : Int32, q.1 43 k * a2 + (100 : Int32) * nI (g - t) / q.1 44 k = fo := ⟨_, rfl⟩
  have eF : fX4_found n M k a2 (nI g) = some fo := by
    unfold fX4_found
    simp only [pl_e, rX20_0 hX hk10, rX20_1 hX hk10, rX20_2 hX hk10, et, maxN hg5 ht, nz_of d0, ck_t, hfo]
  simp only [eF, bd_some, eX_span hX n hs hk10 d0]
  have hX0 : XS (vu q.1 56 (10 * (2 * T + b) + k) (spanV q.1 (2 * T + b) k), q.2) (mh_up M 29 (2 * T + b) k (spanV q.1 (2 * T + b) k)) := by
    refine XS_step hX ?_ ?_ ?_ ?_ ?_ ?_ ?_ ?_
    · rw [wu29 hs hk10, hX.1]
    · try simp (disch := omega) only [rd_s, rd_t, rd_i, rd_k]
    · try simp (disch := omega) only [mh_up_t]
    · intro r; try simp (disch := omega) only [rd_s, rd_t, rd_i, rd_k]
    · intro r; try simp (disch := omega) only [rd_s, rd_t, rd_i, rd_k]
    · try simp (disch := omega) only [rd_s, rd_t, rd_i, rd_k]
    · try simp (disch := omega) only [vu_at, vu_t, vu_j]
    · intro j; try simp (disch := omega) only [vu_at, vu_t, vu_j]
  obtain ⟨nx, M7, y1, eO, hX7, f7, g0, g1, g2, g3, g4, -, -⟩ := cO hX0 (A := A) (by simp (disch := omega) only [vu_at, vu_t, vu_j]; exact hA) hA40 n 6 (nI b) (nI k) (q.1 51 (10 * b + k) - fo) 0
  obtain ⟨M8, e8, hX8, f8⟩ := ap6a hX7 (T := T) (by unfold pq; simp (disch := omega) only [vu_at, vu_t, vu_j]; exact hT) hT20 n hb2 hk10 g1 g2 g3 g0
  have hM3 : MS (vu (vu (vu q.1 51 (10 * b + k) fo) 54 (10 * (2 * T + b) + k) 1) 53 (10 * (2 * T + b) + k) (q.1 51 (10 * b + k) - fo), q.2) (mh_up (mh_up (mh_up M' 51 0 (10 * b + k) fo) 54 0 (10 * (2 * T + b) + k) 1) 53 0 (10 * (2 * T + b) + k) (q.1 51 (10 * b + k) - fo)) := by
    refine MS_step hM ?_ ?_ ?_ ?_
    · rw [wmW1 hj, wm51 hj20, hM.1]
    · try simp (disch := omega) only [mh_up_t]
    · try simp (disch := omega) only [mh_up_t]
    · try simp (disch := omega) only [vu_at, vu_t, vu_j]
  have eSp : fX10_spanNow n (mh_up (mh_up (mh_up M' 51 0 (10 * b + k) fo) 54 0 (10 * (2 * T + b) + k) 1) 53 0 (10 * (2 * T + b) + k) (q.1 51 (10 * b + k) - fo)) (nI (10 * (2 * T + b) + k)) = some (spanV q.1 (2 * T + b) k) := by
    have h := eM_span hM3 n hs hk10 (by simp (disch := omega) only [vu_at, vu_t, vu_j]; exact d0) (by simp (disch := omega) only [vu_at, vu_t, vu_j]; exact d1)
    rw [h]
    unfold spanV
    simp (disch := omega) only [vu_at, vu_t, vu_j]
  have hM8 : MS (vu (vu (vu (vu (vu q.1 51 (10 * b + k) fo) 54 (10 * (2 * T + b) + k) 1) 53 (10 * (2 * T + b) + k) (q.1 51 (10 * b + k) - fo)) 56 (10 * (2 * T + b) + k) (spanV q.1 (2 * T + b) k)) 58 (5 * k + 3) (q.1 58 (5 * k + 3) + (q.1 51 (10 * b + k) - fo)), q.2) (mh_up (mh_up (mh_up (mh_up (mh_up M' 51 0 (10 * b + k) fo) 54 0 (10 * (2 * T + b) + k) 1) 53 0 (10 * (2 * T + b) + k) (q.1 51 (10 * b + k) - fo)) 56 0 (10 * (2 * T + b) + k) (spanV q.1 (2 * T + b) k)) 58 0 (5 * k + 3) (q.1 58 (5 * k + 3) + (q.1 51 (10 * b + k) - fo))) := by
    refine MS_step hM ?_ ?_ ?_ ?_
    · rw [wm58 hj5, wm56 hj, wmW1 hj, wm51 hj20, hM.1]
    · try simp (disch := omega) only [mh_up_t]
    · try simp (disch := omega) only [mh_up_t]
    · try simp (disch := omega) only [vu_at, vu_t, vu_j]
  obtain ⟨N2, eK2, hM2, p2⟩ := kp hM8 (A := A) (by simp (disch := omega) only [vu_at, vu_t, vu_j]; exact hA) hA40 n (by omega) 6 (nI b) (nI k) (q.1 51 (10 * b + k) - fo) 0 0
  have hX9 : XS (pq (vu (vu (vu (vu (vu q.1 51 (10 * b + k) fo) 54 (10 * (2 * T + b) + k) 1) 53 (10 * (2 * T + b) + k) (q.1 51 (10 * b + k) - fo)) 56 (10 * (2 * T + b) + k) (spanV q.1 (2 * T + b) k)) 58 (5 * k + 3) (q.1 58 (5 * k + 3) + (q.1 51 (10 * b + k) - fo)), q.2) A (r5 6 (nI b) (nI k) (q.1 51 (10 * b + k) - fo) 0)) M8 := by
    have e : (vu (vu (vu (vu (pq (vu q.1 56 (10 * (2 * T + b) + k) (spanV q.1 (2 * T + b) k), q.2) A (r5 6 (nI b) (nI k) (q.1 51 (10 * b + k) - fo) 0)).1 54 (10 * (2 * T + b) + k) 1) 53 (10 * (2 * T + b) + k) (q.1 51 (10 * b + k) - fo)) 51 (10 * b + k) ((pq (vu q.1 56 (10 * (2 * T + b) + k) (spanV q.1 (2 * T + b) k), q.2) A (r5 6 (nI b) (nI k) (q.1 51 (10 * b + k) - fo) 0)).1 51 (10 * b + k) - 1 * (q.1 51 (10 * b + k) - fo))) 58 (5 * k + 3) ((pq (vu q.1 56 (10 * (2 * T + b) + k) (spanV q.1 (2 * T + b) k), q.2) A (r5 6 (nI b) (nI k) (q.1 51 (10 * b + k) - fo) 0)).1 58 (5 * k + 3) + 1 * (q.1 51 (10 * b + k) - fo))) = (pq (vu (vu (vu (vu (vu q.1 51 (10 * b + k) fo) 54 (10 * (2 * T + b) + k) 1) 53 (10 * (2 * T + b) + k) (q.1 51 (10 * b + k) - fo)) 56 (10 * (2 * T + b) + k) (spanV q.1 (2 * T + b) k)) 58 (5 * k + 3) (q.1 58 (5 * k + 3) + (q.1 51 (10 * b + k) - fo)), q.2) A (r5 6 (nI b) (nI k) (q.1 51 (10 * b + k) - fo) 0)).1 := by
      unfold pq
      simp (disch := omega) only [vu_t, one_m, sub_sub, vu_sort]
      rw [vu_comm (t := 56) (t' := 53) (by omega)]
    rw [e] at hX8
    exact hX8
  refine ⟨_, q.1 51 (10 * b + k) - fo, M8, N2, ?_, hX9, fun t ht => (f8 t (Or.inl ht)).trans ((f7 t ht).trans (by simp (disch := omega) only [mh_up_t])), ?_, hM2, fun t ht => (p2 t ht).trans (by simp (disch := omega) only [mh_up_t]), ?_⟩
  · rw [show (6 : Int32) = nI 6 from rfl] at eO
    rw [show (6 : Int32) = nI 6 from rfl, eO, e8]
    rfl
  · rw [rm42 hM hk10, et]
    by_cases htg : t ≤ g
    · rw [if_pos ((nI_leI (by omega) (by omega)).mpr htg), pk_sub htg]
      simp (maxSteps := 2000000) (disch := omega) only [ixA, eM_at, bd_some, pl_e, inbN hk10 (show 10 ≤ 2 ^ 31 by omega), inbN hj20 (show 20 ≤ 2 ^ 31 by omega), inbN hj (show 400 ≤ 2 ^ 31 by omega), inbN hj5 (show 50 ≤ 2 ^ 31 by omega), ck_t, clN (show k < 2 ^ 31 by omega), clN (show 10 * b + k < 2 ^ 31 by omega), clN (show 10 * (2 * T + b) + k < 2 ^ 31 by omega), clN (show 5 * k + 3 < 2 ^ 31 by omega), ix10, i53, rm43 hM hk10, rm44', nz_of d0, rm51 hM hj20, nar1, hfo, eSp, rd_t, rm58 hM hj5, eK2]
    · rw [if_neg (fun z => htg ((nI_leI (by omega) (by omega)).mp z))]
      have e0 : (0 : Int32) = nI (g - t) := by rw [show g - t = 0 by omega]; rfl
      rw [show (100 : Int32) * (0 : Int32) = (100 : Int32) * nI (g - t) by rw [← e0]]
      simp (maxSteps := 2000000) (disch := omega) only [ixA, eM_at, bd_some, pl_e, inbN hk10 (show 10 ≤ 2 ^ 31 by omega), inbN hj20 (show 20 ≤ 2 ^ 31 by omega), inbN hj (show 400 ≤ 2 ^ 31 by omega), inbN hj5 (show 50 ≤ 2 ^ 31 by omega), ck_t, clN (show k < 2 ^ 31 by omega), clN (show 10 * b + k < 2 ^ 31 by omega), clN (show 10 * (2 * T + b) + k < 2 ^ 31 by omega), clN (show 5 * k + 3 < 2 ^ 31 by omega), ix10, i53, rm43 hM hk10, rm44', nz_of d0, rm51 hM hj20, nar1, hfo, eSp, rd_t, rm58 hM hj5, eK2]
  · refine inv_push (r := (r5 6 (nI b) (nI k) (q.1 51 (10 * b + k) - fo) 0)) hI hc hA hA40 (fun K2 Rc2 z1 z2 z3 z4 => ?_) ?_ ?_ ?_ ?_
    · have : K2 = K := (nI_eq (by omega) (by omega)).mp (z1.symm.trans hn.1)
      subst this
      exact ⟨6, b, k, by omega, hb2, rfl, rfl, rfl, fun _ => hk, fun z => absurd z (by omega)⟩
    · intro j hj
      simp (disch := omega) only [vu_at, vu_t, vu_j]
    · simp (disch := omega) only [vu_at, vu_t, vu_j]
    · intro t j ht z1 z2
      unfold InvT at ht
      simp (disch := omega) only [vu_at, vu_t, vu_j]
    · exact i3up i3 (fun j => by simp (disch := omega) only [vu_at, vu_t, vu_j])
