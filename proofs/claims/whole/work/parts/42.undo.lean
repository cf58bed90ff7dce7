/-! ===== undo, both sides ===== -/
theorem inv_pop {c : Nat} {q : St} (hI : Inv c q) (hc : c < 512) {A : Nat} (hA : q.1 40 19 = nI A) (hA40 : A ≤ 40) {w' : Vw} {sd : Nat → Bool}
    (h40 : ∀ j, j ≠ 19 → w' 40 j = q.1 40 j) (h19 : w' 40 19 = nI (A - 1)) (hT : ∀ t j, InvT t → t ≠ 40 → t ≠ 55 → w' t j = q.1 t j)
    (h55 : ∀ j, j < 400 → -(100 * ((c : Int) + 1)) ≤ (w' 55 j).toInt ∧ (w' 55 j).toInt ≤ 100 * ((c : Int) + 1)) : Inv (c + 1) (w', q.2.1, sd) := by
  obtain ⟨K, Rc, T, A', FT, PR, DL, hn, hb, i1, i2, i3, i4, i5, i6, i7⟩ := hI
  have eA : A' = A := (nI_eq (by omega) (by omega)).mp (hn.2.2.2.1.symm.trans hA)
  subst eA
  refine ⟨K, Rc, T, A' - 1, FT, PR, DL, ?_, ?_, ?_, ?_, ?_, ?_, ?_, ?_, ?_⟩
  · refine ⟨?_, ?_, ?_, h19, ?_, ?_, ?_⟩
    · exact (h40 0 (by omega)).trans hn.1
    · exact (h40 4 (by omega)).trans hn.2.1
    · exact (h40 11 (by omega)).trans hn.2.2.1
    · exact (h40 21 (by omega)).trans hn.2.2.2.2.1
    · exact (h40 24 (by omega)).trans hn.2.2.2.2.2.1
    · exact (h40 30 (by omega)).trans hn.2.2.2.2.2.2
  · omega
  · intro k hk
    show ∃ d : Nat, 50 ≤ d ∧ d ≤ 150 ∧ w' 44 k = nI d ∧ ∃ t : Nat, t ≤ 2000 ∧ w' 42 k = nI t
    rw [hT 44 k (by unfold InvT; omega) (by omega) (by omega), hT 42 k (by unfold InvT; omega) (by omega) (by omega)]
    exact i1 k hk
  · intro r hr k hk
    show ∃ p : Nat, p ≤ 20 ∧ w' 47 (10 * r + k) = nI p ∧ (K ≤ k → p = 0)
    rw [hT 47 _ (by unfold InvT; omega) (by omega) (by omega)]
    exact i2 r hr k hk
  · intro j hj
    have := h55 j hj
    show -(100 * ((c + 1 : Nat) : Int)) ≤ (w' 55 j).toInt ∧ (w' 55 j).toInt ≤ 100 * ((c + 1 : Nat) : Int)
    omega
  · intro j hj
    show ∃ a : Nat, a ≤ 200 ∧ w' 63 j = nI a
    rw [hT 63 _ (by unfold InvT; omega) (by omega) (by omega)]
    exact i4 j hj
  · intro j hj
    show ∃ a b : Nat, a ≤ 1439 ∧ b ≤ 1439 ∧ w' 67 j = nI a ∧ w' 68 j = nI b
    rw [hT 67 _ (by unfold InvT; omega) (by omega) (by omega), hT 68 _ (by unfold InvT; omega) (by omega) (by omega)]
    exact i5 j hj
  · intro j hj
    show ∃ a b : Nat, 1 ≤ a ∧ a ≤ 24 ∧ b ≤ 100000 ∧ w' 72 j = nI a ∧ w' 73 j = nI b
    rw [hT 72 _ (by unfold InvT; omega) (by omega) (by omega), hT 73 _ (by unfold InvT; omega) (by omega) (by omega)]
    exact i6 j hj
  · intro a ha
    exact i7 a (by omega)
theorem MS_pop {q : St} {M : mh_M} (hM : MS q M) {A : Nat} (hA : q.1 40 19 = nI A) (hA40 : A ≤ 40) : MS (qq q A) (mh_up M 40 0 19 (nI (A - 1))) := by
  obtain ⟨m1, m2, m3⟩ := id hM
  refine ⟨?_, ?_, ?_⟩
  · rw [wmc19, m1]
    rfl
  · intro a ha j hj
    have e : acN (vu q.1 40 19 (nI (A - 1))) = A - 1 := acN_of (vu_at _ _ _ _) (by omega)
    have ha' : a < acN (vu q.1 40 19 (nI (A - 1))) := ha
    rw [e] at ha'
    rw [rd_t (by omega)]
    exact m2 a (by rw [acN_of hA hA40]; omega) j hj
  · intro r hr
    rw [rd_t (by omega)]
    exact m3 r hr
theorem qq_t {q : St} {A t j : Nat} (h : t ≠ 40) : (qq q A).1 t j = q.1 t j := vu_t (w := q.1) h
theorem m1m (x : Int32) : (-1 : Int32) * x = -x := by
  rw [show (-1 : Int32) = -(1 : Int32) from rfl, Int32.neg_mul, Int32.one_mul]
theorem sub_m1 (x y : Int32) : x - (-1) * y = x + y := by rw [m1m, Int32.sub_neg]
theorem add_m1 (x y : Int32) : x + (-1) * y = x - y := by rw [m1m, ← Int32.sub_eq_add_neg]
theorem MS_wundo {q : St} {M : mh_M} (hM : MS q M) {b k s : Nat} (hb : b < 2) (hk : k < 10) (hs : s < 40) (m : Int32) :
    MS (vu (vu (vu (vu q.1 54 (10 * s + k) 0) 53 (10 * s + k) 0) 51 (10 * b + k) (q.1 51 (10 * b + k) + m)) 58 (5 * k + 3) (q.1 58 (5 * k + 3) - m), q.2) (mh_up (mh_up (mh_up M 51 0 (10 * b + k) (q.1 51 (10 * b + k) + m)) 58 0 (5 * k + 3) (q.1 58 (5 * k + 3) - m)) 54 0 (10 * s + k) 0) := by
  obtain ⟨m1, m2, m3⟩ := id hM
  have hj5 : 5 * k + 3 < 50 := by omega
  have hj20 : 10 * b + k < 20 := by omega
  refine ⟨?_, ?_, ?_⟩
  · rw [wmW0 (show 10 * s + k < 400 by omega), wm58 hj5, wm51 hj20, m1]
    show vu (vu (vu (vu q.1 51 _ _) 58 _ _) 54 _ _) 53 _ _ = vu (vu (vu (vu q.1 54 _ _) 53 _ _) 51 _ _) 58 _ _
    rw [vu_comm (v := vu q.1 51 _ _) (t := 58) (t' := 54) (by omega), vu_comm (v := q.1) (t := 51) (t' := 54) (by omega), vu_comm (t := 58) (t' := 53) (by omega), vu_comm (t := 51) (t' := 53) (by omega)]
  · intro a ha j hj
    have ha' : a < acN q.1 := by
      have e : acN (vu (vu (vu (vu q.1 54 (10 * s + k) 0) 53 (10 * s + k) 0) 51 (10 * b + k) (q.1 51 (10 * b + k) + m)) 58 (5 * k + 3) (q.1 58 (5 * k + 3) - m)) = acN q.1 := by
        unfold acN
        simp (disch := omega) only [vu_t]
      have h : a < acN (vu (vu (vu (vu q.1 54 (10 * s + k) 0) 53 (10 * s + k) 0) 51 (10 * b + k) (q.1 51 (10 * b + k) + m)) 58 (5 * k + 3) (q.1 58 (5 * k + 3) - m)) := ha
      rw [e] at h
      exact h
    simp (disch := omega) only [rd_t]
    exact m2 a ha' j hj
  · intro r hr
    simp (disch := omega) only [rd_t]
    exact m3 r hr
set_option maxHeartbeats 4000000 in
theorem s_undo {c : Nat} {q : St} {M M' : mh_M} (hX : XS q M) (hM : MS q M') (hI : Inv c q) (hc : c < 512) (n : Nat) (hnn : 300 ≤ n) : Both c M M' (fX9_undo n M) (fX10_undo n M') := by
  unfold fX9_undo fX10_undo
  obtain ⟨K, Rc, T, A, FT, PR, DL, hn, hb, i1, i2, i3, i4, i5, i6, i7⟩ := id hI
  have hA := hn.2.2.2.1
  have hT := hn.2.2.1
  have hA40 : A ≤ 40 := by omega
  have hT20 : T < 20 := by omega
  have eM : M' 40 0 19 = nI A := (rmc19 hM).trans hA
  simp only [pl_e]
  rw [(rXc19 hX).trans hA, eM]
  by_cases h0 : A = 0
  · subst h0
    exact both_no (r := -2) hX hM hI hc (if_pos rfl) (if_pos rfl)
  have nz : ¬ nI A = 0 := nne (b := 0) h0 (by omega) (by omega)
  simp only [if_neg nz]
  have hA1 : nI A - (1 : Int32) = nI (A - 1) := by
    rw [litN 1]
    exact pk_sub (by omega)
  obtain ⟨nx, M7, y1, eO, hX7, f7, g, -, -⟩ := tL hX hA hA40 (by omega) n
  have hM7 := MS_pop hM hA hA40
  obtain ⟨w, b, t, hw, hb2, l0, l1, l2, lK, l3⟩ := i7 (A - 1) (by omega)
  have g0 : M7 30 nx 0 = nI w := (g 0 (by omega)).trans l0
  have g1 : M7 30 nx 1 = nI b := (g 1 (by omega)).trans l1
  have g2 : M7 30 nx 2 = nI t := (g 2 (by omega)).trans l2
  have g3 := g 3 (by omega)
  have g4 := g 4 (by omega)
  obtain ⟨m1, m2, m3⟩ := id hM
  have e6 : (6 : Int32) * nI (A - 1) = nI (6 * (A - 1)) := by rw [litN 6, pk_mul]
  have e61 : nI (6 * (A - 1)) + (1 : Int32) = nI (6 * (A - 1) + 1) := nI_1 _
  have e62 : nI (6 * (A - 1)) + (2 : Int32) = nI (6 * (A - 1) + 2) := nI_add _ 2
  have e63 : nI (6 * (A - 1)) + (3 : Int32) = nI (6 * (A - 1) + 3) := nI_add _ 3
  have e64 : nI (6 * (A - 1)) + (4 : Int32) = nI (6 * (A - 1) + 4) := nI_add _ 4
  have eN : acN q.1 = A := acN_of hA hA40
  have k0 : M' 61 0 (6 * (A - 1)) = nI w := (m2 (A - 1) (by omega) 0 (by omega)).trans l0
  have k1 : M' 61 0 (6 * (A - 1) + 1) = nI b := (m2 (A - 1) (by omega) 1 (by omega)).trans l1
  have k2 : M' 61 0 (6 * (A - 1) + 2) = nI t := (m2 (A - 1) (by omega) 2 (by omega)).trans l2
  have k3 := m2 (A - 1) (by omega) 3 (by omega)
  have k4 := m2 (A - 1) (by omega) 4 (by omega)
  generalize q.2.1 (A - 1) 3 = m at g3 k3 l3
  generalize q.2.1 (A - 1) 4 = cost at g4 k4
  have iA : ∀ j, j < 6 → inb (nI (6 * (A - 1) + j)) 240 = true := fun j hj => inbN (by omega) (by omega)
  have iA0 : inb (nI (6 * (A - 1))) 240 = true := inbN (by omega) (by omega)
  have cA : ∀ j, j < 6 → (nI (6 * (A - 1) + j)).toNatClampNeg = 6 * (A - 1) + j := fun j hj => clN (by omega)
  have cA0 : (nI (6 * (A - 1))).toNatClampNeg = 6 * (A - 1) := clN (by omega)
  simp (disch := omega) only [hA1, rd_s, e6, e61, e62, e63, e64, iA0, iA, ck_t, cA0, cA, rd_t, k0, k1, k2, k3, k4, eO, bd2_some]
  have hT7 : (qq q A).1 40 11 = nI T := by unfold qq; simp (disch := omega) only [vu_at, vu_t, vu_j]; exact hT
  have hK7 : (qq q A).1 40 0 = nI K := by unfold qq; simp (disch := omega) only [vu_at, vu_t, vu_j]; exact hn.1
  have h12 : ¬ (nI 1 = (0 : Int32)) := by decide
  rcases (show w = 0 ∨ w = 1 ∨ w = 2 ∨ w = 3 ∨ w = 4 ∨ w = 5 ∨ w = 6 by omega) with rfl | rfl | rfl | rfl | rfl | rfl | rfl
  · have hk10 : t < 10 := by have := lK (by omega); omega
    obtain ⟨M8, e8, hX8, f8⟩ := ap0 hX7 hT7 hT20 n hb2 hk10 g1 g2 g3 (-1) g0
    obtain ⟨N2, d2, hM2, p2⟩ := mr0 hM7 n hk10 (-m)
    have eV : M8 30 nx 0 = nI 0 := by rw [f8 30 (Or.inr rfl)]; exact g0
    simp only [m1m] at hX8
    refine ⟨_, nI 0, M8, N2, ?_, hX8, fun t ht => (f8 t (Or.inl ht)).trans (f7 t ht), ?_, hM2, fun t ht => (p2 t ht).trans (by simp (disch := omega) only [mh_up_t]), ?_⟩
    · rw [e8]
      simp only [bd_some, eV]
    · rw [if_pos (show nI 0 = (0 : Int32) from rfl)]
      simp only [d2, bd_some]
    · refine inv_pop hI hc hA hA40 ?_ ?_ ?_ ?_
      · intro j hj
        unfold qq
        simp (disch := omega) only [vu_t, vu_j]
      · unfold qq
        simp (disch := omega) only [vu_t, vu_at]
      · intro t j ht z1 z2
        unfold InvT at ht
        unfold qq
        simp (disch := omega) only [vu_t]
      · exact i3up i3 (fun j => by unfold qq; simp (disch := omega) only [vu_t])
  · have hk10 : t < 10 := by have := lK (by omega); omega
    obtain ⟨M8, e8, hX8, f8⟩ := ap1 hX7 hT7 hT20 n hb2 hk10 g1 g2 g3 (-1) g0
    obtain ⟨N2, d2, hM2, p2⟩ := mr1 hM7 n hb2 hk10 (-m)
    have eV : M8 30 nx 0 = nI 1 := by rw [f8 30 (Or.inr rfl)]; exact g0
    simp only [m1m] at hX8
    refine ⟨_, nI 1, M8, N2, ?_, hX8, fun t ht => (f8 t (Or.inl ht)).trans (f7 t ht), ?_, hM2, fun t ht => (p2 t ht).trans (by simp (disch := omega) only [mh_up_t]), ?_⟩
    · rw [e8]
      simp only [bd_some, eV]
    · rw [if_neg (show ¬ nI 1 = (0 : Int32) by decide), if_pos (show nI 1 = (1 : Int32) from rfl)]
      simp only [d2, bd_some]
    · refine inv_pop hI hc hA hA40 ?_ ?_ ?_ ?_
      · intro j hj
        unfold qq
        simp (disch := omega) only [vu_t, vu_j]
      · unfold qq
        simp (disch := omega) only [vu_t, vu_at]
      · intro t j ht z1 z2
        unfold InvT at ht
        unfold qq
        simp (disch := omega) only [vu_t]
      · exact i3up i3 (fun j => by unfold qq; simp (disch := omega) only [vu_t])
  · have hk10 : t < 10 := by have := lK (by omega); omega
    obtain ⟨M8, e8, hX8, f8⟩ := ap2 hX7 hT7 hT20 n hb2 hk10 g1 g2 g3 (-1) g0
    obtain ⟨N2, d2, hM2, p2⟩ := mr2 hM7 n hb2 hk10 (-m)
    have eV : M8 30 nx 0 = nI 2 := by rw [f8 30 (Or.inr rfl)]; exact g0
    simp only [m1m] at hX8
    refine ⟨_, nI 2, M8, N2, ?_, hX8, fun t ht => (f8 t (Or.inl ht)).trans (f7 t ht), ?_, hM2, fun t ht => (p2 t ht).trans (by simp (disch := omega) only [mh_up_t]), ?_⟩
    · rw [e8]
      simp only [bd_some, eV]
    · rw [if_neg (show ¬ nI 2 = (0 : Int32) by decide), if_neg (show ¬ nI 2 = (1 : Int32) by decide), if_pos (show nI 2 = (2 : Int32) from rfl)]
      simp only [d2, bd_some]
    · refine inv_pop hI hc hA hA40 ?_ ?_ ?_ ?_
      · intro j hj
        unfold qq
        simp (disch := omega) only [vu_t, vu_j]
      · unfold qq
        simp (disch := omega) only [vu_t, vu_at]
      · intro t j ht z1 z2
        unfold InvT at ht
        unfold qq
        simp (disch := omega) only [vu_t]
      · exact i3up i3 (fun j => by unfold qq; simp (disch := omega) only [vu_t])
  · obtain ⟨hr, u, hu, eu⟩ := l3 rfl
    have hr12 : t < 12 := by omega
    obtain ⟨M8, e8, hX8, f8⟩ := ap3 hX7 (T := T) (K := K) hT7 hT20 hK7 hb.1 (n := n) (by omega) hb2 hr12 g0 g1 g2 g3 g4 (fun i hi => by
      obtain ⟨p, p1, p2, -⟩ := i2 t hr12 i hi
      exact ⟨p, p1, by unfold qq; simp (disch := omega) only [vu_t]; exact p2⟩) (-1)
    obtain ⟨N2, d2, hM2, p2⟩ := mr3 hM7 hT7 hT20 hK7 hb.1 (n := n) (by omega) hb2 hr12 (-m) (-cost)
    have eV : M8 30 nx 0 = nI 3 := by rw [f8 30 (Or.inr rfl)]; exact g0
    simp only [m1m] at hX8
    refine ⟨_, nI 3, M8, N2, ?_, hX8, fun t ht => (f8 t (Or.inl ht)).trans (f7 t ht), ?_, hM2, fun t ht => (p2 t ht).trans (by simp (disch := omega) only [mh_up_t]), ?_⟩
    · rw [e8]
      simp only [bd_some, eV]
    · rw [if_neg (show ¬ nI 3 = (0 : Int32) by decide), if_neg (show ¬ nI 3 = (1 : Int32) by decide), if_neg (show ¬ nI 3 = (2 : Int32) by decide), if_pos (show nI 3 = (3 : Int32) from rfl)]
      simp only [d2, bd_some]
    · refine inv_pop hI hc hA hA40 ?_ ?_ ?_ ?_
      · intro j hj
        unfold qq
        rw [vu_t (by omega), saleF_t (by omega) (by omega) (by omega)]
        exact vu_j hj
      · unfold qq
        rw [vu_t (by omega), saleF_t (by omega) (by omega) (by omega)]
        exact vu_at (q.1) 40 19 (nI (A - 1))
      · intro t j ht z1 z2
        unfold InvT at ht
        unfold qq
        rw [vu_t (by omega), saleF_t (by omega) (by omega) (by omega)]
        exact vu_t (by omega)
      · intro j hj
        have h3 := i3 j hj
        rw [vu_t (by omega)]
        have e0 : (qq q A).1 55 j = q.1 55 j := qq_t (by omega)
        rcases (saleF_55 (b := b) (s := 2 * T + b) (r := t) (y := -m) K 0 (qq q A).1 j).2 with e | e
        · rw [e, e0]
          omega
        · rw [e, e0, eu, ← m1m, subT hu (by omega)]
          omega
  · have hk10 : t < 10 := by have := lK (by omega); omega
    obtain ⟨M8, e8, hX8, f8⟩ := ap4 hX7 hT7 hT20 n hb2 hk10 g1 g2 g3 (-1) (w := 4) (Or.inl rfl) g0
    obtain ⟨N2, d2, hM2, p2⟩ := mr4 hM7 n hb2 hk10 (-m) (j := 0) (by omega)
    have eV : M8 30 nx 0 = nI 4 := by rw [f8 30 (Or.inr rfl)]; exact g0
    simp only [m1m] at hX8
    refine ⟨_, nI 4, M8, N2, ?_, hX8, fun t ht => (f8 t (Or.inl ht)).trans (f7 t ht), ?_, hM2, fun t ht => (p2 t ht).trans (by simp (disch := omega) only [mh_up_t]), ?_⟩
    · rw [e8]
      simp only [bd_some, eV]
    · rw [if_neg (show ¬ nI 4 = (0 : Int32) by decide), if_neg (show ¬ nI 4 = (1 : Int32) by decide), if_neg (show ¬ nI 4 = (2 : Int32) by decide), if_neg (show ¬ nI 4 = (3 : Int32) by decide), if_neg (show ¬ nI 4 = (6 : Int32) by decide), show nI 4 - (4 : Int32) = nI 0 from rfl]
      simp only [d2, bd_some]
    · refine inv_pop hI hc hA hA40 ?_ ?_ ?_ ?_
      · intro j hj
        unfold qq
        simp (disch := omega) only [vu_t, vu_j]
      · unfold qq
        simp (disch := omega) only [vu_t, vu_at]
      · intro t j ht z1 z2
        unfold InvT at ht
        unfold qq
        simp (disch := omega) only [vu_t]
      · exact i3up i3 (fun j => by unfold qq; simp (disch := omega) only [vu_t])
  · have hk10 : t < 10 := by have := lK (by omega); omega
    obtain ⟨M8, e8, hX8, f8⟩ := ap4 hX7 hT7 hT20 n hb2 hk10 g1 g2 g3 (-1) (w := 5) (Or.inr rfl) g0
    obtain ⟨N2, d2, hM2, p2⟩ := mr4 hM7 n hb2 hk10 (-m) (j := 1) (by omega)
    have eV : M8 30 nx 0 = nI 5 := by rw [f8 30 (Or.inr rfl)]; exact g0
    simp only [m1m] at hX8
    refine ⟨_, nI 5, M8, N2, ?_, hX8, fun t ht => (f8 t (Or.inl ht)).trans (f7 t ht), ?_, hM2, fun t ht => (p2 t ht).trans (by simp (disch := omega) only [mh_up_t]), ?_⟩
    · rw [e8]
      simp only [bd_some, eV]
    · rw [if_neg (show ¬ nI 5 = (0 : Int32) by decide), if_neg (show ¬ nI 5 = (1 : Int32) by decide), if_neg (show ¬ nI 5 = (2 : Int32) by decide), if_neg (show ¬ nI 5 = (3 : Int32) by decide), if_neg (show ¬ nI 5 = (6 : Int32) by decide), show nI 5 - (4 : Int32) = nI 1 from rfl]
      simp only [d2, bd_some]
    · refine inv_pop hI hc hA hA40 ?_ ?_ ?_ ?_
      · intro j hj
        unfold qq
        simp (disch := omega) only [vu_t, vu_j]
      · unfold qq
        simp (disch := omega) only [vu_t, vu_at]
      · intro t j ht z1 z2
        unfold InvT at ht
        unfold qq
        simp (disch := omega) only [vu_t]
      · exact i3up i3 (fun j => by unfold qq; simp (disch := omega) only [vu_t])
  · have hk10 : t < 10 := by have := lK (by omega); omega
    have hj20 : 10 * b + t < 20 := by omega
    have hj5 : 5 * t + 3 < 50 := by omega
    have hs : 2 * T + b < 40 := by omega
    have hj : 10 * (2 * T + b) + t < 400 := by omega
    obtain ⟨M8, e8, hX8, f8⟩ := ap6b hX7 hT7 hT20 n hb2 hk10 g1 g2 g3 g0
    have hM2 := MS_wundo hM7 hb2 hk10 hs m
    have eV : M8 30 nx 0 = nI 6 := by rw [f8 30 (Or.inr rfl)]; exact g0
    simp only [sub_m1, add_m1] at hX8
    refine ⟨_, nI 6, M8, _, ?_, hX8, fun t ht => (f8 t (Or.inl ht)).trans (f7 t ht), ?_, hM2, fun t ht => by simp (disch := omega) only [mh_up_t], ?_⟩
    · rw [e8]
      simp only [bd_some, eV]
    · rw [if_neg (show ¬ nI 6 = (0 : Int32) by decide), if_neg (show ¬ nI 6 = (1 : Int32) by decide), if_neg (show ¬ nI 6 = (2 : Int32) by decide), if_neg (show ¬ nI 6 = (3 : Int32) by decide), if_pos (show nI 6 = (6 : Int32) from rfl)]
      have r51 : (qq q A).1 51 (10 * b + t) = q.1 51 (10 * b + t) := qq_t (by omega)
      have r58 : (qq q A).1 58 (5 * t + 3) = q.1 58 (5 * t + 3) := qq_t (by omega)
      rw [r51, r58]
      have eT : M' 40 0 11 = nI T := (rmc11 hM).trans hT
      simp (disch := omega) only [ix10, i53, inbN hj20 (show 20 ≤ 2 ^ 31 by omega), inbN hj5 (show 50 ≤ 2 ^ 31 by omega), inbN hj (show 400 ≤ 2 ^ 31 by omega), clN (show 10 * b + t < 2 ^ 31 by omega), clN (show 5 * t + 3 < 2 ^ 31 by omega), clN (show 10 * (2 * T + b) + t < 2 ^ 31 by omega), ck_t, rd_t, rd_k, rm51 hM hj20, rm58 hM hj5, eT, eM_at, bd_some, nar0]
    · refine inv_pop hI hc hA hA40 ?_ ?_ ?_ ?_
      · intro j hj
        unfold qq
        simp (disch := omega) only [vu_t, vu_j]
      · unfold qq
        simp (disch := omega) only [vu_t, vu_at]
      · intro t j ht z1 z2
        unfold InvT at ht
        unfold qq
        simp (disch := omega) only [vu_t]
      · exact i3up i3 (fun j => by unfold qq; simp (disch := omega) only [vu_t])
