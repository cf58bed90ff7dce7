/-! ===== acts, both sides ===== -/
theorem lgp_new {A : Nat} {lg : Nat → Nat → Int32} {r : Nat → Int32} (hA : A ≤ 40) (P : (Nat → Int32) → Prop) (h1 : P r) (h2 : ∀ a, a < A → P (lg a)) : ∀ a, a < Ap A → P (lgp A lg r a) := by
  intro a ha
  unfold Ap at ha
  unfold lgp
  by_cases h : A < 40
  · rw [if_pos h] at ha ⊢
    by_cases e : a = A
    · have : (fun j => if a = A then r j else lg a j) = r := funext fun j => if_pos e
      show P (fun j => if a = A then r j else lg a j)
      rw [this]
      exact h1
    · have : (fun j => if a = A then r j else lg a j) = lg a := funext fun j => if_neg e
      show P (fun j => if a = A then r j else lg a j)
      rw [this]
      exact h2 a (by omega)
  · rw [if_neg h] at ha ⊢
    by_cases e : a = 39
    · have : (fun j => if a = 39 then r j else lg (a + 1) j) = r := funext fun j => if_pos e
      show P (fun j => if a = 39 then r j else lg (a + 1) j)
      rw [this]
      exact h1
    · have : (fun j => if a = 39 then r j else lg (a + 1) j) = lg (a + 1) := funext fun j => if_neg e
      show P (fun j => if a = 39 then r j else lg (a + 1) j)
      rw [this]
      exact h2 (a + 1) (by omega)
def actOK (K Rc : Nat) (f : Nat → Int32) : Prop := ∃ w b t : Nat, w ≤ 6 ∧ b < 2 ∧ f 0 = nI w ∧ f 1 = nI b ∧ f 2 = nI t ∧ (w ≠ 3 → t < K) ∧ (w = 3 → t < Rc ∧ ∃ m : Nat, m ≤ 100 ∧ f 3 = nI m)
theorem inv_push {c : Nat} {q : St} (hI : Inv c q) (hc : c < 512) {A : Nat} (hA : q.1 40 19 = nI A) (hA40 : A ≤ 40) {r : Nat → Int32} {w' : Vw} {sd : Nat → Bool} (hr : ∀ K Rc : Nat, q.1 40 0 = nI K → q.1 40 4 = nI Rc → K ≤ 10 → Rc ≤ 12 → actOK K Rc r)
    (h40 : ∀ j, j ≠ 19 → w' 40 j = q.1 40 j) (h19 : w' 40 19 = nI (Ap A)) (hT : ∀ t j, InvT t → t ≠ 40 → t ≠ 55 → w' t j = q.1 t j)
    (h55 : ∀ j, j < 400 → -(100 * ((c : Int) + 1)) ≤ (w' 55 j).toInt ∧ (w' 55 j).toInt ≤ 100 * ((c : Int) + 1)) : Inv (c + 1) (w', lgp A q.2.1 r, sd) := by
  obtain ⟨K, Rc, T, A', FT, PR, DL, hn, hb, i1, i2, i3, i4, i5, i6, i7⟩ := hI
  have eA : A' = A := (nI_eq (by omega) (by omega)).mp (hn.2.2.2.1.symm.trans hA)
  subst eA
  have hK := hr K Rc hn.1 hn.2.1 hb.1 hb.2.1
  refine ⟨K, Rc, T, Ap A', FT, PR, DL, ?_, ?_, ?_, ?_, ?_, ?_, ?_, ?_, ?_⟩
  · refine ⟨?_, ?_, ?_, h19, ?_, ?_, ?_⟩
    · exact (h40 0 (by omega)).trans hn.1
    · exact (h40 4 (by omega)).trans hn.2.1
    · exact (h40 11 (by omega)).trans hn.2.2.1
    · exact (h40 21 (by omega)).trans hn.2.2.2.2.1
    · exact (h40 24 (by omega)).trans hn.2.2.2.2.2.1
    · exact (h40 30 (by omega)).trans hn.2.2.2.2.2.2
  · have := Ap_le hA40
    omega
  · intro k hk
    show ∃ d : Nat, 50 ≤ d ∧ d ≤ 150 ∧ w' 44 k = nI d ∧ ∃ t : Nat, t ≤ 2000 ∧ w' 42 k = nI t
    rw [hT 44 k (by unfold InvT; omega) (by omega) (by omega), hT 42 k (by unfold InvT; omega) (by omega) (by omega)]
    exact i1 k hk
  · intro r hr k hk
    show ∃ p : Nat, p ≤ 20 ∧ w' 47 (10 * r + k) = nI p ∧ (K ≤ k → p = 0)
    rw [hT 47 _ (by unfold InvT; omega) (by omega) (by omega)]
    exact i2 r hr k hk
  · intro j hj
    have := h55 j hj
    show -(100 * ((c + 1 : Nat) : Int)) ≤ (w' 55 j).toInt ∧ (w' 55 j).toInt ≤ 100 * ((c + 1 : Nat) : Int)
    omega
  · intro j hj
    show ∃ a : Nat, a ≤ 200 ∧ w' 63 j = nI a
    rw [hT 63 _ (by unfold InvT; omega) (by omega) (by omega)]
    exact i4 j hj
  · intro j hj
    show ∃ a b : Nat, a ≤ 1439 ∧ b ≤ 1439 ∧ w' 67 j = nI a ∧ w' 68 j = nI b
    rw [hT 67 _ (by unfold InvT; omega) (by omega) (by omega), hT 68 _ (by unfold InvT; omega) (by omega) (by omega)]
    exact i5 j hj
  · intro j hj
    show ∃ a b : Nat, 1 ≤ a ∧ a ≤ 24 ∧ b ≤ 100000 ∧ w' 72 j = nI a ∧ w' 73 j = nI b
    rw [hT 72 _ (by unfold InvT; omega) (by omega) (by omega), hT 73 _ (by unfold InvT; omega) (by omega) (by omega)]
    exact i6 j hj
  · exact lgp_new hA40 (actOK K Rc) hK (fun a ha => i7 a ha)
theorem i3up {c : Nat} {w : Vw} (i3 : ∀ j, j < 400 → -(100 * (c : Int)) ≤ (w 55 j).toInt ∧ (w 55 j).toInt ≤ 100 * (c : Int)) {w' : Vw} (h : ∀ j, w' 55 j = w 55 j) : ∀ j, j < 400 → -(100 * ((c : Int) + 1)) ≤ (w' 55 j).toInt ∧ (w' 55 j).toInt ≤ 100 * ((c : Int) + 1) := by
  intro j hj
  rw [h j]
  have := i3 j hj
  omega
theorem c2 {v : Vw} {x y y' : Int32} {t j t' j' : Nat} (h1 : t ≠ 40) (h2 : t' ≠ 40) : vu (vu (vu v 40 19 x) t j y) t' j' y' = vu (vu (vu v t j y) t' j' y') 40 19 x := by
  rw [vu_comm (v := v) (t := 40) (j := 19) (t' := t) (j' := j) (by omega), vu_comm (t := 40) (j := 19) (t' := t') (j' := j') (by omega)]
theorem one_m (x : Int32) : 1 * x = x := Int32.one_mul x
theorem s_receive {c : Nat} {q : St} {M M' : mh_M} (hX : XS q M) (hM : MS q M') (hI : Inv c q) (hc : c < 512) (n : Nat) (hnn : 300 ≤ n) (a0 a1 : Int32) : Both c M M' (fX9_receive n M a0 a1) (fX10_receive n M' a0 a1) := by
  simp only [fX9_receive, fX10_receive, eX_isIn, eM_in, eX_isBar, eM_isBar, eX_isKind, eM_isKind, eX_isRecipe, eM_isRecipe, eX_isKeeper, eX_isTime, bd_some, bd2_some, b01, pl_e]
  obtain ⟨K, Rc, T, A, FT, PR, DL, hn, hb, i1, i2, i3, i4, i5, i6, i7⟩ := id hI
  rw [(rXc0 hX).trans hn.1, (rmc0 hM).trans hn.1]
  by_cases h0 : 0 ≤ a0 ∧ a0 ≤ nI K - 1
  case neg => exact both_no hX hM hI hc (if_neg h0) (if_neg h0)
  simp only [if_pos h0]
  by_cases h1 : (1 : Int32) ≤ a1 ∧ a1 ≤ 100
  case neg => exact both_no hX hM hI hc (if_neg h1) (if_neg h1)
  simp only [if_pos h1]
  obtain ⟨k, hk, rfl⟩ := iK h0 (by omega)
  have hk10 : k < 10 := by omega
  have hA := hn.2.2.2.1
  have hT := hn.2.2.1
  have hA40 : A ≤ 40 := by omega
  have hT20 : T < 20 := by omega
  simp only [inbN hk10 (show 10 ≤ 2 ^ 31 by omega), ck_t, clN (show k < 2 ^ 31 by omega), rX20_3 hX hk10, rm50 hM hk10]
  by_cases hf : q.1 50 k + a1 ≤ 1000
  case neg => exact both_no hX hM hI hc (if_neg hf) (if_neg hf)
  simp only [if_pos hf]
  obtain ⟨nx, M7, y1, eO, hX7, f7, g0, g1, g2, g3, g4, -, -⟩ := cO hX hA hA40 n 0 0 (nI k) a1 0
  obtain ⟨M8, e8, hX8, f8⟩ := ap0 hX7 (T := T) (by unfold pq; simp (disch := omega) only [vu_at, vu_t, vu_j]; exact hT) hT20 n (b := 0) (by omega) hk10 g1 g2 g3 1 g0
  obtain ⟨N1, d1, hM1, p1⟩ := mr0 hM n hk10 a1
  obtain ⟨N2, d2, hM2, p2⟩ := kp hM1 (A := A) (by simp (disch := omega) only [vu_at, vu_t, vu_j]; exact hA) hA40 n (by omega) 0 0 (nI k) a1 0 0
  have hX9 : XS (pq (vu (vu q.1 50 k (q.1 50 k + a1)) 58 (5 * k + 4) (q.1 58 (5 * k + 4) + a1), q.2) A (r5 0 0 (nI k) a1 0)) M8 := by
    have e : vu (vu (pq q A (r5 0 0 (nI k) a1 0)).1 50 k ((pq q A (r5 0 0 (nI k) a1 0)).1 50 k + 1 * a1)) 58 (5 * k + 4) ((pq q A (r5 0 0 (nI k) a1 0)).1 58 (5 * k + 4) + 1 * a1) = (pq (vu (vu q.1 50 k (q.1 50 k + a1)) 58 (5 * k + 4) (q.1 58 (5 * k + 4) + a1), q.2) A (r5 0 0 (nI k) a1 0)).1 := by
      unfold pq
      simp (disch := omega) only [vu_t, one_m]
      exact c2 (by omega) (by omega)
    rw [e] at hX8
    exact hX8
  refine ⟨_, M8 20 k 3, M8, N2, ?_, hX9, fun t ht => (f8 t (Or.inl ht)).trans (f7 t ht), ?_, hM2, fun t ht => (p2 t ht).trans (p1 t ht), ?_⟩
  · rw [eO, e8]
    simp only [bd_some, ck_t, rX20_3 hX9 hk10]
  · rw [d1]
    simp only [bd_some, d2, ck_t, rm50 hM2 hk10, rX20_3 hX9 hk10]
  · refine inv_push (r := r5 0 0 (nI k) a1 0) hI hc hA hA40 (fun K2 Rc2 z1 z2 z3 z4 => ?_) ?_ ?_ ?_ ?_
    · have : K2 = K := (nI_eq (by omega) (by omega)).mp (z1.symm.trans hn.1)
      subst this
      exact ⟨0, 0, k, by omega, by omega, rfl, rfl, rfl, fun _ => hk, fun z => absurd z (by omega)⟩
    · intro j hj
      simp (disch := omega) only [vu_at, vu_t, vu_j]
    · simp (disch := omega) only [vu_at, vu_t, vu_j]
    · intro t j ht z1 z2
      unfold InvT at ht
      simp (disch := omega) only [vu_at, vu_t, vu_j]
    · exact i3up i3 (fun j => by simp (disch := omega) only [vu_at, vu_t, vu_j])
theorem s_issue {c : Nat} {q : St} {M M' : mh_M} (hX : XS q M) (hM : MS q M') (hI : Inv c q) (hc : c < 512) (n : Nat) (hnn : 300 ≤ n) (a0 a1 a2 : Int32) : Both c M M' (fX9_issue n M a0 a1 a2) (fX10_issue n M' a0 a1 a2) := by
  simp only [fX9_issue, fX10_issue, eX_isIn, eM_in, eX_isBar, eM_isBar, eX_isKind, eM_isKind, eX_isRecipe, eM_isRecipe, eX_isKeeper, eX_isTime, bd_some, bd2_some, b01, pl_e]
  obtain ⟨K, Rc, T, A, FT, PR, DL, hn, hb, i1, i2, i3, i4, i5, i6, i7⟩ := id hI
  rw [(rXc0 hX).trans hn.1, (rmc0 hM).trans hn.1]
  by_cases hg : (0 : Int32) ≤ a0 ∧ a0 ≤ 1
  case neg => exact both_no hX hM hI hc (if_neg hg) (if_neg hg)
  simp only [if_pos hg]
  by_cases h0 : 0 ≤ a1 ∧ a1 ≤ nI K - 1
  case neg => exact both_no hX hM hI hc (if_neg h0) (if_neg h0)
  simp only [if_pos h0]
  by_cases h1 : (1 : Int32) ≤ a2 ∧ a2 ≤ 100
  case neg => exact both_no hX hM hI hc (if_neg h1) (if_neg h1)
  simp only [if_pos h1]
  obtain ⟨b, hb1, rfl⟩ := gIn (m := 1) (by omega) hg
  have hb2 : b < 2 := by omega
  obtain ⟨k, hk, rfl⟩ := iK h0 (by omega)
  have hk10 : k < 10 := by omega
  have hj20 : 10 * b + k < 20 := by omega
  have hA := hn.2.2.2.1
  have hT := hn.2.2.1
  have hA40 : A ≤ 40 := by omega
  have hT20 : T < 20 := by omega
  simp only [inbN hk10 (show 10 ≤ 2 ^ 31 by omega), ck_t, clN (show k < 2 ^ 31 by omega), rX20_3 hX hk10, rm50 hM hk10, ix10]
  by_cases hf : a2 ≤ q.1 50 k
  case neg => exact both_no hX hM hI hc (if_neg hf) (if_neg hf)
  simp only [if_pos hf]
  obtain ⟨nx, M7, y1, eO, hX7, f7, g0, g1, g2, g3, g4, -, -⟩ := cO hX hA hA40 n 1 (nI b) (nI k) a2 0
  obtain ⟨M8, e8, hX8, f8⟩ := ap1 hX7 (T := T) (by unfold pq; simp (disch := omega) only [vu_at, vu_t, vu_j]; exact hT) hT20 n hb2 hk10 g1 g2 g3 1 g0
  obtain ⟨N1, d1, hM1, p1⟩ := mr1 hM n hb2 hk10 a2
  obtain ⟨N2, d2, hM2, p2⟩ := kp hM1 (A := A) (by simp (disch := omega) only [vu_at, vu_t, vu_j]; exact hA) hA40 n (by omega) 1 (nI b) (nI k) a2 0 0
  have hX9 : XS (pq (vu (vu q.1 50 k (q.1 50 k - a2)) 51 (10 * b + k) (q.1 51 (10 * b + k) + a2 * q.1 43 k), q.2) A (r5 1 (nI b) (nI k) a2 0)) M8 := by
    have e : vu (vu (pq q A (r5 1 (nI b) (nI k) a2 0)).1 50 k ((pq q A (r5 1 (nI b) (nI k) a2 0)).1 50 k - 1 * a2)) 51 (10 * b + k) ((pq q A (r5 1 (nI b) (nI k) a2 0)).1 51 (10 * b + k) + 1 * a2 * (pq q A (r5 1 (nI b) (nI k) a2 0)).1 43 k) = (pq (vu (vu q.1 50 k (q.1 50 k - a2)) 51 (10 * b + k) (q.1 51 (10 * b + k) + a2 * q.1 43 k), q.2) A (r5 1 (nI b) (nI k) a2 0)).1 := by
      unfold pq
      simp (disch := omega) only [vu_t, one_m]
      exact c2 (by omega) (by omega)
    rw [e] at hX8
    exact hX8
  refine ⟨_, M8 21 k b, M8, N2, ?_, hX9, fun t ht => (f8 t (Or.inl ht)).trans (f7 t ht), ?_, hM2, fun t ht => (p2 t ht).trans (p1 t ht), ?_⟩
  · rw [eO, e8]
    simp only [bd_some, inbN hb2 (show 2 ≤ 2 ^ 31 by omega), ck_t, clN (show b < 2 ^ 31 by omega), rX21 hX9 hk10 hb2]
  · rw [d1]
    simp only [bd_some, d2, inbN hj20 (show 20 ≤ 2 ^ 31 by omega), ck_t, clN (show 10 * b + k < 2 ^ 31 by omega), rm51 hM2 hj20, rX21 hX9 hk10 hb2]
  · refine inv_push (r := r5 1 (nI b) (nI k) a2 0) hI hc hA hA40 (fun K2 Rc2 z1 z2 z3 z4 => ?_) ?_ ?_ ?_ ?_
    · have : K2 = K := (nI_eq (by omega) (by omega)).mp (z1.symm.trans hn.1)
      subst this
      exact ⟨1, b, k, by omega, hb2, rfl, rfl, rfl, fun _ => hk, fun z => absurd z (by omega)⟩
    · intro j hj
      simp (disch := omega) only [vu_at, vu_t, vu_j]
    · simp (disch := omega) only [vu_at, vu_t, vu_j]
    · intro t j ht z1 z2
      unfold InvT at ht
      simp (disch := omega) only [vu_at, vu_t, vu_j]
    · exact i3up i3 (fun j => by simp (disch := omega) only [vu_at, vu_t, vu_j])
theorem s_lend {c : Nat} {q : St} {M M' : mh_M} (hX : XS q M) (hM : MS q M') (hI : Inv c q) (hc : c < 512) (n : Nat) (hnn : 300 ≤ n) (a0 a1 a2 : Int32) : Both c M M' (fX9_lend n M a0 a1 a2) (fX10_lend n M' a0 a1 a2) := by
  simp only [fX9_lend, fX10_lend, eX_isIn, eM_in, eX_isBar, eM_isBar, eX_isKind, eM_isKind, eX_isRecipe, eM_isRecipe, eX_isKeeper, eX_isTime, bd_some, bd2_some, b01, pl_e]
  obtain ⟨K, Rc, T, A, FT, PR, DL, hn, hb, i1, i2, i3, i4, i5, i6, i7⟩ := id hI
  rw [(rXc0 hX).trans hn.1, (rmc0 hM).trans hn.1]
  by_cases hg : (0 : Int32) ≤ a0 ∧ a0 ≤ 1
  case neg => exact both_no hX hM hI hc (if_neg hg) (if_neg hg)
  simp only [if_pos hg]
  by_cases h0 : 0 ≤ a1 ∧ a1 ≤ nI K - 1
  case neg => exact both_no hX hM hI hc (if_neg h0) (if_neg h0)
  simp only [if_pos h0]
  by_cases h1 : (1 : Int32) ≤ a2 ∧ a2 ≤ 10000
  case neg => exact both_no hX hM hI hc (if_neg h1) (if_neg h1)
  simp only [if_pos h1]
  obtain ⟨b, hb1, rfl⟩ := gIn (m := 1) (by omega) hg
  have hb2 : b < 2 := by omega
  have hb3 : 1 - b < 2 := by omega
  obtain ⟨k, hk, rfl⟩ := iK h0 (by omega)
  have hk10 : k < 10 := by omega
  have hj20 : 10 * b + k < 20 := by omega
  have hj21 : 10 * (1 - b) + k < 20 := by omega
  have hA := hn.2.2.2.1
  have hT := hn.2.2.1
  have hA40 : A ≤ 40 := by omega
  have hT20 : T < 20 := by omega
  simp only [inbN hk10 (show 10 ≤ 2 ^ 31 by omega), inbN hb2 (show 2 ≤ 2 ^ 31 by omega), inbN hb3 (show 2 ≤ 2 ^ 31 by omega), inbN hj20 (show 20 ≤ 2 ^ 31 by omega), inbN hj21 (show 20 ≤ 2 ^ 31 by omega), ck_t, clN (show k < 2 ^ 31 by omega), clN (show b < 2 ^ 31 by omega), clN (show 1 - b < 2 ^ 31 by omega), clN (show 10 * b + k < 2 ^ 31 by omega), clN (show 10 * (1 - b) + k < 2 ^ 31 by omega), one_b hb2, ix10, rX21 hX hk10 hb2, rm51 hM hj20]
  by_cases hf : a2 ≤ q.1 51 (10 * b + k)
  case neg => exact both_no hX hM hI hc (if_neg hf) (if_neg hf)
  simp only [if_pos hf]
  obtain ⟨nx, M7, y1, eO, hX7, f7, g0, g1, g2, g3, g4, -, -⟩ := cO hX hA hA40 n 2 (nI b) (nI k) a2 0
  obtain ⟨M8, e8, hX8, f8⟩ := ap2 hX7 (T := T) (by unfold pq; simp (disch := omega) only [vu_at, vu_t, vu_j]; exact hT) hT20 n hb2 hk10 g1 g2 g3 1 g0
  obtain ⟨N1, d1, hM1, p1⟩ := mr2 hM n hb2 hk10 a2
  obtain ⟨N2, d2, hM2, p2⟩ := kp hM1 (A := A) (by simp (disch := omega) only [vu_at, vu_t, vu_j]; exact hA) hA40 n (by omega) 2 (nI b) (nI k) a2 0 0
  have hX9 : XS (pq (vu (vu q.1 51 (10 * b + k) (q.1 51 (10 * b + k) - a2)) 51 (10 * (1 - b) + k) (q.1 51 (10 * (1 - b) + k) + a2), q.2) A (r5 2 (nI b) (nI k) a2 0)) M8 := by
    have e : vu (vu (pq q A (r5 2 (nI b) (nI k) a2 0)).1 51 (10 * b + k) ((pq q A (r5 2 (nI b) (nI k) a2 0)).1 51 (10 * b + k) - 1 * a2)) 51 (10 * (1 - b) + k) ((pq q A (r5 2 (nI b) (nI k) a2 0)).1 51 (10 * (1 - b) + k) + 1 * a2) = (pq (vu (vu q.1 51 (10 * b + k) (q.1 51 (10 * b + k) - a2)) 51 (10 * (1 - b) + k) (q.1 51 (10 * (1 - b) + k) + a2), q.2) A (r5 2 (nI b) (nI k) a2 0)).1 := by
      unfold pq
      simp (disch := omega) only [vu_t, one_m]
      exact c2 (by omega) (by omega)
    rw [e] at hX8
    exact hX8
  refine ⟨_, M8 21 k (1 - b), M8, N2, ?_, hX9, fun t ht => (f8 t (Or.inl ht)).trans (f7 t ht), ?_, hM2, fun t ht => (p2 t ht).trans (p1 t ht), ?_⟩
  · rw [eO, e8]
    simp only [bd_some, ck_t, rX21 hX9 hk10 hb3]
  · rw [d1]
    simp only [bd_some, d2, ck_t, rm51 hM2 hj21, rX21 hX9 hk10 hb3]
  · refine inv_push (r := r5 2 (nI b) (nI k) a2 0) hI hc hA hA40 (fun K2 Rc2 z1 z2 z3 z4 => ?_) ?_ ?_ ?_ ?_
    · have : K2 = K := (nI_eq (by omega) (by omega)).mp (z1.symm.trans hn.1)
      subst this
      exact ⟨2, b, k, by omega, hb2, rfl, rfl, rfl, fun _ => hk, fun z => absurd z (by omega)⟩
    · intro j hj
      simp (disch := omega) only [vu_at, vu_t, vu_j]
    · simp (disch := omega) only [vu_at, vu_t, vu_j]
    · intro t j ht z1 z2
      unfold InvT at ht
      simp (disch := omega) only [vu_at, vu_t, vu_j]
    · exact i3up i3 (fun j => by simp (disch := omega) only [vu_at, vu_t, vu_j])
theorem s_lose {c : Nat} {q : St} {M M' : mh_M} (hX : XS q M) (hM : MS q M') (hI : Inv c q) (hc : c < 512) (n : Nat) (hnn : 300 ≤ n) (a0 a1 a2 a3 : Int32) : Both c M M' (fX9_lose n M a0 a1 a2 a3) (fX10_lose n M' a0 a1 a2 a3) := by
  simp only [fX9_lose, fX10_lose, eX_isIn, eM_in, eX_isBar, eM_isBar, eX_isKind, eM_isKind, eX_isRecipe, eM_isRecipe, eX_isKeeper, eX_isTime, bd_some, bd2_some, b01, pl_e]
  obtain ⟨K, Rc, T, A, FT, PR, DL, hn, hb, i1, i2, i3, i4, i5, i6, i7⟩ := id hI
  rw [(rXc0 hX).trans hn.1, (rmc0 hM).trans hn.1]
  by_cases hg : (0 : Int32) ≤ a0 ∧ a0 ≤ 1
  case neg => exact both_no hX hM hI hc (if_neg hg) (if_neg hg)
  simp only [if_pos hg]
  by_cases h0 : 0 ≤ a1 ∧ a1 ≤ nI K - 1
  case neg => exact both_no hX hM hI hc (if_neg h0) (if_neg h0)
  simp only [if_pos h0]
  by_cases h2 : (0 : Int32) ≤ a2 ∧ a2 ≤ 1
  case neg => exact both_no hX hM hI hc (if_neg h2) (if_neg h2)
  simp only [if_pos h2]
  by_cases h1 : (1 : Int32) ≤ a3 ∧ a3 ≤ 10000
  case neg => exact both_no hX hM hI hc (if_neg h1) (if_neg h1)
  simp only [if_pos h1]
  obtain ⟨b, hb1, rfl⟩ := gIn (m := 1) (by omega) hg
  have hb2 : b < 2 := by omega
  obtain ⟨k, hk, rfl⟩ := iK h0 (by omega)
  obtain ⟨j, hj1, rfl⟩ := gIn (m := 1) (by omega) h2
  have hj2 : j < 2 := by omega
  have hk10 : k < 10 := by omega
  have hj20 : 10 * b + k < 20 := by omega
  have hA := hn.2.2.2.1
  have hT := hn.2.2.1
  have hA40 : A ≤ 40 := by omega
  have hT20 : T < 20 := by omega
  obtain ⟨nx, M7, y1, eO, hX7, f7, g0, g1, g2, g3, g4, -, -⟩ := cO hX hA hA40 n (nI (4 + j)) (nI b) (nI k) a3 0
  obtain ⟨M8, e8, hX8, f8⟩ := ap4 hX7 (T := T) (by unfold pq; simp (disch := omega) only [vu_at, vu_t, vu_j]; exact hT) hT20 n hb2 hk10 g1 g2 g3 1 (w := 4 + j) (by omega) g0
  obtain ⟨N1, d1, hM1, p1⟩ := mr4 hM n hb2 hk10 a3 hj2
  obtain ⟨N2, d2, hM2, p2⟩ := kp hM1 (A := A) (by simp (disch := omega) only [vu_at, vu_t, vu_j]; exact hA) hA40 n (by omega) (nI (4 + j)) (nI b) (nI k) a3 0 0
  have hX9 : XS (pq (vu (vu q.1 51 (10 * b + k) (q.1 51 (10 * b + k) - a3)) 58 (5 * k + (1 + j)) (q.1 58 (5 * k + (1 + j)) + a3), q.2) A (r5 (nI (4 + j)) (nI b) (nI k) a3 0)) M8 := by
    have e : vu (vu (pq q A (r5 (nI (4 + j)) (nI b) (nI k) a3 0)).1 51 (10 * b + k) ((pq q A (r5 (nI (4 + j)) (nI b) (nI k) a3 0)).1 51 (10 * b + k) - 1 * a3)) 58 (5 * k + (4 + j - 3)) ((pq q A (r5 (nI (4 + j)) (nI b) (nI k) a3 0)).1 58 (5 * k + (4 + j - 3)) + 1 * a3) = (pq (vu (vu q.1 51 (10 * b + k) (q.1 51 (10 * b + k) - a3)) 58 (5 * k + (1 + j)) (q.1 58 (5 * k + (1 + j)) + a3), q.2) A (r5 (nI (4 + j)) (nI b) (nI k) a3 0)).1 := by
      rw [show 4 + j - 3 = 1 + j by omega]
      unfold pq
      simp (disch := omega) only [vu_t, one_m]
      exact c2 (by omega) (by omega)
    rw [e] at hX8
    exact hX8
  refine ⟨_, M8 21 k b, M8, N2, ?_, hX9, fun t ht => (f8 t (Or.inl ht)).trans (f7 t ht), ?_, hM2, fun t ht => (p2 t ht).trans (p1 t ht), ?_⟩
  · rcases (show j = 0 ∨ j = 1 by omega) with rfl | rfl
    · rw [if_pos (show nI 0 = (0 : Int32) from rfl), show (4 : Int32) = nI (4 + 0) from rfl, eO, e8]
      simp only [bd_some, inbN hk10 (show 10 ≤ 2 ^ 31 by omega), inbN hb2 (show 2 ≤ 2 ^ 31 by omega), ck_t, clN (show k < 2 ^ 31 by omega), clN (show b < 2 ^ 31 by omega), rX21 hX9 hk10 hb2]
    · rw [if_neg (show ¬ nI 1 = (0 : Int32) from by decide), show (5 : Int32) = nI (4 + 1) from rfl, eO, e8]
      simp only [bd_some, inbN hk10 (show 10 ≤ 2 ^ 31 by omega), inbN hb2 (show 2 ≤ 2 ^ 31 by omega), ck_t, clN (show k < 2 ^ 31 by omega), clN (show b < 2 ^ 31 by omega), rX21 hX9 hk10 hb2]
  · rw [d1, show (4 : Int32) + nI j = nI (4 + j) from nI_add 4 j]
    simp only [bd_some, d2, ix10, inbN hj20 (show 20 ≤ 2 ^ 31 by omega), ck_t, clN (show 10 * b + k < 2 ^ 31 by omega), rm51 hM2 hj20, rX21 hX9 hk10 hb2]
  · refine inv_push (r := r5 (nI (4 + j)) (nI b) (nI k) a3 0) hI hc hA hA40 (fun K2 Rc2 z1 z2 z3 z4 => ?_) ?_ ?_ ?_ ?_
    · have : K2 = K := (nI_eq (by omega) (by omega)).mp (z1.symm.trans hn.1)
      subst this
      exact ⟨4 + j, b, k, by omega, hb2, rfl, rfl, rfl, fun _ => hk, fun z => absurd z (by omega)⟩
    · intro j hj
      simp (disch := omega) only [vu_at, vu_t, vu_j]
    · simp (disch := omega) only [vu_at, vu_t, vu_j]
    · intro t j ht z1 z2
      unfold InvT at ht
      simp (disch := omega) only [vu_at, vu_t, vu_j]
    · exact i3up i3 (fun j => by simp (disch := omega) only [vu_at, vu_t, vu_j])
