/-! ===== an act done or taken back by the model ===== -/
theorem i54 (k : Nat) : (5 : Int32) * nI k + (4 : Int32) = nI (5 * k + 4) := ix5 k 4
theorem i53 (k : Nat) : (5 : Int32) * nI k + (3 : Int32) = nI (5 * k + 3) := ix5 k 3
theorem i50 (k : Nat) : (5 : Int32) * nI k = nI (5 * k) := by rw [litN, pk_mul]
theorem i51 (k j : Nat) : (5 : Int32) * nI k + (1 : Int32) + nI j = nI (5 * k + (1 + j)) := by rw [litN 5, litN 1, pk_mul, nI_add, nI_add, Nat.add_assoc]
theorem mr0 {q : St} {M : mh_M} (hM : MS q M) (n : Nat) {k : Nat} (hk : k < 10) (y : Int32) : ∃ M1, fX10_receives n M (nI k) y = some M1 ∧ MS (vu (vu q.1 50 k (q.1 50 k + y)) 58 (5 * k + 4) (q.1 58 (5 * k + 4) + y), q.2) M1 ∧ ∀ t, t < 40 → M1 t = M t := by
  have hj : 5 * k + 4 < 50 := by omega
  refine ⟨mh_up (mh_up M 50 0 k (q.1 50 k + y)) 58 0 (5 * k + 4) (q.1 58 (5 * k + 4) + y), ?_, ?_, ?_⟩
  · unfold fX10_receives
    simp (disch := omega) only [pl_e, inbN hk (show 10 ≤ 2 ^ 31 by omega), inbN hj (show 50 ≤ 2 ^ 31 by omega), ck_t, clN (show k < 2 ^ 31 by omega), clN (show 5 * k + 4 < 2 ^ 31 by omega), i54, rm50 hM hk, rd_t, rm58 hM hj]
  · skip
    refine MS_step hM ?_ ?_ ?_ ?_
    · rw [wm58 hj, wm50 hk, hM.1]
    · try simp (disch := omega) only [mh_up_t]
    · try simp (disch := omega) only [mh_up_t]
    · try simp (disch := omega) only [vu_at, vu_t, vu_j]
  · intro t ht
    simp (disch := omega) only [mh_up_t]
theorem mr1 {q : St} {M : mh_M} (hM : MS q M) (n : Nat) {b k : Nat} (hb : b < 2) (hk : k < 10) (y : Int32) : ∃ M1, fX10_issues n M (nI b) (nI k) y = some M1 ∧ MS (vu (vu q.1 50 k (q.1 50 k - y)) 51 (10 * b + k) (q.1 51 (10 * b + k) + y * q.1 43 k), q.2) M1 ∧ ∀ t, t < 40 → M1 t = M t := by
  have hj : 10 * b + k < 20 := by omega
  refine ⟨mh_up (mh_up M 50 0 k (q.1 50 k - y)) 51 0 (10 * b + k) (q.1 51 (10 * b + k) + y * q.1 43 k), ?_, ?_, ?_⟩
  · unfold fX10_issues
    simp (disch := omega) only [pl_e, inbN hk (show 10 ≤ 2 ^ 31 by omega), inbN hj (show 20 ≤ 2 ^ 31 by omega), ck_t, clN (show k < 2 ^ 31 by omega), clN (show 10 * b + k < 2 ^ 31 by omega), ix10, rm50 hM hk, rd_t, rm51 hM hj, rm43 hM hk]
  · skip
    refine MS_step hM ?_ ?_ ?_ ?_
    · rw [wm51 hj, wm50 hk, hM.1]
    · try simp (disch := omega) only [mh_up_t]
    · try simp (disch := omega) only [mh_up_t]
    · try simp (disch := omega) only [vu_at, vu_t, vu_j]
  · intro t ht
    simp (disch := omega) only [mh_up_t]
theorem mr2 {q : St} {M : mh_M} (hM : MS q M) (n : Nat) {b k : Nat} (hb : b < 2) (hk : k < 10) (y : Int32) : ∃ M1, fX10_lends n M (nI b) (nI k) y = some M1 ∧ MS (vu (vu q.1 51 (10 * b + k) (q.1 51 (10 * b + k) - y)) 51 (10 * (1 - b) + k) (q.1 51 (10 * (1 - b) + k) + y), q.2) M1 ∧ ∀ t, t < 40 → M1 t = M t := by
  have hj : 10 * b + k < 20 := by omega
  have hj' : 10 * (1 - b) + k < 20 := by omega
  refine ⟨mh_up (mh_up M 51 0 (10 * b + k) (q.1 51 (10 * b + k) - y)) 51 0 (10 * (1 - b) + k) (q.1 51 (10 * (1 - b) + k) + y), ?_, ?_, ?_⟩
  · unfold fX10_lends
    simp (disch := omega) only [pl_e, one_b hb, inbN hj (show 20 ≤ 2 ^ 31 by omega), inbN hj' (show 20 ≤ 2 ^ 31 by omega), ck_t, clN (show 10 * b + k < 2 ^ 31 by omega), clN (show 10 * (1 - b) + k < 2 ^ 31 by omega), ix10, rd_k, rm51 hM hj, rm51 hM hj']
  · skip
    refine MS_step hM ?_ ?_ ?_ ?_
    · rw [wm51 hj', wm51 hj, hM.1]
    · try simp (disch := omega) only [mh_up_t]
    · try simp (disch := omega) only [mh_up_t]
    · try simp (disch := omega) only [vu_at, vu_t, vu_j]
  · intro t ht
    simp (disch := omega) only [mh_up_t]
theorem mr4 {q : St} {M : mh_M} (hM : MS q M) (n : Nat) {b k : Nat} (hb : b < 2) (hk : k < 10) (y : Int32) {j : Nat} (hj1 : j < 2) : ∃ M1, fX10_loses n M (nI b) (nI k) (nI j) y = some M1 ∧ MS (vu (vu q.1 51 (10 * b + k) (q.1 51 (10 * b + k) - y)) 58 (5 * k + (1 + j)) (q.1 58 (5 * k + (1 + j)) + y), q.2) M1 ∧ ∀ t, t < 40 → M1 t = M t := by
  have hj : 10 * b + k < 20 := by omega
  have hj' : 5 * k + (1 + j) < 50 := by omega
  refine ⟨mh_up (mh_up M 51 0 (10 * b + k) (q.1 51 (10 * b + k) - y)) 58 0 (5 * k + (1 + j)) (q.1 58 (5 * k + (1 + j)) + y), ?_, ?_, ?_⟩
  · unfold fX10_loses
    simp (disch := omega) only [pl_e, inbN hj (show 20 ≤ 2 ^ 31 by omega), inbN hj' (show 50 ≤ 2 ^ 31 by omega), ck_t, clN (show 10 * b + k < 2 ^ 31 by omega), clN (show 5 * k + (1 + j) < 2 ^ 31 by omega), ix10, i51, rd_t, rm51 hM hj, rm58 hM hj']
  · skip
    refine MS_step hM ?_ ?_ ?_ ?_
    · rw [wm58 hj', wm51 hj, hM.1]
    · try simp (disch := omega) only [mh_up_t]
    · try simp (disch := omega) only [mh_up_t]
    · try simp (disch := omega) only [vu_at, vu_t, vu_j]
  · intro t ht
    simp (disch := omega) only [mh_up_t]
theorem saleMs {q : St} {M : mh_M} (hM : MS q M) {x b s : Nat} (hx : x < 10) (hb : b < 2) (hs : s < 40) {v51 v58 v55 : Int32} : MS (vu (vu (vu q.1 51 (10 * b + x) v51) 58 (5 * x) v58) 55 (10 * s + x) v55, q.2) (mh_up (mh_up (mh_up M 51 0 (10 * b + x) v51) 58 0 (5 * x) v58) 55 0 (10 * s + x) v55) := by
  have h1 : 10 * b + x < 20 := by omega
  have h2 : 5 * x < 50 := by omega
  have h3 : 10 * s + x < 400 := by omega
  refine MS_step hM ?_ ?_ ?_ ?_
  · rw [wm55 h3, wm58 h2, wm51 h1, hM.1]
  · try simp (disch := omega) only [mh_up_t]
  · try simp (disch := omega) only [mh_up_t]
  · try simp (disch := omega) only [vu_at, vu_t, vu_j]
theorem sale_M (n : Nat) {b r T K : Nat} {y cost : Int32} (hb : b < 2) (hT : T < 20) (hr : r < 12) (hK : K ≤ 10) (lg : (Nat → Nat → Int32) × (Nat → Bool)) : ∀ (d x k : Nat) (M : mh_M) (w : Vw), x + d = K → d < k → MS (w, lg) M → w 40 0 = nI K → w 40 11 = nI T →
    ∃ M1, itr2 (fX10_sells_L3 n (nI b) (nI r) y cost) k M (nI x) = some M1 ∧ MS (vu (saleF b (2 * T + b) r y d x w) 59 b (saleF b (2 * T + b) r y d x w 59 b + cost), lg) M1 ∧ ∀ t, t < 40 → M1 t = M t := by
  intro d
  induction d with
  | zero =>
    intro x k M w hx hk hM hw hwT
    obtain ⟨k, rfl⟩ : ∃ m, k = m + 1 := ⟨k - 1, by omega⟩
    have hxK : x = K := by omega
    subst hxK
    refine ⟨mh_up M 59 0 b (w 59 b + cost), ?_, ?_, ?_⟩
    · show fX10_sells_L3 n (nI b) (nI r) y cost (itr2 (fX10_sells_L3 n (nI b) (nI r) y cost) k) M (nI x) = _
      unfold fX10_sells_L3
      simp (disch := omega) only [pl_e, (rmc0 hM).trans hw, Int32.le_refl, if_true, inbN hb (show 2 ≤ 2 ^ 31 by omega), ck_t, clN (show b < 2 ^ 31 by omega), rm59 hM hb]
    · show MS (vu w 59 b (w 59 b + cost), lg) _
      refine MS_step (q := (w, lg)) hM ?_ ?_ ?_ ?_
      · rw [wm59 hb, hM.1]
      · try simp (disch := omega) only [mh_up_t]
      · try simp (disch := omega) only [mh_up_t]
      · try simp (disch := omega) only [vu_at, vu_t, vu_j]
    · intro t ht
      simp (disch := omega) only [mh_up_t]
  | succ d ih =>
    intro x k M w hx hk hM hw hwT
    obtain ⟨k, rfl⟩ : ∃ m, k = m + 1 := ⟨k - 1, by omega⟩
    have hx10 : x < 10 := by omega
    have hs : 2 * T + b < 40 := by omega
    have j1 : 10 * r + x < 120 := by omega
    have j2 : 10 * b + x < 20 := by omega
    have j3 : 5 * x < 50 := by omega
    have j4 : 10 * (2 * T + b) + x < 400 := by omega
    have e0 : M 40 0 0 = nI K := (rmc0 hM).trans hw
    have eT : M 40 0 11 = nI T := (rmc11 hM).trans hwT
    have hlt : ¬ nI K ≤ nI x := fun z => absurd ((nI_leI (by omega) (by omega)).mp z) (by omega)
    show ∃ M1, fX10_sells_L3 n (nI b) (nI r) y cost (itr2 (fX10_sells_L3 n (nI b) (nI r) y cost) k) M (nI x) = some M1 ∧ MS (vu (saleF b (2 * T + b) r y d (x + 1) (stepK w b (2 * T + b) r x y)) 59 b (saleF b (2 * T + b) r y d (x + 1) (stepK w b (2 * T + b) r x y) 59 b + cost), lg) M1 ∧ ∀ t, t < 40 → M1 t = M t
    have hM2 : MS (stepK w b (2 * T + b) r x y, lg) (mh_up (mh_up (mh_up M 51 0 (10 * b + x) (w 51 (10 * b + x) - 6 * w 47 (10 * r + x) * y)) 58 0 (5 * x) (w 58 (5 * x) + 6 * w 47 (10 * r + x) * y)) 55 0 (10 * (2 * T + b) + x) (w 55 (10 * (2 * T + b) + x) + (if 0 < w 47 (10 * r + x) then y else 0))) := by
      unfold stepK
      rw [six]
      exact saleMs (q := (w, lg)) hM hx10 hb hs
    obtain ⟨M1, i1, i2, i3⟩ := ih (x + 1) k _ (stepK w b (2 * T + b) r x y) (by omega) (by omega) hM2 (by rw [stepK_t (by omega) (by omega) (by omega)]; exact hw) (by rw [stepK_t (by omega) (by omega) (by omega)]; exact hwT)
    refine ⟨M1, ?_, i2, fun t ht => by rw [i3 t ht]; simp (disch := omega) only [mh_up_t]⟩
    unfold fX10_sells_L3
    simp (maxSteps := 1000000) (disch := omega) only [pl_e, e0, hlt, if_false, ix10, i50, inbN j1 (show 120 ≤ 2 ^ 31 by omega), inbN j2 (show 20 ≤ 2 ^ 31 by omega), inbN j3 (show 50 ≤ 2 ^ 31 by omega), inbN j4 (show 400 ≤ 2 ^ 31 by omega), ck_t, clN (show 10 * r + x < 2 ^ 31 by omega), clN (show 10 * b + x < 2 ^ 31 by omega), clN (show 5 * x < 2 ^ 31 by omega), clN (show 10 * (2 * T + b) + x < 2 ^ 31 by omega), rm47 (q := (w, lg)) hM j1, rm51 (q := (w, lg)) hM j2, rd_t, rm58 (q := (w, lg)) hM j3, rm55 (q := (w, lg)) hM j4, eT, eM_at, bd_some, nI_1]
    by_cases pp : w 47 (10 * r + x) ≤ 0
    · rw [if_neg (Int32.not_lt.mpr pp)] at i1
      rw [if_pos pp]
      exact i1
    · rw [if_pos (Int32.not_le.mp pp)] at i1
      rw [if_neg pp]
      exact i1
