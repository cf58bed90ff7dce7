/-! ===== an act done or taken back by the class ===== -/
theorem ap0 {q : St} {M : mh_M} (hX : XS q M) {T : Nat} (hT : q.1 40 11 = nI T) (hT20 : T < 20) (n : Nat) {r b k : Nat} {m : Int32} (hb : b < 2) (hk : k < 10) (h1 : M 30 r 1 = nI b) (h2 : M 30 r 2 = nI k) (h3 : M 30 r 3 = m) (s : Int32) (h0 : M 30 r 0 = nI 0) : ∃ M1, fX9_apply n M r s = some M1 ∧ XS (vu (vu q.1 50 k (q.1 50 k + s * m)) 58 (5 * k + 4) (q.1 58 (5 * k + 4) + s * m), q.2) M1 ∧ ∀ t, (40 ≤ t ∨ t = 30) → M1 t = M t := by
  have eT : M 0 0 6 = nI T := (rXc11 hX).trans hT
  refine ⟨mh_up (mh_up M 20 k 3 (q.1 50 k + s * m)) 20 k 4 (q.1 58 (5 * k + 4) + s * m), ?_, ?_, ?_⟩
  · unfold fX9_apply
    simp only [pl_e, eT, h1, eX_sheetOf n M hT20 hb, bd_some, h0, h2, h3, show ¬ nI 0 = (3 : Int32) from by decide, show ¬ nI 0 = (6 : Int32) from by decide, if_false, inbN hk (show 10 ≤ 2 ^ 31 by omega), ck_t, clN (show k < 2 ^ 31 by omega)]
    unfold fX4_move
    simp (disch := omega) only [pl_e, show nI 0 = (0 : Int32) from rfl, if_true, rX20_3 hX hk, rX20_4 hX hk, rd_k, bd_some]
  · skip
    refine XS_step hX ?_ ?_ ?_ ?_ ?_ ?_ ?_ ?_
    · rw [wu20_4 hk, wu20_3 hk, hX.1]
    · try simp (disch := omega) only [rd_s, rd_t, rd_i, rd_k]
    · try simp (disch := omega) only [mh_up_t]
    · intro r; try simp (disch := omega) only [rd_s, rd_t, rd_i, rd_k]
    · intro r; try simp (disch := omega) only [rd_s, rd_t, rd_i, rd_k]
    · try simp (disch := omega) only [rd_s, rd_t, rd_i, rd_k]
    · try simp (disch := omega) only [vu_at, vu_t, vu_j]
    · intro j; try simp (disch := omega) only [vu_at, vu_t, vu_j]
  · intro t ht
    simp (disch := omega) only [mh_up_t]
theorem ap1 {q : St} {M : mh_M} (hX : XS q M) {T : Nat} (hT : q.1 40 11 = nI T) (hT20 : T < 20) (n : Nat) {r b k : Nat} {m : Int32} (hb : b < 2) (hk : k < 10) (h1 : M 30 r 1 = nI b) (h2 : M 30 r 2 = nI k) (h3 : M 30 r 3 = m) (s : Int32) (h0 : M 30 r 0 = nI 1) : ∃ M1, fX9_apply n M r s = some M1 ∧ XS (vu (vu q.1 50 k (q.1 50 k - s * m)) 51 (10 * b + k) (q.1 51 (10 * b + k) + s * m * q.1 43 k), q.2) M1 ∧ ∀ t, (40 ≤ t ∨ t = 30) → M1 t = M t := by
  have eT : M 0 0 6 = nI T := (rXc11 hX).trans hT
  refine ⟨mh_up (mh_up M 20 k 3 (q.1 50 k - s * m)) 21 k b (q.1 51 (10 * b + k) + s * m * q.1 43 k), ?_, ?_, ?_⟩
  · unfold fX9_apply
    simp only [pl_e, eT, h1, eX_sheetOf n M hT20 hb, bd_some, h0, h2, h3, show ¬ nI 1 = (3 : Int32) from by decide, show ¬ nI 1 = (6 : Int32) from by decide, if_false, inbN hk (show 10 ≤ 2 ^ 31 by omega), ck_t, clN (show k < 2 ^ 31 by omega)]
    unfold fX4_move
    simp (disch := omega) only [pl_e, show nI 1 = (1 : Int32) from rfl, show ¬ (1 : Int32) = 0 from by decide, if_false, if_true, rX20_3 hX hk, rX20_1 hX hk, rX21 hX hk hb, rd_k, rd_t, bd_some, inbN hb (show 2 ≤ 2 ^ 31 by omega), ck_t, clN (show b < 2 ^ 31 by omega)]
  · skip
    refine XS_step hX ?_ ?_ ?_ ?_ ?_ ?_ ?_ ?_
    · rw [wu21 hk hb, wu20_3 hk, hX.1]
    · try simp (disch := omega) only [rd_s, rd_t, rd_i, rd_k]
    · try simp (disch := omega) only [mh_up_t]
    · intro r; try simp (disch := omega) only [rd_s, rd_t, rd_i, rd_k]
    · intro r; try simp (disch := omega) only [rd_s, rd_t, rd_i, rd_k]
    · try simp (disch := omega) only [rd_s, rd_t, rd_i, rd_k]
    · try simp (disch := omega) only [vu_at, vu_t, vu_j]
    · intro j; try simp (disch := omega) only [vu_at, vu_t, vu_j]
  · intro t ht
    simp (disch := omega) only [mh_up_t]
theorem one_b {b : Nat} (h : b < 2) : (1 : Int32) - nI b = nI (1 - b) := by
  rcases (show b = 0 ∨ b = 1 by omega) with rfl | rfl <;> rfl
theorem ap2 {q : St} {M : mh_M} (hX : XS q M) {T : Nat} (hT : q.1 40 11 = nI T) (hT20 : T < 20) (n : Nat) {r b k : Nat} {m : Int32} (hb : b < 2) (hk : k < 10) (h1 : M 30 r 1 = nI b) (h2 : M 30 r 2 = nI k) (h3 : M 30 r 3 = m) (s : Int32) (h0 : M 30 r 0 = nI 2) : ∃ M1, fX9_apply n M r s = some M1 ∧ XS (vu (vu q.1 51 (10 * b + k) (q.1 51 (10 * b + k) - s * m)) 51 (10 * (1 - b) + k) (q.1 51 (10 * (1 - b) + k) + s * m), q.2) M1 ∧ ∀ t, (40 ≤ t ∨ t = 30) → M1 t = M t := by
  have eT : M 0 0 6 = nI T := (rXc11 hX).trans hT
  have hb' : 1 - b < 2 := by omega
  refine ⟨mh_up (mh_up M 21 k b (q.1 51 (10 * b + k) - s * m)) 21 k (1 - b) (q.1 51 (10 * (1 - b) + k) + s * m), ?_, ?_, ?_⟩
  · unfold fX9_apply
    simp only [pl_e, eT, h1, eX_sheetOf n M hT20 hb, bd_some, h0, h2, h3, show ¬ nI 2 = (3 : Int32) from by decide, show ¬ nI 2 = (6 : Int32) from by decide, if_false, inbN hk (show 10 ≤ 2 ^ 31 by omega), ck_t, clN (show k < 2 ^ 31 by omega)]
    unfold fX4_move
    simp (disch := omega) only [pl_e, show nI 2 = (2 : Int32) from rfl, show ¬ (2 : Int32) = 0 from by decide, show ¬ (2 : Int32) = 1 from by decide, if_false, if_true, one_b hb, rX21 hX hk hb, rX21 hX hk hb', rd_k, rd_t, bd_some, inbN hb (show 2 ≤ 2 ^ 31 by omega), inbN hb' (show 2 ≤ 2 ^ 31 by omega), ck_t, clN (show b < 2 ^ 31 by omega), clN (show 1 - b < 2 ^ 31 by omega)]
  · skip
    refine XS_step hX ?_ ?_ ?_ ?_ ?_ ?_ ?_ ?_
    · rw [wu21 hk hb', wu21 hk hb, hX.1]
    · try simp (disch := omega) only [rd_s, rd_t, rd_i, rd_k]
    · try simp (disch := omega) only [mh_up_t]
    · intro r; try simp (disch := omega) only [rd_s, rd_t, rd_i, rd_k]
    · intro r; try simp (disch := omega) only [rd_s, rd_t, rd_i, rd_k]
    · try simp (disch := omega) only [rd_s, rd_t, rd_i, rd_k]
    · try simp (disch := omega) only [vu_at, vu_t, vu_j]
    · intro j; try simp (disch := omega) only [vu_at, vu_t, vu_j]
  · intro t ht
    simp (disch := omega) only [mh_up_t]
theorem mvD {q : St} {M : mh_M} (hX : XS q M) (n : Nat) {w b k : Nat} (hw : 3 ≤ w ∧ w ≤ 6) (hb : b < 2) (hk : k < 10) (y : Int32) : fX4_move n M k (nI w) (nI b) y = some (mh_up (mh_up M 21 k b (q.1 51 (10 * b + k) - y)) 22 k (w - 3) (q.1 58 (5 * k + (w - 3)) + y)) := by
  have e3 : nI w - (3 : Int32) = nI (w - 3) := pk_sub (b := 3) (by omega)
  have hw4 : w - 3 < 4 := by omega
  unfold fX4_move
  simp (disch := omega) only [pl_e, show ¬ nI w = (0 : Int32) from nne (b := 0) (by omega) (by omega) (by omega), show ¬ nI w = (1 : Int32) from nne (b := 1) (by omega) (by omega) (by omega), show ¬ nI w = (2 : Int32) from nne (b := 2) (by omega) (by omega) (by omega), if_false, e3, rX21 hX hk hb, rX22 hX hk hw4, rd_t, inbN hb (show 2 ≤ 2 ^ 31 by omega), inbN hw4 (show 4 ≤ 2 ^ 31 by omega), ck_t, clN (show b < 2 ^ 31 by omega), clN (show w - 3 < 2 ^ 31 by omega)]
theorem ap4 {q : St} {M : mh_M} (hX : XS q M) {T : Nat} (hT : q.1 40 11 = nI T) (hT20 : T < 20) (n : Nat) {r b k : Nat} {m : Int32} (hb : b < 2) (hk : k < 10) (h1 : M 30 r 1 = nI b) (h2 : M 30 r 2 = nI k) (h3 : M 30 r 3 = m) (s : Int32) {w : Nat} (hw : w = 4 ∨ w = 5) (h0 : M 30 r 0 = nI w) : ∃ M1, fX9_apply n M r s = some M1 ∧ XS (vu (vu q.1 51 (10 * b + k) (q.1 51 (10 * b + k) - s * m)) 58 (5 * k + (w - 3)) (q.1 58 (5 * k + (w - 3)) + s * m), q.2) M1 ∧ ∀ t, (40 ≤ t ∨ t = 30) → M1 t = M t := by
  have eT : M 0 0 6 = nI T := (rXc11 hX).trans hT
  have hw4 : w - 3 < 4 := by omega
  refine ⟨mh_up (mh_up M 21 k b (q.1 51 (10 * b + k) - s * m)) 22 k (w - 3) (q.1 58 (5 * k + (w - 3)) + s * m), ?_, ?_, ?_⟩
  · unfold fX9_apply
    simp only [pl_e, eT, h1, eX_sheetOf n M hT20 hb, bd_some, h0, h2, h3, show ¬ nI w = (3 : Int32) from nne (b := 3) (by omega) (by omega) (by omega), show ¬ nI w = (6 : Int32) from nne (b := 6) (by omega) (by omega) (by omega), if_false, inbN hk (show 10 ≤ 2 ^ 31 by omega), ck_t, clN (show k < 2 ^ 31 by omega), mvD hX n (show 3 ≤ w ∧ w ≤ 6 by omega) hb hk]
  · skip
    refine XS_step hX ?_ ?_ ?_ ?_ ?_ ?_ ?_ ?_
    · rw [wu22 hk hw4, wu21 hk hb, hX.1]
    · try simp (disch := omega) only [rd_s, rd_t, rd_i, rd_k]
    · try simp (disch := omega) only [mh_up_t]
    · intro r; try simp (disch := omega) only [rd_s, rd_t, rd_i, rd_k]
    · intro r; try simp (disch := omega) only [rd_s, rd_t, rd_i, rd_k]
    · try simp (disch := omega) only [rd_s, rd_t, rd_i, rd_k]
    · try simp (disch := omega) only [vu_at, vu_t, vu_j]
    · intro j; try simp (disch := omega) only [vu_at, vu_t, vu_j]
  · intro t ht
    simp (disch := omega) only [mh_up_t]
/-- WEIGHED, and not any more -/
theorem mask_w {v : Vw} {j : Nat} {x g : Int32} (hx : x ≠ 0) : mask (vu (vu v 54 j x) 53 j g) = vu (vu (mask v) 54 j x) 53 j g := by
  funext a i
  by_cases h : a = 53 ∧ i = j
  · obtain ⟨rfl, rfl⟩ := h
    rw [vu_at]
    simp only [mask]
    rw [if_neg (by simp (disch := omega) only [vu_t, vu_at]; exact fun z => hx z.2), vu_at]
  · rw [vu_ne h]
    by_cases h2 : a = 54 ∧ i = j
    · obtain ⟨rfl, rfl⟩ := h2
      rw [mask_ne (by omega), vu_at, vu_t (by omega), vu_at]
    · rw [vu_ne h2]
      simp only [mask]
      rw [vu_ne h, vu_ne h2]
      by_cases h3 : i = j
      · subst h3
        have h4 : a ≠ 53 := fun z => h ⟨z, rfl⟩
        rw [if_neg (fun z => h4 z.1), if_neg (fun z => h4 z.1)]
      · simp (disch := omega) only [vu_t, vu_j]
theorem mask_0 {v : Vw} {j : Nat} : mask (vu v 54 j 0) = vu (vu (mask v) 54 j 0) 53 j 0 := by
  funext a i
  by_cases h : a = 53 ∧ i = j
  · obtain ⟨rfl, rfl⟩ := h
    rw [vu_at]
    simp only [mask]
    rw [if_pos (by simp [vu])]
  · rw [vu_ne h]
    by_cases h2 : a = 54 ∧ i = j
    · obtain ⟨rfl, rfl⟩ := h2
      rw [mask_ne (by omega), vu_at, vu_at]
    · rw [vu_ne h2]
      simp only [mask]
      rw [vu_ne h2]
      by_cases h3 : i = j
      · subst h3
        have h4 : a ≠ 53 := fun z => h ⟨z, rfl⟩
        rw [if_neg (fun z => h4 z.1), if_neg (fun z => h4 z.1)]
      · simp (disch := omega) only [vu_j]
theorem mask_00 {v : Vw} {j : Nat} {g : Int32} : mask (vu (vu v 54 j 0) 53 j g) = vu (vu (mask v) 54 j 0) 53 j 0 := by
  funext a i
  by_cases h : a = 53 ∧ i = j
  · obtain ⟨rfl, rfl⟩ := h
    rw [vu_at]
    simp only [mask]
    rw [if_pos (by simp [vu])]
  · rw [vu_ne h]
    by_cases h2 : a = 54 ∧ i = j
    · obtain ⟨rfl, rfl⟩ := h2
      rw [mask_ne (by omega), vu_t (by omega), vu_at, vu_at]
    · rw [vu_ne h2]
      simp only [mask]
      rw [vu_ne h, vu_ne h2]
      by_cases h3 : i = j
      · subst h3
        have h4 : a ≠ 53 := fun z => h ⟨z, rfl⟩
        rw [if_neg (fun z => h4 z.1), if_neg (fun z => h4 z.1)]
      · simp (disch := omega) only [vu_t, vu_j]
theorem wuW1 {M : mh_M} {s k : Nat} {g : Int32} (h0 : s < 40) (h1 : k < 10) : wX (mh_up (mh_up M 27 s k 1) 28 s k g) = vu (vu (wX M) 54 (10 * s + k) 1) 53 (10 * s + k) g := by
  unfold wX
  rw [up28 h0 h1, up27 h0 h1, mask_w (by decide)]
theorem wuW0 {M : mh_M} {s k : Nat} {g : Int32} (h0 : s < 40) (h1 : k < 10) : wX (mh_up (mh_up M 27 s k 0) 28 s k g) = vu (vu (wX M) 54 (10 * s + k) 0) 53 (10 * s + k) 0 := by
  unfold wX
  rw [up28 h0 h1, up27 h0 h1, mask_00]
theorem wmW1 {M : mh_M} {j : Nat} {g : Int32} (h : j < 400) : wM (mh_up (mh_up M 54 0 j 1) 53 0 j g) = vu (vu (wM M) 54 j 1) 53 j g := by
  unfold wM
  rw [VM_up (t0 := 53) (j0 := j) (decide_eq_true h) (by omega), VM_up (t0 := 54) (j0 := j) (decide_eq_true h) (by omega), mask_w (by decide)]
theorem wmW0 {M : mh_M} {j : Nat} (h : j < 400) : wM (mh_up M 54 0 j 0) = vu (vu (wM M) 54 j 0) 53 j 0 := by
  unfold wM
  rw [VM_up (t0 := 54) (j0 := j) (decide_eq_true h) (by omega), mask_0]
theorem ap6a {q : St} {M : mh_M} (hX : XS q M) {T : Nat} (hT : q.1 40 11 = nI T) (hT20 : T < 20) (n : Nat) {r b k : Nat} {m : Int32} (hb : b < 2) (hk : k < 10) (h1 : M 30 r 1 = nI b) (h2 : M 30 r 2 = nI k) (h3 : M 30 r 3 = m) (h0 : M 30 r 0 = nI 6) : ∃ M1, fX9_apply n M r 1 = some M1 ∧ XS (vu (vu (vu (vu q.1 54 (10 * (2 * T + b) + k) 1) 53 (10 * (2 * T + b) + k) m) 51 (10 * b + k) (q.1 51 (10 * b + k) - 1 * m)) 58 (5 * k + 3) (q.1 58 (5 * k + 3) + 1 * m), q.2) M1 ∧ ∀ t, (40 ≤ t ∨ t = 30) → M1 t = M t := by
  have eT : M 0 0 6 = nI T := (rXc11 hX).trans hT
  have hs : 2 * T + b < 40 := by omega
  have hXm : XS (vu (vu q.1 54 (10 * (2 * T + b) + k) 1) 53 (10 * (2 * T + b) + k) m, q.2) (mh_up (mh_up M 27 (2 * T + b) k 1) 28 (2 * T + b) k m) := by
    refine XS_step hX ?_ ?_ ?_ ?_ ?_ ?_ ?_ ?_
    · rw [wuW1 hs hk, hX.1]
    · try simp (disch := omega) only [rd_s, rd_t, rd_i, rd_k]
    · try simp (disch := omega) only [mh_up_t]
    · intro r; try simp (disch := omega) only [rd_s, rd_t, rd_i, rd_k]
    · intro r; try simp (disch := omega) only [rd_s, rd_t, rd_i, rd_k]
    · try simp (disch := omega) only [rd_s, rd_t, rd_i, rd_k]
    · try simp (disch := omega) only [vu_at, vu_t, vu_j]
    · intro j; try simp (disch := omega) only [vu_at, vu_t, vu_j]
  refine ⟨mh_up (mh_up (mh_up (mh_up M 27 (2 * T + b) k 1) 28 (2 * T + b) k m) 21 k b (q.1 51 (10 * b + k) - 1 * m)) 22 k 3 (q.1 58 (5 * k + 3) + 1 * m), ?_, ?_, ?_⟩
  · unfold fX9_apply
    simp (disch := omega) only [pl_e, eT, h1, eX_sheetOf n M hT20 hb, bd_some, h0, h2, h3, show ¬ nI 6 = (3 : Int32) from by decide, show nI 6 = (6 : Int32) from rfl, show ¬ (1 : Int32) ≤ 0 from by decide, if_false, if_true, inbN hk (show 10 ≤ 2 ^ 31 by omega), ck_t, clN (show k < 2 ^ 31 by omega), nar1, rd_t]
    rw [show (6 : Int32) = nI 6 from rfl, mvD hXm n (show 3 ≤ 6 ∧ 6 ≤ 6 by omega) hb hk]
    simp (disch := omega) only [vu_t, bd_some]
    exact if_neg (show ¬ nI 6 = (3 : Int32) from by decide)
  · have h3' : (3 : Nat) < 4 := by omega
    have e := hXm.1
    refine XS_step (q := (vu (vu q.1 54 (10 * (2 * T + b) + k) 1) 53 (10 * (2 * T + b) + k) m, q.2)) hXm ?_ ?_ ?_ ?_ ?_ ?_ ?_ ?_
    · rw [wu22 hk h3', wu21 hk hb, e]
    · try simp (disch := omega) only [rd_s, rd_t, rd_i, rd_k]
    · try simp (disch := omega) only [mh_up_t]
    · intro r; try simp (disch := omega) only [rd_s, rd_t, rd_i, rd_k]
    · intro r; try simp (disch := omega) only [rd_s, rd_t, rd_i, rd_k]
    · try simp (disch := omega) only [rd_s, rd_t, rd_i, rd_k]
    · try simp (disch := omega) only [vu_at, vu_t, vu_j]
    · intro j; try simp (disch := omega) only [vu_at, vu_t, vu_j]
  · intro t ht
    simp (disch := omega) only [mh_up_t]
theorem ap6b {q : St} {M : mh_M} (hX : XS q M) {T : Nat} (hT : q.1 40 11 = nI T) (hT20 : T < 20) (n : Nat) {r b k : Nat} {m : Int32} (hb : b < 2) (hk : k < 10) (h1 : M 30 r 1 = nI b) (h2 : M 30 r 2 = nI k) (h3 : M 30 r 3 = m) (h0 : M 30 r 0 = nI 6) : ∃ M1, fX9_apply n M r (-1) = some M1 ∧ XS (vu (vu (vu (vu q.1 54 (10 * (2 * T + b) + k) 0) 53 (10 * (2 * T + b) + k) 0) 51 (10 * b + k) (q.1 51 (10 * b + k) - (-1) * m)) 58 (5 * k + 3) (q.1 58 (5 * k + 3) + (-1) * m), q.2) M1 ∧ ∀ t, (40 ≤ t ∨ t = 30) → M1 t = M t := by
  have eT : M 0 0 6 = nI T := (rXc11 hX).trans hT
  have hs : 2 * T + b < 40 := by omega
  have hXm : XS (vu (vu q.1 54 (10 * (2 * T + b) + k) 0) 53 (10 * (2 * T + b) + k) 0, q.2) (mh_up (mh_up M 27 (2 * T + b) k 0) 28 (2 * T + b) k m) := by
    refine XS_step hX ?_ ?_ ?_ ?_ ?_ ?_ ?_ ?_
    · rw [wuW0 hs hk, hX.1]
    · try simp (disch := omega) only [rd_s, rd_t, rd_i, rd_k]
    · try simp (disch := omega) only [mh_up_t]
    · intro r; try simp (disch := omega) only [rd_s, rd_t, rd_i, rd_k]
    · intro r; try simp (disch := omega) only [rd_s, rd_t, rd_i, rd_k]
    · try simp (disch := omega) only [rd_s, rd_t, rd_i, rd_k]
    · try simp (disch := omega) only [vu_at, vu_t, vu_j]
    · intro j; try simp (disch := omega) only [vu_at, vu_t, vu_j]
  refine ⟨mh_up (mh_up (mh_up (mh_up M 27 (2 * T + b) k 0) 28 (2 * T + b) k m) 21 k b (q.1 51 (10 * b + k) - (-1) * m)) 22 k 3 (q.1 58 (5 * k + 3) + (-1) * m), ?_, ?_, ?_⟩
  · unfold fX9_apply
    simp (disch := omega) only [pl_e, eT, h1, eX_sheetOf n M hT20 hb, bd_some, h0, h2, h3, show ¬ nI 6 = (3 : Int32) from by decide, show nI 6 = (6 : Int32) from rfl, show (-1 : Int32) ≤ 0 from by decide, if_false, if_true, inbN hk (show 10 ≤ 2 ^ 31 by omega), ck_t, clN (show k < 2 ^ 31 by omega), nar0, rd_t]
    rw [show (6 : Int32) = nI 6 from rfl, mvD hXm n (show 3 ≤ 6 ∧ 6 ≤ 6 by omega) hb hk]
    simp (disch := omega) only [vu_t, bd_some]
    exact if_neg (show ¬ nI 6 = (3 : Int32) from by decide)
  · have h3' : (3 : Nat) < 4 := by omega
    have e := hXm.1
    refine XS_step (q := (vu (vu q.1 54 (10 * (2 * T + b) + k) 0) 53 (10 * (2 * T + b) + k) 0, q.2)) hXm ?_ ?_ ?_ ?_ ?_ ?_ ?_ ?_
    · rw [wu22 hk h3', wu21 hk hb, e]
    · try simp (disch := omega) only [rd_s, rd_t, rd_i, rd_k]
    · try simp (disch := omega) only [mh_up_t]
    · intro r; try simp (disch := omega) only [rd_s, rd_t, rd_i, rd_k]
    · intro r; try simp (disch := omega) only [rd_s, rd_t, rd_i, rd_k]
    · try simp (disch := omega) only [rd_s, rd_t, rd_i, rd_k]
    · try simp (disch := omega) only [vu_at, vu_t, vu_j]
    · intro j; try simp (disch := omega) only [vu_at, vu_t, vu_j]
  · intro t ht
    simp (disch := omega) only [mh_up_t]
