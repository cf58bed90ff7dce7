/-! ===== tips, both sides ===== -/
theorem cmp0 (x : Int64) : lg_cmp x 0 = 0 ↔ x = 0 := by
  unfold lg_cmp
  by_cases h : x > 0
  · rw [if_pos h]
    exact ⟨fun z => absurd z (by decide), fun z => by subst z; exact absurd h (by decide)⟩
  · rw [if_neg h]
    by_cases h2 : x = 0
    · rw [if_pos h2]
      exact ⟨fun _ => h2, fun _ => rfl⟩
    · rw [if_neg h2]
      exact ⟨fun z => absurd z (by decide), fun z => absurd z h2⟩
def cuT (w : Vw) (y : Int32) (s : Int64) (p : Nat) : Int64 := y.toInt64 * (w 70 p).toInt64 / s
def reT (w : Vw) (y : Int32) (s : Int64) (p : Nat) : Int64 := y.toInt64 * (w 70 p).toInt64 - y.toInt64 * (w 70 p).toInt64 / s * s
def smT (w : Vw) : Nat → Nat → Int64 → Int64
  | 0, _, acc => acc
  | d + 1, i, acc => smT w d (i + 1) (acc + (w 70 i).toInt64)
def lfT (w : Vw) (y : Int32) (s : Int64) : Nat → Nat → Int64 → Int64
  | 0, _, acc => acc
  | d + 1, i, acc => lfT w y s d (i + 1) (acc - cuT w y s i)
def agT (w : Vw) (y : Int32) (s : Int64) (p : Nat) : Nat → Nat → Int32 → Int32
  | 0, _, acc => acc
  | d + 1, i, acc => agT w y s p d (i + 1) (if 0 < lg_cmp (reT w y s i) (reT w y s p) then acc + 1 else if lg_cmp (reT w y s i) (reT w y s p) = 0 then (if p ≤ i then acc else acc + 1) else acc)
def tpT (w : Vw) (y : Int32) (s : Int64) (p : Nat) (l : Int64) (g : Int32) : Int32 := if 0 ≤ lg_cmp g.toInt64 l then (cuT w y s p).toInt32 else (cuT w y s p).toInt32 + 1
theorem tp_pos {w : Vw} {y : Int32} {s : Int64} {p : Nat} {l : Int64} {g : Int32} (h : 0 ≤ lg_cmp g.toInt64 l) : tpT w y s p l g = (cuT w y s p).toInt32 := if_pos h
theorem tp_neg {w : Vw} {y : Int32} {s : Int64} {p : Nat} {l : Int64} {g : Int32} (h : ¬ 0 ≤ lg_cmp g.toInt64 l) : tpT w y s p l g = (cuT w y s p).toInt32 + 1 := if_neg h
theorem nzL {s : Int64} (h : s ≠ 0) : (!decide (s = 0)) = true := by simp [h]
theorem eX_cut {q : St} {M : mh_M} (hX : XS q M) (n : Nat) {p : Nat} (hp : p < 6) (y : Int32) {s : Int64} (hs : s ≠ 0) : fX8_cutShare n M (nI p) y s = some (cuT q.1 y s p) := by
  unfold fX8_cutShare cuT
  simp only [pl_e, inbN hp (show 6 ≤ 2 ^ 31 by omega), ck_t, clN (show p < 2 ^ 31 by omega), rX14 hX hp, nzL hs]
theorem eX_rest {q : St} {M : mh_M} (hX : XS q M) (n : Nat) {p : Nat} (hp : p < 6) (y : Int32) {s : Int64} (hs : s ≠ 0) : fX8_rest n M (nI p) y s = some (reT q.1 y s p) := by
  unfold fX8_rest reT
  simp only [pl_e, inbN hp (show 6 ≤ 2 ^ 31 by omega), ck_t, clN (show p < 2 ^ 31 by omega), rX14 hX hp, nzL hs]
theorem ag_X {q : St} {M : mh_M} (hX : XS q M) (n : Nat) {p : Nat} (hp : p < 6) (y : Int32) {s : Int64} (hs : s ≠ 0) : ∀ (d i k : Nat) (acc : Int32), i + d = 6 → d < k →
    itr2 (fX8_aheadOf_L15 n M (nI p) y s (reT q.1 y s p)) k acc (nI i) = some (agT q.1 y s p d i acc) := by
  intro d
  induction d with
  | zero =>
    intro i k acc hi hk
    obtain ⟨k, rfl⟩ : ∃ m, k = m + 1 := ⟨k - 1, by omega⟩
    obtain rfl : i = 6 := by omega
    rfl
  | succ d ih =>
    intro i k acc hi hk
    obtain ⟨k, rfl⟩ : ∃ m, k = m + 1 := ⟨k - 1, by omega⟩
    have hI := fun acc => ih (i + 1) k acc (by omega) (by omega)
    have hi6 : i < 6 := by omega
    show fX8_aheadOf_L15 n M (nI p) y s (reT q.1 y s p) (itr2 (fX8_aheadOf_L15 n M (nI p) y s (reT q.1 y s p)) k) acc (nI i) = some (agT q.1 y s p d (i + 1) _)
    generalize itr2 (fX8_aheadOf_L15 n M (nI p) y s (reT q.1 y s p)) k = rec at hI ⊢
    unfold fX8_aheadOf_L15
    rw [if_neg (show ¬ (6 : Int32) ≤ nI i from fun z => absurd ((nI_leI (a := 6) (by omega) (by omega)).mp z) (by omega))]
    simp only [eX_rest hX n hi6 y hs, bd_some, pl_e, nI_1, leN (show p < 2 ^ 31 by omega) (show i < 2 ^ 31 by omega)]
    by_cases h1 : 0 < lg_cmp (reT q.1 y s i) (reT q.1 y s p)
    · simp only [if_pos h1]
      exact hI _
    · simp only [if_neg h1]
      by_cases h2 : lg_cmp (reT q.1 y s i) (reT q.1 y s p) = 0
      · simp only [if_pos h2]
        by_cases h3 : p ≤ i
        · simp only [if_pos h3]
          exact hI _
        · simp only [if_neg h3]
          exact hI _
      · simp only [if_neg h2]
        exact hI _
theorem lf_X {q : St} {M : mh_M} (hX : XS q M) {n : Nat} (hn : 20 ≤ n) {p : Nat} (hp : p < 6) (y : Int32) {s : Int64} (hs : s ≠ 0) : ∀ (d i k : Nat) (acc : Int64), i + d = 6 → d < k →
    itr2 (fX8_shareOf_L45 n M (nI p) y s) k acc (nI i) = some (tpT q.1 y s p (lfT q.1 y s d i acc) (agT q.1 y s p 6 0 0)) := by
  intro d
  induction d with
  | zero =>
    intro i k acc hi hk
    obtain ⟨k, rfl⟩ : ∃ m, k = m + 1 := ⟨k - 1, by omega⟩
    obtain rfl : i = 6 := by omega
    show fX8_shareOf_L45 n M (nI p) y s (itr2 (fX8_shareOf_L45 n M (nI p) y s) k) acc (nI 6) = _
    generalize itr2 (fX8_shareOf_L45 n M (nI p) y s) k = rec
    unfold fX8_shareOf_L45 fX8_aheadOf
    rw [if_pos (show (6 : Int32) ≤ nI 6 by decide), eX_rest hX n hp y hs]
    simp only [bd_some]
    rw [show itr2 (fX8_aheadOf_L15 n M (nI p) y s (reT q.1 y s p)) n (0 : Int32) (0 : Int32) = some (agT q.1 y s p 6 0 0) from ag_X hX n hp y hs 6 0 n 0 (by omega) (by omega)]
    simp only [bd_some, pl_e, eX_cut hX n hp y hs, lfT]
    by_cases h : 0 ≤ lg_cmp (agT q.1 y s p 6 0 0).toInt64 acc
    · rw [tp_pos h]
      simp only [if_pos h, if_true, Int32.add_zero]
    · rw [tp_neg h]
      simp only [if_neg h, z10, if_false]
  | succ d ih =>
    intro i k acc hi hk
    obtain ⟨k, rfl⟩ : ∃ m, k = m + 1 := ⟨k - 1, by omega⟩
    have hI := fun acc => ih (i + 1) k acc (by omega) (by omega)
    have hi6 : i < 6 := by omega
    show fX8_shareOf_L45 n M (nI p) y s (itr2 (fX8_shareOf_L45 n M (nI p) y s) k) acc (nI i) = some (tpT q.1 y s p (lfT q.1 y s d (i + 1) (acc - cuT q.1 y s i)) (agT q.1 y s p 6 0 0))
    generalize itr2 (fX8_shareOf_L45 n M (nI p) y s) k = rec at hI ⊢
    unfold fX8_shareOf_L45
    rw [if_neg (show ¬ (6 : Int32) ≤ nI i from fun z => absurd ((nI_leI (a := 6) (by omega) (by omega)).mp z) (by omega))]
    simp only [eX_cut hX n hi6 y hs, bd_some, pl_e, nI_1]
    exact hI _
def shT (w : Vw) (y : Int32) (p : Nat) (s : Int64) : Int32 := if s = 0 then -2 else tpT w y s p (lfT w y s 6 0 y.toInt64) (agT w y s p 6 0 0)
theorem sm_X {q : St} {M : mh_M} (hX : XS q M) {n : Nat} (hn : 20 ≤ n) {p : Nat} (hp : p < 6) (y : Int32) : ∀ (d i k : Nat) (acc : Int64), i + d = 6 → d < k →
    itr2 (fX8_shareOf_L5 n M (nI p) y) k acc (nI i) = some (shT q.1 y p (smT q.1 d i acc)) := by
  intro d
  induction d with
  | zero =>
    intro i k acc hi hk
    obtain ⟨k, rfl⟩ : ∃ m, k = m + 1 := ⟨k - 1, by omega⟩
    obtain rfl : i = 6 := by omega
    show fX8_shareOf_L5 n M (nI p) y (itr2 (fX8_shareOf_L5 n M (nI p) y) k) acc (nI 6) = some (shT q.1 y p acc)
    generalize itr2 (fX8_shareOf_L5 n M (nI p) y) k = rec
    unfold fX8_shareOf_L5
    rw [if_pos (show (6 : Int32) ≤ nI 6 by decide)]
    simp only [pl_e]
    by_cases h : acc = 0
    · rw [if_pos ((cmp0 acc).mpr h)]
      unfold shT
      rw [if_pos h]
    · rw [if_neg (fun z => h ((cmp0 acc).mp z))]
      unfold shT
      rw [if_neg h]
      exact lf_X hX hn hp y h 6 0 n _ (by omega) (by omega)
  | succ d ih =>
    intro i k acc hi hk
    obtain ⟨k, rfl⟩ : ∃ m, k = m + 1 := ⟨k - 1, by omega⟩
    have hI := fun acc => ih (i + 1) k acc (by omega) (by omega)
    have hi6 : i < 6 := by omega
    show fX8_shareOf_L5 n M (nI p) y (itr2 (fX8_shareOf_L5 n M (nI p) y) k) acc (nI i) = some (shT q.1 y p (smT q.1 d (i + 1) (acc + (q.1 70 i).toInt64)))
    generalize itr2 (fX8_shareOf_L5 n M (nI p) y) k = rec at hI ⊢
    unfold fX8_shareOf_L5
    rw [if_neg (show ¬ (6 : Int32) ≤ nI i from fun z => absurd ((nI_leI (a := 6) (by omega) (by omega)).mp z) (by omega))]
    simp only [inbN hi6 (show 6 ≤ 2 ^ 31 by omega), ck_t, clN (show i < 2 ^ 31 by omega), rX14 hX hi6, pl_e, nI_1]
    exact hI _
theorem lf_M {q : St} {M : mh_M} (hM : MS q M) (n : Nat) {p : Nat} (hp : p < 6) (y : Int32) {s : Int64} (hs : s ≠ 0) : ∀ (d i k : Nat) (acc : Int64) (g : Int32), i + d = 6 → d < k →
    itr3 (fX10_tips_L83 n M y (nI p) s (reT q.1 y s p)) k acc g (nI i) = some (tpT q.1 y s p (lfT q.1 y s d i acc) (agT q.1 y s p d i g)) := by
  intro d
  induction d with
  | zero =>
    intro i k acc g hi hk
    obtain ⟨k, rfl⟩ : ∃ m, k = m + 1 := ⟨k - 1, by omega⟩
    obtain rfl : i = 6 := by omega
    show fX10_tips_L83 n M y (nI p) s (reT q.1 y s p) (itr3 (fX10_tips_L83 n M y (nI p) s (reT q.1 y s p)) k) acc g (nI 6) = _
    generalize itr3 (fX10_tips_L83 n M y (nI p) s (reT q.1 y s p)) k = rec
    unfold fX10_tips_L83
    rw [if_pos (show (6 : Int32) ≤ nI 6 by decide)]
    simp only [pl_e, inbN hp (show 6 ≤ 2 ^ 31 by omega), ck_t, clN (show p < 2 ^ 31 by omega), rm70 hM hp, nzL hs, lfT, agT, Int32.add_zero]
    by_cases h : 0 ≤ lg_cmp g.toInt64 acc
    · rw [tp_pos h]
      simp only [if_pos h]
      rfl
    · rw [tp_neg h]
      simp only [if_neg h]
      rfl
  | succ d ih =>
    intro i k acc g hi hk
    obtain ⟨k, rfl⟩ : ∃ m, k = m + 1 := ⟨k - 1, by omega⟩
    have hI := fun g => ih (i + 1) k (acc - cuT q.1 y s i) g (by omega) (by omega)
    have hi6 : i < 6 := by omega
    show fX10_tips_L83 n M y (nI p) s (reT q.1 y s p) (itr3 (fX10_tips_L83 n M y (nI p) s (reT q.1 y s p)) k) acc g (nI i) = some (tpT q.1 y s p (lfT q.1 y s d (i + 1) (acc - cuT q.1 y s i)) (agT q.1 y s p d (i + 1) _))
    generalize itr3 (fX10_tips_L83 n M y (nI p) s (reT q.1 y s p)) k = rec at hI ⊢
    unfold fX10_tips_L83
    rw [if_neg (show ¬ (6 : Int32) ≤ nI i from fun z => absurd ((nI_leI (a := 6) (by omega) (by omega)).mp z) (by omega))]
    have e1 : y.toInt64 * (q.1 70 i).toInt64 / s = cuT q.1 y s i := rfl
    have e2 : y.toInt64 * (q.1 70 i).toInt64 - y.toInt64 * (q.1 70 i).toInt64 / s * s = reT q.1 y s i := rfl
    simp only [pl_e, inbN hi6 (show 6 ≤ 2 ^ 31 by omega), ck_t, clN (show i < 2 ^ 31 by omega), rm70 hM hi6, nzL hs, e2]
    simp only [e1, nI_1, Int32.add_zero, leN (show p < 2 ^ 31 by omega) (show i < 2 ^ 31 by omega)]
    by_cases h1 : 0 < lg_cmp (reT q.1 y s i) (reT q.1 y s p)
    · simp only [if_pos h1]
      exact hI _
    · simp only [if_neg h1]
      by_cases h2 : lg_cmp (reT q.1 y s i) (reT q.1 y s p) = 0
      · simp only [if_pos h2]
        by_cases h3 : p ≤ i
        · simp only [if_pos h3]
          exact hI _
        · simp only [if_neg h3]
          exact hI _
      · simp only [if_neg h2]
        exact hI _
theorem sm_M {q : St} {M : mh_M} (hM : MS q M) {n : Nat} (hn : 20 ≤ n) {p : Nat} (hp : p < 6) (y : Int32) : ∀ (d i k : Nat) (acc : Int64), i + d = 6 → d < k →
    itr2 (fX10_tips_L26 n M y (nI p)) k acc (nI i) = some (shT q.1 y p (smT q.1 d i acc)) := by
  intro d
  induction d with
  | zero =>
    intro i k acc hi hk
    obtain ⟨k, rfl⟩ : ∃ m, k = m + 1 := ⟨k - 1, by omega⟩
    obtain rfl : i = 6 := by omega
    show fX10_tips_L26 n M y (nI p) (itr2 (fX10_tips_L26 n M y (nI p)) k) acc (nI 6) = some (shT q.1 y p acc)
    generalize itr2 (fX10_tips_L26 n M y (nI p)) k = rec
    unfold fX10_tips_L26
    rw [if_pos (show (6 : Int32) ≤ nI 6 by decide)]
    simp only [pl_e]
    by_cases h : acc = 0
    · rw [if_pos ((cmp0 acc).mpr h)]
      unfold shT
      rw [if_pos h]
    · rw [if_neg (fun z => h ((cmp0 acc).mp z))]
      unfold shT
      rw [if_neg h]
      have e2 : y.toInt64 * (q.1 70 p).toInt64 - y.toInt64 * (q.1 70 p).toInt64 / acc * acc = reT q.1 y acc p := rfl
      simp only [inbN hp (show 6 ≤ 2 ^ 31 by omega), ck_t, clN (show p < 2 ^ 31 by omega), rm70 hM hp, nzL h, e2]
      exact lf_M hM n hp y h 6 0 n _ _ (by omega) (by omega)
  | succ d ih =>
    intro i k acc hi hk
    obtain ⟨k, rfl⟩ : ∃ m, k = m + 1 := ⟨k - 1, by omega⟩
    have hI := fun acc => ih (i + 1) k acc (by omega) (by omega)
    have hi6 : i < 6 := by omega
    show fX10_tips_L26 n M y (nI p) (itr2 (fX10_tips_L26 n M y (nI p)) k) acc (nI i) = some (shT q.1 y p (smT q.1 d (i + 1) (acc + (q.1 70 i).toInt64)))
    generalize itr2 (fX10_tips_L26 n M y (nI p)) k = rec at hI ⊢
    unfold fX10_tips_L26
    rw [if_neg (show ¬ (6 : Int32) ≤ nI i from fun z => absurd ((nI_leI (a := 6) (by omega) (by omega)).mp z) (by omega))]
    simp only [inbN hi6 (show 6 ≤ 2 ^ 31 by omega), ck_t, clN (show i < 2 ^ 31 by omega), rm70 hM hi6, pl_e, nI_1]
    exact hI _
theorem s_tips {c : Nat} {q : St} {M M' : mh_M} (hX : XS q M) (hM : MS q M') (hI : Inv c q) (n : Nat) (hnn : 300 ≤ n) (a0 a1 : Int32) : BothP (fX9_tips n M a0 a1) (fX10_tips n M' a0 a1) := by
  unfold fX9_tips fX10_tips
  simp only [eX_isIn, eM_in, bd_some, b01]
  by_cases h1 : (0 : Int32) ≤ a0 ∧ a0 ≤ 1000000
  case neg => exact ⟨_, if_neg h1, if_neg h1⟩
  simp only [if_pos h1]
  by_cases h2 : (0 : Int32) ≤ a1 ∧ a1 ≤ 5
  case neg => exact ⟨_, if_neg h2, if_neg h2⟩
  simp only [if_pos h2]
  obtain ⟨p, hp, rfl⟩ := gIn (m := 5) (by omega) h2
  refine ⟨shT q.1 a0 p (smT q.1 6 0 0), ?_, sm_M hM (n := n) (by omega) (p := p) (by omega) a0 6 0 n 0 (by omega) (by omega)⟩
  unfold fX8_shareOf
  rw [show itr2 (fX8_shareOf_L5 n M (nI p) a0) n (0 : Int64) (0 : Int32) = _ from sm_X hX (n := n) (by omega) (p := p) (by omega) a0 6 0 n 0 (by omega) (by omega)]
  rfl
