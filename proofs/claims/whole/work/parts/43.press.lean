/-! ===== press, both sides ===== -/
def coT (w : Vw) (x i : Nat) : Int32 := w 64 i * (w 49 2 * nI (x - (w 63 i).toNatClampNeg) + w 49 3 * nI ((w 63 i).toNatClampNeg - x))
def coG (w : Vw) (x : Nat) : Nat → Nat → Int32 → Int32
  | 0, _, acc => acc
  | d + 1, i, acc => coG w x d (i + 1) (acc + coT w x i)
theorem mxS {a b : Nat} (ha : a ≤ 200) (hb : b ≤ 200) : (if (0 : Int32) < nI a - nI b then nI a - nI b else 0) = nI (a - b) := by
  by_cases h : b < a
  · rw [if_pos ((i32_pos _).mpr (by rw [pk_sub_toInt (by omega) (by omega)]; omega)), pk_sub (by omega)]
  · rw [if_neg (fun z => by
      have := (i32_pos _).mp z
      rw [pk_sub_toInt (by omega) (by omega)] at this
      omega), show a - b = 0 by omega]
    rfl
theorem co_X {q : St} {M : mh_M} (hX : XS q M) (n : Nat) {x F : Nat} (hx : x ≤ 200) (hF : q.1 40 21 = nI F) (hF8 : F ≤ 8) (i4 : ∀ j, j < F → ∃ a : Nat, a ≤ 200 ∧ q.1 63 j = nI a) : ∀ (d i k : Nat) (acc : Int32), i + d = F → d < k →
    itr2 (fX3_costOf_L6 n M (nI x) (q.1 49 2) (q.1 49 3)) k acc (nI i) = some (coG q.1 x d i acc) := by
  intro d
  induction d with
  | zero =>
    intro i k acc hi hk
    obtain ⟨k, rfl⟩ : ∃ m, k = m + 1 := ⟨k - 1, by omega⟩
    show fX3_costOf_L6 n M (nI x) (q.1 49 2) (q.1 49 3) (itr2 (fX3_costOf_L6 n M (nI x) (q.1 49 2) (q.1 49 3)) k) acc (nI i) = _
    unfold fX3_costOf_L6
    simp only [pl_e, (rXc21 hX).trans hF]
    rw [if_pos ((nI_leI (by omega) (by omega)).mpr (by omega))]
    rfl
  | succ d ih =>
    intro i k acc hi hk
    obtain ⟨k, rfl⟩ : ∃ m, k = m + 1 := ⟨k - 1, by omega⟩
    have hI := ih (i + 1) k (acc + coT q.1 x i) (by omega) (by omega)
    have hi8 : i < 8 := by omega
    obtain ⟨a, ha, ea⟩ := i4 i (by omega)
    show fX3_costOf_L6 n M (nI x) (q.1 49 2) (q.1 49 3) (itr2 (fX3_costOf_L6 n M (nI x) (q.1 49 2) (q.1 49 3)) k) acc (nI i) = _
    generalize itr2 (fX3_costOf_L6 n M (nI x) (q.1 49 2) (q.1 49 3)) k = rec at hI ⊢
    unfold fX3_costOf_L6
    simp only [pl_e, (rXc21 hX).trans hF]
    rw [if_neg (fun z => absurd ((nI_leI (by omega) (by omega)).mp z) (by omega))]
    have et : q.1 64 i * (q.1 49 2 * nI (x - a) + q.1 49 3 * nI (a - x)) = coT q.1 x i := by
      unfold coT
      rw [ea, clN (by omega)]
    simp only [inbN hi8 (show 8 ≤ 2 ^ 31 by omega), ck_t, clN (show i < 2 ^ 31 by omega), rX9 hX hi8, rX10 hX hi8, ea, mxS hx ha, mxS ha hx, et, nI_1]
    exact hI
theorem co_M {q : St} {M : mh_M} (hM : MS q M) (n : Nat) {x F : Nat} (hx : x ≤ 200) (hF : q.1 40 21 = nI F) (hF8 : F ≤ 8) (i4 : ∀ j, j < F → ∃ a : Nat, a ≤ 200 ∧ q.1 63 j = nI a) : ∀ (d i k : Nat) (acc : Int32), i + d = F → d < k →
    itr2 (fX10_costOf_L4 n M (nI x)) k acc (nI i) = some (coG q.1 x d i acc) := by
  intro d
  induction d with
  | zero =>
    intro i k acc hi hk
    obtain ⟨k, rfl⟩ : ∃ m, k = m + 1 := ⟨k - 1, by omega⟩
    show fX10_costOf_L4 n M (nI x) (itr2 (fX10_costOf_L4 n M (nI x)) k) acc (nI i) = _
    unfold fX10_costOf_L4
    simp only [pl_e, (rmc21 hM).trans hF]
    rw [if_pos ((nI_leI (by omega) (by omega)).mpr (by omega))]
    rfl
  | succ d ih =>
    intro i k acc hi hk
    obtain ⟨k, rfl⟩ : ∃ m, k = m + 1 := ⟨k - 1, by omega⟩
    have hI := ih (i + 1) k (acc + coT q.1 x i) (by omega) (by omega)
    have hi8 : i < 8 := by omega
    obtain ⟨a, ha, ea⟩ := i4 i (by omega)
    show fX10_costOf_L4 n M (nI x) (itr2 (fX10_costOf_L4 n M (nI x)) k) acc (nI i) = _
    generalize itr2 (fX10_costOf_L4 n M (nI x)) k = rec at hI ⊢
    unfold fX10_costOf_L4
    simp only [pl_e, (rmc21 hM).trans hF]
    rw [if_neg (fun z => absurd ((nI_leI (by omega) (by omega)).mp z) (by omega))]
    have et : q.1 64 i * (q.1 49 2 * nI (x - a) + q.1 49 3 * nI (a - x)) = coT q.1 x i := by
      unfold coT
      rw [ea, clN (by omega)]
    simp only [inbN hi8 (show 8 ≤ 2 ^ 31 by omega), ck_t, clN (show i < 2 ^ 31 by omega), rm63 hM hi8, rm64 hM hi8, ea, ib3, cl3, ib2, cl2, rm49 hM (show 3 < 7 by omega), rm49 hM (show 2 < 7 by omega), nI_1]
    by_cases h : x ≤ a
    · rw [if_pos (Int32.le_iff_toInt_le.mpr (by rw [pk_sub_toInt (by omega) (by omega)]; show _ ≤ (0 : Int); omega))]
      have e1 : nI x - nI a = -nI (a - x) := by rw [← Int32.neg_sub, pk_sub h]
      rw [show x - a = 0 by omega, show nI 0 = (0 : Int32) from rfl, Int32.mul_zero, Int32.zero_add] at et
      rw [e1, show -q.1 49 3 * -nI (a - x) = q.1 49 3 * nI (a - x) by rw [Int32.neg_mul, Int32.mul_neg, Int32.neg_neg], et]
      exact hI
    · rw [if_neg (fun z => by
        have := Int32.le_iff_toInt_le.mp z
        rw [pk_sub_toInt (by omega) (by omega)] at this
        have h2 : (x : Int) - a ≤ 0 := this
        omega)]
      rw [show a - x = 0 by omega, show nI 0 = (0 : Int32) from rfl, Int32.mul_zero, Int32.add_zero] at et
      rw [pk_sub (by omega), et]
      exact hI
def coV (w : Vw) (F x : Nat) : Int32 := coG w x F 0 0
theorem cX {q : St} {M : mh_M} (hX : XS q M) {n : Nat} (hn : 20 ≤ n) {x F : Nat} (hx : x ≤ 200) (hF : q.1 40 21 = nI F) (hF8 : F ≤ 8) (i4 : ∀ j, j < F → ∃ a : Nat, a ≤ 200 ∧ q.1 63 j = nI a) : fX3_costOf n M (nI x) (q.1 49 2) (q.1 49 3) = some (coV q.1 F x) :=
  co_X hX n hx hF hF8 i4 F 0 n 0 (by omega) (by omega)
theorem cM {q : St} {M : mh_M} (hM : MS q M) {n : Nat} (hn : 20 ≤ n) {x F : Nat} (hx : x ≤ 200) (hF : q.1 40 21 = nI F) (hF8 : F ≤ 8) (i4 : ∀ j, j < F → ∃ a : Nat, a ≤ 200 ∧ q.1 63 j = nI a) : fX10_costOf n M (nI x) = some (coV q.1 F x) :=
  co_M hM n hx hF hF8 i4 F 0 n 0 (by omega) (by omega)
def parF (f : Nat → Int32) : Nat → Nat → Nat → Nat
  | 0, _, b => b
  | d + 1, x, b => parF f d (x + 1) (if f b ≤ f x then b else x)
theorem par_X {q : St} {M : mh_M} (hX : XS q M) {n : Nat} (hn : 20 ≤ n) {F : Nat} (hF : q.1 40 21 = nI F) (hF8 : F ≤ 8) (i4 : ∀ j, j < F → ∃ a : Nat, a ≤ 200 ∧ q.1 63 j = nI a) : ∀ (d x b k : Nat), x + d = 201 → b ≤ 200 → d < k →
    itr3 (fX3_par_L14 n M (q.1 49 2) (q.1 49 3)) k (nI b) (coV q.1 F b) (nI x) = some (nI (parF (coV q.1 F) d x b)) := by
  intro d
  induction d with
  | zero =>
    intro x b k hi hb hk
    obtain ⟨k, rfl⟩ : ∃ m, k = m + 1 := ⟨k - 1, by omega⟩
    show fX3_par_L14 n M (q.1 49 2) (q.1 49 3) (itr3 (fX3_par_L14 n M (q.1 49 2) (q.1 49 3)) k) (nI b) (coV q.1 F b) (nI x) = _
    unfold fX3_par_L14
    rw [if_pos (show (200 : Int32) < nI x from nlt (a := 200) (by omega) (by omega))]
    rfl
  | succ d ih =>
    intro x b k hi hb hk
    obtain ⟨k, rfl⟩ : ∃ m, k = m + 1 := ⟨k - 1, by omega⟩
    have hI := fun b hb => ih (x + 1) b k (by omega) hb (by omega)
    show fX3_par_L14 n M (q.1 49 2) (q.1 49 3) (itr3 (fX3_par_L14 n M (q.1 49 2) (q.1 49 3)) k) (nI b) (coV q.1 F b) (nI x) = some (nI (parF (coV q.1 F) d (x + 1) (if coV q.1 F b ≤ coV q.1 F x then b else x)))
    generalize itr3 (fX3_par_L14 n M (q.1 49 2) (q.1 49 3)) k = rec at hI ⊢
    unfold fX3_par_L14
    rw [if_neg (show ¬ (200 : Int32) < nI x from nnlt (a := 200) (by omega) (by omega)), cX hX hn (x := x) (by omega) hF hF8 i4]
    simp only [bd_some, pl_e, nI_1]
    by_cases h : coV q.1 F b ≤ coV q.1 F x
    · simp only [if_pos h]
      exact hI b hb
    · simp only [if_neg h]
      exact hI x (by omega)
theorem par_M {q : St} {M : mh_M} (hM : MS q M) {n : Nat} (hn : 20 ≤ n) {F : Nat} (hF : q.1 40 21 = nI F) (hF8 : F ≤ 8) (i4 : ∀ j, j < F → ∃ a : Nat, a ≤ 200 ∧ q.1 63 j = nI a) : ∀ (d x b k : Nat), x + d = 201 → b ≤ 200 → d < k →
    itr2 (fX10_press_L37 n M) k (nI b) (nI x) = some (nI (parF (coV q.1 F) d x b)) := by
  intro d
  induction d with
  | zero =>
    intro x b k hi hb hk
    obtain ⟨k, rfl⟩ : ∃ m, k = m + 1 := ⟨k - 1, by omega⟩
    show fX10_press_L37 n M (itr2 (fX10_press_L37 n M) k) (nI b) (nI x) = _
    unfold fX10_press_L37
    rw [if_pos (show (200 : Int32) < nI x from nlt (a := 200) (by omega) (by omega))]
    rfl
  | succ d ih =>
    intro x b k hi hb hk
    obtain ⟨k, rfl⟩ : ∃ m, k = m + 1 := ⟨k - 1, by omega⟩
    have hI := fun b hb => ih (x + 1) b k (by omega) hb (by omega)
    show fX10_press_L37 n M (itr2 (fX10_press_L37 n M) k) (nI b) (nI x) = some (nI (parF (coV q.1 F) d (x + 1) (if coV q.1 F b ≤ coV q.1 F x then b else x)))
    generalize itr2 (fX10_press_L37 n M) k = rec at hI ⊢
    unfold fX10_press_L37
    rw [if_neg (show ¬ (200 : Int32) < nI x from nnlt (a := 200) (by omega) (by omega)), cM hM hn (x := x) (by omega) hF hF8 i4, cM hM hn (x := b) (by omega) hF hF8 i4]
    simp only [bd_some, pl_e, nI_1]
    by_cases h : coV q.1 F b ≤ coV q.1 F x
    · simp only [if_pos h]
      exact hI b hb
    · simp only [if_neg h]
      exact hI x (by omega)
theorem s_press {c : Nat} {q : St} {M M' : mh_M} (hX : XS q M) (hM : MS q M') (hI : Inv c q) (n : Nat) (hnn : 300 ≤ n) (a0 : Int32) : BothP (fX9_press n M a0) (fX10_press n M' a0) := by
  unfold fX9_press fX10_press
  obtain ⟨K, Rc, T, A, FT, PR, DL, hn, hb, i1, i2, i3, i4, i5, i6, i7⟩ := id hI
  have hF := hn.2.2.2.2.1
  have hF8 : FT ≤ 8 := hb.2.2.2.2.1
  simp only [pl_e]
  rw [(rXc21 hX), (rmc21 hM)]
  by_cases h0 : q.1 40 21 = 0
  · exact ⟨_, if_pos h0, if_pos h0⟩
  simp only [if_neg h0, eX_isIn, eM_in, bd_some, b01, ib2, ib3, cl2, cl3, ck_t, rX3 hX (show 2 < 7 by omega), rX3 hX (show 3 < 7 by omega)]
  by_cases h1 : (-1 : Int32) ≤ a0 ∧ a0 ≤ 200
  case neg => exact ⟨_, if_neg h1, if_neg h1⟩
  simp only [if_pos h1]
  by_cases h2 : a0 = -1
  · subst h2
    simp only [if_true, if_pos (show (-1 : Int32) < 0 by decide)]
    have e0 := cX hX (n := n) (by omega) (x := 0) (by omega) hF hF8 i4
    refine ⟨nI (parF (coV q.1 FT) 200 1 0), ?_, par_M hM (n := n) (by omega) hF hF8 i4 200 1 0 n (by omega) (by omega) (by omega)⟩
    unfold fX3_par
    rw [show (0 : Int32) = nI 0 from rfl, e0]
    simp only [bd_some]
    rw [show (1 : Int32) = nI 1 from rfl, par_X hX (n := n) (by omega) hF hF8 i4 200 1 0 n (by omega) (by omega) (by omega)]
    rfl
  · have h3 : 0 ≤ a0 := by
      have z1 := Int32.le_iff_toInt_le.mp h1.1
      have z2 : a0.toInt ≠ (-1 : Int32).toInt := fun z => h2 (Int32.toInt_inj.mp z)
      have z3 : (-1 : Int32).toInt = -1 := by decide
      rw [z3] at z1 z2
      apply Int32.le_iff_toInt_le.mpr
      show (0 : Int) ≤ _
      omega
    obtain ⟨x, hx, rfl⟩ := gIn (m := 200) (by omega) ⟨h3, h1.2⟩
    simp only [if_neg h2, if_neg (Int32.not_lt.mpr h3), cX hX (n := n) (by omega) hx hF hF8 i4, cM hM (n := n) (by omega) hx hF hF8 i4, bd_some]
    exact ⟨_, rfl, rfl⟩
