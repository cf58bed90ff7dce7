/-! ===== what can be made: makes, fewest, most, both sides ===== -/
theorem shK : ∀ K, K < 11 → (1 : Int32) <<< (nI K &&& 31) = nI (2 ^ K) := by decide +kernel
theorem p2K : ∀ K, K < 11 → 1 ≤ 2 ^ K ∧ 2 ^ K ≤ 1024 := by decide +kernel
theorem shK1 {K : Nat} (h : K ≤ 10) : (1 : Int32) <<< (nI K &&& 31) - 1 = nI (2 ^ K - 1) := by
  have := p2K K (by omega)
  rw [shK K (by omega), litN 1]
  exact pk_sub (by omega)
def ndF (w : Vw) (r : Nat) : Nat → Int32
  | 0 => 0
  | i + 1 => if 0 < w 47 (10 * r + i) then ndF w r i ||| (1 : Int32) <<< (nI i &&& 31) else ndF w r i
theorem bt_1 : ∀ k, k < 32 → bt 1 k = decide (k = 0) := by decide +kernel
theorem ndF_bt {w : Vw} {r : Nat} : ∀ i, i ≤ 10 → ∀ j, j < 32 → bt (ndF w r i) j = (decide (j < i) && decide (0 < w 47 (10 * r + j))) := by
  intro i
  induction i with
  | zero => intro hi j hj; show bt 0 j = _; rw [b_0]; simp
  | succ i ih =>
    intro hi j hj
    have h := ih (by omega) j hj
    unfold ndF
    by_cases hp : 0 < w 47 (10 * r + i)
    · rw [if_pos hp, b_or, h, b_shl i (by omega) 1 hj]
      by_cases h1 : j < i
      · simp [h1, show ¬ i ≤ j by omega, show j < i + 1 by omega]
      · rw [bt_1 (j - i) (by omega)]
        by_cases h2 : j = i
        · subst h2
          simp [hp]
        · simp [h1, show ¬ j < i + 1 by omega, show ¬ j - i = 0 by omega]
    · rw [if_neg hp, h]
      by_cases h2 : j = i
      · subst h2
        simp [hp]
      · have : (j < i + 1) = (j < i) := propext ⟨fun z => by omega, fun z => by omega⟩
        simp only [this]
theorem nd_X {q : St} {M : mh_M} (hX : XS q M) {K r : Nat} (hK : K ≤ 10) (hr : r < 12) (i2 : ∀ k, k < 10 → ∃ p : Nat, p ≤ 20 ∧ q.1 47 (10 * r + k) = nI p ∧ (K ≤ k → p = 0)) : M 23 r 2 = ndF q.1 r K := by
  apply b_ext
  intro j hj
  rw [hX.2.2.2 r hr j hj, ndF_bt K hK j hj]
  by_cases h1 : j < 10
  · by_cases h2 : j < K
    · simp [h1, h2]
    · obtain ⟨p, -, e, hp⟩ := i2 j h1
      rw [hp (by omega)] at e
      simp [h2, e, show ¬ (0 : Int32) < nI 0 by decide]
  · simp [h1, show ¬ j < K by omega]
abbrev canP (nd s : Int32) : Prop := ¬ nd = 0 ∧ nd &&& (s ^^^ (-1 : Int32)) = 0
theorem eX_can (n : Nat) (M : mh_M) {r : Nat} {nd : Int32} (h : M 23 r 2 = nd) (s : Int32) : fX6_canBeMadeBy n M r s = some (if canP nd s then 1 else 0) := by
  unfold fX6_canBeMadeBy canP
  simp only [pl_e, h]
  by_cases h1 : nd = 0
  · simp [h1]
  · by_cases h2 : nd &&& (s ^^^ (-1 : Int32)) = 0
    · rw [if_neg h1, if_pos h2, if_pos ⟨h1, h2⟩]
    · rw [if_neg h1, if_neg h2, if_neg (fun z => h2 z.2)]
def mbF (w : Vw) (K : Nat) (s : Int32) : Nat → Nat → Nat → Nat
  | 0, _, acc => acc
  | d + 1, r, acc => mbF w K s d (r + 1) (if canP (ndF w r K) s then acc + 1 else acc)
theorem mb_X {q : St} {M : mh_M} (hX : XS q M) (n : Nat) {K R : Nat} (hK : K ≤ 10) (hR : q.1 40 4 = nI R) (hR12 : R ≤ 12) (i2 : ∀ r, r < 12 → ∀ k, k < 10 → ∃ p : Nat, p ≤ 20 ∧ q.1 47 (10 * r + k) = nI p ∧ (K ≤ k → p = 0)) (s : Int32) : ∀ (d r k acc : Nat), r + d = R → d < k →
    itr2 (fX9_madeBy_L4 n M s) k (nI acc) (nI r) = some (nI (mbF q.1 K s d r acc)) := by
  intro d
  induction d with
  | zero =>
    intro r k acc hr hk
    obtain ⟨k, rfl⟩ : ∃ m, k = m + 1 := ⟨k - 1, by omega⟩
    show fX9_madeBy_L4 n M s (itr2 (fX9_madeBy_L4 n M s) k) (nI acc) (nI r) = _
    unfold fX9_madeBy_L4
    simp only [pl_e, (rXc4 hX).trans hR]
    rw [if_pos ((nI_leI (by omega) (by omega)).mpr (by omega))]
    rfl
  | succ d ih =>
    intro r k acc hr hk
    obtain ⟨k, rfl⟩ : ∃ m, k = m + 1 := ⟨k - 1, by omega⟩
    have hI := fun acc => ih (r + 1) k acc (by omega) (by omega)
    have hr12 : r < 12 := by omega
    show fX9_madeBy_L4 n M s (itr2 (fX9_madeBy_L4 n M s) k) (nI acc) (nI r) = some (nI (mbF q.1 K s d (r + 1) (if canP (ndF q.1 r K) s then acc + 1 else acc)))
    generalize itr2 (fX9_madeBy_L4 n M s) k = rec at hI ⊢
    unfold fX9_madeBy_L4
    simp only [pl_e, (rXc4 hX).trans hR]
    rw [if_neg (fun z => absurd ((nI_leI (by omega) (by omega)).mp z) (by omega))]
    simp only [inbN hr12 (show 12 ≤ 2 ^ 31 by omega), ck_t, clN (show r < 2 ^ 31 by omega), eX_can n M (nd_X hX hK hr12 (i2 r hr12)) s, bd_some, b01, nI_1]
    by_cases h : canP (ndF q.1 r K) s
    · simp only [if_pos h]
      exact hI (acc + 1)
    · simp only [if_neg h]
      exact hI acc
theorem nd_M {q : St} {M : mh_M} (hM : MS q M) (n : Nat) (s : Int32) {K r acc : Nat} (hK : q.1 40 0 = nI K) (hK10 : K ≤ 10) (hr : r < 12) (k4 : Int32 → Int32 → Option Int32) : ∀ (d i k : Nat), i + d = K → d < k →
    itr2 (fX10_madeBy_L18 n M s (nI acc) (nI r) k4) k (ndF q.1 r i) (nI i) = k4 (nI (if canP (ndF q.1 r K) s then acc + 1 else acc)) (nI (r + 1)) := by
  intro d
  induction d with
  | zero =>
    intro i k hi hk
    obtain ⟨k, rfl⟩ : ∃ m, k = m + 1 := ⟨k - 1, by omega⟩
    obtain rfl : i = K := by omega
    show fX10_madeBy_L18 n M s (nI acc) (nI r) k4 (itr2 (fX10_madeBy_L18 n M s (nI acc) (nI r) k4) k) (ndF q.1 r i) (nI i) = _
    generalize itr2 (fX10_madeBy_L18 n M s (nI acc) (nI r) k4) k = rec
    unfold fX10_madeBy_L18 canP
    simp only [pl_e, (rmc0 hM).trans hK]
    rw [if_pos ((nI_leI (by omega) (by omega)).mpr (by omega))]
    simp only [Int32.add_zero, nI_1]
    by_cases h1 : ndF q.1 r i = 0
    · simp [h1]
    · by_cases h2 : ndF q.1 r i &&& (s ^^^ (-1 : Int32)) = 0
      · rw [if_neg h1, if_pos h2, if_pos ⟨h1, h2⟩]
      · rw [if_neg h1, if_neg h2, if_neg (fun z => h2 z.2)]
  | succ d ih =>
    intro i k hi hk
    obtain ⟨k, rfl⟩ : ∃ m, k = m + 1 := ⟨k - 1, by omega⟩
    have hI := ih (i + 1) k (by omega) (by omega)
    have hj : 10 * r + i < 120 := by omega
    show fX10_madeBy_L18 n M s (nI acc) (nI r) k4 (itr2 (fX10_madeBy_L18 n M s (nI acc) (nI r) k4) k) (ndF q.1 r i) (nI i) = _
    generalize itr2 (fX10_madeBy_L18 n M s (nI acc) (nI r) k4) k = rec at hI ⊢
    unfold fX10_madeBy_L18
    simp only [pl_e, (rmc0 hM).trans hK]
    rw [if_neg (fun z => absurd ((nI_leI (by omega) (by omega)).mp z) (by omega))]
    simp only [ix10, inbN hj (show 120 ≤ 2 ^ 31 by omega), ck_t, clN (show 10 * r + i < 2 ^ 31 by omega), rm47 hM hj, nI_1, Int32.or_zero]
    rw [show ndF q.1 r (i + 1) = if 0 < q.1 47 (10 * r + i) then ndF q.1 r i ||| (1 : Int32) <<< (nI i &&& 31) else ndF q.1 r i from rfl] at hI
    by_cases h : 0 < q.1 47 (10 * r + i)
    · rw [if_neg (Int32.not_le.mpr h)]
      rw [if_pos h] at hI
      exact hI
    · rw [if_pos (Int32.not_lt.mp h)]
      rw [if_neg h] at hI
      exact hI
theorem mb_M {q : St} {M : mh_M} (hM : MS q M) {n : Nat} (hn : 20 ≤ n) {K R : Nat} (hK : q.1 40 0 = nI K) (hK10 : K ≤ 10) (hR : q.1 40 4 = nI R) (hR12 : R ≤ 12) (s : Int32) : ∀ (d r k acc : Nat), r + d = R → d < k →
    itr2 (fX10_madeBy_L4 n M s) k (nI acc) (nI r) = some (nI (mbF q.1 K s d r acc)) := by
  intro d
  induction d with
  | zero =>
    intro r k acc hr hk
    obtain ⟨k, rfl⟩ : ∃ m, k = m + 1 := ⟨k - 1, by omega⟩
    show fX10_madeBy_L4 n M s (itr2 (fX10_madeBy_L4 n M s) k) (nI acc) (nI r) = _
    unfold fX10_madeBy_L4
    simp only [pl_e, (rmc4 hM).trans hR]
    rw [if_pos ((nI_leI (by omega) (by omega)).mpr (by omega))]
    rfl
  | succ d ih =>
    intro r k acc hr hk
    obtain ⟨k, rfl⟩ : ∃ m, k = m + 1 := ⟨k - 1, by omega⟩
    have hI := fun acc => ih (r + 1) k acc (by omega) (by omega)
    have hr12 : r < 12 := by omega
    show fX10_madeBy_L4 n M s (itr2 (fX10_madeBy_L4 n M s) k) (nI acc) (nI r) = some (nI (mbF q.1 K s d (r + 1) (if canP (ndF q.1 r K) s then acc + 1 else acc)))
    generalize itr2 (fX10_madeBy_L4 n M s) k = rec at hI ⊢
    unfold fX10_madeBy_L4
    simp only [pl_e, (rmc4 hM).trans hR]
    rw [if_neg (fun z => absurd ((nI_leI (by omega) (by omega)).mp z) (by omega))]
    exact (nd_M hM n s hK hK10 hr12 rec K 0 n (by omega) (by omega)).trans (hI _)
def mbV (w : Vw) (K R : Nat) (s : Int32) : Nat := mbF w K s R 0 0
theorem eX_mb {q : St} {M : mh_M} (hX : XS q M) {n : Nat} (hn : 20 ≤ n) {K R : Nat} (hK : K ≤ 10) (hR : q.1 40 4 = nI R) (hR12 : R ≤ 12) (i2 : ∀ r, r < 12 → ∀ k, k < 10 → ∃ p : Nat, p ≤ 20 ∧ q.1 47 (10 * r + k) = nI p ∧ (K ≤ k → p = 0)) (s : Int32) : fX9_madeBy n M s = some (nI (mbV q.1 K R s)) :=
  mb_X hX n hK hR hR12 i2 s R 0 n 0 (by omega) (by omega)
theorem eM_mb {q : St} {M : mh_M} (hM : MS q M) {n : Nat} (hn : 20 ≤ n) {K R : Nat} (hK : q.1 40 0 = nI K) (hK10 : K ≤ 10) (hR : q.1 40 4 = nI R) (hR12 : R ≤ 12) (s : Int32) : fX10_madeBy n M s = some (nI (mbV q.1 K R s)) :=
  mb_M hM hn hK hK10 hR hR12 s R 0 n 0 (by omega) (by omega)
theorem mbF_le {w : Vw} {K : Nat} {s : Int32} : ∀ d r acc, mbF w K s d r acc ≤ acc + d := by
  intro d
  induction d with
  | zero => intro r acc; exact Nat.le_refl _
  | succ d ih =>
    intro r acc
    have := ih (r + 1) (if canP (ndF w r K) s then acc + 1 else acc)
    unfold mbF
    by_cases z : canP (ndF w r K) s
    · simp only [if_pos z] at this ⊢
      omega
    · simp only [if_neg z] at this ⊢
      omega
theorem mbV_le {w : Vw} {K R : Nat} {s : Int32} (h : R ≤ 12) : mbV w K R s ≤ 12 := by
  have := mbF_le (w := w) (K := K) (s := s) R 0 0
  unfold mbV
  omega
theorem eX_ak {q : St} {M : mh_M} (hX : XS q M) (n : Nat) {K : Nat} (hK : q.1 40 0 = nI K) (hK10 : K ≤ 10) : fX9_allKinds n M = some (nI (2 ^ K - 1)) := by
  unfold fX9_allKinds
  simp only [pl_e, (rXc0 hX).trans hK, shK1 hK10]
theorem s_makes {c : Nat} {q : St} {M M' : mh_M} (hX : XS q M) (hM : MS q M') (hI : Inv c q) (n : Nat) (hnn : 300 ≤ n) (a0 : Int32) : BothP (fX9_makes n M a0) (fX10_makes n M' a0) := by
  unfold fX9_makes fX10_makes
  obtain ⟨K, Rc, T, A, FT, PR, DL, hn, hb, i1, i2, i3, i4, i5, i6, i7⟩ := id hI
  simp only [eX_ak hX n hn.1 hb.1, bd_some, pl_e, (rmc0 hM).trans hn.1, shK1 hb.1, eX_isIn, eM_in, b01, eX_mb hX (n := n) (by omega) hb.1 hn.2.1 hb.2.1 i2, eM_mb hM (n := n) (by omega) hn.1 hb.1 hn.2.1 hb.2.1]
  by_cases h : 0 ≤ a0 ∧ a0 ≤ nI (2 ^ K - 1)
  · exact ⟨_, if_pos h, if_pos h⟩
  · exact ⟨_, if_neg h, if_neg h⟩
def biF (x : Int32) : Nat → Nat → Int32 → Int32
  | 0, _, acc => acc
  | d + 1, i, acc => biF x d (i + 1) (acc + (x >>> (nI i &&& 31) &&& 1))
def biV (x : Nat) : Int32 := biF (nI x) 10 0 0
theorem bi_M (n : Nat) (M : mh_M) (x : Int32) : ∀ (d i k : Nat) (acc : Int32), i + d = 10 → d < k → itr2 (fX10_bits_L4 n M x) k acc (nI i) = some (biF x d i acc) := by
  intro d
  induction d with
  | zero =>
    intro i k acc hi hk
    obtain ⟨k, rfl⟩ : ∃ m, k = m + 1 := ⟨k - 1, by omega⟩
    obtain rfl : i = 10 := by omega
    rfl
  | succ d ih =>
    intro i k acc hi hk
    obtain ⟨k, rfl⟩ : ∃ m, k = m + 1 := ⟨k - 1, by omega⟩
    have hI := fun acc => ih (i + 1) k acc (by omega) (by omega)
    show fX10_bits_L4 n M x (itr2 (fX10_bits_L4 n M x) k) acc (nI i) = some (biF x d (i + 1) (acc + (x >>> (nI i &&& 31) &&& 1)))
    generalize itr2 (fX10_bits_L4 n M x) k = rec at hI ⊢
    unfold fX10_bits_L4
    rw [if_neg (show ¬ (10 : Int32) ≤ nI i from fun z => absurd ((nI_leI (a := 10) (by omega) (by omega)).mp z) (by omega))]
    simp only [pl_e, nI_1]
    exact hI _
theorem eM_bi {n : Nat} (hn : 20 ≤ n) (M : mh_M) (x : Nat) : fX10_bits n M (nI x) = some (biV x) := bi_M n M (nI x) 10 0 n 0 (by omega) (by omega)
set_option maxRecDepth 100000 in
theorem bc_all : ∀ x, x < 1024 → fJ6_bitCount_0f7a4 0 (fun _ _ _ => 0) (nI x) = some (biV x) := by decide +kernel
theorem eX_bi (n : Nat) (M : mh_M) {x : Nat} (hx : x < 1024) : fJ6_bitCount_0f7a4 n M (nI x) = some (biV x) := bc_all x hx
theorem bi_full : ∀ k, k < 11 → biV (2 ^ k - 1) = nI k := by decide +kernel
def enc (z : Int32) : Option Nat → Int32
  | none => z
  | some y => nI y
def fwF (mb : Nat → Nat) (m : Nat) : Nat → Nat → Option Nat → Option Nat
  | 0, _, b => b
  | d + 1, x, b => fwF mb m d (x + 1) (match b with
    | none => if mb x < m then none else some x
    | some y => if biV y ≤ biV x then some y else if mb x < m then some y else some x)
theorem enc_neg {y : Nat} (h : y ≤ 1023) : ¬ nI y = (-4 : Int32) := fun z => by
  have e := congrArg Int32.toInt z
  rw [nI_toInt (by omega), show (-4 : Int32).toInt = -4 by decide] at e
  omega
theorem fw_X {q : St} {M : mh_M} (hX : XS q M) {n : Nat} (hn : 20 ≤ n) {K R : Nat} (hK0 : q.1 40 0 = nI K) (hK : K ≤ 10) (hR : q.1 40 4 = nI R) (hR12 : R ≤ 12) (i2 : ∀ r, r < 12 → ∀ k, k < 10 → ∃ p : Nat, p ≤ 20 ∧ q.1 47 (10 * r + k) = nI p ∧ (K ≤ k → p = 0)) {m : Nat} (hm : m ≤ 12) : ∀ (d x k : Nat) (b : Option Nat), x + d = 2 ^ K → (∀ y, b = some y → y ≤ 1023) → d < k →
    itr2 (fX9_fewest_L17 n M (nI m)) k (enc (-4) b) (nI x) = some (enc (-4) (fwF (fun x => mbV q.1 K R (nI x)) m d x b)) := by
  have hp := p2K K (by omega)
  intro d
  induction d with
  | zero =>
    intro x k b hx hb hk
    obtain ⟨k, rfl⟩ : ∃ m, k = m + 1 := ⟨k - 1, by omega⟩
    show fX9_fewest_L17 n M (nI m) (itr2 (fX9_fewest_L17 n M (nI m)) k) (enc (-4) b) (nI x) = _
    unfold fX9_fewest_L17
    rw [eX_ak hX n hK0 hK]
    simp only [bd_some]
    rw [if_pos (nlt (by omega) (by omega))]
    rfl
  | succ d ih =>
    intro x k b hx hb hk
    obtain ⟨k, rfl⟩ : ∃ m, k = m + 1 := ⟨k - 1, by omega⟩
    have hI := fun b hb => ih (x + 1) k b (by omega) hb (by omega)
    have h1 : ∀ y, (none : Option Nat) = some y → y ≤ 1023 := fun y z => nomatch z
    have h2 : ∀ y, some x = some y → y ≤ 1023 := fun y z => by cases z; omega
    unfold fwF
    show fX9_fewest_L17 n M (nI m) (itr2 (fX9_fewest_L17 n M (nI m)) k) (enc (-4) b) (nI x) = _
    generalize itr2 (fX9_fewest_L17 n M (nI m)) k = rec at hI ⊢
    unfold fX9_fewest_L17
    rw [eX_ak hX n hK0 hK]
    simp only [bd_some]
    rw [if_neg (nnlt (by omega) (by omega))]
    have hmb := mbV_le (w := q.1) (K := K) (s := nI x) hR12
    cases b with
    | none =>
      simp only [enc, if_true, z10, if_false, eX_mb hX (n := n) (by omega) hK hR hR12 i2, bd_some, pl_e, nI_1, ltN (show mbV q.1 K R (nI x) < 2 ^ 31 by omega) (show m < 2 ^ 31 by omega)]
      by_cases h : mbV q.1 K R (nI x) < m
      · simp only [if_pos h]
        exact hI none h1
      · simp only [if_neg h]
        exact hI (some x) h2
    | some y =>
      have hy := hb y rfl
      have hI3 := hI (some y) hb
      have hI4 := hI (some x) h2
      simp only [enc] at hI3 hI4 ⊢
      simp only [if_neg (enc_neg hy), z10, if_false, eX_bi n M (show y < 1024 by omega), eX_bi n M (show x < 1024 by omega), eX_mb hX (n := n) (by omega) hK hR hR12 i2, bd_some, pl_e, nI_1, ltN (show mbV q.1 K R (nI x) < 2 ^ 31 by omega) (show m < 2 ^ 31 by omega), if_true]
      by_cases h5 : biV y ≤ biV x
      · simp only [if_pos h5]
        exact hI3
      · simp only [if_neg h5]
        by_cases h : mbV q.1 K R (nI x) < m
        · simp only [if_pos h]
          exact hI3
        · simp only [if_neg h]
          exact hI4
theorem fw_M {q : St} {M : mh_M} (hM : MS q M) {n : Nat} (hn : 20 ≤ n) {K R : Nat} (hK0 : q.1 40 0 = nI K) (hK : K ≤ 10) (hR : q.1 40 4 = nI R) (hR12 : R ≤ 12) {m : Nat} (hm : m ≤ 12) : ∀ (d x k : Nat) (b : Option Nat), x + d = 2 ^ K → (∀ y, b = some y → y ≤ 1023) → d < k →
    itr2 (fX10_fewest_L17 n M (nI m)) k (enc (-4) b) (nI x) = some (enc (-4) (fwF (fun x => mbV q.1 K R (nI x)) m d x b)) := by
  have hp := p2K K (by omega)
  intro d
  induction d with
  | zero =>
    intro x k b hx hb hk
    obtain ⟨k, rfl⟩ : ∃ m, k = m + 1 := ⟨k - 1, by omega⟩
    show fX10_fewest_L17 n M (nI m) (itr2 (fX10_fewest_L17 n M (nI m)) k) (enc (-4) b) (nI x) = _
    unfold fX10_fewest_L17
    simp only [pl_e, (rmc0 hM).trans hK0, shK K (show K < 11 by omega)]
    rw [if_pos ((nI_leI (by omega) (by omega)).mpr (by omega))]
    rfl
  | succ d ih =>
    intro x k b hx hb hk
    obtain ⟨k, rfl⟩ : ∃ m, k = m + 1 := ⟨k - 1, by omega⟩
    have hI := fun b hb => ih (x + 1) k b (by omega) hb (by omega)
    have h1 : ∀ y, (none : Option Nat) = some y → y ≤ 1023 := fun y z => nomatch z
    have h2 : ∀ y, some x = some y → y ≤ 1023 := fun y z => by cases z; omega
    unfold fwF
    show fX10_fewest_L17 n M (nI m) (itr2 (fX10_fewest_L17 n M (nI m)) k) (enc (-4) b) (nI x) = _
    generalize itr2 (fX10_fewest_L17 n M (nI m)) k = rec at hI ⊢
    unfold fX10_fewest_L17
    simp only [pl_e, (rmc0 hM).trans hK0, shK K (show K < 11 by omega)]
    rw [if_neg (fun z => absurd ((nI_leI (by omega) (by omega)).mp z) (by omega))]
    have hmb := mbV_le (w := q.1) (K := K) (s := nI x) hR12
    cases b with
    | none =>
      simp only [enc, if_pos (show (-4 : Int32) < 0 by decide), eM_mb hM (n := n) (by omega) hK0 hK hR hR12, bd_some, pl_e, nI_1, ltN (show mbV q.1 K R (nI x) < 2 ^ 31 by omega) (show m < 2 ^ 31 by omega)]
      by_cases h : mbV q.1 K R (nI x) < m
      · simp only [if_pos h]
        exact hI none h1
      · simp only [if_neg h]
        exact hI (some x) h2
    | some y =>
      have hy := hb y rfl
      have hI3 := hI (some y) hb
      have hI4 := hI (some x) h2
      simp only [enc] at hI3 hI4 ⊢
      simp only [if_neg (nI_pos (show y < 2 ^ 31 by omega)), eM_bi hn, eM_mb hM (n := n) (by omega) hK0 hK hR hR12, bd_some, pl_e, nI_1, ltN (show mbV q.1 K R (nI x) < 2 ^ 31 by omega) (show m < 2 ^ 31 by omega)]
      by_cases h5 : biV y ≤ biV x
      · simp only [if_pos h5]
        exact hI3
      · simp only [if_neg h5]
        by_cases h : mbV q.1 K R (nI x) < m
        · simp only [if_pos h]
          exact hI3
        · simp only [if_neg h]
          exact hI4
theorem s_fewest {c : Nat} {q : St} {M M' : mh_M} (hX : XS q M) (hM : MS q M') (hI : Inv c q) (n : Nat) (hnn : 1030 ≤ n) (a0 : Int32) : BothP (fX9_fewest n M a0) (fX10_fewest n M' a0) := by
  unfold fX9_fewest fX10_fewest
  obtain ⟨K, Rc, T, A, FT, PR, DL, hn, hb, i1, i2, i3, i4, i5, i6, i7⟩ := id hI
  have hp := p2K K (by omega)
  simp only [eX_isIn, eM_in, bd_some, b01]
  by_cases h1 : (1 : Int32) ≤ a0 ∧ a0 ≤ 12
  case neg => exact ⟨_, if_neg h1, if_neg h1⟩
  simp only [if_pos h1]
  obtain ⟨m, hm, rfl⟩ := gIn (m := 12) (by omega) ⟨Int32.le_trans (by decide) h1.1, h1.2⟩
  exact ⟨_, fw_X hX (n := n) (by omega) hn.1 hb.1 hn.2.1 hb.2.1 i2 hm (2 ^ K) 0 n none (by omega) (fun y z => nomatch z) (by omega), fw_M hM (n := n) (by omega) hn.1 hb.1 hn.2.1 hb.2.1 hm (2 ^ K) 0 n none (by omega) (fun y z => nomatch z) (by omega)⟩
/-- the most: a place and its number; none told yet -/
def moF (mb : Nat → Nat) (m : Int32) : Nat → Nat → Option (Nat × Nat) → Option (Nat × Nat)
  | 0, _, b => b
  | d + 1, x, b => moF mb m d (x + 1) (if biV x = m then (match b with
    | none => some (x, mb x)
    | some y => if mb x ≤ y.2 then some y else some (x, mb x)) else b)
def en1 (z : Int32) : Option (Nat × Nat) → Int32
  | none => z
  | some y => nI y.1
def en2 : Option (Nat × Nat) → Int32
  | none => -1
  | some y => nI y.2
theorem moF_some {mb : Nat → Nat} {m : Int32} : ∀ d x b, (b ≠ none ∨ ∃ y, x ≤ y ∧ y < x + d ∧ biV y = m) → moF mb m d x b ≠ none := by
  intro d
  induction d with
  | zero => intro x b h; rcases h with h | ⟨y, h1, h2, -⟩; exact h; omega
  | succ d ih =>
    intro x b h
    unfold moF
    apply ih
    by_cases hx : biV x = m
    · left
      rw [if_pos hx]
      cases b with
      | none => simp
      | some y => dsimp only; split <;> simp
    · rw [if_neg hx]
      rcases h with h | ⟨y, h1, h2, h3⟩
      · exact Or.inl h
      · by_cases hy : y = x
        · subst hy
          exact absurd h3 hx
        · exact Or.inr ⟨y, by omega, by omega, h3⟩
theorem m1_le {y : Nat} (h : y ≤ 12) : (-1 : Int32) ≤ nI y ∧ ¬ nI y ≤ (-1 : Int32) := by
  refine ⟨Int32.le_iff_toInt_le.mpr (by rw [nI_toInt (by omega), show (-1 : Int32).toInt = -1 by decide]; omega), fun z => ?_⟩
  have := Int32.le_iff_toInt_le.mp z
  rw [nI_toInt (by omega), show (-1 : Int32).toInt = -1 by decide] at this
  omega
theorem mo_X {q : St} {M : mh_M} (hX : XS q M) {n : Nat} (hn : 20 ≤ n) {K R : Nat} (hK0 : q.1 40 0 = nI K) (hK : K ≤ 10) (hR : q.1 40 4 = nI R) (hR12 : R ≤ 12) (i2 : ∀ r, r < 12 → ∀ k, k < 10 → ∃ p : Nat, p ≤ 20 ∧ q.1 47 (10 * r + k) = nI p ∧ (K ≤ k → p = 0)) {m : Int32} : ∀ (d x k : Nat) (b : Option (Nat × Nat)), x + d = 2 ^ K → (∀ y, b = some y → y.1 ≤ 1023 ∧ y.2 ≤ 12) → d < k →
    itr3 (fX9_most_L21 n M m) k (en1 0 b) (en2 b) (nI x) = some (en1 0 (moF (fun x => mbV q.1 K R (nI x)) m d x b)) := by
  have hp := p2K K (by omega)
  intro d
  induction d with
  | zero =>
    intro x k b hx hb hk
    obtain ⟨k, rfl⟩ : ∃ m, k = m + 1 := ⟨k - 1, by omega⟩
    show fX9_most_L21 n M m (itr3 (fX9_most_L21 n M m) k) (en1 0 b) (en2 b) (nI x) = _
    unfold fX9_most_L21
    rw [eX_ak hX n hK0 hK]
    simp only [bd_some]
    rw [if_pos (nlt (by omega) (by omega))]
    rfl
  | succ d ih =>
    intro x k b hx hb hk
    obtain ⟨k, rfl⟩ : ∃ m, k = m + 1 := ⟨k - 1, by omega⟩
    have hI := fun b hb => ih (x + 1) k b (by omega) hb (by omega)
    have hmb := mbV_le (w := q.1) (K := K) (s := nI x) hR12
    have h2 : ∀ y, some (x, mbV q.1 K R (nI x)) = some y → y.1 ≤ 1023 ∧ y.2 ≤ 12 := fun y z => by cases z; exact ⟨by omega, hmb⟩
    have hI4 := hI (some (x, mbV q.1 K R (nI x))) h2
    have hI3 := hI b hb
    unfold moF
    show fX9_most_L21 n M m (itr3 (fX9_most_L21 n M m) k) (en1 0 b) (en2 b) (nI x) = _
    generalize itr3 (fX9_most_L21 n M m) k = rec at hI3 hI4 ⊢
    unfold fX9_most_L21
    rw [eX_ak hX n hK0 hK]
    simp only [bd_some]
    rw [if_neg (nnlt (by omega) (by omega))]
    simp only [eX_bi n M (show x < 1024 by omega), eX_mb hX (n := n) (by omega) hK hR hR12 i2, bd_some, pl_e, nI_1]
    have hge : (-1 : Int32) ≤ en2 b := by
      cases b with
      | none => exact (by decide : (-1 : Int32) ≤ -1)
      | some y => exact (m1_le (hb y rfl).2).1
    by_cases h : biV x = m
    · simp only [if_pos h]
      cases b with
      | none =>
        simp only [en2]
        refine (if_neg (m1_le hmb).2).trans ?_
        exact hI4
      | some y =>
        simp only [en2, leN (show mbV q.1 K R (nI x) < 2 ^ 31 by omega) (show y.2 < 2 ^ 31 by have := (hb y rfl).2; omega)]
        by_cases h5 : mbV q.1 K R (nI x) ≤ y.2
        · simp only [if_pos h5]
          exact hI3
        · simp only [if_neg h5]
          exact hI4
    · simp only [if_neg h, if_pos hge]
      exact hI3
theorem mo_M {q : St} {M : mh_M} (hM : MS q M) {n : Nat} (hn : 20 ≤ n) {K R : Nat} (hK0 : q.1 40 0 = nI K) (hK : K ≤ 10) (hR : q.1 40 4 = nI R) (hR12 : R ≤ 12) {m : Int32} : ∀ (d x k : Nat) (b : Option (Nat × Nat)), x + d = 2 ^ K → (∀ y, b = some y → y.1 ≤ 1023 ∧ y.2 ≤ 12) → d < k →
    itr3 (fX10_most_L21 n M m) k (en1 (-1) b) (en2 b) (nI x) = some (en1 (-1) (moF (fun x => mbV q.1 K R (nI x)) m d x b)) := by
  have hp := p2K K (by omega)
  intro d
  induction d with
  | zero =>
    intro x k b hx hb hk
    obtain ⟨k, rfl⟩ : ∃ m, k = m + 1 := ⟨k - 1, by omega⟩
    show fX10_most_L21 n M m (itr3 (fX10_most_L21 n M m) k) (en1 (-1) b) (en2 b) (nI x) = _
    unfold fX10_most_L21
    simp only [pl_e, (rmc0 hM).trans hK0, shK K (show K < 11 by omega)]
    rw [if_pos ((nI_leI (by omega) (by omega)).mpr (by omega))]
    rfl
  | succ d ih =>
    intro x k b hx hb hk
    obtain ⟨k, rfl⟩ : ∃ m, k = m + 1 := ⟨k - 1, by omega⟩
    have hI := fun b hb => ih (x + 1) k b (by omega) hb (by omega)
    have hmb := mbV_le (w := q.1) (K := K) (s := nI x) hR12
    have h2 : ∀ y, some (x, mbV q.1 K R (nI x)) = some y → y.1 ≤ 1023 ∧ y.2 ≤ 12 := fun y z => by cases z; exact ⟨by omega, hmb⟩
    have hI4 := hI (some (x, mbV q.1 K R (nI x))) h2
    have hI3 := hI b hb
    unfold moF
    show fX10_most_L21 n M m (itr3 (fX10_most_L21 n M m) k) (en1 (-1) b) (en2 b) (nI x) = _
    generalize itr3 (fX10_most_L21 n M m) k = rec at hI3 hI4 ⊢
    unfold fX10_most_L21
    simp only [pl_e, (rmc0 hM).trans hK0, shK K (show K < 11 by omega)]
    rw [if_neg (fun z => absurd ((nI_leI (by omega) (by omega)).mp z) (by omega))]
    simp only [eM_bi hn, eM_mb hM (n := n) (by omega) hK0 hK hR hR12, bd_some, nI_1]
    by_cases h : biV x = m
    · simp only [if_pos h]
      cases b with
      | none =>
        simp only [en2]
        refine (if_neg (m1_le hmb).2).trans ?_
        exact hI4
      | some y =>
        simp only [en2, leN (show mbV q.1 K R (nI x) < 2 ^ 31 by omega) (show y.2 < 2 ^ 31 by have := (hb y rfl).2; omega)]
        by_cases h5 : mbV q.1 K R (nI x) ≤ y.2
        · simp only [if_pos h5]
          exact hI3
        · simp only [if_neg h5]
          exact hI4
    · simp only [if_neg h]
      exact hI3
theorem s_most {c : Nat} {q : St} {M M' : mh_M} (hX : XS q M) (hM : MS q M') (hI : Inv c q) (n : Nat) (hnn : 1030 ≤ n) (a0 : Int32) : BothP (fX9_most n M a0) (fX10_most n M' a0) := by
  unfold fX9_most fX10_most
  obtain ⟨K, Rc, T, A, FT, PR, DL, hn, hb, i1, i2, i3, i4, i5, i6, i7⟩ := id hI
  have hp := p2K K (by omega)
  simp only [eX_isIn, eM_in, bd_some, b01, pl_e, (rXc0 hX).trans hn.1, (rmc0 hM).trans hn.1]
  by_cases h1 : (0 : Int32) ≤ a0 ∧ a0 ≤ nI K
  case neg => exact ⟨_, if_neg h1, if_neg h1⟩
  simp only [if_pos h1]
  obtain ⟨m, hm, rfl⟩ := gIn (m := K) (by omega) h1
  have eX := mo_X hX (n := n) (by omega) hn.1 hb.1 hn.2.1 hb.2.1 i2 (m := nI m) (2 ^ K) 0 n none (by omega) (fun y z => nomatch z) (by omega)
  have eM := mo_M hM (n := n) (by omega) hn.1 hb.1 hn.2.1 hb.2.1 (m := nI m) (2 ^ K) 0 n none (by omega) (fun y z => nomatch z) (by omega)
  have hs := moF_some (mb := fun x => mbV q.1 K Rc (nI x)) (m := nI m) (2 ^ K) 0 none (Or.inr ⟨2 ^ m - 1, by omega, by
    have := Nat.pow_le_pow_right (show 0 < 2 by omega) hm
    have := p2K m (by omega)
    omega, bi_full m (by omega)⟩)
  refine ⟨_, eX, eM.trans ?_⟩
  cases hz : moF (fun x => mbV q.1 K Rc (nI x)) (nI m) (2 ^ K) 0 none with
  | none => exact absurd hz hs
  | some y => rfl
