/-! ===== buy: the model ===== -/
def MB (w : Vw) (DL i x : Nat) (M0 M : mh_M) : Prop := (∀ t, t ≠ 74 → M t = M0 t) ∧ ∀ i' x', i' ≤ DL → x' < 150 → (i < i' ∨ (i' = i ∧ x' < x)) → M 74 0 (150 * i' + x') = nI (d8 w DL i' x')
theorem MB_up {w : Vw} {DL i x : Nat} {M0 M : mh_M} (h : MB w DL i x M0 M) (hx : x < 150) {v : Int32} (hv : v = nI (d8 w DL i x)) : MB w DL i (x + 1) M0 (mh_up M 74 0 (150 * i + x) v) := by
  obtain ⟨h1, h2⟩ := h
  refine ⟨fun t ht => ?_, fun i' x' hi hx' hc => ?_⟩
  · funext a b
    rw [rd_t ht, h1 t ht]
  · by_cases e : i' = i ∧ x' = x
    · obtain ⟨rfl, rfl⟩ := e
      rw [rd_s, hv]
    · rw [rd_k (by omega)]
      exact h2 i' x' hi hx' (by omega)
theorem MB_next {w : Vw} {DL i : Nat} {M0 M : mh_M} (h : MB w DL (i + 1) 150 M0 M) : MB w DL i 0 M0 M := ⟨h.1, fun i' x' hi hx hc => h.2 i' x' hi hx (by omega)⟩
theorem ix150 (i x : Nat) : (150 : Int32) * nI i + nI x = nI (150 * i + x) := by rw [litN, pk_mul, nI_add]
theorem ix151 (i : Nat) : (150 : Int32) * nI i = nI (150 * i) := by rw [litN, pk_mul]
theorem ix152 (a : Nat) : nI a + (150 : Int32) = nI (a + 150) := nI_add a 150
theorem r900 {x : Nat} (h : x < 900) : inb (nI x) 900 = true := inbN h (by omega)
theorem m48 {q : St} {M0 : mh_M} (hM : MS q M0) {DL i : Nat} (hD : q.1 40 30 = nI DL) (hV : DV q.1 DL) (hi : i ≤ DL) (n : Nat) (x1 x2 : Int32) (k41 : mh_M → Int32 → Option (mh_M × Int32)) : ∀ (d x k : Nat) (M : mh_M), x + d = 150 → d < k → MB q.1 DL i x M0 M →
    ∃ M', MB q.1 DL i 150 M0 M' ∧ itr2 (fX10_buy_L48 n x1 x2 (nI i) k41) k M (nI x) = k41 M' (nI i - 1) := by
  have h5 := hV.1
  intro d
  induction d with
  | zero =>
    intro x k M hx hk hC
    obtain ⟨k, rfl⟩ : ∃ m, k = m + 1 := ⟨k - 1, by omega⟩
    obtain rfl : x = 150 := by omega
    refine ⟨M, hC, ?_⟩
    show fX10_buy_L48 n x1 x2 (nI i) k41 (itr2 (fX10_buy_L48 n x1 x2 (nI i) k41) k) M (nI 150) = _
    generalize itr2 (fX10_buy_L48 n x1 x2 (nI i) k41) k = rec
    unfold fX10_buy_L48
    rw [if_pos (show (150 : Int32) ≤ nI 150 by decide)]
    simp only [pl_e, show nI i + (-1 : Int32) = nI i - 1 by rw [← Int32.sub_eq_add_neg]]
  | succ d ih =>
    intro x k M hx hk hC
    obtain ⟨k, rfl⟩ : ∃ m, k = m + 1 := ⟨k - 1, by omega⟩
    have hI := fun M' hC' => ih (x + 1) k M' (by omega) (by omega) hC'
    have hx150 : x < 150 := by omega
    have eD : M 40 0 30 = nI DL := by rw [hC.1 40 (by omega)]; exact (rmc30 hM).trans hD
    show ∃ M', MB q.1 DL i 150 M0 M' ∧ fX10_buy_L48 n x1 x2 (nI i) k41 (itr2 (fX10_buy_L48 n x1 x2 (nI i) k41) k) M (nI x) = _
    generalize itr2 (fX10_buy_L48 n x1 x2 (nI i) k41) k = rec at hI ⊢
    unfold fX10_buy_L48
    rw [if_neg (show ¬ (150 : Int32) ≤ nI x from fun z => absurd ((nI_leI (a := 150) (by omega) (by omega)).mp z) (by omega))]
    by_cases hiD : i = DL
    · subst hiD
      by_cases h0 : x = 0
      · subst h0
        simp only [eD, pl_e, if_true, if_pos (show nI 0 = (0 : Int32) from rfl), leN (show i < 2 ^ 31 by omega) (show i < 2 ^ 31 by omega), if_pos (Nat.le_refl i), ix150, r900 (show 150 * i + 0 < 900 by omega), ck_t, clN (show 150 * i + 0 < 2 ^ 31 by omega), nI_1]
        exact hI _ (MB_up hC hx150 (by rw [d8_end, if_pos rfl]; rfl))
      · simp only [eD, pl_e, if_true, if_neg (show ¬ nI x = 0 from nne (b := 0) h0 (by omega) (by omega)), leN (show i < 2 ^ 31 by omega) (show i < 2 ^ 31 by omega), if_pos (Nat.le_refl i), ix150, r900 (show 150 * i + x < 900 by omega), ck_t, clN (show 150 * i + x < 2 ^ 31 by omega), nI_1]
        exact hI _ (MB_up hC hx150 (by rw [d8_end, if_neg h0]; rfl))
    · have hid : i < DL := by omega
      obtain ⟨v1, v2, v3, v4, v5⟩ := hV.2 i hid
      have e1 : M 74 0 (150 * i + 150 + x) = nI (d8 q.1 DL (i + 1) x) := by
        have := hC.2 (i + 1) x (by omega) hx150 (Or.inl (by omega))
        rw [show 150 * (i + 1) + x = 150 * i + 150 + x by omega] at this
        exact this
      have l1 := d8_le hV (show i + 1 ≤ DL by omega) x
      simp only [eD, pl_e, if_neg (show ¬ nI i = nI DL from nne hiD (by omega) (by omega)), leN (show DL < 2 ^ 31 by omega) (show i < 2 ^ 31 by omega), if_neg (show ¬ DL ≤ i by omega), ix151, ix152, nI_add, r900 (show 150 * i + 150 + x < 900 by omega), r900 (show 150 * i + x < 900 by omega), ck_t, clN (show 150 * i + 150 + x < 2 ^ 31 by omega), clN (show 150 * i + x < 2 ^ 31 by omega), e1, inbN (show i < 5 by omega) (show 5 ≤ 2 ^ 31 by omega), clN (show i < 2 ^ 31 by omega), hC.1 72 (by omega), hC.1 73 (by omega), rm72 hM (show i < 5 by omega), rm73 hM (show i < 5 by omega), v4, v5, ltN (show x < 2 ^ 31 by omega) (show weV q.1 i < 2 ^ 31 by omega), nI_1]
      by_cases hw : weV q.1 i ≤ x
      · have l2 := d8_le hV (show i ≤ DL by omega) (x - weV q.1 i)
        have e2 : M 74 0 (150 * i + x - weV q.1 i) = nI (d8 q.1 DL i (x - weV q.1 i)) := by
          have := hC.2 i (x - weV q.1 i) (by omega) (by omega) (Or.inr ⟨rfl, by omega⟩)
          rw [show 150 * i + (x - weV q.1 i) = 150 * i + x - weV q.1 i by omega] at this
          exact this
        have hst := d8_step hid v1 x
        rw [if_pos hw] at hst
        rw [if_neg (show ¬ x < weV q.1 i by omega)]
        simp only [pk_sub (show weV q.1 i ≤ 150 * i + x by omega), r900 (show 150 * i + x - weV q.1 i < 900 by omega), clN (show 150 * i + x - weV q.1 i < 2 ^ 31 by omega), ck_t, e2, nI_add, leN (show d8 q.1 DL (i + 1) x < 2 ^ 31 by omega) (show d8 q.1 DL i (x - weV q.1 i) + prW q.1 i < 2 ^ 31 by omega)]
        by_cases hc : d8 q.1 DL (i + 1) x ≤ d8 q.1 DL i (x - weV q.1 i) + prW q.1 i
        · rw [if_pos hc]
          exact hI _ (MB_up hC hx150 (by rw [hst, Nat.min_eq_left hc]))
        · rw [if_neg hc]
          exact hI _ (MB_up hC hx150 (by rw [hst, Nat.min_eq_right (by omega)]))
      · rw [if_pos (show x < weV q.1 i by omega)]
        exact hI _ (MB_up hC hx150 (by rw [d8_step hid v1 x, if_neg hw]))
theorem m41 {q : St} {M0 : mh_M} (hM : MS q M0) {DL : Nat} (hD : q.1 40 30 = nI DL) (hV : DV q.1 DL) {n : Nat} (hn : 200 ≤ n) (x1 x2 : Int32) : ∀ (i k : Nat) (M : mh_M), i ≤ DL → i < k → MB q.1 DL (i + 1) 150 M0 M →
    ∃ M', MB q.1 DL 0 150 M0 M' ∧ itr2 (fX10_buy_L41 n x1 x2) (k + 1) M (nI i) = itr2 (fX10_buy_L193 n M' x2) n x1 x1 := by
  have h5 := hV.1
  intro i
  induction i with
  | zero =>
    intro k M hi hk hC
    obtain ⟨k, rfl⟩ : ∃ m, k = m + 1 := ⟨k - 1, by omega⟩
    show ∃ M', MB q.1 DL 0 150 M0 M' ∧ fX10_buy_L41 n x1 x2 (itr2 (fX10_buy_L41 n x1 x2) (k + 1)) M (nI 0) = _
    obtain ⟨M1, c1, e1⟩ := m48 hM hD hV (show 0 ≤ DL by omega) n x1 x2 (itr2 (fX10_buy_L41 n x1 x2) (k + 1)) 150 0 n M (by omega) (by omega) (MB_next hC)
    refine ⟨M1, c1, ?_⟩
    have e2 : itr2 (fX10_buy_L41 n x1 x2) (k + 1) M1 (nI 0 - 1) = itr2 (fX10_buy_L193 n M1 x2) n x1 x1 := by
      show fX10_buy_L41 n x1 x2 (itr2 (fX10_buy_L41 n x1 x2) k) M1 (nI 0 - 1) = _
      generalize itr2 (fX10_buy_L41 n x1 x2) k = rec
      unfold fX10_buy_L41
      rw [if_pos (show nI 0 - (1 : Int32) < 0 from by decide)]
    rw [← e2, ← e1]
    generalize itr2 (fX10_buy_L41 n x1 x2) (k + 1) = rec
    unfold fX10_buy_L41
    rw [if_neg (nI_pos (show 0 < 2 ^ 31 by omega))]
    rfl
  | succ i ih =>
    intro k M hi hk hC
    obtain ⟨k, rfl⟩ : ∃ m, k = m + 1 := ⟨k - 1, by omega⟩
    show ∃ M', MB q.1 DL 0 150 M0 M' ∧ fX10_buy_L41 n x1 x2 (itr2 (fX10_buy_L41 n x1 x2) (k + 1)) M (nI (i + 1)) = _
    obtain ⟨M1, c1, e1⟩ := m48 hM hD hV hi n x1 x2 (itr2 (fX10_buy_L41 n x1 x2) (k + 1)) 150 0 n M (by omega) (by omega) (MB_next hC)
    obtain ⟨M2, c2, e2⟩ := ih k M1 (by omega) (by omega) c1
    refine ⟨M2, c2, ?_⟩
    rw [nI_pred] at e1
    rw [← e2, ← e1]
    generalize itr2 (fX10_buy_L41 n x1 x2) (k + 1) = rec
    unfold fX10_buy_L41
    rw [if_neg (nI_pos (show i + 1 < 2 ^ 31 by omega))]
    rfl
theorem m279 {q : St} {M0 M : mh_M} (hM : MS q M0) {DL i : Nat} (hV : DV q.1 DL) (hC : MB q.1 DL 0 150 M0 M) (hi : i < DL) {x : Nat} (hx : x < 150) (n : Nat) (x2 : Int32) (k259 : Int32 → Int32 → Int32 → Option (mh_M × Int32)) : ∀ (d m k : Nat), m = mtC (d8 q.1 DL i) (weV q.1 i) (prW q.1 i) x x + d → m * weV q.1 i ≤ x → d < k →
    itr1 (fX10_buy_L279 n M x2 (nI x) (nI i) k259) k (nI m) = k259 (nI (x - mtC (d8 q.1 DL i) (weV q.1 i) (prW q.1 i) x x * weV q.1 i)) (nI (mtC (d8 q.1 DL i) (weV q.1 i) (prW q.1 i) x x)) (nI (i + 1)) := by
  have h5 := hV.1
  obtain ⟨v1, v2, v3, v4, v5⟩ := hV.2 i hi
  obtain ⟨a1, a2, a3, a4⟩ := mtC_top (F := 100000000) (pr := prW q.1) hi v1 x
  generalize mtC (d8 q.1 DL i) (weV q.1 i) (prW q.1 i) x x = C at *
  have l1 := d8_le hV (show i ≤ DL by omega) x
  intro d
  induction d with
  | zero =>
    intro m k hm hmx hk
    obtain ⟨k, rfl⟩ : ∃ m, k = m + 1 := ⟨k - 1, by omega⟩
    rw [Nat.add_zero] at hm
    subst hm
    show fX10_buy_L279 n M x2 (nI x) (nI i) k259 (itr1 (fX10_buy_L279 n M x2 (nI x) (nI i) k259) k) (nI m) = _
    generalize itr1 (fX10_buy_L279 n M x2 (nI x) (nI i) k259) k = rec
    have e1 : M 74 0 (150 * i + 150 + x - m * weV q.1 i) = nI (d8 q.1 DL (i + 1) (x - m * weV q.1 i)) := by
      have := hC.2 (i + 1) (x - m * weV q.1 i) (by omega) (by omega) (by omega)
      rw [show 150 * (i + 1) + (x - m * weV q.1 i) = 150 * i + 150 + x - m * weV q.1 i by omega] at this
      exact this
    unfold fX10_buy_L279
    simp only [pl_e, ix151, ix152, nI_add, inbN (show i < 5 by omega) (show 5 ≤ 2 ^ 31 by omega), ck_t, clN (show i < 2 ^ 31 by omega), hC.1 72 (by omega), hC.1 73 (by omega), rm72 hM (show i < 5 by omega), rm73 hM (show i < 5 by omega), v4, v5, pk_mul, pk_sub (show m * weV q.1 i ≤ 150 * i + 150 + x by omega), pk_sub a1, r900 (show 150 * i + 150 + x - m * weV q.1 i < 900 by omega), clN (show 150 * i + 150 + x - m * weV q.1 i < 2 ^ 31 by omega), e1, r900 (show 150 * i + x < 900 by omega), clN (show 150 * i + x < 2 ^ 31 by omega), hC.2 i x (by omega) hx (by omega), nI_1]
    rw [if_pos (show nI (d8 q.1 DL (i + 1) (x - m * weV q.1 i) + m * prW q.1 i) = nI (d8 q.1 DL i x) by rw [a2])]
  | succ d ih =>
    intro m k hm hmx hk
    obtain ⟨k, rfl⟩ : ∃ m, k = m + 1 := ⟨k - 1, by omega⟩
    obtain ⟨m, rfl⟩ : ∃ j, m = j + 1 := ⟨m - 1, by omega⟩
    have hI := ih m k (by omega) (by rw [Nat.succ_mul] at hmx; omega) (by omega)
    show fX10_buy_L279 n M x2 (nI x) (nI i) k259 (itr1 (fX10_buy_L279 n M x2 (nI x) (nI i) k259) k) (nI (m + 1)) = _
    generalize itr1 (fX10_buy_L279 n M x2 (nI x) (nI i) k259) k = rec at hI ⊢
    have hne : d8 q.1 DL (i + 1) (x - (m + 1) * weV q.1 i) + (m + 1) * prW q.1 i ≠ d8 q.1 DL i x := a4 (m + 1) (by omega) hmx
    have hmb : m + 1 ≤ x := by
      have := Nat.mul_le_mul_left (m + 1) v1
      omega
    have hpb : (m + 1) * prW q.1 i ≤ 150 * 100000 := Nat.mul_le_mul (by omega) v3
    have l2 := d8_le hV (show i + 1 ≤ DL by omega) (x - (m + 1) * weV q.1 i)
    have e1 : M 74 0 (150 * i + 150 + x - (m + 1) * weV q.1 i) = nI (d8 q.1 DL (i + 1) (x - (m + 1) * weV q.1 i)) := by
      have := hC.2 (i + 1) (x - (m + 1) * weV q.1 i) (by omega) (by omega) (by omega)
      rw [show 150 * (i + 1) + (x - (m + 1) * weV q.1 i) = 150 * i + 150 + x - (m + 1) * weV q.1 i by omega] at this
      exact this
    unfold fX10_buy_L279
    simp only [pl_e, ix151, ix152, nI_add, inbN (show i < 5 by omega) (show 5 ≤ 2 ^ 31 by omega), ck_t, clN (show i < 2 ^ 31 by omega), hC.1 72 (by omega), hC.1 73 (by omega), rm72 hM (show i < 5 by omega), rm73 hM (show i < 5 by omega), v4, v5, pk_mul, pk_sub (show (m + 1) * weV q.1 i ≤ 150 * i + 150 + x by omega), pk_sub hmx, r900 (show 150 * i + 150 + x - (m + 1) * weV q.1 i < 900 by omega), clN (show 150 * i + 150 + x - (m + 1) * weV q.1 i < 2 ^ 31 by omega), e1, r900 (show 150 * i + x < 900 by omega), clN (show 150 * i + x < 2 ^ 31 by omega), hC.2 i x (by omega) hx (by omega), pk_m1]
    rw [if_neg (show ¬ nI (d8 q.1 DL (i + 1) (x - (m + 1) * weV q.1 i) + (m + 1) * prW q.1 i) = nI (d8 q.1 DL i x) from fun z => hne ((nI_eq (by omega) (by omega)).mp z))]
    exact hI
theorem m259 {q : St} {M0 M : mh_M} (hM : MS q M0) {DL top : Nat} (hV : DV q.1 DL) (hC : MB q.1 DL 0 150 M0 M) (ht : top < DL) {n : Nat} (hn : 200 ≤ n) {x2 : Int32} (h2 : x2 - 2 = nI top) : ∀ (f x t i k : Nat), i + f = top + 1 → x < 150 → f < k →
    itr3 (fX10_buy_L259 n M x2) k (nI x) (nI t) (nI i) = some (M, nI (grd (d8 q.1 DL) (weV q.1) (prW q.1) f x t i)) := by
  have h5 := hV.1
  intro f
  induction f with
  | zero =>
    intro x t i k hi hx hk
    obtain ⟨k, rfl⟩ : ∃ m, k = m + 1 := ⟨k - 1, by omega⟩
    show fX10_buy_L259 n M x2 (itr3 (fX10_buy_L259 n M x2) k) (nI x) (nI t) (nI i) = some (M, nI t)
    generalize itr3 (fX10_buy_L259 n M x2) k = rec
    unfold fX10_buy_L259
    rw [h2, pl_e, if_pos (nI_lt (show top < i by omega) (by omega))]
  | succ f ih =>
    intro x t i k hi hx hk
    obtain ⟨k, rfl⟩ : ∃ m, k = m + 1 := ⟨k - 1, by omega⟩
    have hI := fun x' t' h => ih x' t' (i + 1) k (by omega) h (by omega)
    have hid : i < DL := by omega
    obtain ⟨v1, v2, v3, v4, v5⟩ := hV.2 i hid
    show fX10_buy_L259 n M x2 (itr3 (fX10_buy_L259 n M x2) k) (nI x) (nI t) (nI i) = some (M, nI (grd (d8 q.1 DL) (weV q.1) (prW q.1) f (x - mtC (d8 q.1 DL i) (weV q.1 i) (prW q.1 i) x x * weV q.1 i) (mtC (d8 q.1 DL i) (weV q.1 i) (prW q.1 i) x x) (i + 1)))
    have e2 := (mtC_spec (f := d8 q.1 DL i) (p := prW q.1 i) v1 x x (Nat.le_refl _)).1
    have e3 : mtC (d8 q.1 DL i) (weV q.1 i) (prW q.1 i) x x ≤ x / weV q.1 i := (Nat.le_div_iff_mul_le v1).mpr e2
    have e4 : x / weV q.1 i * weV q.1 i ≤ x := Nat.div_mul_le_self x _
    have e5 : x / weV q.1 i ≤ x := Nat.div_le_self x _
    have e6 := m279 hM hV hC hid hx n x2 (itr3 (fX10_buy_L259 n M x2) k) (x / weV q.1 i - mtC (d8 q.1 DL i) (weV q.1 i) (prW q.1 i) x x) (x / weV q.1 i) n (by omega) e4 (by omega)
    rw [hI _ _ (by omega)] at e6
    rw [← e6]
    generalize itr3 (fX10_buy_L259 n M x2) k = rec
    unfold fX10_buy_L259
    rw [h2, pl_e, if_neg (nI_nlt (show i ≤ top by omega) (by omega))]
    simp only [inbN (show i < 5 by omega) (show 5 ≤ 2 ^ 31 by omega), ck_t, pl_e, clN (show i < 2 ^ 31 by omega), hC.1 72 (by omega), rm72 hM (show i < 5 by omega), v4, nz_of (show nI (weV q.1 i) ≠ 0 from nI_ne0 (by omega) (by omega)), pk_div (show x < 2 ^ 31 by omega) (show 0 < weV q.1 i by omega) (show weV q.1 i < 2 ^ 31 by omega)]
def fin8 (q : St) (M : mh_M) (n : Nat) (x2 : Int32) (b : Nat) : Option (mh_M × Int32) :=
  if (2 : Int32) ≤ x2 then itr3 (fX10_buy_L259 n M x2) n (nI b) (0 : Int32) (0 : Int32) else if x2 = 0 then some (M, M 74 0 b) else some (M, nI b)
theorem m193 {q : St} {M0 M : mh_M} {DL : Nat} (hV : DV q.1 DL) (hC : MB q.1 DL 0 150 M0 M) (n : Nat) (x2 : Int32) : ∀ (d x b k : Nat), x + d = 150 → b < 150 → b ≤ x → d < k →
    itr2 (fX10_buy_L193 n M x2) k (nI b) (nI x) = fin8 q M n x2 (bsF (d8 q.1 DL 0) d x b) := by
  have h5 := hV.1
  intro d
  induction d with
  | zero =>
    intro x b k hx hb hbx hk
    obtain ⟨k, rfl⟩ : ∃ m, k = m + 1 := ⟨k - 1, by omega⟩
    obtain rfl : x = 150 := by omega
    show fX10_buy_L193 n M x2 (itr2 (fX10_buy_L193 n M x2) k) (nI b) (nI 150) = fin8 q M n x2 b
    generalize itr2 (fX10_buy_L193 n M x2) k = rec
    unfold fX10_buy_L193 fin8
    rw [if_pos (show (150 : Int32) ≤ nI 150 by decide)]
    simp only [r900 (show b < 900 by omega), ck_t, pl_e, clN (show b < 2 ^ 31 by omega)]
  | succ d ih =>
    intro x b k hx hb hbx hk
    obtain ⟨k, rfl⟩ : ∃ m, k = m + 1 := ⟨k - 1, by omega⟩
    have hI := fun b' hb' hb'' => ih (x + 1) b' k (by omega) hb' hb'' (by omega)
    have l1 := d8_le hV (show 0 ≤ DL by omega) x
    have l2 := d8_le hV (show 0 ≤ DL by omega) b
    have e1 : M 74 0 x = nI (d8 q.1 DL 0 x) := by
      have := hC.2 0 x (by omega) (by omega) (by omega)
      rw [show 150 * 0 + x = x by omega] at this
      exact this
    have e2 : M 74 0 b = nI (d8 q.1 DL 0 b) := by
      have := hC.2 0 b (by omega) (by omega) (by omega)
      rw [show 150 * 0 + b = b by omega] at this
      exact this
    show fX10_buy_L193 n M x2 (itr2 (fX10_buy_L193 n M x2) k) (nI b) (nI x) = fin8 q M n x2 (bsF (d8 q.1 DL 0) d (x + 1) (if d8 q.1 DL 0 b ≤ d8 q.1 DL 0 x then b else x))
    generalize itr2 (fX10_buy_L193 n M x2) k = rec at hI ⊢
    unfold fX10_buy_L193
    rw [if_neg (show ¬ (150 : Int32) ≤ nI x from fun z => absurd ((nI_leI (a := 150) (by omega) (by omega)).mp z) (by omega))]
    simp only [r900 (show x < 900 by omega), r900 (show b < 900 by omega), ck_t, pl_e, clN (show b < 2 ^ 31 by omega), clN (show x < 2 ^ 31 by omega), e1, e2, leN (show d8 q.1 DL 0 b < 2 ^ 31 by omega) (show d8 q.1 DL 0 x < 2 ^ 31 by omega), nI_1]
    by_cases h : d8 q.1 DL 0 b ≤ d8 q.1 DL 0 x
    · rw [if_pos h, if_pos h]
      exact hI b hb (by omega)
    · rw [if_neg h, if_neg h]
      exact hI x (by omega) (by omega)
/-! the same best for both -/
theorem best_89 {w : Vw} {DL : Nat} (hV : DV w DL) (h0 : 0 < DL) {a : Nat} (ha : a ≤ 120) : bsF (d9 w DL 0) (143 - a) (a + 1) a = bsF (d8 w DL 0) (150 - a) a a ∧ bsF (d9 w DL 0) (143 - a) (a + 1) a < 144 ∧ d8 w DL 0 (bsF (d9 w DL 0) (143 - a) (a + 1) a) < 100000000 := by
  have hu : ∀ j, j < DL → 1 ≤ weV w j := fun j hj => (hV.2 j hj).1
  have e1 : bsF (d9 w DL 0) (143 - a) (a + 1) a = bsF (d8 w DL 0) (143 - a) (a + 1) a := by
    refine bsF_congr _ _ _ (by omega) (fun x y hx hy => ?_)
    have f1 := feas8 hV (show 0 ≤ DL by omega) (x := x) (by omega)
    have f2 := feas8 hV (show 0 ≤ DL by omega) (x := y) (by omega)
    omega
  rw [e1]
  obtain ⟨b1, b2, b3, b4⟩ := bsF_le (f := d8 w DL 0) (143 - a) (a + 1) a (by omega)
  have e2 : bsF (d8 w DL 0) (150 - a) a a = bsF (d8 w DL 0) 6 144 (bsF (d8 w DL 0) (143 - a) (a + 1) a) := by
    rw [show 150 - a = (143 - a + 6) + 1 by omega]
    show bsF (d8 w DL 0) (143 - a + 6) (a + 1) (if d8 w DL 0 a ≤ d8 w DL 0 a then a else a) = _
    rw [if_pos (Nat.le_refl _), bsF_add, show a + 1 + (143 - a) = 144 by omega]
  rw [e2]
  generalize bsF (d8 w DL 0) (143 - a) (a + 1) a = B at *
  have key : ∀ y, a ≤ y → y < 150 → d8 w DL 0 B ≤ d8 w DL 0 y := by
    intro y
    induction y using Nat.strongRecOn with
    | _ y ih =>
      intro h1 h2
      by_cases hy : y < 144
      · by_cases hya : y = a
        · subst hya
          exact b1
        · exact b2 y (by omega) (by omega)
      · by_cases hf : d8 w DL 0 y < 100000000
        · obtain ⟨b, c1, c2, c3⟩ := dD_drop (F := 100000000) (pr := prW w) hu DL 0 (by omega) y (by omega) hf
          have c3' : d8 w DL 0 (y - weV w b) ≤ d8 w DL 0 y := c3
          have := hV.2 b c1
          have := ih (y - weV w b) (by omega) (by omega) (by omega)
          omega
        · have := d8_le hV (show 0 ≤ DL by omega) B
          omega
  refine ⟨(bsF_stay 6 144 B (fun y z1 z2 => key y (by omega) (by omega))).symm, by omega, ?_⟩
  obtain ⟨v1, v2, v3, v4, v5⟩ := hV.2 0 h0
  have d1 := Nat.div_mul_le_self (a + 23) (weV w 0)
  have d2 : a ≤ (a + 23) / weV w 0 * weV w 0 := by
    have x1 := Nat.div_add_mod (a + 23) (weV w 0)
    have x2 := Nat.mod_lt (a + 23) (show 0 < weV w 0 by omega)
    rw [Nat.mul_comm] at x1
    omega
  have d3 := dD_mul (F := 100000000) (pr := prW w) hu h0 ((a + 23) / weV w 0)
  have d4 : (a + 23) / weV w 0 * prW w 0 ≤ 143 * 100000 := Nat.mul_le_mul (by have := Nat.div_le_self (a + 23) (weV w 0); omega) v3
  have d5 := key _ d2 (by omega)
  have d6 : d8 w DL 0 ((a + 23) / weV w 0 * weV w 0) ≤ (a + 23) / weV w 0 * prW w 0 := d3
  omega
theorem XS_CB {q : St} {M M1 : mh_M} (hX : XS q M) (hf : ∀ t, t ≠ 19 → M1 t = M t) : XS q M1 := by
  have hw : wX M1 = wX M := by
    have e : VX M1 = VX M := by
      funext t j
      simp only [VX]
      by_cases hd : vdom t j = true
      · rw [if_pos hd, if_pos hd]
        by_cases h19 : (vloc t j).1 = 19
        · exfalso
          have e := vinv_loc hd
          have e2 : vinv (vloc t j).1 (vloc t j).2.1 (vloc t j).2.2 = (99, 0) := by rw [h19]; rfl
          have e3 : (t, j) = ((99, 0) : Nat × Nat) := e.symm.trans e2
          have e4 : t = 99 := congrArg Prod.fst e3
          subst e4
          cases hd
        · rw [hf _ h19]
      · rw [if_neg hd, if_neg hd]
    unfold wX
    rw [e]
  exact XS_step (w' := q.1) hX (hw.trans hX.1) (by rw [hf 5 (by omega)]) (hf 30 (by omega)) (fun r => by rw [hf 23 (by omega)]) (fun r => by rw [hf 23 (by omega)]) (by rw [hf 0 (by omega)]) rfl (fun _ => rfl)
theorem MS_MB {q : St} {M M1 : mh_M} (hM : MS q M) (hf : ∀ t, t ≠ 74 → M1 t = M t) : MS q M1 := by
  have hw : wM M1 = wM M := by
    have e : VM M1 = VM M := by
      funext t j
      simp only [VM]
      by_cases hd : vdom t j = true
      · rw [if_pos hd, if_pos hd]
        by_cases h74 : t = 74
        · subst h74
          cases hd
        · rw [hf _ h74, hf 44 (by omega)]
      · rw [if_neg hd, if_neg hd]
    unfold wM
    rw [e]
  exact MS_step (w' := q.1) hM (hw.trans hM.1) (hf 61 (by omega)) (hf 48 (by omega)) rfl
theorem s_buy {c : Nat} {q : St} {M M' : mh_M} (hX : XS q M) (hM : MS q M') (hI : Inv c q) (hc : c < 512) (n : Nat) (hnn : 300 ≤ n) (a0 a1 : Int32) : Both c M M' (fX9_buy n M a0 a1) (fX10_buy n M' a0 a1) := by
  unfold fX9_buy fX10_buy
  obtain ⟨K, Rc, T, A, FT, PR, DL, hn, hb, i1, i2, i3, i4, i5, i6, i7⟩ := id hI
  have hD := hn.2.2.2.2.2.2
  have h5 : DL ≤ 5 := by omega
  simp only [eX_isIn, eM_in, bd_some, b01, pl_e, (rXc30 hX).trans hD, (rmc30 hM).trans hD, show (1 : Int32) + nI DL = nI (1 + DL) from nI_add 1 DL]
  by_cases h1 : (1 : Int32) ≤ a0 ∧ a0 ≤ 120
  case neg => exact both_no hX hM hI hc (if_neg h1) (if_neg h1)
  simp only [if_pos h1]
  by_cases h2 : (0 : Int32) ≤ a1 ∧ a1 ≤ nI (1 + DL)
  case neg => exact both_no hX hM hI hc (if_neg h2) (if_neg h2)
  simp only [if_pos h2]
  by_cases h0 : DL = 0
  · subst h0
    exact both_no hX hM hI hc (if_pos rfl) (if_pos rfl)
  simp only [if_neg (show ¬ nI DL = 0 from nne (b := 0) h0 (by omega) (by omega))]
  obtain ⟨a, ha, rfl⟩ := gIn (m := 120) (by omega) ⟨Int32.le_trans (show (0 : Int32) ≤ 1 by decide) h1.1, h1.2⟩
  obtain ⟨b, hb2, rfl⟩ := gIn (m := 1 + DL) (by omega) h2
  have hV := DV_of h5 i6
  obtain ⟨M1, c1, e1⟩ := eX_wu hX hD hV (n := n) (by omega)
  obtain ⟨M2, c2, e2⟩ := m41 hM hD hV (n := n) (by omega) (nI a) (nI b) DL (n - 1) M' (Nat.le_refl _) (by omega) ⟨fun _ _ => rfl, fun i' x' hi hx hc => by omega⟩
  obtain ⟨f1, f2, f3⟩ := best_89 hV (show 0 < DL by omega) ha
  have e3 : fX2_bestBottles n M1 (nI a) = some (nI (bsF (d9 q.1 DL 0) (143 - a) (a + 1) a)) := by
    unfold fX2_bestBottles
    rw [nI_1, pl_e]
    exact bb_X hV c1 n (143 - a) (a + 1) a n (by omega) (by omega) (by omega)
  have e4 := m193 hV c2 n (nI b) (150 - a) a a n (by omega) (by omega) (by omega) (by omega)
  rw [show n - 1 + 1 = n by omega, e4, ← f1] at e2
  rw [e1, e2]
  simp only [bd_some, e3]
  generalize bsF (d9 q.1 DL 0) (143 - a) (a + 1) a = B at *
  have g1 := feas8 hV (show 0 ≤ DL by omega) (x := B) (by omega)
  have fin : ∀ r : Int32, ∀ oX oM, oX = some (M1, r) → oM = some (M2, r) → Both c M M' oX oM := fun r oX oM p1 p2 =>
    ⟨q, r, M1, M2, p1, XS_CB hX c1.1, fun t ht => c1.1 t (by omega), p2, MS_MB hM c2.1, fun t ht => c2.1 t (by omega), Inv_up hI hc⟩
  have e5 : M2 74 0 B = nI (d8 q.1 DL 0 B) := by
    have := c2.2 0 B (by omega) (by omega) (by omega)
    rw [show 150 * 0 + B = B by omega] at this
    exact this
  unfold fin8
  by_cases hb0 : b = 0
  · subst hb0
    refine fin (nI (d8 q.1 DL 0 B)) _ _ ?_ ?_
    · rw [if_pos (show nI 0 = (0 : Int32) from rfl)]
      unfold fX2_leastFor
      simp only [show inb (0 : Int32) 6 = true by decide, ck_t, pl_e, cl0, r144 (show B < 144 by omega), clN (show B < 2 ^ 31 by omega), c1.2 0 B (by omega) (by omega) (by omega), bd_some]
      rw [show d9 q.1 DL 0 B = d8 q.1 DL 0 B by omega]
    · rw [if_neg (show ¬ (2 : Int32) ≤ nI 0 by decide), if_pos (show nI 0 = (0 : Int32) from rfl), e5]
  by_cases hb1 : b = 1
  · subst hb1
    refine fin (nI B) _ _ ?_ ?_
    · rw [if_neg (show ¬ nI 1 = (0 : Int32) by decide), if_pos (show nI 1 = (1 : Int32) from rfl)]
    · rw [if_neg (show ¬ (2 : Int32) ≤ nI 1 by decide), if_neg (show ¬ nI 1 = (0 : Int32) by decide)]
  have hs : nI b - (2 : Int32) = nI (b - 2) := pk_sub (b := 2) (by omega)
  refine fin (nI (grd (d8 q.1 DL) (weV q.1) (prW q.1) (b - 2 + 1) B 0 0)) _ _ ?_ ?_
  · rw [if_neg (show ¬ nI b = (0 : Int32) from nne (b := 0) hb0 (by omega) (by omega)), if_neg (show ¬ nI b = (1 : Int32) from nne (b := 1) hb1 (by omega) (by omega)), hs]
    have := to_X hX hV c1 (show b - 2 < DL by omega) (n := n) (by omega) (b - 2 + 1) B 0 0 n (by omega) (by omega) (by omega)
    unfold fX2_timesOf
    rw [show itr3 (fX2_timesOf_L8 n M1 (nI (b - 2))) n (nI B) (0 : Int32) (0 : Int32) = _ from this, grd_89 hV _ 0 B 0 (by omega) (by omega) f3]
    rfl
  · rw [if_pos (show (2 : Int32) ≤ nI b from (nI_leI (a := 2) (by omega) (by omega)).mpr (by omega))]
    exact m259 hM hV c2 (show b - 2 < DL by omega) (n := n) (by omega) hs (b - 2 + 1) B 0 0 n (by omega) (by omega) (by omega)
