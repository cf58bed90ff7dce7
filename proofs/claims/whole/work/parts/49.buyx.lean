/-! ===== buy: the class ===== -/
def weV (w : Vw) (i : Nat) : Nat := (w 72 i).toNatClampNeg
def prW (w : Vw) (i : Nat) : Nat := (w 73 i).toNatClampNeg
def DV (w : Vw) (DL : Nat) : Prop := DL ≤ 5 ∧ ∀ j, j < DL → 1 ≤ weV w j ∧ weV w j ≤ 24 ∧ prW w j ≤ 100000 ∧ w 72 j = nI (weV w j) ∧ w 73 j = nI (prW w j)
theorem DV_of {w : Vw} {DL : Nat} (h5 : DL ≤ 5) (i6 : ∀ j, j < DL → ∃ a b : Nat, 1 ≤ a ∧ a ≤ 24 ∧ b ≤ 100000 ∧ w 72 j = nI a ∧ w 73 j = nI b) : DV w DL := by
  refine ⟨h5, fun j hj => ?_⟩
  obtain ⟨a, b, h1, h2, h3, e1, e2⟩ := i6 j hj
  unfold weV prW
  rw [e1, e2, clN (by omega), clN (by omega)]
  exact ⟨h1, h2, h3, rfl, rfl⟩
abbrev d9 (w : Vw) (DL : Nat) : Nat → Nat → Nat := dD 1000000000 (weV w) (prW w) DL
abbrev d8 (w : Vw) (DL : Nat) : Nat → Nat → Nat := dD 100000000 (weV w) (prW w) DL
theorem d9_le {w : Vw} {DL : Nat} (h : DV w DL) {i : Nat} (hi : i ≤ DL) (x : Nat) : d9 w DL i x ≤ 1000000000 := dD_le (fun i hi => (h.2 i hi).1) (DL - i) i (by omega) x
theorem d8_le {w : Vw} {DL : Nat} (h : DV w DL) {i : Nat} (hi : i ≤ DL) (x : Nat) : d8 w DL i x ≤ 100000000 := dD_le (fun i hi => (h.2 i hi).1) (DL - i) i (by omega) x
theorem d9_end (w : Vw) (DL x : Nat) : d9 w DL DL x = if x = 0 then 0 else 1000000000 := dD_end _ _ _ _ _
theorem d8_end (w : Vw) (DL x : Nat) : d8 w DL DL x = if x = 0 then 0 else 100000000 := dD_end _ _ _ _ _
theorem d9_step {w : Vw} {DL i : Nat} (hi : i < DL) (hu : 1 ≤ weV w i) (x : Nat) : d9 w DL i x = if weV w i ≤ x then min (d9 w DL (i + 1) x) (d9 w DL i (x - weV w i) + prW w i) else d9 w DL (i + 1) x := dD_step hi hu x
theorem d8_step {w : Vw} {DL i : Nat} (hi : i < DL) (hu : 1 ≤ weV w i) (x : Nat) : d8 w DL i x = if weV w i ≤ x then min (d8 w DL (i + 1) x) (d8 w DL i (x - weV w i) + prW w i) else d8 w DL (i + 1) x := dD_step hi hu x
def CB (w : Vw) (DL i x : Nat) (M0 M : mh_M) : Prop := (∀ t, t ≠ 19 → M t = M0 t) ∧ ∀ i' x', i' ≤ DL → x' < 144 → (i < i' ∨ (i' = i ∧ x' < x)) → M 19 i' x' = nI (d9 w DL i' x')
theorem CB_up {w : Vw} {DL i x : Nat} {M0 M : mh_M} (h : CB w DL i x M0 M) {v : Int32} (hv : v = nI (d9 w DL i x)) : CB w DL i (x + 1) M0 (mh_up M 19 i x v) := by
  obtain ⟨h1, h2⟩ := h
  refine ⟨fun t ht => ?_, fun i' x' hi hx hc => ?_⟩
  · funext a b
    rw [rd_t ht, h1 t ht]
  · by_cases e : i' = i ∧ x' = x
    · obtain ⟨rfl, rfl⟩ := e
      rw [rd_s, hv]
    · by_cases e2 : i' = i
      · rw [rd_k (fun z => e ⟨e2, z⟩)]
        exact h2 i' x' hi hx (by omega)
      · rw [rd_i e2]
        exact h2 i' x' hi hx (by omega)
theorem CB_next {w : Vw} {DL i : Nat} {M0 M : mh_M} (h : CB w DL (i + 1) 144 M0 M) : CB w DL i 0 M0 M := ⟨h.1, fun i' x' hi hx hc => h.2 i' x' hi hx (by omega)⟩
theorem r144 {x : Nat} (h : x < 144) : inb (nI x) 144 = true := inbN h (by omega)
theorem wu2 {q : St} {M0 : mh_M} (hX : XS q M0) {DL : Nat} (hD : q.1 40 30 = nI DL) (hDL : DL ≤ 5) (n : Nat) : ∀ (d x k : Nat) (M : mh_M), x + d = 144 → d < k → CB q.1 DL DL x M0 M →
    ∃ M', CB q.1 DL DL 144 M0 M' ∧ itr2 (fX2_weighUp_L2 n) k M (nI x) = itr2 (fX2_weighUp_L43 n) n M' (nI DL - 1) := by
  intro d
  induction d with
  | zero =>
    intro x k M hx hk hC
    obtain ⟨k, rfl⟩ : ∃ m, k = m + 1 := ⟨k - 1, by omega⟩
    obtain rfl : x = 144 := by omega
    refine ⟨M, hC, ?_⟩
    show fX2_weighUp_L2 n (itr2 (fX2_weighUp_L2 n) k) M (nI 144) = _
    generalize itr2 (fX2_weighUp_L2 n) k = rec
    unfold fX2_weighUp_L2
    rw [if_pos (show (144 : Int32) ≤ nI 144 by decide)]
    simp only [pl_e, hC.1 15 (by omega), (rXc30 hX).trans hD]
  | succ d ih =>
    intro x k M hx hk hC
    obtain ⟨k, rfl⟩ : ∃ m, k = m + 1 := ⟨k - 1, by omega⟩
    have hI := fun M' hC' => ih (x + 1) k M' (by omega) (by omega) hC'
    show ∃ M', CB q.1 DL DL 144 M0 M' ∧ fX2_weighUp_L2 n (itr2 (fX2_weighUp_L2 n) k) M (nI x) = _
    generalize itr2 (fX2_weighUp_L2 n) k = rec at hI ⊢
    unfold fX2_weighUp_L2
    rw [if_neg (show ¬ (144 : Int32) ≤ nI x from fun z => absurd ((nI_leI (a := 144) (by omega) (by omega)).mp z) (by omega))]
    simp only [pl_e, hC.1 15 (by omega), (rXc30 hX).trans hD, inbN (show DL < 6 by omega) (show 6 ≤ 2 ^ 31 by omega), ck_t, clN (show DL < 2 ^ 31 by omega), r144 (show x < 144 by omega), clN (show x < 2 ^ 31 by omega), nI_1]
    by_cases h0 : x = 0
    · rw [if_pos (show nI x = 0 by rw [h0]; rfl)]
      exact hI _ (CB_up hC (by rw [d9_end, if_pos h0]; rfl))
    · rw [if_neg (show ¬ nI x = 0 from nne (b := 0) h0 (by omega) (by omega))]
      exact hI _ (CB_up hC (by rw [d9_end, if_neg h0]; rfl))
theorem pwm {q : St} {M0 M : mh_M} (hX : XS q M0) (hf : ∀ t, t ≠ 19 → M t = M0 t) {DL i x : Nat} (hV : DV q.1 DL) (hi : i < DL) (n : Nat) (hx : x < 144) (hm : weV q.1 i ≤ x → M 19 i (x - weV q.1 i) = nI (d9 q.1 DL i (x - weV q.1 i))) :
    fX2_priceWithOneMore n M (nI i) (nI x) = some (if weV q.1 i ≤ x then nI (d9 q.1 DL i (x - weV q.1 i) + prW q.1 i) else nI 1000000000) := by
  obtain ⟨v1, v2, v3, v4, v5⟩ := hV.2 i hi
  have h5 := hV.1
  have hi5 : i < 5 := by omega
  unfold fX2_priceWithOneMore
  simp only [inbN hi5 (show 5 ≤ 2 ^ 31 by omega), inbN (show i < 6 by omega) (show 6 ≤ 2 ^ 31 by omega), ck_t, clN (show i < 2 ^ 31 by omega), hf 16 (by omega), hf 17 (by omega), rX16 hX hi5, rX17 hX hi5, pl_e, v4, v5, leN (show weV q.1 i < 2 ^ 31 by omega) (show x < 2 ^ 31 by omega)]
  by_cases h : weV q.1 i ≤ x
  · rw [if_pos h, if_pos h]
    simp only [pk_sub h, r144 (show x - weV q.1 i < 144 by omega), ck_t, clN (show x - weV q.1 i < 2 ^ 31 by omega), hm h, nI_add]
  · rw [if_neg h, if_neg h]
    rfl
theorem wu49 {q : St} {M0 : mh_M} (hX : XS q M0) {DL i : Nat} (hV : DV q.1 DL) (hi : i < DL) (n : Nat) (k43 : mh_M → Int32 → Option mh_M) : ∀ (d x k : Nat) (M : mh_M), x + d = 144 → d < k → CB q.1 DL i x M0 M →
    ∃ M', CB q.1 DL i 144 M0 M' ∧ itr2 (fX2_weighUp_L49 n (nI i) k43) k M (nI x) = k43 M' (nI i - 1) := by
  have h5 := hV.1
  obtain ⟨v1, v2, v3, v4, v5⟩ := hV.2 i hi
  intro d
  induction d with
  | zero =>
    intro x k M hx hk hC
    obtain ⟨k, rfl⟩ : ∃ m, k = m + 1 := ⟨k - 1, by omega⟩
    obtain rfl : x = 144 := by omega
    refine ⟨M, hC, ?_⟩
    show fX2_weighUp_L49 n (nI i) k43 (itr2 (fX2_weighUp_L49 n (nI i) k43) k) M (nI 144) = _
    generalize itr2 (fX2_weighUp_L49 n (nI i) k43) k = rec
    unfold fX2_weighUp_L49
    rw [if_pos (show (144 : Int32) ≤ nI 144 by decide)]
    simp only [pl_e, show nI i + (-1 : Int32) = nI i - 1 by rw [← Int32.sub_eq_add_neg]]
  | succ d ih =>
    intro x k M hx hk hC
    obtain ⟨k, rfl⟩ : ∃ m, k = m + 1 := ⟨k - 1, by omega⟩
    have hI := fun M' hC' => ih (x + 1) k M' (by omega) (by omega) hC'
    have hx144 : x < 144 := by omega
    show ∃ M', CB q.1 DL i 144 M0 M' ∧ fX2_weighUp_L49 n (nI i) k43 (itr2 (fX2_weighUp_L49 n (nI i) k43) k) M (nI x) = _
    generalize itr2 (fX2_weighUp_L49 n (nI i) k43) k = rec at hI ⊢
    unfold fX2_weighUp_L49
    rw [if_neg (show ¬ (144 : Int32) ≤ nI x from fun z => absurd ((nI_leI (a := 144) (by omega) (by omega)).mp z) (by omega))]
    have e1 : M 19 (i + 1) x = nI (d9 q.1 DL (i + 1) x) := hC.2 (i + 1) x (by omega) hx144 (Or.inl (by omega))
    rw [pwm hX hC.1 hV hi n hx144 (fun h => hC.2 i _ (by omega) (by omega) (Or.inr ⟨rfl, by omega⟩))]
    simp only [inbN (show i < 6 by omega) (show 6 ≤ 2 ^ 31 by omega), inbN (show i + 1 < 6 by omega) (show 6 ≤ 2 ^ 31 by omega), ck_t, clN (show i < 2 ^ 31 by omega), clN (show i + 1 < 2 ^ 31 by omega), pl_e, nI_1, r144 hx144, clN (show x < 2 ^ 31 by omega), e1, bd_some]
    apply hI
    apply CB_up hC
    have l1 := d9_le hV (show i + 1 ≤ DL by omega) x
    by_cases h : weV q.1 i ≤ x
    · have l2 := d9_le hV (show i ≤ DL by omega) (x - weV q.1 i)
      rw [if_pos h, d9_step hi v1 x, if_pos h]
      simp only [ltN (show d9 q.1 DL i (x - weV q.1 i) + prW q.1 i < 2 ^ 31 by omega) (show d9 q.1 DL (i + 1) x < 2 ^ 31 by omega)]
      by_cases hc : d9 q.1 DL i (x - weV q.1 i) + prW q.1 i < d9 q.1 DL (i + 1) x
      · rw [if_pos hc, Nat.min_eq_right (by omega)]
      · rw [if_neg hc, Nat.min_eq_left (by omega)]
    · rw [if_neg h, d9_step hi v1 x, if_neg h]
      simp only [ltN (show 1000000000 < 2 ^ 31 by omega) (show d9 q.1 DL (i + 1) x < 2 ^ 31 by omega)]
      rw [if_neg (by omega)]
theorem wu43 {q : St} {M0 : mh_M} (hX : XS q M0) {DL : Nat} (hV : DV q.1 DL) {n : Nat} (hn : 200 ≤ n) : ∀ (i k : Nat) (M : mh_M), i ≤ DL → i < k → CB q.1 DL i 144 M0 M →
    ∃ M', CB q.1 DL 0 144 M0 M' ∧ itr2 (fX2_weighUp_L43 n) k M (nI i - 1) = some M' := by
  have h5 := hV.1
  intro i
  induction i with
  | zero =>
    intro k M hi hk hC
    obtain ⟨k, rfl⟩ : ∃ m, k = m + 1 := ⟨k - 1, by omega⟩
    refine ⟨M, hC, ?_⟩
    show fX2_weighUp_L43 n (itr2 (fX2_weighUp_L43 n) k) M (nI 0 - 1) = _
    unfold fX2_weighUp_L43
    rw [if_pos (show nI 0 - (1 : Int32) < 0 from by decide)]
  | succ i ih =>
    intro k M hi hk hC
    obtain ⟨k, rfl⟩ : ∃ m, k = m + 1 := ⟨k - 1, by omega⟩
    show ∃ M', CB q.1 DL 0 144 M0 M' ∧ fX2_weighUp_L43 n (itr2 (fX2_weighUp_L43 n) k) M (nI (i + 1) - 1) = _
    obtain ⟨M1, c1, e1⟩ := wu49 hX hV (show i < DL by omega) n (itr2 (fX2_weighUp_L43 n) k) 144 0 n M (by omega) (by omega) (CB_next hC)
    obtain ⟨M2, c2, e2⟩ := ih k M1 (by omega) (by omega) c1
    refine ⟨M2, c2, ?_⟩
    generalize itr2 (fX2_weighUp_L43 n) k = rec at e1 e2 ⊢
    unfold fX2_weighUp_L43
    rw [nI_pred, if_neg (nI_pos (show i < 2 ^ 31 by omega))]
    exact e1.trans e2
theorem eX_wu {q : St} {M : mh_M} (hX : XS q M) {DL : Nat} (hD : q.1 40 30 = nI DL) (hV : DV q.1 DL) {n : Nat} (hn : 200 ≤ n) : ∃ M', CB q.1 DL 0 144 M M' ∧ fX2_weighUp n M = some M' := by
  have h5 := hV.1
  obtain ⟨M1, c1, e1⟩ := wu2 hX hD hV.1 n 144 0 n M (by omega) (by omega) ⟨fun _ _ => rfl, fun i' x' hi hx hc => by omega⟩
  obtain ⟨M2, c2, e2⟩ := wu43 hX hV hn DL n M1 (Nat.le_refl _) (by omega) c1
  exact ⟨M2, c2, e1.trans e2⟩
theorem bb_X {q : St} {M0 M : mh_M} {DL : Nat} (hV : DV q.1 DL) (hC : CB q.1 DL 0 144 M0 M) (n : Nat) : ∀ (d x b k : Nat), x + d = 144 → b < x → d < k →
    itr2 (fX2_bestBottles_L6 n M) k (nI b) (nI x) = some (nI (bsF (d9 q.1 DL 0) d x b)) := by
  have h5 := hV.1
  intro d
  induction d with
  | zero =>
    intro x b k hx hb hk
    obtain ⟨k, rfl⟩ : ∃ m, k = m + 1 := ⟨k - 1, by omega⟩
    obtain rfl : x = 144 := by omega
    show fX2_bestBottles_L6 n M (itr2 (fX2_bestBottles_L6 n M) k) (nI b) (nI 144) = some (nI b)
    unfold fX2_bestBottles_L6
    rw [if_pos (show (144 : Int32) ≤ nI 144 by decide)]
  | succ d ih =>
    intro x b k hx hb hk
    obtain ⟨k, rfl⟩ : ∃ m, k = m + 1 := ⟨k - 1, by omega⟩
    have hI := fun b' hb' => ih (x + 1) b' k (by omega) hb' (by omega)
    have l1 := d9_le hV (show 0 ≤ DL by omega) x
    have l2 := d9_le hV (show 0 ≤ DL by omega) b
    show fX2_bestBottles_L6 n M (itr2 (fX2_bestBottles_L6 n M) k) (nI b) (nI x) = some (nI (bsF (d9 q.1 DL 0) d (x + 1) (if d9 q.1 DL 0 b ≤ d9 q.1 DL 0 x then b else x)))
    generalize itr2 (fX2_bestBottles_L6 n M) k = rec at hI ⊢
    unfold fX2_bestBottles_L6
    rw [if_neg (show ¬ (144 : Int32) ≤ nI x from fun z => absurd ((nI_leI (a := 144) (by omega) (by omega)).mp z) (by omega))]
    simp only [show inb (0 : Int32) 6 = true by decide, ck_t, pl_e, cl0, r144 (show x < 144 by omega), r144 (show b < 144 by omega), clN (show x < 2 ^ 31 by omega), clN (show b < 2 ^ 31 by omega), hC.2 0 x (by omega) (by omega) (Or.inr ⟨rfl, by omega⟩), hC.2 0 b (by omega) (by omega) (Or.inr ⟨rfl, by omega⟩), leN (show d9 q.1 DL 0 b < 2 ^ 31 by omega) (show d9 q.1 DL 0 x < 2 ^ 31 by omega), nI_1]
    by_cases h : d9 q.1 DL 0 b ≤ d9 q.1 DL 0 x
    · rw [if_pos h, if_pos h]
      exact hI b (by omega)
    · rw [if_neg h, if_neg h]
      exact hI x (by omega)
