/-! ===== over, both sides ===== -/
theorem nL_add {a b : Nat} (h : a + b < 2 ^ 62) : nL a + nL b = nL (a + b) := by
  apply nL_inj (by omega)
  rw [Int64.toInt_add, nL_toInt (by omega), nL_toInt (by omega)]
  exact (Int.bmod_eq_of_le (by omega) (by omega)).trans (by omega)
theorem nL_mul {a b : Nat} (ha : a ≤ 2 ^ 20) (hb : b ≤ 2 ^ 20) : nL a * nL b = nL (a * b) := by
  have h : a * b ≤ 2 ^ 20 * 2 ^ 20 := Nat.mul_le_mul ha hb
  apply nL_inj (by omega)
  rw [Int64.toInt_mul, nL_toInt (by omega), nL_toInt (by omega), ← Int.natCast_mul]
  generalize a * b = d at h ⊢
  exact Int.bmod_eq_of_le (by omega) (by omega)
theorem nI_64 {a : Nat} (h : a < 2 ^ 31) : (nI a).toInt64 = nL a := by
  apply nL_inj (by omega)
  rw [Int32.toInt_toInt64, nI_toInt h]
theorem mul_b {a : Nat} {g : Int32} (ha : a ≤ 2 ^ 16) : -(2 ^ 47 : Int) ≤ (nL a * g.toInt64).toInt ∧ (nL a * g.toInt64).toInt ≤ 2 ^ 47 := by
  have h1 := Int32.le_toInt g
  have h2 := Int32.toInt_lt g
  have e : (a : Int) * g.toInt ≤ 2 ^ 16 * 2 ^ 31 ∧ -(2 ^ 16 * 2 ^ 31) ≤ (a : Int) * g.toInt := by
    have h3 : (a : Int) * g.toInt ≤ (a : Int) * 2 ^ 31 := Int.mul_le_mul_of_nonneg_left (by omega) (by omega)
    have h4 : (a : Int) * -(2 ^ 31) ≤ (a : Int) * g.toInt := Int.mul_le_mul_of_nonneg_left (by omega) (by omega)
    omega
  rw [Int64.toInt_mul, nL_toInt (by omega), Int32.toInt_toInt64]
  generalize (a : Int) * g.toInt = d at e ⊢
  rw [Int.bmod_eq_of_le (by omega) (by omega)]
  omega
abbrev OvS : Type := Nat × Int64 × Nat
def ovS (w : Vw) (kp : Int32) (k s : Nat) (st : OvS) : OvS := if juP w kp k s then (st.1 + 1, st.2.1 + nL (w 55 (10 * s + k)).toNatClampNeg * (w 53 (10 * s + k)).toInt64, st.2.2 + (w 55 (10 * s + k)).toNatClampNeg * (w 55 (10 * s + k)).toNatClampNeg) else st
def ovF (w : Vw) (kp : Int32) (k : Nat) : Nat → Nat → OvS → OvS
  | 0, _, st => st
  | d + 1, s, st => ovF w kp k d (s + 1) (ovS w kp k s st)
def OB (s : Nat) (st : OvS) : Prop := st.1 ≤ s ∧ -((s : Int) * 2 ^ 47) ≤ st.2.1.toInt ∧ st.2.1.toInt ≤ (s : Int) * 2 ^ 47 ∧ st.1 ≤ st.2.2 ∧ st.2.2 ≤ s * 2 ^ 32
theorem jub {w : Vw} {kp : Int32} {k s : Nat} (h : juP w kp k s) {c : Nat} (hc : c < 512) (h3 : (w 55 (10 * s + k)).toInt ≤ 100 * (c : Int)) : ∃ d : Nat, 1 ≤ d ∧ d ≤ 51200 ∧ w 55 (10 * s + k) = nI d ∧ (w 55 (10 * s + k)).toNatClampNeg = d := by
  have h0 := (i32_pos _).mp (Int32.not_le.mp h.2.2)
  obtain ⟨d, hd, e⟩ := gIn (a := w 55 (10 * s + k)) (m := 51200) (by omega) ⟨Int32.le_iff_toInt_le.mpr (by show (0 : Int) ≤ _; omega), Int32.le_iff_toInt_le.mpr (by rw [nI_toInt (by omega)]; omega)⟩
  rw [e] at h0 ⊢
  rw [nI_toInt (by omega)] at h0
  exact ⟨d, by omega, hd, rfl, clN (by omega)⟩
theorem OB_step {w : Vw} {kp : Int32} {k s : Nat} {st : OvS} (hs : s < 40) (hb : OB s st) {c : Nat} (hc : c < 512) (h3 : (w 55 (10 * s + k)).toInt ≤ 100 * (c : Int)) : OB (s + 1) (ovS w kp k s st) := by
  obtain ⟨b1, b2, b3, b4, b5⟩ := hb
  unfold ovS
  by_cases h : juP w kp k s
  · rw [if_pos h]
    obtain ⟨d, d1, d2, -, d4⟩ := jub h hc h3
    rw [d4]
    have hm := mul_b (a := d) (g := w 53 (10 * s + k)) (by omega)
    have hq : d * d ≤ 51200 * 51200 := Nat.mul_le_mul d2 d2
    have hq1 : 1 * 1 ≤ d * d := Nat.mul_le_mul d1 d1
    generalize nL d * (w 53 (10 * s + k)).toInt64 = x at hm ⊢
    generalize d * d = y at hq hq1 ⊢
    refine ⟨by show st.1 + 1 ≤ s + 1; omega, ?_, ?_, by show st.1 + 1 ≤ st.2.2 + y; omega, by show st.2.2 + y ≤ (s + 1) * 2 ^ 32; omega⟩
    · show -(((s + 1 : Nat) : Int) * 2 ^ 47) ≤ (st.2.1 + x).toInt
      rw [Int64.toInt_add, Int.bmod_eq_of_le (by omega) (by omega)]
      omega
    · show (st.2.1 + x).toInt ≤ ((s + 1 : Nat) : Int) * 2 ^ 47
      rw [Int64.toInt_add, Int.bmod_eq_of_le (by omega) (by omega)]
      omega
  · rw [if_neg h]
    refine ⟨by show st.1 ≤ s + 1; omega, ?_, ?_, b4, Nat.le_trans b5 (Nat.mul_le_mul_right _ (Nat.le_succ s))⟩
    · show -(((s + 1 : Nat) : Int) * 2 ^ 47) ≤ st.2.1.toInt
      omega
    · show st.2.1.toInt ≤ ((s + 1 : Nat) : Int) * 2 ^ 47
      omega
def euV (a b : Nat) : Nat := match euF 77 a b with
  | some g => g
  | none => 1
theorem euV_e {a b : Nat} (hb : b < 2 ^ 38) (h0 : 0 < b) (ha : a < 2 ^ 61) : euF 77 a b = some (euV a b) ∧ 0 < euV a b ∧ euV a b < 2 ^ 62 := by
  have h := eu_end 38 77 a b hb (by omega)
  unfold euV
  cases e : euF 77 a b with
  | none => exact absurd e h
  | some g => exact ⟨rfl, eu_pos 77 a b g e (Or.inr h0), by have := eu_le 77 a b g e; show g < 2 ^ 62; omega⟩
def ovA (x3 : Int32) (st : OvS) : Int64 := if 3 ≤ st.1 then (if x3 = 0 then st.2.1 / nL (euV st.2.1.toInt.natAbs st.2.2) else nL st.2.2 / nL (euV st.2.1.toInt.natAbs st.2.2)) else -1000000004
theorem pos64 (x : Int64) : 0 < x ↔ 0 < x.toInt := Int64.lt_iff_toInt_lt
theorem abs_p {x : Int64} (h : 0 ≤ x.toInt) : x = nL x.toInt.natAbs := nL_inj (by have := Int64.toInt_lt x; omega) (by omega)
theorem abs_n {x : Int64} (h : x.toInt ≤ 0) (h2 : -(2 ^ 60) ≤ x.toInt) : -x = nL x.toInt.natAbs := nL_inj (by omega) (by
  rw [Int64.toInt_neg, Int.bmod_eq_of_le (by omega) (by omega)]
  omega)
theorem ov_X {q : St} {M : mh_M} (hX : XS q M) {n : Nat} (hn : 200 ≤ n) {T k c : Nat} (hT : q.1 40 11 = nI T) (hT20 : T < 20) (hk : k < 10) (hc : c < 512) (i3 : ∀ j, j < 400 → -(100 * (c : Int)) ≤ (q.1 55 j).toInt ∧ (q.1 55 j).toInt ≤ 100 * (c : Int)) (kp x3 : Int32) : ∀ (d s x : Nat) (st : OvS), OB s st → s + d = 2 * (T + 1) → d < x →
    itr4 (fX9_over_L40 n M kp (nI k) x3) x (nI st.1) st.2.1 (nL st.2.2) (nI s) = some (ovA x3 (ovF q.1 kp k d s st)) := by
  intro d
  induction d with
  | zero =>
    intro s x st hb hs hx
    obtain ⟨x, rfl⟩ : ∃ m, x = m + 1 := ⟨x - 1, by omega⟩
    obtain ⟨b1, b2, b3, b4, b5⟩ := hb
    show fX9_over_L40 n M kp (nI k) x3 (itr4 (fX9_over_L40 n M kp (nI k) x3) x) (nI st.1) st.2.1 (nL st.2.2) (nI s) = some (ovA x3 st)
    generalize itr4 (fX9_over_L40 n M kp (nI k) x3) x = rec
    unfold fX9_over_L40 ovA
    rw [eX_sf hX n hT]
    simp only [bd_some]
    rw [if_pos ((nI_leI (by omega) (by omega)).mpr (by omega))]
    by_cases h3 : 3 ≤ st.1
    · rw [if_pos (show (3 : Int32) ≤ nI st.1 from (nI_leI (a := 3) (by omega) (by omega)).mpr h3), if_pos h3]
      obtain ⟨g1, g2, g3⟩ := euV_e (a := st.2.1.toInt.natAbs) (b := st.2.2) (by omega) (by omega) (by omega)
      have eA : (if 0 < st.2.1 then st.2.1 else -st.2.1) = nL st.2.1.toInt.natAbs := by
        by_cases h : 0 < st.2.1
        · rw [if_pos h]
          exact abs_p (by have := (pos64 _).mp h; omega)
        · rw [if_neg h]
          exact abs_n (by have h9 : ¬ 0 < st.2.1.toInt := fun z => h ((pos64 _).mpr z); omega) (by omega)
      have eG : fX9_commonDivisor n M (nL st.2.1.toInt.natAbs) (nL st.2.2) = some (nL (euV st.2.1.toInt.natAbs st.2.2)) := eu_X n M 77 _ _ _ 0 n g1 g2 (by omega) (by omega) (by omega) (by omega)
      have hz : ¬ nL (euV st.2.1.toInt.natAbs st.2.2) = 0 := fun z => absurd ((nL_0 (by omega)).mp z) (by omega)
      simp only [eA, pl_e, eG, bd_some, nzL hz, ck_t]
      by_cases h5 : x3 = 0
      · rw [if_pos h5, if_pos h5]
      · rw [if_neg h5, if_neg h5]
    · rw [if_neg (show ¬ (3 : Int32) ≤ nI st.1 from fun z => h3 ((nI_leI (a := 3) (by omega) (by omega)).mp z)), if_neg h3]
  | succ d ih =>
    intro s x st hb hs hx
    obtain ⟨x, rfl⟩ : ∃ m, x = m + 1 := ⟨x - 1, by omega⟩
    have hs40 : s < 40 := by omega
    have h3 := (i3 (10 * s + k) (by omega)).2
    have hI := ih (s + 1) x (ovS q.1 kp k s st) (OB_step hs40 hb hc h3) (by omega) (by omega)
    obtain ⟨b1, b2, b3, b4, b5⟩ := hb
    show fX9_over_L40 n M kp (nI k) x3 (itr4 (fX9_over_L40 n M kp (nI k) x3) x) (nI st.1) st.2.1 (nL st.2.2) (nI s) = some (ovA x3 (ovF q.1 kp k d (s + 1) (ovS q.1 kp k s st)))
    generalize itr4 (fX9_over_L40 n M kp (nI k) x3) x = rec at hI ⊢
    unfold fX9_over_L40
    rw [eX_sf hX n hT]
    simp only [bd_some]
    rw [if_neg (fun z => absurd ((nI_leI (by omega) (by omega)).mp z) (by omega))]
    simp only [inbN hs40 (show 40 ≤ 2 ^ 31 by omega), ck_t, clN (show s < 2 ^ 31 by omega), pl_e, eX_ju hX n hs40 hk, bd_some, b01, nI_1]
    by_cases h1 : juP q.1 kp k s
    · obtain ⟨dn, d1, d2, d3, d4⟩ := jub h1 hc h3
      have hq : dn * dn ≤ 51200 * 51200 := Nat.mul_le_mul d2 d2
      have e : ovS q.1 kp k s st = (st.1 + 1, st.2.1 + nL dn * (q.1 53 (10 * s + k)).toInt64, st.2.2 + dn * dn) := by
        unfold ovS
        rw [if_pos h1, d4]
      rw [e] at hI ⊢
      have e2 : nL st.2.2 + nL dn * nL dn = nL (st.2.2 + dn * dn) := by
        rw [nL_mul (by omega) (by omega)]
        exact nL_add (by omega)
      simp only [if_pos h1, inbN hk (show 10 ≤ 2 ^ 31 by omega), ck_t, clN (show k < 2 ^ 31 by omega), rX26 hX hs40 hk, rX28 hX hs40 hk h1.2.1, d3, nI_64 (show dn < 2 ^ 31 by omega), e2]
      exact hI
    · have e : ovS q.1 kp k s st = st := if_neg h1
      rw [e] at hI ⊢
      simp only [if_neg h1]
      exact hI
theorem ov_M1 {q : St} {M : mh_M} (hM : MS q M) (n : Nat) {t b k c : Nat} (hs : 2 * t + b < 40) (hb : b < 2) (hk : k < 10) (hc : c < 512) (h3 : (q.1 55 (10 * (2 * t + b) + k)).toInt ≤ 100 * (c : Int)) (kp x3 : Int32) (k42 rec : Int32 → Int64 → Int64 → Int32 → Option Int64) {st : OvS} (hB : OB (2 * t + b) st) :
    fX10_over_L54 n M kp (nI k) x3 (nI t) k42 rec (nI st.1) st.2.1 (nL st.2.2) (nI b) = rec (nI (ovS q.1 kp k (2 * t + b) st).1) (ovS q.1 kp k (2 * t + b) st).2.1 (nL (ovS q.1 kp k (2 * t + b) st).2.2) (nI (b + 1)) := by
  obtain ⟨b1, b2, b3, b4, b5⟩ := hB
  have hj : 10 * (2 * t + b) + k < 400 := by omega
  unfold fX10_over_L54
  rw [if_neg (show ¬ (2 : Int32) ≤ nI b from fun z => absurd ((nI_leI (a := 2) (by omega) (by omega)).mp z) (by omega))]
  simp only [eM_ju hM n hs hk, bd_some, b01, eM_at, pl_e, nI_1]
  by_cases h1 : juP q.1 kp k (2 * t + b)
  · obtain ⟨dn, d1, d2, d3, d4⟩ := jub h1 hc h3
    have hq : dn * dn ≤ 51200 * 51200 := Nat.mul_le_mul d2 d2
    have e : ovS q.1 kp k (2 * t + b) st = (st.1 + 1, st.2.1 + nL dn * (q.1 53 (10 * (2 * t + b) + k)).toInt64, st.2.2 + dn * dn) := by
      unfold ovS
      rw [if_pos h1, d4]
    rw [e]
    have e2 : nL st.2.2 + nL dn * nL dn = nL (st.2.2 + dn * dn) := by
      rw [nL_mul (by omega) (by omega)]
      exact nL_add (by omega)
    simp only [if_pos h1, inbN hj (show 400 ≤ 2 ^ 31 by omega), ck_t, clN (show 10 * (2 * t + b) + k < 2 ^ 31 by omega), rm55 hM hj, rM53 hM hj h1.2.1, d3, nI_64 (show dn < 2 ^ 31 by omega), e2, Int64.mul_comm (q.1 53 (10 * (2 * t + b) + k)).toInt64 (nL dn)]
  · have e : ovS q.1 kp k (2 * t + b) st = st := if_neg h1
    rw [e]
    simp only [if_neg h1]
theorem ov_M {q : St} {M : mh_M} (hM : MS q M) {n : Nat} (hn : 200 ≤ n) {T k c : Nat} (hT : q.1 40 11 = nI T) (hT20 : T < 20) (hk : k < 10) (hc : c < 512) (i3 : ∀ j, j < 400 → -(100 * (c : Int)) ≤ (q.1 55 j).toInt ∧ (q.1 55 j).toInt ≤ 100 * (c : Int)) (kp x3 : Int32) : ∀ (d t x : Nat) (st : OvS), OB (2 * t) st → t + d = T + 1 → d < x →
    itr4 (fX10_over_L42 n M kp (nI k) x3) x (nI st.1) st.2.1 (nL st.2.2) (nI t) = some (ovA x3 (ovF q.1 kp k (2 * d) (2 * t) st)) := by
  intro d
  induction d with
  | zero =>
    intro s x st hb hs hx
    obtain ⟨x, rfl⟩ : ∃ m, x = m + 1 := ⟨x - 1, by omega⟩
    obtain ⟨b1, b2, b3, b4, b5⟩ := hb
    show fX10_over_L42 n M kp (nI k) x3 (itr4 (fX10_over_L42 n M kp (nI k) x3) x) (nI st.1) st.2.1 (nL st.2.2) (nI s) = some (ovA x3 st)
    generalize itr4 (fX10_over_L42 n M kp (nI k) x3) x = rec
    unfold fX10_over_L42 ovA
    simp only [pl_e, (rmc11 hM).trans hT]
    rw [if_pos (nlt (by omega) (by omega))]
    by_cases h3 : 3 ≤ st.1
    · rw [if_pos (show (3 : Int32) ≤ nI st.1 from (nI_leI (a := 3) (by omega) (by omega)).mpr h3), if_pos h3]
      obtain ⟨g1, g2, g3⟩ := euV_e (a := st.2.1.toInt.natAbs) (b := st.2.2) (by omega) (by omega) (by omega)
      have eG : fX10_common n M st.2.1 (nL st.2.2) = some (nL (euV st.2.1.toInt.natAbs st.2.2)) := by
        unfold fX10_common
        simp only [pl_e]
        have hh := eu_M n M 77 _ _ _ n g1 (by omega) (by omega) (by omega)
        by_cases h : 0 ≤ lg_cmp st.2.1 0
        · rw [if_pos h]
          have h' : (0 : Int) ≤ st.2.1.toInt := Int64.le_iff_toInt_le.mp ((lg_cmp_ge _ _).mp h)
          rw [← abs_p h'] at hh
          exact hh
        · rw [if_neg h]
          have h' : st.2.1.toInt ≤ 0 := by
            have h2 : ¬ (0 : Int64) ≤ st.2.1 := fun z => h ((lg_cmp_ge _ _).mpr z)
            have h4 : ¬ (0 : Int) ≤ st.2.1.toInt := fun z => h2 (Int64.le_iff_toInt_le.mpr z)
            omega
          rw [← abs_n h' (by omega)] at hh
          exact hh
      have hz : ¬ nL (euV st.2.1.toInt.natAbs st.2.2) = 0 := fun z => absurd ((nL_0 (by omega)).mp z) (by omega)
      simp only [eG, bd_some, nzL hz, ck_t]
      by_cases h5 : x3 = 0
      · rw [if_pos h5, if_pos h5]
      · rw [if_neg h5, if_neg h5]
    · rw [if_neg (show ¬ (3 : Int32) ≤ nI st.1 from fun z => h3 ((nI_leI (a := 3) (by omega) (by omega)).mp z)), if_neg h3]
  | succ d ih =>
    intro t x st hb ht hx
    obtain ⟨x, rfl⟩ : ∃ m, x = m + 1 := ⟨x - 1, by omega⟩
    have hB1 := OB_step (w := q.1) (kp := kp) (k := k) (show 2 * t < 40 by omega) hb hc (i3 (10 * (2 * t) + k) (by omega)).2
    have hB2 := OB_step (w := q.1) (kp := kp) (k := k) (show 2 * t + 1 < 40 by omega) hB1 hc (i3 (10 * (2 * t + 1) + k) (by omega)).2
    have hI := ih (t + 1) x (ovS q.1 kp k (2 * t + 1) (ovS q.1 kp k (2 * t) st)) hB2 (by omega) (by omega)
    show fX10_over_L42 n M kp (nI k) x3 (itr4 (fX10_over_L42 n M kp (nI k) x3) x) (nI st.1) st.2.1 (nL st.2.2) (nI t) = some (ovA x3 (ovF q.1 kp k (2 * d) (2 * t + 1 + 1) (ovS q.1 kp k (2 * t + 1) (ovS q.1 kp k (2 * t) st))))
    generalize itr4 (fX10_over_L42 n M kp (nI k) x3) x = rec at hI ⊢
    unfold fX10_over_L42
    simp only [pl_e, (rmc11 hM).trans hT]
    rw [if_neg (nnlt (by omega) (by omega))]
    obtain ⟨n', rfl⟩ : ∃ m, n = m + 3 := ⟨n - 3, by omega⟩
    show fX10_over_L54 (n' + 3) M kp (nI k) x3 (nI t) rec (itr4 (fX10_over_L54 (n' + 3) M kp (nI k) x3 (nI t) rec) (n' + 2)) (nI st.1) st.2.1 (nL st.2.2) (nI 0) = _
    rw [ov_M1 hM (n' + 3) (show 2 * t + 0 < 40 by omega) (by omega) hk hc (i3 (10 * (2 * t + 0) + k) (by omega)).2 kp x3 rec _ hb]
    show fX10_over_L54 (n' + 3) M kp (nI k) x3 (nI t) rec (itr4 (fX10_over_L54 (n' + 3) M kp (nI k) x3 (nI t) rec) (n' + 1)) (nI (ovS q.1 kp k (2 * t) st).1) (ovS q.1 kp k (2 * t) st).2.1 (nL (ovS q.1 kp k (2 * t) st).2.2) (nI 1) = _
    rw [ov_M1 hM (n' + 3) (show 2 * t + 1 < 40 by omega) (by omega) hk hc (i3 (10 * (2 * t + 1) + k) (by omega)).2 kp x3 rec _ hB1]
    show fX10_over_L54 (n' + 3) M kp (nI k) x3 (nI t) rec (itr4 (fX10_over_L54 (n' + 3) M kp (nI k) x3 (nI t) rec) n') _ _ _ (nI 2) = _
    generalize itr4 (fX10_over_L54 (n' + 3) M kp (nI k) x3 (nI t) rec) n' = rec2
    unfold fX10_over_L54
    rw [if_pos (show (2 : Int32) ≤ nI 2 by decide)]
    simp only [pl_e, nI_1]
    exact hI
theorem s_over {c : Nat} {q : St} {M M' : mh_M} (hX : XS q M) (hM : MS q M') (hI : Inv c q) (hc : c < 512) (n : Nat) (hnn : 300 ≤ n) (a0 a1 a2 : Int32) : BothP (fX9_over n M a0 a1 a2) (fX10_over n M' a0 a1 a2) := by
  unfold fX9_over fX10_over
  obtain ⟨K, Rc, T, A, FT, PR, DL, hn, hb, i1, i2, i3, i4, i5, i6, i7⟩ := id hI
  simp only [eX_isKeeper, eX_isIn, eM_in, eX_isKind, eM_isKind, bd_some, b01, (rXc0 hX).trans hn.1, (rmc0 hM).trans hn.1]
  by_cases h1 : (0 : Int32) ≤ a0 ∧ a0 ≤ 2
  case neg => exact ⟨_, if_neg h1, if_neg h1⟩
  simp only [if_pos h1]
  by_cases h2 : 0 ≤ a1 ∧ a1 ≤ nI K - 1
  case neg => exact ⟨_, if_neg h2, if_neg h2⟩
  simp only [if_pos h2]
  by_cases h3 : (0 : Int32) ≤ a2 ∧ a2 ≤ 1
  case neg => exact ⟨_, if_neg h3, if_neg h3⟩
  simp only [if_pos h3]
  obtain ⟨k, hk, rfl⟩ := iK h2 (by omega)
  have hB : OB 0 (0, 0, 0) := ⟨Nat.le_refl _, by decide, by decide, Nat.le_refl _, Nat.le_refl _⟩
  exact ⟨_, ov_X hX (n := n) (by omega) hn.2.2.1 (by omega) (by omega) hc i3 a0 a2 (2 * (T + 1)) 0 n (0, 0, 0) hB (by omega) (by omega), ov_M hM (n := n) (by omega) hn.2.2.1 (by omega) (by omega) hc i3 a0 a2 (T + 1) 0 n (0, 0, 0) hB (by omega) (by omega)⟩
