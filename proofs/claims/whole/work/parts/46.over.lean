/-! ===== leans and over, both sides ===== -/
abbrev juP (w : Vw) (kp : Int32) (k s : Nat) : Prop := w 57 s = kp ∧ ¬ w 54 (10 * s + k) = 0 ∧ ¬ w 55 (10 * s + k) ≤ 0
theorem eX_ju {q : St} {M : mh_M} (hX : XS q M) (n : Nat) {s k : Nat} (hs : s < 40) (hk : k < 10) (kp : Int32) : fX7_judges n M s kp (nI k) = some (if juP q.1 kp k s then 1 else 0) := by
  unfold fX7_judges juP
  simp only [pl_e, rX25 hX hs, inbN hk (show 10 ≤ 2 ^ 31 by omega), ck_t, clN (show k < 2 ^ 31 by omega), rX27 hX hs hk, rX26 hX hs hk]
  by_cases h1 : q.1 57 s = kp
  · by_cases h2 : q.1 54 (10 * s + k) = 0
    · rw [if_pos h1, if_pos h2, if_neg (fun z => z.2.1 h2)]
    · by_cases h3 : q.1 55 (10 * s + k) ≤ 0
      · rw [if_pos h1, if_neg h2, if_pos h3, if_neg (fun z => z.2.2 h3)]
      · rw [if_pos h1, if_neg h2, if_neg h3, if_pos ⟨h1, h2, h3⟩]
  · rw [if_neg h1, if_neg (fun z => h1 z.1)]
theorem eM_ju {q : St} {M : mh_M} (hM : MS q M) (n : Nat) {t b k : Nat} (hs : 2 * t + b < 40) (hk : k < 10) (kp : Int32) : fX10_counts n M (nI t) (nI b) kp (nI k) = some (if juP q.1 kp k (2 * t + b) then 1 else 0) := by
  have hj : 10 * (2 * t + b) + k < 400 := by omega
  unfold fX10_counts juP
  simp only [pl_e, eM_at, bd_some, ix2, inbN hs (show 40 ≤ 2 ^ 31 by omega), inbN hj (show 400 ≤ 2 ^ 31 by omega), ck_t, clN (show 2 * t + b < 2 ^ 31 by omega), clN (show 10 * (2 * t + b) + k < 2 ^ 31 by omega), rm57 hM hs, rm54 hM hj, rm55 hM hj]
  by_cases h1 : q.1 57 (2 * t + b) = kp
  · by_cases h2 : q.1 54 (10 * (2 * t + b) + k) = 0
    · rw [if_pos h1, if_pos h2, if_neg (fun z => z.2.1 h2)]
    · by_cases h3 : q.1 55 (10 * (2 * t + b) + k) ≤ 0
      · rw [if_pos h1, if_neg h2, if_pos h3, if_neg (fun z => z.2.2 h3)]
      · rw [if_pos h1, if_neg h2, if_neg h3, if_pos ⟨h1, h2, h3⟩]
  · rw [if_neg h1, if_neg (fun z => h1 z.1)]
theorem eX_sf {q : St} {M : mh_M} (hX : XS q M) (n : Nat) {T : Nat} (hT : q.1 40 11 = nI T) : fX9_sheetsSoFar n M = some (nI (2 * (T + 1))) := by
  unfold fX9_sheetsSoFar
  simp only [pl_e, (rXc11 hX).trans hT, nI_1]
  rw [show nI (T + 1) * (2 : Int32) = nI (2 * (T + 1)) by rw [litN 2, pk_mul, Nat.mul_comm]]
def leS (w : Vw) (kp : Int32) (k s : Nat) (acc : Int32) : Int32 := if juP w kp k s then (if toldV w s k = 0 then acc else acc + 1) else acc
def leF (w : Vw) (kp : Int32) (k : Nat) : Nat → Nat → Int32 → Int32
  | 0, _, acc => acc
  | d + 1, s, acc => leF w kp k d (s + 1) (leS w kp k s acc)
theorem le_X {q : St} {M : mh_M} (hX : XS q M) (n : Nat) {T k : Nat} (hT : q.1 40 11 = nI T) (hT20 : T < 20) (hk : k < 10) (kp : Int32) : ∀ (d s x : Nat) (acc : Int32), s + d = 2 * (T + 1) → d < x →
    itr2 (fX9_leans_L22 n M kp (nI k)) x acc (nI s) = some (leF q.1 kp k d s acc) := by
  intro d
  induction d with
  | zero =>
    intro s x acc hs hx
    obtain ⟨x, rfl⟩ : ∃ m, x = m + 1 := ⟨x - 1, by omega⟩
    show fX9_leans_L22 n M kp (nI k) (itr2 (fX9_leans_L22 n M kp (nI k)) x) acc (nI s) = some acc
    unfold fX9_leans_L22
    rw [eX_sf hX n hT]
    simp only [bd_some]
    rw [if_pos ((nI_leI (by omega) (by omega)).mpr (by omega))]
  | succ d ih =>
    intro s x acc hs hx
    obtain ⟨x, rfl⟩ : ∃ m, x = m + 1 := ⟨x - 1, by omega⟩
    have hI := fun acc => ih (s + 1) x acc (by omega) (by omega)
    have hs40 : s < 40 := by omega
    show fX9_leans_L22 n M kp (nI k) (itr2 (fX9_leans_L22 n M kp (nI k)) x) acc (nI s) = some (leF q.1 kp k d (s + 1) (leS q.1 kp k s acc))
    generalize itr2 (fX9_leans_L22 n M kp (nI k)) x = rec at hI ⊢
    unfold fX9_leans_L22
    rw [eX_sf hX n hT]
    simp only [bd_some]
    rw [if_neg (fun z => absurd ((nI_leI (by omega) (by omega)).mp z) (by omega))]
    simp only [inbN hs40 (show 40 ≤ 2 ^ 31 by omega), ck_t, clN (show s < 2 ^ 31 by omega), pl_e, eX_ju hX n hs40 hk, eX_told hX n hs40 hk, bd_some, b01, nI_1]
    by_cases h1 : juP q.1 kp k s
    · by_cases h2 : toldV q.1 s k = 0
      · simp only [if_pos h1, if_pos h2]
        rw [hI, leS, if_pos h1, if_pos h2]
      · simp only [if_pos h1, if_neg h2]
        rw [hI, leS, if_pos h1, if_neg h2]
    · simp only [if_neg h1]
      rw [hI, leS, if_neg h1]
theorem le_M1 {q : St} {M : mh_M} (hM : MS q M) (n : Nat) {t b k : Nat} (hs : 2 * t + b < 40) (hb : b < 2) (hk : k < 10) (kp : Int32) (d0 : q.1 44 k ≠ 0) (d1 : q.1 44 k ≠ 1) (k24 : Int32 → Int32 → Option Int32) (rec : Int32 → Int32 → Option Int32) (acc : Int32) :
    fX10_leans_L36 n M kp (nI k) (nI t) k24 rec acc (nI b) = rec (leS q.1 kp k (2 * t + b) acc) (nI (b + 1)) := by
  unfold fX10_leans_L36
  rw [if_neg (show ¬ (2 : Int32) ≤ nI b from fun z => absurd ((nI_leI (a := 2) (by omega) (by omega)).mp z) (by omega))]
  simp only [eM_ju hM n hs hk, bd_some, b01, eM_at, eM_told hM n hs hk d0 d1, pl_e, Int32.add_zero, nI_1]
  by_cases h1 : juP q.1 kp k (2 * t + b)
  · by_cases h2 : toldV q.1 (2 * t + b) k = 0
    · simp only [if_pos h1, if_pos h2]
      rw [leS, if_pos h1, if_pos h2]
    · simp only [if_pos h1, if_neg h2]
      rw [leS, if_pos h1, if_neg h2]
  · simp only [if_neg h1]
    rw [leS, if_neg h1]
theorem le_M {q : St} {M : mh_M} (hM : MS q M) {n : Nat} (hn : 20 ≤ n) {T k : Nat} (hT : q.1 40 11 = nI T) (hT20 : T < 20) (hk : k < 10) (kp : Int32) (d0 : q.1 44 k ≠ 0) (d1 : q.1 44 k ≠ 1) : ∀ (d t x : Nat) (acc : Int32), t + d = T + 1 → d < x →
    itr2 (fX10_leans_L24 n M kp (nI k)) x acc (nI t) = some (leF q.1 kp k (2 * d) (2 * t) acc) := by
  intro d
  induction d with
  | zero =>
    intro t x acc ht hx
    obtain ⟨x, rfl⟩ : ∃ m, x = m + 1 := ⟨x - 1, by omega⟩
    show fX10_leans_L24 n M kp (nI k) (itr2 (fX10_leans_L24 n M kp (nI k)) x) acc (nI t) = some acc
    unfold fX10_leans_L24
    simp only [pl_e, (rmc11 hM).trans hT]
    rw [if_pos (nlt (by omega) (by omega))]
  | succ d ih =>
    intro t x acc ht hx
    obtain ⟨x, rfl⟩ : ∃ m, x = m + 1 := ⟨x - 1, by omega⟩
    have hI := fun acc => ih (t + 1) x acc (by omega) (by omega)
    show fX10_leans_L24 n M kp (nI k) (itr2 (fX10_leans_L24 n M kp (nI k)) x) acc (nI t) = some (leF q.1 kp k (2 * d) (2 * t + 1 + 1) (leS q.1 kp k (2 * t + 1) (leS q.1 kp k (2 * t) acc)))
    generalize itr2 (fX10_leans_L24 n M kp (nI k)) x = rec at hI ⊢
    unfold fX10_leans_L24
    simp only [pl_e, (rmc11 hM).trans hT]
    rw [if_neg (nnlt (by omega) (by omega))]
    obtain ⟨n', rfl⟩ : ∃ m, n = m + 3 := ⟨n - 3, by omega⟩
    show fX10_leans_L36 (n' + 3) M kp (nI k) (nI t) rec (itr2 (fX10_leans_L36 (n' + 3) M kp (nI k) (nI t) rec) (n' + 2)) acc (nI 0) = _
    rw [le_M1 hM (n' + 3) (show 2 * t + 0 < 40 by omega) (by omega) hk kp d0 d1]
    show fX10_leans_L36 (n' + 3) M kp (nI k) (nI t) rec (itr2 (fX10_leans_L36 (n' + 3) M kp (nI k) (nI t) rec) (n' + 1)) _ (nI 1) = _
    rw [le_M1 hM (n' + 3) (show 2 * t + 1 < 40 by omega) (by omega) hk kp d0 d1]
    show fX10_leans_L36 (n' + 3) M kp (nI k) (nI t) rec (itr2 (fX10_leans_L36 (n' + 3) M kp (nI k) (nI t) rec) n') _ (nI 2) = _
    generalize itr2 (fX10_leans_L36 (n' + 3) M kp (nI k) (nI t) rec) n' = rec2
    unfold fX10_leans_L36
    rw [if_pos (show (2 : Int32) ≤ nI 2 by decide)]
    simp only [pl_e, nI_1]
    rw [hI]
    rfl
theorem s_leans {c : Nat} {q : St} {M M' : mh_M} (hX : XS q M) (hM : MS q M') (hI : Inv c q) (n : Nat) (hnn : 300 ≤ n) (a0 a1 : Int32) : BothP (fX9_leans n M a0 a1) (fX10_leans n M' a0 a1) := by
  unfold fX9_leans fX10_leans
  obtain ⟨K, Rc, T, A, FT, PR, DL, hn, hb, i1, i2, i3, i4, i5, i6, i7⟩ := id hI
  simp only [eX_isKeeper, eM_in, eX_isKind, eM_isKind, bd_some, b01, (rXc0 hX).trans hn.1, (rmc0 hM).trans hn.1]
  by_cases h1 : (0 : Int32) ≤ a0 ∧ a0 ≤ 2
  case neg => exact ⟨_, if_neg h1, if_neg h1⟩
  simp only [if_pos h1]
  by_cases h2 : 0 ≤ a1 ∧ a1 ≤ nI K - 1
  case neg => exact ⟨_, if_neg h2, if_neg h2⟩
  simp only [if_pos h2]
  obtain ⟨k, hk, rfl⟩ := iK h2 (by omega)
  obtain ⟨d0, d1⟩ := dn i1 hk
  exact ⟨_, le_X hX n hn.2.2.1 (by omega) (by omega) a0 (2 * (T + 1)) 0 n 0 (by omega) (by omega), le_M hM (n := n) (by omega) hn.2.2.1 (by omega) (by omega) a0 d0 d1 (T + 1) 0 n 0 (by omega) (by omega)⟩
/-! ===== longs, by naturals ===== -/
def nL (k : Nat) : Int64 := Int64.ofInt k
theorem nL_toInt {k : Nat} (h : k < 2 ^ 63) : (nL k).toInt = k := Int64.toInt_ofInt_of_le (by omega) (by omega)
theorem nL_inj {x : Int64} {k : Nat} (hk : k < 2 ^ 63) (h : x.toInt = k) : x = nL k := Int64.toInt_inj.mp (h.trans (nL_toInt hk).symm)
theorem nL_mod {a b : Nat} (ha : a < 2 ^ 62) (hb : b < 2 ^ 62) : nL a - nL a / nL b * nL b = nL (a % b) := by
  have hd : (nL a / nL b).toInt = ((a / b : Nat) : Int) := by
    have hle : a / b ≤ a := Nat.div_le_self a b
    rw [Int64.toInt_div, nL_toInt (by omega), nL_toInt (by omega)]
    rw [show (a : Int).tdiv (b : Int) = ((a / b : Nat) : Int) from (Int.ofNat_tdiv a b).symm]
    generalize a / b = d at hle ⊢
    exact Int.bmod_eq_of_le (by omega) (by omega)
  have hm : (nL a / nL b * nL b).toInt = ((a / b * b : Nat) : Int) := by
    have hle : a / b * b ≤ a := Nat.div_mul_le_self a b
    rw [Int64.toInt_mul, hd, nL_toInt (by omega), ← Int.natCast_mul]
    generalize a / b * b = d at hle ⊢
    exact Int.bmod_eq_of_le (by omega) (by omega)
  have hle : a / b * b ≤ a := Nat.div_mul_le_self a b
  have hmod : a % b ≤ a := Nat.mod_le a b
  have e : a % b = a - a / b * b := by
    have := Nat.div_add_mod a b
    have h2 : b * (a / b) = a / b * b := Nat.mul_comm _ _
    omega
  apply nL_inj (by omega)
  rw [Int64.toInt_sub, hm, nL_toInt (by omega)]
  rw [Int.bmod_eq_of_le (by omega) (by omega)]
  omega
theorem nL_0 {k : Nat} (h : k < 2 ^ 63) : nL k = 0 ↔ k = 0 := by
  constructor
  · intro z
    have := congrArg Int64.toInt z
    rw [nL_toInt h] at this
    have h2 : (k : Int) = 0 := this
    omega
  · rintro rfl
    rfl
def euF : Nat → Nat → Nat → Option Nat
  | 0, _, _ => none
  | f + 1, a, b => if b = 0 then some a else euF f b (a % b)
theorem eu_end : ∀ (m f a b : Nat), b < 2 ^ m → 2 * m + 1 ≤ f → euF f a b ≠ none := by
  intro m
  induction m with
  | zero =>
    intro f a b hb hf
    obtain ⟨f, rfl⟩ : ∃ k, f = k + 1 := ⟨f - 1, by omega⟩
    unfold euF
    rw [if_pos (by omega)]
    simp
  | succ m ih =>
    intro f a b hb hf
    obtain ⟨f, rfl⟩ : ∃ k, f = k + 2 := ⟨f - 2, by omega⟩
    unfold euF
    by_cases h : b = 0
    · rw [if_pos h]
      simp
    · rw [if_neg h]
      have h1 : a % b < b := Nat.mod_lt _ (by omega)
      unfold euF
      by_cases h2 : a % b = 0
      · rw [if_pos h2]
        simp
      · rw [if_neg h2]
        have h3 : b % (a % b) < a % b := Nat.mod_lt _ (by omega)
        apply ih
        · have h4 := Nat.div_add_mod b (a % b)
          have h5 : 1 ≤ b / (a % b) := Nat.div_pos (by omega) (by omega)
          have h6 : a % b * 1 ≤ a % b * (b / (a % b)) := Nat.mul_le_mul_left _ h5
          rw [Nat.pow_succ] at hb
          omega
        · omega
theorem eu_pos : ∀ (f a b g : Nat), euF f a b = some g → (0 < a ∨ 0 < b) → 0 < g := by
  intro f
  induction f with
  | zero => intro a b g h; exact nomatch h
  | succ f ih =>
    intro a b g h hp
    unfold euF at h
    by_cases hb : b = 0
    · rw [if_pos hb] at h
      cases h
      omega
    · rw [if_neg hb] at h
      exact ih _ _ _ h (Or.inl (by omega))
theorem eu_le : ∀ (f a b g : Nat), euF f a b = some g → g ≤ a + b := by
  intro f
  induction f with
  | zero => intro a b g h; exact nomatch h
  | succ f ih =>
    intro a b g h
    unfold euF at h
    by_cases hb : b = 0
    · rw [if_pos hb] at h
      cases h
      omega
    · rw [if_neg hb] at h
      have := ih _ _ _ h
      have := Nat.mod_le a b
      omega
theorem eu_X (n : Nat) (M : mh_M) : ∀ (f a b g i x : Nat), euF f a b = some g → 0 < g → a < 2 ^ 62 → b < 2 ^ 62 → i + f ≤ 100 → f ≤ x → itr3 (fX9_commonDivisor_L3 n M) x (nL a) (nL b) (nI i) = some (nL g) := by
  intro f
  induction f with
  | zero => intro a b g i x h; exact nomatch h
  | succ f ih =>
    intro a b g i x h hg ha hb hi hx
    obtain ⟨x, rfl⟩ : ∃ m, x = m + 1 := ⟨x - 1, by omega⟩
    have hI := fun b' h' hb' => ih b b' g (i + 1) x h' hg hb hb' (by omega) (by omega)
    show fX9_commonDivisor_L3 n M (itr3 (fX9_commonDivisor_L3 n M) x) (nL a) (nL b) (nI i) = _
    generalize itr3 (fX9_commonDivisor_L3 n M) x = rec at hI ⊢
    unfold fX9_commonDivisor_L3
    rw [if_neg (show ¬ (100 : Int32) ≤ nI i from fun z => absurd ((nI_leI (a := 100) (by omega) (by omega)).mp z) (by omega))]
    simp only [pl_e, nI_1]
    unfold euF at h
    by_cases h0 : b = 0
    · rw [if_pos h0] at h
      cases h
      rw [if_pos ((lg_cmp_eq _ _).mpr ((nL_0 (by omega)).mpr h0)), if_neg (fun z => absurd ((nL_0 (by omega)).mp ((lg_cmp_eq _ _).mp z)) (by omega))]
    · rw [if_neg h0] at h
      have hz : ¬ nL b = 0 := fun z => h0 ((nL_0 (by omega)).mp z)
      rw [if_neg (fun z => hz ((lg_cmp_eq _ _).mp z)), nzL hz, ck_t, nL_mod ha hb]
      exact hI _ h (by have := Nat.mod_le a b; omega)
theorem eu_M (n : Nat) (M : mh_M) : ∀ (f a b g x : Nat), euF f a b = some g → a < 2 ^ 62 → b < 2 ^ 62 → f ≤ x → itr2 (fX10_common_L17 n M) x (nL a) (nL b) = some (nL g) := by
  intro f
  induction f with
  | zero => intro a b g x h; exact nomatch h
  | succ f ih =>
    intro a b g x h ha hb hx
    obtain ⟨x, rfl⟩ : ∃ m, x = m + 1 := ⟨x - 1, by omega⟩
    have hI := fun b' h' hb' => ih b b' g x h' hb hb' (by omega)
    show fX10_common_L17 n M (itr2 (fX10_common_L17 n M) x) (nL a) (nL b) = _
    generalize itr2 (fX10_common_L17 n M) x = rec at hI ⊢
    unfold fX10_common_L17
    simp only [pl_e]
    unfold euF at h
    by_cases h0 : b = 0
    · rw [if_pos h0] at h
      cases h
      rw [if_pos ((lg_cmp_eq _ _).mpr ((nL_0 (by omega)).mpr h0))]
    · rw [if_neg h0] at h
      have hz : ¬ nL b = 0 := fun z => h0 ((nL_0 (by omega)).mp z)
      rw [if_neg (fun z => hz ((lg_cmp_eq _ _).mp z)), nzL hz, ck_t, nL_mod ha hb]
      exact hI _ h (by have := Nat.mod_le a b; omega)
