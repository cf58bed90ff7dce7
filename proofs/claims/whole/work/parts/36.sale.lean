/-! ===== drinks SOLD, and taken back ===== -/
def stepK (w : Vw) (b s r x : Nat) (y : Int32) : Vw := vu (vu (vu w 51 (10 * b + x) (w 51 (10 * b + x) - y * w 47 (10 * r + x) * 6)) 58 (5 * x) (w 58 (5 * x) + y * w 47 (10 * r + x) * 6)) 55 (10 * s + x) (w 55 (10 * s + x) + (if 0 < w 47 (10 * r + x) then y else 0))
def saleF (b s r : Nat) (y : Int32) : Nat → Nat → Vw → Vw
  | 0 => fun _ w => w
  | d + 1 => fun x w => saleF b s r y d (x + 1) (stepK w b s r x y)
theorem stepK_t {w : Vw} {b s r x t j : Nat} {y : Int32} (h1 : t ≠ 51) (h2 : t ≠ 58) (h3 : t ≠ 55) : stepK w b s r x y t j = w t j := by
  unfold stepK
  simp (disch := omega) only [vu_t]
theorem saleF_t {b s r : Nat} {y : Int32} {t j : Nat} (h1 : t ≠ 51) (h2 : t ≠ 58) (h3 : t ≠ 55) : ∀ (d x : Nat) (w : Vw), saleF b s r y d x w t j = w t j := by
  intro d
  induction d with
  | zero => intro x w; rfl
  | succ d ih =>
    intro x w
    show saleF b s r y d (x + 1) (stepK w b s r x y) t j = _
    rw [ih, stepK_t h1 h2 h3]
theorem stepK_0 {w : Vw} {b s r x : Nat} {y : Int32} (h : w 47 (10 * r + x) = nI 0) : stepK w b s r x y = w := by
  unfold stepK
  rw [h]
  have e1 : y * nI 0 * 6 = 0 := by
    rw [show nI 0 = (0 : Int32) from rfl, Int32.mul_zero, Int32.zero_mul]
  rw [e1, if_neg (show ¬ (0 : Int32) < nI 0 from by decide), Int32.sub_zero, Int32.add_zero, Int32.add_zero, vu_self, vu_self, vu_self]
theorem six (p y : Int32) : (6 : Int32) * p * y = y * p * 6 := by
  rw [Int32.mul_comm (6 * p) y, Int32.mul_comm 6 p, ← Int32.mul_assoc]
theorem saleXs {q : St} {M : mh_M} (hX : XS q M) {x b s : Nat} (hx : x < 10) (hb : b < 2) (hs : s < 40) {v51 v58 v55 : Int32} : XS (vu (vu (vu q.1 51 (10 * b + x) v51) 58 (5 * x) v58) 55 (10 * s + x) v55, q.2) (mh_up (mh_up (mh_up M 21 x b v51) 22 x 0 v58) 26 s x v55) := by
  have e : ∀ (N : mh_M) (v : Int32), wX (mh_up N 22 x 0 v) = vu (wX N) 58 (5 * x) v := fun N v => wu22 hx (show 0 < 4 by omega)
  refine XS_step hX ?_ ?_ ?_ ?_ ?_ ?_ ?_ ?_
  · rw [wu26 hs hx, e, wu21 hx hb, hX.1]
  · try simp (disch := omega) only [rd_s, rd_t, rd_i, rd_k]
  · try simp (disch := omega) only [mh_up_t]
  · intro r; try simp (disch := omega) only [rd_s, rd_t, rd_i, rd_k]
  · intro r; try simp (disch := omega) only [rd_s, rd_t, rd_i, rd_k]
  · try simp (disch := omega) only [rd_s, rd_t, rd_i, rd_k]
  · try simp (disch := omega) only [vu_at, vu_t, vu_j]
  · intro j; try simp (disch := omega) only [vu_at, vu_t, vu_j]
theorem sale_X (n : Nat) {b s r r1 K : Nat} {sg m cost : Int32} (hb : b < 2) (hs : s < 40) (hr : r < 12) (hK : K ≤ 10) (lg : (Nat → Nat → Int32) × (Nat → Bool)) : ∀ (d x k : Nat) (M : mh_M) (w : Vw), x + d = K → d < k → XS (w, lg) M → w 40 0 = nI K → M 30 r1 1 = nI b → M 30 r1 3 = m → M 30 r1 4 = cost → (∀ i, i < 10 → ∃ p : Nat, p ≤ 20 ∧ w 47 (10 * r + i) = nI p) →
    ∃ M1, itr2 (fX9_applySale_L14 n r1 s sg r) k M (nI x) = some M1 ∧ XS (vu (saleF b s r (sg * m) d x w) 59 b (saleF b s r (sg * m) d x w 59 b + sg * cost), lg) M1 ∧ ∀ t, (40 ≤ t ∨ t = 30) → M1 t = M t := by
  intro d
  induction d with
  | zero =>
    intro x k M w hx hk hX hw g1 g3 g4 hp
    obtain ⟨k, rfl⟩ : ∃ m, k = m + 1 := ⟨k - 1, by omega⟩
    have hxK : x = K := by omega
    subst hxK
    refine ⟨mh_up M 7 0 b (w 59 b + sg * cost), ?_, ?_, ?_⟩
    · show fX9_applySale_L14 n r1 s sg r (itr2 (fX9_applySale_L14 n r1 s sg r) k) M (nI x) = _
      unfold fX9_applySale_L14
      simp (disch := omega) only [pl_e, (rXc0 hX).trans hw, Int32.le_refl, if_true, g1, g4, inbN hb (show 2 ≤ 2 ^ 31 by omega), ck_t, clN (show b < 2 ^ 31 by omega), rX7 hX hb]
    · show XS (vu w 59 b (w 59 b + sg * cost), lg) _
      refine XS_step (q := (w, lg)) hX ?_ ?_ ?_ ?_ ?_ ?_ ?_ ?_
      · rw [wu7 hb, hX.1]
      · try simp (disch := omega) only [rd_s, rd_t, rd_i, rd_k]
      · try simp (disch := omega) only [mh_up_t]
      · intro r; try simp (disch := omega) only [rd_s, rd_t, rd_i, rd_k]
      · intro r; try simp (disch := omega) only [rd_s, rd_t, rd_i, rd_k]
      · try simp (disch := omega) only [rd_s, rd_t, rd_i, rd_k]
      · try simp (disch := omega) only [vu_at, vu_t, vu_j]
      · intro j; try simp (disch := omega) only [vu_at, vu_t, vu_j]
    · intro t ht
      simp (disch := omega) only [mh_up_t]
  | succ d ih =>
    intro x k M w hx hk hX hw g1 g3 g4 hp
    obtain ⟨k, rfl⟩ : ∃ m, k = m + 1 := ⟨k - 1, by omega⟩
    have hx10 : x < 10 := by omega
    obtain ⟨p, hp20, ep⟩ := hp x hx10
    have e0 : M 0 0 1 = nI K := (rXc0 hX).trans hw
    have e24 : M 24 r x = nI p := (rX24 hX hr hx10).trans ep
    have hlt : ¬ nI K ≤ nI x := fun z => absurd ((nI_leI (by omega) (by omega)).mp z) (by omega)
    show ∃ M1, fX9_applySale_L14 n r1 s sg r (itr2 (fX9_applySale_L14 n r1 s sg r) k) M (nI x) = some M1 ∧ XS (vu (saleF b s r (sg * m) d (x + 1) (stepK w b s r x (sg * m))) 59 b (saleF b s r (sg * m) d (x + 1) (stepK w b s r x (sg * m)) 59 b + sg * cost), lg) M1 ∧ ∀ t, (40 ≤ t ∨ t = 30) → M1 t = M t
    by_cases p0 : p = 0
    · subst p0
      rw [stepK_0 ep]
      obtain ⟨M1, i1, i2, i3⟩ := ih (x + 1) k M w (by omega) (by omega) hX hw g1 g3 g4 hp
      refine ⟨M1, ?_, i2, i3⟩
      unfold fX9_applySale_L14
      simp (disch := omega) only [pl_e, e0, hlt, if_false, inbN hx10 (show 10 ≤ 2 ^ 31 by omega), ck_t, clN (show x < 2 ^ 31 by omega), e24, show nI 0 ≤ (0 : Int32) from by decide, if_true, nI_1]
      exact i1
    · have pp : ¬ nI p ≤ (0 : Int32) := fun z => absurd ((nI_leI (b := 0) (by omega) (by omega)).mp z) (by omega)
      have pp2 : (0 : Int32) < nI p := Int32.not_le.mp pp
      have hX2 : XS (stepK w b s r x (sg * m), lg) (mh_up (mh_up (mh_up M 21 x b (w 51 (10 * b + x) - sg * m * nI p * 6)) 22 x 0 (w 58 (5 * x) + sg * m * nI p * 6)) 26 s x (w 55 (10 * s + x) + sg * m)) := by
        have h := saleXs (q := (w, lg)) hX hx10 hb hs (v51 := w 51 (10 * b + x) - sg * m * nI p * 6) (v58 := w 58 (5 * x) + sg * m * nI p * 6) (v55 := w 55 (10 * s + x) + sg * m)
        unfold stepK
        rw [ep, if_pos pp2]
        exact h
      obtain ⟨M1, i1, i2, i3⟩ := ih (x + 1) k _ (stepK w b s r x (sg * m)) (by omega) (by omega) hX2 (by rw [stepK_t (by omega) (by omega) (by omega)]; exact hw) (by simp (disch := omega) only [rd_t]; exact g1) (by simp (disch := omega) only [rd_t]; exact g3) (by simp (disch := omega) only [rd_t]; exact g4) (fun i hi => by rw [stepK_t (by omega) (by omega) (by omega)]; exact hp i hi)
      refine ⟨M1, ?_, i2, fun t ht => by rw [i3 t ht]; simp (disch := omega) only [mh_up_t]⟩
      unfold fX9_applySale_L14
      simp (disch := omega) only [pl_e, e0, hlt, if_false, inbN hx10 (show 10 ≤ 2 ^ 31 by omega), ck_t, clN (show x < 2 ^ 31 by omega), e24, pp, g1, g3]
      rw [show (3 : Int32) = nI 3 from rfl, mvD (q := (w, lg)) hX n (show 3 ≤ 3 ∧ 3 ≤ 6 by omega) hb hx10]
      simp (disch := omega) only [bd_some, rd_t, g3, rX26 (q := (w, lg)) hX hs hx10, nI_1]
      exact i1
