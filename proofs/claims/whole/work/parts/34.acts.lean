/-! ===== the acts kept: pushed, taken back ===== -/
theorem bd_id {α : Type} (o : Option α) : bd o (fun a => some a) = o := by
  cases o <;> rfl
def Ap (A : Nat) : Nat := if A < 40 then A + 1 else 40
def lgp (A : Nat) (lg : Nat → Nat → Int32) (r : Nat → Int32) : Nat → Nat → Int32 := if A < 40 then (fun a j => if a = A then r j else lg a j) else (fun a j => if a = 39 then r j else lg (a + 1) j)
def r5 (a b c d e : Int32) : Nat → Int32 := fun j => match j with | 0 => a | 1 => b | 2 => c | 3 => d | _ => e
def pq (q : St) (A : Nat) (r : Nat → Int32) : St := (vu q.1 40 19 (nI (Ap A)), lgp A q.2.1 r, q.2.2)
theorem acN_of {w : Vw} {A : Nat} (h : w 40 19 = nI A) (hA : A ≤ 40) : acN w = A := by
  unfold acN
  rw [h]
  exact clN (by omega)
theorem rem40 {x : Nat} (h : x < 400) : nI x - nI x / (40 : Int32) * (40 : Int32) = nI (x % 40) := by
  rw [litN 40]
  exact pk_rem (by omega) (by omega) (by omega)
theorem Ap_le {A : Nat} (h : A ≤ 40) : Ap A ≤ 40 := by
  unfold Ap
  split <;> omega
theorem min40 {A : Nat} (h : A ≤ 40) : (if (40 : Int32) < nI A + 1 then (40 : Int32) else nI A + 1) = nI (Ap A) := by
  rw [nI_1]
  unfold Ap
  by_cases h1 : A < 40
  · rw [if_pos h1, if_neg (show ¬ (40 : Int32) < nI (A + 1) from nI_nlt (a := 40) (by omega) (by omega))]
  · rw [if_neg h1, if_pos (show (40 : Int32) < nI (A + 1) from nI_lt (a := 40) (by omega) (by omega))]
    rfl
def psh (M : mh_M) (nx A : Nat) (a0 a1 a2 a3 a4 : Int32) : mh_M := mh_up (mh_up (mh_up (mh_up (mh_up (mh_up (mh_up M 5 0 2 (nI ((nx + 1) % 40))) 5 0 1 (nI (Ap A))) 30 nx 0 a0) 30 nx 1 a1) 30 nx 2 a2) 30 nx 3 a3) 30 nx 4 a4
theorem psh_new (M : mh_M) (nx A : Nat) (a0 a1 a2 a3 a4 : Int32) {j : Nat} (hj : j < 5) : psh M nx A a0 a1 a2 a3 a4 30 nx j = r5 a0 a1 a2 a3 a4 j := by
  unfold psh
  rcases (show j = 0 ∨ j = 1 ∨ j = 2 ∨ j = 3 ∨ j = 4 by omega) with rfl | rfl | rfl | rfl | rfl <;> simp (disch := omega) only [rd_s, rd_k] <;> rfl
theorem psh_old (M : mh_M) (nx A : Nat) (a0 a1 a2 a3 a4 : Int32) {i j : Nat} (hi : i ≠ nx) : psh M nx A a0 a1 a2 a3 a4 30 i j = M 30 i j := by
  unfold psh
  simp (disch := omega) only [rd_i, rd_t]
theorem psh_t (M : mh_M) (nx A : Nat) (a0 a1 a2 a3 a4 : Int32) {t : Nat} (h5 : t ≠ 5) (h30 : t ≠ 30) : psh M nx A a0 a1 a2 a3 a4 t = M t := by
  unfold psh
  simp (disch := omega) only [mh_up_t]
theorem psh_log {q : St} {M : mh_M} {A nx : Nat} (hA40 : A ≤ 40) (y1 : nx < 40) (a0 a1 a2 a3 a4 : Int32) (y3 : ∀ a, a < A → ∀ j, j < 5 → M 30 ((nx + 40 - A + a) % 40) j = q.2.1 a j) :
    ∀ a, a < Ap A → ∀ j, j < 5 → psh M nx A a0 a1 a2 a3 a4 30 (((nx + 1) % 40 + 40 - Ap A + a) % 40) j = lgp A q.2.1 (r5 a0 a1 a2 a3 a4) a j := by
  intro a ha j hj
  unfold Ap at ha ⊢
  unfold lgp
  by_cases h1 : A < 40
  · rw [if_pos h1] at ha ⊢
    rw [if_pos h1]
    by_cases h2 : a = A
    · have e : ((nx + 1) % 40 + 40 - (A + 1) + a) % 40 = nx := by omega
      rw [e, psh_new _ _ _ _ _ _ _ _ hj]
      exact (if_pos h2).symm
    · have h3 : ((nx + 1) % 40 + 40 - (A + 1) + a) % 40 = (nx + 40 - A + a) % 40 := by omega
      have h4 : (nx + 40 - A + a) % 40 ≠ nx := by omega
      rw [h3, psh_old _ _ _ _ _ _ _ _ h4, y3 a (by omega) j hj]
      exact (if_neg h2).symm
  · rw [if_neg h1] at ha ⊢
    rw [if_neg h1]
    have hA4 : A = 40 := by omega
    subst hA4
    by_cases h2 : a = 39
    · have e : ((nx + 1) % 40 + 40 - 40 + a) % 40 = nx := by omega
      rw [e, psh_new _ _ _ _ _ _ _ _ hj]
      exact (if_pos h2).symm
    · have h3 : ((nx + 1) % 40 + 40 - 40 + a) % 40 = (nx + 40 - 40 + (a + 1)) % 40 := by omega
      have h4 : (nx + 40 - 40 + (a + 1)) % 40 ≠ nx := by omega
      rw [h3, psh_old _ _ _ _ _ _ _ _ h4, y3 (a + 1) (by omega) j hj]
      exact (if_neg h2).symm
theorem hmin40 {A : Nat} (hA40 : A ≤ 40) : (if (40 : Int32) < nI (A + 1) then (40 : Int32) else nI (A + 1)) = nI (Ap A) := by
  have h := min40 hA40
  rw [nI_1] at h
  exact h
theorem nr_run {M : mh_M} {nx A : Nat} (y1 : nx < 40) (y2 : M 5 0 2 = nI nx) (eA : M 5 0 1 = nI A) (hA40 : A ≤ 40) (n : Nat) : fX1_nextRow n M = some (mh_up (mh_up M 5 0 2 (nI ((nx + 1) % 40))) 5 0 1 (nI (Ap A)), nx) := by
  have hcl : nx < 2 ^ 31 := by omega
  unfold fX1_nextRow
  simp only [pl_e, y2]
  rw [inbN y1 (by omega), ck_t, clN hcl, nI_1, nz40, ck_t, rem40 (by omega), rd_k (by omega), eA, nI_1, hmin40 hA40]
theorem cO_run {M : mh_M} {nx A : Nat} (y1 : nx < 40) (y2 : M 5 0 2 = nI nx) (eA : M 5 0 1 = nI A) (hA40 : A ≤ 40) (n : Nat) (a0 a1 a2 a3 a4 : Int32) : fX9_carryOut n M a0 a1 a2 a3 a4 = fX9_apply n (psh M nx A a0 a1 a2 a3 a4) nx 1 := by
  unfold fX9_carryOut
  rw [nr_run y1 y2 eA hA40 n]
  exact bd_id _
theorem cO {q : St} {M : mh_M} (hX : XS q M) {A : Nat} (hA : q.1 40 19 = nI A) (hA40 : A ≤ 40) (n : Nat) (a0 a1 a2 a3 a4 : Int32) :
    ∃ (nx : Nat) (M7 : mh_M), nx < 40 ∧ fX9_carryOut n M a0 a1 a2 a3 a4 = fX9_apply n M7 nx 1 ∧ XS (pq q A (r5 a0 a1 a2 a3 a4)) M7 ∧ (∀ t, 40 ≤ t → M7 t = M t) ∧ M7 30 nx 0 = a0 ∧ M7 30 nx 1 = a1 ∧ M7 30 nx 2 = a2 ∧ M7 30 nx 3 = a3 ∧ M7 30 nx 4 = a4 ∧ M7 0 = M 0 ∧ M7 24 = M 24 := by
  obtain ⟨x1, ⟨nx, y1, y2, y3⟩, x3, x4⟩ := id hX
  have eA : M 5 0 1 = nI A := (rXc19 hX).trans hA
  have eN : acN q.1 = A := acN_of hA hA40
  rw [eN] at y3
  have hA2 : acN (vu q.1 40 19 (nI (Ap A))) = Ap A := acN_of (vu_at _ _ _ _) (Ap_le hA40)
  refine ⟨nx, psh M nx A a0 a1 a2 a3 a4, y1, cO_run y1 y2 eA hA40 n a0 a1 a2 a3 a4, ⟨?_, ⟨(nx + 1) % 40, Nat.mod_lt _ (by omega), ?_, ?_⟩, ?_, ?_⟩, fun t ht => psh_t _ _ _ _ _ _ _ _ (by omega) (by omega), psh_new _ _ _ _ _ _ _ _ (by omega), psh_new _ _ _ _ _ _ _ _ (by omega), psh_new _ _ _ _ _ _ _ _ (by omega), psh_new _ _ _ _ _ _ _ _ (by omega), psh_new _ _ _ _ _ _ _ _ (by omega), psh_t _ _ _ _ _ _ _ _ (by omega) (by omega), psh_t _ _ _ _ _ _ _ _ (by omega) (by omega)⟩
  · unfold psh
    rw [wX_off (j0 := 0) rfl, wX_off (j0 := 0) rfl, wX_off (j0 := 0) rfl, wX_off (j0 := 0) rfl, wX_off (j0 := 0) rfl, wuc19, wX_off (j0 := 0) rfl, x1]
    rfl
  · unfold psh
    simp (disch := omega) only [rd_s, rd_t, rd_i, rd_k]
  · intro a ha j hj
    have h := psh_log hA40 y1 a0 a1 a2 a3 a4 y3 a (by
      have : a < acN (vu q.1 40 19 (nI (Ap A))) := ha
      rw [hA2] at this
      exact this) j hj
    show psh M nx A a0 a1 a2 a3 a4 30 (((nx + 1) % 40 + 40 - acN (vu q.1 40 19 (nI (Ap A))) + a) % 40) j = lgp A q.2.1 (r5 a0 a1 a2 a3 a4) a j
    rw [hA2]
    exact h
  · intro r hr
    rw [psh_t _ _ _ _ _ _ _ _ (by omega) (by omega), psh_t _ _ _ _ _ _ _ _ (by omega) (by omega)]
    exact x3 r hr
  · intro r hr i hi
    show bt _ i = (decide (i < 10) && decide (0 < vu q.1 40 19 (nI (Ap A)) 47 (10 * r + i)))
    rw [psh_t _ _ _ _ _ _ _ _ (by omega) (by omega), vu_t (by omega)]
    exact x4 r hr i hi
/-- the class takes the latest act back -/
def qq (q : St) (A : Nat) : St := (vu q.1 40 19 (nI (A - 1)), q.2.1, q.2.2)
set_option maxRecDepth 100000 in
theorem tL {q : St} {M : mh_M} (hX : XS q M) {A : Nat} (hA : q.1 40 19 = nI A) (hA40 : A ≤ 40) (hA0 : 0 < A) (n : Nat) :
    ∃ (nx : Nat) (M7 : mh_M), nx < 40 ∧ fX1_takeLatest n M = some (M7, nx) ∧ XS (qq q A) M7 ∧ (∀ t, 40 ≤ t → M7 t = M t) ∧ (∀ j, j < 5 → M7 30 nx j = q.2.1 (A - 1) j) ∧ M7 0 = M 0 ∧ M7 24 = M 24 := by
  obtain ⟨x1, ⟨nx, y1, y2, y3⟩, x3, x4⟩ := id hX
  have eA : M 5 0 1 = nI A := (rXc19 hX).trans hA
  have eN : acN q.1 = A := acN_of hA hA40
  have h1 : nI nx + (40 : Int32) - (1 : Int32) = nI (nx + 39) := by
    show nI nx + nI 40 - nI 1 = _
    rw [nI_add, pk_sub (by omega)]
    congr 1
  have h2 : nI A - (1 : Int32) = nI (A - 1) := by
    show nI A - nI 1 = _
    exact pk_sub (by omega)
  have h40 : (nx + 39) % 40 < 40 := Nat.mod_lt _ (by omega)
  have hcl : (nx + 39) % 40 < 2 ^ 31 := by omega
  refine ⟨(nx + 39) % 40, mh_up (mh_up M 5 0 2 (nI ((nx + 39) % 40))) 5 0 1 (nI (A - 1)), h40, ?_, ?_, ?_, ?_, ?_, ?_⟩
  · simp (disch := omega) only [fX1_takeLatest, pl_e, y2, h1, nz40, ck_t, rem40 (show nx + 39 < 400 by omega), rd_s, rd_t, rd_i, rd_k, eA, h2, inbN h40 (show 40 ≤ 2 ^ 31 by omega), clN hcl]
  · have hA2 : acN (vu q.1 40 19 (nI (A - 1))) = A - 1 := acN_of (vu_at _ _ _ _) (by omega)
    refine ⟨?_, ⟨(nx + 39) % 40, h40, ?_, ?_⟩, ?_, ?_⟩
    · rw [wuc19, wX_off (j0 := 0) rfl, x1]
      rfl
    · simp (disch := omega) only [rd_s, rd_t, rd_i, rd_k]
    · intro a ha j hj
      have ha' : a < A - 1 := by
        have : a < acN (vu q.1 40 19 (nI (A - 1))) := ha
        rw [hA2] at this
        exact this
      show (mh_up (mh_up M 5 0 2 (nI ((nx + 39) % 40))) 5 0 1 (nI (A - 1))) 30 (((nx + 39) % 40 + 40 - acN (vu q.1 40 19 (nI (A - 1))) + a) % 40) j = q.2.1 a j
      rw [hA2, show ((nx + 39) % 40 + 40 - (A - 1) + a) % 40 = (nx + 40 - A + a) % 40 by omega]
      simp (disch := omega) only [rd_t]
      rw [← y3 a (by rw [eN]; omega) j hj, eN]
    · intro r hr
      simp (disch := omega) only [rd_t]
      exact x3 r hr
    · intro r hr i hi
      show bt _ i = (decide (i < 10) && decide (0 < vu q.1 40 19 (nI (A - 1)) 47 (10 * r + i)))
      simp (disch := omega) only [rd_t, vu_t]
      exact x4 r hr i hi
  · intro t ht
    simp (disch := omega) only [mh_up_t]
  · intro j hj
    simp (disch := omega) only [rd_t]
    rw [← y3 (A - 1) (by rw [eN]; omega) j hj, eN, show (nx + 40 - A + (A - 1)) % 40 = (nx + 39) % 40 by omega]
  all_goals (simp (disch := omega) only [mh_up_t]; done)
/-- the model's rows move up by six -/
def shf (M : mh_M) (x : Nat) : mh_M := fun t i j => if t = 61 ∧ i = 0 ∧ x ≤ j + 6 ∧ j + 6 < 240 then M 61 0 (j + 6) else M t i j
def kpT (M : mh_M) (A : Nat) (a b c d e f : Int32) : mh_M := mh_up (mh_up (mh_up (mh_up (mh_up (mh_up (mh_up M 61 0 (6 * A) a) 61 0 (6 * A + 1) b) 61 0 (6 * A + 2) c) 61 0 (6 * A + 3) d) 61 0 (6 * A + 4) e) 61 0 (6 * A + 5) f) 40 0 19 (nI (A + 1))
theorem keeps_loop (n : Nat) (a0 a1 a2 a3 a4 a5 : Int32) : ∀ (d x k : Nat) (M : mh_M), x + d = 240 → 6 ≤ x → d < k → M 40 0 19 = nI 40 → itr2 (fX10_keeps_L13 n a0 a1 a2 a3 a4 a5) k M (nI x) = some (kpT (mh_up (shf M x) 40 0 19 (nI 39)) 39 a0 a1 a2 a3 a4 a5) := by
  intro d
  induction d with
  | zero =>
    intro x k M hx h6 hk hM
    obtain ⟨k, rfl⟩ : ∃ m, k = m + 1 := ⟨k - 1, by omega⟩
    have hx2 : x = 240 := by omega
    subst hx2
    show fX10_keeps_L13 n a0 a1 a2 a3 a4 a5 (itr2 (fX10_keeps_L13 n a0 a1 a2 a3 a4 a5) k) M (nI 240) = _
    have e0 : shf M 240 = M := by
      funext t i j
      exact if_neg (by omega)
    rw [e0]
    have e1 : nI 40 - (1 : Int32) = nI 39 := rfl
    have e2 : (6 : Int32) * nI 39 = nI 234 := rfl
    have e3 : nI 234 + (2 : Int32) = nI 236 := rfl
    have e4 : nI 234 + (3 : Int32) = nI 237 := rfl
    have e5 : nI 234 + (4 : Int32) = nI 238 := rfl
    have e6 : nI 234 + (5 : Int32) = nI 239 := rfl
    have e7 : nI 234 + (1 : Int32) = nI 235 := rfl
    have e8 : nI 39 + (1 : Int32) = nI 40 := rfl
    simp (disch := omega) only [fX10_keeps_L13, pl_e, show (240 : Int32) ≤ nI 240 from Int32.le_refl _, if_true, hM, e1, rd_s, e2, e3, e4, e5, e6, e7, e8, inbN (show 234 < 240 by omega), inbN (show 235 < 240 by omega), inbN (show 236 < 240 by omega), inbN (show 237 < 240 by omega), inbN (show 238 < 240 by omega), inbN (show 239 < 240 by omega), ck_t, clN, rd_t]
    rfl
  | succ d ih =>
    intro x k M hx h6 hk hM
    obtain ⟨k, rfl⟩ : ∃ m, k = m + 1 := ⟨k - 1, by omega⟩
    have hx2 : x < 240 := by omega
    show fX10_keeps_L13 n a0 a1 a2 a3 a4 a5 (itr2 (fX10_keeps_L13 n a0 a1 a2 a3 a4 a5) k) M (nI x) = _
    have e1 : nI x - (6 : Int32) = nI (x - 6) := pk_sub (b := 6) (by omega)
    simp only [fX10_keeps_L13, pl_e]
    rw [if_neg (show ¬ (240 : Int32) ≤ nI x from fun z => absurd ((nI_leI (a := 240) (by omega) (by omega)).mp z) (by omega))]
    rw [e1, inbN hx2 (by omega), ck_t, inbN (show x - 6 < 240 by omega) (by omega), ck_t, clN (by omega), clN (by omega), nI_1, ih (x + 1) k _ (by omega) (by omega) (by omega) (by rw [rd_t (by omega)]; exact hM)]
    have : shf (mh_up M 61 0 (x - 6) (M 61 0 x)) (x + 1) = shf M x := by
      funext t i j
      simp only [shf, mh_up]
      by_cases h1 : t = 61 ∧ i = 0 ∧ x + 1 ≤ j + 6 ∧ j + 6 < 240
      · rw [if_pos h1, if_neg (by omega), if_pos (by omega)]
      · rw [if_neg h1]
        by_cases h2 : t = 61 ∧ i = 0 ∧ j = x - 6
        · rw [if_pos h2, if_pos (by omega), show j + 6 = x by omega]
        · rw [if_neg h2, if_neg (by omega)]
    rw [this]
theorem VM_off61 {M N : mh_M} (h : ∀ t, t ≠ 61 → N t = M t) : VM N = VM M := by
  funext t j
  simp only [VM]
  by_cases hd : vdom t j = true
  · have hne : t ≠ 61 := fun q => by
      subst q
      cases hd
    rw [if_pos hd, if_pos hd, h t hne, h 44 (by omega)]
  · rw [if_neg hd, if_neg hd]
theorem offW61 {M : mh_M} {c : Nat} {x : Int32} : wM (mh_up M 61 0 c x) = wM M := wM_off (fun _ => rfl)
set_option maxRecDepth 100000 in
theorem kp {q : St} {M : mh_M} (hM : MS q M) {A : Nat} (hA : q.1 40 19 = nI A) (hA40 : A ≤ 40) (n : Nat) (hn : 240 ≤ n) (a0 a1 a2 a3 a4 a5 : Int32) :
    ∃ M2 : mh_M, fX10_keeps n M a0 a1 a2 a3 a4 a5 = some M2 ∧ MS (pq q A (r5 a0 a1 a2 a3 a4)) M2 ∧ (∀ t, t < 40 → M2 t = M t) := by
  obtain ⟨m1, m2, m3⟩ := id hM
  have eA : M 40 0 19 = nI A := (rmc19 hM).trans hA
  have eN : acN q.1 = A := acN_of hA hA40
  have hA2 : acN (vu q.1 40 19 (nI (Ap A))) = Ap A := acN_of (vu_at _ _ _ _) (Ap_le hA40)
  by_cases h1 : A < 40
  · have e0 : (6 : Int32) * nI A = nI (6 * A) := by rw [litN, pk_mul]
    have e1 : nI (6 * A) + (1 : Int32) = nI (6 * A + 1) := nI_1 _
    have e2 : nI (6 * A) + (2 : Int32) = nI (6 * A + 2) := nI_add _ 2
    have e3 : nI (6 * A) + (3 : Int32) = nI (6 * A + 3) := nI_add _ 3
    have e4 : nI (6 * A) + (4 : Int32) = nI (6 * A + 4) := nI_add _ 4
    have e5 : nI (6 * A) + (5 : Int32) = nI (6 * A + 5) := nI_add _ 5
    have e6 : nI A + (1 : Int32) = nI (A + 1) := nI_1 _
    refine ⟨kpT M A a0 a1 a2 a3 a4 a5, ?_, ?_, ?_⟩
    · simp (disch := omega) only [fX10_keeps, pl_e, eA, show ¬ nI A = (40 : Int32) from nne (b := 40) (by omega) (by omega) (by omega), if_false, e0, e1, e2, e3, e4, e5, inbN, ck_t, clN, rd_t, e6]
      rfl
    · refine ⟨?_, ?_, ?_⟩
      · unfold kpT pq
        rw [wmc19, offW61, offW61, offW61, offW61, offW61, offW61, m1]
        unfold Ap
        rw [if_pos h1]
      · intro a ha j hj
        have ha' : a < Ap A := by
          have : a < acN (vu q.1 40 19 (nI (Ap A))) := ha
          rw [hA2] at this
          exact this
        unfold Ap at ha'
        rw [if_pos h1] at ha'
        show kpT M A a0 a1 a2 a3 a4 a5 61 0 (6 * a + j) = lgp A q.2.1 (r5 a0 a1 a2 a3 a4) a j
        unfold kpT lgp
        rw [if_pos h1]
        by_cases h2 : a = A
        · subst h2
          simp only [if_pos rfl]
          rcases (show j = 0 ∨ j = 1 ∨ j = 2 ∨ j = 3 ∨ j = 4 by omega) with rfl | rfl | rfl | rfl | rfl <;> simp (disch := omega) only [rd_s, rd_k, rd_t, Nat.add_zero] <;> rfl
        · simp only [if_neg h2]
          simp (disch := omega) only [rd_k, rd_t]
          exact m2 a (by rw [eN]; omega) j hj
      · intro r hr
        show kpT M A a0 a1 a2 a3 a4 a5 48 0 r = _
        unfold kpT
        simp (disch := omega) only [rd_t]
        exact m3 r hr
    · intro t ht
      unfold kpT
      simp (disch := omega) only [mh_up_t]
  · have hA4 : A = 40 := by omega
    subst hA4
    refine ⟨kpT (mh_up (shf M 6) 40 0 19 (nI 39)) 39 a0 a1 a2 a3 a4 a5, ?_, ?_, ?_⟩
    · simp only [fX10_keeps, pl_e, eA]
      rw [if_pos (show nI 40 = (40 : Int32) from rfl)]
      exact keeps_loop n a0 a1 a2 a3 a4 a5 234 6 n M (by omega) (by omega) (by omega) eA
    · refine ⟨?_, ?_, ?_⟩
      · unfold kpT pq
        rw [wmc19, offW61, offW61, offW61, offW61, offW61, offW61, wmc19]
        have : wM (shf M 6) = wM M := by
          unfold wM
          rw [VM_off61]
          intro t ht
          funext i j
          exact if_neg (fun z => ht z.1)
        rw [this, m1, vu_vu]
        rfl
      · intro a ha j hj
        have ha' : a < Ap 40 := by
          have : a < acN (vu q.1 40 19 (nI (Ap 40))) := ha
          rw [hA2] at this
          exact this
        have ha4 : a < 40 := ha'
        show kpT (mh_up (shf M 6) 40 0 19 (nI 39)) 39 a0 a1 a2 a3 a4 a5 61 0 (6 * a + j) = lgp 40 q.2.1 (r5 a0 a1 a2 a3 a4) a j
        unfold kpT lgp
        rw [if_neg (by omega)]
        by_cases h2 : a = 39
        · subst h2
          simp only [if_pos rfl]
          rcases (show j = 0 ∨ j = 1 ∨ j = 2 ∨ j = 3 ∨ j = 4 by omega) with rfl | rfl | rfl | rfl | rfl <;> simp (disch := omega) only [rd_s, rd_k, rd_t, Nat.add_zero] <;> rfl
        · simp only [if_neg h2]
          simp (disch := omega) only [rd_k, rd_t]
          show (if 61 = 61 ∧ 0 = 0 ∧ 6 ≤ 6 * a + j + 6 ∧ 6 * a + j + 6 < 240 then M 61 0 (6 * a + j + 6) else M 61 0 (6 * a + j)) = _
          rw [if_pos (by omega), show 6 * a + j + 6 = 6 * (a + 1) + j by omega]
          exact m2 (a + 1) (by rw [eN]; omega) j hj
      · intro r hr
        show kpT (mh_up (shf M 6) 40 0 19 (nI 39)) 39 a0 a1 a2 a3 a4 a5 48 0 r = _
        unfold kpT
        simp (disch := omega) only [rd_t]
        show (if 48 = 61 ∧ 0 = 0 ∧ 6 ≤ r + 6 ∧ r + 6 < 240 then M 61 0 (r + 6) else M 48 0 r) = _
        rw [if_neg (by omega)]
        exact m3 r hr
    · intro t ht
      unfold kpT
      simp (disch := omega) only [mh_up_t]
      funext i j
      exact if_neg (by omega)
