/-! ===== the view: what both memories say of the same things; by the model's tags ===== -/
abbrev Vw : Type := Nat → Nat → Int32
/-- how many of a tag are looked at -/
def vdom (t j : Nat) : Bool := match t with
  | 40 => j == 0 || j == 4 || j == 11 || j == 19 || j == 21 || j == 24 || j == 30
  | 42 => decide (j < 10)
  | 43 => decide (j < 10)
  | 44 => decide (j < 10)
  | 46 => decide (j < 12)
  | 47 => decide (j < 120)
  | 49 => decide (j < 7)
  | 50 => decide (j < 10)
  | 51 => decide (j < 20)
  | 53 => decide (j < 400)
  | 54 => decide (j < 400)
  | 55 => decide (j < 400)
  | 56 => decide (j < 400)
  | 57 => decide (j < 40)
  | 59 => decide (j < 2)
  | 63 => decide (j < 8)
  | 64 => decide (j < 8)
  | 66 => decide (j < 12)
  | 67 => decide (j < 12)
  | 68 => decide (j < 12)
  | 69 => decide (j < 12)
  | 70 => decide (j < 6)
  | 72 => decide (j < 5)
  | 73 => decide (j < 5)
  | 58 => decide (j < 50)
  | _ => false
/-- where the class keeps it -/
def vloc (t j : Nat) : Nat × Nat × Nat := match t with
  | 40 => if j = 0 then (0, 0, 1) else if j = 4 then (0, 0, 3) else if j = 11 then (0, 0, 6) else if j = 19 then (5, 0, 1) else if j = 21 then (8, 0, 2) else if j = 24 then (0, 0, 11) else if j = 30 then (15, 0, 2) else (99, 0, 0)
  | 42 => (20, j, 0)
  | 43 => (20, j, 1)
  | 44 => (20, j, 2)
  | 46 => (23, j, 0)
  | 47 => (24, j / 10, j % 10)
  | 49 => (3, 0, j)
  | 50 => (20, j, 3)
  | 51 => (21, j % 10, j / 10)
  | 53 => (28, j / 10, j % 10)
  | 54 => (27, j / 10, j % 10)
  | 55 => (26, j / 10, j % 10)
  | 56 => (29, j / 10, j % 10)
  | 57 => (25, j, 0)
  | 59 => (7, 0, j)
  | 63 => (9, 0, j)
  | 64 => (10, 0, j)
  | 66 => (31, j, 0)
  | 67 => (31, j, 1)
  | 68 => (31, j, 2)
  | 69 => (31, j, 3)
  | 70 => (14, 0, j)
  | 72 => (16, 0, j)
  | 73 => (17, 0, j)
  | 58 => if j % 5 = 4 then (20, j / 5, 4) else (22, j / 5, j % 5)
  | _ => (99, 0, 0)
def VX (M : mh_M) : Vw := fun t j => if vdom t j = true then M (vloc t j).1 (vloc t j).2.1 (vloc t j).2.2 else 0
/-- the model's; of a KIND not yet there the class says 1 of DENSE, the model 0 -/
def VM (M : mh_M) : Vw := fun t j => if vdom t j = true then (if t = 44 ∧ M 44 0 j = 0 then 1 else M t 0 j) else 0
def vu (v : Vw) (t j : Nat) (x : Int32) : Vw := fun t' j' => if t' = t ∧ j' = j then x else v t' j'
theorem vu_at (v : Vw) (t j : Nat) (x : Int32) : vu v t j x t j = x := by simp [vu]
theorem vu_ne {v : Vw} {t j t' j' : Nat} {x : Int32} (h : ¬ (t' = t ∧ j' = j)) : vu v t j x t' j' = v t' j' := if_neg h
theorem vu_comm {v : Vw} {t j t' j' : Nat} {x x' : Int32} (h : ¬ (t' = t ∧ j' = j)) : vu (vu v t j x) t' j' x' = vu (vu v t' j' x') t j x := by
  funext a b
  simp only [vu]
  by_cases h1 : a = t ∧ b = j
  · by_cases h2 : a = t' ∧ b = j'
    · exact absurd ⟨h2.1.symm.trans h1.1, h2.2.symm.trans h1.2⟩ h
    · simp only [if_neg h2, if_pos h1]
  · by_cases h2 : a = t' ∧ b = j'
    · simp only [if_pos h2, if_neg h1]
    · simp only [if_neg h2, if_neg h1]
theorem vu_vu {v : Vw} {t j : Nat} {x x' : Int32} : vu (vu v t j x) t j x' = vu v t j x' := by
  funext a b
  simp only [vu]
  by_cases h : a = t ∧ b = j
  · rw [if_pos h, if_pos h]
  · rw [if_neg h, if_neg h, if_neg h]
theorem vu_self {v : Vw} {t j : Nat} : vu v t j (v t j) = v := by
  funext a b
  simp only [vu]
  by_cases h : a = t ∧ b = j
  · obtain ⟨rfl, rfl⟩ := h
    simp
  · rw [if_neg h]
theorem vdom_tag {t j : Nat} (h : vdom t j = true) : 40 ≤ t := by
  by_cases h1 : 40 ≤ t
  · exact h1
  · exfalso
    have h2 : t < 40 := by omega
    have : vdom t j = false := by
      unfold vdom
      split <;> first | rfl | omega
    rw [this] at h
    cases h
theorem vloc_tag {t j : Nat} (h : vdom t j = true) : (vloc t j).1 < 40 := by
  unfold vdom at h
  unfold vloc
  split at h <;> simp at h ⊢
  · rcases h with (((((h | h) | h) | h) | h) | h) | h <;> subst h <;> simp
  all_goals (try (split <;> simp))
/-- the class writes where the view looks -/
theorem VX_up {M : mh_M} {a b c t0 j0 : Nat} {x : Int32} (h0 : vdom t0 j0 = true) (hl : vloc t0 j0 = (a, b, c)) (hi : ∀ t j, vdom t j = true → vloc t j = (a, b, c) → t = t0 ∧ j = j0) : VX (mh_up M a b c x) = vu (VX M) t0 j0 x := by
  funext t j
  simp only [VX, vu]
  by_cases hd : vdom t j = true
  · rw [if_pos hd]
    by_cases h : t = t0 ∧ j = j0
    · obtain ⟨rfl, rfl⟩ := h
      rw [if_pos ⟨rfl, rfl⟩, hl]
      simp [mh_up]
    · rw [if_neg h, if_pos hd]
      simp only [mh_up]
      rw [if_neg]
      intro q
      refine h (hi t j hd ?_)
      obtain ⟨q1, q2, q3⟩ := q
      rw [← q1, ← q2, ← q3]
  · rw [if_neg hd]
    rw [if_neg, if_neg hd]
    rintro ⟨rfl, rfl⟩
    exact hd h0
/-- the class writes where the view doesn't look -/
theorem VX_off {M : mh_M} {a b c : Nat} {x : Int32} (hi : ∀ t j, vdom t j = true → vloc t j ≠ (a, b, c)) : VX (mh_up M a b c x) = VX M := by
  funext t j
  simp only [VX]
  by_cases hd : vdom t j = true
  · rw [if_pos hd, if_pos hd]
    simp only [mh_up]
    rw [if_neg]
    intro q
    obtain ⟨q1, q2, q3⟩ := q
    exact hi t j hd (by rw [← q1, ← q2, ← q3])
  · rw [if_neg hd, if_neg hd]
theorem VX_model {M : mh_M} {a b c : Nat} {x : Int32} (ha : 40 ≤ a) : VX (mh_up M a b c x) = VX M := VX_off fun t j hd h => by
  have := vloc_tag hd
  rw [h] at this
  exact absurd this (by show ¬ a < 40; omega)
theorem VX_congr {M N : mh_M} (h : ∀ t, t < 40 → N t = M t) : VX N = VX M := by
  funext t j
  simp only [VX]
  by_cases hd : vdom t j = true
  · rw [if_pos hd, if_pos hd, h _ (vloc_tag hd)]
  · rw [if_neg hd, if_neg hd]
theorem VM_congr {M N : mh_M} (h : ∀ t, 40 ≤ t → N t = M t) : VM N = VM M := by
  funext t j
  simp only [VM]
  by_cases hd : vdom t j = true
  · rw [if_pos hd, if_pos hd, h _ (vdom_tag hd), h 44 (by omega)]
  · rw [if_neg hd, if_neg hd]
theorem VM_class {M : mh_M} {a b c : Nat} {x : Int32} (ha : a < 40) : VM (mh_up M a b c x) = VM M := VM_congr fun t ht => by
  funext i k
  simp only [mh_up]
  rw [if_neg (by omega)]
theorem VM_up {M : mh_M} {t0 j0 : Nat} {x : Int32} (h0 : vdom t0 j0 = true) (hx : t0 = 44 → x ≠ 0) : VM (mh_up M t0 0 j0 x) = vu (VM M) t0 j0 x := by
  funext t j
  simp only [VM, vu]
  by_cases hd : vdom t j = true
  · rw [if_pos hd]
    by_cases h : t = t0 ∧ j = j0
    · obtain ⟨rfl, rfl⟩ := h
      rw [if_pos (show t = t ∧ j = j from ⟨rfl, rfl⟩)]
      by_cases h4 : t = 44
      · subst h4
        have hx := hx rfl
        have e : mh_up M 44 0 j x 44 0 j = x := by simp [mh_up]
        rw [e, if_neg (fun q => hx q.2)]
      · rw [if_neg (fun q => h4 q.1)]
        simp [mh_up]
    · rw [if_neg h, if_pos hd]
      have e1 : mh_up M t0 0 j0 x t 0 j = M t 0 j := if_neg (fun q => h ⟨q.1, q.2.2⟩)
      rw [e1]
      by_cases h4 : t = 44
      · subst h4
        rw [e1]
      · rw [if_neg (fun q => h4 q.1), if_neg (fun q => h4 q.1)]
  · rw [if_neg hd]
    rw [if_neg, if_neg hd]
    rintro ⟨rfl, rfl⟩
    exact hd h0
theorem VM_off {M : mh_M} {a b c : Nat} {x : Int32} (h : ∀ j, vdom a j = false) : VM (mh_up M a b c x) = VM M := by
  funext t j
  simp only [VM]
  by_cases hd : vdom t j = true
  · have hne : t ≠ a := fun q => by
      subst q
      rw [h j] at hd
      cases hd
    have hne4 : (44 : Nat) ≠ a := fun q => by
      have := h 0
      rw [← q] at this
      cases this
    have e1 : mh_up M a b c x t 0 j = M t 0 j := if_neg (fun q => hne q.1)
    have e2 : mh_up M a b c x 44 0 j = M 44 0 j := if_neg (fun q => hne4 q.1)
    rw [if_pos hd, if_pos hd, e1, e2]
  · rw [if_neg hd, if_neg hd]
def vinv (a b c : Nat) : Nat × Nat := match a with
  | 0 => if c = 1 then (40, 0) else if c = 3 then (40, 4) else if c = 6 then (40, 11) else if c = 11 then (40, 24) else (99, 0)
  | 5 => if c = 1 then (40, 19) else (99, 0)
  | 8 => if c = 2 then (40, 21) else (99, 0)
  | 15 => if c = 2 then (40, 30) else (99, 0)
  | 20 => if c = 0 then (42, b) else if c = 1 then (43, b) else if c = 2 then (44, b) else if c = 3 then (50, b) else if c = 4 then (58, 5 * b + 4) else (99, 0)
  | 23 => if c = 0 then (46, b) else (99, 0)
  | 24 => (47, 10 * b + c)
  | 3 => (49, c)
  | 21 => (51, 10 * c + b)
  | 28 => (53, 10 * b + c)
  | 27 => (54, 10 * b + c)
  | 26 => (55, 10 * b + c)
  | 29 => (56, 10 * b + c)
  | 25 => (57, b)
  | 22 => (58, 5 * b + c)
  | 7 => (59, c)
  | 9 => (63, c)
  | 10 => (64, c)
  | 31 => if c = 0 then (66, b) else if c = 1 then (67, b) else if c = 2 then (68, b) else if c = 3 then (69, b) else (99, 0)
  | 14 => (70, c)
  | 16 => (72, c)
  | 17 => (73, c)
  | _ => (99, 0)
theorem vinv_loc {t j : Nat} (h : vdom t j = true) : vinv (vloc t j).1 (vloc t j).2.1 (vloc t j).2.2 = (t, j) := by
  unfold vdom at h
  split at h
  · simp at h
    rcases h with (((((h | h) | h) | h) | h) | h) | h <;> subst h <;> rfl
  · rfl
  · rfl
  · rfl
  · rfl
  · show ((47, 10 * (j / 10) + j % 10) : Nat × Nat) = (47, j)
    rw [show 10 * (j / 10) + j % 10 = j by omega]
  · rfl
  · rfl
  · show ((51, 10 * (j / 10) + j % 10) : Nat × Nat) = (51, j)
    rw [show 10 * (j / 10) + j % 10 = j by omega]
  · show ((53, 10 * (j / 10) + j % 10) : Nat × Nat) = (53, j)
    rw [show 10 * (j / 10) + j % 10 = j by omega]
  · show ((54, 10 * (j / 10) + j % 10) : Nat × Nat) = (54, j)
    rw [show 10 * (j / 10) + j % 10 = j by omega]
  · show ((55, 10 * (j / 10) + j % 10) : Nat × Nat) = (55, j)
    rw [show 10 * (j / 10) + j % 10 = j by omega]
  · show ((56, 10 * (j / 10) + j % 10) : Nat × Nat) = (56, j)
    rw [show 10 * (j / 10) + j % 10 = j by omega]
  · rfl
  · rfl
  · rfl
  · rfl
  · rfl
  · rfl
  · rfl
  · rfl
  · rfl
  · rfl
  · rfl
  · show vinv (if j % 5 = 4 then ((20, j / 5, 4) : Nat × Nat × Nat) else (22, j / 5, j % 5)).1 (if j % 5 = 4 then ((20, j / 5, 4) : Nat × Nat × Nat) else (22, j / 5, j % 5)).2.1 (if j % 5 = 4 then ((20, j / 5, 4) : Nat × Nat × Nat) else (22, j / 5, j % 5)).2.2 = (58, j)
    by_cases h5 : j % 5 = 4
    · rw [if_pos h5]
      show ((58, 5 * (j / 5) + 4) : Nat × Nat) = (58, j)
      rw [show 5 * (j / 5) + 4 = j by omega]
    · rw [if_neg h5]
      show ((58, 5 * (j / 5) + j % 5) : Nat × Nat) = (58, j)
      rw [show 5 * (j / 5) + j % 5 = j by omega]
  · cases h
theorem vi_of {a b c t0 j0 : Nat} (h : vinv a b c = (t0, j0)) : ∀ t j, vdom t j = true → vloc t j = (a, b, c) → t = t0 ∧ j = j0 := by
  intro t j hd hl
  have e := vinv_loc hd
  rw [hl] at e
  have e2 : ((t0, j0) : Nat × Nat) = (t, j) := h.symm.trans e
  exact ⟨(congrArg Prod.fst e2).symm, (congrArg Prod.snd e2).symm⟩
theorem vo_of {a b c j0 : Nat} (h : vinv a b c = (99, j0)) : ∀ t j, vdom t j = true → vloc t j ≠ (a, b, c) := by
  intro t j hd hl
  obtain ⟨e1, e2⟩ := vi_of h t j hd hl
  subst e1
  cases hd
theorem vd20_0 {k : Nat} (h0 : k < 10) : vdom 42 k = true := decide_eq_true (show k < 10 by omega)
theorem vl20_0 {k : Nat} (h0 : k < 10) : vloc 42 k = (20, k, 0) := rfl
theorem up20_0 {M : mh_M} {x : Int32} {k : Nat} (h0 : k < 10) : VX (mh_up M 20 k 0 x) = vu (VX M) 42 k x := VX_up (vd20_0 h0) (vl20_0 h0) (vi_of rfl)
theorem rd20_0 {M : mh_M} {k : Nat} (h0 : k < 10) : M 20 k 0 = VX M 42 k := by
  simp only [VX]
  rw [if_pos (vd20_0 h0), vl20_0 h0]
theorem vd20_1 {k : Nat} (h0 : k < 10) : vdom 43 k = true := decide_eq_true (show k < 10 by omega)
theorem vl20_1 {k : Nat} (h0 : k < 10) : vloc 43 k = (20, k, 1) := rfl
theorem up20_1 {M : mh_M} {x : Int32} {k : Nat} (h0 : k < 10) : VX (mh_up M 20 k 1 x) = vu (VX M) 43 k x := VX_up (vd20_1 h0) (vl20_1 h0) (vi_of rfl)
theorem rd20_1 {M : mh_M} {k : Nat} (h0 : k < 10) : M 20 k 1 = VX M 43 k := by
  simp only [VX]
  rw [if_pos (vd20_1 h0), vl20_1 h0]
theorem vd20_2 {k : Nat} (h0 : k < 10) : vdom 44 k = true := decide_eq_true (show k < 10 by omega)
theorem vl20_2 {k : Nat} (h0 : k < 10) : vloc 44 k = (20, k, 2) := rfl
theorem up20_2 {M : mh_M} {x : Int32} {k : Nat} (h0 : k < 10) : VX (mh_up M 20 k 2 x) = vu (VX M) 44 k x := VX_up (vd20_2 h0) (vl20_2 h0) (vi_of rfl)
theorem rd20_2 {M : mh_M} {k : Nat} (h0 : k < 10) : M 20 k 2 = VX M 44 k := by
  simp only [VX]
  rw [if_pos (vd20_2 h0), vl20_2 h0]
theorem vd20_3 {k : Nat} (h0 : k < 10) : vdom 50 k = true := decide_eq_true (show k < 10 by omega)
theorem vl20_3 {k : Nat} (h0 : k < 10) : vloc 50 k = (20, k, 3) := rfl
theorem up20_3 {M : mh_M} {x : Int32} {k : Nat} (h0 : k < 10) : VX (mh_up M 20 k 3 x) = vu (VX M) 50 k x := VX_up (vd20_3 h0) (vl20_3 h0) (vi_of rfl)
theorem rd20_3 {M : mh_M} {k : Nat} (h0 : k < 10) : M 20 k 3 = VX M 50 k := by
  simp only [VX]
  rw [if_pos (vd20_3 h0), vl20_3 h0]
theorem vd20_4 {k : Nat} (h0 : k < 10) : vdom 58 (5 * k + 4) = true := decide_eq_true (show (5 * k + 4) < 50 by omega)
theorem vl20_4 {k : Nat} (h0 : k < 10) : vloc 58 (5 * k + 4) = (20, k, 4) := by
  show (if (5 * k + 4) % 5 = 4 then ((20, (5 * k + 4) / 5, 4) : Nat × Nat × Nat) else (22, (5 * k + 4) / 5, (5 * k + 4) % 5)) = (20, k, 4)
  rw [if_pos (by omega), show (5 * k + 4) / 5 = k by omega]
theorem up20_4 {M : mh_M} {x : Int32} {k : Nat} (h0 : k < 10) : VX (mh_up M 20 k 4 x) = vu (VX M) 58 (5 * k + 4) x := VX_up (vd20_4 h0) (vl20_4 h0) (vi_of rfl)
theorem rd20_4 {M : mh_M} {k : Nat} (h0 : k < 10) : M 20 k 4 = VX M 58 (5 * k + 4) := by
  simp only [VX]
  rw [if_pos (vd20_4 h0), vl20_4 h0]
theorem vd21 {k b : Nat} (h0 : k < 10) (h1 : b < 2) : vdom 51 (10 * b + k) = true := decide_eq_true (show (10 * b + k) < 20 by omega)
theorem vl21 {k b : Nat} (h0 : k < 10) (h1 : b < 2) : vloc 51 (10 * b + k) = (21, k, b) := by
  show ((21, (10 * b + k) % 10, (10 * b + k) / 10) : Nat × Nat × Nat) = (21, k, b)
  rw [show (10 * b + k) % 10 = k by omega, show (10 * b + k) / 10 = b by omega]
theorem up21 {M : mh_M} {x : Int32} {k b : Nat} (h0 : k < 10) (h1 : b < 2) : VX (mh_up M 21 k b x) = vu (VX M) 51 (10 * b + k) x := VX_up (vd21 h0 h1) (vl21 h0 h1) (vi_of rfl)
theorem rd21 {M : mh_M} {k b : Nat} (h0 : k < 10) (h1 : b < 2) : M 21 k b = VX M 51 (10 * b + k) := by
  simp only [VX]
  rw [if_pos (vd21 h0 h1), vl21 h0 h1]
theorem vd22 {k j : Nat} (h0 : k < 10) (h1 : j < 4) : vdom 58 (5 * k + j) = true := decide_eq_true (show (5 * k + j) < 50 by omega)
theorem vl22 {k j : Nat} (h0 : k < 10) (h1 : j < 4) : vloc 58 (5 * k + j) = (22, k, j) := by
  show (if (5 * k + j) % 5 = 4 then ((20, (5 * k + j) / 5, 4) : Nat × Nat × Nat) else (22, (5 * k + j) / 5, (5 * k + j) % 5)) = (22, k, j)
  rw [if_neg (by omega), show (5 * k + j) / 5 = k by omega, show (5 * k + j) % 5 = j by omega]
theorem up22 {M : mh_M} {x : Int32} {k j : Nat} (h0 : k < 10) (h1 : j < 4) : VX (mh_up M 22 k j x) = vu (VX M) 58 (5 * k + j) x := VX_up (vd22 h0 h1) (vl22 h0 h1) (vi_of rfl)
theorem rd22 {M : mh_M} {k j : Nat} (h0 : k < 10) (h1 : j < 4) : M 22 k j = VX M 58 (5 * k + j) := by
  simp only [VX]
  rw [if_pos (vd22 h0 h1), vl22 h0 h1]
theorem vd23_0 {r : Nat} (h0 : r < 12) : vdom 46 r = true := decide_eq_true (show r < 12 by omega)
theorem vl23_0 {r : Nat} (h0 : r < 12) : vloc 46 r = (23, r, 0) := rfl
theorem up23_0 {M : mh_M} {x : Int32} {r : Nat} (h0 : r < 12) : VX (mh_up M 23 r 0 x) = vu (VX M) 46 r x := VX_up (vd23_0 h0) (vl23_0 h0) (vi_of rfl)
theorem rd23_0 {M : mh_M} {r : Nat} (h0 : r < 12) : M 23 r 0 = VX M 46 r := by
  simp only [VX]
  rw [if_pos (vd23_0 h0), vl23_0 h0]
theorem vd24 {r k : Nat} (h0 : r < 12) (h1 : k < 10) : vdom 47 (10 * r + k) = true := decide_eq_true (show (10 * r + k) < 120 by omega)
theorem vl24 {r k : Nat} (h0 : r < 12) (h1 : k < 10) : vloc 47 (10 * r + k) = (24, r, k) := by
  show ((24, (10 * r + k) / 10, (10 * r + k) % 10) : Nat × Nat × Nat) = (24, r, k)
  rw [show (10 * r + k) % 10 = k by omega, show (10 * r + k) / 10 = r by omega]
theorem up24 {M : mh_M} {x : Int32} {r k : Nat} (h0 : r < 12) (h1 : k < 10) : VX (mh_up M 24 r k x) = vu (VX M) 47 (10 * r + k) x := VX_up (vd24 h0 h1) (vl24 h0 h1) (vi_of rfl)
theorem rd24 {M : mh_M} {r k : Nat} (h0 : r < 12) (h1 : k < 10) : M 24 r k = VX M 47 (10 * r + k) := by
  simp only [VX]
  rw [if_pos (vd24 h0 h1), vl24 h0 h1]
theorem vd3 {j : Nat} (h0 : j < 7) : vdom 49 j = true := decide_eq_true (show j < 7 by omega)
theorem vl3 {j : Nat} (h0 : j < 7) : vloc 49 j = (3, 0, j) := rfl
theorem up3 {M : mh_M} {x : Int32} {j : Nat} (h0 : j < 7) : VX (mh_up M 3 0 j x) = vu (VX M) 49 j x := VX_up (vd3 h0) (vl3 h0) (vi_of rfl)
theorem rd3 {M : mh_M} {j : Nat} (h0 : j < 7) : M 3 0 j = VX M 49 j := by
  simp only [VX]
  rw [if_pos (vd3 h0), vl3 h0]
theorem vd28 {s k : Nat} (h0 : s < 40) (h1 : k < 10) : vdom 53 (10 * s + k) = true := decide_eq_true (show (10 * s + k) < 400 by omega)
theorem vl28 {s k : Nat} (h0 : s < 40) (h1 : k < 10) : vloc 53 (10 * s + k) = (28, s, k) := by
  show ((28, (10 * s + k) / 10, (10 * s + k) % 10) : Nat × Nat × Nat) = (28, s, k)
  rw [show (10 * s + k) % 10 = k by omega, show (10 * s + k) / 10 = s by omega]
theorem up28 {M : mh_M} {x : Int32} {s k : Nat} (h0 : s < 40) (h1 : k < 10) : VX (mh_up M 28 s k x) = vu (VX M) 53 (10 * s + k) x := VX_up (vd28 h0 h1) (vl28 h0 h1) (vi_of rfl)
theorem rd28 {M : mh_M} {s k : Nat} (h0 : s < 40) (h1 : k < 10) : M 28 s k = VX M 53 (10 * s + k) := by
  simp only [VX]
  rw [if_pos (vd28 h0 h1), vl28 h0 h1]
theorem vd27 {s k : Nat} (h0 : s < 40) (h1 : k < 10) : vdom 54 (10 * s + k) = true := decide_eq_true (show (10 * s + k) < 400 by omega)
theorem vl27 {s k : Nat} (h0 : s < 40) (h1 : k < 10) : vloc 54 (10 * s + k) = (27, s, k) := by
  show ((27, (10 * s + k) / 10, (10 * s + k) % 10) : Nat × Nat × Nat) = (27, s, k)
  rw [show (10 * s + k) % 10 = k by omega, show (10 * s + k) / 10 = s by omega]
theorem up27 {M : mh_M} {x : Int32} {s k : Nat} (h0 : s < 40) (h1 : k < 10) : VX (mh_up M 27 s k x) = vu (VX M) 54 (10 * s + k) x := VX_up (vd27 h0 h1) (vl27 h0 h1) (vi_of rfl)
theorem rd27 {M : mh_M} {s k : Nat} (h0 : s < 40) (h1 : k < 10) : M 27 s k = VX M 54 (10 * s + k) := by
  simp only [VX]
  rw [if_pos (vd27 h0 h1), vl27 h0 h1]
theorem vd26 {s k : Nat} (h0 : s < 40) (h1 : k < 10) : vdom 55 (10 * s + k) = true := decide_eq_true (show (10 * s + k) < 400 by omega)
theorem vl26 {s k : Nat} (h0 : s < 40) (h1 : k < 10) : vloc 55 (10 * s + k) = (26, s, k) := by
  show ((26, (10 * s + k) / 10, (10 * s + k) % 10) : Nat × Nat × Nat) = (26, s, k)
  rw [show (10 * s + k) % 10 = k by omega, show (10 * s + k) / 10 = s by omega]
theorem up26 {M : mh_M} {x : Int32} {s k : Nat} (h0 : s < 40) (h1 : k < 10) : VX (mh_up M 26 s k x) = vu (VX M) 55 (10 * s + k) x := VX_up (vd26 h0 h1) (vl26 h0 h1) (vi_of rfl)
theorem rd26 {M : mh_M} {s k : Nat} (h0 : s < 40) (h1 : k < 10) : M 26 s k = VX M 55 (10 * s + k) := by
  simp only [VX]
  rw [if_pos (vd26 h0 h1), vl26 h0 h1]
theorem vd29 {s k : Nat} (h0 : s < 40) (h1 : k < 10) : vdom 56 (10 * s + k) = true := decide_eq_true (show (10 * s + k) < 400 by omega)
theorem vl29 {s k : Nat} (h0 : s < 40) (h1 : k < 10) : vloc 56 (10 * s + k) = (29, s, k) := by
  show ((29, (10 * s + k) / 10, (10 * s + k) % 10) : Nat × Nat × Nat) = (29, s, k)
  rw [show (10 * s + k) % 10 = k by omega, show (10 * s + k) / 10 = s by omega]
theorem up29 {M : mh_M} {x : Int32} {s k : Nat} (h0 : s < 40) (h1 : k < 10) : VX (mh_up M 29 s k x) = vu (VX M) 56 (10 * s + k) x := VX_up (vd29 h0 h1) (vl29 h0 h1) (vi_of rfl)
theorem rd29 {M : mh_M} {s k : Nat} (h0 : s < 40) (h1 : k < 10) : M 29 s k = VX M 56 (10 * s + k) := by
  simp only [VX]
  rw [if_pos (vd29 h0 h1), vl29 h0 h1]
theorem vd25 {s : Nat} (h0 : s < 40) : vdom 57 s = true := decide_eq_true (show s < 40 by omega)
theorem vl25 {s : Nat} (h0 : s < 40) : vloc 57 s = (25, s, 0) := rfl
theorem up25 {M : mh_M} {x : Int32} {s : Nat} (h0 : s < 40) : VX (mh_up M 25 s 0 x) = vu (VX M) 57 s x := VX_up (vd25 h0) (vl25 h0) (vi_of rfl)
theorem rd25 {M : mh_M} {s : Nat} (h0 : s < 40) : M 25 s 0 = VX M 57 s := by
  simp only [VX]
  rw [if_pos (vd25 h0), vl25 h0]
theorem vd7 {b : Nat} (h0 : b < 2) : vdom 59 b = true := decide_eq_true (show b < 2 by omega)
theorem vl7 {b : Nat} (h0 : b < 2) : vloc 59 b = (7, 0, b) := rfl
theorem up7 {M : mh_M} {x : Int32} {b : Nat} (h0 : b < 2) : VX (mh_up M 7 0 b x) = vu (VX M) 59 b x := VX_up (vd7 h0) (vl7 h0) (vi_of rfl)
theorem rd7 {M : mh_M} {b : Nat} (h0 : b < 2) : M 7 0 b = VX M 59 b := by
  simp only [VX]
  rw [if_pos (vd7 h0), vl7 h0]
theorem vd9 {j : Nat} (h0 : j < 8) : vdom 63 j = true := decide_eq_true (show j < 8 by omega)
theorem vl9 {j : Nat} (h0 : j < 8) : vloc 63 j = (9, 0, j) := rfl
theorem up9 {M : mh_M} {x : Int32} {j : Nat} (h0 : j < 8) : VX (mh_up M 9 0 j x) = vu (VX M) 63 j x := VX_up (vd9 h0) (vl9 h0) (vi_of rfl)
theorem rd9 {M : mh_M} {j : Nat} (h0 : j < 8) : M 9 0 j = VX M 63 j := by
  simp only [VX]
  rw [if_pos (vd9 h0), vl9 h0]
theorem vd10 {j : Nat} (h0 : j < 8) : vdom 64 j = true := decide_eq_true (show j < 8 by omega)
theorem vl10 {j : Nat} (h0 : j < 8) : vloc 64 j = (10, 0, j) := rfl
theorem up10 {M : mh_M} {x : Int32} {j : Nat} (h0 : j < 8) : VX (mh_up M 10 0 j x) = vu (VX M) 64 j x := VX_up (vd10 h0) (vl10 h0) (vi_of rfl)
theorem rd10 {M : mh_M} {j : Nat} (h0 : j < 8) : M 10 0 j = VX M 64 j := by
  simp only [VX]
  rw [if_pos (vd10 h0), vl10 h0]
theorem vd31_0 {i : Nat} (h0 : i < 12) : vdom 66 i = true := decide_eq_true (show i < 12 by omega)
theorem vl31_0 {i : Nat} (h0 : i < 12) : vloc 66 i = (31, i, 0) := rfl
theorem up31_0 {M : mh_M} {x : Int32} {i : Nat} (h0 : i < 12) : VX (mh_up M 31 i 0 x) = vu (VX M) 66 i x := VX_up (vd31_0 h0) (vl31_0 h0) (vi_of rfl)
theorem rd31_0 {M : mh_M} {i : Nat} (h0 : i < 12) : M 31 i 0 = VX M 66 i := by
  simp only [VX]
  rw [if_pos (vd31_0 h0), vl31_0 h0]
theorem vd31_1 {i : Nat} (h0 : i < 12) : vdom 67 i = true := decide_eq_true (show i < 12 by omega)
theorem vl31_1 {i : Nat} (h0 : i < 12) : vloc 67 i = (31, i, 1) := rfl
theorem up31_1 {M : mh_M} {x : Int32} {i : Nat} (h0 : i < 12) : VX (mh_up M 31 i 1 x) = vu (VX M) 67 i x := VX_up (vd31_1 h0) (vl31_1 h0) (vi_of rfl)
theorem rd31_1 {M : mh_M} {i : Nat} (h0 : i < 12) : M 31 i 1 = VX M 67 i := by
  simp only [VX]
  rw [if_pos (vd31_1 h0), vl31_1 h0]
theorem vd31_2 {i : Nat} (h0 : i < 12) : vdom 68 i = true := decide_eq_true (show i < 12 by omega)
theorem vl31_2 {i : Nat} (h0 : i < 12) : vloc 68 i = (31, i, 2) := rfl
theorem up31_2 {M : mh_M} {x : Int32} {i : Nat} (h0 : i < 12) : VX (mh_up M 31 i 2 x) = vu (VX M) 68 i x := VX_up (vd31_2 h0) (vl31_2 h0) (vi_of rfl)
theorem rd31_2 {M : mh_M} {i : Nat} (h0 : i < 12) : M 31 i 2 = VX M 68 i := by
  simp only [VX]
  rw [if_pos (vd31_2 h0), vl31_2 h0]
theorem vd31_3 {i : Nat} (h0 : i < 12) : vdom 69 i = true := decide_eq_true (show i < 12 by omega)
theorem vl31_3 {i : Nat} (h0 : i < 12) : vloc 69 i = (31, i, 3) := rfl
theorem up31_3 {M : mh_M} {x : Int32} {i : Nat} (h0 : i < 12) : VX (mh_up M 31 i 3 x) = vu (VX M) 69 i x := VX_up (vd31_3 h0) (vl31_3 h0) (vi_of rfl)
theorem rd31_3 {M : mh_M} {i : Nat} (h0 : i < 12) : M 31 i 3 = VX M 69 i := by
  simp only [VX]
  rw [if_pos (vd31_3 h0), vl31_3 h0]
theorem vd14 {p : Nat} (h0 : p < 6) : vdom 70 p = true := decide_eq_true (show p < 6 by omega)
theorem vl14 {p : Nat} (h0 : p < 6) : vloc 70 p = (14, 0, p) := rfl
theorem up14 {M : mh_M} {x : Int32} {p : Nat} (h0 : p < 6) : VX (mh_up M 14 0 p x) = vu (VX M) 70 p x := VX_up (vd14 h0) (vl14 h0) (vi_of rfl)
theorem rd14 {M : mh_M} {p : Nat} (h0 : p < 6) : M 14 0 p = VX M 70 p := by
  simp only [VX]
  rw [if_pos (vd14 h0), vl14 h0]
theorem vd16 {d : Nat} (h0 : d < 5) : vdom 72 d = true := decide_eq_true (show d < 5 by omega)
theorem vl16 {d : Nat} (h0 : d < 5) : vloc 72 d = (16, 0, d) := rfl
theorem up16 {M : mh_M} {x : Int32} {d : Nat} (h0 : d < 5) : VX (mh_up M 16 0 d x) = vu (VX M) 72 d x := VX_up (vd16 h0) (vl16 h0) (vi_of rfl)
theorem rd16 {M : mh_M} {d : Nat} (h0 : d < 5) : M 16 0 d = VX M 72 d := by
  simp only [VX]
  rw [if_pos (vd16 h0), vl16 h0]
theorem vd17 {d : Nat} (h0 : d < 5) : vdom 73 d = true := decide_eq_true (show d < 5 by omega)
theorem vl17 {d : Nat} (h0 : d < 5) : vloc 73 d = (17, 0, d) := rfl
theorem up17 {M : mh_M} {x : Int32} {d : Nat} (h0 : d < 5) : VX (mh_up M 17 0 d x) = vu (VX M) 73 d x := VX_up (vd17 h0) (vl17 h0) (vi_of rfl)
theorem rd17 {M : mh_M} {d : Nat} (h0 : d < 5) : M 17 0 d = VX M 73 d := by
  simp only [VX]
  rw [if_pos (vd17 h0), vl17 h0]
theorem vdc0 : vdom 40 0 = true := rfl
theorem vlc0 : vloc 40 0 = (0, 0, 1) := rfl
theorem upc0 {M : mh_M} {x : Int32} : VX (mh_up M 0 0 1 x) = vu (VX M) 40 0 x := VX_up vdc0 vlc0 (vi_of rfl)
theorem rdc0 {M : mh_M} : M 0 0 1 = VX M 40 0 := by
  simp only [VX]
  rw [if_pos vdc0, vlc0]
theorem vdc4 : vdom 40 4 = true := rfl
theorem vlc4 : vloc 40 4 = (0, 0, 3) := rfl
theorem upc4 {M : mh_M} {x : Int32} : VX (mh_up M 0 0 3 x) = vu (VX M) 40 4 x := VX_up vdc4 vlc4 (vi_of rfl)
theorem rdc4 {M : mh_M} : M 0 0 3 = VX M 40 4 := by
  simp only [VX]
  rw [if_pos vdc4, vlc4]
theorem vdc11 : vdom 40 11 = true := rfl
theorem vlc11 : vloc 40 11 = (0, 0, 6) := rfl
theorem upc11 {M : mh_M} {x : Int32} : VX (mh_up M 0 0 6 x) = vu (VX M) 40 11 x := VX_up vdc11 vlc11 (vi_of rfl)
theorem rdc11 {M : mh_M} : M 0 0 6 = VX M 40 11 := by
  simp only [VX]
  rw [if_pos vdc11, vlc11]
theorem vdc19 : vdom 40 19 = true := rfl
theorem vlc19 : vloc 40 19 = (5, 0, 1) := rfl
theorem upc19 {M : mh_M} {x : Int32} : VX (mh_up M 5 0 1 x) = vu (VX M) 40 19 x := VX_up vdc19 vlc19 (vi_of rfl)
theorem rdc19 {M : mh_M} : M 5 0 1 = VX M 40 19 := by
  simp only [VX]
  rw [if_pos vdc19, vlc19]
theorem vdc21 : vdom 40 21 = true := rfl
theorem vlc21 : vloc 40 21 = (8, 0, 2) := rfl
theorem upc21 {M : mh_M} {x : Int32} : VX (mh_up M 8 0 2 x) = vu (VX M) 40 21 x := VX_up vdc21 vlc21 (vi_of rfl)
theorem rdc21 {M : mh_M} : M 8 0 2 = VX M 40 21 := by
  simp only [VX]
  rw [if_pos vdc21, vlc21]
theorem vdc24 : vdom 40 24 = true := rfl
theorem vlc24 : vloc 40 24 = (0, 0, 11) := rfl
theorem upc24 {M : mh_M} {x : Int32} : VX (mh_up M 0 0 11 x) = vu (VX M) 40 24 x := VX_up vdc24 vlc24 (vi_of rfl)
theorem rdc24 {M : mh_M} : M 0 0 11 = VX M 40 24 := by
  simp only [VX]
  rw [if_pos vdc24, vlc24]
theorem vdc30 : vdom 40 30 = true := rfl
theorem vlc30 : vloc 40 30 = (15, 0, 2) := rfl
theorem upc30 {M : mh_M} {x : Int32} : VX (mh_up M 15 0 2 x) = vu (VX M) 40 30 x := VX_up vdc30 vlc30 (vi_of rfl)
theorem rdc30 {M : mh_M} : M 15 0 2 = VX M 40 30 := by
  simp only [VX]
  rw [if_pos vdc30, vlc30]
theorem rdM {M : mh_M} {t j : Nat} (h : vdom t j = true) (h4 : t ≠ 44) : M t 0 j = VM M t j := by
  simp only [VM]
  rw [if_pos h, if_neg (fun q => h4 q.1)]
theorem rdM44 {M : mh_M} {j : Nat} (h : j < 10) (h1 : VM M 44 j ≠ 1) : M 44 0 j = VM M 44 j := by
  have hd : vdom 44 j = true := decide_eq_true h
  simp only [VM] at h1 ⊢
  rw [if_pos hd] at h1 ⊢
  by_cases h0 : M 44 0 j = 0
  · exact absurd (by simp [h0]) h1
  · rw [if_neg (fun q => h0 q.2)]
theorem off_sold {M : mh_M} {x : Int32} {r : Nat} : VX (mh_up M 23 r 1 x) = VX M := VX_off (vo_of (j0 := 0) rfl)
theorem off_need {M : mh_M} {x : Int32} {r : Nat} : VX (mh_up M 23 r 2 x) = VX M := VX_off (vo_of (j0 := 0) rfl)
theorem off_act {M : mh_M} {x : Int32} {q k : Nat} : VX (mh_up M 30 q k x) = VX M := VX_off (vo_of (j0 := 0) rfl)
theorem off_next {M : mh_M} {x : Int32} : VX (mh_up M 5 0 2 x) = VX M := VX_off (vo_of (j0 := 0) rfl)
theorem off_least {M : mh_M} {x : Int32} {d b : Nat} : VX (mh_up M 19 d b x) = VX M := VX_off (vo_of (j0 := 0) rfl)
theorem offM48 {M : mh_M} {b c : Nat} {x : Int32} : VM (mh_up M 48 b c x) = VM M := VM_off (fun j => rfl)
theorem offM61 {M : mh_M} {b c : Nat} {x : Int32} : VM (mh_up M 61 b c x) = VM M := VM_off (fun j => rfl)
theorem offM74 {M : mh_M} {b c : Nat} {x : Int32} : VM (mh_up M 74 b c x) = VM M := VM_off (fun j => rfl)
