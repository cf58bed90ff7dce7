/-! ===== plain facts: marks, guards, small numbers ===== -/
theorem bd_some {α β : Type} (a : α) (k : α → Option β) : bd (some a) k = k a := rfl
theorem bd2_some {α β γ : Type} (a : α) (b : β) (k : α → β → Option γ) : bd2 (some (a, b)) k = k a b := rfl
theorem ck_t {α : Type} (o : Option α) : ck true o = o := rfl
theorem pl_e {α β : Type} (a : α) (k : α → β) : pl a k = k a := rfl
theorem b01 {c : Prop} [Decidable c] {α : Type} (A B : α) : (if (if c then (1 : Int32) else 0) = 0 then A else B) = if c then B else A := by
  by_cases h : c <;> simp [h]
theorem litN (k : Nat) : (OfNat.ofNat k : Int32) = nI k := rfl
theorem inbN {k n : Nat} (h : k < n) (hn : n ≤ 2 ^ 31) : inb (nI k) n = true := by
  refine decide_eq_true ?_
  rintro (q | q)
  · exact nI_pos (n := k) (by omega) q
  · rw [nI_clamp (by omega)] at q
    omega
theorem clN {k : Nat} (h : k < 2 ^ 31) : (nI k).toNatClampNeg = k := nI_clamp h
theorem i_not_lt {a b : Int32} : ¬ a < b ↔ b ≤ a := Int32.not_lt
theorem i_not_le {a b : Int32} : ¬ a ≤ b ↔ b < a := Int32.not_le
/-- a number in 0 .. m -/
theorem gIn {a : Int32} {m : Nat} (hm : m < 2 ^ 31) (h : 0 ≤ a ∧ a ≤ nI m) : ∃ k : Nat, k ≤ m ∧ a = nI k :=
  nI_of2 (nI_toInt hm) (Int32.not_lt.mpr h.1) h.2
/-- a place of a table that has m rows -/
theorem gLt {a : Int32} {m : Nat} (hm : m < 2 ^ 31) (h : 0 ≤ a ∧ a ≤ nI m - 1) : ∃ k : Nat, k < m ∧ a = nI k := by
  cases m with
  | zero =>
    exfalso
    have h1 := Int32.le_trans h.1 h.2
    exact absurd h1 (by decide)
  | succ m =>
    rw [show nI (m + 1) - 1 = nI m from nI_pred m] at h
    obtain ⟨k, hk, e⟩ := gIn (by omega) h
    exact ⟨k, by omega, e⟩
theorem eX_isIn (n : Nat) (M : mh_M) (a l h : Int32) : fX9_isIn n M a l h = some (if l ≤ a ∧ a ≤ h then 1 else 0) := by
  unfold fX9_isIn
  by_cases h1 : a < l
  · rw [if_pos h1, if_neg (fun q => absurd q.1 (Int32.not_le.mpr h1))]
  · rw [if_neg h1]
    by_cases h2 : h < a
    · rw [if_pos h2, if_neg (fun q => absurd q.2 (Int32.not_le.mpr h2))]
    · rw [if_neg h2, if_pos ⟨Int32.not_lt.mp h1, Int32.not_lt.mp h2⟩]
theorem eM_in (n : Nat) (M : mh_M) (a l h : Int32) : fX10_in n M a l h = some (if l ≤ a ∧ a ≤ h then 1 else 0) := by
  unfold fX10_in
  by_cases h1 : a < l
  · rw [if_pos h1, if_neg (fun q => absurd q.1 (Int32.not_le.mpr h1))]
  · rw [if_neg h1]
    by_cases h2 : h < a
    · rw [if_pos h2, if_neg (fun q => absurd q.2 (Int32.not_le.mpr h2))]
    · rw [if_neg h2, if_pos ⟨Int32.not_lt.mp h1, Int32.not_lt.mp h2⟩]
theorem eX_isBar (n : Nat) (M : mh_M) (a : Int32) : fX9_isBar n M a = some (if 0 ≤ a ∧ a ≤ 1 then 1 else 0) := by
  simp only [fX9_isBar, eX_isIn, bd_some]
theorem eX_isKeeper (n : Nat) (M : mh_M) (a : Int32) : fX9_isKeeper n M a = some (if 0 ≤ a ∧ a ≤ 2 then 1 else 0) := by
  simp only [fX9_isKeeper, eX_isIn, bd_some]
theorem eX_isKind (n : Nat) (M : mh_M) (a : Int32) : fX9_isKind n M a = some (if 0 ≤ a ∧ a ≤ M 0 0 1 - 1 then 1 else 0) := by
  simp only [fX9_isKind, eX_isIn, bd_some, pl_e]
theorem eX_isRecipe (n : Nat) (M : mh_M) (a : Int32) : fX9_isRecipe n M a = some (if 0 ≤ a ∧ a ≤ M 0 0 3 - 1 then 1 else 0) := by
  simp only [fX9_isRecipe, eX_isIn, bd_some, pl_e]
theorem eX_isTime (n : Nat) (M : mh_M) (d m : Int32) : fX9_isTime n M d m = some (if (0 ≤ d ∧ d ≤ 6) ∧ (0 ≤ m ∧ m ≤ 1439) then 1 else 0) := by
  simp only [fX9_isTime, eX_isIn, bd_some, b01]
  by_cases h1 : 0 ≤ d ∧ d ≤ 6 <;> by_cases h2 : 0 ≤ m ∧ m ≤ 1439 <;> simp [h1, h2]
theorem eM_isBar (n : Nat) (M : mh_M) (a : Int32) : fX10_isBar n M a = some (if 0 ≤ a ∧ a ≤ 1 then 1 else 0) := by
  simp only [fX10_isBar, eM_in, bd_some]
theorem eM_isKind (n : Nat) (M : mh_M) (a : Int32) : fX10_isKind n M a = some (if 0 ≤ a ∧ a ≤ M 40 0 0 - 1 then 1 else 0) := by
  simp only [fX10_isKind, eM_in, bd_some, pl_e]
theorem eM_isRecipe (n : Nat) (M : mh_M) (a : Int32) : fX10_isRecipe n M a = some (if 0 ≤ a ∧ a ≤ M 40 0 4 - 1 then 1 else 0) := by
  simp only [fX10_isRecipe, eM_in, bd_some, pl_e]
/-- a GAP that isn't WEIGHED any more isn't looked at -/
def mask (v : Vw) : Vw := fun t j => if t = 53 ∧ v 54 j = 0 then 0 else v t j
def wX (M : mh_M) : Vw := mask (VX M)
def wM (M : mh_M) : Vw := mask (VM M)
theorem mask_ne {v : Vw} {t j : Nat} (h : t ≠ 53) : mask v t j = v t j := if_neg (fun q => h q.1)
theorem mask_vu {v : Vw} {t j : Nat} {x : Int32} (h : t ≠ 53) (h2 : t ≠ 54) : mask (vu v t j x) = vu (mask v) t j x := by
  funext a b
  by_cases hq : a = t ∧ b = j
  · obtain ⟨rfl, rfl⟩ := hq
    rw [vu_at, mask_ne h, vu_at]
  · rw [vu_ne hq]
    simp only [mask]
    rw [vu_ne (t' := 54) (fun q => h2 q.1.symm), vu_ne hq]
/-- the state of both, once: the view, the acts kept, what was SOLD this NIGHT -/
abbrev St : Type := Vw × (Nat → Nat → Int32) × (Nat → Bool)
def acN (w : Vw) : Nat := (w 40 19).toNatClampNeg
def XS (q : St) (M : mh_M) : Prop := wX M = q.1 ∧
  (∃ nx : Nat, nx < 40 ∧ M 5 0 2 = nI nx ∧ ∀ a, a < acN q.1 → ∀ j, j < 5 → M 30 ((nx + 40 - acN q.1 + a) % 40) j = q.2.1 a j) ∧
  (∀ r, r < 12 → (M 23 r 1 = M 0 0 6 ↔ q.2.2 r = true) ∧ (M 23 r 1).toInt ≤ (M 0 0 6).toInt) ∧
  (∀ r, r < 12 → ∀ i, i < 32 → bt (M 23 r 2) i = (decide (i < 10) && decide (0 < q.1 47 (10 * r + i))))
def MS (q : St) (M : mh_M) : Prop := wM M = q.1 ∧
  (∀ a, a < acN q.1 → ∀ j, j < 5 → M 61 0 (6 * a + j) = q.2.1 a j) ∧
  (∀ r, r < 12 → M 48 0 r = if q.2.2 r = true then 1 else 0)
theorem XS_congr {q : St} {M N : mh_M} (h : ∀ t, t < 40 → N t = M t) (hs : XS q M) : XS q N := by
  obtain ⟨h1, ⟨nx, h2, h3, h4⟩, h5, h6⟩ := hs
  refine ⟨by unfold wX; rw [VX_congr h]; exact h1, ⟨nx, h2, by rw [h 5 (by omega)]; exact h3, fun a ha j hj => by rw [h 30 (by omega)]; exact h4 a ha j hj⟩, fun r hr => by rw [h 23 (by omega), h 0 (by omega)]; exact h5 r hr, fun r hr i hi => by rw [h 23 (by omega)]; exact h6 r hr i hi⟩
theorem MS_congr {q : St} {M N : mh_M} (h : ∀ t, 40 ≤ t → N t = M t) (hs : MS q M) : MS q N := by
  obtain ⟨h1, h2, h3⟩ := hs
  refine ⟨by unfold wM; rw [VM_congr h]; exact h1, fun a ha j hj => by rw [h 61 (by omega)]; exact h2 a ha j hj, fun r hr => by rw [h 48 (by omega)]; exact h3 r hr⟩
/-- what always holds of the state behind c calls -/
def Inv (c : Nat) (q : St) : Prop := ∃ K Rc T A FT PR DL : Nat,
  (q.1 40 0 = nI K ∧ q.1 40 4 = nI Rc ∧ q.1 40 11 = nI T ∧ q.1 40 19 = nI A ∧ q.1 40 21 = nI FT ∧ q.1 40 24 = nI PR ∧ q.1 40 30 = nI DL) ∧
  (K ≤ 10 ∧ Rc ≤ 12 ∧ T < 20 ∧ A ≤ 40 ∧ FT ≤ 8 ∧ PR ≤ 12 ∧ DL ≤ 5 ∧ c ≤ 512) ∧
  (∀ k, k < K → ∃ d : Nat, 50 ≤ d ∧ d ≤ 150 ∧ q.1 44 k = nI d ∧ ∃ t : Nat, t ≤ 2000 ∧ q.1 42 k = nI t) ∧
  (∀ r, r < 12 → ∀ k, k < 10 → ∃ p : Nat, p ≤ 20 ∧ q.1 47 (10 * r + k) = nI p ∧ (K ≤ k → p = 0)) ∧
  (∀ j, j < 400 → -(100 * (c : Int)) ≤ (q.1 55 j).toInt ∧ (q.1 55 j).toInt ≤ 100 * (c : Int)) ∧
  (∀ j, j < FT → ∃ a : Nat, a ≤ 200 ∧ q.1 63 j = nI a) ∧
  (∀ j, j < PR → ∃ a b : Nat, a ≤ 1439 ∧ b ≤ 1439 ∧ q.1 67 j = nI a ∧ q.1 68 j = nI b) ∧
  (∀ j, j < DL → ∃ a b : Nat, 1 ≤ a ∧ a ≤ 24 ∧ b ≤ 100000 ∧ q.1 72 j = nI a ∧ q.1 73 j = nI b) ∧
  (∀ a, a < A → ∃ w b t : Nat, w ≤ 6 ∧ b < 2 ∧ q.2.1 a 0 = nI w ∧ q.2.1 a 1 = nI b ∧ q.2.1 a 2 = nI t ∧ (w ≠ 3 → t < K) ∧ (w = 3 → t < Rc ∧ ∃ m : Nat, m ≤ 100 ∧ q.2.1 a 3 = nI m))
