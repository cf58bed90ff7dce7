/-! ===== the least for a weight, by naturals ===== -/
def stp (u p : Nat) (prev : Nat → Nat) : Nat → Nat → Nat
  | 0, x => prev x
  | f + 1, x => if u ≤ x then min (prev x) (stp u p prev f (x - u) + p) else prev x
theorem stp_f {u p : Nat} (hu : 1 ≤ u) (prev : Nat → Nat) : ∀ (f g x : Nat), x ≤ f → x ≤ g → stp u p prev f x = stp u p prev g x := by
  intro f
  induction f with
  | zero =>
    intro g x hf hg
    obtain rfl : x = 0 := by omega
    cases g with
    | zero => rfl
    | succ g =>
      unfold stp
      rw [if_neg (by omega)]
  | succ f ih =>
    intro g x hf hg
    cases g with
    | zero =>
      obtain rfl : x = 0 := by omega
      unfold stp
      rw [if_neg (by omega)]
    | succ g =>
      unfold stp
      by_cases h : u ≤ x
      · rw [if_pos h, if_pos h, ih g (x - u) (by omega) (by omega)]
      · rw [if_neg h, if_neg h]
def rwD (F : Nat) (we pr : Nat → Nat) (DL : Nat) : Nat → Nat → Nat
  | 0, x => if x = 0 then 0 else F
  | j + 1, x => stp (we (DL - 1 - j)) (pr (DL - 1 - j)) (rwD F we pr DL j) x x
def dD (F : Nat) (we pr : Nat → Nat) (DL i x : Nat) : Nat := rwD F we pr DL (DL - i) x
theorem dD_end (F : Nat) (we pr : Nat → Nat) (DL x : Nat) : dD F we pr DL DL x = if x = 0 then 0 else F := by
  unfold dD
  rw [Nat.sub_self]
  rfl
theorem dD_step {F : Nat} {we pr : Nat → Nat} {DL i : Nat} (hi : i < DL) (hu : 1 ≤ we i) (x : Nat) : dD F we pr DL i x = if we i ≤ x then min (dD F we pr DL (i + 1) x) (dD F we pr DL i (x - we i) + pr i) else dD F we pr DL (i + 1) x := by
  have e1 : DL - i = (DL - (i + 1)) + 1 := by omega
  have e2 : DL - 1 - (DL - (i + 1)) = i := by omega
  unfold dD
  rw [e1]
  show stp (we (DL - 1 - (DL - (i + 1)))) (pr (DL - 1 - (DL - (i + 1)))) (rwD F we pr DL (DL - (i + 1))) x x = if we i ≤ x then min _ (stp (we (DL - 1 - (DL - (i + 1)))) (pr (DL - 1 - (DL - (i + 1)))) (rwD F we pr DL (DL - (i + 1))) (x - we i) (x - we i) + pr i) else _
  rw [e2]
  by_cases h : we i ≤ x
  · obtain ⟨y, rfl⟩ : ∃ y, x = y + 1 := ⟨x - 1, by omega⟩
    rw [if_pos h, ← stp_f hu _ y (y + 1 - we i) (y + 1 - we i) (by omega) (by omega)]
    show (if we i ≤ y + 1 then _ else _) = _
    rw [if_pos h]
  · rw [if_neg h]
    cases x with
    | zero => rfl
    | succ y =>
      show (if we i ≤ y + 1 then _ else _) = _
      rw [if_neg h]
theorem dD_ge {F : Nat} {we pr : Nat → Nat} {DL i : Nat} (hi : i < DL) (hu : 1 ≤ we i) {x : Nat} (h : we i ≤ x) : dD F we pr DL i x ≤ dD F we pr DL (i + 1) x ∧ dD F we pr DL i x ≤ dD F we pr DL i (x - we i) + pr i ∧ (dD F we pr DL i x = dD F we pr DL (i + 1) x ∨ dD F we pr DL i x = dD F we pr DL i (x - we i) + pr i) := by
  rw [dD_step hi hu x, if_pos h]
  omega
theorem dD_lt {F : Nat} {we pr : Nat → Nat} {DL i : Nat} (hi : i < DL) (hu : 1 ≤ we i) {x : Nat} (h : x < we i) : dD F we pr DL i x = dD F we pr DL (i + 1) x := by
  rw [dD_step hi hu x, if_neg (by omega)]
theorem dD_le {F : Nat} {we pr : Nat → Nat} {DL : Nat} (hu : ∀ i, i < DL → 1 ≤ we i) : ∀ (j i : Nat), i + j = DL → ∀ x, dD F we pr DL i x ≤ F := by
  intro j
  induction j with
  | zero =>
    intro i h x
    obtain rfl : i = DL := by omega
    rw [dD_end]
    split <;> omega
  | succ j ih =>
    intro i h x
    have := ih (i + 1) (by omega) x
    by_cases hx : we i ≤ x
    · have := dD_ge (F := F) (pr := pr) (show i < DL by omega) (hu i (by omega)) hx
      omega
    · rw [dD_lt (by omega) (hu i (by omega)) (by omega)]
      exact this
/-- with 10^9 or with 10^8: alike where it can be bought -/
theorem dD_two {we pr : Nat → Nat} {DL : Nat} (hu : ∀ i, i < DL → 1 ≤ we i) (hp : ∀ i, i < DL → pr i ≤ 100000) : ∀ (j i : Nat), i + j = DL → ∀ x, x < 900 →
    (dD 100000000 we pr DL i x = 100000000 ∧ dD 1000000000 we pr DL i x = 1000000000) ∨ (dD 1000000000 we pr DL i x = dD 100000000 we pr DL i x ∧ dD 100000000 we pr DL i x ≤ 100000 * x) := by
  intro j
  induction j with
  | zero =>
    intro i h x hx
    obtain rfl : i = DL := by omega
    rw [dD_end, dD_end]
    by_cases h0 : x = 0
    · right
      subst h0
      exact ⟨rfl, Nat.le_refl _⟩
    · left
      rw [if_neg h0, if_neg h0]
      exact ⟨rfl, rfl⟩
  | succ j ih =>
    intro i h x
    have hi : i < DL := by omega
    have hui := hu i hi
    have hpi := hp i hi
    induction x using Nat.strongRecOn with
    | _ x ihx =>
      intro hx
      have h1 := ih (i + 1) (by omega) x hx
      by_cases hw : we i ≤ x
      · have h2 := ihx (x - we i) (by omega) (by omega)
        have g1 := dD_ge (F := 100000000) (pr := pr) hi hui hw
        have g2 := dD_ge (F := 1000000000) (pr := pr) hi hui hw
        omega
      · rw [dD_lt hi hui (by omega), dD_lt hi hui (by omega)]
        exact h1
def bsF (f : Nat → Nat) : Nat → Nat → Nat → Nat
  | 0, _, b => b
  | d + 1, x, b => bsF f d (x + 1) (if f b ≤ f x then b else x)
theorem bsF_le {f : Nat → Nat} : ∀ d x b, b < x → f (bsF f d x b) ≤ f b ∧ (∀ y, x ≤ y → y < x + d → f (bsF f d x b) ≤ f y) ∧ (bsF f d x b = b ∨ x ≤ bsF f d x b) ∧ bsF f d x b < x + d := by
  intro d
  induction d with
  | zero => intro x b h; exact ⟨Nat.le_refl _, fun y z1 z2 => by omega, Or.inl rfl, h⟩
  | succ d ih =>
    intro x b h
    unfold bsF
    by_cases hc : f b ≤ f x
    · rw [if_pos hc]
      obtain ⟨a1, a2, a3, a4⟩ := ih (x + 1) b (by omega)
      refine ⟨a1, fun y z1 z2 => ?_, by omega, by omega⟩
      by_cases hy : y = x
      · subst hy
        omega
      · exact a2 y (by omega) (by omega)
    · rw [if_neg hc]
      obtain ⟨a1, a2, a3, a4⟩ := ih (x + 1) x (by omega)
      refine ⟨by omega, fun y z1 z2 => ?_, by omega, by omega⟩
      by_cases hy : y = x
      · subst hy
        exact a1
      · exact a2 y (by omega) (by omega)
/-- behind a place from which nothing is better, nothing changes -/
theorem bsF_stay {f : Nat → Nat} : ∀ d x b, (∀ y, x ≤ y → y < x + d → f b ≤ f y) → bsF f d x b = b := by
  intro d
  induction d with
  | zero => intro x b h; rfl
  | succ d ih =>
    intro x b h
    unfold bsF
    rw [if_pos (h x (by omega) (by omega))]
    exact ih (x + 1) b (fun y z1 z2 => h y (by omega) (by omega))
theorem bsF_add {f : Nat → Nat} : ∀ d e x b, bsF f (d + e) x b = bsF f e (x + d) (bsF f d x b) := by
  intro d
  induction d with
  | zero => intro e x b; rw [Nat.zero_add]; rfl
  | succ d ih =>
    intro e x b
    rw [show d + 1 + e = (d + e) + 1 by omega]
    show bsF f (d + e) (x + 1) _ = bsF f e (x + (d + 1)) (bsF f d (x + 1) _)
    rw [ih, show x + 1 + d = x + (d + 1) by omega]
theorem bsF_congr {f g : Nat → Nat} : ∀ d x b, b < x → (∀ a c, a < x + d → c < x + d → (f a ≤ f c ↔ g a ≤ g c)) → bsF f d x b = bsF g d x b := by
  intro d
  induction d with
  | zero => intro x b hb h; rfl
  | succ d ih =>
    intro x b hb h
    unfold bsF
    by_cases hc : f b ≤ f x
    · rw [if_pos hc, if_pos ((h b x (by omega) (by omega)).mp hc)]
      exact ih (x + 1) b (by omega) (fun a c z1 z2 => h a c (by omega) (by omega))
    · rw [if_neg hc, if_neg (fun z => hc ((h b x (by omega) (by omega)).mpr z))]
      exact ih (x + 1) x (by omega) (fun a c z1 z2 => h a c (by omega) (by omega))
/-- a weight that can be bought loses a bottle -/
theorem dD_drop {we pr : Nat → Nat} {DL F : Nat} (hu : ∀ i, i < DL → 1 ≤ we i) : ∀ (j i : Nat), i + j = DL → ∀ x, 0 < x → dD F we pr DL i x < F → ∃ b, b < DL ∧ we b ≤ x ∧ dD F we pr DL i (x - we b) ≤ dD F we pr DL i x := by
  intro j
  induction j with
  | zero =>
    intro i h x hx hf
    obtain rfl : i = DL := by omega
    rw [dD_end, if_neg (by omega)] at hf
    omega
  | succ j ih =>
    intro i h x hx hf
    have hi : i < DL := by omega
    have hui := hu i hi
    have key : dD F we pr DL i x = dD F we pr DL (i + 1) x → ∃ b, b < DL ∧ we b ≤ x ∧ dD F we pr DL i (x - we b) ≤ dD F we pr DL i x := by
      intro e
      obtain ⟨b, b1, b2, b3⟩ := ih (i + 1) (by omega) x hx (by omega)
      refine ⟨b, b1, b2, ?_⟩
      have : dD F we pr DL i (x - we b) ≤ dD F we pr DL (i + 1) (x - we b) := by
        by_cases hw : we i ≤ x - we b
        · exact (dD_ge hi hui hw).1
        · rw [dD_lt hi hui (by omega)]
          exact Nat.le_refl _
      omega
    by_cases hw : we i ≤ x
    · obtain ⟨g1, g2, g3⟩ := dD_ge (F := F) (pr := pr) hi hui hw
      rcases g3 with g3 | g3
      · exact key g3
      · exact ⟨i, hi, hw, by omega⟩
    · exact key (dD_lt hi hui (by omega))
theorem dD_mul {we pr : Nat → Nat} {DL F : Nat} (hu : ∀ i, i < DL → 1 ≤ we i) (h0 : 0 < DL) : ∀ k, dD F we pr DL 0 (k * we 0) ≤ k * pr 0 := by
  have hz : ∀ (j i : Nat), i + j = DL → dD F we pr DL i 0 = 0 := by
    intro j
    induction j with
    | zero =>
      intro i h
      obtain rfl : i = DL := by omega
      rw [dD_end]
      rfl
    | succ j ih =>
      intro i h
      rw [dD_lt (by omega) (hu i (by omega)) (by have := hu i (by omega); omega)]
      exact ih (i + 1) (by omega)
  intro k
  induction k with
  | zero => rw [Nat.zero_mul, hz DL 0 (by omega)]; omega
  | succ k ih =>
    have := (dD_ge (F := F) (pr := pr) h0 (hu 0 h0) (x := (k + 1) * we 0) (by rw [Nat.succ_mul]; omega)).2.1
    rw [show (k + 1) * we 0 - we 0 = k * we 0 by rw [Nat.succ_mul]; omega] at this
    rw [Nat.succ_mul k (pr 0)]
    omega
