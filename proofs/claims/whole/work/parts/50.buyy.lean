/-! ===== buy: how many of a bottle, by naturals ===== -/
def mtC (f : Nat → Nat) (u p : Nat) : Nat → Nat → Nat
  | 0, _ => 0
  | k + 1, x => if u ≤ x ∧ f (x - u) + p = f x then mtC f u p k (x - u) + 1 else 0
theorem mtC_spec {f : Nat → Nat} {u p : Nat} (hu : 1 ≤ u) : ∀ k x, x ≤ k → mtC f u p k x * u ≤ x ∧ f x = f (x - mtC f u p k x * u) + mtC f u p k x * p ∧ (u ≤ x - mtC f u p k x * u → f (x - mtC f u p k x * u - u) + p ≠ f (x - mtC f u p k x * u)) := by
  intro k
  induction k with
  | zero =>
    intro x hx
    unfold mtC
    rw [Nat.zero_mul, Nat.zero_mul]
    exact ⟨by omega, by rw [Nat.sub_zero, Nat.add_zero], fun h => by omega⟩
  | succ k ih =>
    intro x hx
    unfold mtC
    by_cases h : u ≤ x ∧ f (x - u) + p = f x
    · rw [if_pos h]
      obtain ⟨a1, a2, a3⟩ := ih (x - u) (by omega)
      generalize mtC f u p k (x - u) = C at *
      rw [show (C + 1) * u = C * u + u from Nat.succ_mul C u, show (C + 1) * p = C * p + p from Nat.succ_mul C p, show x - (C * u + u) = x - u - C * u by omega]
      obtain ⟨h1, h2⟩ := h
      exact ⟨by omega, by omega, a3⟩
    · rw [if_neg h, Nat.zero_mul, Nat.zero_mul, Nat.sub_zero]
      exact ⟨by omega, by omega, fun z1 z2 => h ⟨z1, z2⟩⟩
theorem mtC_congr {f g : Nat → Nat} {u p : Nat} (P : Nat → Prop) (hP : ∀ x, P x → u ≤ x → (f (x - u) + p = f x ↔ g (x - u) + p = g x)) (hn : ∀ x, P x → u ≤ x → f (x - u) + p = f x → P (x - u)) : ∀ k x, P x → mtC f u p k x = mtC g u p k x := by
  intro k
  induction k with
  | zero => intro x h; rfl
  | succ k ih =>
    intro x h
    unfold mtC
    by_cases h1 : u ≤ x ∧ f (x - u) + p = f x
    · rw [if_pos h1, if_pos ⟨h1.1, (hP x h h1.1).mp h1.2⟩, ih _ (hn x h h1.1 h1.2)]
    · rw [if_neg h1, if_neg (fun z => h1 ⟨z.1, (hP x h z.1).mpr z.2⟩)]
theorem dD_many {F : Nat} {we pr : Nat → Nat} {DL i : Nat} (hi : i < DL) (hu : 1 ≤ we i) : ∀ j y, j * we i ≤ y → dD F we pr DL i y ≤ dD F we pr DL i (y - j * we i) + j * pr i := by
  intro j
  induction j with
  | zero => intro y h; rw [Nat.zero_mul, Nat.zero_mul, Nat.sub_zero]; omega
  | succ j ih =>
    intro y h
    rw [Nat.succ_mul] at h
    rw [Nat.succ_mul, Nat.succ_mul]
    have h1 := ih (y - we i) (by omega)
    have h2 := (dD_ge (F := F) (pr := pr) hi hu (x := y) (by omega)).2.1
    rw [show y - (j * we i + we i) = y - we i - j * we i by omega]
    omega
/-- the greatest number that costs no more is the one counted -/
theorem mtC_top {F : Nat} {we pr : Nat → Nat} {DL i : Nat} (hi : i < DL) (hu : 1 ≤ we i) (x : Nat) : mtC (dD F we pr DL i) (we i) (pr i) x x * we i ≤ x ∧
    dD F we pr DL (i + 1) (x - mtC (dD F we pr DL i) (we i) (pr i) x x * we i) + mtC (dD F we pr DL i) (we i) (pr i) x x * pr i = dD F we pr DL i x ∧
    dD F we pr DL i (x - mtC (dD F we pr DL i) (we i) (pr i) x x * we i) = dD F we pr DL (i + 1) (x - mtC (dD F we pr DL i) (we i) (pr i) x x * we i) ∧
    ∀ m, mtC (dD F we pr DL i) (we i) (pr i) x x < m → m * we i ≤ x → dD F we pr DL (i + 1) (x - m * we i) + m * pr i ≠ dD F we pr DL i x := by
  obtain ⟨a1, a2, a3⟩ := mtC_spec (f := dD F we pr DL i) (p := pr i) hu x x (Nat.le_refl _)
  generalize mtC (dD F we pr DL i) (we i) (pr i) x x = C at *
  have hs : dD F we pr DL i (x - C * we i) = dD F we pr DL (i + 1) (x - C * we i) := by
    by_cases hw : we i ≤ x - C * we i
    · obtain ⟨g1, g2, g3⟩ := dD_ge (F := F) (pr := pr) hi hu hw
      have := a3 hw
      omega
    · exact dD_lt hi hu (by omega)
  refine ⟨a1, by omega, hs, fun m hm hx he => ?_⟩
  obtain ⟨j, rfl⟩ : ∃ j, m = C + 1 + j := ⟨m - C - 1, by omega⟩
  rw [Nat.add_mul, Nat.add_mul, Nat.add_mul, Nat.add_mul, Nat.one_mul, Nat.one_mul] at he
  rw [Nat.add_mul, Nat.add_mul, Nat.one_mul] at hx
  have b1 := dD_many (F := F) (pr := pr) hi hu j (x - C * we i - we i) (by omega)
  have b2 : dD F we pr DL i (x - (C * we i + we i + j * we i)) ≤ dD F we pr DL (i + 1) (x - (C * we i + we i + j * we i)) := by
    by_cases hw : we i ≤ x - (C * we i + we i + j * we i)
    · exact (dD_ge hi hu hw).1
    · rw [dD_lt hi hu (by omega)]
      exact Nat.le_refl _
  have b3 := (dD_ge (F := F) (pr := pr) hi hu (x := x - C * we i) (by omega)).2.1
  have b4 := a3 (by omega)
  rw [show x - C * we i - we i - j * we i = x - (C * we i + we i + j * we i) by omega] at b1
  omega
def grd (d : Nat → Nat → Nat) (we pr : Nat → Nat) : Nat → Nat → Nat → Nat → Nat
  | 0, _, t, _ => t
  | k + 1, x, _, i => grd d we pr k (x - mtC (d i) (we i) (pr i) x x * we i) (mtC (d i) (we i) (pr i) x x) (i + 1)
theorem feas8 {w : Vw} {DL : Nat} (hV : DV w DL) {i : Nat} (hi : i ≤ DL) {x : Nat} (hx : x < 900) : (d8 w DL i x = 100000000 ∧ d9 w DL i x = 1000000000) ∨ (d9 w DL i x = d8 w DL i x ∧ d8 w DL i x ≤ 100000 * x) := dD_two (fun j hj => (hV.2 j hj).1) (fun j hj => (hV.2 j hj).2.2.1) (DL - i) i (by omega) x hx
theorem mtC_89 {w : Vw} {DL : Nat} (hV : DV w DL) {i : Nat} (hi : i < DL) {x : Nat} (hx : x < 144) (hf : d8 w DL i x < 100000000) : mtC (d9 w DL i) (weV w i) (prW w i) x x = mtC (d8 w DL i) (weV w i) (prW w i) x x := by
  refine mtC_congr (fun y => y < 144 ∧ d8 w DL i y < 100000000) ?_ ?_ x x ⟨hx, hf⟩
  · rintro y ⟨h1, h2⟩ h3
    have e1 := feas8 hV (show i ≤ DL by omega) (x := y) (by omega)
    have e2 := feas8 hV (show i ≤ DL by omega) (x := y - weV w i) (by omega)
    omega
  · rintro y ⟨h1, h2⟩ h3 h4
    have e1 := feas8 hV (show i ≤ DL by omega) (x := y) (by omega)
    have e2 := feas8 hV (show i ≤ DL by omega) (x := y - weV w i) (by omega)
    exact ⟨by omega, by omega⟩
theorem grd_89 {w : Vw} {DL : Nat} (hV : DV w DL) : ∀ k i x t, i + k ≤ DL → x < 144 → d8 w DL i x < 100000000 → grd (d9 w DL) (weV w) (prW w) k x t i = grd (d8 w DL) (weV w) (prW w) k x t i := by
  intro k
  induction k with
  | zero => intro i x t h1 h2 h3; rfl
  | succ k ih =>
    intro i x t h1 h2 h3
    have hi : i < DL := by omega
    unfold grd
    rw [mtC_89 hV hi h2 h3]
    obtain ⟨a1, a2, a3, a4⟩ := mtC_top (F := 100000000) (pr := prW w) hi (hV.2 i hi).1 x
    have b2 : d8 w DL (i + 1) (x - mtC (d8 w DL i) (weV w i) (prW w i) x x * weV w i) + mtC (d8 w DL i) (weV w i) (prW w i) x x * prW w i = d8 w DL i x := a2
    exact ih (i + 1) _ _ (by omega) (by omega) (by omega)
/-! the class -/
theorem mt_X {q : St} {M0 M : mh_M} (hX : XS q M0) {DL i : Nat} (hV : DV q.1 DL) (hC : CB q.1 DL 0 144 M0 M) (hi : i < DL) (n : Nat) : ∀ (f x c k : Nat), x ≤ f → c + x < 144 → f < k →
    itr2 (fX2_mostTimes_L5 n M (nI i)) k (nI x) (nI c) = some (nI (c + mtC (d9 q.1 DL i) (weV q.1 i) (prW q.1 i) f x)) := by
  have h5 := hV.1
  obtain ⟨v1, v2, v3, v4, v5⟩ := hV.2 i hi
  intro f
  induction f with
  | zero =>
    intro x c k hx hc hk
    obtain ⟨k, rfl⟩ : ∃ m, k = m + 1 := ⟨k - 1, by omega⟩
    show fX2_mostTimes_L5 n M (nI i) (itr2 (fX2_mostTimes_L5 n M (nI i)) k) (nI x) (nI c) = some (nI c)
    generalize itr2 (fX2_mostTimes_L5 n M (nI i)) k = rec
    unfold fX2_mostTimes_L5
    rw [if_neg (show ¬ (144 : Int32) ≤ nI c from fun z => absurd ((nI_leI (a := 144) (by omega) (by omega)).mp z) (by omega))]
    simp only [inbN (show i < 5 by omega) (show 5 ≤ 2 ^ 31 by omega), ck_t, pl_e, clN (show i < 2 ^ 31 by omega), hC.1 16 (by omega), rX16 hX (show i < 5 by omega), v4, ltN (show x < 2 ^ 31 by omega) (show weV q.1 i < 2 ^ 31 by omega)]
    rw [if_pos (by omega)]
  | succ f ih =>
    intro x c k hx hc hk
    obtain ⟨k, rfl⟩ : ∃ m, k = m + 1 := ⟨k - 1, by omega⟩
    have hI := fun h => ih (x - weV q.1 i) (c + 1) k (by omega) h (by omega)
    show fX2_mostTimes_L5 n M (nI i) (itr2 (fX2_mostTimes_L5 n M (nI i)) k) (nI x) (nI c) = _
    generalize itr2 (fX2_mostTimes_L5 n M (nI i)) k = rec at hI ⊢
    unfold fX2_mostTimes_L5
    rw [if_neg (show ¬ (144 : Int32) ≤ nI c from fun z => absurd ((nI_leI (a := 144) (by omega) (by omega)).mp z) (by omega))]
    rw [pwm hX hC.1 hV hi n (show x < 144 by omega) (fun h => hC.2 i _ (by omega) (by omega) (by omega))]
    simp only [inbN (show i < 5 by omega) (show 5 ≤ 2 ^ 31 by omega), inbN (show i < 6 by omega) (show 6 ≤ 2 ^ 31 by omega), ck_t, pl_e, clN (show i < 2 ^ 31 by omega), hC.1 16 (by omega), rX16 hX (show i < 5 by omega), v4, ltN (show x < 2 ^ 31 by omega) (show weV q.1 i < 2 ^ 31 by omega), bd_some, r144 (show x < 144 by omega), clN (show x < 2 ^ 31 by omega), hC.2 i x (by omega) (by omega) (by omega)]
    unfold mtC
    by_cases hw : weV q.1 i ≤ x
    · rw [if_neg (show ¬ x < weV q.1 i by omega), if_pos hw]
      have l1 := d9_le hV (show i ≤ DL by omega) x
      have l2 := d9_le hV (show i ≤ DL by omega) (x - weV q.1 i)
      by_cases he : d9 q.1 DL i (x - weV q.1 i) + prW q.1 i = d9 q.1 DL i x
      · rw [if_pos (show nI (d9 q.1 DL i (x - weV q.1 i) + prW q.1 i) = nI (d9 q.1 DL i x) by rw [he]), if_pos ⟨hw, he⟩]
        simp only [pk_sub hw, nI_1]
        rw [hI (by omega)]
        simp only [show ∀ a : Nat, c + 1 + a = c + (a + 1) from fun a => by omega]
      · rw [if_neg (show ¬ nI (d9 q.1 DL i (x - weV q.1 i) + prW q.1 i) = nI (d9 q.1 DL i x) from fun z => he ((nI_eq (by omega) (by omega)).mp z)), if_neg (fun z => he z.2)]
        rfl
    · rw [if_pos (show x < weV q.1 i by omega), if_neg (fun z => hw z.1)]
      rfl
theorem to_X {q : St} {M0 M : mh_M} (hX : XS q M0) {DL top : Nat} (hV : DV q.1 DL) (hC : CB q.1 DL 0 144 M0 M) (ht : top < DL) {n : Nat} (hn : 200 ≤ n) : ∀ (f x t i k : Nat), i + f = top + 1 → x < 144 → f < k →
    itr3 (fX2_timesOf_L8 n M (nI top)) k (nI x) (nI t) (nI i) = some (nI (grd (d9 q.1 DL) (weV q.1) (prW q.1) f x t i)) := by
  have h5 := hV.1
  intro f
  induction f with
  | zero =>
    intro x t i k hi hx hk
    obtain ⟨k, rfl⟩ : ∃ m, k = m + 1 := ⟨k - 1, by omega⟩
    show fX2_timesOf_L8 n M (nI top) (itr3 (fX2_timesOf_L8 n M (nI top)) k) (nI x) (nI t) (nI i) = some (nI t)
    generalize itr3 (fX2_timesOf_L8 n M (nI top)) k = rec
    unfold fX2_timesOf_L8
    rw [if_pos (nI_lt (show top < i by omega) (by omega))]
  | succ f ih =>
    intro x t i k hi hx hk
    obtain ⟨k, rfl⟩ : ∃ m, k = m + 1 := ⟨k - 1, by omega⟩
    have hI := fun x' t' h => ih x' t' (i + 1) k (by omega) h (by omega)
    have hid : i < DL := by omega
    obtain ⟨v1, v2, v3, v4, v5⟩ := hV.2 i hid
    show fX2_timesOf_L8 n M (nI top) (itr3 (fX2_timesOf_L8 n M (nI top)) k) (nI x) (nI t) (nI i) = some (nI (grd (d9 q.1 DL) (weV q.1) (prW q.1) f (x - mtC (d9 q.1 DL i) (weV q.1 i) (prW q.1 i) x x * weV q.1 i) (mtC (d9 q.1 DL i) (weV q.1 i) (prW q.1 i) x x) (i + 1)))
    generalize itr3 (fX2_timesOf_L8 n M (nI top)) k = rec at hI ⊢
    unfold fX2_timesOf_L8
    rw [if_neg (nI_nlt (show i ≤ top by omega) (by omega))]
    have e1 : fX2_mostTimes n M (nI i) (nI x) = some (nI (mtC (d9 q.1 DL i) (weV q.1 i) (prW q.1 i) x x)) := by
      have := mt_X hX hV hC hid n x x 0 n (Nat.le_refl _) (by omega) (by omega)
      rw [Nat.zero_add] at this
      exact this
    have e2 := (mtC_spec (f := d9 q.1 DL i) (p := prW q.1 i) v1 x x (Nat.le_refl _)).1
    rw [e1]
    generalize mtC (d9 q.1 DL i) (weV q.1 i) (prW q.1 i) x x = C at *
    simp only [bd_some, inbN (show i < 5 by omega) (show 5 ≤ 2 ^ 31 by omega), ck_t, pl_e, clN (show i < 2 ^ 31 by omega), hC.1 16 (by omega), rX16 hX (show i < 5 by omega), v4, pk_mul, pk_sub e2, nI_1]
    exact hI _ _ (by omega)
