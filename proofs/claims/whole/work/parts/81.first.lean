/-! ===== at first both sides hold the same state ===== -/
def v0 : Vw := fun t j => if t = 49 ∧ j < 7 then mh_first j else if t = 44 ∧ j < 10 then 1 else 0
theorem v0_out {t j : Nat} (h : ¬ vdom t j = true) : v0 t j = 0 := by
  unfold v0
  rw [if_neg, if_neg]
  · rintro ⟨rfl, h1⟩
    exact h (decide_eq_true h1)
  · rintro ⟨rfl, h1⟩
    exact h (decide_eq_true h1)
theorem VX_0 : VX nM0 = v0 := by
  funext t j
  simp only [VX]
  by_cases hd : vdom t j = true
  · rw [if_pos hd]
    unfold vdom at hd
    split at hd
    · simp at hd
      rcases hd with (((((h | h) | h) | h) | h) | h) | h <;> subst h <;> rfl
    · rfl
    · rfl
    · have h := of_decide_eq_true hd
      simp [v0, nM0, vloc, h]
    · rfl
    · rfl
    · have h := of_decide_eq_true hd
      simp [v0, nM0, vloc, h]
    · rfl
    · rfl
    · rfl
    · rfl
    · rfl
    · rfl
    · rfl
    · rfl
    · rfl
    · rfl
    · rfl
    · rfl
    · rfl
    · rfl
    · rfl
    · rfl
    · rfl
    · by_cases h5 : j % 5 = 4
      · simp [v0, nM0, vloc, h5]
      · simp [v0, nM0, vloc, h5]
    · cases hd
  · rw [if_neg hd]
    exact (v0_out hd).symm
theorem VM_0 : VM nM0 = v0 := by
  funext t j
  simp only [VM]
  by_cases hd : vdom t j = true
  · rw [if_pos hd]
    by_cases h44 : t = 44
    · subst h44
      have h : j < 10 := of_decide_eq_true hd
      rw [if_pos ⟨rfl, rfl⟩]
      simp [v0, h]
    · rw [if_neg (fun q => h44 q.1)]
      by_cases h49 : t = 49
      · subst h49
        have h : j < 7 := of_decide_eq_true hd
        simp [v0, nM0, h]
      · have h40 := vdom_tag hd
        have e1 : v0 t j = 0 := by
          unfold v0
          rw [if_neg (fun q => h49 q.1), if_neg (fun q => h44 q.1)]
        rw [e1]
        unfold nM0
        rw [if_neg (by omega), if_neg (by omega), if_neg (by omega)]
  · rw [if_neg hd]
    exact (v0_out hd).symm
theorem mask_v0 : mask v0 = v0 := by
  funext t j
  unfold mask
  by_cases h : t = 53 ∧ v0 54 j = 0
  · rw [if_pos h]
    obtain ⟨rfl, -⟩ := h
    rfl
  · rw [if_neg h]
theorem v0_z {t : Nat} (h1 : t ≠ 49) (h2 : t ≠ 44) (j : Nat) : v0 t j = 0 := by
  unfold v0
  rw [if_neg (fun q => h1 q.1), if_neg (fun q => h2 q.1)]
theorem rel_0 : Rel 0 nM0 := by
  have hac : acN v0 = 0 := by decide
  refine ⟨(v0, fun _ _ => 0, fun _ => false), ⟨?_, ⟨0, by omega, rfl, fun a ha => ?_⟩, fun r hr => ⟨⟨fun h => ?_, fun h => ?_⟩, ?_⟩, fun r hr i hi => ?_⟩, ⟨?_, fun a ha => ?_, fun r hr => rfl⟩, 0, 0, 0, 0, 0, 0, 0, ⟨rfl, rfl, rfl, rfl, rfl, rfl, rfl⟩, by omega, fun k hk => by omega, fun r hr k hk => ⟨0, by omega, show v0 47 (10 * r + k) = 0 from v0_z (t := 47) (by decide) (by decide) _, fun _ => rfl⟩, fun j hj => ?_, fun j hj => by omega, fun j hj => by omega, fun j hj => by omega, fun a ha => by omega⟩
  · show wX nM0 = v0
    unfold wX
    rw [VX_0, mask_v0]
  · have ha : a < acN v0 := ha
    omega
  · have h : (-1 : Int32) = 0 := h
    exact absurd h (by decide)
  · cases h
  · show (-1 : Int32).toInt ≤ (0 : Int32).toInt
    decide
  · show bt 0 i = (decide (i < 10) && decide (0 < v0 47 (10 * r + i)))
    rw [b_0, v0_z (t := 47) (by decide) (by decide)]
    simp
  · show wM nM0 = v0
    unfold wM
    rw [VM_0, mask_v0]
  · have ha : a < acN v0 := ha
    omega
  · show -(100 * ((0 : Nat) : Int)) ≤ (v0 55 j).toInt ∧ (v0 55 j).toInt ≤ 100 * ((0 : Nat) : Int)
    rw [v0_z (t := 55) (by decide) (by decide)]
    decide
