/-! ===== readers and writers of the state ===== -/
theorem mh_up_t {M : mh_M} {t i k t' : Nat} {v : Int32} (h : t' ≠ t) : mh_up M t i k v t' = M t' := by
  funext a b
  exact if_neg (fun q => h q.1)
theorem mh_up_c {M : mh_M} {t i k t' i' k' : Nat} {v : Int32} (h : ¬ (t' = t ∧ i' = i ∧ k' = k)) : mh_up M t i k v t' i' k' = M t' i' k' := if_neg h
theorem wX_off {M : mh_M} {a b c j0 : Nat} {x : Int32} (h : vinv a b c = (99, j0)) : wX (mh_up M a b c x) = wX M := by
  unfold wX
  rw [VX_off (vo_of h)]
theorem wu20_0 {M : mh_M} {x : Int32} {k : Nat} (h0 : k < 10) : wX (mh_up M 20 k 0 x) = vu (wX M) 42 k x := by
  unfold wX
  rw [up20_0 h0, mask_vu (by omega) (by omega)]
theorem rX20_0 {q : St} {M : mh_M} (hX : XS q M) {k : Nat} (h0 : k < 10) : M 20 k 0 = q.1 42 k := by
  rw [rd20_0 (M := M) h0, ← hX.1]
  exact (mask_ne (by omega)).symm
theorem wu20_1 {M : mh_M} {x : Int32} {k : Nat} (h0 : k < 10) : wX (mh_up M 20 k 1 x) = vu (wX M) 43 k x := by
  unfold wX
  rw [up20_1 h0, mask_vu (by omega) (by omega)]
theorem rX20_1 {q : St} {M : mh_M} (hX : XS q M) {k : Nat} (h0 : k < 10) : M 20 k 1 = q.1 43 k := by
  rw [rd20_1 (M := M) h0, ← hX.1]
  exact (mask_ne (by omega)).symm
theorem wu20_2 {M : mh_M} {x : Int32} {k : Nat} (h0 : k < 10) : wX (mh_up M 20 k 2 x) = vu (wX M) 44 k x := by
  unfold wX
  rw [up20_2 h0, mask_vu (by omega) (by omega)]
theorem rX20_2 {q : St} {M : mh_M} (hX : XS q M) {k : Nat} (h0 : k < 10) : M 20 k 2 = q.1 44 k := by
  rw [rd20_2 (M := M) h0, ← hX.1]
  exact (mask_ne (by omega)).symm
theorem wu20_3 {M : mh_M} {x : Int32} {k : Nat} (h0 : k < 10) : wX (mh_up M 20 k 3 x) = vu (wX M) 50 k x := by
  unfold wX
  rw [up20_3 h0, mask_vu (by omega) (by omega)]
theorem rX20_3 {q : St} {M : mh_M} (hX : XS q M) {k : Nat} (h0 : k < 10) : M 20 k 3 = q.1 50 k := by
  rw [rd20_3 (M := M) h0, ← hX.1]
  exact (mask_ne (by omega)).symm
theorem wu20_4 {M : mh_M} {x : Int32} {k : Nat} (h0 : k < 10) : wX (mh_up M 20 k 4 x) = vu (wX M) 58 (5 * k + 4) x := by
  unfold wX
  rw [up20_4 h0, mask_vu (by omega) (by omega)]
theorem rX20_4 {q : St} {M : mh_M} (hX : XS q M) {k : Nat} (h0 : k < 10) : M 20 k 4 = q.1 58 (5 * k + 4) := by
  rw [rd20_4 (M := M) h0, ← hX.1]
  exact (mask_ne (by omega)).symm
theorem wu21 {M : mh_M} {x : Int32} {k b : Nat} (h0 : k < 10) (h1 : b < 2) : wX (mh_up M 21 k b x) = vu (wX M) 51 (10 * b + k) x := by
  unfold wX
  rw [up21 h0 h1, mask_vu (by omega) (by omega)]
theorem rX21 {q : St} {M : mh_M} (hX : XS q M) {k b : Nat} (h0 : k < 10) (h1 : b < 2) : M 21 k b = q.1 51 (10 * b + k) := by
  rw [rd21 (M := M) h0 h1, ← hX.1]
  exact (mask_ne (by omega)).symm
theorem wu22 {M : mh_M} {x : Int32} {k j : Nat} (h0 : k < 10) (h1 : j < 4) : wX (mh_up M 22 k j x) = vu (wX M) 58 (5 * k + j) x := by
  unfold wX
  rw [up22 h0 h1, mask_vu (by omega) (by omega)]
theorem rX22 {q : St} {M : mh_M} (hX : XS q M) {k j : Nat} (h0 : k < 10) (h1 : j < 4) : M 22 k j = q.1 58 (5 * k + j) := by
  rw [rd22 (M := M) h0 h1, ← hX.1]
  exact (mask_ne (by omega)).symm
theorem wu23_0 {M : mh_M} {x : Int32} {r : Nat} (h0 : r < 12) : wX (mh_up M 23 r 0 x) = vu (wX M) 46 r x := by
  unfold wX
  rw [up23_0 h0, mask_vu (by omega) (by omega)]
theorem rX23_0 {q : St} {M : mh_M} (hX : XS q M) {r : Nat} (h0 : r < 12) : M 23 r 0 = q.1 46 r := by
  rw [rd23_0 (M := M) h0, ← hX.1]
  exact (mask_ne (by omega)).symm
theorem wu24 {M : mh_M} {x : Int32} {r k : Nat} (h0 : r < 12) (h1 : k < 10) : wX (mh_up M 24 r k x) = vu (wX M) 47 (10 * r + k) x := by
  unfold wX
  rw [up24 h0 h1, mask_vu (by omega) (by omega)]
theorem rX24 {q : St} {M : mh_M} (hX : XS q M) {r k : Nat} (h0 : r < 12) (h1 : k < 10) : M 24 r k = q.1 47 (10 * r + k) := by
  rw [rd24 (M := M) h0 h1, ← hX.1]
  exact (mask_ne (by omega)).symm
theorem wu3 {M : mh_M} {x : Int32} {j : Nat} (h0 : j < 7) : wX (mh_up M 3 0 j x) = vu (wX M) 49 j x := by
  unfold wX
  rw [up3 h0, mask_vu (by omega) (by omega)]
theorem rX3 {q : St} {M : mh_M} (hX : XS q M) {j : Nat} (h0 : j < 7) : M 3 0 j = q.1 49 j := by
  rw [rd3 (M := M) h0, ← hX.1]
  exact (mask_ne (by omega)).symm
theorem rX27 {q : St} {M : mh_M} (hX : XS q M) {s k : Nat} (h0 : s < 40) (h1 : k < 10) : M 27 s k = q.1 54 (10 * s + k) := by
  rw [rd27 (M := M) h0 h1, ← hX.1]
  exact (mask_ne (by omega)).symm
theorem wu26 {M : mh_M} {x : Int32} {s k : Nat} (h0 : s < 40) (h1 : k < 10) : wX (mh_up M 26 s k x) = vu (wX M) 55 (10 * s + k) x := by
  unfold wX
  rw [up26 h0 h1, mask_vu (by omega) (by omega)]
theorem rX26 {q : St} {M : mh_M} (hX : XS q M) {s k : Nat} (h0 : s < 40) (h1 : k < 10) : M 26 s k = q.1 55 (10 * s + k) := by
  rw [rd26 (M := M) h0 h1, ← hX.1]
  exact (mask_ne (by omega)).symm
theorem wu29 {M : mh_M} {x : Int32} {s k : Nat} (h0 : s < 40) (h1 : k < 10) : wX (mh_up M 29 s k x) = vu (wX M) 56 (10 * s + k) x := by
  unfold wX
  rw [up29 h0 h1, mask_vu (by omega) (by omega)]
theorem rX29 {q : St} {M : mh_M} (hX : XS q M) {s k : Nat} (h0 : s < 40) (h1 : k < 10) : M 29 s k = q.1 56 (10 * s + k) := by
  rw [rd29 (M := M) h0 h1, ← hX.1]
  exact (mask_ne (by omega)).symm
theorem wu25 {M : mh_M} {x : Int32} {s : Nat} (h0 : s < 40) : wX (mh_up M 25 s 0 x) = vu (wX M) 57 s x := by
  unfold wX
  rw [up25 h0, mask_vu (by omega) (by omega)]
theorem rX25 {q : St} {M : mh_M} (hX : XS q M) {s : Nat} (h0 : s < 40) : M 25 s 0 = q.1 57 s := by
  rw [rd25 (M := M) h0, ← hX.1]
  exact (mask_ne (by omega)).symm
theorem wu7 {M : mh_M} {x : Int32} {b : Nat} (h0 : b < 2) : wX (mh_up M 7 0 b x) = vu (wX M) 59 b x := by
  unfold wX
  rw [up7 h0, mask_vu (by omega) (by omega)]
theorem rX7 {q : St} {M : mh_M} (hX : XS q M) {b : Nat} (h0 : b < 2) : M 7 0 b = q.1 59 b := by
  rw [rd7 (M := M) h0, ← hX.1]
  exact (mask_ne (by omega)).symm
theorem wu9 {M : mh_M} {x : Int32} {j : Nat} (h0 : j < 8) : wX (mh_up M 9 0 j x) = vu (wX M) 63 j x := by
  unfold wX
  rw [up9 h0, mask_vu (by omega) (by omega)]
theorem rX9 {q : St} {M : mh_M} (hX : XS q M) {j : Nat} (h0 : j < 8) : M 9 0 j = q.1 63 j := by
  rw [rd9 (M := M) h0, ← hX.1]
  exact (mask_ne (by omega)).symm
theorem wu10 {M : mh_M} {x : Int32} {j : Nat} (h0 : j < 8) : wX (mh_up M 10 0 j x) = vu (wX M) 64 j x := by
  unfold wX
  rw [up10 h0, mask_vu (by omega) (by omega)]
theorem rX10 {q : St} {M : mh_M} (hX : XS q M) {j : Nat} (h0 : j < 8) : M 10 0 j = q.1 64 j := by
  rw [rd10 (M := M) h0, ← hX.1]
  exact (mask_ne (by omega)).symm
theorem wu31_0 {M : mh_M} {x : Int32} {i : Nat} (h0 : i < 12) : wX (mh_up M 31 i 0 x) = vu (wX M) 66 i x := by
  unfold wX
  rw [up31_0 h0, mask_vu (by omega) (by omega)]
theorem rX31_0 {q : St} {M : mh_M} (hX : XS q M) {i : Nat} (h0 : i < 12) : M 31 i 0 = q.1 66 i := by
  rw [rd31_0 (M := M) h0, ← hX.1]
  exact (mask_ne (by omega)).symm
theorem wu31_1 {M : mh_M} {x : Int32} {i : Nat} (h0 : i < 12) : wX (mh_up M 31 i 1 x) = vu (wX M) 67 i x := by
  unfold wX
  rw [up31_1 h0, mask_vu (by omega) (by omega)]
theorem rX31_1 {q : St} {M : mh_M} (hX : XS q M) {i : Nat} (h0 : i < 12) : M 31 i 1 = q.1 67 i := by
  rw [rd31_1 (M := M) h0, ← hX.1]
  exact (mask_ne (by omega)).symm
theorem wu31_2 {M : mh_M} {x : Int32} {i : Nat} (h0 : i < 12) : wX (mh_up M 31 i 2 x) = vu (wX M) 68 i x := by
  unfold wX
  rw [up31_2 h0, mask_vu (by omega) (by omega)]
theorem rX31_2 {q : St} {M : mh_M} (hX : XS q M) {i : Nat} (h0 : i < 12) : M 31 i 2 = q.1 68 i := by
  rw [rd31_2 (M := M) h0, ← hX.1]
  exact (mask_ne (by omega)).symm
theorem wu31_3 {M : mh_M} {x : Int32} {i : Nat} (h0 : i < 12) : wX (mh_up M 31 i 3 x) = vu (wX M) 69 i x := by
  unfold wX
  rw [up31_3 h0, mask_vu (by omega) (by omega)]
theorem rX31_3 {q : St} {M : mh_M} (hX : XS q M) {i : Nat} (h0 : i < 12) : M 31 i 3 = q.1 69 i := by
  rw [rd31_3 (M := M) h0, ← hX.1]
  exact (mask_ne (by omega)).symm
theorem wu14 {M : mh_M} {x : Int32} {p : Nat} (h0 : p < 6) : wX (mh_up M 14 0 p x) = vu (wX M) 70 p x := by
  unfold wX
  rw [up14 h0, mask_vu (by omega) (by omega)]
theorem rX14 {q : St} {M : mh_M} (hX : XS q M) {p : Nat} (h0 : p < 6) : M 14 0 p = q.1 70 p := by
  rw [rd14 (M := M) h0, ← hX.1]
  exact (mask_ne (by omega)).symm
theorem wu16 {M : mh_M} {x : Int32} {d : Nat} (h0 : d < 5) : wX (mh_up M 16 0 d x) = vu (wX M) 72 d x := by
  unfold wX
  rw [up16 h0, mask_vu (by omega) (by omega)]
theorem rX16 {q : St} {M : mh_M} (hX : XS q M) {d : Nat} (h0 : d < 5) : M 16 0 d = q.1 72 d := by
  rw [rd16 (M := M) h0, ← hX.1]
  exact (mask_ne (by omega)).symm
theorem wu17 {M : mh_M} {x : Int32} {d : Nat} (h0 : d < 5) : wX (mh_up M 17 0 d x) = vu (wX M) 73 d x := by
  unfold wX
  rw [up17 h0, mask_vu (by omega) (by omega)]
theorem rX17 {q : St} {M : mh_M} (hX : XS q M) {d : Nat} (h0 : d < 5) : M 17 0 d = q.1 73 d := by
  rw [rd17 (M := M) h0, ← hX.1]
  exact (mask_ne (by omega)).symm
theorem wuc0 {M : mh_M} {x : Int32} : wX (mh_up M 0 0 1 x) = vu (wX M) 40 0 x := by
  unfold wX
  rw [upc0, mask_vu (by omega) (by omega)]
theorem rXc0 {q : St} {M : mh_M} (hX : XS q M) : M 0 0 1 = q.1 40 0 := by
  rw [rdc0 (M := M), ← hX.1]
  exact (mask_ne (by omega)).symm
theorem wuc4 {M : mh_M} {x : Int32} : wX (mh_up M 0 0 3 x) = vu (wX M) 40 4 x := by
  unfold wX
  rw [upc4, mask_vu (by omega) (by omega)]
theorem rXc4 {q : St} {M : mh_M} (hX : XS q M) : M 0 0 3 = q.1 40 4 := by
  rw [rdc4 (M := M), ← hX.1]
  exact (mask_ne (by omega)).symm
theorem wuc11 {M : mh_M} {x : Int32} : wX (mh_up M 0 0 6 x) = vu (wX M) 40 11 x := by
  unfold wX
  rw [upc11, mask_vu (by omega) (by omega)]
theorem rXc11 {q : St} {M : mh_M} (hX : XS q M) : M 0 0 6 = q.1 40 11 := by
  rw [rdc11 (M := M), ← hX.1]
  exact (mask_ne (by omega)).symm
theorem wuc19 {M : mh_M} {x : Int32} : wX (mh_up M 5 0 1 x) = vu (wX M) 40 19 x := by
  unfold wX
  rw [upc19, mask_vu (by omega) (by omega)]
theorem rXc19 {q : St} {M : mh_M} (hX : XS q M) : M 5 0 1 = q.1 40 19 := by
  rw [rdc19 (M := M), ← hX.1]
  exact (mask_ne (by omega)).symm
theorem wuc21 {M : mh_M} {x : Int32} : wX (mh_up M 8 0 2 x) = vu (wX M) 40 21 x := by
  unfold wX
  rw [upc21, mask_vu (by omega) (by omega)]
theorem rXc21 {q : St} {M : mh_M} (hX : XS q M) : M 8 0 2 = q.1 40 21 := by
  rw [rdc21 (M := M), ← hX.1]
  exact (mask_ne (by omega)).symm
theorem wuc24 {M : mh_M} {x : Int32} : wX (mh_up M 0 0 11 x) = vu (wX M) 40 24 x := by
  unfold wX
  rw [upc24, mask_vu (by omega) (by omega)]
theorem rXc24 {q : St} {M : mh_M} (hX : XS q M) : M 0 0 11 = q.1 40 24 := by
  rw [rdc24 (M := M), ← hX.1]
  exact (mask_ne (by omega)).symm
theorem wuc30 {M : mh_M} {x : Int32} : wX (mh_up M 15 0 2 x) = vu (wX M) 40 30 x := by
  unfold wX
  rw [upc30, mask_vu (by omega) (by omega)]
theorem rXc30 {q : St} {M : mh_M} (hX : XS q M) : M 15 0 2 = q.1 40 30 := by
  rw [rdc30 (M := M), ← hX.1]
  exact (mask_ne (by omega)).symm
theorem rd_s {M : mh_M} {t i k : Nat} {v : Int32} : mh_up M t i k v t i k = v := by simp [mh_up]
theorem rd_t {M : mh_M} {t i k t' i' k' : Nat} {v : Int32} (h : t' ≠ t) : mh_up M t i k v t' i' k' = M t' i' k' := if_neg (fun q => h q.1)
theorem rd_i {M : mh_M} {t i k t' i' k' : Nat} {v : Int32} (h : i' ≠ i) : mh_up M t i k v t' i' k' = M t' i' k' := if_neg (fun q => h q.2.1)
theorem rd_k {M : mh_M} {t i k t' i' k' : Nat} {v : Int32} (h : k' ≠ k) : mh_up M t i k v t' i' k' = M t' i' k' := if_neg (fun q => h q.2.2)
theorem vu_t {w : Vw} {t j t' j' : Nat} {x : Int32} (h : t' ≠ t) : vu w t j x t' j' = w t' j' := if_neg (fun q => h q.1)
theorem vu_j {w : Vw} {t j t' j' : Nat} {x : Int32} (h : j' ≠ j) : vu w t j x t' j' = w t' j' := if_neg (fun q => h q.2)
theorem rX28 {q : St} {M : mh_M} (hX : XS q M) {s k : Nat} (h0 : s < 40) (h1 : k < 10) (hw : q.1 54 (10 * s + k) ≠ 0) : M 28 s k = q.1 53 (10 * s + k) := by
  have h54 : VX M 54 (10 * s + k) ≠ 0 := by
    rw [← rd27 (M := M) h0 h1, rX27 hX h0 h1]
    exact hw
  rw [rd28 (M := M) h0 h1, ← hX.1]
  exact (if_neg (fun z => h54 z.2)).symm
theorem rM {q : St} {M : mh_M} (hM : MS q M) {t j : Nat} (h : vdom t j = true) (h4 : t ≠ 44) (h3 : t ≠ 53) : M t 0 j = q.1 t j := by
  rw [rdM (M := M) h h4, ← hM.1]
  exact (mask_ne h3).symm
theorem rM44 {q : St} {M : mh_M} (hM : MS q M) {j : Nat} (h : j < 10) (h1 : q.1 44 j ≠ 1) : M 44 0 j = q.1 44 j := by
  have e : VM M 44 j = q.1 44 j := by
    rw [← hM.1]
    exact (mask_ne (by omega)).symm
  rw [rdM44 (M := M) h (by rw [e]; exact h1), e]
theorem rM53 {q : St} {M : mh_M} (hM : MS q M) {j : Nat} (h : j < 400) (hw : q.1 54 j ≠ 0) : M 53 0 j = q.1 53 j := by
  have h54 : VM M 54 j ≠ 0 := by
    rw [← rdM (M := M) (t := 54) (j := j) (decide_eq_true h) (by omega), rM hM (t := 54) (decide_eq_true h) (by omega) (by omega)]
    exact hw
  rw [rdM (M := M) (t := 53) (j := j) (decide_eq_true h) (by omega), ← hM.1]
  exact (if_neg (fun z => h54 z.2)).symm
theorem wMu {M : mh_M} {t j : Nat} {x : Int32} (h : vdom t j = true) (h3 : t ≠ 53) (h4 : t ≠ 54) (hx : t = 44 → x ≠ 0) : wM (mh_up M t 0 j x) = vu (wM M) t j x := by
  unfold wM
  rw [VM_up h hx, mask_vu h3 h4]
theorem wM_off {M : mh_M} {a b c : Nat} {x : Int32} (h : ∀ j, vdom a j = false) : wM (mh_up M a b c x) = wM M := by
  unfold wM
  rw [VM_off h]

theorem wm42 {M : mh_M} {j : Nat} {x : Int32} (h : j < 10) : wM (mh_up M 42 0 j x) = vu (wM M) 42 j x := wMu (decide_eq_true h) (by omega) (by omega) (by omega)
theorem rm42 {q : St} {M : mh_M} (hM : MS q M) {j : Nat} (h : j < 10) : M 42 0 j = q.1 42 j := rM hM (decide_eq_true h) (by omega) (by omega)
theorem wm43 {M : mh_M} {j : Nat} {x : Int32} (h : j < 10) : wM (mh_up M 43 0 j x) = vu (wM M) 43 j x := wMu (decide_eq_true h) (by omega) (by omega) (by omega)
theorem rm43 {q : St} {M : mh_M} (hM : MS q M) {j : Nat} (h : j < 10) : M 43 0 j = q.1 43 j := rM hM (decide_eq_true h) (by omega) (by omega)
theorem wm44 {M : mh_M} {j : Nat} {x : Int32} (h : j < 10) (hx : x ≠ 0) : wM (mh_up M 44 0 j x) = vu (wM M) 44 j x := wMu (decide_eq_true h) (by omega) (by omega) (fun _ => hx)
theorem wm46 {M : mh_M} {j : Nat} {x : Int32} (h : j < 12) : wM (mh_up M 46 0 j x) = vu (wM M) 46 j x := wMu (decide_eq_true h) (by omega) (by omega) (by omega)
theorem rm46 {q : St} {M : mh_M} (hM : MS q M) {j : Nat} (h : j < 12) : M 46 0 j = q.1 46 j := rM hM (decide_eq_true h) (by omega) (by omega)
theorem wm47 {M : mh_M} {j : Nat} {x : Int32} (h : j < 120) : wM (mh_up M 47 0 j x) = vu (wM M) 47 j x := wMu (decide_eq_true h) (by omega) (by omega) (by omega)
theorem rm47 {q : St} {M : mh_M} (hM : MS q M) {j : Nat} (h : j < 120) : M 47 0 j = q.1 47 j := rM hM (decide_eq_true h) (by omega) (by omega)
theorem wm49 {M : mh_M} {j : Nat} {x : Int32} (h : j < 7) : wM (mh_up M 49 0 j x) = vu (wM M) 49 j x := wMu (decide_eq_true h) (by omega) (by omega) (by omega)
theorem rm49 {q : St} {M : mh_M} (hM : MS q M) {j : Nat} (h : j < 7) : M 49 0 j = q.1 49 j := rM hM (decide_eq_true h) (by omega) (by omega)
theorem wm50 {M : mh_M} {j : Nat} {x : Int32} (h : j < 10) : wM (mh_up M 50 0 j x) = vu (wM M) 50 j x := wMu (decide_eq_true h) (by omega) (by omega) (by omega)
theorem rm50 {q : St} {M : mh_M} (hM : MS q M) {j : Nat} (h : j < 10) : M 50 0 j = q.1 50 j := rM hM (decide_eq_true h) (by omega) (by omega)
theorem wm51 {M : mh_M} {j : Nat} {x : Int32} (h : j < 20) : wM (mh_up M 51 0 j x) = vu (wM M) 51 j x := wMu (decide_eq_true h) (by omega) (by omega) (by omega)
theorem rm51 {q : St} {M : mh_M} (hM : MS q M) {j : Nat} (h : j < 20) : M 51 0 j = q.1 51 j := rM hM (decide_eq_true h) (by omega) (by omega)
theorem rm54 {q : St} {M : mh_M} (hM : MS q M) {j : Nat} (h : j < 400) : M 54 0 j = q.1 54 j := rM hM (decide_eq_true h) (by omega) (by omega)
theorem wm55 {M : mh_M} {j : Nat} {x : Int32} (h : j < 400) : wM (mh_up M 55 0 j x) = vu (wM M) 55 j x := wMu (decide_eq_true h) (by omega) (by omega) (by omega)
theorem rm55 {q : St} {M : mh_M} (hM : MS q M) {j : Nat} (h : j < 400) : M 55 0 j = q.1 55 j := rM hM (decide_eq_true h) (by omega) (by omega)
theorem wm56 {M : mh_M} {j : Nat} {x : Int32} (h : j < 400) : wM (mh_up M 56 0 j x) = vu (wM M) 56 j x := wMu (decide_eq_true h) (by omega) (by omega) (by omega)
theorem rm56 {q : St} {M : mh_M} (hM : MS q M) {j : Nat} (h : j < 400) : M 56 0 j = q.1 56 j := rM hM (decide_eq_true h) (by omega) (by omega)
theorem wm57 {M : mh_M} {j : Nat} {x : Int32} (h : j < 40) : wM (mh_up M 57 0 j x) = vu (wM M) 57 j x := wMu (decide_eq_true h) (by omega) (by omega) (by omega)
theorem rm57 {q : St} {M : mh_M} (hM : MS q M) {j : Nat} (h : j < 40) : M 57 0 j = q.1 57 j := rM hM (decide_eq_true h) (by omega) (by omega)
theorem wm59 {M : mh_M} {j : Nat} {x : Int32} (h : j < 2) : wM (mh_up M 59 0 j x) = vu (wM M) 59 j x := wMu (decide_eq_true h) (by omega) (by omega) (by omega)
theorem rm59 {q : St} {M : mh_M} (hM : MS q M) {j : Nat} (h : j < 2) : M 59 0 j = q.1 59 j := rM hM (decide_eq_true h) (by omega) (by omega)
theorem wm63 {M : mh_M} {j : Nat} {x : Int32} (h : j < 8) : wM (mh_up M 63 0 j x) = vu (wM M) 63 j x := wMu (decide_eq_true h) (by omega) (by omega) (by omega)
theorem rm63 {q : St} {M : mh_M} (hM : MS q M) {j : Nat} (h : j < 8) : M 63 0 j = q.1 63 j := rM hM (decide_eq_true h) (by omega) (by omega)
theorem wm64 {M : mh_M} {j : Nat} {x : Int32} (h : j < 8) : wM (mh_up M 64 0 j x) = vu (wM M) 64 j x := wMu (decide_eq_true h) (by omega) (by omega) (by omega)
theorem rm64 {q : St} {M : mh_M} (hM : MS q M) {j : Nat} (h : j < 8) : M 64 0 j = q.1 64 j := rM hM (decide_eq_true h) (by omega) (by omega)
theorem wm66 {M : mh_M} {j : Nat} {x : Int32} (h : j < 12) : wM (mh_up M 66 0 j x) = vu (wM M) 66 j x := wMu (decide_eq_true h) (by omega) (by omega) (by omega)
theorem rm66 {q : St} {M : mh_M} (hM : MS q M) {j : Nat} (h : j < 12) : M 66 0 j = q.1 66 j := rM hM (decide_eq_true h) (by omega) (by omega)
theorem wm67 {M : mh_M} {j : Nat} {x : Int32} (h : j < 12) : wM (mh_up M 67 0 j x) = vu (wM M) 67 j x := wMu (decide_eq_true h) (by omega) (by omega) (by omega)
theorem rm67 {q : St} {M : mh_M} (hM : MS q M) {j : Nat} (h : j < 12) : M 67 0 j = q.1 67 j := rM hM (decide_eq_true h) (by omega) (by omega)
theorem wm68 {M : mh_M} {j : Nat} {x : Int32} (h : j < 12) : wM (mh_up M 68 0 j x) = vu (wM M) 68 j x := wMu (decide_eq_true h) (by omega) (by omega) (by omega)
theorem rm68 {q : St} {M : mh_M} (hM : MS q M) {j : Nat} (h : j < 12) : M 68 0 j = q.1 68 j := rM hM (decide_eq_true h) (by omega) (by omega)
theorem wm69 {M : mh_M} {j : Nat} {x : Int32} (h : j < 12) : wM (mh_up M 69 0 j x) = vu (wM M) 69 j x := wMu (decide_eq_true h) (by omega) (by omega) (by omega)
theorem rm69 {q : St} {M : mh_M} (hM : MS q M) {j : Nat} (h : j < 12) : M 69 0 j = q.1 69 j := rM hM (decide_eq_true h) (by omega) (by omega)
theorem wm70 {M : mh_M} {j : Nat} {x : Int32} (h : j < 6) : wM (mh_up M 70 0 j x) = vu (wM M) 70 j x := wMu (decide_eq_true h) (by omega) (by omega) (by omega)
theorem rm70 {q : St} {M : mh_M} (hM : MS q M) {j : Nat} (h : j < 6) : M 70 0 j = q.1 70 j := rM hM (decide_eq_true h) (by omega) (by omega)
theorem wm72 {M : mh_M} {j : Nat} {x : Int32} (h : j < 5) : wM (mh_up M 72 0 j x) = vu (wM M) 72 j x := wMu (decide_eq_true h) (by omega) (by omega) (by omega)
theorem rm72 {q : St} {M : mh_M} (hM : MS q M) {j : Nat} (h : j < 5) : M 72 0 j = q.1 72 j := rM hM (decide_eq_true h) (by omega) (by omega)
theorem wm73 {M : mh_M} {j : Nat} {x : Int32} (h : j < 5) : wM (mh_up M 73 0 j x) = vu (wM M) 73 j x := wMu (decide_eq_true h) (by omega) (by omega) (by omega)
theorem rm73 {q : St} {M : mh_M} (hM : MS q M) {j : Nat} (h : j < 5) : M 73 0 j = q.1 73 j := rM hM (decide_eq_true h) (by omega) (by omega)
theorem wm58 {M : mh_M} {j : Nat} {x : Int32} (h : j < 50) : wM (mh_up M 58 0 j x) = vu (wM M) 58 j x := wMu (decide_eq_true h) (by omega) (by omega) (by omega)
theorem rm58 {q : St} {M : mh_M} (hM : MS q M) {j : Nat} (h : j < 50) : M 58 0 j = q.1 58 j := rM hM (decide_eq_true h) (by omega) (by omega)
theorem wmc0 {M : mh_M} {x : Int32} : wM (mh_up M 40 0 0 x) = vu (wM M) 40 0 x := wMu rfl (by omega) (by omega) (by omega)
theorem rmc0 {q : St} {M : mh_M} (hM : MS q M) : M 40 0 0 = q.1 40 0 := rM hM rfl (by omega) (by omega)
theorem wmc4 {M : mh_M} {x : Int32} : wM (mh_up M 40 0 4 x) = vu (wM M) 40 4 x := wMu rfl (by omega) (by omega) (by omega)
theorem rmc4 {q : St} {M : mh_M} (hM : MS q M) : M 40 0 4 = q.1 40 4 := rM hM rfl (by omega) (by omega)
theorem wmc11 {M : mh_M} {x : Int32} : wM (mh_up M 40 0 11 x) = vu (wM M) 40 11 x := wMu rfl (by omega) (by omega) (by omega)
theorem rmc11 {q : St} {M : mh_M} (hM : MS q M) : M 40 0 11 = q.1 40 11 := rM hM rfl (by omega) (by omega)
theorem wmc19 {M : mh_M} {x : Int32} : wM (mh_up M 40 0 19 x) = vu (wM M) 40 19 x := wMu rfl (by omega) (by omega) (by omega)
theorem rmc19 {q : St} {M : mh_M} (hM : MS q M) : M 40 0 19 = q.1 40 19 := rM hM rfl (by omega) (by omega)
theorem wmc21 {M : mh_M} {x : Int32} : wM (mh_up M 40 0 21 x) = vu (wM M) 40 21 x := wMu rfl (by omega) (by omega) (by omega)
theorem rmc21 {q : St} {M : mh_M} (hM : MS q M) : M 40 0 21 = q.1 40 21 := rM hM rfl (by omega) (by omega)
theorem wmc24 {M : mh_M} {x : Int32} : wM (mh_up M 40 0 24 x) = vu (wM M) 40 24 x := wMu rfl (by omega) (by omega) (by omega)
theorem rmc24 {q : St} {M : mh_M} (hM : MS q M) : M 40 0 24 = q.1 40 24 := rM hM rfl (by omega) (by omega)
theorem wmc30 {M : mh_M} {x : Int32} : wM (mh_up M 40 0 30 x) = vu (wM M) 40 30 x := wMu rfl (by omega) (by omega) (by omega)
theorem rmc30 {q : St} {M : mh_M} (hM : MS q M) : M 40 0 30 = q.1 40 30 := rM hM rfl (by omega) (by omega)
theorem XS_step {q : St} {M M1 : mh_M} {w' : Vw} (hX : XS q M) (hw : wX M1 = w') (h5 : M1 5 0 2 = M 5 0 2) (h30 : M1 30 = M 30) (hs : ∀ r, M1 23 r 1 = M 23 r 1) (hn : ∀ r, M1 23 r 2 = M 23 r 2) (h0 : M1 0 0 6 = M 0 0 6) (ha : w' 40 19 = q.1 40 19) (h47 : ∀ j, w' 47 j = q.1 47 j) : XS (w', q.2) M1 := by
  obtain ⟨h1, ⟨nx, g1, g2, g3⟩, g4, g6⟩ := hX
  have e : acN w' = acN q.1 := by unfold acN; rw [ha]
  exact ⟨hw, ⟨nx, g1, by rw [h5]; exact g2, fun a hA j hj => by
    have hA' : a < acN w' := hA
    show M1 30 ((nx + 40 - acN w' + a) % 40) j = q.2.1 a j
    rw [e] at hA' ⊢
    rw [h30]
    exact g3 a hA' j hj⟩, fun r hr => by rw [hs, h0]; exact g4 r hr, fun r hr i hi => by
    show bt (M1 23 r 2) i = (decide (i < 10) && decide (0 < w' 47 (10 * r + i)))
    rw [hn, h47]
    exact g6 r hr i hi⟩
theorem MS_step {q : St} {M M1 : mh_M} {w' : Vw} (hM : MS q M) (hw : wM M1 = w') (h61 : M1 61 = M 61) (h48 : M1 48 = M 48) (ha : w' 40 19 = q.1 40 19) : MS (w', q.2) M1 := by
  obtain ⟨h1, h2, h3⟩ := hM
  have e : acN w' = acN q.1 := by unfold acN; rw [ha]
  exact ⟨hw, fun a hA j hj => by
    have hA' : a < acN w' := hA
    rw [e] at hA'
    rw [h61]
    exact h2 a hA' j hj, fun r hr => by rw [h48]; exact h3 r hr⟩
def InvT (t : Nat) : Prop := t = 40 ∨ t = 42 ∨ t = 44 ∨ t = 47 ∨ t = 55 ∨ t = 63 ∨ t = 67 ∨ t = 68 ∨ t = 72 ∨ t = 73
theorem Inv_step {c : Nat} {q : St} {w' : Vw} (hI : Inv c q) (hc : c < 512) (h : ∀ t j, InvT t → w' t j = q.1 t j) : Inv (c + 1) (w', q.2) := by
  obtain ⟨K, Rc, T, A, FT, PR, DL, hn, hb, i1, i2, i3, i4, i5, i6, i7⟩ := hI
  refine ⟨K, Rc, T, A, FT, PR, DL, ?_, ?_, ?_, ?_, ?_, ?_, ?_, ?_, i7⟩
  · simp only [h 40 _ (Or.inl rfl)]
    exact hn
  · exact ⟨hb.1, hb.2.1, hb.2.2.1, hb.2.2.2.1, hb.2.2.2.2.1, hb.2.2.2.2.2.1, hb.2.2.2.2.2.2.1, by omega⟩
  · intro k hk
    simp only [h 44 _ (by unfold InvT; omega), h 42 _ (by unfold InvT; omega)]
    exact i1 k hk
  · intro r hr k hk
    simp only [h 47 _ (by unfold InvT; omega)]
    exact i2 r hr k hk
  · intro j hj
    simp only [h 55 _ (by unfold InvT; omega)]
    have := i3 j hj
    omega
  · intro j hj
    simp only [h 63 _ (by unfold InvT; omega)]
    exact i4 j hj
  · intro j hj
    simp only [h 67 _ (by unfold InvT; omega), h 68 _ (by unfold InvT; omega)]
    exact i5 j hj
  · intro j hj
    simp only [h 72 _ (by unfold InvT; omega), h 73 _ (by unfold InvT; omega)]
    exact i6 j hj
theorem Inv_up {c : Nat} {q : St} (hI : Inv c q) (hc : c < 512) : Inv (c + 1) q := Inv_step (w' := q.1) hI hc (fun _ _ _ => rfl)
/-- both sides of one call -/
def Both (c : Nat) (M M' : mh_M) (oX oM : Option (mh_M × Int32)) : Prop := ∃ (q' : St) (r : Int32) (M1 M2 : mh_M), oX = some (M1, r) ∧ XS q' M1 ∧ (∀ t, 40 ≤ t → M1 t = M t) ∧ oM = some (M2, r) ∧ MS q' M2 ∧ (∀ t, t < 40 → M2 t = M' t) ∧ Inv (c + 1) q'
theorem both_no {c : Nat} {q : St} {M M' : mh_M} {oX oM : Option (mh_M × Int32)} {r : Int32} (hX : XS q M) (hM : MS q M') (hI : Inv c q) (hc : c < 512) (h1 : oX = some (M, r)) (h2 : oM = some (M', r)) : Both c M M' oX oM :=
  ⟨q, r, M, M', h1, hX, fun _ _ => rfl, h2, hM, fun _ _ => rfl, Inv_up hI hc⟩
