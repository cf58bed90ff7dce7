/-! ===== drinks SOLD, both sides ===== -/
theorem stepK_40 {w : Vw} {b s r x : Nat} {y z : Int32} : stepK (vu w 40 19 z) b s r x y = vu (stepK w b s r x y) 40 19 z := by
  unfold stepK
  simp (disch := omega) only [vu_t]
  rw [vu_comm (v := w) (t := 40) (t' := 51) (by omega), vu_comm (t := 40) (t' := 58) (by omega), vu_comm (t := 40) (t' := 55) (by omega)]
theorem saleF_40 {b s r : Nat} {y z : Int32} : ∀ (d x : Nat) (w : Vw), saleF b s r y d x (vu w 40 19 z) = vu (saleF b s r y d x w) 40 19 z := by
  intro d
  induction d with
  | zero => intro x w; rfl
  | succ d ih =>
    intro x w
    show saleF b s r y d (x + 1) (stepK (vu w 40 19 z) b s r x y) = vu (saleF b s r y d (x + 1) (stepK w b s r x y)) 40 19 z
    rw [stepK_40, ih]
/-- the DRINKS of a place are told once at most -/
theorem saleF_55 {b s r : Nat} {y : Int32} : ∀ (d x : Nat) (w : Vw) (j : Nat), (j < 10 * s + x ∨ 10 * s + x + d ≤ j → saleF b s r y d x w 55 j = w 55 j) ∧ (saleF b s r y d x w 55 j = w 55 j ∨ saleF b s r y d x w 55 j = w 55 j + y) := by
  intro d
  induction d with
  | zero => intro x w j; exact ⟨fun _ => rfl, Or.inl rfl⟩
  | succ d ih =>
    intro x w j
    have h := ih (x + 1) (stepK w b s r x y) j
    show (_ → saleF b s r y d (x + 1) (stepK w b s r x y) 55 j = w 55 j) ∧ (saleF b s r y d (x + 1) (stepK w b s r x y) 55 j = w 55 j ∨ saleF b s r y d (x + 1) (stepK w b s r x y) 55 j = w 55 j + y)
    by_cases hj : j = 10 * s + x
    · subst hj
      rw [h.1 (by omega)]
      refine ⟨fun z => absurd z (by omega), ?_⟩
      unfold stepK
      simp (disch := omega) only [vu_at, vu_t]
      by_cases hp : 0 < w 47 (10 * r + x)
      · exact Or.inr (by rw [if_pos hp])
      · exact Or.inl (by rw [if_neg hp, Int32.add_zero])
    · have e : stepK w b s r x y 55 j = w 55 j := by
        unfold stepK
        simp (disch := omega) only [vu_j, vu_t]
      rw [e] at h
      exact ⟨fun z => h.1 (by omega), h.2⟩
theorem XS_sold {q : St} {M : mh_M} (hX : XS q M) {r : Nat} (hr : r < 12) : XS (q.1, q.2.1, fun i => if i = r then true else q.2.2 i) (mh_up M 23 r 1 (M 0 0 6)) := by
  obtain ⟨x1, ⟨nx, y1, y2, y3⟩, x3, x4⟩ := id hX
  refine ⟨?_, ⟨nx, y1, ?_, ?_⟩, ?_, ?_⟩
  · rw [wX_off (j0 := 0) rfl]
    exact x1
  · simp (disch := omega) only [rd_t]
    exact y2
  · intro a ha j hj
    simp (disch := omega) only [rd_t]
    exact y3 a ha j hj
  · intro i hi
    by_cases e : i = r
    · subst e
      rw [rd_s, rd_t (by omega)]
      simp
    · rw [rd_i e, rd_t (by omega)]
      have := x3 i hi
      simp only [if_neg e]
      exact this
  · intro i hi j hj
    rw [rd_k (by omega)]
    exact x4 i hi j hj
theorem MS_sold {q : St} {M : mh_M} (hM : MS q M) {r : Nat} (hr : r < 12) : MS (q.1, q.2.1, fun i => if i = r then true else q.2.2 i) (mh_up M 48 0 r 1) := by
  obtain ⟨m1, m2, m3⟩ := id hM
  refine ⟨?_, ?_, ?_⟩
  · rw [wM_off (fun _ => rfl)]
    exact m1
  · intro a ha j hj
    simp (disch := omega) only [rd_t]
    exact m2 a ha j hj
  · intro i hi
    by_cases e : i = r
    · subst e
      rw [rd_s]
      simp
    · rw [rd_k e, m3 i hi]
      simp only [if_neg e]
theorem ap3 {q : St} {M : mh_M} (hX : XS q M) {T K : Nat} (hT : q.1 40 11 = nI T) (hT20 : T < 20) (hK : q.1 40 0 = nI K) (hK10 : K ≤ 10) {n : Nat} (hn : 20 ≤ n) {r b t : Nat} {m cost : Int32} (hb : b < 2) (ht : t < 12) (h0 : M 30 r 0 = nI 3) (h1 : M 30 r 1 = nI b) (h2 : M 30 r 2 = nI t) (h3 : M 30 r 3 = m) (h4 : M 30 r 4 = cost) (i2 : ∀ i, i < 10 → ∃ p : Nat, p ≤ 20 ∧ q.1 47 (10 * t + i) = nI p) (s : Int32) :
    ∃ M1, fX9_apply n M r s = some M1 ∧ XS (vu (saleF b (2 * T + b) t (s * m) K 0 q.1) 59 b (saleF b (2 * T + b) t (s * m) K 0 q.1 59 b + s * cost), q.2) M1 ∧ ∀ x, (40 ≤ x ∨ x = 30) → M1 x = M x := by
  have eT : M 0 0 6 = nI T := (rXc11 hX).trans hT
  obtain ⟨M1, e1, e2, e3⟩ := sale_X n (sg := s) hb (show 2 * T + b < 40 by omega) ht hK10 q.2 K 0 n M q.1 (by omega) (by omega) hX hK h1 h3 h4 i2
  refine ⟨M1, ?_, e2, e3⟩
  unfold fX9_apply
  simp only [pl_e, eT, h1, eX_sheetOf n M hT20 hb, bd_some, h0]
  rw [if_pos (show nI 3 = (3 : Int32) from rfl)]
  unfold fX9_applySale
  simp only [pl_e, h2, inbN ht (show 12 ≤ 2 ^ 31 by omega), ck_t, clN (show t < 2 ^ 31 by omega)]
  rw [show (0 : Int32) = nI 0 from rfl, e1]
  rfl
theorem mr3 {q : St} {M : mh_M} (hM : MS q M) {T K : Nat} (hT : q.1 40 11 = nI T) (hT20 : T < 20) (hK : q.1 40 0 = nI K) (hK10 : K ≤ 10) {n : Nat} (hn : 20 ≤ n) {b t : Nat} (hb : b < 2) (ht : t < 12) (y cost : Int32) :
    ∃ M1, fX10_sells n M (nI b) (nI t) y cost = some M1 ∧ MS (vu (saleF b (2 * T + b) t y K 0 q.1) 59 b (saleF b (2 * T + b) t y K 0 q.1 59 b + cost), q.2) M1 ∧ ∀ x, x < 40 → M1 x = M x :=
  sale_M n hb hT20 ht hK10 q.2 K 0 n M q.1 (by omega) (by omega) hM hK hT
theorem addT {a : Int32} {m : Nat} (hm : m ≤ 100) (h : -1000000 ≤ a.toInt ∧ a.toInt ≤ 1000000) : (a + nI m).toInt = a.toInt + m := by
  rw [Int32.toInt_add, nI_toInt (by omega)]
  exact Int.bmod_eq_of_le (by omega) (by omega)
theorem negT {m : Nat} (hm : m ≤ 100) : ((-1 : Int32) * nI m).toInt = -(m : Int) := by
  rw [Int32.toInt_mul, nI_toInt (by omega), show (-1 : Int32).toInt = -1 from by decide]
  exact (Int.bmod_eq_of_le (by omega) (by omega)).trans (by omega)
theorem subT {a : Int32} {m : Nat} (hm : m ≤ 100) (h : -1000000 ≤ a.toInt ∧ a.toInt ≤ 1000000) : (a + (-1) * nI m).toInt = a.toInt - m := by
  rw [Int32.toInt_add, negT hm]
  exact (Int.bmod_eq_of_le (by omega) (by omega)).trans (by omega)
theorem s_sell {c : Nat} {q : St} {M M' : mh_M} (hX : XS q M) (hM : MS q M') (hI : Inv c q) (hc : c < 512) (n : Nat) (hnn : 300 ≤ n) (a0 a1 a2 a3 a4 : Int32) : Both c M M' (fX9_sell n M a0 a1 a2 a3 a4) (fX10_sell n M' a0 a1 a2 a3 a4) := by
  simp only [fX9_sell, fX10_sell, eX_isIn, eM_in, eX_isBar, eM_isBar, eX_isKind, eM_isKind, eX_isRecipe, eM_isRecipe, eX_isKeeper, eX_isTime, bd_some, bd2_some, b01, pl_e]
  obtain ⟨K, Rc, T, A, FT, PR, DL, hn, hb, i1, i2, i3, i4, i5, i6, i7⟩ := id hI
  rw [(rXc4 hX).trans hn.2.1, (rmc4 hM).trans hn.2.1]
  by_cases hg : (0 : Int32) ≤ a0 ∧ a0 ≤ 1
  case neg => exact both_no hX hM hI hc (if_neg hg) (if_neg hg)
  simp only [if_pos hg]
  by_cases h0 : 0 ≤ a1 ∧ a1 ≤ nI Rc - 1
  case neg => exact both_no hX hM hI hc (if_neg h0) (if_neg h0)
  simp only [if_pos h0]
  by_cases h1 : (1 : Int32) ≤ a2 ∧ a2 ≤ 100
  case neg => exact both_no hX hM hI hc (if_neg h1) (if_neg h1)
  simp only [if_pos h1]
  by_cases h2 : (0 : Int32) ≤ a3 ∧ a3 ≤ 6
  case neg => exact both_no hX hM hI hc (if_neg (fun z => h2 z.1)) (if_neg h2)
  by_cases h3 : (0 : Int32) ≤ a4 ∧ a4 ≤ 1439
  case neg => exact both_no hX hM hI hc (if_neg (fun z => h3 z.2)) (by rw [if_pos h2, if_neg h3])
  simp only [if_pos h2, if_pos h3, if_pos (And.intro h2 h3)]
  obtain ⟨b, hb1, rfl⟩ := gIn (m := 1) (by omega) hg
  obtain ⟨r, hr, rfl⟩ := iK h0 (by omega)
  obtain ⟨d, hd, rfl⟩ := gIn (m := 6) (by omega) h2
  obtain ⟨m, hm, rfl⟩ := gIn (m := 1439) (by omega) h3
  obtain ⟨u, hu, eu⟩ := gIn (a := a2) (m := 100) (by omega) ⟨Int32.le_trans (by decide) h1.1, h1.2⟩
  have hb2 : b < 2 := by omega
  have hr12 : r < 12 := by omega
  have hA := hn.2.2.2.1
  have hT := hn.2.2.1
  have hA40 : A ≤ 40 := by omega
  have hT20 : T < 20 := by omega
  rw [eX_price hX (by omega) hr12 hn.2.2.2.2.2.1 hb.2.2.2.2.2.1 i5 hd hm, eM_price hM (by omega) hr12 hn.2.2.2.2.2.1 hb.2.2.2.2.2.1 i5 hd hm]
  simp only [bd_some, inbN hr12 (show 12 ≤ 2 ^ 31 by omega), ck_t, clN (show r < 2 ^ 31 by omega), nar1]
  have hX0 := XS_sold hX hr12
  obtain ⟨nx, M7, y1, eO, hX7, f7, g0, g1, g2, g3, g4, -, -⟩ := cO hX0 (A := A) hA hA40 n 3 (nI b) (nI r) a2 (a2 * prV q.1 r d m PR)
  obtain ⟨M8, e8, hX8, f8⟩ := ap3 hX7 (T := T) (K := K) (by unfold pq; simp (disch := omega) only [vu_at, vu_t, vu_j]; exact hT) hT20 (by unfold pq; simp (disch := omega) only [vu_at, vu_t, vu_j]; exact hn.1) hb.1 (n := n) (by omega) hb2 hr12 g0 g1 g2 g3 g4 (fun i hi => by
    obtain ⟨p, p1, p2, -⟩ := i2 r hr12 i hi
    exact ⟨p, p1, by unfold pq; simp (disch := omega) only [vu_t]; exact p2⟩) 1
  obtain ⟨N1, d1, hM1, p1⟩ := mr3 hM hT hT20 hn.1 hb.1 (n := n) (by omega) hb2 hr12 a2 (a2 * prV q.1 r d m PR)
  have hM1s := MS_sold hM1 hr12
  have e40 : ∀ j, (vu (saleF b (2 * T + b) r a2 K 0 q.1) 59 b ((saleF b (2 * T + b) r a2 K 0 q.1) 59 b + (a2 * prV q.1 r d m PR))) 40 j = q.1 40 j := fun j => by
    rw [vu_t (by omega), saleF_t (by omega) (by omega) (by omega)]
  obtain ⟨N2, d2, hM2, p2⟩ := kp hM1s (A := A) ((e40 19).trans hA) hA40 n (by omega) 3 (nI b) (nI r) a2 (a2 * prV q.1 r d m PR) 0
  have hX9 : XS (pq ((vu (saleF b (2 * T + b) r a2 K 0 q.1) 59 b ((saleF b (2 * T + b) r a2 K 0 q.1) 59 b + (a2 * prV q.1 r d m PR))), q.2.1, (fun i => if i = r then true else q.2.2 i)) A (r5 3 (nI b) (nI r) a2 (a2 * prV q.1 r d m PR))) M8 := by
    have e : (vu (saleF b (2 * T + b) r (1 * a2) K 0 (pq (q.1, q.2.1, (fun i => if i = r then true else q.2.2 i)) A (r5 3 (nI b) (nI r) a2 (a2 * prV q.1 r d m PR))).1) 59 b (saleF b (2 * T + b) r (1 * a2) K 0 (pq (q.1, q.2.1, (fun i => if i = r then true else q.2.2 i)) A (r5 3 (nI b) (nI r) a2 (a2 * prV q.1 r d m PR))).1 59 b + 1 * (a2 * prV q.1 r d m PR))) = (pq ((vu (saleF b (2 * T + b) r a2 K 0 q.1) 59 b ((saleF b (2 * T + b) r a2 K 0 q.1) 59 b + (a2 * prV q.1 r d m PR))), q.2.1, (fun i => if i = r then true else q.2.2 i)) A (r5 3 (nI b) (nI r) a2 (a2 * prV q.1 r d m PR))).1 := by
      unfold pq
      rw [one_m, one_m]
      simp only [saleF_40]
      rw [vu_t (by omega), vu_comm (t := 40) (t' := 59) (by omega)]
    rw [e] at hX8
    exact hX8
  have frM7 : ∀ t, 40 ≤ t → M7 t = M t := fun t ht => (f7 t ht).trans (by simp (disch := omega) only [mh_up_t])
  refine ⟨_, (a2 * prV q.1 r d m PR), M8, N2, ?_, hX9, fun t ht => (f8 t (Or.inl ht)).trans (frM7 t ht), ?_, hM2, fun t ht => (p2 t ht).trans (by rw [← p1 t ht]; simp (disch := omega) only [mh_up_t]), ?_⟩
  · rw [eO, e8]
    rfl
  · rw [d1]
    simp only [bd_some, d2]
  · refine inv_push (r := (r5 3 (nI b) (nI r) a2 (a2 * prV q.1 r d m PR))) hI hc hA hA40 (fun K2 Rc2 z1 z2 z3 z4 => ?_) ?_ ?_ ?_ ?_
    · have : Rc2 = Rc := (nI_eq (by omega) (by omega)).mp (z2.symm.trans hn.2.1)
      subst this
      exact ⟨3, b, r, by omega, hb2, rfl, rfl, rfl, fun z => absurd rfl z, fun _ => ⟨hr, u, hu, eu⟩⟩
    · intro j hj
      rw [vu_j hj]
      exact e40 j
    · simp (disch := omega) only [vu_at, vu_t, vu_j]
    · intro t j ht z1 z2
      unfold InvT at ht
      rw [vu_t (by omega)]
      show (vu (saleF b (2 * T + b) r a2 K 0 q.1) 59 b ((saleF b (2 * T + b) r a2 K 0 q.1) 59 b + (a2 * prV q.1 r d m PR))) t j = q.1 t j
      rw [vu_t (by omega), saleF_t (by omega) (by omega) (by omega)]
    · intro j hj
      have h3 := i3 j hj
      show -(100 * ((c + 1 : Nat) : Int)) ≤ ((vu (saleF b (2 * T + b) r a2 K 0 q.1) 59 b ((saleF b (2 * T + b) r a2 K 0 q.1) 59 b + (a2 * prV q.1 r d m PR))) 55 j).toInt ∧ ((vu (saleF b (2 * T + b) r a2 K 0 q.1) 59 b ((saleF b (2 * T + b) r a2 K 0 q.1) 59 b + (a2 * prV q.1 r d m PR))) 55 j).toInt ≤ 100 * ((c + 1 : Nat) : Int)
      rw [vu_t (by omega)]
      rcases (saleF_55 (b := b) (s := 2 * T + b) (r := r) (y := a2) K 0 q.1 j).2 with e | e
      · rw [e]
        omega
      · rw [e, eu, addT hu (by omega)]
        omega
