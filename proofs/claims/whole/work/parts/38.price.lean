/-! ===== prices, both sides ===== -/
theorem leN {a b : Nat} (ha : a < 2 ^ 31) (hb : b < 2 ^ 31) : (nI a ≤ nI b) = (a ≤ b) := propext (nI_leI ha hb)
theorem ltN {a b : Nat} (ha : a < 2 ^ 31) (hb : b < 2 ^ 31) : (nI a < nI b) = (a < b) := propext (nI_ltI ha hb)
def own (dy : Int32) (d : Nat) : Bool := decide ((dy >>> (nI d &&& 31)) &&& 1 = 1)
def dA (d : Nat) : Nat := if d = 0 then 6 else d - 1
def hv (dy : Int32) (f t d m : Nat) : Bool := if t ≤ f then (if f ≤ m then own dy d else (own dy (dA d) && decide (m < t))) else own dy d && decide (f ≤ m) && decide (m < t)
theorem eX_hasDay (n : Nat) (M : mh_M) {i d : Nat} : fX5_hasDay n M i (nI d) = some (if own (M 31 i 0) d = true then 1 else 0) := by
  simp only [fX5_hasDay, pl_e, own, decide_eq_true_eq]
  split <;> rfl
theorem eX_holds (n : Nat) {M : mh_M} {i f t d m : Nat} (e1 : M 31 i 1 = nI f) (e2 : M 31 i 2 = nI t) (hf : f ≤ 1439) (ht : t ≤ 1439) (hd : d ≤ 6) (hm : m ≤ 1439) : fX5_holds n M i (nI d) (nI m) = some (if hv (M 31 i 0) f t d m = true then 1 else 0) := by
  have e6 : fX5_hasDay n M i (6 : Int32) = some (if own (M 31 i 0) 6 = true then 1 else 0) := eX_hasDay n M (d := 6)
  unfold fX5_holds
  simp (disch := omega) only [pl_e, e1, e2, leN, ltN, eX_hasDay, e6, bd_some, b01]
  by_cases d0 : d = 0
  · subst d0
    simp only [if_pos (show nI 0 = (0 : Int32) from rfl), hv, dA, if_true, ← Nat.not_le]
    by_cases h1 : t ≤ f <;> by_cases h2 : f ≤ m <;> by_cases h3 : t ≤ m <;> by_cases h4 : own (M 31 i 0) 0 = true <;> by_cases h5 : own (M 31 i 0) 6 = true <;> simp [h1, h2, h3, h4, h5] <;> omega
  · have e7 : nI d - (1 : Int32) = nI (d - 1) := pk_sub (b := 1) (by omega)
    rw [if_neg (show ¬ nI d = (0 : Int32) from nne (b := 0) d0 (by omega) (by omega)), e7]
    simp only [eX_hasDay, bd_some, b01, hv, dA, if_neg d0, ← Nat.not_le]
    by_cases h1 : t ≤ f <;> by_cases h2 : f ≤ m <;> by_cases h3 : t ≤ m <;> by_cases h4 : own (M 31 i 0) d = true <;> by_cases h5 : own (M 31 i 0) (d - 1) = true <;> simp [h1, h2, h3, h4, h5] <;> omega
theorem seven : ∀ d, d < 7 → nI d + (6 : Int32) - (nI d + (6 : Int32)) / (7 : Int32) * (7 : Int32) = nI (dA d) := by decide +kernel
theorem nz7 : (!decide ((7 : Int32) = 0)) = true := by decide
theorem eM_holds {q : St} {M : mh_M} (hM : MS q M) (n : Nat) {i f t d m : Nat} (hi : i < 12) (e1 : q.1 67 i = nI f) (e2 : q.1 68 i = nI t) (hf : f ≤ 1439) (ht : t ≤ 1439) (hd : d ≤ 6) (hm : m ≤ 1439) : fX10_holds n M (nI i) (nI d) (nI m) = some (if hv (q.1 66 i) f t d m = true then 1 else 0) := by
  unfold fX10_holds
  simp (disch := omega) only [pl_e, inbN hi (show 12 ≤ 2 ^ 31 by omega), ck_t, clN (show i < 2 ^ 31 by omega), rm66 hM hi, rm67 hM hi, rm68 hM hi, e1, e2, leN, ltN, nz7, seven d (by omega), eM_in, bd_some, b01, z10, if_false, if_true]
  have o1 : ((q.1 66 i >>> (nI d &&& 31)) &&& 1 = 1) = (own (q.1 66 i) d = true) := by simp only [own, decide_eq_true_eq]
  have o2 : ((q.1 66 i >>> (nI (dA d) &&& 31)) &&& 1 = 1) = (own (q.1 66 i) (dA d) = true) := by simp only [own, decide_eq_true_eq]
  simp only [o1, o2, hv, ← Nat.not_le]
  by_cases h1 : t ≤ f
  · by_cases h2 : f ≤ m <;> by_cases h3 : t ≤ m <;> by_cases h4 : own (q.1 66 i) d = true <;> by_cases h5 : own (q.1 66 i) (dA d) = true <;> simp [h1, h2, h3, h4, h5] <;> omega
  · have e7 : nI t - (1 : Int32) = nI (t - 1) := pk_sub (b := 1) (by omega)
    have e8 : (m ≤ t - 1) = ¬ t ≤ m := propext ⟨fun z => by omega, fun z => by omega⟩
    simp (disch := omega) only [e7, leN, e8]
    by_cases h2 : f ≤ m <;> by_cases h3 : t ≤ m <;> by_cases h4 : own (q.1 66 i) d = true <;> by_cases h5 : own (q.1 66 i) (dA d) = true <;> simp [h1, h2, h3, h4, h5] <;> omega
def rv (w : Vw) (d m i : Nat) : Bool := hv (w 66 i) (w 67 i).toNatClampNeg (w 68 i).toNatClampNeg d m
def prF (w : Vw) (r d m : Nat) : Nat → Int32
  | 0 => w 46 r
  | i + 1 => if rv w d m i = true then w 46 r * w 69 i / 100 else prF w r d m i
def prV (w : Vw) (r d m PR : Nat) : Int32 := if w 49 4 < prF w r d m PR then prF w r d m PR else w 49 4
theorem mx2 (a b : Int32) : (if a ≤ b then b else a) = if a < b then b else a := by
  by_cases h : a < b
  · rw [if_pos h, if_pos (Int32.le_of_lt h)]
  · rw [if_neg h]
    by_cases h2 : a ≤ b
    · rw [if_pos h2]
      exact Int32.le_antisymm (Int32.not_lt.mp h) h2
    · rw [if_neg h2]
theorem pX_loop {q : St} {M : mh_M} (hX : XS q M) (n : Nat) {r d m PR : Nat} (hPR : PR ≤ 12) (i5 : ∀ j, j < PR → ∃ a b : Nat, a ≤ 1439 ∧ b ≤ 1439 ∧ q.1 67 j = nI a ∧ q.1 68 j = nI b) (hd : d ≤ 6) (hm : m ≤ 1439) : ∀ (i k : Nat), i ≤ PR → i < k → itr1 (fX9_priceAt_L19 n M (nI d) (nI m) (q.1 46 r)) k (nI i - 1) = some (if q.1 49 4 < prF q.1 r d m i then prF q.1 r d m i else q.1 49 4) := by
  intro i
  induction i with
  | zero =>
    intro k hi hk
    obtain ⟨k, rfl⟩ : ∃ m, k = m + 1 := ⟨k - 1, by omega⟩
    show fX9_priceAt_L19 n M (nI d) (nI m) (q.1 46 r) (itr1 (fX9_priceAt_L19 n M (nI d) (nI m) (q.1 46 r)) k) (nI 0 - 1) = _
    unfold fX9_priceAt_L19
    simp only [show nI 0 - (1 : Int32) < 0 from by decide, if_true, ib4, cl4, ck_t, pl_e, rX3 hX (show 4 < 7 by omega), prF]
    rfl
  | succ i ih =>
    intro k hi hk
    obtain ⟨k, rfl⟩ : ∃ m, k = m + 1 := ⟨k - 1, by omega⟩
    have hi12 : i < 12 := by omega
    obtain ⟨a, b, ha, hb, e1, e2⟩ := i5 i (by omega)
    have hI := ih k (by omega) (by omega)
    show fX9_priceAt_L19 n M (nI d) (nI m) (q.1 46 r) (itr1 (fX9_priceAt_L19 n M (nI d) (nI m) (q.1 46 r)) k) (nI (i + 1) - 1) = _
    generalize itr1 (fX9_priceAt_L19 n M (nI d) (nI m) (q.1 46 r)) k = rec at hI ⊢
    have erv : hv (M 31 i 0) a b d m = rv q.1 d m i := by
      unfold rv
      rw [e1, e2, clN (by omega), clN (by omega), rX31_0 hX hi12]
    have eh := eX_holds n ((rX31_1 hX hi12).trans e1) ((rX31_2 hX hi12).trans e2) ha hb hd hm
    rw [erv] at eh
    have em : nI i + (-1 : Int32) = nI i - 1 := by rw [← Int32.sub_eq_add_neg]
    unfold fX9_priceAt_L19
    simp only [nI_pred, nI_pos (show i < 2 ^ 31 by omega), if_false, inbN hi12 (show 12 ≤ 2 ^ 31 by omega), ck_t, clN (show i < 2 ^ 31 by omega), pl_e, eh, bd_some, b01, ib4, cl4, rX3 hX (show 4 < 7 by omega), rX31_3 hX hi12, nz100, em, hI, prF]
    by_cases hrv : rv q.1 d m i = true
    · simp only [if_pos hrv]
    · simp only [if_neg hrv]
theorem eX_price {q : St} {M : mh_M} (hX : XS q M) {n : Nat} (hn : 20 ≤ n) {r d m PR : Nat} (hr : r < 12) (hp : q.1 40 24 = nI PR) (hPR : PR ≤ 12) (i5 : ∀ j, j < PR → ∃ a b : Nat, a ≤ 1439 ∧ b ≤ 1439 ∧ q.1 67 j = nI a ∧ q.1 68 j = nI b) (hd : d ≤ 6) (hm : m ≤ 1439) : fX9_priceAt n M (nI r) (nI d) (nI m) = some (prV q.1 r d m PR) := by
  unfold fX9_priceAt
  simp only [inbN hr (show 12 ≤ 2 ^ 31 by omega), ck_t, clN (show r < 2 ^ 31 by omega), pl_e, rX23_0 hX hr, (rXc24 hX).trans hp]
  exact pX_loop hX n hPR i5 hd hm PR n (by omega) (by omega)
theorem pM_loop {q : St} {M : mh_M} (hM : MS q M) (n : Nat) {r d m PR : Nat} (hr : r < 12) (hp : q.1 40 24 = nI PR) (hPR : PR ≤ 12) (i5 : ∀ j, j < PR → ∃ a b : Nat, a ≤ 1439 ∧ b ≤ 1439 ∧ q.1 67 j = nI a ∧ q.1 68 j = nI b) (hd : d ≤ 6) (hm : m ≤ 1439) : ∀ (c i k : Nat), i + c = PR → c < k → itr2 (fX10_priceOf_L11 n M (nI r) (nI d) (nI m)) k (prF q.1 r d m i) (nI i) = some (prV q.1 r d m PR) := by
  intro c
  induction c with
  | zero =>
    intro i k hi hk
    obtain ⟨k, rfl⟩ : ∃ m, k = m + 1 := ⟨k - 1, by omega⟩
    have hiP : i = PR := by omega
    subst hiP
    show fX10_priceOf_L11 n M (nI r) (nI d) (nI m) (itr2 (fX10_priceOf_L11 n M (nI r) (nI d) (nI m)) k) (prF q.1 r d m i) (nI i) = _
    unfold fX10_priceOf_L11
    simp only [pl_e, (rmc24 hM).trans hp, Int32.le_refl, if_true, ib4, cl4, ck_t, rm49 hM (show 4 < 7 by omega), prV, ← mx2]
    split <;> rfl
  | succ c ih =>
    intro i k hi hk
    obtain ⟨k, rfl⟩ : ∃ m, k = m + 1 := ⟨k - 1, by omega⟩
    have hi12 : i < 12 := by omega
    obtain ⟨a, b, ha, hb, e1, e2⟩ := i5 i (by omega)
    have erv : hv (q.1 66 i) a b d m = rv q.1 d m i := by
      unfold rv
      rw [e1, e2, clN (by omega), clN (by omega)]
    have eh := eM_holds hM n hi12 e1 e2 ha hb hd hm
    rw [erv] at eh
    have hI := ih (i + 1) k (by omega) (by omega)
    show fX10_priceOf_L11 n M (nI r) (nI d) (nI m) (itr2 (fX10_priceOf_L11 n M (nI r) (nI d) (nI m)) k) (prF q.1 r d m i) (nI i) = _
    generalize itr2 (fX10_priceOf_L11 n M (nI r) (nI d) (nI m)) k = rec at hI ⊢
    unfold fX10_priceOf_L11
    simp only [pl_e, (rmc24 hM).trans hp, show ¬ nI PR ≤ nI i from fun z => absurd ((nI_leI (by omega) (by omega)).mp z) (by omega), if_false, eh, bd_some, b01, inbN hr (show 12 ≤ 2 ^ 31 by omega), inbN hi12 (show 12 ≤ 2 ^ 31 by omega), ck_t, clN (show r < 2 ^ 31 by omega), clN (show i < 2 ^ 31 by omega), rm46 hM hr, rm69 hM hi12, nz100, nI_1]
    unfold prF at hI
    by_cases hrv : rv q.1 d m i = true
    · simp only [if_pos hrv] at hI ⊢
      exact hI
    · simp only [if_neg hrv] at hI ⊢
      exact hI
theorem eM_price {q : St} {M : mh_M} (hM : MS q M) {n : Nat} (hn : 20 ≤ n) {r d m PR : Nat} (hr : r < 12) (hp : q.1 40 24 = nI PR) (hPR : PR ≤ 12) (i5 : ∀ j, j < PR → ∃ a b : Nat, a ≤ 1439 ∧ b ≤ 1439 ∧ q.1 67 j = nI a ∧ q.1 68 j = nI b) (hd : d ≤ 6) (hm : m ≤ 1439) : fX10_priceOf n M (nI r) (nI d) (nI m) = some (prV q.1 r d m PR) := by
  unfold fX10_priceOf
  simp only [inbN hr (show 12 ≤ 2 ^ 31 by omega), ck_t, clN (show r < 2 ^ 31 by omega), pl_e, rm46 hM hr]
  exact pM_loop hM n hr hp hPR i5 hd hm PR 0 n (by omega) (by omega)
theorem s_price {c : Nat} {q : St} {M M' : mh_M} (hX : XS q M) (hM : MS q M') (hI : Inv c q) (n : Nat) (hnn : 20 ≤ n) (a0 a1 a2 : Int32) : BothP (fX9_price n M a0 a1 a2) (fX10_price n M' a0 a1 a2) := by
  simp only [fX9_price, fX10_price, eX_isIn, eM_in, eX_isBar, eM_isBar, eX_isKind, eM_isKind, eX_isRecipe, eM_isRecipe, eX_isKeeper, eX_isTime, bd_some, bd2_some, b01, pl_e]
  obtain ⟨K, Rc, T, A, FT, PR, DL, hn, hb, i1, i2, i3, i4, i5, i6, i7⟩ := id hI
  rw [(rXc4 hX).trans hn.2.1, (rmc4 hM).trans hn.2.1]
  by_cases h0 : 0 ≤ a0 ∧ a0 ≤ nI Rc - 1
  case neg => exact ⟨_, if_neg h0, if_neg h0⟩
  simp only [if_pos h0]
  by_cases h1 : (0 : Int32) ≤ a1 ∧ a1 ≤ 6
  case neg => exact ⟨_, if_neg (fun z => h1 z.1), if_neg h1⟩
  by_cases h2 : (0 : Int32) ≤ a2 ∧ a2 ≤ 1439
  case neg => exact ⟨_, if_neg (fun z => h2 z.2), by rw [if_pos h1, if_neg h2]⟩
  simp only [if_pos h1, if_pos h2, if_pos (And.intro h1 h2)]
  obtain ⟨r, hr, rfl⟩ := iK h0 (by omega)
  obtain ⟨d, hd, rfl⟩ := gIn (m := 6) (by omega) h1
  obtain ⟨m, hm, rfl⟩ := gIn (m := 1439) (by omega) h2
  rw [eX_price hX hnn (by omega) hn.2.2.2.2.2.1 hb.2.2.2.2.2.1 i5 hd hm, eM_price hM hnn (by omega) hn.2.2.2.2.2.1 hb.2.2.2.2.2.1 i5 hd hm]
  exact ⟨_, rfl, rfl⟩
