/-! ===== the start: where the cells lie ===== -/
def nAd (b : Nat) (t i : Nat) : Nat := match t with
  | 0 => b
  | 1 => b + 1
  | 2 => b + 2
  | 3 => b + 3
  | 4 => b + 4
  | 5 => b + 5
  | 6 => b + 6
  | 7 => b + 47
  | 8 => b + 48
  | 9 => b + 49
  | 10 => b + 50
  | 11 => b + 51
  | 13 => b + 52
  | 14 => b + 53
  | 15 => b + 54
  | 16 => b + 55
  | 17 => b + 56
  | 18 => b + 57
  | 19 => b + 58 + i
  | 20 => b + 64 + 3 * i
  | 21 => b + 64 + 3 * i + 1
  | 22 => b + 64 + 3 * i + 2
  | 23 => b + 94 + 2 * i
  | 24 => b + 94 + 2 * i + 1
  | 25 => b + 118 + 5 * i
  | 26 => b + 118 + 5 * i + 1
  | 27 => b + 118 + 5 * i + 2
  | 28 => b + 118 + 5 * i + 3
  | 29 => b + 118 + 5 * i + 4
  | 30 => b + 7 + 1 * i
  | 31 => b + 318 + 1 * i
  | 40 => b + 330
  | 42 => b + 331
  | 43 => b + 332
  | 44 => b + 333
  | 46 => b + 334
  | 47 => b + 335
  | 48 => b + 336
  | 49 => b + 337
  | 50 => b + 338
  | 51 => b + 339
  | 53 => b + 340
  | 54 => b + 341
  | 55 => b + 342
  | 56 => b + 343
  | 57 => b + 344
  | 58 => b + 345
  | 59 => b + 346
  | 61 => b + 347
  | 63 => b + 348
  | 64 => b + 349
  | 66 => b + 350
  | 67 => b + 351
  | 68 => b + 352
  | 69 => b + 353
  | 70 => b + 354
  | 72 => b + 355
  | 73 => b + 356
  | 74 => b + 357
  | _ => b
def nCnt (t : Nat) : Nat := match t with
  | 0 => 1
  | 1 => 1
  | 2 => 1
  | 3 => 1
  | 4 => 1
  | 5 => 1
  | 6 => 1
  | 7 => 1
  | 8 => 1
  | 9 => 1
  | 10 => 1
  | 11 => 1
  | 13 => 1
  | 14 => 1
  | 15 => 1
  | 16 => 1
  | 17 => 1
  | 18 => 1
  | 19 => 6
  | 20 => 10
  | 21 => 10
  | 22 => 10
  | 23 => 12
  | 24 => 12
  | 25 => 40
  | 26 => 40
  | 27 => 40
  | 28 => 40
  | 29 => 40
  | 30 => 40
  | 31 => 12
  | 40 => 1
  | 42 => 1
  | 43 => 1
  | 44 => 1
  | 46 => 1
  | 47 => 1
  | 48 => 1
  | 49 => 1
  | 50 => 1
  | 51 => 1
  | 53 => 1
  | 54 => 1
  | 55 => 1
  | 56 => 1
  | 57 => 1
  | 58 => 1
  | 59 => 1
  | 61 => 1
  | 63 => 1
  | 64 => 1
  | 66 => 1
  | 67 => 1
  | 68 => 1
  | 69 => 1
  | 70 => 1
  | 72 => 1
  | 73 => 1
  | 74 => 1
  | _ => 0
theorem nAd_off (b t i : Nat) : nAd b t i = b + nAd 0 t i := by
  unfold nAd
  split <;> omega
def nInv (o : Nat) : Nat × Nat :=
  if o = 0 then (0, 0) else if o = 1 then (1, 0) else if o = 2 then (2, 0) else if o = 3 then (3, 0) else if o = 4 then (4, 0) else if o = 5 then (5, 0) else if o = 6 then (6, 0) else if o = 47 then (7, 0) else if o = 48 then (8, 0) else if o = 49 then (9, 0) else if o = 50 then (10, 0) else if o = 51 then (11, 0) else if o = 52 then (13, 0) else if o = 53 then (14, 0) else if o = 54 then (15, 0) else if o = 55 then (16, 0) else if o = 56 then (17, 0) else if o = 57 then (18, 0) else if o = 330 then (40, 0) else if o = 331 then (42, 0) else if o = 332 then (43, 0) else if o = 333 then (44, 0) else if o = 334 then (46, 0) else if o = 335 then (47, 0) else if o = 336 then (48, 0) else if o = 337 then (49, 0) else if o = 338 then (50, 0) else if o = 339 then (51, 0) else if o = 340 then (53, 0) else if o = 341 then (54, 0) else if o = 342 then (55, 0) else if o = 343 then (56, 0) else if o = 344 then (57, 0) else if o = 345 then (58, 0) else if o = 346 then (59, 0) else if o = 347 then (61, 0) else if o = 348 then (63, 0) else if o = 349 then (64, 0) else if o = 350 then (66, 0) else if o = 351 then (67, 0) else if o = 352 then (68, 0) else if o = 353 then (69, 0) else if o = 354 then (70, 0) else if o = 355 then (72, 0) else if o = 356 then (73, 0) else if o = 357 then (74, 0) else
  if 7 ≤ o ∧ o < 47 then (30, o - 7) else if 58 ≤ o ∧ o < 64 then (19, o - 58) else if 64 ≤ o ∧ o < 94 then (20 + (o - 64) % 3, (o - 64) / 3) else if 94 ≤ o ∧ o < 118 then (23 + (o - 94) % 2, (o - 94) / 2) else if 118 ≤ o ∧ o < 318 then (25 + (o - 118) % 5, (o - 118) / 5) else if 318 ≤ o ∧ o < 330 then (31, o - 318) else (99, 0)
theorem nInv_ok : ∀ t, t < 75 → ∀ i, i < 40 → i < nCnt t → nInv (nAd 0 t i) = (t, i) := by decide +kernel
theorem nCnt_t {t i : Nat} (h : i < nCnt t) : t < 75 ∧ i < 40 := by
  unfold nCnt at h
  split at h <;> omega
theorem nZ_cnt {G : mh_G} {t i : Nat} {sh : mh_E} (h : mh_Z G t i = some sh) : i < nCnt t := by
  unfold mh_Z at h
  split at h
  · rename_i n f hnf
    have hn : nCnt t = n := by
      match t, hnf with
      | 0, hnf => cases hnf; rfl
      | 1, hnf => cases hnf; rfl
      | 2, hnf => cases hnf; rfl
      | 3, hnf => cases hnf; rfl
      | 4, hnf => cases hnf; rfl
      | 5, hnf => cases hnf; rfl
      | 6, hnf => cases hnf; rfl
      | 7, hnf => cases hnf; rfl
      | 8, hnf => cases hnf; rfl
      | 9, hnf => cases hnf; rfl
      | 10, hnf => cases hnf; rfl
      | 11, hnf => cases hnf; rfl
      | 12, hnf => cases hnf; rfl
      | 13, hnf => cases hnf; rfl
      | 14, hnf => cases hnf; rfl
      | 15, hnf => cases hnf; rfl
      | 16, hnf => cases hnf; rfl
      | 17, hnf => cases hnf; rfl
      | 18, hnf => cases hnf; rfl
      | 19, hnf => cases hnf; rfl
      | 20, hnf => cases hnf; rfl
      | 21, hnf => cases hnf; rfl
      | 22, hnf => cases hnf; rfl
      | 23, hnf => cases hnf; rfl
      | 24, hnf => cases hnf; rfl
      | 25, hnf => cases hnf; rfl
      | 26, hnf => cases hnf; rfl
      | 27, hnf => cases hnf; rfl
      | 28, hnf => cases hnf; rfl
      | 29, hnf => cases hnf; rfl
      | 30, hnf => cases hnf; rfl
      | 31, hnf => cases hnf; rfl
      | 32, hnf => cases hnf; rfl
      | 33, hnf => cases hnf; rfl
      | 34, hnf => cases hnf; rfl
      | 35, hnf => cases hnf; rfl
      | 36, hnf => cases hnf; rfl
      | 37, hnf => cases hnf; rfl
      | 38, hnf => cases hnf; rfl
      | 39, hnf => cases hnf; rfl
      | 40, hnf => cases hnf; rfl
      | 41, hnf => cases hnf; rfl
      | 42, hnf => cases hnf; rfl
      | 43, hnf => cases hnf; rfl
      | 44, hnf => cases hnf; rfl
      | 45, hnf => cases hnf; rfl
      | 46, hnf => cases hnf; rfl
      | 47, hnf => cases hnf; rfl
      | 48, hnf => cases hnf; rfl
      | 49, hnf => cases hnf; rfl
      | 50, hnf => cases hnf; rfl
      | 51, hnf => cases hnf; rfl
      | 52, hnf => cases hnf; rfl
      | 53, hnf => cases hnf; rfl
      | 54, hnf => cases hnf; rfl
      | 55, hnf => cases hnf; rfl
      | 56, hnf => cases hnf; rfl
      | 57, hnf => cases hnf; rfl
      | 58, hnf => cases hnf; rfl
      | 59, hnf => cases hnf; rfl
      | 60, hnf => cases hnf; rfl
      | 61, hnf => cases hnf; rfl
      | 62, hnf => cases hnf; rfl
      | 63, hnf => cases hnf; rfl
      | 64, hnf => cases hnf; rfl
      | 65, hnf => cases hnf; rfl
      | 66, hnf => cases hnf; rfl
      | 67, hnf => cases hnf; rfl
      | 68, hnf => cases hnf; rfl
      | 69, hnf => cases hnf; rfl
      | 70, hnf => cases hnf; rfl
      | 71, hnf => cases hnf; rfl
      | 72, hnf => cases hnf; rfl
      | 73, hnf => cases hnf; rfl
      | 74, hnf => cases hnf; rfl
      | t + 75, hnf => cases hnf
    by_cases hi : i < n
    · rw [hn]
      exact hi
    · rw [if_neg hi] at h
      cases h
  · cases h
def nG (D : va_G) (cls : Nat → ClassId) (b : Nat) : mh_G := (D, cls, nAd b)
theorem nG_inj (D : va_G) (cls : Nat → ClassId) (b : Nat) : mh_inj (nG D cls b) := by
  intro t i t' i' sh sh' h h' e
  have e : nAd b t i = nAd b t' i' := e
  have c1 := nZ_cnt h
  have c2 := nZ_cnt h'
  have k1 := nCnt_t c1
  have k2 := nCnt_t c2
  rw [nAd_off b t i, nAd_off b t' i'] at e
  have e2 : nAd 0 t i = nAd 0 t' i' := by omega
  have a1 := nInv_ok t k1.1 i k1.2 c1
  have a2 := nInv_ok t' k2.1 i' k2.2 c2
  rw [e2, a2] at a1
  exact ⟨(congrArg Prod.fst a1).symm, (congrArg Prod.snd a1).symm⟩
theorem nG_dom {D : va_G} {cls : Nat → ClassId} {b q : Nat} (h : mh_dom (nG D cls b) q) : b ≤ q := by
  obtain ⟨t, i, sh, -, e⟩ := h
  have e : nAd b t i = q := e
  rw [nAd_off] at e
  omega
/-! what the makers leave, cell by cell -/
theorem FX0_c0 (G : mh_G) (o : Nat) : FX0 G o (o) = some (.inr (0, [.int 0, .int 0, .int 0, .int 0, .int 0])) := by
  unfold FX0
  exact nu_s
theorem FX3_c0 (G : mh_G) (o : Nat) : FX3 G o (o) = some (.inr (3, [.ref (o + 1), .ref (o + 2), .int 0])) := by
  unfold FX3
  exact nu_s
theorem FX3_c1 (G : mh_G) (o : Nat) : FX3 G o (o + 1) = some (.inl (G.2.1 0, 8, .inl (fun _ => 0))) := by
  unfold FX3
  exact nu_n (by omega) (nu_n (by omega) (nu_n (by omega) (nu_n (by omega) (nu_s))))
theorem FX3_c2 (G : mh_G) (o : Nat) : FX3 G o (o + 2) = some (.inl (G.2.1 0, 8, .inl (fun _ => 0))) := by
  unfold FX3
  exact nu_n (by omega) (nu_n (by omega) (nu_s))
theorem FX4_c0 (G : mh_G) (o : Nat) : FX4 G o (o) = some (.inr (4, [.int 0, .int 0, .int 1, .int 0, .int 0, .ref (o + 1), .ref (o + 2)])) := by
  unfold FX4
  exact nu_s
theorem FX4_c1 (G : mh_G) (o : Nat) : FX4 G o (o + 1) = some (.inl (G.2.1 0, 2, .inl (fun _ => 0))) := by
  unfold FX4
  exact nu_n (by omega) (nu_n (by omega) (nu_n (by omega) (nu_s)))
theorem FX4_c2 (G : mh_G) (o : Nat) : FX4 G o (o + 2) = some (.inl (G.2.1 0, 4, .inl (fun _ => 0))) := by
  unfold FX4
  exact nu_n (by omega) (nu_s)
theorem FX5_c0 (G : mh_G) (o : Nat) : FX5 G o (o) = some (.inr (5, [.int 0, .int 0, .int 0, .int 0])) := by
  unfold FX5
  exact nu_s
theorem FX6_c0 (G : mh_G) (o : Nat) : FX6 G o (o) = some (.inr (6, [.int 0, .int (-1), .int 0, .ref (o + 1)])) := by
  unfold FX6
  exact nu_s
theorem FX6_c1 (G : mh_G) (o : Nat) : FX6 G o (o + 1) = some (.inl (G.2.1 0, 10, .inl (fun _ => 0))) := by
  unfold FX6
  exact nu_n (by omega) (nu_s)
theorem FX7_c0 (G : mh_G) (o : Nat) : FX7 G o (o) = some (.inr (7, [.int 0, .ref (o + 1), .ref (o + 2), .ref (o + 3), .ref (o + 4)])) := by
  unfold FX7
  exact nu_s
theorem FX7_c1 (G : mh_G) (o : Nat) : FX7 G o (o + 1) = some (.inl (G.2.1 0, 10, .inl (fun _ => 0))) := by
  unfold FX7
  exact nu_n (by omega) (nu_n (by omega) (nu_n (by omega) (nu_n (by omega) (nu_n (by omega) (nu_n (by omega) (nu_n (by omega) (nu_s)))))))
theorem FX7_c2 (G : mh_G) (o : Nat) : FX7 G o (o + 2) = some (.inl (G.2.1 1, 10, .inl (fun _ => 0))) := by
  unfold FX7
  exact nu_n (by omega) (nu_n (by omega) (nu_n (by omega) (nu_n (by omega) (nu_n (by omega) (nu_s)))))
theorem FX7_c3 (G : mh_G) (o : Nat) : FX7 G o (o + 3) = some (.inl (G.2.1 0, 10, .inl (fun _ => 0))) := by
  unfold FX7
  exact nu_n (by omega) (nu_n (by omega) (nu_n (by omega) (nu_s)))
theorem FX7_c4 (G : mh_G) (o : Nat) : FX7 G o (o + 4) = some (.inl (G.2.1 0, 10, .inl (fun _ => 0))) := by
  unfold FX7
  exact nu_n (by omega) (nu_s)
theorem FX8_c0 (G : mh_G) (o : Nat) : FX8 G o (o) = some (.inr (8, [.ref (o + 1)])) := by
  unfold FX8
  exact nu_s
theorem FX8_c1 (G : mh_G) (o : Nat) : FX8 G o (o + 1) = some (.inl (G.2.1 0, 6, .inl (fun _ => 0))) := by
  unfold FX8
  exact nu_n (by omega) (nu_s)
theorem mnF_c0 (G : mh_G) (N : Nat) : mnF G N N = some (.inl (G.2.1 7, 6, .inr (.inr (.inr (.inr (fun j => if j < 6 then some (N + 1 + j) else none)))))) := if_pos rfl
theorem mnF_f (G : mh_G) (N : Nat) {i : Nat} (hi : i < 6) : mnF G N (N + 1 + i) = some (.inl (G.2.1 0, 144, .inl (fun _ => 0))) := by
  unfold mnF
  rw [if_neg (by omega), if_pos (by omega)]
theorem FX2_c0 (G : mh_G) (o : Nat) : FX2 G o (o) = some (.inr (2, [.ref (o + 1), .ref (o + 2), .int 0, .ref (o + 3)])) := by
  unfold FX2
  exact nu_s
theorem FX2_c1 (G : mh_G) (o : Nat) : FX2 G o (o + 1) = some (.inl (G.2.1 0, 5, .inl (fun _ => 0))) := by
  unfold FX2
  exact nu_n (by omega) (nov_n (mnF_lo (by omega)) (nu_n (by omega) (nu_n (by omega) (nu_n (by omega) (nu_n (by omega) (nu_s))))))
theorem FX2_c2 (G : mh_G) (o : Nat) : FX2 G o (o + 2) = some (.inl (G.2.1 0, 5, .inl (fun _ => 0))) := by
  unfold FX2
  exact nu_n (by omega) (nov_n (mnF_lo (by omega)) (nu_n (by omega) (nu_n (by omega) (nu_s))))
theorem FX2_c3 (G : mh_G) (o : Nat) : FX2 G o (o + 3) = some (.inl (G.2.1 7, 6, .inr (.inr (.inr (.inr (fun j => if j < 6 then some (o + 3 + 1 + j) else none)))))) := by
  unfold FX2
  exact nu_n (by omega) (nov_s (mnF_c0 G (o + 3)))
theorem FX2_f4 (G : mh_G) (o : Nat) {i : Nat} (hi : i < 6) : FX2 G o (o + 4 + i) = some (.inl (G.2.1 0, 144, .inl (fun _ => 0))) := by
  unfold FX2
  exact nu_n (by omega) (nov_s (mnF_f G (o + 3) hi))
theorem FX1_c0 (G : mh_G) (o : Nat) : FX1 G o o = some (.inr (1, [.ref (o + 1), .int 0, .int 0])) := by
  unfold FX1
  exact lpF_lo (by omega) (by omega) (nu_s)
theorem FX1_c1 (G : mh_G) (o : Nat) : FX1 G o (o + 1) = some (.inl (G.2.1 5, 40, .inr (.inr (.inr (.inr (fun j => if j < 40 then some (o + 2 + 1 * j) else none)))))) := by
  unfold FX1
  exact lpF_arr
theorem FX1_f2 (G : mh_G) (o : Nat) {i : Nat} (hi : i < 40) : FX1 G o (o + 2 + 1 * i) = some (.inr (0, [.int 0, .int 0, .int 0, .int 0, .int 0])) := by
  unfold FX1
  exact (lpF_mid (by omega) (by omega) (by omega)).trans ((congrArg (fun z => FX0 G z (o + 2 + 1 * i)) (show o + 2 + 1 * ((o + 2 + 1 * i - (o + 2)) / 1) = o + 2 + 1 * i by omega)).trans (FX0_c0 G (o + 2 + 1 * i)))
theorem F9_t0 (G : mh_G) (o : Nat) : FX9 G o (o) = some (.inr (9, [.ref (o + 1), .int 0, .ref (o + 2), .int 0, .ref (o + 3), .ref (o + 4), .int 0, .ref (o + 5), .ref (o + 47), .ref (o + 48), .ref (o + 51), .int 0, .ref (o + 52), .ref (o + 54)])) := by
  unfold FX9
  exact lpF_lo (by omega) (by omega) (lpF_lo (by omega) (by omega) (lpF_lo (by omega) (by omega) (lpF_lo (by omega) (by omega) (nu_s))))
theorem F9_t1 (G : mh_G) (o : Nat) : FX9 G o (o + 1) = some (.inl (G.2.1 2, 10, .inr (.inr (.inr (.inr (fun j => if j < 10 then some (o + 64 + 3 * j) else none)))))) := by
  unfold FX9
  exact lpF_lo (by omega) (by omega) (lpF_lo (by omega) (by omega) (lpF_lo (by omega) (by omega) (lpF_arr)))
theorem F9_t2 (G : mh_G) (o : Nat) : FX9 G o (o + 2) = some (.inl (G.2.1 3, 12, .inr (.inr (.inr (.inr (fun j => if j < 12 then some (o + 94 + 2 * j) else none)))))) := by
  unfold FX9
  exact lpF_lo (by omega) (by omega) (lpF_lo (by omega) (by omega) (lpF_arr))
theorem F9_t3 (G : mh_G) (o : Nat) : FX9 G o (o + 3) = some (.inl (G.2.1 0, 7, .inl mh_first)) := by
  unfold FX9
  exact lpF_lo (by omega) (by omega) (lpF_lo (by omega) (by omega) (lpF_lo (by omega) (by omega) (lpF_lo (by omega) (by omega) (nu_n (by omega) (nov_n (FX2_lo (by omega)) (nu_n (by omega) (nu_n (by omega) (nov_n (FX8_lo (by omega)) (nu_n (by omega) (nu_n (by omega) (nu_n (by omega) (nu_n (by omega) (nu_n (by omega) (nov_n (FX3_lo (by omega)) (nu_n (by omega) (nu_n (by omega) (nu_n (by omega) (nu_n (by omega) (nov_n (FX1_lo (by omega)) (nu_n (by omega) (nu_n (by omega) (nu_n (by omega) (nu_n (by omega) (nu_n (by omega) (nu_s)))))))))))))))))))))))))
theorem F9_t4 (G : mh_G) (o : Nat) : FX9 G o (o + 4) = some (.inl (G.2.1 4, 40, .inr (.inr (.inr (.inr (fun j => if j < 40 then some (o + 118 + 5 * j) else none)))))) := by
  unfold FX9
  exact lpF_lo (by omega) (by omega) (lpF_arr)
theorem F9_t5 (G : mh_G) (o : Nat) : FX9 G o (o + 5) = some (.inr (1, [.ref ((o + 5) + 1), .int 0, .int 0])) := by
  unfold FX9
  exact lpF_lo (by omega) (by omega) (lpF_lo (by omega) (by omega) (lpF_lo (by omega) (by omega) (lpF_lo (by omega) (by omega) (nu_n (by omega) (nov_n (FX2_lo (by omega)) (nu_n (by omega) (nu_n (by omega) (nov_n (FX8_lo (by omega)) (nu_n (by omega) (nu_n (by omega) (nu_n (by omega) (nu_n (by omega) (nu_n (by omega) (nov_n (FX3_lo (by omega)) (nu_n (by omega) (nu_n (by omega) (nu_n (by omega) (nu_n (by omega) (nov_s (FX1_c0 G (o + 5)))))))))))))))))))))
theorem F9_t6 (G : mh_G) (o : Nat) : FX9 G o (o + 6) = some (.inl (G.2.1 5, 40, .inr (.inr (.inr (.inr (fun j => if j < 40 then some ((o + 5) + 2 + 1 * j) else none)))))) := by
  unfold FX9
  exact lpF_lo (by omega) (by omega) (lpF_lo (by omega) (by omega) (lpF_lo (by omega) (by omega) (lpF_lo (by omega) (by omega) (nu_n (by omega) (nov_n (FX2_lo (by omega)) (nu_n (by omega) (nu_n (by omega) (nov_n (FX8_lo (by omega)) (nu_n (by omega) (nu_n (by omega) (nu_n (by omega) (nu_n (by omega) (nu_n (by omega) (nov_n (FX3_lo (by omega)) (nu_n (by omega) (nu_n (by omega) (nu_n (by omega) (nu_n (by omega) (nov_s (FX1_c1 G (o + 5)))))))))))))))))))))
theorem F9_t7 (G : mh_G) (o : Nat) : FX9 G o (o + 47) = some (.inl (G.2.1 0, 2, .inl (fun _ => 0))) := by
  unfold FX9
  exact lpF_lo (by omega) (by omega) (lpF_lo (by omega) (by omega) (lpF_lo (by omega) (by omega) (lpF_lo (by omega) (by omega) (nu_n (by omega) (nov_n (FX2_lo (by omega)) (nu_n (by omega) (nu_n (by omega) (nov_n (FX8_lo (by omega)) (nu_n (by omega) (nu_n (by omega) (nu_n (by omega) (nu_n (by omega) (nu_n (by omega) (nov_n (FX3_lo (by omega)) (nu_n (by omega) (nu_n (by omega) (nu_s)))))))))))))))))
theorem F9_t8 (G : mh_G) (o : Nat) : FX9 G o (o + 48) = some (.inr (3, [.ref ((o + 48) + 1), .ref ((o + 48) + 2), .int 0])) := by
  unfold FX9
  exact lpF_lo (by omega) (by omega) (lpF_lo (by omega) (by omega) (lpF_lo (by omega) (by omega) (lpF_lo (by omega) (by omega) (nu_n (by omega) (nov_n (FX2_lo (by omega)) (nu_n (by omega) (nu_n (by omega) (nov_n (FX8_lo (by omega)) (nu_n (by omega) (nu_n (by omega) (nu_n (by omega) (nu_n (by omega) (nu_n (by omega) (nov_s (FX3_c0 G (o + 48))))))))))))))))
theorem F9_t9 (G : mh_G) (o : Nat) : FX9 G o (o + 49) = some (.inl (G.2.1 0, 8, .inl (fun _ => 0))) := by
  unfold FX9
  exact lpF_lo (by omega) (by omega) (lpF_lo (by omega) (by omega) (lpF_lo (by omega) (by omega) (lpF_lo (by omega) (by omega) (nu_n (by omega) (nov_n (FX2_lo (by omega)) (nu_n (by omega) (nu_n (by omega) (nov_n (FX8_lo (by omega)) (nu_n (by omega) (nu_n (by omega) (nu_n (by omega) (nu_n (by omega) (nu_n (by omega) (nov_s (FX3_c1 G (o + 48))))))))))))))))
theorem F9_t10 (G : mh_G) (o : Nat) : FX9 G o (o + 50) = some (.inl (G.2.1 0, 8, .inl (fun _ => 0))) := by
  unfold FX9
  exact lpF_lo (by omega) (by omega) (lpF_lo (by omega) (by omega) (lpF_lo (by omega) (by omega) (lpF_lo (by omega) (by omega) (nu_n (by omega) (nov_n (FX2_lo (by omega)) (nu_n (by omega) (nu_n (by omega) (nov_n (FX8_lo (by omega)) (nu_n (by omega) (nu_n (by omega) (nu_n (by omega) (nu_n (by omega) (nu_n (by omega) (nov_s (FX3_c2 G (o + 48))))))))))))))))
theorem F9_t11 (G : mh_G) (o : Nat) : FX9 G o (o + 51) = some (.inl (G.2.1 6, 12, .inr (.inr (.inr (.inr (fun j => if j < 12 then some (o + 318 + 1 * j) else none)))))) := by
  unfold FX9
  exact lpF_arr
theorem F9_t13 (G : mh_G) (o : Nat) : FX9 G o (o + 52) = some (.inr (8, [.ref ((o + 52) + 1)])) := by
  unfold FX9
  exact lpF_lo (by omega) (by omega) (lpF_lo (by omega) (by omega) (lpF_lo (by omega) (by omega) (lpF_lo (by omega) (by omega) (nu_n (by omega) (nov_n (FX2_lo (by omega)) (nu_n (by omega) (nu_n (by omega) (nov_s (FX8_c0 G (o + 52))))))))))
theorem F9_t14 (G : mh_G) (o : Nat) : FX9 G o (o + 53) = some (.inl (G.2.1 0, 6, .inl (fun _ => 0))) := by
  unfold FX9
  exact lpF_lo (by omega) (by omega) (lpF_lo (by omega) (by omega) (lpF_lo (by omega) (by omega) (lpF_lo (by omega) (by omega) (nu_n (by omega) (nov_n (FX2_lo (by omega)) (nu_n (by omega) (nu_n (by omega) (nov_s (FX8_c1 G (o + 52))))))))))
theorem F9_t15 (G : mh_G) (o : Nat) : FX9 G o (o + 54) = some (.inr (2, [.ref ((o + 54) + 1), .ref ((o + 54) + 2), .int 0, .ref ((o + 54) + 3)])) := by
  unfold FX9
  exact lpF_lo (by omega) (by omega) (lpF_lo (by omega) (by omega) (lpF_lo (by omega) (by omega) (lpF_lo (by omega) (by omega) (nu_n (by omega) (nov_s (FX2_c0 G (o + 54)))))))
theorem F9_t16 (G : mh_G) (o : Nat) : FX9 G o (o + 55) = some (.inl (G.2.1 0, 5, .inl (fun _ => 0))) := by
  unfold FX9
  exact lpF_lo (by omega) (by omega) (lpF_lo (by omega) (by omega) (lpF_lo (by omega) (by omega) (lpF_lo (by omega) (by omega) (nu_n (by omega) (nov_s (FX2_c1 G (o + 54)))))))
theorem F9_t17 (G : mh_G) (o : Nat) : FX9 G o (o + 56) = some (.inl (G.2.1 0, 5, .inl (fun _ => 0))) := by
  unfold FX9
  exact lpF_lo (by omega) (by omega) (lpF_lo (by omega) (by omega) (lpF_lo (by omega) (by omega) (lpF_lo (by omega) (by omega) (nu_n (by omega) (nov_s (FX2_c2 G (o + 54)))))))
theorem F9_t18 (G : mh_G) (o : Nat) : FX9 G o (o + 57) = some (.inl (G.2.1 7, 6, .inr (.inr (.inr (.inr (fun j => if j < 6 then some ((o + 54) + 3 + 1 + j) else none)))))) := by
  unfold FX9
  exact lpF_lo (by omega) (by omega) (lpF_lo (by omega) (by omega) (lpF_lo (by omega) (by omega) (lpF_lo (by omega) (by omega) (nu_n (by omega) (nov_s (FX2_c3 G (o + 54)))))))
theorem F9_t19 (G : mh_G) (o : Nat) {i : Nat} (hi : i < 6) : FX9 G o (o + 58 + i) = some (.inl (G.2.1 0, 144, .inl (fun _ => 0))) := by
  unfold FX9
  exact lpF_lo (by omega) (by omega) (lpF_lo (by omega) (by omega) (lpF_lo (by omega) (by omega) (lpF_lo (by omega) (by omega) (nu_n (by omega) (nov_s (FX2_f4 G (o + 54) hi))))))
theorem F9_t20 (G : mh_G) (o : Nat) {i : Nat} (hi : i < 10) : FX9 G o (o + 64 + 3 * i) = some (.inr (4, [.int 0, .int 0, .int 1, .int 0, .int 0, .ref ((o + 64 + 3 * i) + 1), .ref ((o + 64 + 3 * i) + 2)])) := by
  unfold FX9
  exact lpF_lo (by omega) (by omega) (lpF_lo (by omega) (by omega) (lpF_lo (by omega) (by omega) ((lpF_mid (by omega) (by omega) (by omega)).trans ((congrArg (fun z => FX4 G z (o + 64 + 3 * i)) (show o + 64 + 3 * ((o + 64 + 3 * i - (o + 64)) / 3) = o + 64 + 3 * i by omega)).trans (FX4_c0 G (o + 64 + 3 * i))))))
theorem F9_t21 (G : mh_G) (o : Nat) {i : Nat} (hi : i < 10) : FX9 G o (o + 64 + 3 * i + 1) = some (.inl (G.2.1 0, 2, .inl (fun _ => 0))) := by
  unfold FX9
  exact lpF_lo (by omega) (by omega) (lpF_lo (by omega) (by omega) (lpF_lo (by omega) (by omega) ((lpF_mid (by omega) (by omega) (by omega)).trans ((congrArg (fun z => FX4 G z (o + 64 + 3 * i + 1)) (show o + 64 + 3 * ((o + 64 + 3 * i + 1 - (o + 64)) / 3) = o + 64 + 3 * i by omega)).trans (FX4_c1 G (o + 64 + 3 * i))))))
theorem F9_t22 (G : mh_G) (o : Nat) {i : Nat} (hi : i < 10) : FX9 G o (o + 64 + 3 * i + 2) = some (.inl (G.2.1 0, 4, .inl (fun _ => 0))) := by
  unfold FX9
  exact lpF_lo (by omega) (by omega) (lpF_lo (by omega) (by omega) (lpF_lo (by omega) (by omega) ((lpF_mid (by omega) (by omega) (by omega)).trans ((congrArg (fun z => FX4 G z (o + 64 + 3 * i + 2)) (show o + 64 + 3 * ((o + 64 + 3 * i + 2 - (o + 64)) / 3) = o + 64 + 3 * i by omega)).trans (FX4_c2 G (o + 64 + 3 * i))))))
theorem F9_t23 (G : mh_G) (o : Nat) {i : Nat} (hi : i < 12) : FX9 G o (o + 94 + 2 * i) = some (.inr (6, [.int 0, .int (-1), .int 0, .ref ((o + 94 + 2 * i) + 1)])) := by
  unfold FX9
  exact lpF_lo (by omega) (by omega) (lpF_lo (by omega) (by omega) ((lpF_mid (by omega) (by omega) (by omega)).trans ((congrArg (fun z => FX6 G z (o + 94 + 2 * i)) (show o + 94 + 2 * ((o + 94 + 2 * i - (o + 94)) / 2) = o + 94 + 2 * i by omega)).trans (FX6_c0 G (o + 94 + 2 * i)))))
theorem F9_t24 (G : mh_G) (o : Nat) {i : Nat} (hi : i < 12) : FX9 G o (o + 94 + 2 * i + 1) = some (.inl (G.2.1 0, 10, .inl (fun _ => 0))) := by
  unfold FX9
  exact lpF_lo (by omega) (by omega) (lpF_lo (by omega) (by omega) ((lpF_mid (by omega) (by omega) (by omega)).trans ((congrArg (fun z => FX6 G z (o + 94 + 2 * i + 1)) (show o + 94 + 2 * ((o + 94 + 2 * i + 1 - (o + 94)) / 2) = o + 94 + 2 * i by omega)).trans (FX6_c1 G (o + 94 + 2 * i)))))
theorem F9_t25 (G : mh_G) (o : Nat) {i : Nat} (hi : i < 40) : FX9 G o (o + 118 + 5 * i) = some (.inr (7, [.int 0, .ref ((o + 118 + 5 * i) + 1), .ref ((o + 118 + 5 * i) + 2), .ref ((o + 118 + 5 * i) + 3), .ref ((o + 118 + 5 * i) + 4)])) := by
  unfold FX9
  exact lpF_lo (by omega) (by omega) ((lpF_mid (by omega) (by omega) (by omega)).trans ((congrArg (fun z => FX7 G z (o + 118 + 5 * i)) (show o + 118 + 5 * ((o + 118 + 5 * i - (o + 118)) / 5) = o + 118 + 5 * i by omega)).trans (FX7_c0 G (o + 118 + 5 * i))))
theorem F9_t26 (G : mh_G) (o : Nat) {i : Nat} (hi : i < 40) : FX9 G o (o + 118 + 5 * i + 1) = some (.inl (G.2.1 0, 10, .inl (fun _ => 0))) := by
  unfold FX9
  exact lpF_lo (by omega) (by omega) ((lpF_mid (by omega) (by omega) (by omega)).trans ((congrArg (fun z => FX7 G z (o + 118 + 5 * i + 1)) (show o + 118 + 5 * ((o + 118 + 5 * i + 1 - (o + 118)) / 5) = o + 118 + 5 * i by omega)).trans (FX7_c1 G (o + 118 + 5 * i))))
theorem F9_t27 (G : mh_G) (o : Nat) {i : Nat} (hi : i < 40) : FX9 G o (o + 118 + 5 * i + 2) = some (.inl (G.2.1 1, 10, .inl (fun _ => 0))) := by
  unfold FX9
  exact lpF_lo (by omega) (by omega) ((lpF_mid (by omega) (by omega) (by omega)).trans ((congrArg (fun z => FX7 G z (o + 118 + 5 * i + 2)) (show o + 118 + 5 * ((o + 118 + 5 * i + 2 - (o + 118)) / 5) = o + 118 + 5 * i by omega)).trans (FX7_c2 G (o + 118 + 5 * i))))
theorem F9_t28 (G : mh_G) (o : Nat) {i : Nat} (hi : i < 40) : FX9 G o (o + 118 + 5 * i + 3) = some (.inl (G.2.1 0, 10, .inl (fun _ => 0))) := by
  unfold FX9
  exact lpF_lo (by omega) (by omega) ((lpF_mid (by omega) (by omega) (by omega)).trans ((congrArg (fun z => FX7 G z (o + 118 + 5 * i + 3)) (show o + 118 + 5 * ((o + 118 + 5 * i + 3 - (o + 118)) / 5) = o + 118 + 5 * i by omega)).trans (FX7_c3 G (o + 118 + 5 * i))))
theorem F9_t29 (G : mh_G) (o : Nat) {i : Nat} (hi : i < 40) : FX9 G o (o + 118 + 5 * i + 4) = some (.inl (G.2.1 0, 10, .inl (fun _ => 0))) := by
  unfold FX9
  exact lpF_lo (by omega) (by omega) ((lpF_mid (by omega) (by omega) (by omega)).trans ((congrArg (fun z => FX7 G z (o + 118 + 5 * i + 4)) (show o + 118 + 5 * ((o + 118 + 5 * i + 4 - (o + 118)) / 5) = o + 118 + 5 * i by omega)).trans (FX7_c4 G (o + 118 + 5 * i))))
theorem F9_t30 (G : mh_G) (o : Nat) {i : Nat} (hi : i < 40) : FX9 G o (o + 7 + 1 * i) = some (.inr (0, [.int 0, .int 0, .int 0, .int 0, .int 0])) := by
  unfold FX9
  exact lpF_lo (by omega) (by omega) (lpF_lo (by omega) (by omega) (lpF_lo (by omega) (by omega) (lpF_lo (by omega) (by omega) (nu_n (by omega) (nov_n (FX2_lo (by omega)) (nu_n (by omega) (nu_n (by omega) (nov_n (FX8_lo (by omega)) (nu_n (by omega) (nu_n (by omega) (nu_n (by omega) (nu_n (by omega) (nu_n (by omega) (nov_n (FX3_lo (by omega)) (nu_n (by omega) (nu_n (by omega) (nu_n (by omega) (nu_n (by omega) (nov_s (FX1_f2 G (o + 5) hi))))))))))))))))))))
theorem F9_t31 (G : mh_G) (o : Nat) {i : Nat} (hi : i < 12) : FX9 G o (o + 318 + 1 * i) = some (.inr (5, [.int 0, .int 0, .int 0, .int 0])) := by
  unfold FX9
  exact (lpF_mid (by omega) (by omega) (by omega)).trans ((congrArg (fun z => FX5 G z (o + 318 + 1 * i)) (show o + 318 + 1 * ((o + 318 + 1 * i - (o + 318)) / 1) = o + 318 + 1 * i by omega)).trans (FX5_c0 G (o + 318 + 1 * i)))
theorem F10_t40 (G : mh_G) (o : Nat) : FX10 G o (o) = some (.inr (10, [.int 0, .ref (o + 1), .ref (o + 2), .ref (o + 3), .int 0, .ref (o + 4), .ref (o + 5), .ref (o + 6), .ref (o + 7), .ref (o + 8), .ref (o + 9), .int 0, .ref (o + 10), .ref (o + 11), .ref (o + 12), .ref (o + 13), .ref (o + 14), .ref (o + 15), .ref (o + 16), .int 0, .ref (o + 17), .int 0, .ref (o + 18), .ref (o + 19), .int 0, .ref (o + 20), .ref (o + 21), .ref (o + 22), .ref (o + 23), .ref (o + 24), .int 0, .ref (o + 25), .ref (o + 26), .ref (o + 27)])) := by
  unfold FX10
  exact nu_n (by omega) (nu_n (by omega) (nu_n (by omega) (nu_n (by omega) (nu_n (by omega) (nu_n (by omega) (nu_s))))))
theorem F10_t42 (G : mh_G) (o : Nat) : FX10 G o (o + 1) = some (.inl (G.2.1 0, 10, .inl (fun _ => 0))) := by
  unfold FX10
  exact nu_n (by omega) (nu_n (by omega) (nu_n (by omega) (nu_n (by omega) (nu_n (by omega) (nu_n (by omega) (nu_n (by omega) (nu_n (by omega) (nu_n (by omega) (nu_n (by omega) (nu_n (by omega) (nu_n (by omega) (nu_n (by omega) (nu_n (by omega) (nu_n (by omega) (nu_n (by omega) (nu_n (by omega) (nu_n (by omega) (nu_n (by omega) (nu_n (by omega) (nu_n (by omega) (nu_n (by omega) (nu_n (by omega) (nu_n (by omega) (nu_n (by omega) (nu_n (by omega) (nu_n (by omega) (nu_n (by omega) (nu_n (by omega) (nu_n (by omega) (nu_n (by omega) (nu_n (by omega) (nu_n (by omega) (nu_n (by omega) (nu_n (by omega) (nu_n (by omega) (nu_n (by omega) (nu_n (by omega) (nu_n (by omega) (nu_n (by omega) (nu_n (by omega) (nu_n (by omega) (nu_n (by omega) (nu_n (by omega) (nu_n (by omega) (nu_n (by omega) (nu_n (by omega) (nu_n (by omega) (nu_n (by omega) (nu_n (by omega) (nu_n (by omega) (nu_n (by omega) (nu_n (by omega) (nu_n (by omega) (nu_n (by omega) (nu_n (by omega) (nu_n (by omega) (nu_n (by omega) (nu_n (by omega) (nu_s)))))))))))))))))))))))))))))))))))))))))))))))))))))))))))
theorem F10_t43 (G : mh_G) (o : Nat) : FX10 G o (o + 2) = some (.inl (G.2.1 0, 10, .inl (fun _ => 0))) := by
  unfold FX10
  exact nu_n (by omega) (nu_n (by omega) (nu_n (by omega) (nu_n (by omega) (nu_n (by omega) (nu_n (by omega) (nu_n (by omega) (nu_n (by omega) (nu_n (by omega) (nu_n (by omega) (nu_n (by omega) (nu_n (by omega) (nu_n (by omega) (nu_n (by omega) (nu_n (by omega) (nu_n (by omega) (nu_n (by omega) (nu_n (by omega) (nu_n (by omega) (nu_n (by omega) (nu_n (by omega) (nu_n (by omega) (nu_n (by omega) (nu_n (by omega) (nu_n (by omega) (nu_n (by omega) (nu_n (by omega) (nu_n (by omega) (nu_n (by omega) (nu_n (by omega) (nu_n (by omega) (nu_n (by omega) (nu_n (by omega) (nu_n (by omega) (nu_n (by omega) (nu_n (by omega) (nu_n (by omega) (nu_n (by omega) (nu_n (by omega) (nu_n (by omega) (nu_n (by omega) (nu_n (by omega) (nu_n (by omega) (nu_n (by omega) (nu_n (by omega) (nu_n (by omega) (nu_n (by omega) (nu_n (by omega) (nu_n (by omega) (nu_n (by omega) (nu_n (by omega) (nu_n (by omega) (nu_n (by omega) (nu_n (by omega) (nu_n (by omega) (nu_n (by omega) (nu_n (by omega) (nu_s)))))))))))))))))))))))))))))))))))))))))))))))))))))))))
theorem F10_t44 (G : mh_G) (o : Nat) : FX10 G o (o + 3) = some (.inl (G.2.1 0, 10, .inl (fun _ => 0))) := by
  unfold FX10
  exact nu_n (by omega) (nu_n (by omega) (nu_n (by omega) (nu_n (by omega) (nu_n (by omega) (nu_n (by omega) (nu_n (by omega) (nu_n (by omega) (nu_n (by omega) (nu_n (by omega) (nu_n (by omega) (nu_n (by omega) (nu_n (by omega) (nu_n (by omega) (nu_n (by omega) (nu_n (by omega) (nu_n (by omega) (nu_n (by omega) (nu_n (by omega) (nu_n (by omega) (nu_n (by omega) (nu_n (by omega) (nu_n (by omega) (nu_n (by omega) (nu_n (by omega) (nu_n (by omega) (nu_n (by omega) (nu_n (by omega) (nu_n (by omega) (nu_n (by omega) (nu_n (by omega) (nu_n (by omega) (nu_n (by omega) (nu_n (by omega) (nu_n (by omega) (nu_n (by omega) (nu_n (by omega) (nu_n (by omega) (nu_n (by omega) (nu_n (by omega) (nu_n (by omega) (nu_n (by omega) (nu_n (by omega) (nu_n (by omega) (nu_n (by omega) (nu_n (by omega) (nu_n (by omega) (nu_n (by omega) (nu_n (by omega) (nu_n (by omega) (nu_n (by omega) (nu_n (by omega) (nu_n (by omega) (nu_n (by omega) (nu_n (by omega) (nu_s)))))))))))))))))))))))))))))))))))))))))))))))))))))))
theorem F10_t46 (G : mh_G) (o : Nat) : FX10 G o (o + 4) = some (.inl (G.2.1 0, 12, .inl (fun _ => 0))) := by
  unfold FX10
  exact nu_n (by omega) (nu_n (by omega) (nu_n (by omega) (nu_n (by omega) (nu_n (by omega) (nu_n (by omega) (nu_n (by omega) (nu_n (by omega) (nu_n (by omega) (nu_n (by omega) (nu_n (by omega) (nu_n (by omega) (nu_n (by omega) (nu_n (by omega) (nu_n (by omega) (nu_n (by omega) (nu_n (by omega) (nu_n (by omega) (nu_n (by omega) (nu_n (by omega) (nu_n (by omega) (nu_n (by omega) (nu_n (by omega) (nu_n (by omega) (nu_n (by omega) (nu_n (by omega) (nu_n (by omega) (nu_n (by omega) (nu_n (by omega) (nu_n (by omega) (nu_n (by omega) (nu_n (by omega) (nu_n (by omega) (nu_n (by omega) (nu_n (by omega) (nu_n (by omega) (nu_n (by omega) (nu_n (by omega) (nu_n (by omega) (nu_n (by omega) (nu_n (by omega) (nu_n (by omega) (nu_n (by omega) (nu_n (by omega) (nu_n (by omega) (nu_n (by omega) (nu_n (by omega) (nu_n (by omega) (nu_n (by omega) (nu_n (by omega) (nu_n (by omega) (nu_n (by omega) (nu_n (by omega) (nu_s)))))))))))))))))))))))))))))))))))))))))))))))))))))
theorem F10_t47 (G : mh_G) (o : Nat) : FX10 G o (o + 5) = some (.inl (G.2.1 0, 120, .inl (fun _ => 0))) := by
  unfold FX10
  exact nu_n (by omega) (nu_n (by omega) (nu_n (by omega) (nu_n (by omega) (nu_n (by omega) (nu_n (by omega) (nu_n (by omega) (nu_n (by omega) (nu_n (by omega) (nu_n (by omega) (nu_n (by omega) (nu_n (by omega) (nu_n (by omega) (nu_n (by omega) (nu_n (by omega) (nu_n (by omega) (nu_n (by omega) (nu_n (by omega) (nu_n (by omega) (nu_n (by omega) (nu_n (by omega) (nu_n (by omega) (nu_n (by omega) (nu_n (by omega) (nu_n (by omega) (nu_n (by omega) (nu_n (by omega) (nu_n (by omega) (nu_n (by omega) (nu_n (by omega) (nu_n (by omega) (nu_n (by omega) (nu_n (by omega) (nu_n (by omega) (nu_n (by omega) (nu_n (by omega) (nu_n (by omega) (nu_n (by omega) (nu_n (by omega) (nu_n (by omega) (nu_n (by omega) (nu_n (by omega) (nu_n (by omega) (nu_n (by omega) (nu_n (by omega) (nu_n (by omega) (nu_n (by omega) (nu_n (by omega) (nu_n (by omega) (nu_n (by omega) (nu_n (by omega) (nu_s)))))))))))))))))))))))))))))))))))))))))))))))))))
theorem F10_t48 (G : mh_G) (o : Nat) : FX10 G o (o + 6) = some (.inl (G.2.1 1, 12, .inl (fun _ => 0))) := by
  unfold FX10
  exact nu_n (by omega) (nu_n (by omega) (nu_n (by omega) (nu_n (by omega) (nu_n (by omega) (nu_n (by omega) (nu_n (by omega) (nu_n (by omega) (nu_n (by omega) (nu_n (by omega) (nu_n (by omega) (nu_n (by omega) (nu_n (by omega) (nu_n (by omega) (nu_n (by omega) (nu_n (by omega) (nu_n (by omega) (nu_n (by omega) (nu_n (by omega) (nu_n (by omega) (nu_n (by omega) (nu_n (by omega) (nu_n (by omega) (nu_n (by omega) (nu_n (by omega) (nu_n (by omega) (nu_n (by omega) (nu_n (by omega) (nu_n (by omega) (nu_n (by omega) (nu_n (by omega) (nu_n (by omega) (nu_n (by omega) (nu_n (by omega) (nu_n (by omega) (nu_n (by omega) (nu_n (by omega) (nu_n (by omega) (nu_n (by omega) (nu_n (by omega) (nu_n (by omega) (nu_n (by omega) (nu_n (by omega) (nu_n (by omega) (nu_n (by omega) (nu_n (by omega) (nu_n (by omega) (nu_n (by omega) (nu_n (by omega) (nu_s)))))))))))))))))))))))))))))))))))))))))))))))))
theorem F10_t49 (G : mh_G) (o : Nat) : FX10 G o (o + 7) = some (.inl (G.2.1 0, 7, .inl (upd (upd (upd (upd (upd (upd (fun _ => 0) (0 : Int32).toNatClampNeg 2) (1 : Int32).toNatClampNeg 1) (2 : Int32).toNatClampNeg 1) (3 : Int32).toNatClampNeg 1) (5 : Int32).toNatClampNeg 5) (6 : Int32).toNatClampNeg 2))) := by
  unfold FX10
  exact nu_s
theorem F10_t50 (G : mh_G) (o : Nat) : FX10 G o (o + 8) = some (.inl (G.2.1 0, 10, .inl (fun _ => 0))) := by
  unfold FX10
  exact nu_n (by omega) (nu_n (by omega) (nu_n (by omega) (nu_n (by omega) (nu_n (by omega) (nu_n (by omega) (nu_n (by omega) (nu_n (by omega) (nu_n (by omega) (nu_n (by omega) (nu_n (by omega) (nu_n (by omega) (nu_n (by omega) (nu_n (by omega) (nu_n (by omega) (nu_n (by omega) (nu_n (by omega) (nu_n (by omega) (nu_n (by omega) (nu_n (by omega) (nu_n (by omega) (nu_n (by omega) (nu_n (by omega) (nu_n (by omega) (nu_n (by omega) (nu_n (by omega) (nu_n (by omega) (nu_n (by omega) (nu_n (by omega) (nu_n (by omega) (nu_n (by omega) (nu_n (by omega) (nu_n (by omega) (nu_n (by omega) (nu_n (by omega) (nu_n (by omega) (nu_n (by omega) (nu_n (by omega) (nu_n (by omega) (nu_n (by omega) (nu_n (by omega) (nu_n (by omega) (nu_n (by omega) (nu_n (by omega) (nu_n (by omega) (nu_s)))))))))))))))))))))))))))))))))))))))))))))
theorem F10_t51 (G : mh_G) (o : Nat) : FX10 G o (o + 9) = some (.inl (G.2.1 0, 20, .inl (fun _ => 0))) := by
  unfold FX10
  exact nu_n (by omega) (nu_n (by omega) (nu_n (by omega) (nu_n (by omega) (nu_n (by omega) (nu_n (by omega) (nu_n (by omega) (nu_n (by omega) (nu_n (by omega) (nu_n (by omega) (nu_n (by omega) (nu_n (by omega) (nu_n (by omega) (nu_n (by omega) (nu_n (by omega) (nu_n (by omega) (nu_n (by omega) (nu_n (by omega) (nu_n (by omega) (nu_n (by omega) (nu_n (by omega) (nu_n (by omega) (nu_n (by omega) (nu_n (by omega) (nu_n (by omega) (nu_n (by omega) (nu_n (by omega) (nu_n (by omega) (nu_n (by omega) (nu_n (by omega) (nu_n (by omega) (nu_n (by omega) (nu_n (by omega) (nu_n (by omega) (nu_n (by omega) (nu_n (by omega) (nu_n (by omega) (nu_n (by omega) (nu_n (by omega) (nu_n (by omega) (nu_n (by omega) (nu_n (by omega) (nu_n (by omega) (nu_s)))))))))))))))))))))))))))))))))))))))))))
theorem F10_t53 (G : mh_G) (o : Nat) : FX10 G o (o + 10) = some (.inl (G.2.1 0, 400, .inl (fun _ => 0))) := by
  unfold FX10
  exact nu_n (by omega) (nu_n (by omega) (nu_n (by omega) (nu_n (by omega) (nu_n (by omega) (nu_n (by omega) (nu_n (by omega) (nu_n (by omega) (nu_n (by omega) (nu_n (by omega) (nu_n (by omega) (nu_n (by omega) (nu_n (by omega) (nu_n (by omega) (nu_n (by omega) (nu_n (by omega) (nu_n (by omega) (nu_n (by omega) (nu_n (by omega) (nu_n (by omega) (nu_n (by omega) (nu_n (by omega) (nu_n (by omega) (nu_n (by omega) (nu_n (by omega) (nu_n (by omega) (nu_n (by omega) (nu_n (by omega) (nu_n (by omega) (nu_n (by omega) (nu_n (by omega) (nu_n (by omega) (nu_n (by omega) (nu_n (by omega) (nu_n (by omega) (nu_n (by omega) (nu_n (by omega) (nu_n (by omega) (nu_n (by omega) (nu_n (by omega) (nu_n (by omega) (nu_s)))))))))))))))))))))))))))))))))))))))))
theorem F10_t54 (G : mh_G) (o : Nat) : FX10 G o (o + 11) = some (.inl (G.2.1 1, 400, .inl (fun _ => 0))) := by
  unfold FX10
  exact nu_n (by omega) (nu_n (by omega) (nu_n (by omega) (nu_n (by omega) (nu_n (by omega) (nu_n (by omega) (nu_n (by omega) (nu_n (by omega) (nu_n (by omega) (nu_n (by omega) (nu_n (by omega) (nu_n (by omega) (nu_n (by omega) (nu_n (by omega) (nu_n (by omega) (nu_n (by omega) (nu_n (by omega) (nu_n (by omega) (nu_n (by omega) (nu_n (by omega) (nu_n (by omega) (nu_n (by omega) (nu_n (by omega) (nu_n (by omega) (nu_n (by omega) (nu_n (by omega) (nu_n (by omega) (nu_n (by omega) (nu_n (by omega) (nu_n (by omega) (nu_n (by omega) (nu_n (by omega) (nu_n (by omega) (nu_n (by omega) (nu_n (by omega) (nu_n (by omega) (nu_n (by omega) (nu_n (by omega) (nu_n (by omega) (nu_s)))))))))))))))))))))))))))))))))))))))
theorem F10_t55 (G : mh_G) (o : Nat) : FX10 G o (o + 12) = some (.inl (G.2.1 0, 400, .inl (fun _ => 0))) := by
  unfold FX10
  exact nu_n (by omega) (nu_n (by omega) (nu_n (by omega) (nu_n (by omega) (nu_n (by omega) (nu_n (by omega) (nu_n (by omega) (nu_n (by omega) (nu_n (by omega) (nu_n (by omega) (nu_n (by omega) (nu_n (by omega) (nu_n (by omega) (nu_n (by omega) (nu_n (by omega) (nu_n (by omega) (nu_n (by omega) (nu_n (by omega) (nu_n (by omega) (nu_n (by omega) (nu_n (by omega) (nu_n (by omega) (nu_n (by omega) (nu_n (by omega) (nu_n (by omega) (nu_n (by omega) (nu_n (by omega) (nu_n (by omega) (nu_n (by omega) (nu_n (by omega) (nu_n (by omega) (nu_n (by omega) (nu_n (by omega) (nu_n (by omega) (nu_n (by omega) (nu_n (by omega) (nu_n (by omega) (nu_s)))))))))))))))))))))))))))))))))))))
theorem F10_t56 (G : mh_G) (o : Nat) : FX10 G o (o + 13) = some (.inl (G.2.1 0, 400, .inl (fun _ => 0))) := by
  unfold FX10
  exact nu_n (by omega) (nu_n (by omega) (nu_n (by omega) (nu_n (by omega) (nu_n (by omega) (nu_n (by omega) (nu_n (by omega) (nu_n (by omega) (nu_n (by omega) (nu_n (by omega) (nu_n (by omega) (nu_n (by omega) (nu_n (by omega) (nu_n (by omega) (nu_n (by omega) (nu_n (by omega) (nu_n (by omega) (nu_n (by omega) (nu_n (by omega) (nu_n (by omega) (nu_n (by omega) (nu_n (by omega) (nu_n (by omega) (nu_n (by omega) (nu_n (by omega) (nu_n (by omega) (nu_n (by omega) (nu_n (by omega) (nu_n (by omega) (nu_n (by omega) (nu_n (by omega) (nu_n (by omega) (nu_n (by omega) (nu_n (by omega) (nu_n (by omega) (nu_s)))))))))))))))))))))))))))))))))))
theorem F10_t57 (G : mh_G) (o : Nat) : FX10 G o (o + 14) = some (.inl (G.2.1 0, 40, .inl (fun _ => 0))) := by
  unfold FX10
  exact nu_n (by omega) (nu_n (by omega) (nu_n (by omega) (nu_n (by omega) (nu_n (by omega) (nu_n (by omega) (nu_n (by omega) (nu_n (by omega) (nu_n (by omega) (nu_n (by omega) (nu_n (by omega) (nu_n (by omega) (nu_n (by omega) (nu_n (by omega) (nu_n (by omega) (nu_n (by omega) (nu_n (by omega) (nu_n (by omega) (nu_n (by omega) (nu_n (by omega) (nu_n (by omega) (nu_n (by omega) (nu_n (by omega) (nu_n (by omega) (nu_n (by omega) (nu_n (by omega) (nu_n (by omega) (nu_n (by omega) (nu_n (by omega) (nu_n (by omega) (nu_n (by omega) (nu_n (by omega) (nu_n (by omega) (nu_s)))))))))))))))))))))))))))))))))
theorem F10_t58 (G : mh_G) (o : Nat) : FX10 G o (o + 15) = some (.inl (G.2.1 0, 50, .inl (fun _ => 0))) := by
  unfold FX10
  exact nu_n (by omega) (nu_n (by omega) (nu_n (by omega) (nu_n (by omega) (nu_n (by omega) (nu_n (by omega) (nu_n (by omega) (nu_n (by omega) (nu_n (by omega) (nu_n (by omega) (nu_n (by omega) (nu_n (by omega) (nu_n (by omega) (nu_n (by omega) (nu_n (by omega) (nu_n (by omega) (nu_n (by omega) (nu_n (by omega) (nu_n (by omega) (nu_n (by omega) (nu_n (by omega) (nu_n (by omega) (nu_n (by omega) (nu_n (by omega) (nu_n (by omega) (nu_n (by omega) (nu_n (by omega) (nu_n (by omega) (nu_n (by omega) (nu_n (by omega) (nu_n (by omega) (nu_s)))))))))))))))))))))))))))))))
theorem F10_t59 (G : mh_G) (o : Nat) : FX10 G o (o + 16) = some (.inl (G.2.1 0, 2, .inl (fun _ => 0))) := by
  unfold FX10
  exact nu_n (by omega) (nu_n (by omega) (nu_n (by omega) (nu_n (by omega) (nu_n (by omega) (nu_n (by omega) (nu_n (by omega) (nu_n (by omega) (nu_n (by omega) (nu_n (by omega) (nu_n (by omega) (nu_n (by omega) (nu_n (by omega) (nu_n (by omega) (nu_n (by omega) (nu_n (by omega) (nu_n (by omega) (nu_n (by omega) (nu_n (by omega) (nu_n (by omega) (nu_n (by omega) (nu_n (by omega) (nu_n (by omega) (nu_n (by omega) (nu_n (by omega) (nu_n (by omega) (nu_n (by omega) (nu_n (by omega) (nu_n (by omega) (nu_s)))))))))))))))))))))))))))))
theorem F10_t61 (G : mh_G) (o : Nat) : FX10 G o (o + 17) = some (.inl (G.2.1 0, 240, .inl (fun _ => 0))) := by
  unfold FX10
  exact nu_n (by omega) (nu_n (by omega) (nu_n (by omega) (nu_n (by omega) (nu_n (by omega) (nu_n (by omega) (nu_n (by omega) (nu_n (by omega) (nu_n (by omega) (nu_n (by omega) (nu_n (by omega) (nu_n (by omega) (nu_n (by omega) (nu_n (by omega) (nu_n (by omega) (nu_n (by omega) (nu_n (by omega) (nu_n (by omega) (nu_n (by omega) (nu_n (by omega) (nu_n (by omega) (nu_n (by omega) (nu_n (by omega) (nu_n (by omega) (nu_n (by omega) (nu_n (by omega) (nu_n (by omega) (nu_s)))))))))))))))))))))))))))
theorem F10_t63 (G : mh_G) (o : Nat) : FX10 G o (o + 18) = some (.inl (G.2.1 0, 8, .inl (fun _ => 0))) := by
  unfold FX10
  exact nu_n (by omega) (nu_n (by omega) (nu_n (by omega) (nu_n (by omega) (nu_n (by omega) (nu_n (by omega) (nu_n (by omega) (nu_n (by omega) (nu_n (by omega) (nu_n (by omega) (nu_n (by omega) (nu_n (by omega) (nu_n (by omega) (nu_n (by omega) (nu_n (by omega) (nu_n (by omega) (nu_n (by omega) (nu_n (by omega) (nu_n (by omega) (nu_n (by omega) (nu_n (by omega) (nu_n (by omega) (nu_n (by omega) (nu_n (by omega) (nu_n (by omega) (nu_s)))))))))))))))))))))))))
theorem F10_t64 (G : mh_G) (o : Nat) : FX10 G o (o + 19) = some (.inl (G.2.1 0, 8, .inl (fun _ => 0))) := by
  unfold FX10
  exact nu_n (by omega) (nu_n (by omega) (nu_n (by omega) (nu_n (by omega) (nu_n (by omega) (nu_n (by omega) (nu_n (by omega) (nu_n (by omega) (nu_n (by omega) (nu_n (by omega) (nu_n (by omega) (nu_n (by omega) (nu_n (by omega) (nu_n (by omega) (nu_n (by omega) (nu_n (by omega) (nu_n (by omega) (nu_n (by omega) (nu_n (by omega) (nu_n (by omega) (nu_n (by omega) (nu_n (by omega) (nu_n (by omega) (nu_s)))))))))))))))))))))))
theorem F10_t66 (G : mh_G) (o : Nat) : FX10 G o (o + 20) = some (.inl (G.2.1 0, 12, .inl (fun _ => 0))) := by
  unfold FX10
  exact nu_n (by omega) (nu_n (by omega) (nu_n (by omega) (nu_n (by omega) (nu_n (by omega) (nu_n (by omega) (nu_n (by omega) (nu_n (by omega) (nu_n (by omega) (nu_n (by omega) (nu_n (by omega) (nu_n (by omega) (nu_n (by omega) (nu_n (by omega) (nu_n (by omega) (nu_n (by omega) (nu_n (by omega) (nu_n (by omega) (nu_n (by omega) (nu_n (by omega) (nu_n (by omega) (nu_s)))))))))))))))))))))
theorem F10_t67 (G : mh_G) (o : Nat) : FX10 G o (o + 21) = some (.inl (G.2.1 0, 12, .inl (fun _ => 0))) := by
  unfold FX10
  exact nu_n (by omega) (nu_n (by omega) (nu_n (by omega) (nu_n (by omega) (nu_n (by omega) (nu_n (by omega) (nu_n (by omega) (nu_n (by omega) (nu_n (by omega) (nu_n (by omega) (nu_n (by omega) (nu_n (by omega) (nu_n (by omega) (nu_n (by omega) (nu_n (by omega) (nu_n (by omega) (nu_n (by omega) (nu_n (by omega) (nu_n (by omega) (nu_s)))))))))))))))))))
theorem F10_t68 (G : mh_G) (o : Nat) : FX10 G o (o + 22) = some (.inl (G.2.1 0, 12, .inl (fun _ => 0))) := by
  unfold FX10
  exact nu_n (by omega) (nu_n (by omega) (nu_n (by omega) (nu_n (by omega) (nu_n (by omega) (nu_n (by omega) (nu_n (by omega) (nu_n (by omega) (nu_n (by omega) (nu_n (by omega) (nu_n (by omega) (nu_n (by omega) (nu_n (by omega) (nu_n (by omega) (nu_n (by omega) (nu_n (by omega) (nu_n (by omega) (nu_s)))))))))))))))))
theorem F10_t69 (G : mh_G) (o : Nat) : FX10 G o (o + 23) = some (.inl (G.2.1 0, 12, .inl (fun _ => 0))) := by
  unfold FX10
  exact nu_n (by omega) (nu_n (by omega) (nu_n (by omega) (nu_n (by omega) (nu_n (by omega) (nu_n (by omega) (nu_n (by omega) (nu_n (by omega) (nu_n (by omega) (nu_n (by omega) (nu_n (by omega) (nu_n (by omega) (nu_n (by omega) (nu_n (by omega) (nu_n (by omega) (nu_s)))))))))))))))
theorem F10_t70 (G : mh_G) (o : Nat) : FX10 G o (o + 24) = some (.inl (G.2.1 0, 6, .inl (fun _ => 0))) := by
  unfold FX10
  exact nu_n (by omega) (nu_n (by omega) (nu_n (by omega) (nu_n (by omega) (nu_n (by omega) (nu_n (by omega) (nu_n (by omega) (nu_n (by omega) (nu_n (by omega) (nu_n (by omega) (nu_n (by omega) (nu_n (by omega) (nu_n (by omega) (nu_s)))))))))))))
theorem F10_t72 (G : mh_G) (o : Nat) : FX10 G o (o + 25) = some (.inl (G.2.1 0, 5, .inl (fun _ => 0))) := by
  unfold FX10
  exact nu_n (by omega) (nu_n (by omega) (nu_n (by omega) (nu_n (by omega) (nu_n (by omega) (nu_n (by omega) (nu_n (by omega) (nu_n (by omega) (nu_n (by omega) (nu_n (by omega) (nu_n (by omega) (nu_s)))))))))))
theorem F10_t73 (G : mh_G) (o : Nat) : FX10 G o (o + 26) = some (.inl (G.2.1 0, 5, .inl (fun _ => 0))) := by
  unfold FX10
  exact nu_n (by omega) (nu_n (by omega) (nu_n (by omega) (nu_n (by omega) (nu_n (by omega) (nu_n (by omega) (nu_n (by omega) (nu_n (by omega) (nu_n (by omega) (nu_s)))))))))
theorem F10_t74 (G : mh_G) (o : Nat) : FX10 G o (o + 27) = some (.inl (G.2.1 0, 900, .inl (fun _ => 0))) := by
  unfold FX10
  exact nu_n (by omega) (nu_n (by omega) (nu_n (by omega) (nu_n (by omega) (nu_n (by omega) (nu_n (by omega) (nu_n (by omega) (nu_s)))))))
/-! the memory at first -/
def nM0 : mh_M := fun t i k => if t = 3 ∨ t = 49 then mh_first k else if t = 20 ∧ k = 2 then 1 else if t = 23 ∧ k = 1 then -1 else 0
def nfin (G : mh_G) (b : Nat) (fr9 fr10 : va_E) : nH := nov (FX10 G (b + 330)) (nu (nov (FX9 G b) (nu n0 b fr9)) (b + 330) fr10)
theorem nfin_9 {G : mh_G} {b q : Nat} {fr9 fr10 e : va_E} (h1 : q < b + 330) (h : FX9 G b q = some e) : nfin G b fr9 fr10 q = some e := nov_n (FX10_lo h1) (nu_n (by omega) (nov_s h))
theorem nfin_10 {G : mh_G} {b q : Nat} {fr9 fr10 e : va_E} (h : FX10 G (b + 330) q = some e) : nfin G b fr9 fr10 q = some e := nov_s h
theorem arrV_ext {c : ClassId} {n : Nat} {f g : Nat → Value} (h : ∀ j, j < n → f j = g j) : arrV c n f = arrV c n g := by
  unfold arrV
  congr 1
  congr 1
  funext j
  exact h j.val j.isLt
theorem at_i {G : mh_G} {q n : Nat} {c : ClassId} {f g : Nat → Int32} {H : Heap} (h : va_at G.1 vwCl (q, .inl (c, n, .inl f)) H) (hg : ∀ j, j < n → f j = g j) : va_at G.1 vwCl (q, .inl (c, n, .inl g)) H := by
  have h : H[q]? = some (vp_cell c (n, .inl f)) := h
  show H[q]? = some (vp_cell c (n, .inl g))
  rw [h, vp_cell_i, vp_cell_i]
  exact congrArg some (arrV_ext fun j hj => by rw [hg j hj])
theorem at_q {G : mh_G} {q n : Nat} {c : ClassId} {f g : Nat → Option Nat} {H : Heap} (h : va_at G.1 vwCl (q, .inl (c, n, .inr (.inr (.inr (.inr f))))) H) (hg : ∀ j, j < n → f j = g j) : va_at G.1 vwCl (q, .inl (c, n, .inr (.inr (.inr (.inr g))))) H := by
  have h : H[q]? = some (vp_cell c (n, .inr (.inr (.inr (.inr f))))) := h
  show H[q]? = some (vp_cell c (n, .inr (.inr (.inr (.inr g)))))
  rw [h, vp_cell_q, vp_cell_q]
  exact congrArg some (arrV_ext fun j hj => by rw [hg j hj])
section PW
variable {D : va_G} {cls : Nat → ClassId} {b : Nat} {fr9 fr10 : va_E} {H : Heap}
theorem pw_0 {i : Nat} (hi : i < 1) (h : nAt (nG D cls b) (nfin (nG D cls b) b fr9 fr10) H) : va_at D vwCl (nAd b 0 i, mh_e (let G := nG D cls b; .inl (9, 14, rr0 G i)) (nM0 0 i)) H := by
  have h1 := h (b) _ (nfin_9 (by omega) (F9_t0 (nG D cls b) b))
  exact h1
theorem pw_1 {i : Nat} (hi : i < 1) (h : nAt (nG D cls b) (nfin (nG D cls b) b fr9 fr10) H) : va_at D vwCl (nAd b 1 i, mh_e (let G := nG D cls b; .inr (.inr (G.2.1 2, 10, G.2.2 20))) (nM0 1 i)) H := by
  have h1 := h (b + 1) _ (nfin_9 (by omega) (F9_t1 (nG D cls b) b))
  exact at_q (G := nG D cls b) h1 (fun j hj => by
    rw [if_pos hj]
    rfl)
theorem pw_2 {i : Nat} (hi : i < 1) (h : nAt (nG D cls b) (nfin (nG D cls b) b fr9 fr10) H) : va_at D vwCl (nAd b 2 i, mh_e (let G := nG D cls b; .inr (.inr (G.2.1 3, 12, G.2.2 23))) (nM0 2 i)) H := by
  have h1 := h (b + 2) _ (nfin_9 (by omega) (F9_t2 (nG D cls b) b))
  exact at_q (G := nG D cls b) h1 (fun j hj => by
    rw [if_pos hj]
    rfl)
theorem pw_3 {i : Nat} (hi : i < 1) (h : nAt (nG D cls b) (nfin (nG D cls b) b fr9 fr10) H) : va_at D vwCl (nAd b 3 i, mh_e (let G := nG D cls b; .inr (.inl (G.2.1 0, 7))) (nM0 3 i)) H := by
  have h1 := h (b + 3) _ (nfin_9 (by omega) (F9_t3 (nG D cls b) b))
  exact h1
theorem pw_4 {i : Nat} (hi : i < 1) (h : nAt (nG D cls b) (nfin (nG D cls b) b fr9 fr10) H) : va_at D vwCl (nAd b 4 i, mh_e (let G := nG D cls b; .inr (.inr (G.2.1 4, 40, G.2.2 25))) (nM0 4 i)) H := by
  have h1 := h (b + 4) _ (nfin_9 (by omega) (F9_t4 (nG D cls b) b))
  exact at_q (G := nG D cls b) h1 (fun j hj => by
    rw [if_pos hj]
    rfl)
theorem pw_5 {i : Nat} (hi : i < 1) (h : nAt (nG D cls b) (nfin (nG D cls b) b fr9 fr10) H) : va_at D vwCl (nAd b 5 i, mh_e (let G := nG D cls b; .inl (1, 3, rr5 G i)) (nM0 5 i)) H := by
  have h1 := h (b + 5) _ (nfin_9 (by omega) (F9_t5 (nG D cls b) b))
  exact h1
theorem pw_6 {i : Nat} (hi : i < 1) (h : nAt (nG D cls b) (nfin (nG D cls b) b fr9 fr10) H) : va_at D vwCl (nAd b 6 i, mh_e (let G := nG D cls b; .inr (.inr (G.2.1 5, 40, G.2.2 30))) (nM0 6 i)) H := by
  have h1 := h (b + 6) _ (nfin_9 (by omega) (F9_t6 (nG D cls b) b))
  exact at_q (G := nG D cls b) h1 (fun j hj => by
    rw [if_pos hj]
    rfl)
theorem pw_7 {i : Nat} (hi : i < 1) (h : nAt (nG D cls b) (nfin (nG D cls b) b fr9 fr10) H) : va_at D vwCl (nAd b 7 i, mh_e (let G := nG D cls b; .inr (.inl (G.2.1 0, 2))) (nM0 7 i)) H := by
  have h1 := h (b + 47) _ (nfin_9 (by omega) (F9_t7 (nG D cls b) b))
  exact at_i (G := nG D cls b) h1 (fun j hj => rfl)
theorem pw_8 {i : Nat} (hi : i < 1) (h : nAt (nG D cls b) (nfin (nG D cls b) b fr9 fr10) H) : va_at D vwCl (nAd b 8 i, mh_e (let G := nG D cls b; .inl (3, 3, rr8 G i)) (nM0 8 i)) H := by
  have h1 := h (b + 48) _ (nfin_9 (by omega) (F9_t8 (nG D cls b) b))
  exact h1
theorem pw_9 {i : Nat} (hi : i < 1) (h : nAt (nG D cls b) (nfin (nG D cls b) b fr9 fr10) H) : va_at D vwCl (nAd b 9 i, mh_e (let G := nG D cls b; .inr (.inl (G.2.1 0, 8))) (nM0 9 i)) H := by
  have h1 := h (b + 49) _ (nfin_9 (by omega) (F9_t9 (nG D cls b) b))
  exact at_i (G := nG D cls b) h1 (fun j hj => rfl)
theorem pw_10 {i : Nat} (hi : i < 1) (h : nAt (nG D cls b) (nfin (nG D cls b) b fr9 fr10) H) : va_at D vwCl (nAd b 10 i, mh_e (let G := nG D cls b; .inr (.inl (G.2.1 0, 8))) (nM0 10 i)) H := by
  have h1 := h (b + 50) _ (nfin_9 (by omega) (F9_t10 (nG D cls b) b))
  exact at_i (G := nG D cls b) h1 (fun j hj => rfl)
theorem pw_11 {i : Nat} (hi : i < 1) (h : nAt (nG D cls b) (nfin (nG D cls b) b fr9 fr10) H) : va_at D vwCl (nAd b 11 i, mh_e (let G := nG D cls b; .inr (.inr (G.2.1 6, 12, G.2.2 31))) (nM0 11 i)) H := by
  have h1 := h (b + 51) _ (nfin_9 (by omega) (F9_t11 (nG D cls b) b))
  exact at_q (G := nG D cls b) h1 (fun j hj => by
    rw [if_pos hj]
    rfl)
theorem pw_13 {i : Nat} (hi : i < 1) (h : nAt (nG D cls b) (nfin (nG D cls b) b fr9 fr10) H) : va_at D vwCl (nAd b 13 i, mh_e (let G := nG D cls b; .inl (8, 1, rr13 G i)) (nM0 13 i)) H := by
  have h1 := h (b + 52) _ (nfin_9 (by omega) (F9_t13 (nG D cls b) b))
  exact h1
theorem pw_14 {i : Nat} (hi : i < 1) (h : nAt (nG D cls b) (nfin (nG D cls b) b fr9 fr10) H) : va_at D vwCl (nAd b 14 i, mh_e (let G := nG D cls b; .inr (.inl (G.2.1 0, 6))) (nM0 14 i)) H := by
  have h1 := h (b + 53) _ (nfin_9 (by omega) (F9_t14 (nG D cls b) b))
  exact at_i (G := nG D cls b) h1 (fun j hj => rfl)
theorem pw_15 {i : Nat} (hi : i < 1) (h : nAt (nG D cls b) (nfin (nG D cls b) b fr9 fr10) H) : va_at D vwCl (nAd b 15 i, mh_e (let G := nG D cls b; .inl (2, 4, rr15 G i)) (nM0 15 i)) H := by
  have h1 := h (b + 54) _ (nfin_9 (by omega) (F9_t15 (nG D cls b) b))
  exact h1
theorem pw_16 {i : Nat} (hi : i < 1) (h : nAt (nG D cls b) (nfin (nG D cls b) b fr9 fr10) H) : va_at D vwCl (nAd b 16 i, mh_e (let G := nG D cls b; .inr (.inl (G.2.1 0, 5))) (nM0 16 i)) H := by
  have h1 := h (b + 55) _ (nfin_9 (by omega) (F9_t16 (nG D cls b) b))
  exact at_i (G := nG D cls b) h1 (fun j hj => rfl)
theorem pw_17 {i : Nat} (hi : i < 1) (h : nAt (nG D cls b) (nfin (nG D cls b) b fr9 fr10) H) : va_at D vwCl (nAd b 17 i, mh_e (let G := nG D cls b; .inr (.inl (G.2.1 0, 5))) (nM0 17 i)) H := by
  have h1 := h (b + 56) _ (nfin_9 (by omega) (F9_t17 (nG D cls b) b))
  exact at_i (G := nG D cls b) h1 (fun j hj => rfl)
theorem pw_18 {i : Nat} (hi : i < 1) (h : nAt (nG D cls b) (nfin (nG D cls b) b fr9 fr10) H) : va_at D vwCl (nAd b 18 i, mh_e (let G := nG D cls b; .inr (.inr (G.2.1 7, 6, G.2.2 19))) (nM0 18 i)) H := by
  have h1 := h (b + 57) _ (nfin_9 (by omega) (F9_t18 (nG D cls b) b))
  exact at_q (G := nG D cls b) h1 (fun j hj => by
    rw [if_pos hj]
    rfl)
theorem pw_19 {i : Nat} (hi : i < 6) (h : nAt (nG D cls b) (nfin (nG D cls b) b fr9 fr10) H) : va_at D vwCl (nAd b 19 i, mh_e (let G := nG D cls b; .inr (.inl (G.2.1 0, 144))) (nM0 19 i)) H := by
  have h1 := h (b + 58 + i) _ (nfin_9 (by omega) (F9_t19 (nG D cls b) b hi))
  exact at_i (G := nG D cls b) h1 (fun j hj => rfl)
theorem pw_20 {i : Nat} (hi : i < 10) (h : nAt (nG D cls b) (nfin (nG D cls b) b fr9 fr10) H) : va_at D vwCl (nAd b 20 i, mh_e (let G := nG D cls b; .inl (4, 7, rr20 G i)) (nM0 20 i)) H := by
  have h1 := h (b + 64 + 3 * i) _ (nfin_9 (by omega) (F9_t20 (nG D cls b) b hi))
  exact h1
theorem pw_21 {i : Nat} (hi : i < 10) (h : nAt (nG D cls b) (nfin (nG D cls b) b fr9 fr10) H) : va_at D vwCl (nAd b 21 i, mh_e (let G := nG D cls b; .inr (.inl (G.2.1 0, 2))) (nM0 21 i)) H := by
  have h1 := h (b + 64 + 3 * i + 1) _ (nfin_9 (by omega) (F9_t21 (nG D cls b) b hi))
  exact at_i (G := nG D cls b) h1 (fun j hj => rfl)
theorem pw_22 {i : Nat} (hi : i < 10) (h : nAt (nG D cls b) (nfin (nG D cls b) b fr9 fr10) H) : va_at D vwCl (nAd b 22 i, mh_e (let G := nG D cls b; .inr (.inl (G.2.1 0, 4))) (nM0 22 i)) H := by
  have h1 := h (b + 64 + 3 * i + 2) _ (nfin_9 (by omega) (F9_t22 (nG D cls b) b hi))
  exact at_i (G := nG D cls b) h1 (fun j hj => rfl)
theorem pw_23 {i : Nat} (hi : i < 12) (h : nAt (nG D cls b) (nfin (nG D cls b) b fr9 fr10) H) : va_at D vwCl (nAd b 23 i, mh_e (let G := nG D cls b; .inl (6, 4, rr23 G i)) (nM0 23 i)) H := by
  have h1 := h (b + 94 + 2 * i) _ (nfin_9 (by omega) (F9_t23 (nG D cls b) b hi))
  exact h1
theorem pw_24 {i : Nat} (hi : i < 12) (h : nAt (nG D cls b) (nfin (nG D cls b) b fr9 fr10) H) : va_at D vwCl (nAd b 24 i, mh_e (let G := nG D cls b; .inr (.inl (G.2.1 0, 10))) (nM0 24 i)) H := by
  have h1 := h (b + 94 + 2 * i + 1) _ (nfin_9 (by omega) (F9_t24 (nG D cls b) b hi))
  exact at_i (G := nG D cls b) h1 (fun j hj => rfl)
theorem pw_25 {i : Nat} (hi : i < 40) (h : nAt (nG D cls b) (nfin (nG D cls b) b fr9 fr10) H) : va_at D vwCl (nAd b 25 i, mh_e (let G := nG D cls b; .inl (7, 5, rr25 G i)) (nM0 25 i)) H := by
  have h1 := h (b + 118 + 5 * i) _ (nfin_9 (by omega) (F9_t25 (nG D cls b) b hi))
  exact h1
theorem pw_26 {i : Nat} (hi : i < 40) (h : nAt (nG D cls b) (nfin (nG D cls b) b fr9 fr10) H) : va_at D vwCl (nAd b 26 i, mh_e (let G := nG D cls b; .inr (.inl (G.2.1 0, 10))) (nM0 26 i)) H := by
  have h1 := h (b + 118 + 5 * i + 1) _ (nfin_9 (by omega) (F9_t26 (nG D cls b) b hi))
  exact at_i (G := nG D cls b) h1 (fun j hj => rfl)
theorem pw_27 {i : Nat} (hi : i < 40) (h : nAt (nG D cls b) (nfin (nG D cls b) b fr9 fr10) H) : va_at D vwCl (nAd b 27 i, mh_e (let G := nG D cls b; .inr (.inl (G.2.1 1, 10))) (nM0 27 i)) H := by
  have h1 := h (b + 118 + 5 * i + 2) _ (nfin_9 (by omega) (F9_t27 (nG D cls b) b hi))
  exact at_i (G := nG D cls b) h1 (fun j hj => rfl)
theorem pw_28 {i : Nat} (hi : i < 40) (h : nAt (nG D cls b) (nfin (nG D cls b) b fr9 fr10) H) : va_at D vwCl (nAd b 28 i, mh_e (let G := nG D cls b; .inr (.inl (G.2.1 0, 10))) (nM0 28 i)) H := by
  have h1 := h (b + 118 + 5 * i + 3) _ (nfin_9 (by omega) (F9_t28 (nG D cls b) b hi))
  exact at_i (G := nG D cls b) h1 (fun j hj => rfl)
theorem pw_29 {i : Nat} (hi : i < 40) (h : nAt (nG D cls b) (nfin (nG D cls b) b fr9 fr10) H) : va_at D vwCl (nAd b 29 i, mh_e (let G := nG D cls b; .inr (.inl (G.2.1 0, 10))) (nM0 29 i)) H := by
  have h1 := h (b + 118 + 5 * i + 4) _ (nfin_9 (by omega) (F9_t29 (nG D cls b) b hi))
  exact at_i (G := nG D cls b) h1 (fun j hj => rfl)
theorem pw_30 {i : Nat} (hi : i < 40) (h : nAt (nG D cls b) (nfin (nG D cls b) b fr9 fr10) H) : va_at D vwCl (nAd b 30 i, mh_e (let G := nG D cls b; .inl (0, 5, rr30 G i)) (nM0 30 i)) H := by
  have h1 := h (b + 7 + 1 * i) _ (nfin_9 (by omega) (F9_t30 (nG D cls b) b hi))
  exact h1
theorem pw_31 {i : Nat} (hi : i < 12) (h : nAt (nG D cls b) (nfin (nG D cls b) b fr9 fr10) H) : va_at D vwCl (nAd b 31 i, mh_e (let G := nG D cls b; .inl (5, 4, rr31 G i)) (nM0 31 i)) H := by
  have h1 := h (b + 318 + 1 * i) _ (nfin_9 (by omega) (F9_t31 (nG D cls b) b hi))
  exact h1
theorem pw_40 {i : Nat} (hi : i < 1) (h : nAt (nG D cls b) (nfin (nG D cls b) b fr9 fr10) H) : va_at D vwCl (nAd b 40 i, mh_e (let G := nG D cls b; .inl (10, 34, rr40 G i)) (nM0 40 i)) H := by
  have h1 := h (b + 330) _ (nfin_10 (F10_t40 (nG D cls b) (b + 330)))
  exact h1
theorem pw_42 {i : Nat} (hi : i < 1) (h : nAt (nG D cls b) (nfin (nG D cls b) b fr9 fr10) H) : va_at D vwCl (nAd b 42 i, mh_e (let G := nG D cls b; .inr (.inl (G.2.1 0, 10))) (nM0 42 i)) H := by
  have h1 := h (b + 331) _ (nfin_10 (F10_t42 (nG D cls b) (b + 330)))
  exact at_i (G := nG D cls b) h1 (fun j hj => rfl)
theorem pw_43 {i : Nat} (hi : i < 1) (h : nAt (nG D cls b) (nfin (nG D cls b) b fr9 fr10) H) : va_at D vwCl (nAd b 43 i, mh_e (let G := nG D cls b; .inr (.inl (G.2.1 0, 10))) (nM0 43 i)) H := by
  have h1 := h (b + 332) _ (nfin_10 (F10_t43 (nG D cls b) (b + 330)))
  exact at_i (G := nG D cls b) h1 (fun j hj => rfl)
theorem pw_44 {i : Nat} (hi : i < 1) (h : nAt (nG D cls b) (nfin (nG D cls b) b fr9 fr10) H) : va_at D vwCl (nAd b 44 i, mh_e (let G := nG D cls b; .inr (.inl (G.2.1 0, 10))) (nM0 44 i)) H := by
  have h1 := h (b + 333) _ (nfin_10 (F10_t44 (nG D cls b) (b + 330)))
  exact at_i (G := nG D cls b) h1 (fun j hj => rfl)
theorem pw_46 {i : Nat} (hi : i < 1) (h : nAt (nG D cls b) (nfin (nG D cls b) b fr9 fr10) H) : va_at D vwCl (nAd b 46 i, mh_e (let G := nG D cls b; .inr (.inl (G.2.1 0, 12))) (nM0 46 i)) H := by
  have h1 := h (b + 334) _ (nfin_10 (F10_t46 (nG D cls b) (b + 330)))
  exact at_i (G := nG D cls b) h1 (fun j hj => rfl)
theorem pw_47 {i : Nat} (hi : i < 1) (h : nAt (nG D cls b) (nfin (nG D cls b) b fr9 fr10) H) : va_at D vwCl (nAd b 47 i, mh_e (let G := nG D cls b; .inr (.inl (G.2.1 0, 120))) (nM0 47 i)) H := by
  have h1 := h (b + 335) _ (nfin_10 (F10_t47 (nG D cls b) (b + 330)))
  exact at_i (G := nG D cls b) h1 (fun j hj => rfl)
theorem pw_48 {i : Nat} (hi : i < 1) (h : nAt (nG D cls b) (nfin (nG D cls b) b fr9 fr10) H) : va_at D vwCl (nAd b 48 i, mh_e (let G := nG D cls b; .inr (.inl (G.2.1 1, 12))) (nM0 48 i)) H := by
  have h1 := h (b + 336) _ (nfin_10 (F10_t48 (nG D cls b) (b + 330)))
  exact at_i (G := nG D cls b) h1 (fun j hj => rfl)
theorem pw_49 {i : Nat} (hi : i < 1) (h : nAt (nG D cls b) (nfin (nG D cls b) b fr9 fr10) H) : va_at D vwCl (nAd b 49 i, mh_e (let G := nG D cls b; .inr (.inl (G.2.1 0, 7))) (nM0 49 i)) H := by
  have h1 := h (b + 337) _ (nfin_10 (F10_t49 (nG D cls b) (b + 330)))
  have hi0 : i = 0 := by omega
  subst hi0
  exact at_i (G := nG D cls b) h1 (fun j hj => by
    rcases (show j = 0 ∨ j = 1 ∨ j = 2 ∨ j = 3 ∨ j = 4 ∨ j = 5 ∨ j = 6 by omega) with rfl | rfl | rfl | rfl | rfl | rfl | rfl <;> decide)
theorem pw_50 {i : Nat} (hi : i < 1) (h : nAt (nG D cls b) (nfin (nG D cls b) b fr9 fr10) H) : va_at D vwCl (nAd b 50 i, mh_e (let G := nG D cls b; .inr (.inl (G.2.1 0, 10))) (nM0 50 i)) H := by
  have h1 := h (b + 338) _ (nfin_10 (F10_t50 (nG D cls b) (b + 330)))
  exact at_i (G := nG D cls b) h1 (fun j hj => rfl)
theorem pw_51 {i : Nat} (hi : i < 1) (h : nAt (nG D cls b) (nfin (nG D cls b) b fr9 fr10) H) : va_at D vwCl (nAd b 51 i, mh_e (let G := nG D cls b; .inr (.inl (G.2.1 0, 20))) (nM0 51 i)) H := by
  have h1 := h (b + 339) _ (nfin_10 (F10_t51 (nG D cls b) (b + 330)))
  exact at_i (G := nG D cls b) h1 (fun j hj => rfl)
theorem pw_53 {i : Nat} (hi : i < 1) (h : nAt (nG D cls b) (nfin (nG D cls b) b fr9 fr10) H) : va_at D vwCl (nAd b 53 i, mh_e (let G := nG D cls b; .inr (.inl (G.2.1 0, 400))) (nM0 53 i)) H := by
  have h1 := h (b + 340) _ (nfin_10 (F10_t53 (nG D cls b) (b + 330)))
  exact at_i (G := nG D cls b) h1 (fun j hj => rfl)
theorem pw_54 {i : Nat} (hi : i < 1) (h : nAt (nG D cls b) (nfin (nG D cls b) b fr9 fr10) H) : va_at D vwCl (nAd b 54 i, mh_e (let G := nG D cls b; .inr (.inl (G.2.1 1, 400))) (nM0 54 i)) H := by
  have h1 := h (b + 341) _ (nfin_10 (F10_t54 (nG D cls b) (b + 330)))
  exact at_i (G := nG D cls b) h1 (fun j hj => rfl)
theorem pw_55 {i : Nat} (hi : i < 1) (h : nAt (nG D cls b) (nfin (nG D cls b) b fr9 fr10) H) : va_at D vwCl (nAd b 55 i, mh_e (let G := nG D cls b; .inr (.inl (G.2.1 0, 400))) (nM0 55 i)) H := by
  have h1 := h (b + 342) _ (nfin_10 (F10_t55 (nG D cls b) (b + 330)))
  exact at_i (G := nG D cls b) h1 (fun j hj => rfl)
theorem pw_56 {i : Nat} (hi : i < 1) (h : nAt (nG D cls b) (nfin (nG D cls b) b fr9 fr10) H) : va_at D vwCl (nAd b 56 i, mh_e (let G := nG D cls b; .inr (.inl (G.2.1 0, 400))) (nM0 56 i)) H := by
  have h1 := h (b + 343) _ (nfin_10 (F10_t56 (nG D cls b) (b + 330)))
  exact at_i (G := nG D cls b) h1 (fun j hj => rfl)
theorem pw_57 {i : Nat} (hi : i < 1) (h : nAt (nG D cls b) (nfin (nG D cls b) b fr9 fr10) H) : va_at D vwCl (nAd b 57 i, mh_e (let G := nG D cls b; .inr (.inl (G.2.1 0, 40))) (nM0 57 i)) H := by
  have h1 := h (b + 344) _ (nfin_10 (F10_t57 (nG D cls b) (b + 330)))
  exact at_i (G := nG D cls b) h1 (fun j hj => rfl)
theorem pw_58 {i : Nat} (hi : i < 1) (h : nAt (nG D cls b) (nfin (nG D cls b) b fr9 fr10) H) : va_at D vwCl (nAd b 58 i, mh_e (let G := nG D cls b; .inr (.inl (G.2.1 0, 50))) (nM0 58 i)) H := by
  have h1 := h (b + 345) _ (nfin_10 (F10_t58 (nG D cls b) (b + 330)))
  exact at_i (G := nG D cls b) h1 (fun j hj => rfl)
theorem pw_59 {i : Nat} (hi : i < 1) (h : nAt (nG D cls b) (nfin (nG D cls b) b fr9 fr10) H) : va_at D vwCl (nAd b 59 i, mh_e (let G := nG D cls b; .inr (.inl (G.2.1 0, 2))) (nM0 59 i)) H := by
  have h1 := h (b + 346) _ (nfin_10 (F10_t59 (nG D cls b) (b + 330)))
  exact at_i (G := nG D cls b) h1 (fun j hj => rfl)
theorem pw_61 {i : Nat} (hi : i < 1) (h : nAt (nG D cls b) (nfin (nG D cls b) b fr9 fr10) H) : va_at D vwCl (nAd b 61 i, mh_e (let G := nG D cls b; .inr (.inl (G.2.1 0, 240))) (nM0 61 i)) H := by
  have h1 := h (b + 347) _ (nfin_10 (F10_t61 (nG D cls b) (b + 330)))
  exact at_i (G := nG D cls b) h1 (fun j hj => rfl)
theorem pw_63 {i : Nat} (hi : i < 1) (h : nAt (nG D cls b) (nfin (nG D cls b) b fr9 fr10) H) : va_at D vwCl (nAd b 63 i, mh_e (let G := nG D cls b; .inr (.inl (G.2.1 0, 8))) (nM0 63 i)) H := by
  have h1 := h (b + 348) _ (nfin_10 (F10_t63 (nG D cls b) (b + 330)))
  exact at_i (G := nG D cls b) h1 (fun j hj => rfl)
theorem pw_64 {i : Nat} (hi : i < 1) (h : nAt (nG D cls b) (nfin (nG D cls b) b fr9 fr10) H) : va_at D vwCl (nAd b 64 i, mh_e (let G := nG D cls b; .inr (.inl (G.2.1 0, 8))) (nM0 64 i)) H := by
  have h1 := h (b + 349) _ (nfin_10 (F10_t64 (nG D cls b) (b + 330)))
  exact at_i (G := nG D cls b) h1 (fun j hj => rfl)
theorem pw_66 {i : Nat} (hi : i < 1) (h : nAt (nG D cls b) (nfin (nG D cls b) b fr9 fr10) H) : va_at D vwCl (nAd b 66 i, mh_e (let G := nG D cls b; .inr (.inl (G.2.1 0, 12))) (nM0 66 i)) H := by
  have h1 := h (b + 350) _ (nfin_10 (F10_t66 (nG D cls b) (b + 330)))
  exact at_i (G := nG D cls b) h1 (fun j hj => rfl)
theorem pw_67 {i : Nat} (hi : i < 1) (h : nAt (nG D cls b) (nfin (nG D cls b) b fr9 fr10) H) : va_at D vwCl (nAd b 67 i, mh_e (let G := nG D cls b; .inr (.inl (G.2.1 0, 12))) (nM0 67 i)) H := by
  have h1 := h (b + 351) _ (nfin_10 (F10_t67 (nG D cls b) (b + 330)))
  exact at_i (G := nG D cls b) h1 (fun j hj => rfl)
theorem pw_68 {i : Nat} (hi : i < 1) (h : nAt (nG D cls b) (nfin (nG D cls b) b fr9 fr10) H) : va_at D vwCl (nAd b 68 i, mh_e (let G := nG D cls b; .inr (.inl (G.2.1 0, 12))) (nM0 68 i)) H := by
  have h1 := h (b + 352) _ (nfin_10 (F10_t68 (nG D cls b) (b + 330)))
  exact at_i (G := nG D cls b) h1 (fun j hj => rfl)
theorem pw_69 {i : Nat} (hi : i < 1) (h : nAt (nG D cls b) (nfin (nG D cls b) b fr9 fr10) H) : va_at D vwCl (nAd b 69 i, mh_e (let G := nG D cls b; .inr (.inl (G.2.1 0, 12))) (nM0 69 i)) H := by
  have h1 := h (b + 353) _ (nfin_10 (F10_t69 (nG D cls b) (b + 330)))
  exact at_i (G := nG D cls b) h1 (fun j hj => rfl)
theorem pw_70 {i : Nat} (hi : i < 1) (h : nAt (nG D cls b) (nfin (nG D cls b) b fr9 fr10) H) : va_at D vwCl (nAd b 70 i, mh_e (let G := nG D cls b; .inr (.inl (G.2.1 0, 6))) (nM0 70 i)) H := by
  have h1 := h (b + 354) _ (nfin_10 (F10_t70 (nG D cls b) (b + 330)))
  exact at_i (G := nG D cls b) h1 (fun j hj => rfl)
theorem pw_72 {i : Nat} (hi : i < 1) (h : nAt (nG D cls b) (nfin (nG D cls b) b fr9 fr10) H) : va_at D vwCl (nAd b 72 i, mh_e (let G := nG D cls b; .inr (.inl (G.2.1 0, 5))) (nM0 72 i)) H := by
  have h1 := h (b + 355) _ (nfin_10 (F10_t72 (nG D cls b) (b + 330)))
  exact at_i (G := nG D cls b) h1 (fun j hj => rfl)
theorem pw_73 {i : Nat} (hi : i < 1) (h : nAt (nG D cls b) (nfin (nG D cls b) b fr9 fr10) H) : va_at D vwCl (nAd b 73 i, mh_e (let G := nG D cls b; .inr (.inl (G.2.1 0, 5))) (nM0 73 i)) H := by
  have h1 := h (b + 356) _ (nfin_10 (F10_t73 (nG D cls b) (b + 330)))
  exact at_i (G := nG D cls b) h1 (fun j hj => rfl)
theorem pw_74 {i : Nat} (hi : i < 1) (h : nAt (nG D cls b) (nfin (nG D cls b) b fr9 fr10) H) : va_at D vwCl (nAd b 74 i, mh_e (let G := nG D cls b; .inr (.inl (G.2.1 0, 900))) (nM0 74 i)) H := by
  have h1 := h (b + 357) _ (nfin_10 (F10_t74 (nG D cls b) (b + 330)))
  exact at_i (G := nG D cls b) h1 (fun j hj => rfl)
theorem pw_all (h : nAt (nG D cls b) (nfin (nG D cls b) b fr9 fr10) H) : mh_Pw (nG D cls b) nM0 H := by
  intro t i sh hz
  have hc := nZ_cnt hz
  by_cases h0 : t = 0
  · subst h0
    have hi : i < 1 := hc
    have e := (zz0 (G := nG D cls b) hi).symm.trans hz
    cases e
    exact pw_0 hi h
  by_cases h1 : t = 1
  · subst h1
    have hi : i < 1 := hc
    have e := (zz1 (G := nG D cls b) hi).symm.trans hz
    cases e
    exact pw_1 hi h
  by_cases h2 : t = 2
  · subst h2
    have hi : i < 1 := hc
    have e := (zz2 (G := nG D cls b) hi).symm.trans hz
    cases e
    exact pw_2 hi h
  by_cases h3 : t = 3
  · subst h3
    have hi : i < 1 := hc
    have e := (zz3 (G := nG D cls b) hi).symm.trans hz
    cases e
    exact pw_3 hi h
  by_cases h4 : t = 4
  · subst h4
    have hi : i < 1 := hc
    have e := (zz4 (G := nG D cls b) hi).symm.trans hz
    cases e
    exact pw_4 hi h
  by_cases h5 : t = 5
  · subst h5
    have hi : i < 1 := hc
    have e := (zz5 (G := nG D cls b) hi).symm.trans hz
    cases e
    exact pw_5 hi h
  by_cases h6 : t = 6
  · subst h6
    have hi : i < 1 := hc
    have e := (zz6 (G := nG D cls b) hi).symm.trans hz
    cases e
    exact pw_6 hi h
  by_cases h7 : t = 7
  · subst h7
    have hi : i < 1 := hc
    have e := (zz7 (G := nG D cls b) hi).symm.trans hz
    cases e
    exact pw_7 hi h
  by_cases h8 : t = 8
  · subst h8
    have hi : i < 1 := hc
    have e := (zz8 (G := nG D cls b) hi).symm.trans hz
    cases e
    exact pw_8 hi h
  by_cases h9 : t = 9
  · subst h9
    have hi : i < 1 := hc
    have e := (zz9 (G := nG D cls b) hi).symm.trans hz
    cases e
    exact pw_9 hi h
  by_cases h10 : t = 10
  · subst h10
    have hi : i < 1 := hc
    have e := (zz10 (G := nG D cls b) hi).symm.trans hz
    cases e
    exact pw_10 hi h
  by_cases h11 : t = 11
  · subst h11
    have hi : i < 1 := hc
    have e := (zz11 (G := nG D cls b) hi).symm.trans hz
    cases e
    exact pw_11 hi h
  by_cases h13 : t = 13
  · subst h13
    have hi : i < 1 := hc
    have e := (zz13 (G := nG D cls b) hi).symm.trans hz
    cases e
    exact pw_13 hi h
  by_cases h14 : t = 14
  · subst h14
    have hi : i < 1 := hc
    have e := (zz14 (G := nG D cls b) hi).symm.trans hz
    cases e
    exact pw_14 hi h
  by_cases h15 : t = 15
  · subst h15
    have hi : i < 1 := hc
    have e := (zz15 (G := nG D cls b) hi).symm.trans hz
    cases e
    exact pw_15 hi h
  by_cases h16 : t = 16
  · subst h16
    have hi : i < 1 := hc
    have e := (zz16 (G := nG D cls b) hi).symm.trans hz
    cases e
    exact pw_16 hi h
  by_cases h17 : t = 17
  · subst h17
    have hi : i < 1 := hc
    have e := (zz17 (G := nG D cls b) hi).symm.trans hz
    cases e
    exact pw_17 hi h
  by_cases h18 : t = 18
  · subst h18
    have hi : i < 1 := hc
    have e := (zz18 (G := nG D cls b) hi).symm.trans hz
    cases e
    exact pw_18 hi h
  by_cases h19 : t = 19
  · subst h19
    have hi : i < 6 := hc
    have e := (zz19 (G := nG D cls b) hi).symm.trans hz
    cases e
    exact pw_19 hi h
  by_cases h20 : t = 20
  · subst h20
    have hi : i < 10 := hc
    have e := (zz20 (G := nG D cls b) hi).symm.trans hz
    cases e
    exact pw_20 hi h
  by_cases h21 : t = 21
  · subst h21
    have hi : i < 10 := hc
    have e := (zz21 (G := nG D cls b) hi).symm.trans hz
    cases e
    exact pw_21 hi h
  by_cases h22 : t = 22
  · subst h22
    have hi : i < 10 := hc
    have e := (zz22 (G := nG D cls b) hi).symm.trans hz
    cases e
    exact pw_22 hi h
  by_cases h23 : t = 23
  · subst h23
    have hi : i < 12 := hc
    have e := (zz23 (G := nG D cls b) hi).symm.trans hz
    cases e
    exact pw_23 hi h
  by_cases h24 : t = 24
  · subst h24
    have hi : i < 12 := hc
    have e := (zz24 (G := nG D cls b) hi).symm.trans hz
    cases e
    exact pw_24 hi h
  by_cases h25 : t = 25
  · subst h25
    have hi : i < 40 := hc
    have e := (zz25 (G := nG D cls b) hi).symm.trans hz
    cases e
    exact pw_25 hi h
  by_cases h26 : t = 26
  · subst h26
    have hi : i < 40 := hc
    have e := (zz26 (G := nG D cls b) hi).symm.trans hz
    cases e
    exact pw_26 hi h
  by_cases h27 : t = 27
  · subst h27
    have hi : i < 40 := hc
    have e := (zz27 (G := nG D cls b) hi).symm.trans hz
    cases e
    exact pw_27 hi h
  by_cases h28 : t = 28
  · subst h28
    have hi : i < 40 := hc
    have e := (zz28 (G := nG D cls b) hi).symm.trans hz
    cases e
    exact pw_28 hi h
  by_cases h29 : t = 29
  · subst h29
    have hi : i < 40 := hc
    have e := (zz29 (G := nG D cls b) hi).symm.trans hz
    cases e
    exact pw_29 hi h
  by_cases h30 : t = 30
  · subst h30
    have hi : i < 40 := hc
    have e := (zz30 (G := nG D cls b) hi).symm.trans hz
    cases e
    exact pw_30 hi h
  by_cases h31 : t = 31
  · subst h31
    have hi : i < 12 := hc
    have e := (zz31 (G := nG D cls b) hi).symm.trans hz
    cases e
    exact pw_31 hi h
  by_cases h40 : t = 40
  · subst h40
    have hi : i < 1 := hc
    have e := (zz40 (G := nG D cls b) hi).symm.trans hz
    cases e
    exact pw_40 hi h
  by_cases h42 : t = 42
  · subst h42
    have hi : i < 1 := hc
    have e := (zz42 (G := nG D cls b) hi).symm.trans hz
    cases e
    exact pw_42 hi h
  by_cases h43 : t = 43
  · subst h43
    have hi : i < 1 := hc
    have e := (zz43 (G := nG D cls b) hi).symm.trans hz
    cases e
    exact pw_43 hi h
  by_cases h44 : t = 44
  · subst h44
    have hi : i < 1 := hc
    have e := (zz44 (G := nG D cls b) hi).symm.trans hz
    cases e
    exact pw_44 hi h
  by_cases h46 : t = 46
  · subst h46
    have hi : i < 1 := hc
    have e := (zz46 (G := nG D cls b) hi).symm.trans hz
    cases e
    exact pw_46 hi h
  by_cases h47 : t = 47
  · subst h47
    have hi : i < 1 := hc
    have e := (zz47 (G := nG D cls b) hi).symm.trans hz
    cases e
    exact pw_47 hi h
  by_cases h48 : t = 48
  · subst h48
    have hi : i < 1 := hc
    have e := (zz48 (G := nG D cls b) hi).symm.trans hz
    cases e
    exact pw_48 hi h
  by_cases h49 : t = 49
  · subst h49
    have hi : i < 1 := hc
    have e := (zz49 (G := nG D cls b) hi).symm.trans hz
    cases e
    exact pw_49 hi h
  by_cases h50 : t = 50
  · subst h50
    have hi : i < 1 := hc
    have e := (zz50 (G := nG D cls b) hi).symm.trans hz
    cases e
    exact pw_50 hi h
  by_cases h51 : t = 51
  · subst h51
    have hi : i < 1 := hc
    have e := (zz51 (G := nG D cls b) hi).symm.trans hz
    cases e
    exact pw_51 hi h
  by_cases h53 : t = 53
  · subst h53
    have hi : i < 1 := hc
    have e := (zz53 (G := nG D cls b) hi).symm.trans hz
    cases e
    exact pw_53 hi h
  by_cases h54 : t = 54
  · subst h54
    have hi : i < 1 := hc
    have e := (zz54 (G := nG D cls b) hi).symm.trans hz
    cases e
    exact pw_54 hi h
  by_cases h55 : t = 55
  · subst h55
    have hi : i < 1 := hc
    have e := (zz55 (G := nG D cls b) hi).symm.trans hz
    cases e
    exact pw_55 hi h
  by_cases h56 : t = 56
  · subst h56
    have hi : i < 1 := hc
    have e := (zz56 (G := nG D cls b) hi).symm.trans hz
    cases e
    exact pw_56 hi h
  by_cases h57 : t = 57
  · subst h57
    have hi : i < 1 := hc
    have e := (zz57 (G := nG D cls b) hi).symm.trans hz
    cases e
    exact pw_57 hi h
  by_cases h58 : t = 58
  · subst h58
    have hi : i < 1 := hc
    have e := (zz58 (G := nG D cls b) hi).symm.trans hz
    cases e
    exact pw_58 hi h
  by_cases h59 : t = 59
  · subst h59
    have hi : i < 1 := hc
    have e := (zz59 (G := nG D cls b) hi).symm.trans hz
    cases e
    exact pw_59 hi h
  by_cases h61 : t = 61
  · subst h61
    have hi : i < 1 := hc
    have e := (zz61 (G := nG D cls b) hi).symm.trans hz
    cases e
    exact pw_61 hi h
  by_cases h63 : t = 63
  · subst h63
    have hi : i < 1 := hc
    have e := (zz63 (G := nG D cls b) hi).symm.trans hz
    cases e
    exact pw_63 hi h
  by_cases h64 : t = 64
  · subst h64
    have hi : i < 1 := hc
    have e := (zz64 (G := nG D cls b) hi).symm.trans hz
    cases e
    exact pw_64 hi h
  by_cases h66 : t = 66
  · subst h66
    have hi : i < 1 := hc
    have e := (zz66 (G := nG D cls b) hi).symm.trans hz
    cases e
    exact pw_66 hi h
  by_cases h67 : t = 67
  · subst h67
    have hi : i < 1 := hc
    have e := (zz67 (G := nG D cls b) hi).symm.trans hz
    cases e
    exact pw_67 hi h
  by_cases h68 : t = 68
  · subst h68
    have hi : i < 1 := hc
    have e := (zz68 (G := nG D cls b) hi).symm.trans hz
    cases e
    exact pw_68 hi h
  by_cases h69 : t = 69
  · subst h69
    have hi : i < 1 := hc
    have e := (zz69 (G := nG D cls b) hi).symm.trans hz
    cases e
    exact pw_69 hi h
  by_cases h70 : t = 70
  · subst h70
    have hi : i < 1 := hc
    have e := (zz70 (G := nG D cls b) hi).symm.trans hz
    cases e
    exact pw_70 hi h
  by_cases h72 : t = 72
  · subst h72
    have hi : i < 1 := hc
    have e := (zz72 (G := nG D cls b) hi).symm.trans hz
    cases e
    exact pw_72 hi h
  by_cases h73 : t = 73
  · subst h73
    have hi : i < 1 := hc
    have e := (zz73 (G := nG D cls b) hi).symm.trans hz
    cases e
    exact pw_73 hi h
  by_cases h74 : t = 74
  · subst h74
    have hi : i < 1 := hc
    have e := (zz74 (G := nG D cls b) hi).symm.trans hz
    cases e
    exact pw_74 hi h
  exfalso
  unfold nCnt at hc
  split at hc <;> first | omega | contradiction
end PW
