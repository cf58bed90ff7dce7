/-! ===== what each method computes, out of its bytecode by program (wip/whole/dec.py) ===== -/
theorem ck_some {α : Type} {b : Bool} {o : Option α} {z : α} (h : ck b o = some z) : b = true ∧ o = some z := by
  cases b with
  | false => cases h
  | true => exact ⟨rfl, h⟩
def fX1_nextRow (n : Nat) (M : mh_M) : Option (mh_M × Nat) :=
  pl (M 5 0 2) (fun v1 : Int32 =>
  ck (inb v1 40) (pl v1.toNatClampNeg (fun q2 : Nat =>
  pl (M 5 0 2) (fun v3 : Int32 =>
  pl (v3 + (1 : Int32)) (fun v4 : Int32 =>
  ck (!decide ((40 : Int32) = 0)) (pl (v4 - v4 / (40 : Int32) * (40 : Int32)) (fun v5 : Int32 =>
  pl (mh_up M 5 0 2 v5) (fun M6 : mh_M =>
  pl (M6 5 0 1) (fun v7 : Int32 =>
  pl (v7 + (1 : Int32)) (fun v8 : Int32 =>
  pl (if (40 : Int32) < v8 then (40 : Int32) else v8) (fun v9 : Int32 =>
  pl (mh_up M6 5 0 1 v9) (fun M10 : mh_M =>
  some (M10, q2)))))))))))))
theorem bX1_nextRow {n : Nat} {M m : mh_M} {q : Nat} (h : fX1_nextRow n M = some (m, q)) : q < 40 := by
  unfold fX1_nextRow at h
  simp only [pl] at h
  obtain ⟨h1, h2⟩ := ck_some h
  obtain ⟨h3, h4⟩ := ck_some h2
  cases h4
  exact inb_lt h1
def fX1_takeLatest (n : Nat) (M : mh_M) : Option (mh_M × Nat) :=
  pl (M 5 0 2) (fun v1 : Int32 =>
  pl (v1 + (40 : Int32)) (fun v2 : Int32 =>
  pl (v2 - (1 : Int32)) (fun v3 : Int32 =>
  ck (!decide ((40 : Int32) = 0)) (pl (v3 - v3 / (40 : Int32) * (40 : Int32)) (fun v4 : Int32 =>
  pl (mh_up M 5 0 2 v4) (fun M5 : mh_M =>
  pl (M5 5 0 1) (fun v6 : Int32 =>
  pl (v6 - (1 : Int32)) (fun v7 : Int32 =>
  pl (mh_up M5 5 0 1 v7) (fun M8 : mh_M =>
  pl (M8 5 0 2) (fun v9 : Int32 =>
  ck (inb v9 40) (pl v9.toNatClampNeg (fun q10 : Nat =>
  some (M8, q10)))))))))))))
theorem bX1_takeLatest {n : Nat} {M m : mh_M} {q : Nat} (h : fX1_takeLatest n M = some (m, q)) : q < 40 := by
  unfold fX1_takeLatest at h
  simp only [pl] at h
  obtain ⟨h1, h2⟩ := ck_some h
  obtain ⟨h3, h4⟩ := ck_some h2
  cases h4
  exact inb_lt h3
def fX2_add (n : Nat) (M : mh_M) (a0 : Int32) (a1 : Int32) : Option (mh_M) :=
  pl (M 15 0 2) (fun v1 : Int32 =>
  ck (inb v1 5) (pl (mh_up M 16 0 v1.toNatClampNeg a0) (fun M2 : mh_M =>
  pl (M2 15 0 2) (fun v3 : Int32 =>
  ck (inb v3 5) (pl (mh_up M2 17 0 v3.toNatClampNeg a1) (fun M4 : mh_M =>
  pl (M4 15 0 2) (fun v5 : Int32 =>
  pl (v5 + (1 : Int32)) (fun v6 : Int32 =>
  pl (mh_up M4 15 0 2 v6) (fun M7 : mh_M =>
  some M7)))))))))
def fX2_priceWithOneMore (n : Nat) (M : mh_M) (a0 : Int32) (a1 : Int32) : Option (Int32) :=
  ck (inb a0 5) (pl (M 16 0 a0.toNatClampNeg) (fun v1 : Int32 =>
  (if v1 ≤ a1 then
    ck (inb a0 6) (pl a0.toNatClampNeg (fun q3 : Nat =>
    ck (inb a0 5) (pl (M 16 0 a0.toNatClampNeg) (fun v4 : Int32 =>
    pl (a1 - v4) (fun v5 : Int32 =>
    ck (inb v5 144) (pl (M 19 q3 v5.toNatClampNeg) (fun v6 : Int32 =>
    ck (inb a0 5) (pl (M 17 0 a0.toNatClampNeg) (fun v7 : Int32 =>
    pl (v6 + v7) (fun v8 : Int32 =>
    some v8))))))))))
  else
    some (1000000000 : Int32))))
def fX2_weighUp_L49 (n : Nat) (x1 : Int32) (k43 : mh_M → Int32 → Option (mh_M)) (rec : mh_M → Int32 → Option (mh_M)) (M : mh_M) (x2 : Int32) : Option (mh_M) :=
  (if (144 : Int32) ≤ x2 then
    pl (x1 + (-1 : Int32)) (fun v6 : Int32 =>
    k43 M v6)
  else
    ck (inb x1 6) (pl x1.toNatClampNeg (fun q7 : Nat =>
    pl (x1 + (1 : Int32)) (fun v8 : Int32 =>
    ck (inb v8 6) (pl v8.toNatClampNeg (fun q9 : Nat =>
    ck (inb x2 144) (pl (M 19 q9 x2.toNatClampNeg) (fun v10 : Int32 =>
    bd (fX2_priceWithOneMore n M x1 x2) (fun v11 : Int32 =>
    pl (if v11 < v10 then v11 else v10) (fun v12 : Int32 =>
    ck (inb x2 144) (pl (mh_up M 19 q7 x2.toNatClampNeg v12) (fun M13 : mh_M =>
    pl (x2 + (1 : Int32)) (fun v14 : Int32 =>
    rec M13 v14)))))))))))))
def fX2_weighUp_L43 (n : Nat) (rec : mh_M → Int32 → Option (mh_M)) (M : mh_M) (x1 : Int32) : Option (mh_M) :=
  (if x1 < 0 then
    some M
  else
    itr2 (fX2_weighUp_L49 n x1 rec) n M (0 : Int32))
def fX2_weighUp_L2 (n : Nat) (rec : mh_M → Int32 → Option (mh_M)) (M : mh_M) (x1 : Int32) : Option (mh_M) :=
  (if (144 : Int32) ≤ x1 then
    pl (M 15 0 2) (fun v2 : Int32 =>
    pl (v2 - (1 : Int32)) (fun v3 : Int32 =>
    itr2 (fX2_weighUp_L43 n) n M v3))
  else
    pl (M 15 0 2) (fun v15 : Int32 =>
    ck (inb v15 6) (pl v15.toNatClampNeg (fun q16 : Nat =>
    (if x1 = 0 then
      ck (inb x1 144) (pl (mh_up M 19 q16 x1.toNatClampNeg (0 : Int32)) (fun M20 : mh_M =>
      pl (x1 + (1 : Int32)) (fun v21 : Int32 =>
      rec M20 v21)))
    else
      ck (inb x1 144) (pl (mh_up M 19 q16 x1.toNatClampNeg (1000000000 : Int32)) (fun M18 : mh_M =>
      pl (x1 + (1 : Int32)) (fun v19 : Int32 =>
      rec M18 v19))))))))
def fX2_weighUp (n : Nat) (M : mh_M) : Option (mh_M) :=
  itr2 (fX2_weighUp_L2 n) n M (0 : Int32)
def fX2_leastFor (n : Nat) (M : mh_M) (a0 : Int32) : Option (Int32) :=
  ck (inb (0 : Int32) 6) (pl (0 : Int32).toNatClampNeg (fun q1 : Nat =>
  ck (inb a0 144) (pl (M 19 q1 a0.toNatClampNeg) (fun v2 : Int32 =>
  some v2))))
def fX2_bestBottles_L6 (n : Nat) (M : mh_M) (rec : Int32 → Int32 → Option (Int32)) (x2 : Int32) (x3 : Int32) : Option (Int32) :=
  (if (144 : Int32) ≤ x3 then
    some x2
  else
    ck (inb (0 : Int32) 6) (pl (0 : Int32).toNatClampNeg (fun q3 : Nat =>
    ck (inb x3 144) (pl (M 19 q3 x3.toNatClampNeg) (fun v4 : Int32 =>
    ck (inb (0 : Int32) 6) (pl (0 : Int32).toNatClampNeg (fun q5 : Nat =>
    ck (inb x2 144) (pl (M 19 q5 x2.toNatClampNeg) (fun v6 : Int32 =>
    (if v6 ≤ v4 then
      pl (x3 + (1 : Int32)) (fun v8 : Int32 =>
      rec x2 v8)
    else
      pl (x3 + (1 : Int32)) (fun v9 : Int32 =>
      rec x3 v9)))))))))))
def fX2_bestBottles (n : Nat) (M : mh_M) (a0 : Int32) : Option (Int32) :=
  pl (a0 + (1 : Int32)) (fun v1 : Int32 =>
  itr2 (fX2_bestBottles_L6 n M) n a0 v1)
def fX2_mostTimes_L5 (n : Nat) (M : mh_M) (x1 : Int32) (rec : Int32 → Int32 → Option (Int32)) (x3 : Int32) (x4 : Int32) : Option (Int32) :=
  (if (144 : Int32) ≤ x4 then
    some x4
  else
    ck (inb x1 5) (pl (M 16 0 x1.toNatClampNeg) (fun v2 : Int32 =>
    (if x3 < v2 then
      some x4
    else
      bd (fX2_priceWithOneMore n M x1 x3) (fun v4 : Int32 =>
      ck (inb x1 6) (pl x1.toNatClampNeg (fun q5 : Nat =>
      ck (inb x3 144) (pl (M 19 q5 x3.toNatClampNeg) (fun v6 : Int32 =>
      (if v4 = v6 then
        ck (inb x1 5) (pl (M 16 0 x1.toNatClampNeg) (fun v8 : Int32 =>
        pl (x3 - v8) (fun v9 : Int32 =>
        pl (x4 + (1 : Int32)) (fun v10 : Int32 =>
        rec v9 v10))))
      else
        some x4))))))))))
def fX2_mostTimes (n : Nat) (M : mh_M) (a0 : Int32) (a1 : Int32) : Option (Int32) :=
  itr2 (fX2_mostTimes_L5 n M a0) n a1 (0 : Int32)
def fX2_timesOf_L8 (n : Nat) (M : mh_M) (x1 : Int32) (rec : Int32 → Int32 → Int32 → Option (Int32)) (x3 : Int32) (x4 : Int32) (x5 : Int32) : Option (Int32) :=
  (if x1 < x5 then
    some x4
  else
    bd (fX2_mostTimes n M x5 x3) (fun v2 : Int32 =>
    ck (inb x5 5) (pl (M 16 0 x5.toNatClampNeg) (fun v3 : Int32 =>
    pl (v2 * v3) (fun v4 : Int32 =>
    pl (x3 - v4) (fun v5 : Int32 =>
    pl (x5 + (1 : Int32)) (fun v6 : Int32 =>
    rec v5 v2 v6)))))))
def fX2_timesOf (n : Nat) (M : mh_M) (a0 : Int32) (a1 : Int32) : Option (Int32) :=
  itr3 (fX2_timesOf_L8 n M a0) n a1 (0 : Int32) (0 : Int32)
def fX3_add (n : Nat) (M : mh_M) (a0 : Int32) (a1 : Int32) : Option (mh_M) :=
  pl (M 8 0 2) (fun v1 : Int32 =>
  ck (inb v1 8) (pl (mh_up M 9 0 v1.toNatClampNeg a0) (fun M2 : mh_M =>
  pl (M2 8 0 2) (fun v3 : Int32 =>
  ck (inb v3 8) (pl (mh_up M2 10 0 v3.toNatClampNeg a1) (fun M4 : mh_M =>
  pl (M4 8 0 2) (fun v5 : Int32 =>
  pl (v5 + (1 : Int32)) (fun v6 : Int32 =>
  pl (mh_up M4 8 0 2 v6) (fun M7 : mh_M =>
  some M7)))))))))
def fX3_costOf_L6 (n : Nat) (M : mh_M) (x1 : Int32) (x2 : Int32) (x3 : Int32) (rec : Int32 → Int32 → Option (Int32)) (x4 : Int32) (x5 : Int32) : Option (Int32) :=
  pl (M 8 0 2) (fun v1 : Int32 =>
  (if v1 ≤ x5 then
    some x4
  else
    ck (inb x5 8) (pl (M 9 0 x5.toNatClampNeg) (fun v3 : Int32 =>
    pl (x1 - v3) (fun v4 : Int32 =>
    pl (if (0 : Int32) < v4 then v4 else (0 : Int32)) (fun v5 : Int32 =>
    ck (inb x5 8) (pl (M 9 0 x5.toNatClampNeg) (fun v6 : Int32 =>
    pl (v6 - x1) (fun v7 : Int32 =>
    pl (if (0 : Int32) < v7 then v7 else (0 : Int32)) (fun v8 : Int32 =>
    ck (inb x5 8) (pl (M 10 0 x5.toNatClampNeg) (fun v9 : Int32 =>
    pl (x2 * v5) (fun v10 : Int32 =>
    pl (x3 * v8) (fun v11 : Int32 =>
    pl (v10 + v11) (fun v12 : Int32 =>
    pl (v9 * v12) (fun v13 : Int32 =>
    pl (x4 + v13) (fun v14 : Int32 =>
    pl (x5 + (1 : Int32)) (fun v15 : Int32 =>
    rec v14 v15))))))))))))))))))
def fX3_costOf (n : Nat) (M : mh_M) (a0 : Int32) (a1 : Int32) (a2 : Int32) : Option (Int32) :=
  itr2 (fX3_costOf_L6 n M a0 a1 a2) n (0 : Int32) (0 : Int32)
def fX3_par_L14 (n : Nat) (M : mh_M) (x1 : Int32) (x2 : Int32) (rec : Int32 → Int32 → Int32 → Option (Int32)) (x3 : Int32) (x4 : Int32) (x5 : Int32) : Option (Int32) :=
  (if (200 : Int32) < x5 then
    some x3
  else
    bd (fX3_costOf n M x5 x1 x2) (fun v3 : Int32 =>
    (if x4 ≤ v3 then
      pl (x5 + (1 : Int32)) (fun v5 : Int32 =>
      rec x3 x4 v5)
    else
      pl (x5 + (1 : Int32)) (fun v6 : Int32 =>
      rec x5 v3 v6))))
def fX3_par (n : Nat) (M : mh_M) (a0 : Int32) (a1 : Int32) : Option (Int32) :=
  bd (fX3_costOf n M (0 : Int32) a0 a1) (fun v1 : Int32 =>
  itr3 (fX3_par_L14 n M a0 a1) n (0 : Int32) v1 (1 : Int32))
def fX4_found (n : Nat) (M : mh_M) (q0 : Nat) (a0 : Int32) (a1 : Int32) : Option (Int32) :=
  pl (M 20 q0 1) (fun v1 : Int32 =>
  pl (v1 * a0) (fun v2 : Int32 =>
  pl (M 20 q0 0) (fun v3 : Int32 =>
  pl (a1 - v3) (fun v4 : Int32 =>
  pl (if (0 : Int32) < v4 then v4 else (0 : Int32)) (fun v5 : Int32 =>
  pl ((100 : Int32) * v5) (fun v6 : Int32 =>
  pl (M 20 q0 2) (fun v7 : Int32 =>
  ck (!decide (v7 = 0)) (pl (v6 / v7) (fun v8 : Int32 =>
  pl (v2 + v8) (fun v9 : Int32 =>
  some v9))))))))))
def fX4_mlOfScale (n : Nat) (M : mh_M) (q0 : Nat) (a0 : Int32) : Option (Int32) :=
  pl ((100 : Int32) * a0) (fun v1 : Int32 =>
  pl (M 20 q0 2) (fun v2 : Int32 =>
  pl (v1 + v2) (fun v3 : Int32 =>
  pl (v3 - (1 : Int32)) (fun v4 : Int32 =>
  pl (M 20 q0 2) (fun v5 : Int32 =>
  ck (!decide (v5 = 0)) (pl (v4 / v5) (fun v6 : Int32 =>
  some v6)))))))
def fX4_move (n : Nat) (M : mh_M) (q0 : Nat) (a0 : Int32) (a1 : Int32) (a2 : Int32) : Option (mh_M) :=
  (if a0 = 0 then
    pl (M 20 q0 3) (fun v2 : Int32 =>
    pl (v2 + a2) (fun v3 : Int32 =>
    pl (mh_up M 20 q0 3 v3) (fun M4 : mh_M =>
    pl (M4 20 q0 4) (fun v5 : Int32 =>
    pl (v5 + a2) (fun v6 : Int32 =>
    pl (mh_up M4 20 q0 4 v6) (fun M7 : mh_M =>
    some M7))))))
  else
  (if a0 = 1 then
    pl (M 20 q0 3) (fun v9 : Int32 =>
    pl (v9 - a2) (fun v10 : Int32 =>
    pl (mh_up M 20 q0 3 v10) (fun M11 : mh_M =>
    ck (inb a1 2) (pl (M11 21 q0 a1.toNatClampNeg) (fun v12 : Int32 =>
    pl (M11 20 q0 1) (fun v13 : Int32 =>
    pl (a2 * v13) (fun v14 : Int32 =>
    pl (v12 + v14) (fun v15 : Int32 =>
    ck (inb a1 2) (pl (mh_up M11 21 q0 a1.toNatClampNeg v15) (fun M16 : mh_M =>
    some M16))))))))))
  else
  (if a0 = 2 then
    ck (inb a1 2) (pl (M 21 q0 a1.toNatClampNeg) (fun v18 : Int32 =>
    pl (v18 - a2) (fun v19 : Int32 =>
    ck (inb a1 2) (pl (mh_up M 21 q0 a1.toNatClampNeg v19) (fun M20 : mh_M =>
    pl ((1 : Int32) - a1) (fun v21 : Int32 =>
    ck (inb v21 2) (pl (M20 21 q0 v21.toNatClampNeg) (fun v22 : Int32 =>
    pl (v22 + a2) (fun v23 : Int32 =>
    ck (inb v21 2) (pl (mh_up M20 21 q0 v21.toNatClampNeg v23) (fun M24 : mh_M =>
    some M24)))))))))))
  else
    ck (inb a1 2) (pl (M 21 q0 a1.toNatClampNeg) (fun v25 : Int32 =>
    pl (v25 - a2) (fun v26 : Int32 =>
    ck (inb a1 2) (pl (mh_up M 21 q0 a1.toNatClampNeg v26) (fun M27 : mh_M =>
    pl (a0 - (3 : Int32)) (fun v28 : Int32 =>
    ck (inb v28 4) (pl (M27 22 q0 v28.toNatClampNeg) (fun v29 : Int32 =>
    pl (v29 + a2) (fun v30 : Int32 =>
    ck (inb v28 4) (pl (mh_up M27 22 q0 v28.toNatClampNeg v30) (fun M31 : mh_M =>
    some M31))))))))))))))
def fX5_hasDay (n : Nat) (M : mh_M) (q0 : Nat) (a0 : Int32) : Option (Int32) :=
  pl (M 31 q0 0) (fun v1 : Int32 =>
  pl (v1 >>> (a0 &&& 31)) (fun v2 : Int32 =>
  pl (v2 &&& (1 : Int32)) (fun v3 : Int32 =>
  (if v3 = (1 : Int32) then
    some (1 : Int32)
  else
    some (0 : Int32)))))
def fX5_holds (n : Nat) (M : mh_M) (q0 : Nat) (a0 : Int32) (a1 : Int32) : Option (Int32) :=
  pl (M 31 q0 1) (fun v1 : Int32 =>
  pl (M 31 q0 2) (fun v2 : Int32 =>
  (if v2 ≤ v1 then
    (if a0 = 0 then
      bd (fX5_hasDay n M q0 a0) (fun v18 : Int32 =>
      (if v18 = 0 then
        bd (fX5_hasDay n M q0 (6 : Int32)) (fun v20 : Int32 =>
        (if v20 = 0 then
          some (0 : Int32)
        else
          pl (M 31 q0 2) (fun v22 : Int32 =>
          (if v22 ≤ a1 then
            some (0 : Int32)
          else
            some (1 : Int32)))))
      else
        pl (M 31 q0 1) (fun v24 : Int32 =>
        (if v24 ≤ a1 then
          some (1 : Int32)
        else
          bd (fX5_hasDay n M q0 (6 : Int32)) (fun v26 : Int32 =>
          (if v26 = 0 then
            some (0 : Int32)
          else
            pl (M 31 q0 2) (fun v28 : Int32 =>
            (if v28 ≤ a1 then
              some (0 : Int32)
            else
              some (1 : Int32)))))))))
    else
      pl (a0 - (1 : Int32)) (fun v5 : Int32 =>
      bd (fX5_hasDay n M q0 a0) (fun v6 : Int32 =>
      (if v6 = 0 then
        bd (fX5_hasDay n M q0 v5) (fun v8 : Int32 =>
        (if v8 = 0 then
          some (0 : Int32)
        else
          pl (M 31 q0 2) (fun v10 : Int32 =>
          (if v10 ≤ a1 then
            some (0 : Int32)
          else
            some (1 : Int32)))))
      else
        pl (M 31 q0 1) (fun v12 : Int32 =>
        (if v12 ≤ a1 then
          some (1 : Int32)
        else
          bd (fX5_hasDay n M q0 v5) (fun v14 : Int32 =>
          (if v14 = 0 then
            some (0 : Int32)
          else
            pl (M 31 q0 2) (fun v16 : Int32 =>
            (if v16 ≤ a1 then
              some (0 : Int32)
            else
              some (1 : Int32)))))))))))
  else
    bd (fX5_hasDay n M q0 a0) (fun v30 : Int32 =>
    (if v30 = 0 then
      some (0 : Int32)
    else
      pl (M 31 q0 1) (fun v32 : Int32 =>
      (if a1 < v32 then
        some (0 : Int32)
      else
        pl (M 31 q0 2) (fun v34 : Int32 =>
        (if v34 ≤ a1 then
          some (0 : Int32)
        else
          some (1 : Int32))))))))))
def fX6_putParts (n : Nat) (M : mh_M) (q0 : Nat) (a0 : Int32) (a1 : Int32) : Option (mh_M × Int32) :=
  ck (inb a0 10) (pl (M 24 q0 a0.toNatClampNeg) (fun v1 : Int32 =>
  ck (inb a0 10) (pl (mh_up M 24 q0 a0.toNatClampNeg a1) (fun M2 : mh_M =>
  (if a1 ≤ 0 then
    pl (M2 23 q0 2) (fun v4 : Int32 =>
    pl ((1 : Int32) <<< (a0 &&& 31)) (fun v5 : Int32 =>
    pl (v5 ^^^ (-1 : Int32)) (fun v6 : Int32 =>
    pl (v4 &&& v6) (fun v7 : Int32 =>
    pl (mh_up M2 23 q0 2 v7) (fun M8 : mh_M =>
    some (M8, v1))))))
  else
    pl (M2 23 q0 2) (fun v9 : Int32 =>
    pl ((1 : Int32) <<< (a0 &&& 31)) (fun v10 : Int32 =>
    pl (v9 ||| v10) (fun v11 : Int32 =>
    pl (mh_up M2 23 q0 2 v11) (fun M12 : mh_M =>
    some (M12, v1))))))))))
def fX6_canBeMadeBy (n : Nat) (M : mh_M) (q0 : Nat) (a0 : Int32) : Option (Int32) :=
  pl (M 23 q0 2) (fun v1 : Int32 =>
  (if v1 = 0 then
    some (0 : Int32)
  else
    pl (M 23 q0 2) (fun v3 : Int32 =>
    pl (a0 ^^^ (-1 : Int32)) (fun v4 : Int32 =>
    pl (v3 &&& v4) (fun v5 : Int32 =>
    (if v5 = 0 then
      some (1 : Int32)
    else
      some (0 : Int32)))))))
def fX7_isTold (n : Nat) (M : mh_M) (q0 : Nat) (a0 : Int32) : Option (Int32) :=
  ck (inb a0 10) (pl (M 27 q0 a0.toNatClampNeg) (fun v1 : Int32 =>
  (if v1 = 0 then
    some (0 : Int32)
  else
    ck (inb a0 10) (pl (M 28 q0 a0.toNatClampNeg) (fun v3 : Int32 =>
    pl (if 0 ≤ v3 then v3 else 0 - v3) (fun v4 : Int32 =>
    ck (inb a0 10) (pl (M 29 q0 a0.toNatClampNeg) (fun v5 : Int32 =>
    (if v4 ≤ v5 then
      some (0 : Int32)
    else
      some (1 : Int32))))))))))
def fX7_judges (n : Nat) (M : mh_M) (q0 : Nat) (a0 : Int32) (a1 : Int32) : Option (Int32) :=
  pl (M 25 q0 0) (fun v1 : Int32 =>
  (if v1 = a0 then
    ck (inb a1 10) (pl (M 27 q0 a1.toNatClampNeg) (fun v3 : Int32 =>
    (if v3 = 0 then
      some (0 : Int32)
    else
      ck (inb a1 10) (pl (M 26 q0 a1.toNatClampNeg) (fun v5 : Int32 =>
      (if v5 ≤ 0 then
        some (0 : Int32)
      else
        some (1 : Int32)))))))
  else
    some (0 : Int32)))
def fX8_cutShare (n : Nat) (M : mh_M) (a0 : Int32) (a1 : Int32) (a2 : Int64) : Option (Int64) :=
  pl (a1.toInt64) (fun v1 : Int64 =>
  ck (inb a0 6) (pl (M 14 0 a0.toNatClampNeg) (fun v2 : Int32 =>
  pl (v2.toInt64) (fun v3 : Int64 =>
  pl (v1 * v3) (fun v4 : Int64 =>
  ck (!decide (a2 = 0)) (pl (v4 / a2) (fun v5 : Int64 =>
  some v5)))))))
def fX8_rest (n : Nat) (M : mh_M) (a0 : Int32) (a1 : Int32) (a2 : Int64) : Option (Int64) :=
  pl (a1.toInt64) (fun v1 : Int64 =>
  ck (inb a0 6) (pl (M 14 0 a0.toNatClampNeg) (fun v2 : Int32 =>
  pl (v2.toInt64) (fun v3 : Int64 =>
  pl (v1 * v3) (fun v4 : Int64 =>
  ck (!decide (a2 = 0)) (pl (v4 - v4 / a2 * a2) (fun v5 : Int64 =>
  some v5)))))))
def fX8_aheadOf_L15 (n : Nat) (M : mh_M) (x1 : Int32) (x2 : Int32) (x3 : Int64) (x5 : Int64) (rec : Int32 → Int32 → Option (Int32)) (x7 : Int32) (x8 : Int32) : Option (Int32) :=
  (if (6 : Int32) ≤ x8 then
    some x7
  else
    bd (fX8_rest n M x8 x2 x3) (fun v3 : Int64 =>
    pl (lg_cmp v3 x5) (fun v4 : Int32 =>
    (if 0 < v4 then
      pl (x7 + (1 : Int32)) (fun v6 : Int32 =>
      pl (x8 + (1 : Int32)) (fun v7 : Int32 =>
      rec v6 v7))
    else
      pl (lg_cmp v3 x5) (fun v8 : Int32 =>
      (if v8 = 0 then
        (if x1 ≤ x8 then
          pl (x8 + (1 : Int32)) (fun v12 : Int32 =>
          rec x7 v12)
        else
          pl (x7 + (1 : Int32)) (fun v13 : Int32 =>
          pl (x8 + (1 : Int32)) (fun v14 : Int32 =>
          rec v13 v14)))
      else
        pl (x8 + (1 : Int32)) (fun v10 : Int32 =>
        rec x7 v10)))))))
def fX8_aheadOf (n : Nat) (M : mh_M) (a0 : Int32) (a1 : Int32) (a2 : Int64) : Option (Int32) :=
  bd (fX8_rest n M a0 a1 a2) (fun v1 : Int64 =>
  itr2 (fX8_aheadOf_L15 n M a0 a1 a2 v1) n (0 : Int32) (0 : Int32))
def fX8_shareOf_L45 (n : Nat) (M : mh_M) (x1 : Int32) (x2 : Int32) (x3 : Int64) (rec : Int64 → Int32 → Option (Int32)) (x5 : Int64) (x7 : Int32) : Option (Int32) :=
  (if (6 : Int32) ≤ x7 then
    bd (fX8_aheadOf n M x1 x2 x3) (fun v6 : Int32 =>
    pl (v6.toInt64) (fun v7 : Int64 =>
    pl (lg_cmp v7 x5) (fun v8 : Int32 =>
    (if 0 ≤ v8 then
      bd (fX8_cutShare n M x1 x2 x3) (fun v10 : Int64 =>
      pl (v10.toInt32) (fun v11 : Int32 =>
      (if (0 : Int32) = 0 then
        pl (v11 + (0 : Int32)) (fun v13 : Int32 =>
        some v13)
      else
        pl (v11 + (1 : Int32)) (fun v14 : Int32 =>
        some v14))))
    else
      bd (fX8_cutShare n M x1 x2 x3) (fun v15 : Int64 =>
      pl (v15.toInt32) (fun v16 : Int32 =>
      (if (1 : Int32) = 0 then
        pl (v16 + (0 : Int32)) (fun v18 : Int32 =>
        some v18)
      else
        pl (v16 + (1 : Int32)) (fun v19 : Int32 =>
        some v19))))))))
  else
    bd (fX8_cutShare n M x7 x2 x3) (fun v20 : Int64 =>
    pl (x5 - v20) (fun v21 : Int64 =>
    pl (x7 + (1 : Int32)) (fun v22 : Int32 =>
    rec v21 v22))))
def fX8_shareOf_L5 (n : Nat) (M : mh_M) (x1 : Int32) (x2 : Int32) (rec : Int64 → Int32 → Option (Int32)) (x3 : Int64) (x5 : Int32) : Option (Int32) :=
  (if (6 : Int32) ≤ x5 then
    pl (lg_cmp x3 (0 : Int64)) (fun v2 : Int32 =>
    (if v2 = 0 then
      some (-2 : Int32)
    else
      pl (x2.toInt64) (fun v4 : Int64 =>
      itr2 (fX8_shareOf_L45 n M x1 x2 x3) n v4 (0 : Int32))))
  else
    ck (inb x5 6) (pl (M 14 0 x5.toNatClampNeg) (fun v23 : Int32 =>
    pl (v23.toInt64) (fun v24 : Int64 =>
    pl (x3 + v24) (fun v25 : Int64 =>
    pl (x5 + (1 : Int32)) (fun v26 : Int32 =>
    rec v25 v26))))))
def fX8_shareOf (n : Nat) (M : mh_M) (a0 : Int32) (a1 : Int32) : Option (Int32) :=
  itr2 (fX8_shareOf_L5 n M a0 a1) n (0 : Int64) (0 : Int32)
def fJ6_bitCount_0f7a4 (n : Nat) (M : mh_M) (a0 : Int32) : Option (Int32) :=
  pl ((a0.toUInt32 >>> ((1 : Int32).toUInt32 &&& Int32.toUInt32 31)).toInt32) (fun v1 : Int32 =>
  pl (v1 &&& (1431655765 : Int32)) (fun v2 : Int32 =>
  pl (a0 - v2) (fun v3 : Int32 =>
  pl (v3 &&& (858993459 : Int32)) (fun v4 : Int32 =>
  pl ((v3.toUInt32 >>> ((2 : Int32).toUInt32 &&& Int32.toUInt32 31)).toInt32) (fun v5 : Int32 =>
  pl (v5 &&& (858993459 : Int32)) (fun v6 : Int32 =>
  pl (v4 + v6) (fun v7 : Int32 =>
  pl ((v7.toUInt32 >>> ((4 : Int32).toUInt32 &&& Int32.toUInt32 31)).toInt32) (fun v8 : Int32 =>
  pl (v7 + v8) (fun v9 : Int32 =>
  pl (v9 &&& (252645135 : Int32)) (fun v10 : Int32 =>
  pl ((v10.toUInt32 >>> ((8 : Int32).toUInt32 &&& Int32.toUInt32 31)).toInt32) (fun v11 : Int32 =>
  pl (v10 + v11) (fun v12 : Int32 =>
  pl ((v12.toUInt32 >>> ((16 : Int32).toUInt32 &&& Int32.toUInt32 31)).toInt32) (fun v13 : Int32 =>
  pl (v12 + v13) (fun v14 : Int32 =>
  pl (v14 &&& (63 : Int32)) (fun v15 : Int32 =>
  some v15)))))))))))))))
def fX9_isIn (n : Nat) (M : mh_M) (a0 : Int32) (a1 : Int32) (a2 : Int32) : Option (Int32) :=
  (if a0 < a1 then
    some (0 : Int32)
  else
    (if a2 < a0 then
      some (0 : Int32)
    else
      some (1 : Int32)))
theorem bX9_isIn {n : Nat} {M : mh_M} {a0 a1 a2 : Int32} {q : Int32} (h : fX9_isIn n M a0 a1 a2 = some q) : narrow .boolean (.int q) = .int q := by
  unfold fX9_isIn at h
  split at h
  · cases h; rfl
  · split at h
    · cases h; rfl
    · cases h; rfl
def fX9_kind (n : Nat) (M : mh_M) (a0 : Int32) (a1 : Int32) (a2 : Int32) : Option (mh_M × Int32) :=
  bd (fX9_isIn n M a0 (0 : Int32) (2000 : Int32)) (fun v1 : Int32 =>
  (if v1 = 0 then
    some (M, (-1 : Int32))
  else
    bd (fX9_isIn n M a1 (100 : Int32) (2000 : Int32)) (fun v3 : Int32 =>
    (if v3 = 0 then
      some (M, (-1 : Int32))
    else
      bd (fX9_isIn n M a2 (50 : Int32) (150 : Int32)) (fun v5 : Int32 =>
      (if v5 = 0 then
        some (M, (-1 : Int32))
      else
        pl (M 0 0 1) (fun v7 : Int32 =>
        (if v7 < (10 : Int32) then
          pl (M 0 0 1) (fun v9 : Int32 =>
          ck (inb v9 10) (pl v9.toNatClampNeg (fun q10 : Nat =>
          pl (mh_up M 20 q10 0 a0) (fun M11 : mh_M =>
          pl (mh_up M11 20 q10 1 a1) (fun M12 : mh_M =>
          pl (mh_up M12 20 q10 2 a2) (fun M13 : mh_M =>
          pl (M13 0 0 1) (fun v14 : Int32 =>
          pl (v14 + (1 : Int32)) (fun v15 : Int32 =>
          pl (mh_up M13 0 0 1 v15) (fun M16 : mh_M =>
          pl (M16 0 0 1) (fun v17 : Int32 =>
          pl (v17 - (1 : Int32)) (fun v18 : Int32 =>
          some (M16, v18))))))))))))
        else
          some (M, (-3 : Int32))))))))))
def fX9_recipe (n : Nat) (M : mh_M) (a0 : Int32) : Option (mh_M × Int32) :=
  bd (fX9_isIn n M a0 (0 : Int32) (10000 : Int32)) (fun v1 : Int32 =>
  (if v1 = 0 then
    some (M, (-1 : Int32))
  else
    pl (M 0 0 3) (fun v3 : Int32 =>
    (if v3 < (12 : Int32) then
      pl (M 0 0 3) (fun v5 : Int32 =>
      ck (inb v5 12) (pl v5.toNatClampNeg (fun q6 : Nat =>
      pl (mh_up M 23 q6 0 a0) (fun M7 : mh_M =>
      pl (M7 0 0 3) (fun v8 : Int32 =>
      pl (v8 + (1 : Int32)) (fun v9 : Int32 =>
      pl (mh_up M7 0 0 3 v9) (fun M10 : mh_M =>
      pl (M10 0 0 3) (fun v11 : Int32 =>
      pl (v11 - (1 : Int32)) (fun v12 : Int32 =>
      some (M10, v12))))))))))
    else
      some (M, (-3 : Int32))))))
def fX9_isRecipe (n : Nat) (M : mh_M) (a0 : Int32) : Option (Int32) :=
  pl (M 0 0 3) (fun v1 : Int32 =>
  pl (v1 - (1 : Int32)) (fun v2 : Int32 =>
  bd (fX9_isIn n M a0 (0 : Int32) v2) (fun v3 : Int32 =>
  some v3)))
def fX9_isKind (n : Nat) (M : mh_M) (a0 : Int32) : Option (Int32) :=
  pl (M 0 0 1) (fun v1 : Int32 =>
  pl (v1 - (1 : Int32)) (fun v2 : Int32 =>
  bd (fX9_isIn n M a0 (0 : Int32) v2) (fun v3 : Int32 =>
  some v3)))
def fX9_part (n : Nat) (M : mh_M) (a0 : Int32) (a1 : Int32) (a2 : Int32) : Option (mh_M × Int32) :=
  bd (fX9_isRecipe n M a0) (fun v1 : Int32 =>
  (if v1 = 0 then
    some (M, (-1 : Int32))
  else
    bd (fX9_isKind n M a1) (fun v3 : Int32 =>
    (if v3 = 0 then
      some (M, (-1 : Int32))
    else
      bd (fX9_isIn n M a2 (0 : Int32) (20 : Int32)) (fun v5 : Int32 =>
      (if v5 = 0 then
        some (M, (-1 : Int32))
      else
        ck (inb a0 12) (pl a0.toNatClampNeg (fun q7 : Nat =>
        pl (M 23 q7 1) (fun v8 : Int32 =>
        pl (M 0 0 6) (fun v9 : Int32 =>
        (if v8 = v9 then
          some (M, (-2 : Int32))
        else
          ck (inb a0 12) (pl a0.toNatClampNeg (fun q11 : Nat =>
          bd2 (fX6_putParts n M q11 a1 a2) (fun (M12 : mh_M) (v13 : Int32) =>
          some (M12, v13)))))))))))))))
def fX9_rule (n : Nat) (M : mh_M) (a0 : Int32) (a1 : Int32) : Option (mh_M × Int32) :=
  pl ((7 : Int32) - (1 : Int32)) (fun v1 : Int32 =>
  bd (fX9_isIn n M a0 (0 : Int32) v1) (fun v2 : Int32 =>
  (if v2 = 0 then
    some (M, (-1 : Int32))
  else
    ck (inb a0 7) (pl (mh_most a0.toNatClampNeg) (fun v4 : Int32 =>
    bd (fX9_isIn n M a1 (0 : Int32) v4) (fun v5 : Int32 =>
    (if v5 = 0 then
      some (M, (-1 : Int32))
    else
      ck (inb a0 7) (pl (M 3 0 a0.toNatClampNeg) (fun v7 : Int32 =>
      ck (inb a0 7) (pl (mh_up M 3 0 a0.toNatClampNeg a1) (fun M8 : mh_M =>
      some (M8, v7))))))))))))
def fX9_sheetOf (n : Nat) (M : mh_M) (a0 : Int32) (a1 : Int32) : Option (Nat) :=
  pl (a0 * (2 : Int32)) (fun v1 : Int32 =>
  pl (v1 + a1) (fun v2 : Int32 =>
  ck (inb v2 40) (pl v2.toNatClampNeg (fun q3 : Nat =>
  some q3))))
theorem bX9_sheetOf {n : Nat} {M : mh_M} {a0 a1 : Int32} {q : Nat} (h : fX9_sheetOf n M a0 a1 = some q) : q < 40 := by
  unfold fX9_sheetOf at h
  simp only [pl] at h
  obtain ⟨h1, h2⟩ := ck_some h
  cases h2
  exact inb_lt h1
def fX9_applySale_L14 (n : Nat) (r1 : Nat) (r2 : Nat) (x3 : Int32) (r4 : Nat) (rec : mh_M → Int32 → Option (mh_M)) (M : mh_M) (x5 : Int32) : Option (mh_M) :=
  pl (M 0 0 1) (fun v3 : Int32 =>
  (if v3 ≤ x5 then
    pl (M 30 r1 1) (fun v5 : Int32 =>
    ck (inb v5 2) (pl (M 7 0 v5.toNatClampNeg) (fun v6 : Int32 =>
    pl (M 30 r1 4) (fun v7 : Int32 =>
    pl (x3 * v7) (fun v8 : Int32 =>
    pl (v6 + v8) (fun v9 : Int32 =>
    ck (inb v5 2) (pl (mh_up M 7 0 v5.toNatClampNeg v9) (fun M10 : mh_M =>
    some M10))))))))
  else
    ck (inb x5 10) (pl (M 24 r4 x5.toNatClampNeg) (fun v11 : Int32 =>
    (if v11 ≤ 0 then
      pl (x5 + (1 : Int32)) (fun v13 : Int32 =>
      rec M v13)
    else
      ck (inb x5 10) (pl x5.toNatClampNeg (fun q14 : Nat =>
      pl (M 30 r1 1) (fun v15 : Int32 =>
      pl (M 30 r1 3) (fun v16 : Int32 =>
      pl (x3 * v16) (fun v17 : Int32 =>
      ck (inb x5 10) (pl (M 24 r4 x5.toNatClampNeg) (fun v18 : Int32 =>
      pl (v17 * v18) (fun v19 : Int32 =>
      pl (v19 * (6 : Int32)) (fun v20 : Int32 =>
      bd (fX4_move n M q14 (3 : Int32) v15 v20) (fun M21 : mh_M =>
      ck (inb x5 10) (pl (M21 26 r2 x5.toNatClampNeg) (fun v22 : Int32 =>
      pl (M21 30 r1 3) (fun v23 : Int32 =>
      pl (x3 * v23) (fun v24 : Int32 =>
      pl (v22 + v24) (fun v25 : Int32 =>
      ck (inb x5 10) (pl (mh_up M21 26 r2 x5.toNatClampNeg v25) (fun M26 : mh_M =>
      pl (x5 + (1 : Int32)) (fun v27 : Int32 =>
      rec M26 v27)))))))))))))))))))))))
def fX9_applySale (n : Nat) (M : mh_M) (a0 : Nat) (a1 : Nat) (a2 : Int32) : Option (mh_M) :=
  pl (M 30 a0 2) (fun v1 : Int32 =>
  ck (inb v1 12) (pl v1.toNatClampNeg (fun q2 : Nat =>
  itr2 (fX9_applySale_L14 n a0 a1 a2 q2) n M (0 : Int32))))
def fX9_apply (n : Nat) (M : mh_M) (a0 : Nat) (a1 : Int32) : Option (mh_M) :=
  pl (M 0 0 6) (fun v1 : Int32 =>
  pl (M 30 a0 1) (fun v2 : Int32 =>
  bd (fX9_sheetOf n M v1 v2) (fun q3 : Nat =>
  pl (M 30 a0 0) (fun v4 : Int32 =>
  (if v4 = (3 : Int32) then
    bd (fX9_applySale n M a0 q3 a1) (fun M39 : mh_M =>
    some M39)
  else
    pl (M 30 a0 0) (fun v6 : Int32 =>
    (if v6 = (6 : Int32) then
      pl (M 30 a0 2) (fun v15 : Int32 =>
      (if a1 ≤ 0 then
        ck (inb v15 10) (pl (mh_up M 27 q3 v15.toNatClampNeg (vp_nar .boolean (0 : Int32))) (fun M17 : mh_M =>
        pl (M17 30 a0 2) (fun v18 : Int32 =>
        pl (M17 30 a0 3) (fun v19 : Int32 =>
        ck (inb v18 10) (pl (mh_up M17 28 q3 v18.toNatClampNeg v19) (fun M20 : mh_M =>
        pl (M20 30 a0 2) (fun v21 : Int32 =>
        ck (inb v21 10) (pl v21.toNatClampNeg (fun q22 : Nat =>
        pl (M20 30 a0 0) (fun v23 : Int32 =>
        pl (M20 30 a0 1) (fun v24 : Int32 =>
        pl (M20 30 a0 3) (fun v25 : Int32 =>
        pl (a1 * v25) (fun v26 : Int32 =>
        bd (fX4_move n M20 q22 v23 v24 v26) (fun M27 : mh_M =>
        some M27))))))))))))))
      else
        ck (inb v15 10) (pl (mh_up M 27 q3 v15.toNatClampNeg (vp_nar .boolean (1 : Int32))) (fun M28 : mh_M =>
        pl (M28 30 a0 2) (fun v29 : Int32 =>
        pl (M28 30 a0 3) (fun v30 : Int32 =>
        ck (inb v29 10) (pl (mh_up M28 28 q3 v29.toNatClampNeg v30) (fun M31 : mh_M =>
        pl (M31 30 a0 2) (fun v32 : Int32 =>
        ck (inb v32 10) (pl v32.toNatClampNeg (fun q33 : Nat =>
        pl (M31 30 a0 0) (fun v34 : Int32 =>
        pl (M31 30 a0 1) (fun v35 : Int32 =>
        pl (M31 30 a0 3) (fun v36 : Int32 =>
        pl (a1 * v36) (fun v37 : Int32 =>
        bd (fX4_move n M31 q33 v34 v35 v37) (fun M38 : mh_M =>
        some M38))))))))))))))))
    else
      pl (M 30 a0 2) (fun v8 : Int32 =>
      ck (inb v8 10) (pl v8.toNatClampNeg (fun q9 : Nat =>
      pl (M 30 a0 0) (fun v10 : Int32 =>
      pl (M 30 a0 1) (fun v11 : Int32 =>
      pl (M 30 a0 3) (fun v12 : Int32 =>
      pl (a1 * v12) (fun v13 : Int32 =>
      bd (fX4_move n M q9 v10 v11 v13) (fun M14 : mh_M =>
      some M14)))))))))))))))
def fX9_carryOut (n : Nat) (M : mh_M) (a0 : Int32) (a1 : Int32) (a2 : Int32) (a3 : Int32) (a4 : Int32) : Option (mh_M) :=
  bd2 (fX1_nextRow n M) (fun (M1 : mh_M) (q2 : Nat) =>
  pl (mh_up M1 30 q2 0 a0) (fun M3 : mh_M =>
  pl (mh_up M3 30 q2 1 a1) (fun M4 : mh_M =>
  pl (mh_up M4 30 q2 2 a2) (fun M5 : mh_M =>
  pl (mh_up M5 30 q2 3 a3) (fun M6 : mh_M =>
  pl (mh_up M6 30 q2 4 a4) (fun M7 : mh_M =>
  bd (fX9_apply n M7 q2 (1 : Int32)) (fun M8 : mh_M =>
  some M8)))))))
def fX9_receive (n : Nat) (M : mh_M) (a0 : Int32) (a1 : Int32) : Option (mh_M × Int32) :=
  bd (fX9_isKind n M a0) (fun v1 : Int32 =>
  (if v1 = 0 then
    some (M, (-1 : Int32))
  else
    bd (fX9_isIn n M a1 (1 : Int32) (100 : Int32)) (fun v3 : Int32 =>
    (if v3 = 0 then
      some (M, (-1 : Int32))
    else
      ck (inb a0 10) (pl a0.toNatClampNeg (fun q5 : Nat =>
      pl (M 20 q5 3) (fun v6 : Int32 =>
      pl (v6 + a1) (fun v7 : Int32 =>
      (if v7 ≤ (1000 : Int32) then
        bd (fX9_carryOut n M (0 : Int32) (0 : Int32) a0 a1 (0 : Int32)) (fun M9 : mh_M =>
        ck (inb a0 10) (pl a0.toNatClampNeg (fun q10 : Nat =>
        pl (M9 20 q10 3) (fun v11 : Int32 =>
        some (M9, v11)))))
      else
        some (M, (-3 : Int32)))))))))))
def fX9_isBar (n : Nat) (M : mh_M) (a0 : Int32) : Option (Int32) :=
  bd (fX9_isIn n M a0 (0 : Int32) (1 : Int32)) (fun v1 : Int32 =>
  some v1)
def fX9_issue (n : Nat) (M : mh_M) (a0 : Int32) (a1 : Int32) (a2 : Int32) : Option (mh_M × Int32) :=
  bd (fX9_isBar n M a0) (fun v1 : Int32 =>
  (if v1 = 0 then
    some (M, (-1000000000 : Int32))
  else
    bd (fX9_isKind n M a1) (fun v3 : Int32 =>
    (if v3 = 0 then
      some (M, (-1000000000 : Int32))
    else
      bd (fX9_isIn n M a2 (1 : Int32) (100 : Int32)) (fun v5 : Int32 =>
      (if v5 = 0 then
        some (M, (-1000000000 : Int32))
      else
        ck (inb a1 10) (pl a1.toNatClampNeg (fun q7 : Nat =>
        pl (M 20 q7 3) (fun v8 : Int32 =>
        (if a2 ≤ v8 then
          bd (fX9_carryOut n M (1 : Int32) a0 a1 a2 (0 : Int32)) (fun M10 : mh_M =>
          ck (inb a1 10) (pl a1.toNatClampNeg (fun q11 : Nat =>
          ck (inb a0 2) (pl (M10 21 q11 a0.toNatClampNeg) (fun v12 : Int32 =>
          some (M10, v12))))))
        else
          some (M, (-1000000002 : Int32))))))))))))
def fX9_lend (n : Nat) (M : mh_M) (a0 : Int32) (a1 : Int32) (a2 : Int32) : Option (mh_M × Int32) :=
  bd (fX9_isBar n M a0) (fun v1 : Int32 =>
  (if v1 = 0 then
    some (M, (-1000000000 : Int32))
  else
    bd (fX9_isKind n M a1) (fun v3 : Int32 =>
    (if v3 = 0 then
      some (M, (-1000000000 : Int32))
    else
      bd (fX9_isIn n M a2 (1 : Int32) (10000 : Int32)) (fun v5 : Int32 =>
      (if v5 = 0 then
        some (M, (-1000000000 : Int32))
      else
        ck (inb a1 10) (pl a1.toNatClampNeg (fun q7 : Nat =>
        ck (inb a0 2) (pl (M 21 q7 a0.toNatClampNeg) (fun v8 : Int32 =>
        (if a2 ≤ v8 then
          bd (fX9_carryOut n M (2 : Int32) a0 a1 a2 (0 : Int32)) (fun M10 : mh_M =>
          ck (inb a1 10) (pl a1.toNatClampNeg (fun q11 : Nat =>
          pl ((1 : Int32) - a0) (fun v12 : Int32 =>
          ck (inb v12 2) (pl (M10 21 q11 v12.toNatClampNeg) (fun v13 : Int32 =>
          some (M10, v13)))))))
        else
          some (M, (-1000000002 : Int32)))))))))))))
def fX9_isTime (n : Nat) (M : mh_M) (a0 : Int32) (a1 : Int32) : Option (Int32) :=
  bd (fX9_isIn n M a0 (0 : Int32) (6 : Int32)) (fun v1 : Int32 =>
  (if v1 = 0 then
    some (0 : Int32)
  else
    bd (fX9_isIn n M a1 (0 : Int32) (1439 : Int32)) (fun v3 : Int32 =>
    (if v3 = 0 then
      some (0 : Int32)
    else
      some (1 : Int32)))))
def fX9_priceAt_L19 (n : Nat) (M : mh_M) (x2 : Int32) (x3 : Int32) (x4 : Int32) (rec : Int32 → Option (Int32)) (x5 : Int32) : Option (Int32) :=
  (if x5 < 0 then
    ck (inb (4 : Int32) 7) (pl (M 3 0 (4 : Int32).toNatClampNeg) (fun v6 : Int32 =>
    pl (if v6 < x4 then x4 else v6) (fun v7 : Int32 =>
    some v7)))
  else
    ck (inb x5 12) (pl x5.toNatClampNeg (fun q8 : Nat =>
    bd (fX5_holds n M q8 x2 x3) (fun v9 : Int32 =>
    (if v9 = 0 then
      pl (x5 + (-1 : Int32)) (fun v11 : Int32 =>
      rec v11)
    else
      ck (inb (4 : Int32) 7) (pl (M 3 0 (4 : Int32).toNatClampNeg) (fun v12 : Int32 =>
      ck (inb x5 12) (pl x5.toNatClampNeg (fun q13 : Nat =>
      pl (M 31 q13 3) (fun v14 : Int32 =>
      pl (x4 * v14) (fun v15 : Int32 =>
      ck (!decide ((100 : Int32) = 0)) (pl (v15 / (100 : Int32)) (fun v16 : Int32 =>
      pl (if v12 < v16 then v16 else v12) (fun v17 : Int32 =>
      some v17))))))))))))))
def fX9_priceAt (n : Nat) (M : mh_M) (a0 : Int32) (a1 : Int32) (a2 : Int32) : Option (Int32) :=
  ck (inb a0 12) (pl a0.toNatClampNeg (fun q1 : Nat =>
  pl (M 23 q1 0) (fun v2 : Int32 =>
  pl (M 0 0 11) (fun v3 : Int32 =>
  pl (v3 - (1 : Int32)) (fun v4 : Int32 =>
  itr1 (fX9_priceAt_L19 n M a1 a2 v2) n v4)))))
def fX9_sell (n : Nat) (M : mh_M) (a0 : Int32) (a1 : Int32) (a2 : Int32) (a3 : Int32) (a4 : Int32) : Option (mh_M × Int32) :=
  bd (fX9_isBar n M a0) (fun v1 : Int32 =>
  (if v1 = 0 then
    some (M, (-1 : Int32))
  else
    bd (fX9_isRecipe n M a1) (fun v3 : Int32 =>
    (if v3 = 0 then
      some (M, (-1 : Int32))
    else
      bd (fX9_isIn n M a2 (1 : Int32) (100 : Int32)) (fun v5 : Int32 =>
      (if v5 = 0 then
        some (M, (-1 : Int32))
      else
        bd (fX9_isTime n M a3 a4) (fun v7 : Int32 =>
        (if v7 = 0 then
          some (M, (-1 : Int32))
        else
          bd (fX9_priceAt n M a1 a3 a4) (fun v9 : Int32 =>
          pl (a2 * v9) (fun v10 : Int32 =>
          ck (inb a1 12) (pl a1.toNatClampNeg (fun q11 : Nat =>
          pl (M 0 0 6) (fun v12 : Int32 =>
          pl (mh_up M 23 q11 1 v12) (fun M13 : mh_M =>
          bd (fX9_carryOut n M13 (3 : Int32) a0 a1 a2 v10) (fun M14 : mh_M =>
          some (M14, v10))))))))))))))))
def fX9_lose (n : Nat) (M : mh_M) (a0 : Int32) (a1 : Int32) (a2 : Int32) (a3 : Int32) : Option (mh_M × Int32) :=
  bd (fX9_isBar n M a0) (fun v1 : Int32 =>
  (if v1 = 0 then
    some (M, (-1000000000 : Int32))
  else
    bd (fX9_isKind n M a1) (fun v3 : Int32 =>
    (if v3 = 0 then
      some (M, (-1000000000 : Int32))
    else
      bd (fX9_isIn n M a2 (0 : Int32) (1 : Int32)) (fun v5 : Int32 =>
      (if v5 = 0 then
        some (M, (-1000000000 : Int32))
      else
        bd (fX9_isIn n M a3 (1 : Int32) (10000 : Int32)) (fun v7 : Int32 =>
        (if v7 = 0 then
          some (M, (-1000000000 : Int32))
        else
          (if a2 = 0 then
            bd (fX9_carryOut n M (4 : Int32) a0 a1 a3 (0 : Int32)) (fun M13 : mh_M =>
            ck (inb a1 10) (pl a1.toNatClampNeg (fun q14 : Nat =>
            ck (inb a0 2) (pl (M13 21 q14 a0.toNatClampNeg) (fun v15 : Int32 =>
            some (M13, v15))))))
          else
            bd (fX9_carryOut n M (5 : Int32) a0 a1 a3 (0 : Int32)) (fun M10 : mh_M =>
            ck (inb a1 10) (pl a1.toNatClampNeg (fun q11 : Nat =>
            ck (inb a0 2) (pl (M10 21 q11 a0.toNatClampNeg) (fun v12 : Int32 =>
            some (M10, v12)))))))))))))))
def fX9_spanNow (n : Nat) (M : mh_M) (a0 : Nat) (a1 : Int32) : Option (Int32) :=
  ck (inb a1 10) (pl a1.toNatClampNeg (fun q1 : Nat =>
  ck (inb (0 : Int32) 7) (pl (M 3 0 (0 : Int32).toNatClampNeg) (fun v2 : Int32 =>
  bd (fX4_mlOfScale n M q1 v2) (fun v3 : Int32 =>
  ck (inb (1 : Int32) 7) (pl (M 3 0 (1 : Int32).toNatClampNeg) (fun v4 : Int32 =>
  ck (inb a1 10) (pl (M 26 a0 a1.toNatClampNeg) (fun v5 : Int32 =>
  pl (v4 * v5) (fun v6 : Int32 =>
  pl (v3 + v6) (fun v7 : Int32 =>
  some v7)))))))))))
def fX9_weigh (n : Nat) (M : mh_M) (a0 : Int32) (a1 : Int32) (a2 : Int32) (a3 : Int32) : Option (mh_M × Int32) :=
  bd (fX9_isBar n M a0) (fun v1 : Int32 =>
  (if v1 = 0 then
    some (M, (-1000000000 : Int32))
  else
    bd (fX9_isKind n M a1) (fun v3 : Int32 =>
    (if v3 = 0 then
      some (M, (-1000000000 : Int32))
    else
      bd (fX9_isIn n M a2 (0 : Int32) (50 : Int32)) (fun v5 : Int32 =>
      (if v5 = 0 then
        some (M, (-1000000000 : Int32))
      else
        bd (fX9_isIn n M a3 (0 : Int32) (5000 : Int32)) (fun v7 : Int32 =>
        (if v7 = 0 then
          some (M, (-1000000000 : Int32))
        else
          pl (M 0 0 6) (fun v9 : Int32 =>
          bd (fX9_sheetOf n M v9 a0) (fun q10 : Nat =>
          ck (inb a1 10) (pl (M 27 q10 a1.toNatClampNeg) (fun v11 : Int32 =>
          (if v11 = 0 then
            ck (inb a1 10) (pl a1.toNatClampNeg (fun q13 : Nat =>
            ck (inb a0 2) (pl (M 21 q13 a0.toNatClampNeg) (fun v14 : Int32 =>
            ck (inb a1 10) (pl a1.toNatClampNeg (fun q15 : Nat =>
            bd (fX4_found n M q15 a2 a3) (fun v16 : Int32 =>
            pl (v14 - v16) (fun v17 : Int32 =>
            bd (fX9_spanNow n M q10 a1) (fun v18 : Int32 =>
            ck (inb a1 10) (pl (mh_up M 29 q10 a1.toNatClampNeg v18) (fun M19 : mh_M =>
            bd (fX9_carryOut n M19 (6 : Int32) a0 a1 v17 (0 : Int32)) (fun M20 : mh_M =>
            some (M20, v17)))))))))))))
          else
            some (M, (-1000000002 : Int32)))))))))))))))
def fX9_undo (n : Nat) (M : mh_M) : Option (mh_M × Int32) :=
  pl (M 5 0 1) (fun v1 : Int32 =>
  (if v1 = 0 then
    some (M, (-2 : Int32))
  else
    bd2 (fX1_takeLatest n M) (fun (M3 : mh_M) (q4 : Nat) =>
    bd (fX9_apply n M3 q4 (-1 : Int32)) (fun M5 : mh_M =>
    pl (M5 30 q4 0) (fun v6 : Int32 =>
    some (M5, v6))))))
def fX9_isKeeper (n : Nat) (M : mh_M) (a0 : Int32) : Option (Int32) :=
  bd (fX9_isIn n M a0 (0 : Int32) (2 : Int32)) (fun v1 : Int32 =>
  some v1)
def fX9_keeper (n : Nat) (M : mh_M) (a0 : Int32) (a1 : Int32) : Option (mh_M × Int32) :=
  bd (fX9_isBar n M a0) (fun v1 : Int32 =>
  (if v1 = 0 then
    some (M, (-1 : Int32))
  else
    bd (fX9_isKeeper n M a1) (fun v3 : Int32 =>
    (if v3 = 0 then
      some (M, (-1 : Int32))
    else
      pl (M 0 0 6) (fun v5 : Int32 =>
      bd (fX9_sheetOf n M v5 a0) (fun q6 : Nat =>
      pl (M 25 q6 0) (fun v7 : Int32 =>
      pl (mh_up M 25 q6 0 a1) (fun M8 : mh_M =>
      some (M8, v7)))))))))
def fX9_night_L14 (n : Nat) (rec : mh_M → Int32 → Option (mh_M × Int32)) (M : mh_M) (x1 : Int32) : Option (mh_M × Int32) :=
  (if (2 : Int32) ≤ x1 then
    pl (M 0 0 6) (fun v4 : Int32 =>
    pl (v4 + (1 : Int32)) (fun v5 : Int32 =>
    pl (mh_up M 0 0 6 v5) (fun M6 : mh_M =>
    pl (mh_up M6 5 0 1 (0 : Int32)) (fun M7 : mh_M =>
    pl (M7 0 0 6) (fun v8 : Int32 =>
    some (M7, v8))))))
  else
    pl (M 0 0 6) (fun v9 : Int32 =>
    pl (v9 + (1 : Int32)) (fun v10 : Int32 =>
    bd (fX9_sheetOf n M v10 x1) (fun q11 : Nat =>
    pl (M 0 0 6) (fun v12 : Int32 =>
    bd (fX9_sheetOf n M v12 x1) (fun q13 : Nat =>
    pl (M 25 q13 0) (fun v14 : Int32 =>
    pl (mh_up M 25 q11 0 v14) (fun M15 : mh_M =>
    pl (x1 + (1 : Int32)) (fun v16 : Int32 =>
    rec M15 v16)))))))))
def fX9_night (n : Nat) (M : mh_M) : Option (mh_M × Int32) :=
  pl (M 0 0 6) (fun v1 : Int32 =>
  (if v1 < (19 : Int32) then
    itr2 (fX9_night_L14 n) n M (0 : Int32)
  else
    some (M, (-3 : Int32))))
def fX9_has (n : Nat) (M : mh_M) (a0 : Int32) (a1 : Int32) : Option (Int32) :=
  bd (fX9_isIn n M a0 (0 : Int32) (2 : Int32)) (fun v1 : Int32 =>
  (if v1 = 0 then
    some (-1000000000 : Int32)
  else
    bd (fX9_isKind n M a1) (fun v3 : Int32 =>
    (if v3 = 0 then
      some (-1000000000 : Int32)
    else
      (if a0 = (2 : Int32) then
        ck (inb a1 10) (pl a1.toNatClampNeg (fun q8 : Nat =>
        pl (M 20 q8 3) (fun v9 : Int32 =>
        some v9)))
      else
        ck (inb a1 10) (pl a1.toNatClampNeg (fun q6 : Nat =>
        ck (inb a0 2) (pl (M 21 q6 a0.toNatClampNeg) (fun v7 : Int32 =>
        some v7)))))))))
def fX9_all (n : Nat) (M : mh_M) (a0 : Int32) (a1 : Int32) : Option (Int32) :=
  bd (fX9_isKind n M a0) (fun v1 : Int32 =>
  (if v1 = 0 then
    some (-1000000000 : Int32)
  else
    bd (fX9_isIn n M a1 (0 : Int32) (4 : Int32)) (fun v3 : Int32 =>
    (if v3 = 0 then
      some (-1000000000 : Int32)
    else
      (if a1 = (4 : Int32) then
        ck (inb a0 10) (pl a0.toNatClampNeg (fun q8 : Nat =>
        pl (M 20 q8 4) (fun v9 : Int32 =>
        some v9)))
      else
        ck (inb a0 10) (pl a0.toNatClampNeg (fun q6 : Nat =>
        ck (inb a1 4) (pl (M 22 q6 a1.toNatClampNeg) (fun v7 : Int32 =>
        some v7)))))))))
def fX9_gap (n : Nat) (M : mh_M) (a0 : Int32) (a1 : Int32) (a2 : Int32) (a3 : Int32) : Option (Int32) :=
  pl (M 0 0 6) (fun v1 : Int32 =>
  bd (fX9_isIn n M a0 (0 : Int32) v1) (fun v2 : Int32 =>
  (if v2 = 0 then
    some (-1000000000 : Int32)
  else
    bd (fX9_isBar n M a1) (fun v4 : Int32 =>
    (if v4 = 0 then
      some (-1000000000 : Int32)
    else
      bd (fX9_isKind n M a2) (fun v6 : Int32 =>
      (if v6 = 0 then
        some (-1000000000 : Int32)
      else
        bd (fX9_isIn n M a3 (0 : Int32) (4 : Int32)) (fun v8 : Int32 =>
        (if v8 = 0 then
          some (-1000000000 : Int32)
        else
          bd (fX9_sheetOf n M a0 a1) (fun q10 : Nat =>
          (if a3 = 0 then
            ck (inb a2 10) (pl (M 27 q10 a2.toNatClampNeg) (fun v12 : Int32 =>
            (if v12 = 0 then
              some (-1000000004 : Int32)
            else
              ck (inb a2 10) (pl (M 28 q10 a2.toNatClampNeg) (fun v14 : Int32 =>
              some v14)))))
          else
          (if a3 = 1 then
            ck (inb a2 10) (pl (M 27 q10 a2.toNatClampNeg) (fun v16 : Int32 =>
            (if v16 = 0 then
              bd (fX9_spanNow n M q10 a2) (fun v18 : Int32 =>
              some v18)
            else
              ck (inb a2 10) (pl (M 29 q10 a2.toNatClampNeg) (fun v19 : Int32 =>
              some v19)))))
          else
          (if a3 = 2 then
            bd (fX7_isTold n M q10 a2) (fun v21 : Int32 =>
            (if v21 = 0 then
              some (0 : Int32)
            else
              some (1 : Int32)))
          else
          (if a3 = 3 then
            ck (inb a2 10) (pl (M 26 q10 a2.toNatClampNeg) (fun v24 : Int32 =>
            some v24))
          else
            pl (M 25 q10 0) (fun v25 : Int32 =>
            some v25)))))))))))))))
def fX9_sheetsSoFar (n : Nat) (M : mh_M) : Option (Int32) :=
  pl (M 0 0 6) (fun v1 : Int32 =>
  pl (v1 + (1 : Int32)) (fun v2 : Int32 =>
  pl (v2 * (2 : Int32)) (fun v3 : Int32 =>
  some v3)))
def fX9_commonDivisor_L3 (n : Nat) (M : mh_M) (rec : Int64 → Int64 → Int32 → Option (Int64)) (x0 : Int64) (x2 : Int64) (x4 : Int32) : Option (Int64) :=
  (if (100 : Int32) ≤ x4 then
    pl (lg_cmp x0 (0 : Int64)) (fun v2 : Int32 =>
    (if v2 = 0 then
      some (1 : Int64)
    else
      some x0))
  else
    pl (lg_cmp x2 (0 : Int64)) (fun v4 : Int32 =>
    (if v4 = 0 then
      pl (lg_cmp x0 (0 : Int64)) (fun v6 : Int32 =>
      (if v6 = 0 then
        some (1 : Int64)
      else
        some x0))
    else
      ck (!decide (x2 = 0)) (pl (x0 - x0 / x2 * x2) (fun v8 : Int64 =>
      pl (x4 + (1 : Int32)) (fun v9 : Int32 =>
      rec x2 v8 v9))))))
def fX9_commonDivisor (n : Nat) (M : mh_M) (a0 : Int64) (a1 : Int64) : Option (Int64) :=
  itr3 (fX9_commonDivisor_L3 n M) n a0 a1 (0 : Int32)
def fX9_over_L40 (n : Nat) (M : mh_M) (x1 : Int32) (x2 : Int32) (x3 : Int32) (rec : Int32 → Int64 → Int64 → Int32 → Option (Int64)) (x4 : Int32) (x5 : Int64) (x7 : Int64) (x9 : Int32) : Option (Int64) :=
  bd (fX9_sheetsSoFar n M) (fun v7 : Int32 =>
  (if v7 ≤ x9 then
    (if (3 : Int32) ≤ x4 then
      (if x3 = 0 then
        pl (if 0 < x5 then x5 else -x5) (fun v14 : Int64 =>
        bd (fX9_commonDivisor n M v14 x7) (fun v15 : Int64 =>
        ck (!decide (v15 = 0)) (pl (x5 / v15) (fun v16 : Int64 =>
        some v16))))
      else
        pl (if 0 < x5 then x5 else -x5) (fun v11 : Int64 =>
        bd (fX9_commonDivisor n M v11 x7) (fun v12 : Int64 =>
        ck (!decide (v12 = 0)) (pl (x7 / v12) (fun v13 : Int64 =>
        some v13)))))
    else
      some (-1000000004 : Int64))
  else
    ck (inb x9 40) (pl x9.toNatClampNeg (fun q17 : Nat =>
    bd (fX7_judges n M q17 x1 x2) (fun v18 : Int32 =>
    (if v18 = 0 then
      pl (x9 + (1 : Int32)) (fun v20 : Int32 =>
      rec x4 x5 x7 v20)
    else
      ck (inb x9 40) (pl x9.toNatClampNeg (fun q21 : Nat =>
      ck (inb x2 10) (pl (M 26 q21 x2.toNatClampNeg) (fun v22 : Int32 =>
      pl (v22.toInt64) (fun v23 : Int64 =>
      pl (x4 + (1 : Int32)) (fun v24 : Int32 =>
      ck (inb x9 40) (pl x9.toNatClampNeg (fun q25 : Nat =>
      ck (inb x2 10) (pl (M 28 q25 x2.toNatClampNeg) (fun v26 : Int32 =>
      pl (v26.toInt64) (fun v27 : Int64 =>
      pl (v23 * v27) (fun v28 : Int64 =>
      pl (x5 + v28) (fun v29 : Int64 =>
      pl (v23 * v23) (fun v30 : Int64 =>
      pl (x7 + v30) (fun v31 : Int64 =>
      pl (x9 + (1 : Int32)) (fun v32 : Int32 =>
      rec v24 v29 v31 v32))))))))))))))))))))))
def fX9_over (n : Nat) (M : mh_M) (a0 : Int32) (a1 : Int32) (a2 : Int32) : Option (Int64) :=
  bd (fX9_isKeeper n M a0) (fun v1 : Int32 =>
  (if v1 = 0 then
    some (-1000000000 : Int64)
  else
    bd (fX9_isKind n M a1) (fun v3 : Int32 =>
    (if v3 = 0 then
      some (-1000000000 : Int64)
    else
      bd (fX9_isIn n M a2 (0 : Int32) (1 : Int32)) (fun v5 : Int32 =>
      (if v5 = 0 then
        some (-1000000000 : Int64)
      else
        itr4 (fX9_over_L40 n M a0 a1 a2) n (0 : Int32) (0 : Int64) (0 : Int64) (0 : Int32)))))))
def fX9_leans_L22 (n : Nat) (M : mh_M) (x1 : Int32) (x2 : Int32) (rec : Int32 → Int32 → Option (Int32)) (x3 : Int32) (x4 : Int32) : Option (Int32) :=
  bd (fX9_sheetsSoFar n M) (fun v5 : Int32 =>
  (if v5 ≤ x4 then
    some x3
  else
    ck (inb x4 40) (pl x4.toNatClampNeg (fun q7 : Nat =>
    bd (fX7_judges n M q7 x1 x2) (fun v8 : Int32 =>
    (if v8 = 0 then
      pl (x4 + (1 : Int32)) (fun v10 : Int32 =>
      rec x3 v10)
    else
      ck (inb x4 40) (pl x4.toNatClampNeg (fun q11 : Nat =>
      bd (fX7_isTold n M q11 x2) (fun v12 : Int32 =>
      (if v12 = 0 then
        pl (x4 + (1 : Int32)) (fun v14 : Int32 =>
        rec x3 v14)
      else
        pl (x3 + (1 : Int32)) (fun v15 : Int32 =>
        pl (x4 + (1 : Int32)) (fun v16 : Int32 =>
        rec v15 v16))))))))))))
def fX9_leans (n : Nat) (M : mh_M) (a0 : Int32) (a1 : Int32) : Option (Int32) :=
  bd (fX9_isKeeper n M a0) (fun v1 : Int32 =>
  (if v1 = 0 then
    some (-1 : Int32)
  else
    bd (fX9_isKind n M a1) (fun v3 : Int32 =>
    (if v3 = 0 then
      some (-1 : Int32)
    else
      itr2 (fX9_leans_L22 n M a0 a1) n (0 : Int32) (0 : Int32)))))
def fX9_takings (n : Nat) (M : mh_M) (a0 : Int32) : Option (Int32) :=
  bd (fX9_isBar n M a0) (fun v1 : Int32 =>
  (if v1 = 0 then
    some (-1 : Int32)
  else
    ck (inb a0 2) (pl (M 7 0 a0.toNatClampNeg) (fun v3 : Int32 =>
    some v3))))
def fX9_foretell (n : Nat) (M : mh_M) (a0 : Int32) (a1 : Int32) : Option (mh_M × Int32) :=
  bd (fX9_isIn n M a0 (0 : Int32) (200 : Int32)) (fun v1 : Int32 =>
  (if v1 = 0 then
    some (M, (-1 : Int32))
  else
    bd (fX9_isIn n M a1 (1 : Int32) (100 : Int32)) (fun v3 : Int32 =>
    (if v3 = 0 then
      some (M, (-1 : Int32))
    else
      pl (M 8 0 2) (fun v5 : Int32 =>
      (if v5 < (8 : Int32) then
        bd (fX3_add n M a0 a1) (fun M7 : mh_M =>
        pl (M7 8 0 2) (fun v8 : Int32 =>
        some (M7, v8)))
      else
        some (M, (-3 : Int32))))))))
def fX9_forget (n : Nat) (M : mh_M) : Option (mh_M × Int32) :=
  pl (M 8 0 2) (fun v1 : Int32 =>
  pl (mh_up M 8 0 2 (0 : Int32)) (fun M2 : mh_M =>
  some (M2, v1)))
def fX9_press (n : Nat) (M : mh_M) (a0 : Int32) : Option (Int32) :=
  pl (M 8 0 2) (fun v1 : Int32 =>
  (if v1 = 0 then
    some (-2 : Int32)
  else
    bd (fX9_isIn n M a0 (-1 : Int32) (200 : Int32)) (fun v3 : Int32 =>
    (if v3 = 0 then
      some (-1 : Int32)
    else
      ck (inb (2 : Int32) 7) (pl (M 3 0 (2 : Int32).toNatClampNeg) (fun v5 : Int32 =>
      ck (inb (3 : Int32) 7) (pl (M 3 0 (3 : Int32).toNatClampNeg) (fun v6 : Int32 =>
      (if a0 = (-1 : Int32) then
        bd (fX3_par n M v5 v6) (fun v9 : Int32 =>
        some v9)
      else
        bd (fX3_costOf n M a0 v5 v6) (fun v8 : Int32 =>
        some v8))))))))))
def fX9_allKinds (n : Nat) (M : mh_M) : Option (Int32) :=
  pl (M 0 0 1) (fun v1 : Int32 =>
  pl ((1 : Int32) <<< (v1 &&& 31)) (fun v2 : Int32 =>
  pl (v2 - (1 : Int32)) (fun v3 : Int32 =>
  some v3)))
def fX9_madeBy_L4 (n : Nat) (M : mh_M) (x1 : Int32) (rec : Int32 → Int32 → Option (Int32)) (x2 : Int32) (x3 : Int32) : Option (Int32) :=
  pl (M 0 0 3) (fun v1 : Int32 =>
  (if v1 ≤ x3 then
    some x2
  else
    ck (inb x3 12) (pl x3.toNatClampNeg (fun q3 : Nat =>
    bd (fX6_canBeMadeBy n M q3 x1) (fun v4 : Int32 =>
    (if v4 = 0 then
      pl (x3 + (1 : Int32)) (fun v6 : Int32 =>
      rec x2 v6)
    else
      pl (x2 + (1 : Int32)) (fun v7 : Int32 =>
      pl (x3 + (1 : Int32)) (fun v8 : Int32 =>
      rec v7 v8))))))))
def fX9_madeBy (n : Nat) (M : mh_M) (a0 : Int32) : Option (Int32) :=
  itr2 (fX9_madeBy_L4 n M a0) n (0 : Int32) (0 : Int32)
def fX9_makes (n : Nat) (M : mh_M) (a0 : Int32) : Option (Int32) :=
  bd (fX9_allKinds n M) (fun v1 : Int32 =>
  bd (fX9_isIn n M a0 (0 : Int32) v1) (fun v2 : Int32 =>
  (if v2 = 0 then
    some (-1 : Int32)
  else
    bd (fX9_madeBy n M a0) (fun v4 : Int32 =>
    some v4))))
def fX9_fewest_L17 (n : Nat) (M : mh_M) (x1 : Int32) (rec : Int32 → Int32 → Option (Int32)) (x2 : Int32) (x3 : Int32) : Option (Int32) :=
  bd (fX9_allKinds n M) (fun v3 : Int32 =>
  (if v3 < x3 then
    some x2
  else
    (if x2 = (-4 : Int32) then
      (if (1 : Int32) = 0 then
        pl (x3 + (1 : Int32)) (fun v7 : Int32 =>
        rec x2 v7)
      else
        bd (fX9_madeBy n M x3) (fun v8 : Int32 =>
        (if v8 < x1 then
          pl (x3 + (1 : Int32)) (fun v10 : Int32 =>
          rec x2 v10)
        else
          pl (x3 + (1 : Int32)) (fun v11 : Int32 =>
          rec x3 v11))))
    else
      bd (fJ6_bitCount_0f7a4 n M x3) (fun v12 : Int32 =>
      bd (fJ6_bitCount_0f7a4 n M x2) (fun v13 : Int32 =>
      (if v13 ≤ v12 then
        (if (0 : Int32) = 0 then
          pl (x3 + (1 : Int32)) (fun v16 : Int32 =>
          rec x2 v16)
        else
          bd (fX9_madeBy n M x3) (fun v17 : Int32 =>
          (if v17 < x1 then
            pl (x3 + (1 : Int32)) (fun v19 : Int32 =>
            rec x2 v19)
          else
            pl (x3 + (1 : Int32)) (fun v20 : Int32 =>
            rec x3 v20))))
      else
        (if (1 : Int32) = 0 then
          pl (x3 + (1 : Int32)) (fun v22 : Int32 =>
          rec x2 v22)
        else
          bd (fX9_madeBy n M x3) (fun v23 : Int32 =>
          (if v23 < x1 then
            pl (x3 + (1 : Int32)) (fun v25 : Int32 =>
            rec x2 v25)
          else
            pl (x3 + (1 : Int32)) (fun v26 : Int32 =>
            rec x3 v26))))))))))
def fX9_fewest (n : Nat) (M : mh_M) (a0 : Int32) : Option (Int32) :=
  bd (fX9_isIn n M a0 (1 : Int32) (12 : Int32)) (fun v1 : Int32 =>
  (if v1 = 0 then
    some (-1 : Int32)
  else
    itr2 (fX9_fewest_L17 n M a0) n (-4 : Int32) (0 : Int32)))
def fX9_most_L21 (n : Nat) (M : mh_M) (x1 : Int32) (rec : Int32 → Int32 → Int32 → Option (Int32)) (x2 : Int32) (x3 : Int32) (x4 : Int32) : Option (Int32) :=
  bd (fX9_allKinds n M) (fun v4 : Int32 =>
  (if v4 < x4 then
    some x2
  else
    bd (fJ6_bitCount_0f7a4 n M x4) (fun v6 : Int32 =>
    (if v6 = x1 then
      bd (fX9_madeBy n M x4) (fun v11 : Int32 =>
      (if v11 ≤ x3 then
        pl (x4 + (1 : Int32)) (fun v13 : Int32 =>
        rec x2 x3 v13)
      else
        pl (x4 + (1 : Int32)) (fun v14 : Int32 =>
        rec x4 v11 v14)))
    else
      (if (-1 : Int32) ≤ x3 then
        pl (x4 + (1 : Int32)) (fun v9 : Int32 =>
        rec x2 x3 v9)
      else
        pl (x4 + (1 : Int32)) (fun v10 : Int32 =>
        rec x4 (-1 : Int32) v10))))))
def fX9_most (n : Nat) (M : mh_M) (a0 : Int32) : Option (Int32) :=
  pl (M 0 0 1) (fun v1 : Int32 =>
  bd (fX9_isIn n M a0 (0 : Int32) v1) (fun v2 : Int32 =>
  (if v2 = 0 then
    some (-1 : Int32)
  else
    itr3 (fX9_most_L21 n M a0) n (0 : Int32) (-1 : Int32) (0 : Int32))))
def fX9_priceRule (n : Nat) (M : mh_M) (a0 : Int32) (a1 : Int32) (a2 : Int32) (a3 : Int32) : Option (mh_M × Int32) :=
  bd (fX9_isIn n M a1 (0 : Int32) (1439 : Int32)) (fun v1 : Int32 =>
  (if v1 = 0 then
    bd (fX9_isIn n M a0 (0 : Int32) (127 : Int32)) (fun v3 : Int32 =>
    (if v3 = 0 then
      some (M, (-1 : Int32))
    else
      (if (0 : Int32) = 0 then
        some (M, (-1 : Int32))
      else
        bd (fX9_isIn n M a3 (0 : Int32) (200 : Int32)) (fun v6 : Int32 =>
        (if v6 = 0 then
          some (M, (-1 : Int32))
        else
          pl (M 0 0 11) (fun v8 : Int32 =>
          (if v8 < (12 : Int32) then
            pl (M 0 0 11) (fun v10 : Int32 =>
            ck (inb v10 12) (pl v10.toNatClampNeg (fun q11 : Nat =>
            pl (mh_up M 31 q11 0 a0) (fun M12 : mh_M =>
            pl (mh_up M12 31 q11 1 a1) (fun M13 : mh_M =>
            pl (mh_up M13 31 q11 2 a2) (fun M14 : mh_M =>
            pl (mh_up M14 31 q11 3 a3) (fun M15 : mh_M =>
            pl (M15 0 0 11) (fun v16 : Int32 =>
            pl (v16 + (1 : Int32)) (fun v17 : Int32 =>
            pl (mh_up M15 0 0 11 v17) (fun M18 : mh_M =>
            pl (M18 0 0 11) (fun v19 : Int32 =>
            some (M18, v19))))))))))))
          else
            some (M, (-3 : Int32)))))))))
  else
    bd (fX9_isIn n M a2 (0 : Int32) (1439 : Int32)) (fun v20 : Int32 =>
    (if v20 = 0 then
      bd (fX9_isIn n M a0 (0 : Int32) (127 : Int32)) (fun v22 : Int32 =>
      (if v22 = 0 then
        some (M, (-1 : Int32))
      else
        (if (0 : Int32) = 0 then
          some (M, (-1 : Int32))
        else
          bd (fX9_isIn n M a3 (0 : Int32) (200 : Int32)) (fun v25 : Int32 =>
          (if v25 = 0 then
            some (M, (-1 : Int32))
          else
            pl (M 0 0 11) (fun v27 : Int32 =>
            (if v27 < (12 : Int32) then
              pl (M 0 0 11) (fun v29 : Int32 =>
              ck (inb v29 12) (pl v29.toNatClampNeg (fun q30 : Nat =>
              pl (mh_up M 31 q30 0 a0) (fun M31 : mh_M =>
              pl (mh_up M31 31 q30 1 a1) (fun M32 : mh_M =>
              pl (mh_up M32 31 q30 2 a2) (fun M33 : mh_M =>
              pl (mh_up M33 31 q30 3 a3) (fun M34 : mh_M =>
              pl (M34 0 0 11) (fun v35 : Int32 =>
              pl (v35 + (1 : Int32)) (fun v36 : Int32 =>
              pl (mh_up M34 0 0 11 v36) (fun M37 : mh_M =>
              pl (M37 0 0 11) (fun v38 : Int32 =>
              some (M37, v38))))))))))))
            else
              some (M, (-3 : Int32)))))))))
    else
      bd (fX9_isIn n M a0 (0 : Int32) (127 : Int32)) (fun v39 : Int32 =>
      (if v39 = 0 then
        some (M, (-1 : Int32))
      else
        (if (1 : Int32) = 0 then
          some (M, (-1 : Int32))
        else
          bd (fX9_isIn n M a3 (0 : Int32) (200 : Int32)) (fun v42 : Int32 =>
          (if v42 = 0 then
            some (M, (-1 : Int32))
          else
            pl (M 0 0 11) (fun v44 : Int32 =>
            (if v44 < (12 : Int32) then
              pl (M 0 0 11) (fun v46 : Int32 =>
              ck (inb v46 12) (pl v46.toNatClampNeg (fun q47 : Nat =>
              pl (mh_up M 31 q47 0 a0) (fun M48 : mh_M =>
              pl (mh_up M48 31 q47 1 a1) (fun M49 : mh_M =>
              pl (mh_up M49 31 q47 2 a2) (fun M50 : mh_M =>
              pl (mh_up M50 31 q47 3 a3) (fun M51 : mh_M =>
              pl (M51 0 0 11) (fun v52 : Int32 =>
              pl (v52 + (1 : Int32)) (fun v53 : Int32 =>
              pl (mh_up M51 0 0 11 v53) (fun M54 : mh_M =>
              pl (M54 0 0 11) (fun v55 : Int32 =>
              some (M54, v55))))))))))))
            else
              some (M, (-3 : Int32)))))))))))))
def fX9_price (n : Nat) (M : mh_M) (a0 : Int32) (a1 : Int32) (a2 : Int32) : Option (Int32) :=
  bd (fX9_isRecipe n M a0) (fun v1 : Int32 =>
  (if v1 = 0 then
    some (-1 : Int32)
  else
    bd (fX9_isTime n M a1 a2) (fun v3 : Int32 =>
    (if v3 = 0 then
      some (-1 : Int32)
    else
      bd (fX9_priceAt n M a0 a1 a2) (fun v5 : Int32 =>
      some v5)))))
def fX9_person (n : Nat) (M : mh_M) (a0 : Int32) (a1 : Int32) (a2 : Int32) : Option (mh_M × Int32) :=
  bd (fX9_isIn n M a0 (0 : Int32) (5 : Int32)) (fun v1 : Int32 =>
  (if v1 = 0 then
    some (M, (-1 : Int32))
  else
    bd (fX9_isIn n M a1 (0 : Int32) (10 : Int32)) (fun v3 : Int32 =>
    (if v3 = 0 then
      some (M, (-1 : Int32))
    else
      bd (fX9_isIn n M a2 (0 : Int32) (1440 : Int32)) (fun v5 : Int32 =>
      (if v5 = 0 then
        some (M, (-1 : Int32))
      else
        pl (a1 * a2) (fun v7 : Int32 =>
        ck (inb a0 6) (pl (mh_up M 14 0 a0.toNatClampNeg v7) (fun M8 : mh_M =>
        some (M8, (0 : Int32)))))))))))
def fX9_tips (n : Nat) (M : mh_M) (a0 : Int32) (a1 : Int32) : Option (Int32) :=
  bd (fX9_isIn n M a0 (0 : Int32) (1000000 : Int32)) (fun v1 : Int32 =>
  (if v1 = 0 then
    some (-1 : Int32)
  else
    bd (fX9_isIn n M a1 (0 : Int32) (5 : Int32)) (fun v3 : Int32 =>
    (if v3 = 0 then
      some (-1 : Int32)
    else
      bd (fX8_shareOf n M a1 a0) (fun v5 : Int32 =>
      some v5)))))
def fX9_keg (n : Nat) (M : mh_M) (a0 : Int32) (a1 : Int32) : Option (Int32) :=
  bd (fX9_isIn n M a0 (1000 : Int32) (100000 : Int32)) (fun v1 : Int32 =>
  (if v1 = 0 then
    some (-1 : Int32)
  else
    bd (fX9_isIn n M a1 (0 : Int32) (40 : Int32)) (fun v3 : Int32 =>
    (if v3 = 0 then
      some (-1 : Int32)
    else
      ck (inb (5 : Int32) 7) (pl (M 3 0 (5 : Int32).toNatClampNeg) (fun v5 : Int32 =>
      ck (inb (6 : Int32) 7) (pl (M 3 0 (6 : Int32).toNatClampNeg) (fun v6 : Int32 =>
      pl (a1 - (4 : Int32)) (fun v7 : Int32 =>
      pl (if (0 : Int32) < v7 then v7 else (0 : Int32)) (fun v8 : Int32 =>
      pl (v6 * v8) (fun v9 : Int32 =>
      pl (v5 + v9) (fun v10 : Int32 =>
      pl (if v10 < (90 : Int32) then v10 else (90 : Int32)) (fun v11 : Int32 =>
      pl ((100 : Int32) - v11) (fun v12 : Int32 =>
      pl (a0 * v12) (fun v13 : Int32 =>
      ck (!decide ((50000 : Int32) = 0)) (pl (v13 / (50000 : Int32)) (fun v14 : Int32 =>
      some v14)))))))))))))))))
def fX9_deal (n : Nat) (M : mh_M) (a0 : Int32) (a1 : Int32) : Option (mh_M × Int32) :=
  bd (fX9_isIn n M a0 (1 : Int32) (24 : Int32)) (fun v1 : Int32 =>
  (if v1 = 0 then
    some (M, (-1 : Int32))
  else
    bd (fX9_isIn n M a1 (0 : Int32) (100000 : Int32)) (fun v3 : Int32 =>
    (if v3 = 0 then
      some (M, (-1 : Int32))
    else
      pl (M 15 0 2) (fun v5 : Int32 =>
      (if v5 < (5 : Int32) then
        bd (fX2_add n M a0 a1) (fun M7 : mh_M =>
        pl (M7 15 0 2) (fun v8 : Int32 =>
        some (M7, v8)))
      else
        some (M, (-3 : Int32))))))))
def fX9_buy (n : Nat) (M : mh_M) (a0 : Int32) (a1 : Int32) : Option (mh_M × Int32) :=
  bd (fX9_isIn n M a0 (1 : Int32) (120 : Int32)) (fun v1 : Int32 =>
  (if v1 = 0 then
    some (M, (-1 : Int32))
  else
    pl (M 15 0 2) (fun v3 : Int32 =>
    pl ((1 : Int32) + v3) (fun v4 : Int32 =>
    bd (fX9_isIn n M a1 (0 : Int32) v4) (fun v5 : Int32 =>
    (if v5 = 0 then
      some (M, (-1 : Int32))
    else
      pl (M 15 0 2) (fun v7 : Int32 =>
      (if v7 = 0 then
        some (M, (-2 : Int32))
      else
        bd (fX2_weighUp n M) (fun M9 : mh_M =>
        bd (fX2_bestBottles n M9 a0) (fun v10 : Int32 =>
        (if a1 = 0 then
          bd (fX2_leastFor n M9 v10) (fun v12 : Int32 =>
          some (M9, v12))
        else
        (if a1 = 1 then
          some (M9, v10)
        else
          pl (a1 - (2 : Int32)) (fun v14 : Int32 =>
          bd (fX2_timesOf n M9 v14 v10) (fun v15 : Int32 =>
          some (M9, v15)))))))))))))))
def fX9_count (n : Nat) (M : mh_M) (a0 : Int32) : Option (Int32) :=
  (if a0 = 0 then
    pl (M 0 0 1) (fun v2 : Int32 =>
    some v2)
  else
  (if a0 = 1 then
    pl (M 0 0 3) (fun v4 : Int32 =>
    some v4)
  else
  (if a0 = 2 then
    pl (M 0 0 6) (fun v6 : Int32 =>
    some v6)
  else
  (if a0 = 3 then
    pl (M 5 0 1) (fun v8 : Int32 =>
    some v8)
  else
  (if a0 = 4 then
    pl (M 0 0 11) (fun v10 : Int32 =>
    some v10)
  else
  (if a0 = 5 then
    pl (M 15 0 2) (fun v12 : Int32 =>
    some v12)
  else
  (if a0 = 6 then
    pl (M 8 0 2) (fun v14 : Int32 =>
    some v14)
  else
    some (-1 : Int32))))))))
def fX10_in (n : Nat) (M : mh_M) (a0 : Int32) (a1 : Int32) (a2 : Int32) : Option (Int32) :=
  (if a0 < a1 then
    some (0 : Int32)
  else
    (if a2 < a0 then
      some (0 : Int32)
    else
      some (1 : Int32)))
theorem bX10_in {n : Nat} {M : mh_M} {a0 a1 a2 : Int32} {q : Int32} (h : fX10_in n M a0 a1 a2 = some q) : narrow .boolean (.int q) = .int q := by
  unfold fX10_in at h
  split at h
  · cases h; rfl
  · split at h
    · cases h; rfl
    · cases h; rfl
def fX10_isKind (n : Nat) (M : mh_M) (a0 : Int32) : Option (Int32) :=
  pl (M 40 0 0) (fun v1 : Int32 =>
  pl (v1 - (1 : Int32)) (fun v2 : Int32 =>
  bd (fX10_in n M a0 (0 : Int32) v2) (fun v3 : Int32 =>
  some v3)))
def fX10_isRecipe (n : Nat) (M : mh_M) (a0 : Int32) : Option (Int32) :=
  pl (M 40 0 4) (fun v1 : Int32 =>
  pl (v1 - (1 : Int32)) (fun v2 : Int32 =>
  bd (fX10_in n M a0 (0 : Int32) v2) (fun v3 : Int32 =>
  some v3)))
def fX10_isBar (n : Nat) (M : mh_M) (a0 : Int32) : Option (Int32) :=
  bd (fX10_in n M a0 (0 : Int32) (1 : Int32)) (fun v1 : Int32 =>
  some v1)
def fX10_kind (n : Nat) (M : mh_M) (a0 : Int32) (a1 : Int32) (a2 : Int32) : Option (mh_M × Int32) :=
  bd (fX10_in n M a0 (0 : Int32) (2000 : Int32)) (fun v1 : Int32 =>
  (if v1 = 0 then
    some (M, (-1 : Int32))
  else
    bd (fX10_in n M a1 (100 : Int32) (2000 : Int32)) (fun v3 : Int32 =>
    (if v3 = 0 then
      some (M, (-1 : Int32))
    else
      bd (fX10_in n M a2 (50 : Int32) (150 : Int32)) (fun v5 : Int32 =>
      (if v5 = 0 then
        some (M, (-1 : Int32))
      else
        pl (M 40 0 0) (fun v7 : Int32 =>
        (if v7 = (10 : Int32) then
          some (M, (-3 : Int32))
        else
          pl (M 40 0 0) (fun v9 : Int32 =>
          ck (inb v9 10) (pl (mh_up M 42 0 v9.toNatClampNeg a0) (fun M10 : mh_M =>
          pl (M10 40 0 0) (fun v11 : Int32 =>
          ck (inb v11 10) (pl (mh_up M10 43 0 v11.toNatClampNeg a1) (fun M12 : mh_M =>
          pl (M12 40 0 0) (fun v13 : Int32 =>
          ck (inb v13 10) (pl (mh_up M12 44 0 v13.toNatClampNeg a2) (fun M14 : mh_M =>
          pl (M14 40 0 0) (fun v15 : Int32 =>
          pl (v15 + (1 : Int32)) (fun v16 : Int32 =>
          pl (mh_up M14 40 0 0 v16) (fun M17 : mh_M =>
          pl (M17 40 0 0) (fun v18 : Int32 =>
          pl (v18 - (1 : Int32)) (fun v19 : Int32 =>
          some (M17, v19)))))))))))))))))))))))
def fX10_recipe (n : Nat) (M : mh_M) (a0 : Int32) : Option (mh_M × Int32) :=
  bd (fX10_in n M a0 (0 : Int32) (10000 : Int32)) (fun v1 : Int32 =>
  (if v1 = 0 then
    some (M, (-1 : Int32))
  else
    pl (M 40 0 4) (fun v3 : Int32 =>
    (if v3 = (12 : Int32) then
      some (M, (-3 : Int32))
    else
      pl (M 40 0 4) (fun v5 : Int32 =>
      ck (inb v5 12) (pl (mh_up M 46 0 v5.toNatClampNeg a0) (fun M6 : mh_M =>
      pl (M6 40 0 4) (fun v7 : Int32 =>
      pl (v7 + (1 : Int32)) (fun v8 : Int32 =>
      pl (mh_up M6 40 0 4 v8) (fun M9 : mh_M =>
      pl (M9 40 0 4) (fun v10 : Int32 =>
      pl (v10 - (1 : Int32)) (fun v11 : Int32 =>
      some (M9, v11)))))))))))))
def fX10_part (n : Nat) (M : mh_M) (a0 : Int32) (a1 : Int32) (a2 : Int32) : Option (mh_M × Int32) :=
  bd (fX10_isRecipe n M a0) (fun v1 : Int32 =>
  (if v1 = 0 then
    some (M, (-1 : Int32))
  else
    bd (fX10_isKind n M a1) (fun v3 : Int32 =>
    (if v3 = 0 then
      some (M, (-1 : Int32))
    else
      bd (fX10_in n M a2 (0 : Int32) (20 : Int32)) (fun v5 : Int32 =>
      (if v5 = 0 then
        some (M, (-1 : Int32))
      else
        ck (inb a0 12) (pl (M 48 0 a0.toNatClampNeg) (fun v7 : Int32 =>
        (if v7 = 0 then
          pl ((10 : Int32) * a0) (fun v9 : Int32 =>
          pl (v9 + a1) (fun v10 : Int32 =>
          ck (inb v10 120) (pl (M 47 0 v10.toNatClampNeg) (fun v11 : Int32 =>
          pl ((10 : Int32) * a0) (fun v12 : Int32 =>
          pl (v12 + a1) (fun v13 : Int32 =>
          ck (inb v13 120) (pl (mh_up M 47 0 v13.toNatClampNeg a2) (fun M14 : mh_M =>
          some (M14, v11)))))))))
        else
          some (M, (-2 : Int32)))))))))))
def fX10_top (n : Nat) (M : mh_M) (a0 : Int32) : Option (Int32) :=
  (if a0 = 0 then
    some (50 : Int32)
  else
    (if a0 = (1 : Int32) then
      some (20 : Int32)
    else
      (if (4 : Int32) ≤ a0 then
        (if a0 = (4 : Int32) then
          some (10000 : Int32)
        else
          (if a0 = (5 : Int32) then
            some (50 : Int32)
          else
            some (10 : Int32)))
      else
        some (100 : Int32))))
def fX10_rule (n : Nat) (M : mh_M) (a0 : Int32) (a1 : Int32) : Option (mh_M × Int32) :=
  bd (fX10_in n M a0 (0 : Int32) (6 : Int32)) (fun v1 : Int32 =>
  (if v1 = 0 then
    some (M, (-1 : Int32))
  else
    bd (fX10_top n M a0) (fun v3 : Int32 =>
    bd (fX10_in n M a1 (0 : Int32) v3) (fun v4 : Int32 =>
    (if v4 = 0 then
      some (M, (-1 : Int32))
    else
      ck (inb a0 7) (pl (M 49 0 a0.toNatClampNeg) (fun v6 : Int32 =>
      ck (inb a0 7) (pl (mh_up M 49 0 a0.toNatClampNeg a1) (fun M7 : mh_M =>
      some (M7, v6))))))))))
def fX10_keeps_L13 (n : Nat) (x1 : Int32) (x2 : Int32) (x3 : Int32) (x4 : Int32) (x5 : Int32) (x6 : Int32) (rec : mh_M → Int32 → Option (mh_M)) (M : mh_M) (x7 : Int32) : Option (mh_M) :=
  (if (240 : Int32) ≤ x7 then
    pl (M 40 0 19) (fun v20 : Int32 =>
    pl (v20 - (1 : Int32)) (fun v21 : Int32 =>
    pl (mh_up M 40 0 19 v21) (fun M22 : mh_M =>
    pl (M22 40 0 19) (fun v23 : Int32 =>
    pl ((6 : Int32) * v23) (fun v24 : Int32 =>
    ck (inb v24 240) (pl (mh_up M22 61 0 v24.toNatClampNeg x1) (fun M25 : mh_M =>
    pl (v24 + (1 : Int32)) (fun v26 : Int32 =>
    ck (inb v26 240) (pl (mh_up M25 61 0 v26.toNatClampNeg x2) (fun M27 : mh_M =>
    pl (v24 + (2 : Int32)) (fun v28 : Int32 =>
    ck (inb v28 240) (pl (mh_up M27 61 0 v28.toNatClampNeg x3) (fun M29 : mh_M =>
    pl (v24 + (3 : Int32)) (fun v30 : Int32 =>
    ck (inb v30 240) (pl (mh_up M29 61 0 v30.toNatClampNeg x4) (fun M31 : mh_M =>
    pl (v24 + (4 : Int32)) (fun v32 : Int32 =>
    ck (inb v32 240) (pl (mh_up M31 61 0 v32.toNatClampNeg x5) (fun M33 : mh_M =>
    pl (v24 + (5 : Int32)) (fun v34 : Int32 =>
    ck (inb v34 240) (pl (mh_up M33 61 0 v34.toNatClampNeg x6) (fun M35 : mh_M =>
    pl (M35 40 0 19) (fun v36 : Int32 =>
    pl (v36 + (1 : Int32)) (fun v37 : Int32 =>
    pl (mh_up M35 40 0 19 v37) (fun M38 : mh_M =>
    some M38)))))))))))))))))))))))))
  else
    pl (x7 - (6 : Int32)) (fun v39 : Int32 =>
    ck (inb x7 240) (pl (M 61 0 x7.toNatClampNeg) (fun v40 : Int32 =>
    ck (inb v39 240) (pl (mh_up M 61 0 v39.toNatClampNeg v40) (fun M41 : mh_M =>
    pl (x7 + (1 : Int32)) (fun v42 : Int32 =>
    rec M41 v42)))))))
def fX10_keeps (n : Nat) (M : mh_M) (a0 : Int32) (a1 : Int32) (a2 : Int32) (a3 : Int32) (a4 : Int32) (a5 : Int32) : Option (mh_M) :=
  pl (M 40 0 19) (fun v1 : Int32 =>
  (if v1 = (40 : Int32) then
    itr2 (fX10_keeps_L13 n a0 a1 a2 a3 a4 a5) n M (6 : Int32)
  else
    pl (M 40 0 19) (fun v3 : Int32 =>
    pl ((6 : Int32) * v3) (fun v4 : Int32 =>
    ck (inb v4 240) (pl (mh_up M 61 0 v4.toNatClampNeg a0) (fun M5 : mh_M =>
    pl (v4 + (1 : Int32)) (fun v6 : Int32 =>
    ck (inb v6 240) (pl (mh_up M5 61 0 v6.toNatClampNeg a1) (fun M7 : mh_M =>
    pl (v4 + (2 : Int32)) (fun v8 : Int32 =>
    ck (inb v8 240) (pl (mh_up M7 61 0 v8.toNatClampNeg a2) (fun M9 : mh_M =>
    pl (v4 + (3 : Int32)) (fun v10 : Int32 =>
    ck (inb v10 240) (pl (mh_up M9 61 0 v10.toNatClampNeg a3) (fun M11 : mh_M =>
    pl (v4 + (4 : Int32)) (fun v12 : Int32 =>
    ck (inb v12 240) (pl (mh_up M11 61 0 v12.toNatClampNeg a4) (fun M13 : mh_M =>
    pl (v4 + (5 : Int32)) (fun v14 : Int32 =>
    ck (inb v14 240) (pl (mh_up M13 61 0 v14.toNatClampNeg a5) (fun M15 : mh_M =>
    pl (M15 40 0 19) (fun v16 : Int32 =>
    pl (v16 + (1 : Int32)) (fun v17 : Int32 =>
    pl (mh_up M15 40 0 19 v17) (fun M18 : mh_M =>
    some M18))))))))))))))))))))))))
def fX10_at (n : Nat) (M : mh_M) (a0 : Int32) (a1 : Int32) (a2 : Int32) : Option (Int32) :=
  pl ((20 : Int32) * a0) (fun v1 : Int32 =>
  pl ((10 : Int32) * a1) (fun v2 : Int32 =>
  pl (v1 + v2) (fun v3 : Int32 =>
  pl (v3 + a2) (fun v4 : Int32 =>
  some v4))))
def fX10_receives (n : Nat) (M : mh_M) (a0 : Int32) (a1 : Int32) : Option (mh_M) :=
  ck (inb a0 10) (pl (M 50 0 a0.toNatClampNeg) (fun v1 : Int32 =>
  pl (v1 + a1) (fun v2 : Int32 =>
  ck (inb a0 10) (pl (mh_up M 50 0 a0.toNatClampNeg v2) (fun M3 : mh_M =>
  pl ((5 : Int32) * a0) (fun v4 : Int32 =>
  pl (v4 + (4 : Int32)) (fun v5 : Int32 =>
  ck (inb v5 50) (pl (M3 58 0 v5.toNatClampNeg) (fun v6 : Int32 =>
  pl (v6 + a1) (fun v7 : Int32 =>
  ck (inb v5 50) (pl (mh_up M3 58 0 v5.toNatClampNeg v7) (fun M8 : mh_M =>
  some M8))))))))))))
def fX10_issues (n : Nat) (M : mh_M) (a0 : Int32) (a1 : Int32) (a2 : Int32) : Option (mh_M) :=
  ck (inb a1 10) (pl (M 50 0 a1.toNatClampNeg) (fun v1 : Int32 =>
  pl (v1 - a2) (fun v2 : Int32 =>
  ck (inb a1 10) (pl (mh_up M 50 0 a1.toNatClampNeg v2) (fun M3 : mh_M =>
  pl ((10 : Int32) * a0) (fun v4 : Int32 =>
  pl (v4 + a1) (fun v5 : Int32 =>
  ck (inb v5 20) (pl (M3 51 0 v5.toNatClampNeg) (fun v6 : Int32 =>
  ck (inb a1 10) (pl (M3 43 0 a1.toNatClampNeg) (fun v7 : Int32 =>
  pl (a2 * v7) (fun v8 : Int32 =>
  pl (v6 + v8) (fun v9 : Int32 =>
  ck (inb v5 20) (pl (mh_up M3 51 0 v5.toNatClampNeg v9) (fun M10 : mh_M =>
  some M10)))))))))))))))
def fX10_lends (n : Nat) (M : mh_M) (a0 : Int32) (a1 : Int32) (a2 : Int32) : Option (mh_M) :=
  pl ((10 : Int32) * a0) (fun v1 : Int32 =>
  pl (v1 + a1) (fun v2 : Int32 =>
  ck (inb v2 20) (pl (M 51 0 v2.toNatClampNeg) (fun v3 : Int32 =>
  pl (v3 - a2) (fun v4 : Int32 =>
  ck (inb v2 20) (pl (mh_up M 51 0 v2.toNatClampNeg v4) (fun M5 : mh_M =>
  pl ((1 : Int32) - a0) (fun v6 : Int32 =>
  pl ((10 : Int32) * v6) (fun v7 : Int32 =>
  pl (v7 + a1) (fun v8 : Int32 =>
  ck (inb v8 20) (pl (M5 51 0 v8.toNatClampNeg) (fun v9 : Int32 =>
  pl (v9 + a2) (fun v10 : Int32 =>
  ck (inb v8 20) (pl (mh_up M5 51 0 v8.toNatClampNeg v10) (fun M11 : mh_M =>
  some M11)))))))))))))))
def fX10_sells_L3 (n : Nat) (x1 : Int32) (x2 : Int32) (x3 : Int32) (x4 : Int32) (rec : mh_M → Int32 → Option (mh_M)) (M : mh_M) (x5 : Int32) : Option (mh_M) :=
  pl (M 40 0 0) (fun v1 : Int32 =>
  (if v1 ≤ x5 then
    ck (inb x1 2) (pl (M 59 0 x1.toNatClampNeg) (fun v3 : Int32 =>
    pl (v3 + x4) (fun v4 : Int32 =>
    ck (inb x1 2) (pl (mh_up M 59 0 x1.toNatClampNeg v4) (fun M5 : mh_M =>
    some M5)))))
  else
    pl ((10 : Int32) * x2) (fun v6 : Int32 =>
    pl (v6 + x5) (fun v7 : Int32 =>
    ck (inb v7 120) (pl (M 47 0 v7.toNatClampNeg) (fun v8 : Int32 =>
    pl ((10 : Int32) * x1) (fun v9 : Int32 =>
    pl (v9 + x5) (fun v10 : Int32 =>
    ck (inb v10 20) (pl (M 51 0 v10.toNatClampNeg) (fun v11 : Int32 =>
    pl ((6 : Int32) * v8) (fun v12 : Int32 =>
    pl (v12 * x3) (fun v13 : Int32 =>
    pl (v11 - v13) (fun v14 : Int32 =>
    ck (inb v10 20) (pl (mh_up M 51 0 v10.toNatClampNeg v14) (fun M15 : mh_M =>
    pl ((5 : Int32) * x5) (fun v16 : Int32 =>
    ck (inb v16 50) (pl (M15 58 0 v16.toNatClampNeg) (fun v17 : Int32 =>
    pl ((6 : Int32) * v8) (fun v18 : Int32 =>
    pl (v18 * x3) (fun v19 : Int32 =>
    pl (v17 + v19) (fun v20 : Int32 =>
    ck (inb v16 50) (pl (mh_up M15 58 0 v16.toNatClampNeg v20) (fun M21 : mh_M =>
    pl (M21 40 0 11) (fun v22 : Int32 =>
    bd (fX10_at n M21 v22 x1 x5) (fun v23 : Int32 =>
    ck (inb v23 400) (pl (M21 55 0 v23.toNatClampNeg) (fun v24 : Int32 =>
    (if v8 ≤ 0 then
      pl (v24 + (0 : Int32)) (fun v26 : Int32 =>
      ck (inb v23 400) (pl (mh_up M21 55 0 v23.toNatClampNeg v26) (fun M27 : mh_M =>
      pl (x5 + (1 : Int32)) (fun v28 : Int32 =>
      rec M27 v28))))
    else
      pl (v24 + x3) (fun v29 : Int32 =>
      ck (inb v23 400) (pl (mh_up M21 55 0 v23.toNatClampNeg v29) (fun M30 : mh_M =>
      pl (x5 + (1 : Int32)) (fun v31 : Int32 =>
      rec M30 v31))))))))))))))))))))))))))))))))
def fX10_sells (n : Nat) (M : mh_M) (a0 : Int32) (a1 : Int32) (a2 : Int32) (a3 : Int32) : Option (mh_M) :=
  itr2 (fX10_sells_L3 n a0 a1 a2 a3) n M (0 : Int32)
def fX10_loses (n : Nat) (M : mh_M) (a0 : Int32) (a1 : Int32) (a2 : Int32) (a3 : Int32) : Option (mh_M) :=
  pl ((10 : Int32) * a0) (fun v1 : Int32 =>
  pl (v1 + a1) (fun v2 : Int32 =>
  ck (inb v2 20) (pl (M 51 0 v2.toNatClampNeg) (fun v3 : Int32 =>
  pl (v3 - a3) (fun v4 : Int32 =>
  ck (inb v2 20) (pl (mh_up M 51 0 v2.toNatClampNeg v4) (fun M5 : mh_M =>
  pl ((5 : Int32) * a1) (fun v6 : Int32 =>
  pl (v6 + (1 : Int32)) (fun v7 : Int32 =>
  pl (v7 + a2) (fun v8 : Int32 =>
  ck (inb v8 50) (pl (M5 58 0 v8.toNatClampNeg) (fun v9 : Int32 =>
  pl (v9 + a3) (fun v10 : Int32 =>
  ck (inb v8 50) (pl (mh_up M5 58 0 v8.toNatClampNeg v10) (fun M11 : mh_M =>
  some M11)))))))))))))))
def fX10_receive (n : Nat) (M : mh_M) (a0 : Int32) (a1 : Int32) : Option (mh_M × Int32) :=
  bd (fX10_isKind n M a0) (fun v1 : Int32 =>
  (if v1 = 0 then
    some (M, (-1 : Int32))
  else
    bd (fX10_in n M a1 (1 : Int32) (100 : Int32)) (fun v3 : Int32 =>
    (if v3 = 0 then
      some (M, (-1 : Int32))
    else
      ck (inb a0 10) (pl (M 50 0 a0.toNatClampNeg) (fun v5 : Int32 =>
      pl (v5 + a1) (fun v6 : Int32 =>
      (if v6 ≤ (1000 : Int32) then
        bd (fX10_receives n M a0 a1) (fun M8 : mh_M =>
        bd (fX10_keeps n M8 (0 : Int32) (0 : Int32) a0 a1 (0 : Int32) (0 : Int32)) (fun M9 : mh_M =>
        ck (inb a0 10) (pl (M9 50 0 a0.toNatClampNeg) (fun v10 : Int32 =>
        some (M9, v10)))))
      else
        some (M, (-3 : Int32))))))))))
def fX10_issue (n : Nat) (M : mh_M) (a0 : Int32) (a1 : Int32) (a2 : Int32) : Option (mh_M × Int32) :=
  bd (fX10_isBar n M a0) (fun v1 : Int32 =>
  (if v1 = 0 then
    some (M, (-1000000000 : Int32))
  else
    bd (fX10_isKind n M a1) (fun v3 : Int32 =>
    (if v3 = 0 then
      some (M, (-1000000000 : Int32))
    else
      bd (fX10_in n M a2 (1 : Int32) (100 : Int32)) (fun v5 : Int32 =>
      (if v5 = 0 then
        some (M, (-1000000000 : Int32))
      else
        ck (inb a1 10) (pl (M 50 0 a1.toNatClampNeg) (fun v7 : Int32 =>
        (if a2 ≤ v7 then
          bd (fX10_issues n M a0 a1 a2) (fun M9 : mh_M =>
          bd (fX10_keeps n M9 (1 : Int32) a0 a1 a2 (0 : Int32) (0 : Int32)) (fun M10 : mh_M =>
          pl ((10 : Int32) * a0) (fun v11 : Int32 =>
          pl (v11 + a1) (fun v12 : Int32 =>
          ck (inb v12 20) (pl (M10 51 0 v12.toNatClampNeg) (fun v13 : Int32 =>
          some (M10, v13)))))))
        else
          some (M, (-1000000002 : Int32)))))))))))
def fX10_lend (n : Nat) (M : mh_M) (a0 : Int32) (a1 : Int32) (a2 : Int32) : Option (mh_M × Int32) :=
  bd (fX10_isBar n M a0) (fun v1 : Int32 =>
  (if v1 = 0 then
    some (M, (-1000000000 : Int32))
  else
    bd (fX10_isKind n M a1) (fun v3 : Int32 =>
    (if v3 = 0 then
      some (M, (-1000000000 : Int32))
    else
      bd (fX10_in n M a2 (1 : Int32) (10000 : Int32)) (fun v5 : Int32 =>
      (if v5 = 0 then
        some (M, (-1000000000 : Int32))
      else
        pl ((10 : Int32) * a0) (fun v7 : Int32 =>
        pl (v7 + a1) (fun v8 : Int32 =>
        ck (inb v8 20) (pl (M 51 0 v8.toNatClampNeg) (fun v9 : Int32 =>
        (if a2 ≤ v9 then
          bd (fX10_lends n M a0 a1 a2) (fun M11 : mh_M =>
          bd (fX10_keeps n M11 (2 : Int32) a0 a1 a2 (0 : Int32) (0 : Int32)) (fun M12 : mh_M =>
          pl ((1 : Int32) - a0) (fun v13 : Int32 =>
          pl ((10 : Int32) * v13) (fun v14 : Int32 =>
          pl (v14 + a1) (fun v15 : Int32 =>
          ck (inb v15 20) (pl (M12 51 0 v15.toNatClampNeg) (fun v16 : Int32 =>
          some (M12, v16))))))))
        else
          some (M, (-1000000002 : Int32)))))))))))))
def fX10_holds (n : Nat) (M : mh_M) (a0 : Int32) (a1 : Int32) (a2 : Int32) : Option (Int32) :=
  ck (inb a0 12) (pl (M 66 0 a0.toNatClampNeg) (fun v1 : Int32 =>
  pl (v1 >>> (a1 &&& 31)) (fun v2 : Int32 =>
  pl (v2 &&& (1 : Int32)) (fun v3 : Int32 =>
  (if v3 = (1 : Int32) then
    ck (inb a0 12) (pl (M 66 0 a0.toNatClampNeg) (fun v39 : Int32 =>
    pl (a1 + (6 : Int32)) (fun v40 : Int32 =>
    ck (!decide ((7 : Int32) = 0)) (pl (v40 - v40 / (7 : Int32) * (7 : Int32)) (fun v41 : Int32 =>
    pl (v39 >>> (v41 &&& 31)) (fun v42 : Int32 =>
    pl (v42 &&& (1 : Int32)) (fun v43 : Int32 =>
    (if v43 = (1 : Int32) then
      ck (inb a0 12) (pl (M 68 0 a0.toNatClampNeg) (fun v59 : Int32 =>
      ck (inb a0 12) (pl (M 67 0 a0.toNatClampNeg) (fun v60 : Int32 =>
      (if v59 ≤ v60 then
        ck (inb a0 12) (pl (M 67 0 a0.toNatClampNeg) (fun v62 : Int32 =>
        (if a2 < v62 then
          ck (inb a0 12) (pl (M 68 0 a0.toNatClampNeg) (fun v64 : Int32 =>
          (if v64 ≤ a2 then
            some (0 : Int32)
          else
            (if (1 : Int32) = 0 then
              some (0 : Int32)
            else
              some (1 : Int32)))))
        else
          some (1 : Int32))))
      else
        (if (1 : Int32) = 0 then
          some (0 : Int32)
        else
          ck (inb a0 12) (pl (M 67 0 a0.toNatClampNeg) (fun v68 : Int32 =>
          ck (inb a0 12) (pl (M 68 0 a0.toNatClampNeg) (fun v69 : Int32 =>
          pl (v69 - (1 : Int32)) (fun v70 : Int32 =>
          bd (fX10_in n M a2 v68 v70) (fun v71 : Int32 =>
          (if v71 = 0 then
            some (0 : Int32)
          else
            some (1 : Int32))))))))))))))
    else
      ck (inb a0 12) (pl (M 68 0 a0.toNatClampNeg) (fun v45 : Int32 =>
      ck (inb a0 12) (pl (M 67 0 a0.toNatClampNeg) (fun v46 : Int32 =>
      (if v45 ≤ v46 then
        ck (inb a0 12) (pl (M 67 0 a0.toNatClampNeg) (fun v48 : Int32 =>
        (if a2 < v48 then
          ck (inb a0 12) (pl (M 68 0 a0.toNatClampNeg) (fun v50 : Int32 =>
          (if v50 ≤ a2 then
            some (0 : Int32)
          else
            (if (0 : Int32) = 0 then
              some (0 : Int32)
            else
              some (1 : Int32)))))
        else
          some (1 : Int32))))
      else
        (if (1 : Int32) = 0 then
          some (0 : Int32)
        else
          ck (inb a0 12) (pl (M 67 0 a0.toNatClampNeg) (fun v54 : Int32 =>
          ck (inb a0 12) (pl (M 68 0 a0.toNatClampNeg) (fun v55 : Int32 =>
          pl (v55 - (1 : Int32)) (fun v56 : Int32 =>
          bd (fX10_in n M a2 v54 v56) (fun v57 : Int32 =>
          (if v57 = 0 then
            some (0 : Int32)
          else
            some (1 : Int32))))))))))))))))))))))
  else
    ck (inb a0 12) (pl (M 66 0 a0.toNatClampNeg) (fun v5 : Int32 =>
    pl (a1 + (6 : Int32)) (fun v6 : Int32 =>
    ck (!decide ((7 : Int32) = 0)) (pl (v6 - v6 / (7 : Int32) * (7 : Int32)) (fun v7 : Int32 =>
    pl (v5 >>> (v7 &&& 31)) (fun v8 : Int32 =>
    pl (v8 &&& (1 : Int32)) (fun v9 : Int32 =>
    (if v9 = (1 : Int32) then
      ck (inb a0 12) (pl (M 68 0 a0.toNatClampNeg) (fun v25 : Int32 =>
      ck (inb a0 12) (pl (M 67 0 a0.toNatClampNeg) (fun v26 : Int32 =>
      (if v25 ≤ v26 then
        ck (inb a0 12) (pl (M 67 0 a0.toNatClampNeg) (fun v28 : Int32 =>
        (if a2 < v28 then
          ck (inb a0 12) (pl (M 68 0 a0.toNatClampNeg) (fun v30 : Int32 =>
          (if v30 ≤ a2 then
            some (0 : Int32)
          else
            (if (1 : Int32) = 0 then
              some (0 : Int32)
            else
              some (1 : Int32)))))
        else
          some (0 : Int32))))
      else
        (if (0 : Int32) = 0 then
          some (0 : Int32)
        else
          ck (inb a0 12) (pl (M 67 0 a0.toNatClampNeg) (fun v34 : Int32 =>
          ck (inb a0 12) (pl (M 68 0 a0.toNatClampNeg) (fun v35 : Int32 =>
          pl (v35 - (1 : Int32)) (fun v36 : Int32 =>
          bd (fX10_in n M a2 v34 v36) (fun v37 : Int32 =>
          (if v37 = 0 then
            some (0 : Int32)
          else
            some (1 : Int32))))))))))))))
    else
      ck (inb a0 12) (pl (M 68 0 a0.toNatClampNeg) (fun v11 : Int32 =>
      ck (inb a0 12) (pl (M 67 0 a0.toNatClampNeg) (fun v12 : Int32 =>
      (if v11 ≤ v12 then
        ck (inb a0 12) (pl (M 67 0 a0.toNatClampNeg) (fun v14 : Int32 =>
        (if a2 < v14 then
          ck (inb a0 12) (pl (M 68 0 a0.toNatClampNeg) (fun v16 : Int32 =>
          (if v16 ≤ a2 then
            some (0 : Int32)
          else
            (if (0 : Int32) = 0 then
              some (0 : Int32)
            else
              some (1 : Int32)))))
        else
          some (0 : Int32))))
      else
        (if (0 : Int32) = 0 then
          some (0 : Int32)
        else
          ck (inb a0 12) (pl (M 67 0 a0.toNatClampNeg) (fun v20 : Int32 =>
          ck (inb a0 12) (pl (M 68 0 a0.toNatClampNeg) (fun v21 : Int32 =>
          pl (v21 - (1 : Int32)) (fun v22 : Int32 =>
          bd (fX10_in n M a2 v20 v22) (fun v23 : Int32 =>
          (if v23 = 0 then
            some (0 : Int32)
          else
            some (1 : Int32)))))))))))))))))))))))))))
def fX10_priceOf_L11 (n : Nat) (M : mh_M) (x1 : Int32) (x2 : Int32) (x3 : Int32) (rec : Int32 → Int32 → Option (Int32)) (x4 : Int32) (x5 : Int32) : Option (Int32) :=
  pl (M 40 0 24) (fun v2 : Int32 =>
  (if v2 ≤ x5 then
    ck (inb (4 : Int32) 7) (pl (M 49 0 (4 : Int32).toNatClampNeg) (fun v4 : Int32 =>
    (if v4 ≤ x4 then
      some x4
    else
      ck (inb (4 : Int32) 7) (pl (M 49 0 (4 : Int32).toNatClampNeg) (fun v6 : Int32 =>
      some v6)))))
  else
    bd (fX10_holds n M x5 x2 x3) (fun v7 : Int32 =>
    (if v7 = 0 then
      pl (x5 + (1 : Int32)) (fun v9 : Int32 =>
      rec x4 v9)
    else
      ck (inb x1 12) (pl (M 46 0 x1.toNatClampNeg) (fun v10 : Int32 =>
      ck (inb x5 12) (pl (M 69 0 x5.toNatClampNeg) (fun v11 : Int32 =>
      pl (v10 * v11) (fun v12 : Int32 =>
      ck (!decide ((100 : Int32) = 0)) (pl (v12 / (100 : Int32)) (fun v13 : Int32 =>
      pl (x5 + (1 : Int32)) (fun v14 : Int32 =>
      rec v13 v14))))))))))))
def fX10_priceOf (n : Nat) (M : mh_M) (a0 : Int32) (a1 : Int32) (a2 : Int32) : Option (Int32) :=
  ck (inb a0 12) (pl (M 46 0 a0.toNatClampNeg) (fun v1 : Int32 =>
  itr2 (fX10_priceOf_L11 n M a0 a1 a2) n v1 (0 : Int32)))
def fX10_sell (n : Nat) (M : mh_M) (a0 : Int32) (a1 : Int32) (a2 : Int32) (a3 : Int32) (a4 : Int32) : Option (mh_M × Int32) :=
  bd (fX10_isBar n M a0) (fun v1 : Int32 =>
  (if v1 = 0 then
    some (M, (-1 : Int32))
  else
    bd (fX10_isRecipe n M a1) (fun v3 : Int32 =>
    (if v3 = 0 then
      some (M, (-1 : Int32))
    else
      bd (fX10_in n M a2 (1 : Int32) (100 : Int32)) (fun v5 : Int32 =>
      (if v5 = 0 then
        some (M, (-1 : Int32))
      else
        bd (fX10_in n M a3 (0 : Int32) (6 : Int32)) (fun v7 : Int32 =>
        (if v7 = 0 then
          some (M, (-1 : Int32))
        else
          bd (fX10_in n M a4 (0 : Int32) (1439 : Int32)) (fun v9 : Int32 =>
          (if v9 = 0 then
            some (M, (-1 : Int32))
          else
            bd (fX10_priceOf n M a1 a3 a4) (fun v11 : Int32 =>
            pl (a2 * v11) (fun v12 : Int32 =>
            bd (fX10_sells n M a0 a1 a2 v12) (fun M13 : mh_M =>
            ck (inb a1 12) (pl (mh_up M13 48 0 a1.toNatClampNeg (vp_nar .boolean (1 : Int32))) (fun M14 : mh_M =>
            bd (fX10_keeps n M14 (3 : Int32) a0 a1 a2 v12 (0 : Int32)) (fun M15 : mh_M =>
            some (M15, v12)))))))))))))))))
def fX10_lose (n : Nat) (M : mh_M) (a0 : Int32) (a1 : Int32) (a2 : Int32) (a3 : Int32) : Option (mh_M × Int32) :=
  bd (fX10_isBar n M a0) (fun v1 : Int32 =>
  (if v1 = 0 then
    some (M, (-1000000000 : Int32))
  else
    bd (fX10_isKind n M a1) (fun v3 : Int32 =>
    (if v3 = 0 then
      some (M, (-1000000000 : Int32))
    else
      bd (fX10_in n M a2 (0 : Int32) (1 : Int32)) (fun v5 : Int32 =>
      (if v5 = 0 then
        some (M, (-1000000000 : Int32))
      else
        bd (fX10_in n M a3 (1 : Int32) (10000 : Int32)) (fun v7 : Int32 =>
        (if v7 = 0 then
          some (M, (-1000000000 : Int32))
        else
          bd (fX10_loses n M a0 a1 a2 a3) (fun M9 : mh_M =>
          pl ((4 : Int32) + a2) (fun v10 : Int32 =>
          bd (fX10_keeps n M9 v10 a0 a1 a3 (0 : Int32) (0 : Int32)) (fun M11 : mh_M =>
          pl ((10 : Int32) * a0) (fun v12 : Int32 =>
          pl (v12 + a1) (fun v13 : Int32 =>
          ck (inb v13 20) (pl (M11 51 0 v13.toNatClampNeg) (fun v14 : Int32 =>
          some (M11, v14))))))))))))))))
def fX10_spanNow (n : Nat) (M : mh_M) (a0 : Int32) : Option (Int32) :=
  ck (!decide ((10 : Int32) = 0)) (pl (a0 - a0 / (10 : Int32) * (10 : Int32)) (fun v1 : Int32 =>
  ck (inb (0 : Int32) 7) (pl (M 49 0 (0 : Int32).toNatClampNeg) (fun v2 : Int32 =>
  pl (v2 * (100 : Int32)) (fun v3 : Int32 =>
  ck (inb v1 10) (pl (M 44 0 v1.toNatClampNeg) (fun v4 : Int32 =>
  pl (v3 + v4) (fun v5 : Int32 =>
  pl (v5 - (1 : Int32)) (fun v6 : Int32 =>
  ck (inb v1 10) (pl (M 44 0 v1.toNatClampNeg) (fun v7 : Int32 =>
  ck (!decide (v7 = 0)) (pl (v6 / v7) (fun v8 : Int32 =>
  ck (inb (1 : Int32) 7) (pl (M 49 0 (1 : Int32).toNatClampNeg) (fun v9 : Int32 =>
  ck (inb a0 400) (pl (M 55 0 a0.toNatClampNeg) (fun v10 : Int32 =>
  pl (v9 * v10) (fun v11 : Int32 =>
  pl (v8 + v11) (fun v12 : Int32 =>
  some v12)))))))))))))))))))
def fX10_weigh (n : Nat) (M : mh_M) (a0 : Int32) (a1 : Int32) (a2 : Int32) (a3 : Int32) : Option (mh_M × Int32) :=
  bd (fX10_isBar n M a0) (fun v1 : Int32 =>
  (if v1 = 0 then
    some (M, (-1000000000 : Int32))
  else
    bd (fX10_isKind n M a1) (fun v3 : Int32 =>
    (if v3 = 0 then
      some (M, (-1000000000 : Int32))
    else
      bd (fX10_in n M a2 (0 : Int32) (50 : Int32)) (fun v5 : Int32 =>
      (if v5 = 0 then
        some (M, (-1000000000 : Int32))
      else
        bd (fX10_in n M a3 (0 : Int32) (5000 : Int32)) (fun v7 : Int32 =>
        (if v7 = 0 then
          some (M, (-1000000000 : Int32))
        else
          pl (M 40 0 11) (fun v9 : Int32 =>
          bd (fX10_at n M v9 a0 a1) (fun v10 : Int32 =>
          ck (inb v10 400) (pl (M 54 0 v10.toNatClampNeg) (fun v11 : Int32 =>
          (if v11 = 0 then
            ck (inb a1 10) (pl (M 42 0 a1.toNatClampNeg) (fun v13 : Int32 =>
            (if v13 ≤ a3 then
              ck (inb a1 10) (pl (M 42 0 a1.toNatClampNeg) (fun v15 : Int32 =>
              pl (a3 - v15) (fun v16 : Int32 =>
              ck (inb a1 10) (pl (M 43 0 a1.toNatClampNeg) (fun v17 : Int32 =>
              pl (v17 * a2) (fun v18 : Int32 =>
              pl ((100 : Int32) * v16) (fun v19 : Int32 =>
              ck (inb a1 10) (pl (M 44 0 a1.toNatClampNeg) (fun v20 : Int32 =>
              ck (!decide (v20 = 0)) (pl (v19 / v20) (fun v21 : Int32 =>
              pl (v18 + v21) (fun v22 : Int32 =>
              pl ((10 : Int32) * a0) (fun v23 : Int32 =>
              pl (v23 + a1) (fun v24 : Int32 =>
              ck (inb v24 20) (pl (M 51 0 v24.toNatClampNeg) (fun v25 : Int32 =>
              pl (v25 - v22) (fun v26 : Int32 =>
              pl ((10 : Int32) * a0) (fun v27 : Int32 =>
              pl (v27 + a1) (fun v28 : Int32 =>
              ck (inb v28 20) (pl (mh_up M 51 0 v28.toNatClampNeg v22) (fun M29 : mh_M =>
              ck (inb v10 400) (pl (mh_up M29 54 0 v10.toNatClampNeg (vp_nar .boolean (1 : Int32))) (fun M30 : mh_M =>
              ck (inb v10 400) (pl (mh_up M30 53 0 v10.toNatClampNeg v26) (fun M31 : mh_M =>
              bd (fX10_spanNow n M31 v10) (fun v32 : Int32 =>
              ck (inb v10 400) (pl (mh_up M31 56 0 v10.toNatClampNeg v32) (fun M33 : mh_M =>
              pl ((5 : Int32) * a1) (fun v34 : Int32 =>
              pl (v34 + (3 : Int32)) (fun v35 : Int32 =>
              ck (inb v35 50) (pl (M33 58 0 v35.toNatClampNeg) (fun v36 : Int32 =>
              pl (v36 + v26) (fun v37 : Int32 =>
              ck (inb v35 50) (pl (mh_up M33 58 0 v35.toNatClampNeg v37) (fun M38 : mh_M =>
              bd (fX10_keeps n M38 (6 : Int32) a0 a1 v26 (0 : Int32) (0 : Int32)) (fun M39 : mh_M =>
              some (M39, v26)))))))))))))))))))))))))))))))))))))
            else
              ck (inb a1 10) (pl (M 43 0 a1.toNatClampNeg) (fun v40 : Int32 =>
              pl (v40 * a2) (fun v41 : Int32 =>
              pl ((100 : Int32) * (0 : Int32)) (fun v42 : Int32 =>
              ck (inb a1 10) (pl (M 44 0 a1.toNatClampNeg) (fun v43 : Int32 =>
              ck (!decide (v43 = 0)) (pl (v42 / v43) (fun v44 : Int32 =>
              pl (v41 + v44) (fun v45 : Int32 =>
              pl ((10 : Int32) * a0) (fun v46 : Int32 =>
              pl (v46 + a1) (fun v47 : Int32 =>
              ck (inb v47 20) (pl (M 51 0 v47.toNatClampNeg) (fun v48 : Int32 =>
              pl (v48 - v45) (fun v49 : Int32 =>
              pl ((10 : Int32) * a0) (fun v50 : Int32 =>
              pl (v50 + a1) (fun v51 : Int32 =>
              ck (inb v51 20) (pl (mh_up M 51 0 v51.toNatClampNeg v45) (fun M52 : mh_M =>
              ck (inb v10 400) (pl (mh_up M52 54 0 v10.toNatClampNeg (vp_nar .boolean (1 : Int32))) (fun M53 : mh_M =>
              ck (inb v10 400) (pl (mh_up M53 53 0 v10.toNatClampNeg v49) (fun M54 : mh_M =>
              bd (fX10_spanNow n M54 v10) (fun v55 : Int32 =>
              ck (inb v10 400) (pl (mh_up M54 56 0 v10.toNatClampNeg v55) (fun M56 : mh_M =>
              pl ((5 : Int32) * a1) (fun v57 : Int32 =>
              pl (v57 + (3 : Int32)) (fun v58 : Int32 =>
              ck (inb v58 50) (pl (M56 58 0 v58.toNatClampNeg) (fun v59 : Int32 =>
              pl (v59 + v49) (fun v60 : Int32 =>
              ck (inb v58 50) (pl (mh_up M56 58 0 v58.toNatClampNeg v60) (fun M61 : mh_M =>
              bd (fX10_keeps n M61 (6 : Int32) a0 a1 v49 (0 : Int32) (0 : Int32)) (fun M62 : mh_M =>
              some (M62, v49)))))))))))))))))))))))))))))))))))))
          else
            some (M, (-1000000002 : Int32)))))))))))))))
def fX10_undo (n : Nat) (M : mh_M) : Option (mh_M × Int32) :=
  pl (M 40 0 19) (fun v1 : Int32 =>
  (if v1 = 0 then
    some (M, (-2 : Int32))
  else
    pl (M 40 0 19) (fun v3 : Int32 =>
    pl (v3 - (1 : Int32)) (fun v4 : Int32 =>
    pl (mh_up M 40 0 19 v4) (fun M5 : mh_M =>
    pl (M5 40 0 19) (fun v6 : Int32 =>
    pl ((6 : Int32) * v6) (fun v7 : Int32 =>
    ck (inb v7 240) (pl (M5 61 0 v7.toNatClampNeg) (fun v8 : Int32 =>
    pl (M5 40 0 19) (fun v9 : Int32 =>
    pl ((6 : Int32) * v9) (fun v10 : Int32 =>
    pl (v10 + (1 : Int32)) (fun v11 : Int32 =>
    ck (inb v11 240) (pl (M5 61 0 v11.toNatClampNeg) (fun v12 : Int32 =>
    pl (M5 40 0 19) (fun v13 : Int32 =>
    pl ((6 : Int32) * v13) (fun v14 : Int32 =>
    pl (v14 + (2 : Int32)) (fun v15 : Int32 =>
    ck (inb v15 240) (pl (M5 61 0 v15.toNatClampNeg) (fun v16 : Int32 =>
    pl (M5 40 0 19) (fun v17 : Int32 =>
    pl ((6 : Int32) * v17) (fun v18 : Int32 =>
    pl (v18 + (3 : Int32)) (fun v19 : Int32 =>
    ck (inb v19 240) (pl (M5 61 0 v19.toNatClampNeg) (fun v20 : Int32 =>
    (if v8 = 0 then
      pl (-v20) (fun v53 : Int32 =>
      bd (fX10_receives n M5 v16 v53) (fun M54 : mh_M =>
      some (M54, v8)))
    else
      (if v8 = (1 : Int32) then
        pl (-v20) (fun v51 : Int32 =>
        bd (fX10_issues n M5 v12 v16 v51) (fun M52 : mh_M =>
        some (M52, v8)))
      else
        (if v8 = (2 : Int32) then
          pl (-v20) (fun v49 : Int32 =>
          bd (fX10_lends n M5 v12 v16 v49) (fun M50 : mh_M =>
          some (M50, v8)))
        else
          (if v8 = (3 : Int32) then
            pl (-v20) (fun v42 : Int32 =>
            pl (M5 40 0 19) (fun v43 : Int32 =>
            pl ((6 : Int32) * v43) (fun v44 : Int32 =>
            pl (v44 + (4 : Int32)) (fun v45 : Int32 =>
            ck (inb v45 240) (pl (M5 61 0 v45.toNatClampNeg) (fun v46 : Int32 =>
            pl (-v46) (fun v47 : Int32 =>
            bd (fX10_sells n M5 v12 v16 v42 v47) (fun M48 : mh_M =>
            some (M48, v8)))))))))
          else
            (if v8 = (6 : Int32) then
              pl ((10 : Int32) * v12) (fun v29 : Int32 =>
              pl (v29 + v16) (fun v30 : Int32 =>
              ck (inb v30 20) (pl (M5 51 0 v30.toNatClampNeg) (fun v31 : Int32 =>
              pl (v31 + v20) (fun v32 : Int32 =>
              ck (inb v30 20) (pl (mh_up M5 51 0 v30.toNatClampNeg v32) (fun M33 : mh_M =>
              pl ((5 : Int32) * v16) (fun v34 : Int32 =>
              pl (v34 + (3 : Int32)) (fun v35 : Int32 =>
              ck (inb v35 50) (pl (M33 58 0 v35.toNatClampNeg) (fun v36 : Int32 =>
              pl (v36 - v20) (fun v37 : Int32 =>
              ck (inb v35 50) (pl (mh_up M33 58 0 v35.toNatClampNeg v37) (fun M38 : mh_M =>
              pl (M38 40 0 11) (fun v39 : Int32 =>
              bd (fX10_at n M38 v39 v12 v16) (fun v40 : Int32 =>
              ck (inb v40 400) (pl (mh_up M38 54 0 v40.toNatClampNeg (vp_nar .boolean (0 : Int32))) (fun M41 : mh_M =>
              some (M41, v8)))))))))))))))))))
            else
              pl (v8 - (4 : Int32)) (fun v26 : Int32 =>
              pl (-v20) (fun v27 : Int32 =>
              bd (fX10_loses n M5 v12 v16 v26 v27) (fun M28 : mh_M =>
              some (M28, v8)))))))))))))))))))))))))))))))))
def fX10_keeper (n : Nat) (M : mh_M) (a0 : Int32) (a1 : Int32) : Option (mh_M × Int32) :=
  bd (fX10_isBar n M a0) (fun v1 : Int32 =>
  (if v1 = 0 then
    some (M, (-1 : Int32))
  else
    bd (fX10_in n M a1 (0 : Int32) (2 : Int32)) (fun v3 : Int32 =>
    (if v3 = 0 then
      some (M, (-1 : Int32))
    else
      pl (M 40 0 11) (fun v5 : Int32 =>
      pl ((2 : Int32) * v5) (fun v6 : Int32 =>
      pl (v6 + a0) (fun v7 : Int32 =>
      ck (inb v7 40) (pl (M 57 0 v7.toNatClampNeg) (fun v8 : Int32 =>
      pl (M 40 0 11) (fun v9 : Int32 =>
      pl ((2 : Int32) * v9) (fun v10 : Int32 =>
      pl (v10 + a0) (fun v11 : Int32 =>
      ck (inb v11 40) (pl (mh_up M 57 0 v11.toNatClampNeg a1) (fun M12 : mh_M =>
      some (M12, v8)))))))))))))))
def fX10_night_L79 (n : Nat) (rec : mh_M → Int32 → Option (mh_M × Int32)) (M : mh_M) (x1 : Int32) : Option (mh_M × Int32) :=
  (if (12 : Int32) ≤ x1 then
    pl (M 40 0 11) (fun v23 : Int32 =>
    some (M, v23))
  else
    ck (inb x1 12) (pl (mh_up M 48 0 x1.toNatClampNeg (vp_nar .boolean (0 : Int32))) (fun M24 : mh_M =>
    pl (x1 + (1 : Int32)) (fun v25 : Int32 =>
    rec M24 v25))))
def fX10_night (n : Nat) (M : mh_M) : Option (mh_M × Int32) :=
  pl (M 40 0 11) (fun v1 : Int32 =>
  (if v1 = (19 : Int32) then
    some (M, (-3 : Int32))
  else
    pl (M 40 0 11) (fun v3 : Int32 =>
    pl (v3 + (1 : Int32)) (fun v4 : Int32 =>
    pl (mh_up M 40 0 11 v4) (fun M5 : mh_M =>
    pl (M5 40 0 11) (fun v6 : Int32 =>
    pl ((2 : Int32) * v6) (fun v7 : Int32 =>
    pl (M5 40 0 11) (fun v8 : Int32 =>
    pl ((2 : Int32) * v8) (fun v9 : Int32 =>
    pl (v9 - (2 : Int32)) (fun v10 : Int32 =>
    ck (inb v10 40) (pl (M5 57 0 v10.toNatClampNeg) (fun v11 : Int32 =>
    ck (inb v7 40) (pl (mh_up M5 57 0 v7.toNatClampNeg v11) (fun M12 : mh_M =>
    pl (M12 40 0 11) (fun v13 : Int32 =>
    pl ((2 : Int32) * v13) (fun v14 : Int32 =>
    pl (v14 + (1 : Int32)) (fun v15 : Int32 =>
    pl (M12 40 0 11) (fun v16 : Int32 =>
    pl ((2 : Int32) * v16) (fun v17 : Int32 =>
    pl (v17 - (1 : Int32)) (fun v18 : Int32 =>
    ck (inb v18 40) (pl (M12 57 0 v18.toNatClampNeg) (fun v19 : Int32 =>
    ck (inb v15 40) (pl (mh_up M12 57 0 v15.toNatClampNeg v19) (fun M20 : mh_M =>
    pl (mh_up M20 40 0 19 (0 : Int32)) (fun M21 : mh_M =>
    itr2 (fX10_night_L79 n) n M21 (0 : Int32))))))))))))))))))))))))))
def fX10_has (n : Nat) (M : mh_M) (a0 : Int32) (a1 : Int32) : Option (Int32) :=
  bd (fX10_in n M a0 (0 : Int32) (2 : Int32)) (fun v1 : Int32 =>
  (if v1 = 0 then
    some (-1000000000 : Int32)
  else
    bd (fX10_isKind n M a1) (fun v3 : Int32 =>
    (if v3 = 0 then
      some (-1000000000 : Int32)
    else
      (if a0 = (2 : Int32) then
        ck (inb a1 10) (pl (M 50 0 a1.toNatClampNeg) (fun v9 : Int32 =>
        some v9))
      else
        pl ((10 : Int32) * a0) (fun v6 : Int32 =>
        pl (v6 + a1) (fun v7 : Int32 =>
        ck (inb v7 20) (pl (M 51 0 v7.toNatClampNeg) (fun v8 : Int32 =>
        some v8)))))))))
def fX10_all (n : Nat) (M : mh_M) (a0 : Int32) (a1 : Int32) : Option (Int32) :=
  bd (fX10_isKind n M a0) (fun v1 : Int32 =>
  (if v1 = 0 then
    some (-1000000000 : Int32)
  else
    bd (fX10_in n M a1 (0 : Int32) (4 : Int32)) (fun v3 : Int32 =>
    (if v3 = 0 then
      some (-1000000000 : Int32)
    else
      pl ((5 : Int32) * a0) (fun v5 : Int32 =>
      pl (v5 + a1) (fun v6 : Int32 =>
      ck (inb v6 50) (pl (M 58 0 v6.toNatClampNeg) (fun v7 : Int32 =>
      some v7))))))))
def fX10_spanOf (n : Nat) (M : mh_M) (a0 : Int32) : Option (Int32) :=
  ck (inb a0 400) (pl (M 54 0 a0.toNatClampNeg) (fun v1 : Int32 =>
  (if v1 = 0 then
    bd (fX10_spanNow n M a0) (fun v3 : Int32 =>
    some v3)
  else
    ck (inb a0 400) (pl (M 56 0 a0.toNatClampNeg) (fun v4 : Int32 =>
    some v4)))))
def fX10_isTold (n : Nat) (M : mh_M) (a0 : Int32) : Option (Int32) :=
  ck (inb a0 400) (pl (M 53 0 a0.toNatClampNeg) (fun v1 : Int32 =>
  (if 0 ≤ v1 then
    ck (inb a0 400) (pl (M 53 0 a0.toNatClampNeg) (fun v3 : Int32 =>
    ck (inb a0 400) (pl (M 54 0 a0.toNatClampNeg) (fun v4 : Int32 =>
    (if v4 = 0 then
      some (0 : Int32)
    else
      bd (fX10_spanOf n M a0) (fun v6 : Int32 =>
      (if v3 ≤ v6 then
        some (0 : Int32)
      else
        some (1 : Int32))))))))
  else
    ck (inb a0 400) (pl (M 53 0 a0.toNatClampNeg) (fun v8 : Int32 =>
    pl (-v8) (fun v9 : Int32 =>
    ck (inb a0 400) (pl (M 54 0 a0.toNatClampNeg) (fun v10 : Int32 =>
    (if v10 = 0 then
      some (0 : Int32)
    else
      bd (fX10_spanOf n M a0) (fun v12 : Int32 =>
      (if v9 ≤ v12 then
        some (0 : Int32)
      else
        some (1 : Int32))))))))))))
def fX10_gap (n : Nat) (M : mh_M) (a0 : Int32) (a1 : Int32) (a2 : Int32) (a3 : Int32) : Option (Int32) :=
  pl (M 40 0 11) (fun v1 : Int32 =>
  bd (fX10_in n M a0 (0 : Int32) v1) (fun v2 : Int32 =>
  (if v2 = 0 then
    some (-1000000000 : Int32)
  else
    bd (fX10_isBar n M a1) (fun v4 : Int32 =>
    (if v4 = 0 then
      some (-1000000000 : Int32)
    else
      bd (fX10_isKind n M a2) (fun v6 : Int32 =>
      (if v6 = 0 then
        some (-1000000000 : Int32)
      else
        bd (fX10_in n M a3 (0 : Int32) (4 : Int32)) (fun v8 : Int32 =>
        (if v8 = 0 then
          some (-1000000000 : Int32)
        else
          bd (fX10_at n M a0 a1 a2) (fun v10 : Int32 =>
          (if a3 = 0 then
            ck (inb v10 400) (pl (M 54 0 v10.toNatClampNeg) (fun v12 : Int32 =>
            (if v12 = 0 then
              some (-1000000004 : Int32)
            else
              ck (inb v10 400) (pl (M 53 0 v10.toNatClampNeg) (fun v14 : Int32 =>
              some v14)))))
          else
          (if a3 = 1 then
            bd (fX10_spanOf n M v10) (fun v16 : Int32 =>
            some v16)
          else
          (if a3 = 2 then
            bd (fX10_isTold n M v10) (fun v18 : Int32 =>
            (if v18 = 0 then
              some (0 : Int32)
            else
              some (1 : Int32)))
          else
          (if a3 = 3 then
            ck (inb v10 400) (pl (M 55 0 v10.toNatClampNeg) (fun v21 : Int32 =>
            some v21))
          else
            pl ((2 : Int32) * a0) (fun v22 : Int32 =>
            pl (v22 + a1) (fun v23 : Int32 =>
            ck (inb v23 40) (pl (M 57 0 v23.toNatClampNeg) (fun v24 : Int32 =>
            some v24))))))))))))))))))
def fX10_counts (n : Nat) (M : mh_M) (a0 : Int32) (a1 : Int32) (a2 : Int32) (a3 : Int32) : Option (Int32) :=
  bd (fX10_at n M a0 a1 a3) (fun v1 : Int32 =>
  pl ((2 : Int32) * a0) (fun v2 : Int32 =>
  pl (v2 + a1) (fun v3 : Int32 =>
  ck (inb v3 40) (pl (M 57 0 v3.toNatClampNeg) (fun v4 : Int32 =>
  (if v4 = a2 then
    ck (inb v1 400) (pl (M 54 0 v1.toNatClampNeg) (fun v6 : Int32 =>
    (if v6 = 0 then
      some (0 : Int32)
    else
      ck (inb v1 400) (pl (M 55 0 v1.toNatClampNeg) (fun v8 : Int32 =>
      (if v8 ≤ 0 then
        some (0 : Int32)
      else
        some (1 : Int32)))))))
  else
    some (0 : Int32)))))))
def fX10_common_L17 (n : Nat) (M : mh_M) (rec : Int64 → Int64 → Option (Int64)) (x4 : Int64) (x6 : Int64) : Option (Int64) :=
  pl (lg_cmp x6 (0 : Int64)) (fun v3 : Int32 =>
  (if v3 = 0 then
    some x4
  else
    ck (!decide (x6 = 0)) (pl (x4 - x4 / x6 * x6) (fun v5 : Int64 =>
    rec x6 v5))))
def fX10_common (n : Nat) (M : mh_M) (a0 : Int64) (a1 : Int64) : Option (Int64) :=
  pl (lg_cmp a0 (0 : Int64)) (fun v1 : Int32 =>
  (if 0 ≤ v1 then
    itr2 (fX10_common_L17 n M) n a0 a1
  else
    pl (-a0) (fun v6 : Int64 =>
    itr2 (fX10_common_L17 n M) n v6 a1)))
def fX10_over_L54 (n : Nat) (M : mh_M) (x1 : Int32) (x2 : Int32) (x3 : Int32) (x9 : Int32) (k42 : Int32 → Int64 → Int64 → Int32 → Option (Int64)) (rec : Int32 → Int64 → Int64 → Int32 → Option (Int64)) (x4 : Int32) (x5 : Int64) (x7 : Int64) (x10 : Int32) : Option (Int64) :=
  (if (2 : Int32) ≤ x10 then
    pl (x9 + (1 : Int32)) (fun v16 : Int32 =>
    k42 x4 x5 x7 v16)
  else
    bd (fX10_counts n M x9 x10 x1 x2) (fun v17 : Int32 =>
    (if v17 = 0 then
      pl (x10 + (1 : Int32)) (fun v19 : Int32 =>
      rec x4 x5 x7 v19)
    else
      bd (fX10_at n M x9 x10 x2) (fun v20 : Int32 =>
      ck (inb v20 400) (pl (M 55 0 v20.toNatClampNeg) (fun v21 : Int32 =>
      pl (v21.toInt64) (fun v22 : Int64 =>
      pl (x4 + (1 : Int32)) (fun v23 : Int32 =>
      bd (fX10_at n M x9 x10 x2) (fun v24 : Int32 =>
      ck (inb v24 400) (pl (M 53 0 v24.toNatClampNeg) (fun v25 : Int32 =>
      pl (v25.toInt64) (fun v26 : Int64 =>
      pl (v26 * v22) (fun v27 : Int64 =>
      pl (x5 + v27) (fun v28 : Int64 =>
      pl (v22 * v22) (fun v29 : Int64 =>
      pl (x7 + v29) (fun v30 : Int64 =>
      pl (x10 + (1 : Int32)) (fun v31 : Int32 =>
      rec v23 v28 v30 v31)))))))))))))))))
def fX10_over_L42 (n : Nat) (M : mh_M) (x1 : Int32) (x2 : Int32) (x3 : Int32) (rec : Int32 → Int64 → Int64 → Int32 → Option (Int64)) (x4 : Int32) (x5 : Int64) (x7 : Int64) (x9 : Int32) : Option (Int64) :=
  pl (M 40 0 11) (fun v7 : Int32 =>
  (if v7 < x9 then
    (if (3 : Int32) ≤ x4 then
      (if x3 = 0 then
        bd (fX10_common n M x5 x7) (fun v13 : Int64 =>
        ck (!decide (v13 = 0)) (pl (x5 / v13) (fun v14 : Int64 =>
        some v14)))
      else
        bd (fX10_common n M x5 x7) (fun v11 : Int64 =>
        ck (!decide (v11 = 0)) (pl (x7 / v11) (fun v12 : Int64 =>
        some v12))))
    else
      some (-1000000004 : Int64))
  else
    itr4 (fX10_over_L54 n M x1 x2 x3 x9 rec) n x4 x5 x7 (0 : Int32)))
def fX10_over (n : Nat) (M : mh_M) (a0 : Int32) (a1 : Int32) (a2 : Int32) : Option (Int64) :=
  bd (fX10_in n M a0 (0 : Int32) (2 : Int32)) (fun v1 : Int32 =>
  (if v1 = 0 then
    some (-1000000000 : Int64)
  else
    bd (fX10_isKind n M a1) (fun v3 : Int32 =>
    (if v3 = 0 then
      some (-1000000000 : Int64)
    else
      bd (fX10_in n M a2 (0 : Int32) (1 : Int32)) (fun v5 : Int32 =>
      (if v5 = 0 then
        some (-1000000000 : Int64)
      else
        itr4 (fX10_over_L42 n M a0 a1 a2) n (0 : Int32) (0 : Int64) (0 : Int64) (0 : Int32)))))))
def fX10_leans_L36 (n : Nat) (M : mh_M) (x1 : Int32) (x2 : Int32) (x4 : Int32) (k24 : Int32 → Int32 → Option (Int32)) (rec : Int32 → Int32 → Option (Int32)) (x3 : Int32) (x5 : Int32) : Option (Int32) :=
  (if (2 : Int32) ≤ x5 then
    pl (x4 + (1 : Int32)) (fun v8 : Int32 =>
    k24 x3 v8)
  else
    bd (fX10_counts n M x4 x5 x1 x2) (fun v9 : Int32 =>
    (if v9 = 0 then
      pl (x3 + (0 : Int32)) (fun v11 : Int32 =>
      pl (x5 + (1 : Int32)) (fun v12 : Int32 =>
      rec v11 v12))
    else
      bd (fX10_at n M x4 x5 x2) (fun v13 : Int32 =>
      bd (fX10_isTold n M v13) (fun v14 : Int32 =>
      (if v14 = 0 then
        pl (x3 + (0 : Int32)) (fun v16 : Int32 =>
        pl (x5 + (1 : Int32)) (fun v17 : Int32 =>
        rec v16 v17))
      else
        pl (x3 + (1 : Int32)) (fun v18 : Int32 =>
        pl (x5 + (1 : Int32)) (fun v19 : Int32 =>
        rec v18 v19))))))))
def fX10_leans_L24 (n : Nat) (M : mh_M) (x1 : Int32) (x2 : Int32) (rec : Int32 → Int32 → Option (Int32)) (x3 : Int32) (x4 : Int32) : Option (Int32) :=
  pl (M 40 0 11) (fun v5 : Int32 =>
  (if v5 < x4 then
    some x3
  else
    itr2 (fX10_leans_L36 n M x1 x2 x4 rec) n x3 (0 : Int32)))
def fX10_leans (n : Nat) (M : mh_M) (a0 : Int32) (a1 : Int32) : Option (Int32) :=
  bd (fX10_in n M a0 (0 : Int32) (2 : Int32)) (fun v1 : Int32 =>
  (if v1 = 0 then
    some (-1 : Int32)
  else
    bd (fX10_isKind n M a1) (fun v3 : Int32 =>
    (if v3 = 0 then
      some (-1 : Int32)
    else
      itr2 (fX10_leans_L24 n M a0 a1) n (0 : Int32) (0 : Int32)))))
def fX10_takings (n : Nat) (M : mh_M) (a0 : Int32) : Option (Int32) :=
  bd (fX10_isBar n M a0) (fun v1 : Int32 =>
  (if v1 = 0 then
    some (-1 : Int32)
  else
    ck (inb a0 2) (pl (M 59 0 a0.toNatClampNeg) (fun v3 : Int32 =>
    some v3))))
def fX10_foretell (n : Nat) (M : mh_M) (a0 : Int32) (a1 : Int32) : Option (mh_M × Int32) :=
  bd (fX10_in n M a0 (0 : Int32) (200 : Int32)) (fun v1 : Int32 =>
  (if v1 = 0 then
    some (M, (-1 : Int32))
  else
    bd (fX10_in n M a1 (1 : Int32) (100 : Int32)) (fun v3 : Int32 =>
    (if v3 = 0 then
      some (M, (-1 : Int32))
    else
      pl (M 40 0 21) (fun v5 : Int32 =>
      (if v5 = (8 : Int32) then
        some (M, (-3 : Int32))
      else
        pl (M 40 0 21) (fun v7 : Int32 =>
        ck (inb v7 8) (pl (mh_up M 63 0 v7.toNatClampNeg a0) (fun M8 : mh_M =>
        pl (M8 40 0 21) (fun v9 : Int32 =>
        ck (inb v9 8) (pl (mh_up M8 64 0 v9.toNatClampNeg a1) (fun M10 : mh_M =>
        pl (M10 40 0 21) (fun v11 : Int32 =>
        pl (v11 + (1 : Int32)) (fun v12 : Int32 =>
        pl (mh_up M10 40 0 21 v12) (fun M13 : mh_M =>
        pl (M13 40 0 21) (fun v14 : Int32 =>
        some (M13, v14)))))))))))))))))
def fX10_forget (n : Nat) (M : mh_M) : Option (mh_M × Int32) :=
  pl (M 40 0 21) (fun v1 : Int32 =>
  pl (mh_up M 40 0 21 (0 : Int32)) (fun M2 : mh_M =>
  some (M2, v1)))
def fX10_costOf_L4 (n : Nat) (M : mh_M) (x1 : Int32) (rec : Int32 → Int32 → Option (Int32)) (x2 : Int32) (x3 : Int32) : Option (Int32) :=
  pl (M 40 0 21) (fun v1 : Int32 =>
  (if v1 ≤ x3 then
    some x2
  else
    ck (inb x3 8) (pl (M 63 0 x3.toNatClampNeg) (fun v3 : Int32 =>
    pl (x1 - v3) (fun v4 : Int32 =>
    ck (inb x3 8) (pl (M 64 0 x3.toNatClampNeg) (fun v5 : Int32 =>
    (if v4 ≤ 0 then
      ck (inb (3 : Int32) 7) (pl (M 49 0 (3 : Int32).toNatClampNeg) (fun v7 : Int32 =>
      pl (-v7) (fun v8 : Int32 =>
      pl (v8 * v4) (fun v9 : Int32 =>
      pl (v5 * v9) (fun v10 : Int32 =>
      pl (x2 + v10) (fun v11 : Int32 =>
      pl (x3 + (1 : Int32)) (fun v12 : Int32 =>
      rec v11 v12)))))))
    else
      ck (inb (2 : Int32) 7) (pl (M 49 0 (2 : Int32).toNatClampNeg) (fun v13 : Int32 =>
      pl (v13 * v4) (fun v14 : Int32 =>
      pl (v5 * v14) (fun v15 : Int32 =>
      pl (x2 + v15) (fun v16 : Int32 =>
      pl (x3 + (1 : Int32)) (fun v17 : Int32 =>
      rec v16 v17))))))))))))))
def fX10_costOf (n : Nat) (M : mh_M) (a0 : Int32) : Option (Int32) :=
  itr2 (fX10_costOf_L4 n M a0) n (0 : Int32) (0 : Int32)
def fX10_press_L37 (n : Nat) (M : mh_M) (rec : Int32 → Int32 → Option (Int32)) (x2 : Int32) (x3 : Int32) : Option (Int32) :=
  (if (200 : Int32) < x3 then
    some x2
  else
    bd (fX10_costOf n M x3) (fun v7 : Int32 =>
    bd (fX10_costOf n M x2) (fun v8 : Int32 =>
    (if v8 ≤ v7 then
      pl (x3 + (1 : Int32)) (fun v10 : Int32 =>
      rec x2 v10)
    else
      pl (x3 + (1 : Int32)) (fun v11 : Int32 =>
      rec x3 v11)))))
def fX10_press (n : Nat) (M : mh_M) (a0 : Int32) : Option (Int32) :=
  pl (M 40 0 21) (fun v1 : Int32 =>
  (if v1 = 0 then
    some (-2 : Int32)
  else
    bd (fX10_in n M a0 (-1 : Int32) (200 : Int32)) (fun v3 : Int32 =>
    (if v3 = 0 then
      some (-1 : Int32)
    else
      (if a0 < 0 then
        itr2 (fX10_press_L37 n M) n (0 : Int32) (1 : Int32)
      else
        bd (fX10_costOf n M a0) (fun v12 : Int32 =>
        some v12))))))
def fX10_madeBy_L18 (n : Nat) (M : mh_M) (x1 : Int32) (x2 : Int32) (x3 : Int32) (k4 : Int32 → Int32 → Option (Int32)) (rec : Int32 → Int32 → Option (Int32)) (x4 : Int32) (x5 : Int32) : Option (Int32) :=
  pl (M 40 0 0) (fun v3 : Int32 =>
  (if v3 ≤ x5 then
    (if x4 = 0 then
      pl (x2 + (0 : Int32)) (fun v6 : Int32 =>
      pl (x3 + (1 : Int32)) (fun v7 : Int32 =>
      k4 v6 v7))
    else
      pl (x1 ^^^ (-1 : Int32)) (fun v8 : Int32 =>
      pl (x4 &&& v8) (fun v9 : Int32 =>
      (if v9 = 0 then
        pl (x2 + (1 : Int32)) (fun v13 : Int32 =>
        pl (x3 + (1 : Int32)) (fun v14 : Int32 =>
        k4 v13 v14))
      else
        pl (x2 + (0 : Int32)) (fun v11 : Int32 =>
        pl (x3 + (1 : Int32)) (fun v12 : Int32 =>
        k4 v11 v12))))))
  else
    pl ((10 : Int32) * x3) (fun v15 : Int32 =>
    pl (v15 + x5) (fun v16 : Int32 =>
    ck (inb v16 120) (pl (M 47 0 v16.toNatClampNeg) (fun v17 : Int32 =>
    (if v17 ≤ 0 then
      pl (x4 ||| (0 : Int32)) (fun v19 : Int32 =>
      pl (x5 + (1 : Int32)) (fun v20 : Int32 =>
      rec v19 v20))
    else
      pl ((1 : Int32) <<< (x5 &&& 31)) (fun v21 : Int32 =>
      pl (x4 ||| v21) (fun v22 : Int32 =>
      pl (x5 + (1 : Int32)) (fun v23 : Int32 =>
      rec v22 v23))))))))))
def fX10_madeBy_L4 (n : Nat) (M : mh_M) (x1 : Int32) (rec : Int32 → Int32 → Option (Int32)) (x2 : Int32) (x3 : Int32) : Option (Int32) :=
  pl (M 40 0 4) (fun v1 : Int32 =>
  (if v1 ≤ x3 then
    some x2
  else
    itr2 (fX10_madeBy_L18 n M x1 x2 x3 rec) n (0 : Int32) (0 : Int32)))
def fX10_madeBy (n : Nat) (M : mh_M) (a0 : Int32) : Option (Int32) :=
  itr2 (fX10_madeBy_L4 n M a0) n (0 : Int32) (0 : Int32)
def fX10_bits_L4 (n : Nat) (M : mh_M) (x0 : Int32) (rec : Int32 → Int32 → Option (Int32)) (x1 : Int32) (x2 : Int32) : Option (Int32) :=
  (if (10 : Int32) ≤ x2 then
    some x1
  else
    pl (x0 >>> (x2 &&& 31)) (fun v2 : Int32 =>
    pl (v2 &&& (1 : Int32)) (fun v3 : Int32 =>
    pl (x1 + v3) (fun v4 : Int32 =>
    pl (x2 + (1 : Int32)) (fun v5 : Int32 =>
    rec v4 v5)))))
def fX10_bits (n : Nat) (M : mh_M) (a0 : Int32) : Option (Int32) :=
  itr2 (fX10_bits_L4 n M a0) n (0 : Int32) (0 : Int32)
def fX10_makes (n : Nat) (M : mh_M) (a0 : Int32) : Option (Int32) :=
  pl (M 40 0 0) (fun v1 : Int32 =>
  pl ((1 : Int32) <<< (v1 &&& 31)) (fun v2 : Int32 =>
  pl (v2 - (1 : Int32)) (fun v3 : Int32 =>
  bd (fX10_in n M a0 (0 : Int32) v3) (fun v4 : Int32 =>
  (if v4 = 0 then
    some (-1 : Int32)
  else
    bd (fX10_madeBy n M a0) (fun v6 : Int32 =>
    some v6))))))
def fX10_fewest_L17 (n : Nat) (M : mh_M) (x1 : Int32) (rec : Int32 → Int32 → Option (Int32)) (x2 : Int32) (x3 : Int32) : Option (Int32) :=
  pl (M 40 0 0) (fun v3 : Int32 =>
  pl ((1 : Int32) <<< (v3 &&& 31)) (fun v4 : Int32 =>
  (if v4 ≤ x3 then
    some x2
  else
    (if x2 < 0 then
      bd (fX10_madeBy n M x3) (fun v7 : Int32 =>
      (if v7 < x1 then
        pl (x3 + (1 : Int32)) (fun v9 : Int32 =>
        rec x2 v9)
      else
        pl (x3 + (1 : Int32)) (fun v10 : Int32 =>
        rec x3 v10)))
    else
      bd (fX10_bits n M x3) (fun v11 : Int32 =>
      bd (fX10_bits n M x2) (fun v12 : Int32 =>
      (if v12 ≤ v11 then
        pl (x3 + (1 : Int32)) (fun v14 : Int32 =>
        rec x2 v14)
      else
        bd (fX10_madeBy n M x3) (fun v15 : Int32 =>
        (if v15 < x1 then
          pl (x3 + (1 : Int32)) (fun v17 : Int32 =>
          rec x2 v17)
        else
          pl (x3 + (1 : Int32)) (fun v18 : Int32 =>
          rec x3 v18))))))))))
def fX10_fewest (n : Nat) (M : mh_M) (a0 : Int32) : Option (Int32) :=
  bd (fX10_in n M a0 (1 : Int32) (12 : Int32)) (fun v1 : Int32 =>
  (if v1 = 0 then
    some (-1 : Int32)
  else
    itr2 (fX10_fewest_L17 n M a0) n (-4 : Int32) (0 : Int32)))
def fX10_most_L21 (n : Nat) (M : mh_M) (x1 : Int32) (rec : Int32 → Int32 → Int32 → Option (Int32)) (x2 : Int32) (x3 : Int32) (x4 : Int32) : Option (Int32) :=
  pl (M 40 0 0) (fun v4 : Int32 =>
  pl ((1 : Int32) <<< (v4 &&& 31)) (fun v5 : Int32 =>
  (if v5 ≤ x4 then
    some x2
  else
    bd (fX10_bits n M x4) (fun v7 : Int32 =>
    (if v7 = x1 then
      bd (fX10_madeBy n M x4) (fun v10 : Int32 =>
      (if v10 ≤ x3 then
        pl (x4 + (1 : Int32)) (fun v12 : Int32 =>
        rec x2 x3 v12)
      else
        bd (fX10_madeBy n M x4) (fun v13 : Int32 =>
        pl (x4 + (1 : Int32)) (fun v14 : Int32 =>
        rec x4 v13 v14))))
    else
      pl (x4 + (1 : Int32)) (fun v9 : Int32 =>
      rec x2 x3 v9))))))
def fX10_most (n : Nat) (M : mh_M) (a0 : Int32) : Option (Int32) :=
  pl (M 40 0 0) (fun v1 : Int32 =>
  bd (fX10_in n M a0 (0 : Int32) v1) (fun v2 : Int32 =>
  (if v2 = 0 then
    some (-1 : Int32)
  else
    itr3 (fX10_most_L21 n M a0) n (-1 : Int32) (-1 : Int32) (0 : Int32))))
def fX10_priceRule (n : Nat) (M : mh_M) (a0 : Int32) (a1 : Int32) (a2 : Int32) (a3 : Int32) : Option (mh_M × Int32) :=
  bd (fX10_in n M a0 (0 : Int32) (127 : Int32)) (fun v1 : Int32 =>
  (if v1 = 0 then
    some (M, (-1 : Int32))
  else
    bd (fX10_in n M a1 (0 : Int32) (1439 : Int32)) (fun v3 : Int32 =>
    (if v3 = 0 then
      some (M, (-1 : Int32))
    else
      bd (fX10_in n M a2 (0 : Int32) (1439 : Int32)) (fun v5 : Int32 =>
      (if v5 = 0 then
        some (M, (-1 : Int32))
      else
        bd (fX10_in n M a3 (0 : Int32) (200 : Int32)) (fun v7 : Int32 =>
        (if v7 = 0 then
          some (M, (-1 : Int32))
        else
          pl (M 40 0 24) (fun v9 : Int32 =>
          (if v9 = (12 : Int32) then
            some (M, (-3 : Int32))
          else
            pl (M 40 0 24) (fun v11 : Int32 =>
            ck (inb v11 12) (pl (mh_up M 66 0 v11.toNatClampNeg a0) (fun M12 : mh_M =>
            pl (M12 40 0 24) (fun v13 : Int32 =>
            ck (inb v13 12) (pl (mh_up M12 67 0 v13.toNatClampNeg a1) (fun M14 : mh_M =>
            pl (M14 40 0 24) (fun v15 : Int32 =>
            ck (inb v15 12) (pl (mh_up M14 68 0 v15.toNatClampNeg a2) (fun M16 : mh_M =>
            pl (M16 40 0 24) (fun v17 : Int32 =>
            ck (inb v17 12) (pl (mh_up M16 69 0 v17.toNatClampNeg a3) (fun M18 : mh_M =>
            pl (M18 40 0 24) (fun v19 : Int32 =>
            pl (v19 + (1 : Int32)) (fun v20 : Int32 =>
            pl (mh_up M18 40 0 24 v20) (fun M21 : mh_M =>
            pl (M21 40 0 24) (fun v22 : Int32 =>
            some (M21, v22)))))))))))))))))))))))))))
def fX10_price (n : Nat) (M : mh_M) (a0 : Int32) (a1 : Int32) (a2 : Int32) : Option (Int32) :=
  bd (fX10_isRecipe n M a0) (fun v1 : Int32 =>
  (if v1 = 0 then
    some (-1 : Int32)
  else
    bd (fX10_in n M a1 (0 : Int32) (6 : Int32)) (fun v3 : Int32 =>
    (if v3 = 0 then
      some (-1 : Int32)
    else
      bd (fX10_in n M a2 (0 : Int32) (1439 : Int32)) (fun v5 : Int32 =>
      (if v5 = 0 then
        some (-1 : Int32)
      else
        bd (fX10_priceOf n M a0 a1 a2) (fun v7 : Int32 =>
        some v7)))))))
def fX10_person (n : Nat) (M : mh_M) (a0 : Int32) (a1 : Int32) (a2 : Int32) : Option (mh_M × Int32) :=
  bd (fX10_in n M a0 (0 : Int32) (5 : Int32)) (fun v1 : Int32 =>
  (if v1 = 0 then
    some (M, (-1 : Int32))
  else
    bd (fX10_in n M a1 (0 : Int32) (10 : Int32)) (fun v3 : Int32 =>
    (if v3 = 0 then
      some (M, (-1 : Int32))
    else
      bd (fX10_in n M a2 (0 : Int32) (1440 : Int32)) (fun v5 : Int32 =>
      (if v5 = 0 then
        some (M, (-1 : Int32))
      else
        pl (a1 * a2) (fun v7 : Int32 =>
        ck (inb a0 6) (pl (mh_up M 70 0 a0.toNatClampNeg v7) (fun M8 : mh_M =>
        some (M8, (0 : Int32)))))))))))
def fX10_tips_L83 (n : Nat) (M : mh_M) (x1 : Int32) (x2 : Int32) (x3 : Int64) (x8 : Int64) (rec : Int64 → Int32 → Int32 → Option (Int32)) (x5 : Int64) (x7 : Int32) (x10 : Int32) : Option (Int32) :=
  (if (6 : Int32) ≤ x10 then
    pl (x1.toInt64) (fun v15 : Int64 =>
    ck (inb x2 6) (pl (M 70 0 x2.toNatClampNeg) (fun v16 : Int32 =>
    pl (v16.toInt64) (fun v17 : Int64 =>
    pl (v15 * v17) (fun v18 : Int64 =>
    ck (!decide (x3 = 0)) (pl (v18 / x3) (fun v19 : Int64 =>
    pl (v19.toInt32) (fun v20 : Int32 =>
    pl (x7.toInt64) (fun v21 : Int64 =>
    pl (lg_cmp v21 x5) (fun v22 : Int32 =>
    (if 0 ≤ v22 then
      pl (v20 + (0 : Int32)) (fun v24 : Int32 =>
      some v24)
    else
      pl (v20 + (1 : Int32)) (fun v25 : Int32 =>
      some v25))))))))))))
  else
    pl (x1.toInt64) (fun v26 : Int64 =>
    ck (inb x10 6) (pl (M 70 0 x10.toNatClampNeg) (fun v27 : Int32 =>
    pl (v27.toInt64) (fun v28 : Int64 =>
    pl (v26 * v28) (fun v29 : Int64 =>
    ck (!decide (x3 = 0)) (pl (v29 / x3) (fun v30 : Int64 =>
    pl (x5 - v30) (fun v31 : Int64 =>
    pl (x1.toInt64) (fun v32 : Int64 =>
    ck (inb x10 6) (pl (M 70 0 x10.toNatClampNeg) (fun v33 : Int32 =>
    pl (v33.toInt64) (fun v34 : Int64 =>
    pl (v32 * v34) (fun v35 : Int64 =>
    ck (!decide (x3 = 0)) (pl (v35 - v35 / x3 * x3) (fun v36 : Int64 =>
    pl (lg_cmp v36 x8) (fun v37 : Int32 =>
    (if 0 < v37 then
      pl (x7 + (1 : Int32)) (fun v39 : Int32 =>
      pl (x10 + (1 : Int32)) (fun v40 : Int32 =>
      rec v31 v39 v40))
    else
      pl (lg_cmp v36 x8) (fun v41 : Int32 =>
      (if v41 = 0 then
        (if x2 ≤ x10 then
          pl (x7 + (0 : Int32)) (fun v46 : Int32 =>
          pl (x10 + (1 : Int32)) (fun v47 : Int32 =>
          rec v31 v46 v47))
        else
          pl (x7 + (1 : Int32)) (fun v48 : Int32 =>
          pl (x10 + (1 : Int32)) (fun v49 : Int32 =>
          rec v31 v48 v49)))
      else
        pl (x7 + (0 : Int32)) (fun v43 : Int32 =>
        pl (x10 + (1 : Int32)) (fun v44 : Int32 =>
        rec v31 v43 v44))))))))))))))))))))))
def fX10_tips_L26 (n : Nat) (M : mh_M) (x1 : Int32) (x2 : Int32) (rec : Int64 → Int32 → Option (Int32)) (x3 : Int64) (x5 : Int32) : Option (Int32) :=
  (if (6 : Int32) ≤ x5 then
    pl (lg_cmp x3 (0 : Int64)) (fun v6 : Int32 =>
    (if v6 = 0 then
      some (-2 : Int32)
    else
      pl (x1.toInt64) (fun v8 : Int64 =>
      pl (x1.toInt64) (fun v9 : Int64 =>
      ck (inb x2 6) (pl (M 70 0 x2.toNatClampNeg) (fun v10 : Int32 =>
      pl (v10.toInt64) (fun v11 : Int64 =>
      pl (v9 * v11) (fun v12 : Int64 =>
      ck (!decide (x3 = 0)) (pl (v12 - v12 / x3 * x3) (fun v13 : Int64 =>
      itr3 (fX10_tips_L83 n M x1 x2 x3 v13) n v8 (0 : Int32) (0 : Int32)))))))))))
  else
    ck (inb x5 6) (pl (M 70 0 x5.toNatClampNeg) (fun v50 : Int32 =>
    pl (v50.toInt64) (fun v51 : Int64 =>
    pl (x3 + v51) (fun v52 : Int64 =>
    pl (x5 + (1 : Int32)) (fun v53 : Int32 =>
    rec v52 v53))))))
def fX10_tips (n : Nat) (M : mh_M) (a0 : Int32) (a1 : Int32) : Option (Int32) :=
  bd (fX10_in n M a0 (0 : Int32) (1000000 : Int32)) (fun v1 : Int32 =>
  (if v1 = 0 then
    some (-1 : Int32)
  else
    bd (fX10_in n M a1 (0 : Int32) (5 : Int32)) (fun v3 : Int32 =>
    (if v3 = 0 then
      some (-1 : Int32)
    else
      itr2 (fX10_tips_L26 n M a0 a1) n (0 : Int64) (0 : Int32)))))
def fX10_keg (n : Nat) (M : mh_M) (a0 : Int32) (a1 : Int32) : Option (Int32) :=
  bd (fX10_in n M a0 (1000 : Int32) (100000 : Int32)) (fun v1 : Int32 =>
  (if v1 = 0 then
    some (-1 : Int32)
  else
    bd (fX10_in n M a1 (0 : Int32) (40 : Int32)) (fun v3 : Int32 =>
    (if v3 = 0 then
      some (-1 : Int32)
    else
      ck (inb (5 : Int32) 7) (pl (M 49 0 (5 : Int32).toNatClampNeg) (fun v5 : Int32 =>
      (if a1 ≤ (4 : Int32) then
        pl (v5 + (0 : Int32)) (fun v7 : Int32 =>
        (if v7 ≤ (90 : Int32) then
          pl ((100 : Int32) - v7) (fun v9 : Int32 =>
          pl (a0 * v9) (fun v10 : Int32 =>
          ck (!decide ((50000 : Int32) = 0)) (pl (v10 / (50000 : Int32)) (fun v11 : Int32 =>
          some v11))))
        else
          pl ((100 : Int32) - (90 : Int32)) (fun v12 : Int32 =>
          pl (a0 * v12) (fun v13 : Int32 =>
          ck (!decide ((50000 : Int32) = 0)) (pl (v13 / (50000 : Int32)) (fun v14 : Int32 =>
          some v14))))))
      else
        ck (inb (6 : Int32) 7) (pl (M 49 0 (6 : Int32).toNatClampNeg) (fun v15 : Int32 =>
        pl (a1 - (4 : Int32)) (fun v16 : Int32 =>
        pl (v15 * v16) (fun v17 : Int32 =>
        pl (v5 + v17) (fun v18 : Int32 =>
        (if v18 ≤ (90 : Int32) then
          pl ((100 : Int32) - v18) (fun v20 : Int32 =>
          pl (a0 * v20) (fun v21 : Int32 =>
          ck (!decide ((50000 : Int32) = 0)) (pl (v21 / (50000 : Int32)) (fun v22 : Int32 =>
          some v22))))
        else
          pl ((100 : Int32) - (90 : Int32)) (fun v23 : Int32 =>
          pl (a0 * v23) (fun v24 : Int32 =>
          ck (!decide ((50000 : Int32) = 0)) (pl (v24 / (50000 : Int32)) (fun v25 : Int32 =>
          some v25)))))))))))))))))
def fX10_deal (n : Nat) (M : mh_M) (a0 : Int32) (a1 : Int32) : Option (mh_M × Int32) :=
  bd (fX10_in n M a0 (1 : Int32) (24 : Int32)) (fun v1 : Int32 =>
  (if v1 = 0 then
    some (M, (-1 : Int32))
  else
    bd (fX10_in n M a1 (0 : Int32) (100000 : Int32)) (fun v3 : Int32 =>
    (if v3 = 0 then
      some (M, (-1 : Int32))
    else
      pl (M 40 0 30) (fun v5 : Int32 =>
      (if v5 = (5 : Int32) then
        some (M, (-3 : Int32))
      else
        pl (M 40 0 30) (fun v7 : Int32 =>
        ck (inb v7 5) (pl (mh_up M 72 0 v7.toNatClampNeg a0) (fun M8 : mh_M =>
        pl (M8 40 0 30) (fun v9 : Int32 =>
        ck (inb v9 5) (pl (mh_up M8 73 0 v9.toNatClampNeg a1) (fun M10 : mh_M =>
        pl (M10 40 0 30) (fun v11 : Int32 =>
        pl (v11 + (1 : Int32)) (fun v12 : Int32 =>
        pl (mh_up M10 40 0 30 v12) (fun M13 : mh_M =>
        pl (M13 40 0 30) (fun v14 : Int32 =>
        some (M13, v14)))))))))))))))))
def fX10_buy_L279 (n : Nat) (M : mh_M) (x2 : Int32) (x4 : Int32) (x6 : Int32) (k259 : Int32 → Int32 → Int32 → Option (mh_M × Int32)) (rec : Int32 → Option (mh_M × Int32)) (x5 : Int32) : Option (mh_M × Int32) :=
  pl ((150 : Int32) * x6) (fun v17 : Int32 =>
  pl (v17 + (150 : Int32)) (fun v18 : Int32 =>
  pl (v18 + x4) (fun v19 : Int32 =>
  ck (inb x6 5) (pl (M 72 0 x6.toNatClampNeg) (fun v20 : Int32 =>
  pl (x5 * v20) (fun v21 : Int32 =>
  pl (v19 - v21) (fun v22 : Int32 =>
  ck (inb v22 900) (pl (M 74 0 v22.toNatClampNeg) (fun v23 : Int32 =>
  ck (inb x6 5) (pl (M 73 0 x6.toNatClampNeg) (fun v24 : Int32 =>
  pl (x5 * v24) (fun v25 : Int32 =>
  pl (v23 + v25) (fun v26 : Int32 =>
  pl ((150 : Int32) * x6) (fun v27 : Int32 =>
  pl (v27 + x4) (fun v28 : Int32 =>
  ck (inb v28 900) (pl (M 74 0 v28.toNatClampNeg) (fun v29 : Int32 =>
  (if v26 = v29 then
    ck (inb x6 5) (pl (M 72 0 x6.toNatClampNeg) (fun v31 : Int32 =>
    pl (x5 * v31) (fun v32 : Int32 =>
    pl (x4 - v32) (fun v33 : Int32 =>
    pl (x6 + (1 : Int32)) (fun v34 : Int32 =>
    k259 v33 x5 v34)))))
  else
    pl (x5 + (-1 : Int32)) (fun v35 : Int32 =>
    rec v35)))))))))))))))))))
def fX10_buy_L259 (n : Nat) (M : mh_M) (x2 : Int32) (rec : Int32 → Int32 → Int32 → Option (mh_M × Int32)) (x4 : Int32) (x5 : Int32) (x6 : Int32) : Option (mh_M × Int32) :=
  pl (x2 - (2 : Int32)) (fun v13 : Int32 =>
  (if v13 < x6 then
    some (M, x5)
  else
    ck (inb x6 5) (pl (M 72 0 x6.toNatClampNeg) (fun v15 : Int32 =>
    ck (!decide (v15 = 0)) (pl (x4 / v15) (fun v16 : Int32 =>
    itr1 (fX10_buy_L279 n M x2 x4 x6 rec) n v16))))))
def fX10_buy_L193 (n : Nat) (M : mh_M) (x2 : Int32) (rec : Int32 → Int32 → Option (mh_M × Int32)) (x3 : Int32) (x4 : Int32) : Option (mh_M × Int32) :=
  (if (150 : Int32) ≤ x4 then
    (if (2 : Int32) ≤ x2 then
      itr3 (fX10_buy_L259 n M x2) n x3 (0 : Int32) (0 : Int32)
    else
      (if x2 = 0 then
        ck (inb x3 900) (pl (M 74 0 x3.toNatClampNeg) (fun v37 : Int32 =>
        some (M, v37)))
      else
        some (M, x3)))
  else
    ck (inb x4 900) (pl (M 74 0 x4.toNatClampNeg) (fun v38 : Int32 =>
    ck (inb x3 900) (pl (M 74 0 x3.toNatClampNeg) (fun v39 : Int32 =>
    (if v39 ≤ v38 then
      pl (x4 + (1 : Int32)) (fun v41 : Int32 =>
      rec x3 v41)
    else
      pl (x4 + (1 : Int32)) (fun v42 : Int32 =>
      rec x4 v42)))))))
def fX10_buy_L48 (n : Nat) (x1 : Int32) (x2 : Int32) (x3 : Int32) (k41 : mh_M → Int32 → Option (mh_M × Int32)) (rec : mh_M → Int32 → Option (mh_M × Int32)) (M : mh_M) (x4 : Int32) : Option (mh_M × Int32) :=
  (if (150 : Int32) ≤ x4 then
    pl (x3 + (-1 : Int32)) (fun v44 : Int32 =>
    k41 M v44)
  else
    pl (M 40 0 30) (fun v45 : Int32 =>
    (if x3 = v45 then
      (if x4 = 0 then
        pl (M 40 0 30) (fun v108 : Int32 =>
        (if v108 ≤ x3 then
          pl ((150 : Int32) * x3) (fun v110 : Int32 =>
          pl (v110 + x4) (fun v111 : Int32 =>
          ck (inb v111 900) (pl (mh_up M 74 0 v111.toNatClampNeg (0 : Int32)) (fun M112 : mh_M =>
          pl (x4 + (1 : Int32)) (fun v113 : Int32 =>
          rec M112 v113)))))
        else
          ck (inb x3 5) (pl (M 72 0 x3.toNatClampNeg) (fun v114 : Int32 =>
          (if x4 < v114 then
            pl ((150 : Int32) * x3) (fun v116 : Int32 =>
            pl (v116 + x4) (fun v117 : Int32 =>
            ck (inb v117 900) (pl (mh_up M 74 0 v117.toNatClampNeg (0 : Int32)) (fun M118 : mh_M =>
            pl (x4 + (1 : Int32)) (fun v119 : Int32 =>
            rec M118 v119)))))
          else
            pl ((150 : Int32) * x3) (fun v120 : Int32 =>
            pl (v120 + x4) (fun v121 : Int32 =>
            ck (inb x3 5) (pl (M 72 0 x3.toNatClampNeg) (fun v122 : Int32 =>
            pl (v121 - v122) (fun v123 : Int32 =>
            ck (inb v123 900) (pl (M 74 0 v123.toNatClampNeg) (fun v124 : Int32 =>
            ck (inb x3 5) (pl (M 73 0 x3.toNatClampNeg) (fun v125 : Int32 =>
            pl (v124 + v125) (fun v126 : Int32 =>
            (if (0 : Int32) ≤ v126 then
              pl ((150 : Int32) * x3) (fun v128 : Int32 =>
              pl (v128 + x4) (fun v129 : Int32 =>
              ck (inb v129 900) (pl (mh_up M 74 0 v129.toNatClampNeg (0 : Int32)) (fun M130 : mh_M =>
              pl (x4 + (1 : Int32)) (fun v131 : Int32 =>
              rec M130 v131)))))
            else
              pl ((150 : Int32) * x3) (fun v132 : Int32 =>
              pl (v132 + x4) (fun v133 : Int32 =>
              ck (inb v133 900) (pl (mh_up M 74 0 v133.toNatClampNeg v126) (fun M134 : mh_M =>
              pl (x4 + (1 : Int32)) (fun v135 : Int32 =>
              rec M134 v135)))))))))))))))))))))
      else
        pl (M 40 0 30) (fun v80 : Int32 =>
        (if v80 ≤ x3 then
          pl ((150 : Int32) * x3) (fun v82 : Int32 =>
          pl (v82 + x4) (fun v83 : Int32 =>
          ck (inb v83 900) (pl (mh_up M 74 0 v83.toNatClampNeg (100000000 : Int32)) (fun M84 : mh_M =>
          pl (x4 + (1 : Int32)) (fun v85 : Int32 =>
          rec M84 v85)))))
        else
          ck (inb x3 5) (pl (M 72 0 x3.toNatClampNeg) (fun v86 : Int32 =>
          (if x4 < v86 then
            pl ((150 : Int32) * x3) (fun v88 : Int32 =>
            pl (v88 + x4) (fun v89 : Int32 =>
            ck (inb v89 900) (pl (mh_up M 74 0 v89.toNatClampNeg (100000000 : Int32)) (fun M90 : mh_M =>
            pl (x4 + (1 : Int32)) (fun v91 : Int32 =>
            rec M90 v91)))))
          else
            pl ((150 : Int32) * x3) (fun v92 : Int32 =>
            pl (v92 + x4) (fun v93 : Int32 =>
            ck (inb x3 5) (pl (M 72 0 x3.toNatClampNeg) (fun v94 : Int32 =>
            pl (v93 - v94) (fun v95 : Int32 =>
            ck (inb v95 900) (pl (M 74 0 v95.toNatClampNeg) (fun v96 : Int32 =>
            ck (inb x3 5) (pl (M 73 0 x3.toNatClampNeg) (fun v97 : Int32 =>
            pl (v96 + v97) (fun v98 : Int32 =>
            (if (100000000 : Int32) ≤ v98 then
              pl ((150 : Int32) * x3) (fun v100 : Int32 =>
              pl (v100 + x4) (fun v101 : Int32 =>
              ck (inb v101 900) (pl (mh_up M 74 0 v101.toNatClampNeg (100000000 : Int32)) (fun M102 : mh_M =>
              pl (x4 + (1 : Int32)) (fun v103 : Int32 =>
              rec M102 v103)))))
            else
              pl ((150 : Int32) * x3) (fun v104 : Int32 =>
              pl (v104 + x4) (fun v105 : Int32 =>
              ck (inb v105 900) (pl (mh_up M 74 0 v105.toNatClampNeg v98) (fun M106 : mh_M =>
              pl (x4 + (1 : Int32)) (fun v107 : Int32 =>
              rec M106 v107))))))))))))))))))))))
    else
      pl ((150 : Int32) * x3) (fun v47 : Int32 =>
      pl (v47 + (150 : Int32)) (fun v48 : Int32 =>
      pl (v48 + x4) (fun v49 : Int32 =>
      ck (inb v49 900) (pl (M 74 0 v49.toNatClampNeg) (fun v50 : Int32 =>
      pl (M 40 0 30) (fun v51 : Int32 =>
      (if v51 ≤ x3 then
        pl ((150 : Int32) * x3) (fun v53 : Int32 =>
        pl (v53 + x4) (fun v54 : Int32 =>
        ck (inb v54 900) (pl (mh_up M 74 0 v54.toNatClampNeg v50) (fun M55 : mh_M =>
        pl (x4 + (1 : Int32)) (fun v56 : Int32 =>
        rec M55 v56)))))
      else
        ck (inb x3 5) (pl (M 72 0 x3.toNatClampNeg) (fun v57 : Int32 =>
        (if x4 < v57 then
          pl ((150 : Int32) * x3) (fun v59 : Int32 =>
          pl (v59 + x4) (fun v60 : Int32 =>
          ck (inb v60 900) (pl (mh_up M 74 0 v60.toNatClampNeg v50) (fun M61 : mh_M =>
          pl (x4 + (1 : Int32)) (fun v62 : Int32 =>
          rec M61 v62)))))
        else
          pl ((150 : Int32) * x3) (fun v63 : Int32 =>
          pl (v63 + x4) (fun v64 : Int32 =>
          ck (inb x3 5) (pl (M 72 0 x3.toNatClampNeg) (fun v65 : Int32 =>
          pl (v64 - v65) (fun v66 : Int32 =>
          ck (inb v66 900) (pl (M 74 0 v66.toNatClampNeg) (fun v67 : Int32 =>
          ck (inb x3 5) (pl (M 73 0 x3.toNatClampNeg) (fun v68 : Int32 =>
          pl (v67 + v68) (fun v69 : Int32 =>
          (if v50 ≤ v69 then
            pl ((150 : Int32) * x3) (fun v71 : Int32 =>
            pl (v71 + x4) (fun v72 : Int32 =>
            ck (inb v72 900) (pl (mh_up M 74 0 v72.toNatClampNeg v50) (fun M73 : mh_M =>
            pl (x4 + (1 : Int32)) (fun v74 : Int32 =>
            rec M73 v74)))))
          else
            pl ((150 : Int32) * x3) (fun v75 : Int32 =>
            pl (v75 + x4) (fun v76 : Int32 =>
            ck (inb v76 900) (pl (mh_up M 74 0 v76.toNatClampNeg v69) (fun M77 : mh_M =>
            pl (x4 + (1 : Int32)) (fun v78 : Int32 =>
            rec M77 v78)))))))))))))))))))))))))))))
def fX10_buy_L41 (n : Nat) (x1 : Int32) (x2 : Int32) (rec : mh_M → Int32 → Option (mh_M × Int32)) (M : mh_M) (x3 : Int32) : Option (mh_M × Int32) :=
  (if x3 < 0 then
    itr2 (fX10_buy_L193 n M x2) n x1 x1
  else
    itr2 (fX10_buy_L48 n x1 x2 x3 rec) n M (0 : Int32))
def fX10_buy (n : Nat) (M : mh_M) (a0 : Int32) (a1 : Int32) : Option (mh_M × Int32) :=
  bd (fX10_in n M a0 (1 : Int32) (120 : Int32)) (fun v1 : Int32 =>
  (if v1 = 0 then
    some (M, (-1 : Int32))
  else
    pl (M 40 0 30) (fun v3 : Int32 =>
    pl ((1 : Int32) + v3) (fun v4 : Int32 =>
    bd (fX10_in n M a1 (0 : Int32) v4) (fun v5 : Int32 =>
    (if v5 = 0 then
      some (M, (-1 : Int32))
    else
      pl (M 40 0 30) (fun v7 : Int32 =>
      (if v7 = 0 then
        some (M, (-2 : Int32))
      else
        pl (M 40 0 30) (fun v9 : Int32 =>
        itr2 (fX10_buy_L41 n a0 a1) n M v9)))))))))
def fX10_count (n : Nat) (M : mh_M) (a0 : Int32) : Option (Int32) :=
  (if a0 = 0 then
    pl (M 40 0 0) (fun v2 : Int32 =>
    some v2)
  else
  (if a0 = 1 then
    pl (M 40 0 4) (fun v4 : Int32 =>
    some v4)
  else
  (if a0 = 2 then
    pl (M 40 0 11) (fun v6 : Int32 =>
    some v6)
  else
  (if a0 = 3 then
    pl (M 40 0 19) (fun v8 : Int32 =>
    some v8)
  else
  (if a0 = 4 then
    pl (M 40 0 24) (fun v10 : Int32 =>
    some v10)
  else
  (if a0 = 5 then
    pl (M 40 0 30) (fun v12 : Int32 =>
    some v12)
  else
  (if a0 = 6 then
    pl (M 40 0 21) (fun v14 : Int32 =>
    some v14)
  else
    some (-1 : Int32))))))))
