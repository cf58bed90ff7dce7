def rmX10_over : Room := { frames := 2, cells := 0, slots := 0, locals := 47 }
theorem inX10_X10_over : ∀ w ∈ wsX100, w ∈ wsX10_over := by decide +kernel
set_option maxRecDepth 100000 in
set_option maxHeartbeats 4000000 in
theorem mtX10_over_L54 {X : mh_X} {n : Nat} {z : Int64} (M : mh_M) (x1 : Int32) (x2 : Int32) (x3 : Int32) (x9 : Int32) (C : mh_C X rmX10_over cX10_over wsX10_over RX10 13) (hR : mh_R X (some .long) M (some (.long z))) (k42 : Int32 → Int64 → Int64 → Int32 → Option (Int64)) (hk42 : ∀ (x4 : Int32) (x5 : Int64) (x7 : Int64) (x9 : Int32), mh_W X rmX10_over 13 (k42 x4 x5 x7 x9) z M 42 [(0, .ref (xad X 40 0)), (1, .int x1), (2, .int x2), (3, .int x3), (4, .int x4), (5, .long x5), (7, .long x7), (9, .int x9)] []) : ∀ (k : Nat) (x4 : Int32) (x5 : Int64) (x7 : Int64) (x10 : Int32), mh_W X rmX10_over 13 (itr4 (fX10_over_L54 n M x1 x2 x3 x9 k42) k x4 x5 x7 x10) z M 54 [(0, .ref (xad X 40 0)), (1, .int x1), (2, .int x2), (3, .int x3), (4, .int x4), (5, .long x5), (7, .long x7), (9, .int x9), (10, .int x10)] [] := by
  intro k
  induction k with
  | zero =>
    intro x4 x5 x7 x10
    exact ms_none
  | succ k ih =>
    intro x4 x5 x7 x10
    show mh_W X rmX10_over 13 (fX10_over_L54 n M x1 x2 x3 x9 k42 (itr4 (fX10_over_L54 n M x1 x2 x3 x9 k42) k) x4 x5 x7 x10) z M 54 [(0, .ref (xad X 40 0)), (1, .int x1), (2, .int x2), (3, .int x3), (4, .int x4), (5, .long x5), (7, .long x7), (9, .int x9), (10, .int x10)] []
    generalize itr4 (fX10_over_L54 n M x1 x2 x3 x9 k42) k = rec at ih ⊢
    unfold fX10_over_L54
    refine ms_iload C dX10_over_54 8 rfl ?_
    refine ms_iconst C (2 : Int32) dX10_over_56 (by decide) ?_
    refine ms_icmp_ge (tgt := 130) C dX10_over_57 (by decide) (fun c15 => ?_) (fun c15 => ?_)
    · refine ms_iinc (L' := fun v16 => [(9, .int v16), (0, .ref (xad X 40 0)), (1, .int x1), (2, .int x2), (3, .int x3), (4, .int x4), (5, .long x5), (7, .long x7), (10, .int x10)]) C dX10_over_130 7 rfl (c := 1) (by decide) (by decide) (fun _ => rfl) (fun v16 => ?_)
      refine ms_goto (tgt := 42) C dX10_over_133 (by decide) ?_
      exact ms_sub [1, 2, 3, 4, 5, 6, 7, 0] rfl (hk42 x4 x5 x7 v16)
    · refine ms_aload_n C dX10_over_60 0 rfl ?_
      refine ms_iload C dX10_over_61 7 rfl ?_
      refine ms_iload C dX10_over_63 8 rfl ?_
      refine ms_iload_n C dX10_over_65 1 rfl ?_
      refine ms_iload_n C dX10_over_66 2 rfl ?_
      refine ms_callVi (As := [.int x9, .int x10, .int x1, .int x2]) C dX10_over_67 (fun _ h => mtX10_counts (xl X) (xg X) n M x9 x10 x1 x2 h) (cwV 4 C.2.2.1 gX10_over_X10_counts rfl rfl rfl (by decide +kernel) ⟨Nat.le_of_ble_eq_true rfl, Nat.le_of_ble_eq_true rfl⟩) (zz40 (G := xg X) Nat.one_pos) (T := TX10) rfl rfl rfl (Nat.le_of_ble_eq_true rfl) (fun v17 => ?_)
      refine ms_if_eq (tgt := 124) C dX10_over_70 (by decide) (fun c18 => ?_) (fun c18 => ?_)
      · refine ms_iinc (L' := fun v19 => [(10, .int v19), (0, .ref (xad X 40 0)), (1, .int x1), (2, .int x2), (3, .int x3), (4, .int x4), (5, .long x5), (7, .long x7), (9, .int x9)]) C dX10_over_124 8 rfl (c := 1) (by decide) (by decide) (fun _ => rfl) (fun v19 => ?_)
        refine ms_goto (tgt := 54) C dX10_over_127 (by decide) ?_
        exact ms_sub [1, 2, 3, 4, 5, 6, 7, 8, 0] rfl (ih x4 x5 x7 v19)
      · refine ms_aload_n C dX10_over_73 0 rfl ?_
        refine ms_getr C dX10_over_74 (zz40 (G := xg X) Nat.one_pos) (k := 14) (Nat.le_of_ble_eq_true rfl) (b := xad X 55 0) rfl (Cn := RX10) (T := TX10) rfl inX10_X10_over rfl (by decide +kernel) ?_
        refine ms_iload C dX10_over_77 7 rfl ?_
        refine ms_iload C dX10_over_79 8 rfl ?_
        refine ms_iload_n C dX10_over_81 2 rfl ?_
        refine ms_callSi (As := [.int x9, .int x10, .int x2]) C dX10_over_82 (fun _ h => mtX10_at (xl X) (xg X) n M x9 x10 x2 h) (va_cwS 3 C.2.2.1 gX10_over_X10_at rfl rfl rfl (by decide +kernel) ⟨Nat.le_of_ble_eq_true rfl, Nat.le_of_ble_eq_true rfl⟩) rfl rfl (Nat.le_of_ble_eq_true rfl) (fun v20 => ?_)
        refine ms_ld C dX10_over_85 (zz55 (G := xg X) Nat.one_pos) rfl (fun _ v21 => ?_)
        refine ms_i2l C dX10_over_86 (fun v22 => ?_)
        refine ms_lstore (L' := [(11, .long v22), (0, .ref (xad X 40 0)), (1, .int x1), (2, .int x2), (3, .int x3), (4, .int x4), (5, .long x5), (7, .long x7), (9, .int x9), (10, .int x10)]) C dX10_over_87 (by decide) rfl ?_
        refine ms_iinc (L' := fun v23 => [(4, .int v23), (11, .long v22), (0, .ref (xad X 40 0)), (1, .int x1), (2, .int x2), (3, .int x3), (5, .long x5), (7, .long x7), (9, .int x9), (10, .int x10)]) C dX10_over_89 5 rfl (c := 1) (by decide) (by decide) (fun _ => rfl) (fun v23 => ?_)
        refine ms_lload C dX10_over_92 6 rfl ?_
        refine ms_aload_n C dX10_over_94 2 rfl ?_
        refine ms_getr C dX10_over_95 (zz40 (G := xg X) Nat.one_pos) (k := 12) (Nat.le_of_ble_eq_true rfl) (b := xad X 53 0) rfl (Cn := RX10) (T := TX10) rfl inX10_X10_over rfl (by decide +kernel) ?_
        refine ms_iload C dX10_over_98 8 rfl ?_
        refine ms_iload C dX10_over_100 9 rfl ?_
        refine ms_iload_n C dX10_over_102 4 rfl ?_
        refine ms_callSi (As := [.int x9, .int x10, .int x2]) C dX10_over_103 (fun _ h => mtX10_at (xl X) (xg X) n M x9 x10 x2 h) (va_cwS 3 C.2.2.1 gX10_over_X10_at rfl rfl rfl (by decide +kernel) ⟨Nat.le_of_ble_eq_true rfl, Nat.le_of_ble_eq_true rfl⟩) rfl rfl (Nat.le_of_ble_eq_true rfl) (fun v24 => ?_)
        refine ms_ld C dX10_over_106 (zz53 (G := xg X) Nat.one_pos) rfl (fun _ v25 => ?_)
        refine ms_i2l C dX10_over_107 (fun v26 => ?_)
        refine ms_lload C dX10_over_108 1 rfl ?_
        refine ms_lmul C dX10_over_110 (fun v27 => ?_)
        refine ms_ladd C dX10_over_111 (fun v28 => ?_)
        refine ms_lstore (L' := [(5, .long v28), (4, .int v23), (11, .long v22), (0, .ref (xad X 40 0)), (1, .int x1), (2, .int x2), (3, .int x3), (7, .long x7), (9, .int x9), (10, .int x10)]) C dX10_over_112 (by decide) rfl ?_
        refine ms_lload C dX10_over_114 7 rfl ?_
        refine ms_lload C dX10_over_116 2 rfl ?_
        refine ms_lload C dX10_over_118 2 rfl ?_
        refine ms_lmul C dX10_over_120 (fun v29 => ?_)
        refine ms_ladd C dX10_over_121 (fun v30 => ?_)
        refine ms_lstore (L' := [(7, .long v30), (5, .long v28), (4, .int v23), (11, .long v22), (0, .ref (xad X 40 0)), (1, .int x1), (2, .int x2), (3, .int x3), (9, .int x9), (10, .int x10)]) C dX10_over_122 (by decide) rfl ?_
        refine ms_iinc (L' := fun v31 => [(10, .int v31), (7, .long v30), (5, .long v28), (4, .int v23), (11, .long v22), (0, .ref (xad X 40 0)), (1, .int x1), (2, .int x2), (3, .int x3), (9, .int x9)]) C dX10_over_124 9 rfl (c := 1) (by decide) (by decide) (fun _ => rfl) (fun v31 => ?_)
        refine ms_goto (tgt := 54) C dX10_over_127 (by decide) ?_
        exact ms_sub [5, 6, 7, 8, 3, 2, 1, 9, 0] rfl (ih v23 v28 v30 v31)
set_option maxRecDepth 100000 in
set_option maxHeartbeats 4000000 in
theorem mtX10_over_L42 {X : mh_X} {n : Nat} {z : Int64} (M : mh_M) (x1 : Int32) (x2 : Int32) (x3 : Int32) (C : mh_C X rmX10_over cX10_over wsX10_over RX10 13) (hR : mh_R X (some .long) M (some (.long z))) : ∀ (k : Nat) (x4 : Int32) (x5 : Int64) (x7 : Int64) (x9 : Int32), mh_W X rmX10_over 13 (itr4 (fX10_over_L42 n M x1 x2 x3) k x4 x5 x7 x9) z M 42 [(0, .ref (xad X 40 0)), (1, .int x1), (2, .int x2), (3, .int x3), (4, .int x4), (5, .long x5), (7, .long x7), (9, .int x9)] [] := by
  intro k
  induction k with
  | zero =>
    intro x4 x5 x7 x9
    exact ms_none
  | succ k ih =>
    intro x4 x5 x7 x9
    show mh_W X rmX10_over 13 (fX10_over_L42 n M x1 x2 x3 (itr4 (fX10_over_L42 n M x1 x2 x3) k) x4 x5 x7 x9) z M 42 [(0, .ref (xad X 40 0)), (1, .int x1), (2, .int x2), (3, .int x3), (4, .int x4), (5, .long x5), (7, .long x7), (9, .int x9)] []
    generalize itr4 (fX10_over_L42 n M x1 x2 x3) k = rec at ih ⊢
    unfold fX10_over_L42
    refine ms_iload C dX10_over_42 7 rfl ?_
    refine ms_aload_n C dX10_over_44 0 rfl ?_
    refine ms_geti C dX10_over_45 (zz40 (G := xg X) Nat.one_pos) (k := 11) (Nat.le_of_ble_eq_true rfl) rfl (Cn := RX10) (T := TX10) rfl inX10_X10_over rfl (by decide +kernel) (fun v7 => ?_)
    refine ms_icmp_gt (tgt := 136) C dX10_over_48 (by decide) (fun c8 => ?_) (fun c8 => ?_)
    · refine ms_iload C dX10_over_136 4 rfl ?_
      refine ms_iconst C (3 : Int32) dX10_over_138 (by decide) ?_
      refine ms_icmp_ge (tgt := 148) C dX10_over_139 (by decide) (fun c9 => ?_) (fun c9 => ?_)
      · refine ms_iload_n C dX10_over_148 3 rfl ?_
        refine ms_if_ne (tgt := 157) C dX10_over_149 (by decide) (fun c10 => ?_) (fun c10 => ?_)
        · refine ms_lload C dX10_over_157 6 rfl ?_
          refine ms_lload C dX10_over_159 5 rfl ?_
          refine ms_lload C dX10_over_161 6 rfl ?_
          refine ms_callSl (As := [.long x5, .long x7]) C dX10_over_163 (fun _ h => mtX10_common (xl X) (xg X) n M x5 x7 h) (va_cwS 2 C.2.2.1 gX10_over_X10_common rfl rfl rfl (by decide +kernel) ⟨Nat.le_of_ble_eq_true rfl, Nat.le_of_ble_eq_true rfl⟩) rfl rfl (Nat.le_of_ble_eq_true rfl) (fun v11 => ?_)
          refine ms_ldiv C dX10_over_166 (fun v12 => ?_)
          exact ms_lreti C hR rfl dX10_over_167
        · refine ms_lload C dX10_over_152 5 rfl ?_
          refine ms_goto (tgt := 159) C dX10_over_154 (by decide) ?_
          refine ms_lload C dX10_over_159 5 rfl ?_
          refine ms_lload C dX10_over_161 6 rfl ?_
          refine ms_callSl (As := [.long x5, .long x7]) C dX10_over_163 (fun _ h => mtX10_common (xl X) (xg X) n M x5 x7 h) (va_cwS 2 C.2.2.1 gX10_over_X10_common rfl rfl rfl (by decide +kernel) ⟨Nat.le_of_ble_eq_true rfl, Nat.le_of_ble_eq_true rfl⟩) rfl rfl (Nat.le_of_ble_eq_true rfl) (fun v13 => ?_)
          refine ms_ldiv C dX10_over_166 (fun v14 => ?_)
          exact ms_lreti C hR rfl dX10_over_167
      · refine ms_ldc2 C (-1000000004 : Int64) dX10_over_142 (by decide +kernel) ?_
        refine ms_goto (tgt := 167) C dX10_over_145 (by decide) ?_
        exact ms_lreti C hR rfl dX10_over_167
    · refine ms_iconst C (0 : Int32) dX10_over_51 (by decide) ?_
      refine ms_istore (L' := [(10, .int (0 : Int32)), (0, .ref (xad X 40 0)), (1, .int x1), (2, .int x2), (3, .int x3), (4, .int x4), (5, .long x5), (7, .long x7), (9, .int x9)]) C dX10_over_52 (by decide) rfl ?_
      exact ms_sub [1, 2, 3, 4, 5, 6, 7, 8, 0] rfl (mtX10_over_L54 (n := n) M x1 x2 x3 x9 C hR rec ih n x4 x5 x7 (0 : Int32))
set_option maxRecDepth 100000 in
set_option maxHeartbeats 4000000 in
theorem mtX10_over (l : Launch) (G : mh_G) (n : Nat) (M : mh_M) (a0 : Int32) (a1 : Int32) (a2 : Int32) {z : Int64} (ho : fX10_over n M a0 a1 a2 = some z) : Met l yX10_over wsX10_over rmX10_over (mh_Pc G M [.ref (G.2.2 40 0), .int a0, .int a1, .int a2]) (mh_Q G M (some (.long z))) 0 0 (mh_dom G) := by
  refine mh_met (cc := cX10_over) (maxL := 13) (ret := (some .long)) (by decide) rfl (Nat.le_of_ble_eq_true rfl) ho ?_
  rintro X rfl rfl C hR
  show mh_W X rmX10_over 13 _ z M 0 [(0, .ref (xad X 40 0)), (1, .int a0), (2, .int a1), (3, .int a2)] []
  replace C : mh_C X rmX10_over cX10_over wsX10_over RX10 13 := C
  unfold fX10_over
  refine ms_iload_n C dX10_over_0 1 rfl ?_
  refine ms_iconst C (0 : Int32) dX10_over_1 (by decide) ?_
  refine ms_iconst C (2 : Int32) dX10_over_2 (by decide) ?_
  refine ms_callSi (As := [.int a0, .int (0 : Int32), .int (2 : Int32)]) C dX10_over_3 (fun _ h => mtX10_in (xl X) (xg X) n M a0 (0 : Int32) (2 : Int32) h) (va_cwS 3 C.2.2.1 gX10_over_X10_in rfl rfl rfl (by decide +kernel) ⟨Nat.le_of_ble_eq_true rfl, Nat.le_of_ble_eq_true rfl⟩) rfl rfl (Nat.le_of_ble_eq_true rfl) (fun v1 => ?_)
  refine ms_if_eq (tgt := 26) C dX10_over_6 (by decide) (fun c2 => ?_) (fun c2 => ?_)
  · refine ms_ldc2 C (-1000000000 : Int64) dX10_over_26 (by decide +kernel) ?_
    exact ms_lreti C hR rfl dX10_over_29
  · refine ms_aload_n C dX10_over_9 0 rfl ?_
    refine ms_iload_n C dX10_over_10 2 rfl ?_
    refine ms_callVi (As := [.int a1]) C dX10_over_11 (fun _ h => mtX10_isKind (xl X) (xg X) n M a1 h) (cwV 1 C.2.2.1 gX10_over_X10_isKind rfl rfl rfl (by decide +kernel) ⟨Nat.le_of_ble_eq_true rfl, Nat.le_of_ble_eq_true rfl⟩) (zz40 (G := xg X) Nat.one_pos) (T := TX10) rfl rfl rfl (Nat.le_of_ble_eq_true rfl) (fun v3 => ?_)
    refine ms_if_eq (tgt := 26) C dX10_over_14 (by decide) (fun c4 => ?_) (fun c4 => ?_)
    · refine ms_ldc2 C (-1000000000 : Int64) dX10_over_26 (by decide +kernel) ?_
      exact ms_lreti C hR rfl dX10_over_29
    · refine ms_iload_n C dX10_over_17 3 rfl ?_
      refine ms_iconst C (0 : Int32) dX10_over_18 (by decide) ?_
      refine ms_iconst C (1 : Int32) dX10_over_19 (by decide) ?_
      refine ms_callSi (As := [.int a2, .int (0 : Int32), .int (1 : Int32)]) C dX10_over_20 (fun _ h => mtX10_in (xl X) (xg X) n M a2 (0 : Int32) (1 : Int32) h) (va_cwS 3 C.2.2.1 gX10_over_X10_in rfl rfl rfl (by decide +kernel) ⟨Nat.le_of_ble_eq_true rfl, Nat.le_of_ble_eq_true rfl⟩) rfl rfl (Nat.le_of_ble_eq_true rfl) (fun v5 => ?_)
      refine ms_if_ne (tgt := 30) C dX10_over_23 (by decide) (fun c6 => ?_) (fun c6 => ?_)
      · refine ms_iconst C (0 : Int32) dX10_over_30 (by decide) ?_
        refine ms_istore (L' := [(4, .int (0 : Int32)), (0, .ref (xad X 40 0)), (1, .int a0), (2, .int a1), (3, .int a2)]) C dX10_over_31 (by decide) rfl ?_
        refine ms_lconst C (0 : Int64) dX10_over_33 (by decide) ?_
        refine ms_lstore (L' := [(5, .long (0 : Int64)), (4, .int (0 : Int32)), (0, .ref (xad X 40 0)), (1, .int a0), (2, .int a1), (3, .int a2)]) C dX10_over_34 (by decide) rfl ?_
        refine ms_lconst C (0 : Int64) dX10_over_36 (by decide) ?_
        refine ms_lstore (L' := [(7, .long (0 : Int64)), (5, .long (0 : Int64)), (4, .int (0 : Int32)), (0, .ref (xad X 40 0)), (1, .int a0), (2, .int a1), (3, .int a2)]) C dX10_over_37 (by decide) rfl ?_
        refine ms_iconst C (0 : Int32) dX10_over_39 (by decide) ?_
        refine ms_istore (L' := [(9, .int (0 : Int32)), (7, .long (0 : Int64)), (5, .long (0 : Int64)), (4, .int (0 : Int32)), (0, .ref (xad X 40 0)), (1, .int a0), (2, .int a1), (3, .int a2)]) C dX10_over_40 (by decide) rfl ?_
        exact ms_sub [4, 5, 6, 7, 3, 2, 1, 0] rfl (mtX10_over_L42 (n := n) M a0 a1 a2 C hR n (0 : Int32) (0 : Int64) (0 : Int64) (0 : Int32))
      · refine ms_ldc2 C (-1000000000 : Int64) dX10_over_26 (by decide +kernel) ?_
        exact ms_lreti C hR rfl dX10_over_29
def rmX10_leans : Room := { frames := 3, cells := 0, slots := 0, locals := 65 }
theorem inX10_X10_leans : ∀ w ∈ wsX100, w ∈ wsX10_leans := by decide +kernel
set_option maxRecDepth 100000 in
set_option maxHeartbeats 4000000 in
theorem mtX10_leans_L36 {X : mh_X} {n : Nat} {z : Int32} (M : mh_M) (x1 : Int32) (x2 : Int32) (x4 : Int32) (C : mh_C X rmX10_leans cX10_leans wsX10_leans RX10 6) (hR : mh_R X (some .int) M (some (.int z))) (k24 : Int32 → Int32 → Option (Int32)) (hk24 : ∀ (x3 : Int32) (x4 : Int32), mh_W X rmX10_leans 6 (k24 x3 x4) z M 24 [(0, .ref (xad X 40 0)), (1, .int x1), (2, .int x2), (3, .int x3), (4, .int x4)] []) : ∀ (k : Nat) (x3 : Int32) (x5 : Int32), mh_W X rmX10_leans 6 (itr2 (fX10_leans_L36 n M x1 x2 x4 k24) k x3 x5) z M 36 [(0, .ref (xad X 40 0)), (1, .int x1), (2, .int x2), (3, .int x3), (4, .int x4), (5, .int x5)] [] := by
  intro k
  induction k with
  | zero =>
    intro x3 x5
    exact ms_none
  | succ k ih =>
    intro x3 x5
    show mh_W X rmX10_leans 6 (fX10_leans_L36 n M x1 x2 x4 k24 (itr2 (fX10_leans_L36 n M x1 x2 x4 k24) k) x3 x5) z M 36 [(0, .ref (xad X 40 0)), (1, .int x1), (2, .int x2), (3, .int x3), (4, .int x4), (5, .int x5)] []
    generalize itr2 (fX10_leans_L36 n M x1 x2 x4 k24) k = rec at ih ⊢
    unfold fX10_leans_L36
    refine ms_iload C dX10_leans_36 5 rfl ?_
    refine ms_iconst C (2 : Int32) dX10_leans_38 (by decide) ?_
    refine ms_icmp_ge (tgt := 84) C dX10_leans_39 (by decide) (fun c7 => ?_) (fun c7 => ?_)
    · refine ms_iinc (L' := fun v8 => [(4, .int v8), (0, .ref (xad X 40 0)), (1, .int x1), (2, .int x2), (3, .int x3), (5, .int x5)]) C dX10_leans_84 4 rfl (c := 1) (by decide) (by decide) (fun _ => rfl) (fun v8 => ?_)
      refine ms_goto (tgt := 24) C dX10_leans_87 (by decide) ?_
      exact ms_sub [1, 2, 3, 4, 0] rfl (hk24 x3 v8)
    · refine ms_iload_n C dX10_leans_42 3 rfl ?_
      refine ms_aload_n C dX10_leans_43 0 rfl ?_
      refine ms_iload C dX10_leans_44 4 rfl ?_
      refine ms_iload C dX10_leans_46 5 rfl ?_
      refine ms_iload_n C dX10_leans_48 1 rfl ?_
      refine ms_iload_n C dX10_leans_49 2 rfl ?_
      refine ms_callVi (As := [.int x4, .int x5, .int x1, .int x2]) C dX10_leans_50 (fun _ h => mtX10_counts (xl X) (xg X) n M x4 x5 x1 x2 h) (cwV 4 C.2.2.1 gX10_leans_X10_counts rfl rfl rfl (by decide +kernel) ⟨Nat.le_of_ble_eq_true rfl, Nat.le_of_ble_eq_true rfl⟩) (zz40 (G := xg X) Nat.one_pos) (T := TX10) rfl rfl rfl (Nat.le_of_ble_eq_true rfl) (fun v9 => ?_)
      refine ms_if_eq (tgt := 75) C dX10_leans_53 (by decide) (fun c10 => ?_) (fun c10 => ?_)
      · refine ms_iconst C (0 : Int32) dX10_leans_75 (by decide) ?_
        refine ms_iadd C dX10_leans_76 (fun v11 => ?_)
        refine ms_istore_n (L' := [(3, .int v11), (0, .ref (xad X 40 0)), (1, .int x1), (2, .int x2), (4, .int x4), (5, .int x5)]) C dX10_leans_77 rfl (by decide) rfl ?_
        refine ms_iinc (L' := fun v12 => [(5, .int v12), (3, .int v11), (0, .ref (xad X 40 0)), (1, .int x1), (2, .int x2), (4, .int x4)]) C dX10_leans_78 5 rfl (c := 1) (by decide) (by decide) (fun _ => rfl) (fun v12 => ?_)
        refine ms_goto (tgt := 36) C dX10_leans_81 (by decide) ?_
        exact ms_sub [2, 3, 4, 1, 5, 0] rfl (ih v11 v12)
      · refine ms_aload_n C dX10_leans_56 0 rfl ?_
        refine ms_iload C dX10_leans_57 4 rfl ?_
        refine ms_iload C dX10_leans_59 5 rfl ?_
        refine ms_iload_n C dX10_leans_61 2 rfl ?_
        refine ms_callSi (As := [.int x4, .int x5, .int x2]) C dX10_leans_62 (fun _ h => mtX10_at (xl X) (xg X) n M x4 x5 x2 h) (va_cwS 3 C.2.2.1 gX10_leans_X10_at rfl rfl rfl (by decide +kernel) ⟨Nat.le_of_ble_eq_true rfl, Nat.le_of_ble_eq_true rfl⟩) rfl rfl (Nat.le_of_ble_eq_true rfl) (fun v13 => ?_)
        refine ms_callVi (As := [.int v13]) C dX10_leans_65 (fun _ h => mtX10_isTold (xl X) (xg X) n M v13 h) (cwV 1 C.2.2.1 gX10_leans_X10_isTold rfl rfl rfl (by decide +kernel) ⟨Nat.le_of_ble_eq_true rfl, Nat.le_of_ble_eq_true rfl⟩) (zz40 (G := xg X) Nat.one_pos) (T := TX10) rfl rfl rfl (Nat.le_of_ble_eq_true rfl) (fun v14 => ?_)
        refine ms_if_eq (tgt := 75) C dX10_leans_68 (by decide) (fun c15 => ?_) (fun c15 => ?_)
        · refine ms_iconst C (0 : Int32) dX10_leans_75 (by decide) ?_
          refine ms_iadd C dX10_leans_76 (fun v16 => ?_)
          refine ms_istore_n (L' := [(3, .int v16), (0, .ref (xad X 40 0)), (1, .int x1), (2, .int x2), (4, .int x4), (5, .int x5)]) C dX10_leans_77 rfl (by decide) rfl ?_
          refine ms_iinc (L' := fun v17 => [(5, .int v17), (3, .int v16), (0, .ref (xad X 40 0)), (1, .int x1), (2, .int x2), (4, .int x4)]) C dX10_leans_78 5 rfl (c := 1) (by decide) (by decide) (fun _ => rfl) (fun v17 => ?_)
          refine ms_goto (tgt := 36) C dX10_leans_81 (by decide) ?_
          exact ms_sub [2, 3, 4, 1, 5, 0] rfl (ih v16 v17)
        · refine ms_iconst C (1 : Int32) dX10_leans_71 (by decide) ?_
          refine ms_goto (tgt := 76) C dX10_leans_72 (by decide) ?_
          refine ms_iadd C dX10_leans_76 (fun v18 => ?_)
          refine ms_istore_n (L' := [(3, .int v18), (0, .ref (xad X 40 0)), (1, .int x1), (2, .int x2), (4, .int x4), (5, .int x5)]) C dX10_leans_77 rfl (by decide) rfl ?_
          refine ms_iinc (L' := fun v19 => [(5, .int v19), (3, .int v18), (0, .ref (xad X 40 0)), (1, .int x1), (2, .int x2), (4, .int x4)]) C dX10_leans_78 5 rfl (c := 1) (by decide) (by decide) (fun _ => rfl) (fun v19 => ?_)
          refine ms_goto (tgt := 36) C dX10_leans_81 (by decide) ?_
          exact ms_sub [2, 3, 4, 1, 5, 0] rfl (ih v18 v19)
set_option maxRecDepth 100000 in
set_option maxHeartbeats 4000000 in
theorem mtX10_leans_L24 {X : mh_X} {n : Nat} {z : Int32} (M : mh_M) (x1 : Int32) (x2 : Int32) (C : mh_C X rmX10_leans cX10_leans wsX10_leans RX10 6) (hR : mh_R X (some .int) M (some (.int z))) : ∀ (k : Nat) (x3 : Int32) (x4 : Int32), mh_W X rmX10_leans 6 (itr2 (fX10_leans_L24 n M x1 x2) k x3 x4) z M 24 [(0, .ref (xad X 40 0)), (1, .int x1), (2, .int x2), (3, .int x3), (4, .int x4)] [] := by
  intro k
  induction k with
  | zero =>
    intro x3 x4
    exact ms_none
  | succ k ih =>
    intro x3 x4
    show mh_W X rmX10_leans 6 (fX10_leans_L24 n M x1 x2 (itr2 (fX10_leans_L24 n M x1 x2) k) x3 x4) z M 24 [(0, .ref (xad X 40 0)), (1, .int x1), (2, .int x2), (3, .int x3), (4, .int x4)] []
    generalize itr2 (fX10_leans_L24 n M x1 x2) k = rec at ih ⊢
    unfold fX10_leans_L24
    refine ms_iload C dX10_leans_24 4 rfl ?_
    refine ms_aload_n C dX10_leans_26 0 rfl ?_
    refine ms_geti C dX10_leans_27 (zz40 (G := xg X) Nat.one_pos) (k := 11) (Nat.le_of_ble_eq_true rfl) rfl (Cn := RX10) (T := TX10) rfl inX10_X10_leans rfl (by decide +kernel) (fun v5 => ?_)
    refine ms_icmp_gt (tgt := 90) C dX10_leans_30 (by decide) (fun c6 => ?_) (fun c6 => ?_)
    · refine ms_iload_n C dX10_leans_90 3 rfl ?_
      exact ms_ireti C hR rfl rfl dX10_leans_91
    · refine ms_iconst C (0 : Int32) dX10_leans_33 (by decide) ?_
      refine ms_istore (L' := [(5, .int (0 : Int32)), (0, .ref (xad X 40 0)), (1, .int x1), (2, .int x2), (3, .int x3), (4, .int x4)]) C dX10_leans_34 (by decide) rfl ?_
      exact ms_sub [1, 2, 3, 4, 5, 0] rfl (mtX10_leans_L36 (n := n) M x1 x2 x4 C hR rec ih n x3 (0 : Int32))
set_option maxRecDepth 100000 in
set_option maxHeartbeats 4000000 in
theorem mtX10_leans (l : Launch) (G : mh_G) (n : Nat) (M : mh_M) (a0 : Int32) (a1 : Int32) {z : Int32} (ho : fX10_leans n M a0 a1 = some z) : Met l yX10_leans wsX10_leans rmX10_leans (mh_Pc G M [.ref (G.2.2 40 0), .int a0, .int a1]) (mh_Q G M (some (.int z))) 0 0 (mh_dom G) := by
  refine mh_met (cc := cX10_leans) (maxL := 6) (ret := (some .int)) (by decide) rfl (Nat.le_of_ble_eq_true rfl) ho ?_
  rintro X rfl rfl C hR
  show mh_W X rmX10_leans 6 _ z M 0 [(0, .ref (xad X 40 0)), (1, .int a0), (2, .int a1)] []
  replace C : mh_C X rmX10_leans cX10_leans wsX10_leans RX10 6 := C
  unfold fX10_leans
  refine ms_iload_n C dX10_leans_0 1 rfl ?_
  refine ms_iconst C (0 : Int32) dX10_leans_1 (by decide) ?_
  refine ms_iconst C (2 : Int32) dX10_leans_2 (by decide) ?_
  refine ms_callSi (As := [.int a0, .int (0 : Int32), .int (2 : Int32)]) C dX10_leans_3 (fun _ h => mtX10_in (xl X) (xg X) n M a0 (0 : Int32) (2 : Int32) h) (va_cwS 3 C.2.2.1 gX10_leans_X10_in rfl rfl rfl (by decide +kernel) ⟨Nat.le_of_ble_eq_true rfl, Nat.le_of_ble_eq_true rfl⟩) rfl rfl (Nat.le_of_ble_eq_true rfl) (fun v1 => ?_)
  refine ms_if_eq (tgt := 17) C dX10_leans_6 (by decide) (fun c2 => ?_) (fun c2 => ?_)
  · refine ms_iconst C (-1 : Int32) dX10_leans_17 (by decide) ?_
    exact ms_ireti C hR rfl rfl dX10_leans_18
  · refine ms_aload_n C dX10_leans_9 0 rfl ?_
    refine ms_iload_n C dX10_leans_10 2 rfl ?_
    refine ms_callVi (As := [.int a1]) C dX10_leans_11 (fun _ h => mtX10_isKind (xl X) (xg X) n M a1 h) (cwV 1 C.2.2.1 gX10_leans_X10_isKind rfl rfl rfl (by decide +kernel) ⟨Nat.le_of_ble_eq_true rfl, Nat.le_of_ble_eq_true rfl⟩) (zz40 (G := xg X) Nat.one_pos) (T := TX10) rfl rfl rfl (Nat.le_of_ble_eq_true rfl) (fun v3 => ?_)
    refine ms_if_ne (tgt := 19) C dX10_leans_14 (by decide) (fun c4 => ?_) (fun c4 => ?_)
    · refine ms_iconst C (0 : Int32) dX10_leans_19 (by decide) ?_
      refine ms_istore_n (L' := [(3, .int (0 : Int32)), (0, .ref (xad X 40 0)), (1, .int a0), (2, .int a1)]) C dX10_leans_20 rfl (by decide) rfl ?_
      refine ms_iconst C (0 : Int32) dX10_leans_21 (by decide) ?_
      refine ms_istore (L' := [(4, .int (0 : Int32)), (3, .int (0 : Int32)), (0, .ref (xad X 40 0)), (1, .int a0), (2, .int a1)]) C dX10_leans_22 (by decide) rfl ?_
      exact ms_sub [2, 3, 4, 1, 0] rfl (mtX10_leans_L24 (n := n) M a0 a1 C hR n (0 : Int32) (0 : Int32))
    · refine ms_iconst C (-1 : Int32) dX10_leans_17 (by decide) ?_
      exact ms_ireti C hR rfl rfl dX10_leans_18
def rmX10_takings : Room := { frames := 2, cells := 0, slots := 0, locals := 42 }
theorem inX10_X10_takings : ∀ w ∈ wsX100, w ∈ wsX10_takings := by decide +kernel
set_option maxRecDepth 100000 in
set_option maxHeartbeats 4000000 in
theorem mtX10_takings (l : Launch) (G : mh_G) (n : Nat) (M : mh_M) (a0 : Int32) {z : Int32} (ho : fX10_takings n M a0 = some z) : Met l yX10_takings wsX10_takings rmX10_takings (mh_Pc G M [.ref (G.2.2 40 0), .int a0]) (mh_Q G M (some (.int z))) 0 0 (mh_dom G) := by
  refine mh_met (cc := cX10_takings) (maxL := 2) (ret := (some .int)) (by decide) rfl (Nat.le_of_ble_eq_true rfl) ho ?_
  rintro X rfl rfl C hR
  show mh_W X rmX10_takings 2 _ z M 0 [(0, .ref (xad X 40 0)), (1, .int a0)] []
  replace C : mh_C X rmX10_takings cX10_takings wsX10_takings RX10 2 := C
  unfold fX10_takings
  refine ms_iload_n C dX10_takings_0 1 rfl ?_
  refine ms_callSi (As := [.int a0]) C dX10_takings_1 (fun _ h => mtX10_isBar (xl X) (xg X) n M a0 h) (va_cwS 1 C.2.2.1 gX10_takings_X10_isBar rfl rfl rfl (by decide +kernel) ⟨Nat.le_of_ble_eq_true rfl, Nat.le_of_ble_eq_true rfl⟩) rfl rfl (Nat.le_of_ble_eq_true rfl) (fun v1 => ?_)
  refine ms_if_eq (tgt := 16) C dX10_takings_4 (by decide) (fun c2 => ?_) (fun c2 => ?_)
  · refine ms_iconst C (-1 : Int32) dX10_takings_16 (by decide) ?_
    exact ms_ireti C hR rfl rfl dX10_takings_17
  · refine ms_aload_n C dX10_takings_7 0 rfl ?_
    refine ms_getr C dX10_takings_8 (zz40 (G := xg X) Nat.one_pos) (k := 18) (Nat.le_of_ble_eq_true rfl) (b := xad X 59 0) rfl (Cn := RX10) (T := TX10) rfl inX10_X10_takings rfl (by decide +kernel) ?_
    refine ms_iload_n C dX10_takings_11 1 rfl ?_
    refine ms_ld C dX10_takings_12 (zz59 (G := xg X) Nat.one_pos) rfl (fun _ v3 => ?_)
    refine ms_goto (tgt := 17) C dX10_takings_13 (by decide) ?_
    exact ms_ireti C hR rfl rfl dX10_takings_17
def rmX10_foretell : Room := { frames := 1, cells := 0, slots := 0, locals := 22 }
theorem inX10_X10_foretell : ∀ w ∈ wsX100, w ∈ wsX10_foretell := by decide +kernel
set_option maxRecDepth 100000 in
set_option maxHeartbeats 4000000 in
theorem mtX10_foretell (l : Launch) (G : mh_G) (n : Nat) (M : mh_M) (a0 : Int32) (a1 : Int32) {z : mh_M × Int32} (ho : fX10_foretell n M a0 a1 = some z) : Met l yX10_foretell wsX10_foretell rmX10_foretell (mh_Pc G M [.ref (G.2.2 40 0), .int a0, .int a1]) (mh_Q G z.1 (some (.int z.2))) 0 0 (mh_dom G) := by
  refine mh_met (cc := cX10_foretell) (maxL := 3) (ret := (some .int)) (by decide) rfl (Nat.le_of_ble_eq_true rfl) ho ?_
  rintro X rfl rfl C hR
  show mh_W X rmX10_foretell 3 _ z M 0 [(0, .ref (xad X 40 0)), (1, .int a0), (2, .int a1)] []
  replace C : mh_C X rmX10_foretell cX10_foretell wsX10_foretell RX10 3 := C
  unfold fX10_foretell
  refine ms_iload_n C dX10_foretell_0 1 rfl ?_
  refine ms_iconst C (0 : Int32) dX10_foretell_1 (by decide) ?_
  refine ms_sipush C (200 : Int32) dX10_foretell_2 (by decide) ?_
  refine ms_callSi (As := [.int a0, .int (0 : Int32), .int (200 : Int32)]) C dX10_foretell_5 (fun _ h => mtX10_in (xl X) (xg X) n M a0 (0 : Int32) (200 : Int32) h) (va_cwS 3 C.2.2.1 gX10_foretell_X10_in rfl rfl rfl (by decide +kernel) ⟨Nat.le_of_ble_eq_true rfl, Nat.le_of_ble_eq_true rfl⟩) rfl rfl (Nat.le_of_ble_eq_true rfl) (fun v1 => ?_)
  refine ms_if_eq (tgt := 21) C dX10_foretell_8 (by decide) (fun c2 => ?_) (fun c2 => ?_)
  · refine ms_iconst C (-1 : Int32) dX10_foretell_21 (by decide) ?_
    exact ms_iretm C hR rfl dX10_foretell_22
  · refine ms_iload_n C dX10_foretell_11 2 rfl ?_
    refine ms_iconst C (1 : Int32) dX10_foretell_12 (by decide) ?_
    refine ms_bipush C (100 : Int32) dX10_foretell_13 (by decide) ?_
    refine ms_callSi (As := [.int a1, .int (1 : Int32), .int (100 : Int32)]) C dX10_foretell_15 (fun _ h => mtX10_in (xl X) (xg X) n M a1 (1 : Int32) (100 : Int32) h) (va_cwS 3 C.2.2.1 gX10_foretell_X10_in rfl rfl rfl (by decide +kernel) ⟨Nat.le_of_ble_eq_true rfl, Nat.le_of_ble_eq_true rfl⟩) rfl rfl (Nat.le_of_ble_eq_true rfl) (fun v3 => ?_)
    refine ms_if_ne (tgt := 23) C dX10_foretell_18 (by decide) (fun c4 => ?_) (fun c4 => ?_)
    · refine ms_aload_n C dX10_foretell_23 0 rfl ?_
      refine ms_geti C dX10_foretell_24 (zz40 (G := xg X) Nat.one_pos) (k := 21) (Nat.le_of_ble_eq_true rfl) rfl (Cn := RX10) (T := TX10) rfl inX10_X10_foretell rfl (by decide +kernel) (fun v5 => ?_)
      refine ms_bipush C (8 : Int32) dX10_foretell_27 (by decide) ?_
      refine ms_icmp_ne (tgt := 35) C dX10_foretell_29 (by decide) (fun c6 => ?_) (fun c6 => ?_)
      · refine ms_aload_n C dX10_foretell_35 0 rfl ?_
        refine ms_getr C dX10_foretell_36 (zz40 (G := xg X) Nat.one_pos) (k := 22) (Nat.le_of_ble_eq_true rfl) (b := xad X 63 0) rfl (Cn := RX10) (T := TX10) rfl inX10_X10_foretell rfl (by decide +kernel) ?_
        refine ms_aload_n C dX10_foretell_39 0 rfl ?_
        refine ms_geti C dX10_foretell_40 (zz40 (G := xg X) Nat.one_pos) (k := 21) (Nat.le_of_ble_eq_true rfl) rfl (Cn := RX10) (T := TX10) rfl inX10_X10_foretell rfl (by decide +kernel) (fun v7 => ?_)
        refine ms_iload_n C dX10_foretell_43 1 rfl ?_
        refine ms_st C dX10_foretell_44 (zz63 (G := xg X) Nat.one_pos) rfl (fun _ M8 => ?_)
        refine ms_aload_n C dX10_foretell_45 0 rfl ?_
        refine ms_getr C dX10_foretell_46 (zz40 (G := xg X) Nat.one_pos) (k := 23) (Nat.le_of_ble_eq_true rfl) (b := xad X 64 0) rfl (Cn := RX10) (T := TX10) rfl inX10_X10_foretell rfl (by decide +kernel) ?_
        refine ms_aload_n C dX10_foretell_49 0 rfl ?_
        refine ms_geti C dX10_foretell_50 (zz40 (G := xg X) Nat.one_pos) (k := 21) (Nat.le_of_ble_eq_true rfl) rfl (Cn := RX10) (T := TX10) rfl inX10_X10_foretell rfl (by decide +kernel) (fun v9 => ?_)
        refine ms_iload_n C dX10_foretell_53 2 rfl ?_
        refine ms_st C dX10_foretell_54 (zz64 (G := xg X) Nat.one_pos) rfl (fun _ M10 => ?_)
        refine ms_aload_n C dX10_foretell_55 0 rfl ?_
        refine ms_dup C dX10_foretell_56 rfl ?_
        refine ms_geti C dX10_foretell_57 (zz40 (G := xg X) Nat.one_pos) (k := 21) (Nat.le_of_ble_eq_true rfl) rfl (Cn := RX10) (T := TX10) rfl inX10_X10_foretell rfl (by decide +kernel) (fun v11 => ?_)
        refine ms_iconst C (1 : Int32) dX10_foretell_60 (by decide) ?_
        refine ms_iadd C dX10_foretell_61 (fun v12 => ?_)
        refine ms_puti C dX10_foretell_62 tyX10 tyX10_ok nmX10 (zz40 (G := xg X) Nat.one_pos) (k := 21) (Nat.le_of_ble_eq_true rfl) rfl (Cn := RX10) (T := TX10) rfl inX10_X10_foretell rfl (by decide +kernel) rfl (by decide +kernel) (fun M13 => ?_)
        refine ms_aload_n C dX10_foretell_65 0 rfl ?_
        refine ms_geti C dX10_foretell_66 (zz40 (G := xg X) Nat.one_pos) (k := 21) (Nat.le_of_ble_eq_true rfl) rfl (Cn := RX10) (T := TX10) rfl inX10_X10_foretell rfl (by decide +kernel) (fun v14 => ?_)
        exact ms_iretm C hR rfl dX10_foretell_69
      · refine ms_bipush C (-3 : Int32) dX10_foretell_32 (by decide) ?_
        exact ms_iretm C hR rfl dX10_foretell_34
    · refine ms_iconst C (-1 : Int32) dX10_foretell_21 (by decide) ?_
      exact ms_iretm C hR rfl dX10_foretell_22
def rmX10_forget : Room := { frames := 0, cells := 0, slots := 0, locals := 0 }
theorem inX10_X10_forget : ∀ w ∈ wsX100, w ∈ wsX10_forget := by decide +kernel
set_option maxRecDepth 100000 in
set_option maxHeartbeats 4000000 in
theorem mtX10_forget (l : Launch) (G : mh_G) (n : Nat) (M : mh_M) {z : mh_M × Int32} (ho : fX10_forget n M = some z) : Met l yX10_forget wsX10_forget rmX10_forget (mh_Pc G M [.ref (G.2.2 40 0)]) (mh_Q G z.1 (some (.int z.2))) 0 0 (mh_dom G) := by
  refine mh_met (cc := cX10_forget) (maxL := 2) (ret := (some .int)) (by decide) rfl (Nat.le_of_ble_eq_true rfl) ho ?_
  rintro X rfl rfl C hR
  show mh_W X rmX10_forget 2 _ z M 0 [(0, .ref (xad X 40 0))] []
  replace C : mh_C X rmX10_forget cX10_forget wsX10_forget RX10 2 := C
  unfold fX10_forget
  refine ms_aload_n C dX10_forget_0 0 rfl ?_
  refine ms_geti C dX10_forget_1 (zz40 (G := xg X) Nat.one_pos) (k := 21) (Nat.le_of_ble_eq_true rfl) rfl (Cn := RX10) (T := TX10) rfl inX10_X10_forget rfl (by decide +kernel) (fun v1 => ?_)
  refine ms_istore_n (L' := [(1, .int v1), (0, .ref (xad X 40 0))]) C dX10_forget_4 rfl (by decide) rfl ?_
  refine ms_aload_n C dX10_forget_5 1 rfl ?_
  refine ms_iconst C (0 : Int32) dX10_forget_6 (by decide) ?_
  refine ms_puti C dX10_forget_7 tyX10 tyX10_ok nmX10 (zz40 (G := xg X) Nat.one_pos) (k := 21) (Nat.le_of_ble_eq_true rfl) rfl (Cn := RX10) (T := TX10) rfl inX10_X10_forget rfl (by decide +kernel) rfl (by decide +kernel) (fun M2 => ?_)
  refine ms_iload_n C dX10_forget_10 0 rfl ?_
  exact ms_iretm C hR rfl dX10_forget_11
def rmX10_costOf : Room := { frames := 0, cells := 0, slots := 0, locals := 0 }
theorem inX10_X10_costOf : ∀ w ∈ wsX100, w ∈ wsX10_costOf := by decide +kernel
set_option maxRecDepth 100000 in
set_option maxHeartbeats 4000000 in
theorem mtX10_costOf_L4 {X : mh_X} {n : Nat} {z : Int32} (M : mh_M) (x1 : Int32) (C : mh_C X rmX10_costOf cX10_costOf wsX10_costOf RX10 5) (hR : mh_R X (some .int) M (some (.int z))) : ∀ (k : Nat) (x2 : Int32) (x3 : Int32), mh_W X rmX10_costOf 5 (itr2 (fX10_costOf_L4 n M x1) k x2 x3) z M 4 [(0, .ref (xad X 40 0)), (1, .int x1), (2, .int x2), (3, .int x3)] [] := by
  intro k
  induction k with
  | zero =>
    intro x2 x3
    exact ms_none
  | succ k ih =>
    intro x2 x3
    show mh_W X rmX10_costOf 5 (fX10_costOf_L4 n M x1 (itr2 (fX10_costOf_L4 n M x1) k) x2 x3) z M 4 [(0, .ref (xad X 40 0)), (1, .int x1), (2, .int x2), (3, .int x3)] []
    generalize itr2 (fX10_costOf_L4 n M x1) k = rec at ih ⊢
    unfold fX10_costOf_L4
    refine ms_iload_n C dX10_costOf_4 3 rfl ?_
    refine ms_aload_n C dX10_costOf_5 0 rfl ?_
    refine ms_geti C dX10_costOf_6 (zz40 (G := xg X) Nat.one_pos) (k := 21) (Nat.le_of_ble_eq_true rfl) rfl (Cn := RX10) (T := TX10) rfl inX10_X10_costOf rfl (by decide +kernel) (fun v1 => ?_)
    refine ms_icmp_ge (tgt := 65) C dX10_costOf_9 (by decide) (fun c2 => ?_) (fun c2 => ?_)
    · refine ms_iload_n C dX10_costOf_65 2 rfl ?_
      exact ms_ireti C hR rfl rfl dX10_costOf_66
    · refine ms_iload_n C dX10_costOf_12 1 rfl ?_
      refine ms_aload_n C dX10_costOf_13 0 rfl ?_
      refine ms_getr C dX10_costOf_14 (zz40 (G := xg X) Nat.one_pos) (k := 22) (Nat.le_of_ble_eq_true rfl) (b := xad X 63 0) rfl (Cn := RX10) (T := TX10) rfl inX10_X10_costOf rfl (by decide +kernel) ?_
      refine ms_iload_n C dX10_costOf_17 3 rfl ?_
      refine ms_ld C dX10_costOf_18 (zz63 (G := xg X) Nat.one_pos) rfl (fun _ v3 => ?_)
      refine ms_isub C dX10_costOf_19 (fun v4 => ?_)
      refine ms_istore (L' := [(4, .int v4), (0, .ref (xad X 40 0)), (1, .int x1), (2, .int x2), (3, .int x3)]) C dX10_costOf_20 (by decide) rfl ?_
      refine ms_iload_n C dX10_costOf_22 3 rfl ?_
      refine ms_aload_n C dX10_costOf_23 1 rfl ?_
      refine ms_getr C dX10_costOf_24 (zz40 (G := xg X) Nat.one_pos) (k := 23) (Nat.le_of_ble_eq_true rfl) (b := xad X 64 0) rfl (Cn := RX10) (T := TX10) rfl inX10_X10_costOf rfl (by decide +kernel) ?_
      refine ms_iload_n C dX10_costOf_27 4 rfl ?_
      refine ms_ld C dX10_costOf_28 (zz64 (G := xg X) Nat.one_pos) rfl (fun _ v5 => ?_)
      refine ms_iload C dX10_costOf_29 0 rfl ?_
      refine ms_if_le (tgt := 46) C dX10_costOf_31 (by decide) (fun c6 => ?_) (fun c6 => ?_)
      · refine ms_aload_n C dX10_costOf_46 1 rfl ?_
        refine ms_getr C dX10_costOf_47 (zz40 (G := xg X) Nat.one_pos) (k := 8) (Nat.le_of_ble_eq_true rfl) (b := xad X 49 0) rfl (Cn := RX10) (T := TX10) rfl inX10_X10_costOf rfl (by decide +kernel) ?_
        refine ms_iconst C (3 : Int32) dX10_costOf_50 (by decide) ?_
        refine ms_ld C dX10_costOf_51 (zz49 (G := xg X) Nat.one_pos) rfl (fun _ v7 => ?_)
        refine ms_ineg C dX10_costOf_52 (fun v8 => ?_)
        refine ms_iload C dX10_costOf_53 0 rfl ?_
        refine ms_imul C dX10_costOf_55 (fun v9 => ?_)
        refine ms_imul C dX10_costOf_56 (fun v10 => ?_)
        refine ms_iadd C dX10_costOf_57 (fun v11 => ?_)
        refine ms_istore_n (L' := [(2, .int v11), (4, .int v4), (0, .ref (xad X 40 0)), (1, .int x1), (3, .int x3)]) C dX10_costOf_58 rfl (by decide) rfl ?_
        refine ms_iinc (L' := fun v12 => [(3, .int v12), (2, .int v11), (4, .int v4), (0, .ref (xad X 40 0)), (1, .int x1)]) C dX10_costOf_59 4 rfl (c := 1) (by decide) (by decide) (fun _ => rfl) (fun v12 => ?_)
        refine ms_goto (tgt := 4) C dX10_costOf_62 (by decide) ?_
        exact ms_sub [3, 4, 1, 0] rfl (ih v11 v12)
      · refine ms_aload_n C dX10_costOf_34 1 rfl ?_
        refine ms_getr C dX10_costOf_35 (zz40 (G := xg X) Nat.one_pos) (k := 8) (Nat.le_of_ble_eq_true rfl) (b := xad X 49 0) rfl (Cn := RX10) (T := TX10) rfl inX10_X10_costOf rfl (by decide +kernel) ?_
        refine ms_iconst C (2 : Int32) dX10_costOf_38 (by decide) ?_
        refine ms_ld C dX10_costOf_39 (zz49 (G := xg X) Nat.one_pos) rfl (fun _ v13 => ?_)
        refine ms_iload C dX10_costOf_40 0 rfl ?_
        refine ms_imul C dX10_costOf_42 (fun v14 => ?_)
        refine ms_goto (tgt := 56) C dX10_costOf_43 (by decide) ?_
        refine ms_imul C dX10_costOf_56 (fun v15 => ?_)
        refine ms_iadd C dX10_costOf_57 (fun v16 => ?_)
        refine ms_istore_n (L' := [(2, .int v16), (4, .int v4), (0, .ref (xad X 40 0)), (1, .int x1), (3, .int x3)]) C dX10_costOf_58 rfl (by decide) rfl ?_
        refine ms_iinc (L' := fun v17 => [(3, .int v17), (2, .int v16), (4, .int v4), (0, .ref (xad X 40 0)), (1, .int x1)]) C dX10_costOf_59 4 rfl (c := 1) (by decide) (by decide) (fun _ => rfl) (fun v17 => ?_)
        refine ms_goto (tgt := 4) C dX10_costOf_62 (by decide) ?_
        exact ms_sub [3, 4, 1, 0] rfl (ih v16 v17)
set_option maxRecDepth 100000 in
set_option maxHeartbeats 4000000 in
theorem mtX10_costOf (l : Launch) (G : mh_G) (n : Nat) (M : mh_M) (a0 : Int32) {z : Int32} (ho : fX10_costOf n M a0 = some z) : Met l yX10_costOf wsX10_costOf rmX10_costOf (mh_Pc G M [.ref (G.2.2 40 0), .int a0]) (mh_Q G M (some (.int z))) 0 0 (mh_dom G) := by
  refine mh_met (cc := cX10_costOf) (maxL := 5) (ret := (some .int)) (by decide) rfl (Nat.le_of_ble_eq_true rfl) ho ?_
  rintro X rfl rfl C hR
  show mh_W X rmX10_costOf 5 _ z M 0 [(0, .ref (xad X 40 0)), (1, .int a0)] []
  replace C : mh_C X rmX10_costOf cX10_costOf wsX10_costOf RX10 5 := C
  unfold fX10_costOf
  refine ms_iconst C (0 : Int32) dX10_costOf_0 (by decide) ?_
  refine ms_istore_n (L' := [(2, .int (0 : Int32)), (0, .ref (xad X 40 0)), (1, .int a0)]) C dX10_costOf_1 rfl (by decide) rfl ?_
  refine ms_iconst C (0 : Int32) dX10_costOf_2 (by decide) ?_
  refine ms_istore_n (L' := [(3, .int (0 : Int32)), (2, .int (0 : Int32)), (0, .ref (xad X 40 0)), (1, .int a0)]) C dX10_costOf_3 rfl (by decide) rfl ?_
  exact ms_sub [2, 3, 1, 0] rfl (mtX10_costOf_L4 (n := n) M a0 C hR n (0 : Int32) (0 : Int32))
def rmX10_press : Room := { frames := 1, cells := 0, slots := 0, locals := 24 }
theorem inX10_X10_press : ∀ w ∈ wsX100, w ∈ wsX10_press := by decide +kernel
set_option maxRecDepth 100000 in
set_option maxHeartbeats 4000000 in
theorem mtX10_press_L37 {X : mh_X} {n : Nat} {z : Int32} (M : mh_M) (C : mh_C X rmX10_press cX10_press wsX10_press RX10 4) (hR : mh_R X (some .int) M (some (.int z))) : ∀ (k : Nat) (x2 : Int32) (x3 : Int32), mh_W X rmX10_press 4 (itr2 (fX10_press_L37 n M) k x2 x3) z M 37 [(0, .ref (xad X 40 0)), (2, .int x2), (3, .int x3)] [] := by
  intro k
  induction k with
  | zero =>
    intro x2 x3
    exact ms_none
  | succ k ih =>
    intro x2 x3
    show mh_W X rmX10_press 4 (fX10_press_L37 n M (itr2 (fX10_press_L37 n M) k) x2 x3) z M 37 [(0, .ref (xad X 40 0)), (2, .int x2), (3, .int x3)] []
    generalize itr2 (fX10_press_L37 n M) k = rec at ih ⊢
    unfold fX10_press_L37
    refine ms_iload_n C dX10_press_37 2 rfl ?_
    refine ms_sipush C (200 : Int32) dX10_press_38 (by decide) ?_
    refine ms_icmp_gt (tgt := 69) C dX10_press_41 (by decide) (fun c6 => ?_) (fun c6 => ?_)
    · refine ms_iload_n C dX10_press_69 1 rfl ?_
      exact ms_ireti C hR rfl rfl dX10_press_70
    · refine ms_aload_n C dX10_press_44 0 rfl ?_
      refine ms_iload_n C dX10_press_45 2 rfl ?_
      refine ms_callVi (As := [.int x3]) C dX10_press_46 (fun _ h => mtX10_costOf (xl X) (xg X) n M x3 h) (cwV 1 C.2.2.1 gX10_press_X10_costOf rfl rfl rfl (by decide +kernel) ⟨Nat.le_of_ble_eq_true rfl, Nat.le_of_ble_eq_true rfl⟩) (zz40 (G := xg X) Nat.one_pos) (T := TX10) rfl rfl rfl (Nat.le_of_ble_eq_true rfl) (fun v7 => ?_)
      refine ms_aload_n C dX10_press_49 0 rfl ?_
      refine ms_iload_n C dX10_press_50 1 rfl ?_
      refine ms_callVi (As := [.int x2]) C dX10_press_51 (fun _ h => mtX10_costOf (xl X) (xg X) n M x2 h) (cwV 1 C.2.2.1 gX10_press_X10_costOf rfl rfl rfl (by decide +kernel) ⟨Nat.le_of_ble_eq_true rfl, Nat.le_of_ble_eq_true rfl⟩) (zz40 (G := xg X) Nat.one_pos) (T := TX10) rfl rfl rfl (Nat.le_of_ble_eq_true rfl) (fun v8 => ?_)
      refine ms_icmp_ge (tgt := 61) C dX10_press_54 (by decide) (fun c9 => ?_) (fun c9 => ?_)
      · refine ms_iload_n C dX10_press_61 1 rfl ?_
        refine ms_istore_n (L' := [(2, .int x2), (0, .ref (xad X 40 0)), (3, .int x3)]) C dX10_press_62 rfl (by decide) rfl ?_
        refine ms_iinc (L' := fun v10 => [(3, .int v10), (2, .int x2), (0, .ref (xad X 40 0))]) C dX10_press_63 2 rfl (c := 1) (by decide) (by decide) (fun _ => rfl) (fun v10 => ?_)
        refine ms_goto (tgt := 37) C dX10_press_66 (by decide) ?_
        exact ms_sub [2, 1, 0] rfl (ih x2 v10)
      · refine ms_iload_n C dX10_press_57 2 rfl ?_
        refine ms_goto (tgt := 62) C dX10_press_58 (by decide) ?_
        refine ms_istore_n (L' := [(2, .int x3), (0, .ref (xad X 40 0)), (3, .int x3)]) C dX10_press_62 rfl (by decide) rfl ?_
        refine ms_iinc (L' := fun v11 => [(3, .int v11), (2, .int x3), (0, .ref (xad X 40 0))]) C dX10_press_63 2 rfl (c := 1) (by decide) (by decide) (fun _ => rfl) (fun v11 => ?_)
        refine ms_goto (tgt := 37) C dX10_press_66 (by decide) ?_
        exact ms_sub [2, 1, 0] rfl (ih x3 v11)
set_option maxRecDepth 100000 in
set_option maxHeartbeats 4000000 in
theorem mtX10_press (l : Launch) (G : mh_G) (n : Nat) (M : mh_M) (a0 : Int32) {z : Int32} (ho : fX10_press n M a0 = some z) : Met l yX10_press wsX10_press rmX10_press (mh_Pc G M [.ref (G.2.2 40 0), .int a0]) (mh_Q G M (some (.int z))) 0 0 (mh_dom G) := by
  refine mh_met (cc := cX10_press) (maxL := 4) (ret := (some .int)) (by decide) rfl (Nat.le_of_ble_eq_true rfl) ho ?_
  rintro X rfl rfl C hR
  show mh_W X rmX10_press 4 _ z M 0 [(0, .ref (xad X 40 0)), (1, .int a0)] []
  replace C : mh_C X rmX10_press cX10_press wsX10_press RX10 4 := C
  unfold fX10_press
  refine ms_aload_n C dX10_press_0 0 rfl ?_
  refine ms_geti C dX10_press_1 (zz40 (G := xg X) Nat.one_pos) (k := 21) (Nat.le_of_ble_eq_true rfl) rfl (Cn := RX10) (T := TX10) rfl inX10_X10_press rfl (by decide +kernel) (fun v1 => ?_)
  refine ms_if_ne (tgt := 10) C dX10_press_4 (by decide) (fun c2 => ?_) (fun c2 => ?_)
  · refine ms_iload_n C dX10_press_10 1 rfl ?_
    refine ms_iconst C (-1 : Int32) dX10_press_11 (by decide) ?_
    refine ms_sipush C (200 : Int32) dX10_press_12 (by decide) ?_
    refine ms_callSi (As := [.int a0, .int (-1 : Int32), .int (200 : Int32)]) C dX10_press_15 (fun _ h => mtX10_in (xl X) (xg X) n M a0 (-1 : Int32) (200 : Int32) h) (va_cwS 3 C.2.2.1 gX10_press_X10_in rfl rfl rfl (by decide +kernel) ⟨Nat.le_of_ble_eq_true rfl, Nat.le_of_ble_eq_true rfl⟩) rfl rfl (Nat.le_of_ble_eq_true rfl) (fun v3 => ?_)
    refine ms_if_ne (tgt := 23) C dX10_press_18 (by decide) (fun c4 => ?_) (fun c4 => ?_)
    · refine ms_iload_n C dX10_press_23 1 rfl ?_
      refine ms_if_lt (tgt := 33) C dX10_press_24 (by decide) (fun c5 => ?_) (fun c5 => ?_)
      · refine ms_iconst C (0 : Int32) dX10_press_33 (by decide) ?_
        refine ms_istore_n (L' := [(2, .int (0 : Int32)), (0, .ref (xad X 40 0)), (1, .int a0)]) C dX10_press_34 rfl (by decide) rfl ?_
        refine ms_iconst C (1 : Int32) dX10_press_35 (by decide) ?_
        refine ms_istore_n (L' := [(3, .int (1 : Int32)), (2, .int (0 : Int32)), (0, .ref (xad X 40 0)), (1, .int a0)]) C dX10_press_36 rfl (by decide) rfl ?_
        exact ms_sub [2, 1, 0] rfl (mtX10_press_L37 (n := n) M C hR n (0 : Int32) (1 : Int32))
      · refine ms_aload_n C dX10_press_27 0 rfl ?_
        refine ms_iload_n C dX10_press_28 1 rfl ?_
        refine ms_callVi (As := [.int a0]) C dX10_press_29 (fun _ h => mtX10_costOf (xl X) (xg X) n M a0 h) (cwV 1 C.2.2.1 gX10_press_X10_costOf rfl rfl rfl (by decide +kernel) ⟨Nat.le_of_ble_eq_true rfl, Nat.le_of_ble_eq_true rfl⟩) (zz40 (G := xg X) Nat.one_pos) (T := TX10) rfl rfl rfl (Nat.le_of_ble_eq_true rfl) (fun v12 => ?_)
        exact ms_ireti C hR rfl rfl dX10_press_32
    · refine ms_iconst C (-1 : Int32) dX10_press_21 (by decide) ?_
      exact ms_ireti C hR rfl rfl dX10_press_22
  · refine ms_bipush C (-2 : Int32) dX10_press_7 (by decide) ?_
    exact ms_ireti C hR rfl rfl dX10_press_9
def rmX10_madeBy : Room := { frames := 0, cells := 0, slots := 0, locals := 0 }
theorem inX10_X10_madeBy : ∀ w ∈ wsX100, w ∈ wsX10_madeBy := by decide +kernel
set_option maxRecDepth 100000 in
set_option maxHeartbeats 4000000 in
theorem mtX10_madeBy_L18 {X : mh_X} {n : Nat} {z : Int32} (M : mh_M) (x1 : Int32) (x2 : Int32) (x3 : Int32) (C : mh_C X rmX10_madeBy cX10_madeBy wsX10_madeBy RX10 6) (hR : mh_R X (some .int) M (some (.int z))) (k4 : Int32 → Int32 → Option (Int32)) (hk4 : ∀ (x2 : Int32) (x3 : Int32), mh_W X rmX10_madeBy 6 (k4 x2 x3) z M 4 [(0, .ref (xad X 40 0)), (1, .int x1), (2, .int x2), (3, .int x3)] []) : ∀ (k : Nat) (x4 : Int32) (x5 : Int32), mh_W X rmX10_madeBy 6 (itr2 (fX10_madeBy_L18 n M x1 x2 x3 k4) k x4 x5) z M 18 [(0, .ref (xad X 40 0)), (1, .int x1), (2, .int x2), (3, .int x3), (4, .int x4), (5, .int x5)] [] := by
  intro k
  induction k with
  | zero =>
    intro x4 x5
    exact ms_none
  | succ k ih =>
    intro x4 x5
    show mh_W X rmX10_madeBy 6 (fX10_madeBy_L18 n M x1 x2 x3 k4 (itr2 (fX10_madeBy_L18 n M x1 x2 x3 k4) k) x4 x5) z M 18 [(0, .ref (xad X 40 0)), (1, .int x1), (2, .int x2), (3, .int x3), (4, .int x4), (5, .int x5)] []
    generalize itr2 (fX10_madeBy_L18 n M x1 x2 x3 k4) k = rec at ih ⊢
    unfold fX10_madeBy_L18
    refine ms_iload C dX10_madeBy_18 5 rfl ?_
    refine ms_aload_n C dX10_madeBy_20 0 rfl ?_
    refine ms_geti C dX10_madeBy_21 (zz40 (G := xg X) Nat.one_pos) (k := 0) (Nat.le_of_ble_eq_true rfl) rfl (Cn := RX10) (T := TX10) rfl inX10_X10_madeBy rfl (by decide +kernel) (fun v3 => ?_)
    refine ms_icmp_ge (tgt := 61) C dX10_madeBy_24 (by decide) (fun c4 => ?_) (fun c4 => ?_)
    · refine ms_iload_n C dX10_madeBy_61 2 rfl ?_
      refine ms_iload C dX10_madeBy_62 4 rfl ?_
      refine ms_if_eq (tgt := 80) C dX10_madeBy_64 (by decide) (fun c5 => ?_) (fun c5 => ?_)
      · refine ms_iconst C (0 : Int32) dX10_madeBy_80 (by decide) ?_
        refine ms_iadd C dX10_madeBy_81 (fun v6 => ?_)
        refine ms_istore_n (L' := [(2, .int v6), (0, .ref (xad X 40 0)), (1, .int x1), (3, .int x3), (4, .int x4), (5, .int x5)]) C dX10_madeBy_82 rfl (by decide) rfl ?_
        refine ms_iinc (L' := fun v7 => [(3, .int v7), (2, .int v6), (0, .ref (xad X 40 0)), (1, .int x1), (4, .int x4), (5, .int x5)]) C dX10_madeBy_83 3 rfl (c := 1) (by decide) (by decide) (fun _ => rfl) (fun v7 => ?_)
        refine ms_goto (tgt := 4) C dX10_madeBy_86 (by decide) ?_
        exact ms_sub [2, 3, 1, 0] rfl (hk4 v6 v7)
      · refine ms_iload C dX10_madeBy_67 4 rfl ?_
        refine ms_iload_n C dX10_madeBy_69 1 rfl ?_
        refine ms_iconst C (-1 : Int32) dX10_madeBy_70 (by decide) ?_
        refine ms_ixor C dX10_madeBy_71 (fun v8 => ?_)
        refine ms_iand C dX10_madeBy_72 (fun v9 => ?_)
        refine ms_if_ne (tgt := 80) C dX10_madeBy_73 (by decide) (fun c10 => ?_) (fun c10 => ?_)
        · refine ms_iconst C (0 : Int32) dX10_madeBy_80 (by decide) ?_
          refine ms_iadd C dX10_madeBy_81 (fun v11 => ?_)
          refine ms_istore_n (L' := [(2, .int v11), (0, .ref (xad X 40 0)), (1, .int x1), (3, .int x3), (4, .int x4), (5, .int x5)]) C dX10_madeBy_82 rfl (by decide) rfl ?_
          refine ms_iinc (L' := fun v12 => [(3, .int v12), (2, .int v11), (0, .ref (xad X 40 0)), (1, .int x1), (4, .int x4), (5, .int x5)]) C dX10_madeBy_83 3 rfl (c := 1) (by decide) (by decide) (fun _ => rfl) (fun v12 => ?_)
          refine ms_goto (tgt := 4) C dX10_madeBy_86 (by decide) ?_
          exact ms_sub [2, 3, 1, 0] rfl (hk4 v11 v12)
        · refine ms_iconst C (1 : Int32) dX10_madeBy_76 (by decide) ?_
          refine ms_goto (tgt := 81) C dX10_madeBy_77 (by decide) ?_
          refine ms_iadd C dX10_madeBy_81 (fun v13 => ?_)
          refine ms_istore_n (L' := [(2, .int v13), (0, .ref (xad X 40 0)), (1, .int x1), (3, .int x3), (4, .int x4), (5, .int x5)]) C dX10_madeBy_82 rfl (by decide) rfl ?_
          refine ms_iinc (L' := fun v14 => [(3, .int v14), (2, .int v13), (0, .ref (xad X 40 0)), (1, .int x1), (4, .int x4), (5, .int x5)]) C dX10_madeBy_83 3 rfl (c := 1) (by decide) (by decide) (fun _ => rfl) (fun v14 => ?_)
          refine ms_goto (tgt := 4) C dX10_madeBy_86 (by decide) ?_
          exact ms_sub [2, 3, 1, 0] rfl (hk4 v13 v14)
    · refine ms_iload C dX10_madeBy_27 4 rfl ?_
      refine ms_aload_n C dX10_madeBy_29 0 rfl ?_
      refine ms_getr C dX10_madeBy_30 (zz40 (G := xg X) Nat.one_pos) (k := 6) (Nat.le_of_ble_eq_true rfl) (b := xad X 47 0) rfl (Cn := RX10) (T := TX10) rfl inX10_X10_madeBy rfl (by decide +kernel) ?_
      refine ms_bipush C (10 : Int32) dX10_madeBy_33 (by decide) ?_
      refine ms_iload_n C dX10_madeBy_35 3 rfl ?_
      refine ms_imul C dX10_madeBy_36 (fun v15 => ?_)
      refine ms_iload C dX10_madeBy_37 5 rfl ?_
      refine ms_iadd C dX10_madeBy_39 (fun v16 => ?_)
      refine ms_ld C dX10_madeBy_40 (zz47 (G := xg X) Nat.one_pos) rfl (fun _ v17 => ?_)
      refine ms_if_le (tgt := 51) C dX10_madeBy_41 (by decide) (fun c18 => ?_) (fun c18 => ?_)
      · refine ms_iconst C (0 : Int32) dX10_madeBy_51 (by decide) ?_
        refine ms_ior C dX10_madeBy_52 (fun v19 => ?_)
        refine ms_istore (L' := [(4, .int v19), (0, .ref (xad X 40 0)), (1, .int x1), (2, .int x2), (3, .int x3), (5, .int x5)]) C dX10_madeBy_53 (by decide) rfl ?_
        refine ms_iinc (L' := fun v20 => [(5, .int v20), (4, .int v19), (0, .ref (xad X 40 0)), (1, .int x1), (2, .int x2), (3, .int x3)]) C dX10_madeBy_55 5 rfl (c := 1) (by decide) (by decide) (fun _ => rfl) (fun v20 => ?_)
        refine ms_goto (tgt := 18) C dX10_madeBy_58 (by decide) ?_
        exact ms_sub [2, 3, 4, 5, 1, 0] rfl (ih v19 v20)
      · refine ms_iconst C (1 : Int32) dX10_madeBy_44 (by decide) ?_
        refine ms_iload C dX10_madeBy_45 5 rfl ?_
        refine ms_ishl C dX10_madeBy_47 (fun v21 => ?_)
        refine ms_goto (tgt := 52) C dX10_madeBy_48 (by decide) ?_
        refine ms_ior C dX10_madeBy_52 (fun v22 => ?_)
        refine ms_istore (L' := [(4, .int v22), (0, .ref (xad X 40 0)), (1, .int x1), (2, .int x2), (3, .int x3), (5, .int x5)]) C dX10_madeBy_53 (by decide) rfl ?_
        refine ms_iinc (L' := fun v23 => [(5, .int v23), (4, .int v22), (0, .ref (xad X 40 0)), (1, .int x1), (2, .int x2), (3, .int x3)]) C dX10_madeBy_55 5 rfl (c := 1) (by decide) (by decide) (fun _ => rfl) (fun v23 => ?_)
        refine ms_goto (tgt := 18) C dX10_madeBy_58 (by decide) ?_
        exact ms_sub [2, 3, 4, 5, 1, 0] rfl (ih v22 v23)
set_option maxRecDepth 100000 in
set_option maxHeartbeats 4000000 in
theorem mtX10_madeBy_L4 {X : mh_X} {n : Nat} {z : Int32} (M : mh_M) (x1 : Int32) (C : mh_C X rmX10_madeBy cX10_madeBy wsX10_madeBy RX10 6) (hR : mh_R X (some .int) M (some (.int z))) : ∀ (k : Nat) (x2 : Int32) (x3 : Int32), mh_W X rmX10_madeBy 6 (itr2 (fX10_madeBy_L4 n M x1) k x2 x3) z M 4 [(0, .ref (xad X 40 0)), (1, .int x1), (2, .int x2), (3, .int x3)] [] := by
  intro k
  induction k with
  | zero =>
    intro x2 x3
    exact ms_none
  | succ k ih =>
    intro x2 x3
    show mh_W X rmX10_madeBy 6 (fX10_madeBy_L4 n M x1 (itr2 (fX10_madeBy_L4 n M x1) k) x2 x3) z M 4 [(0, .ref (xad X 40 0)), (1, .int x1), (2, .int x2), (3, .int x3)] []
    generalize itr2 (fX10_madeBy_L4 n M x1) k = rec at ih ⊢
    unfold fX10_madeBy_L4
    refine ms_iload_n C dX10_madeBy_4 3 rfl ?_
    refine ms_aload_n C dX10_madeBy_5 0 rfl ?_
    refine ms_geti C dX10_madeBy_6 (zz40 (G := xg X) Nat.one_pos) (k := 4) (Nat.le_of_ble_eq_true rfl) rfl (Cn := RX10) (T := TX10) rfl inX10_X10_madeBy rfl (by decide +kernel) (fun v1 => ?_)
    refine ms_icmp_ge (tgt := 89) C dX10_madeBy_9 (by decide) (fun c2 => ?_) (fun c2 => ?_)
    · refine ms_iload_n C dX10_madeBy_89 2 rfl ?_
      exact ms_ireti C hR rfl rfl dX10_madeBy_90
    · refine ms_iconst C (0 : Int32) dX10_madeBy_12 (by decide) ?_
      refine ms_istore (L' := [(4, .int (0 : Int32)), (0, .ref (xad X 40 0)), (1, .int x1), (2, .int x2), (3, .int x3)]) C dX10_madeBy_13 (by decide) rfl ?_
      refine ms_iconst C (0 : Int32) dX10_madeBy_15 (by decide) ?_
      refine ms_istore (L' := [(5, .int (0 : Int32)), (4, .int (0 : Int32)), (0, .ref (xad X 40 0)), (1, .int x1), (2, .int x2), (3, .int x3)]) C dX10_madeBy_16 (by decide) rfl ?_
      exact ms_sub [2, 3, 4, 5, 1, 0] rfl (mtX10_madeBy_L18 (n := n) M x1 x2 x3 C hR rec ih n (0 : Int32) (0 : Int32))
set_option maxRecDepth 100000 in
set_option maxHeartbeats 4000000 in
theorem mtX10_madeBy (l : Launch) (G : mh_G) (n : Nat) (M : mh_M) (a0 : Int32) {z : Int32} (ho : fX10_madeBy n M a0 = some z) : Met l yX10_madeBy wsX10_madeBy rmX10_madeBy (mh_Pc G M [.ref (G.2.2 40 0), .int a0]) (mh_Q G M (some (.int z))) 0 0 (mh_dom G) := by
  refine mh_met (cc := cX10_madeBy) (maxL := 6) (ret := (some .int)) (by decide) rfl (Nat.le_of_ble_eq_true rfl) ho ?_
  rintro X rfl rfl C hR
  show mh_W X rmX10_madeBy 6 _ z M 0 [(0, .ref (xad X 40 0)), (1, .int a0)] []
  replace C : mh_C X rmX10_madeBy cX10_madeBy wsX10_madeBy RX10 6 := C
  unfold fX10_madeBy
  refine ms_iconst C (0 : Int32) dX10_madeBy_0 (by decide) ?_
  refine ms_istore_n (L' := [(2, .int (0 : Int32)), (0, .ref (xad X 40 0)), (1, .int a0)]) C dX10_madeBy_1 rfl (by decide) rfl ?_
  refine ms_iconst C (0 : Int32) dX10_madeBy_2 (by decide) ?_
  refine ms_istore_n (L' := [(3, .int (0 : Int32)), (2, .int (0 : Int32)), (0, .ref (xad X 40 0)), (1, .int a0)]) C dX10_madeBy_3 rfl (by decide) rfl ?_
  exact ms_sub [2, 3, 1, 0] rfl (mtX10_madeBy_L4 (n := n) M a0 C hR n (0 : Int32) (0 : Int32))
def rmX10_bits : Room := { frames := 0, cells := 0, slots := 0, locals := 0 }
set_option maxRecDepth 100000 in
set_option maxHeartbeats 4000000 in
theorem mtX10_bits_L4 {X : mh_X} {n : Nat} {z : Int32} (M : mh_M) (x0 : Int32) (C : mh_C X rmX10_bits cX10_bits wsX10_bits RX10 3) (hR : mh_R X (some .int) M (some (.int z))) : ∀ (k : Nat) (x1 : Int32) (x2 : Int32), mh_W X rmX10_bits 3 (itr2 (fX10_bits_L4 n M x0) k x1 x2) z M 4 [(0, .int x0), (1, .int x1), (2, .int x2)] [] := by
  intro k
  induction k with
  | zero =>
    intro x1 x2
    exact ms_none
  | succ k ih =>
    intro x1 x2
    show mh_W X rmX10_bits 3 (fX10_bits_L4 n M x0 (itr2 (fX10_bits_L4 n M x0) k) x1 x2) z M 4 [(0, .int x0), (1, .int x1), (2, .int x2)] []
    generalize itr2 (fX10_bits_L4 n M x0) k = rec at ih ⊢
    unfold fX10_bits_L4
    refine ms_iload_n C dX10_bits_4 2 rfl ?_
    refine ms_bipush C (10 : Int32) dX10_bits_5 (by decide) ?_
    refine ms_icmp_ge (tgt := 24) C dX10_bits_7 (by decide) (fun c1 => ?_) (fun c1 => ?_)
    · refine ms_iload_n C dX10_bits_24 1 rfl ?_
      exact ms_ireti C hR rfl rfl dX10_bits_25
    · refine ms_iload_n C dX10_bits_10 1 rfl ?_
      refine ms_iload_n C dX10_bits_11 0 rfl ?_
      refine ms_iload_n C dX10_bits_12 2 rfl ?_
      refine ms_ishr C dX10_bits_13 (fun v2 => ?_)
      refine ms_iconst C (1 : Int32) dX10_bits_14 (by decide) ?_
      refine ms_iand C dX10_bits_15 (fun v3 => ?_)
      refine ms_iadd C dX10_bits_16 (fun v4 => ?_)
      refine ms_istore_n (L' := [(1, .int v4), (0, .int x0), (2, .int x2)]) C dX10_bits_17 rfl (by decide) rfl ?_
      refine ms_iinc (L' := fun v5 => [(2, .int v5), (1, .int v4), (0, .int x0)]) C dX10_bits_18 2 rfl (c := 1) (by decide) (by decide) (fun _ => rfl) (fun v5 => ?_)
      refine ms_goto (tgt := 4) C dX10_bits_21 (by decide) ?_
      exact ms_sub [2, 1, 0] rfl (ih v4 v5)
set_option maxRecDepth 100000 in
set_option maxHeartbeats 4000000 in
theorem mtX10_bits (l : Launch) (G : mh_G) (n : Nat) (M : mh_M) (a0 : Int32) {z : Int32} (ho : fX10_bits n M a0 = some z) : Met l yX10_bits wsX10_bits rmX10_bits (mh_Pc G M [.int a0]) (mh_Q G M (some (.int z))) 0 0 (mh_dom G) := by
  refine mh_met (cc := cX10_bits) (maxL := 3) (ret := (some .int)) (by decide) rfl (Nat.le_of_ble_eq_true rfl) ho ?_
  rintro X rfl rfl C hR
  show mh_W X rmX10_bits 3 _ z M 0 [(0, .int a0)] []
  replace C : mh_C X rmX10_bits cX10_bits wsX10_bits RX10 3 := C
  unfold fX10_bits
  refine ms_iconst C (0 : Int32) dX10_bits_0 (by decide) ?_
  refine ms_istore_n (L' := [(1, .int (0 : Int32)), (0, .int a0)]) C dX10_bits_1 rfl (by decide) rfl ?_
  refine ms_iconst C (0 : Int32) dX10_bits_2 (by decide) ?_
  refine ms_istore_n (L' := [(2, .int (0 : Int32)), (1, .int (0 : Int32)), (0, .int a0)]) C dX10_bits_3 rfl (by decide) rfl ?_
  exact ms_sub [2, 1, 0] rfl (mtX10_bits_L4 (n := n) M a0 C hR n (0 : Int32) (0 : Int32))
def rmX10_makes : Room := { frames := 1, cells := 0, slots := 0, locals := 25 }
theorem inX10_X10_makes : ∀ w ∈ wsX100, w ∈ wsX10_makes := by decide +kernel
set_option maxRecDepth 100000 in
set_option maxHeartbeats 4000000 in
theorem mtX10_makes (l : Launch) (G : mh_G) (n : Nat) (M : mh_M) (a0 : Int32) {z : Int32} (ho : fX10_makes n M a0 = some z) : Met l yX10_makes wsX10_makes rmX10_makes (mh_Pc G M [.ref (G.2.2 40 0), .int a0]) (mh_Q G M (some (.int z))) 0 0 (mh_dom G) := by
  refine mh_met (cc := cX10_makes) (maxL := 2) (ret := (some .int)) (by decide) rfl (Nat.le_of_ble_eq_true rfl) ho ?_
  rintro X rfl rfl C hR
  show mh_W X rmX10_makes 2 _ z M 0 [(0, .ref (xad X 40 0)), (1, .int a0)] []
  replace C : mh_C X rmX10_makes cX10_makes wsX10_makes RX10 2 := C
  unfold fX10_makes
  refine ms_iload_n C dX10_makes_0 1 rfl ?_
  refine ms_iconst C (0 : Int32) dX10_makes_1 (by decide) ?_
  refine ms_iconst C (1 : Int32) dX10_makes_2 (by decide) ?_
  refine ms_aload_n C dX10_makes_3 0 rfl ?_
  refine ms_geti C dX10_makes_4 (zz40 (G := xg X) Nat.one_pos) (k := 0) (Nat.le_of_ble_eq_true rfl) rfl (Cn := RX10) (T := TX10) rfl inX10_X10_makes rfl (by decide +kernel) (fun v1 => ?_)
  refine ms_ishl C dX10_makes_7 (fun v2 => ?_)
  refine ms_iconst C (1 : Int32) dX10_makes_8 (by decide) ?_
  refine ms_isub C dX10_makes_9 (fun v3 => ?_)
  refine ms_callSi (As := [.int a0, .int (0 : Int32), .int v3]) C dX10_makes_10 (fun _ h => mtX10_in (xl X) (xg X) n M a0 (0 : Int32) v3 h) (va_cwS 3 C.2.2.1 gX10_makes_X10_in rfl rfl rfl (by decide +kernel) ⟨Nat.le_of_ble_eq_true rfl, Nat.le_of_ble_eq_true rfl⟩) rfl rfl (Nat.le_of_ble_eq_true rfl) (fun v4 => ?_)
  refine ms_if_eq (tgt := 24) C dX10_makes_13 (by decide) (fun c5 => ?_) (fun c5 => ?_)
  · refine ms_iconst C (-1 : Int32) dX10_makes_24 (by decide) ?_
    exact ms_ireti C hR rfl rfl dX10_makes_25
  · refine ms_aload_n C dX10_makes_16 0 rfl ?_
    refine ms_iload_n C dX10_makes_17 1 rfl ?_
    refine ms_callVi (As := [.int a0]) C dX10_makes_18 (fun _ h => mtX10_madeBy (xl X) (xg X) n M a0 h) (cwV 1 C.2.2.1 gX10_makes_X10_madeBy rfl rfl rfl (by decide +kernel) ⟨Nat.le_of_ble_eq_true rfl, Nat.le_of_ble_eq_true rfl⟩) (zz40 (G := xg X) Nat.one_pos) (T := TX10) rfl rfl rfl (Nat.le_of_ble_eq_true rfl) (fun v6 => ?_)
    refine ms_goto (tgt := 25) C dX10_makes_21 (by decide) ?_
    exact ms_ireti C hR rfl rfl dX10_makes_25
def rmX10_fewest : Room := { frames := 1, cells := 0, slots := 0, locals := 25 }
theorem inX10_X10_fewest : ∀ w ∈ wsX100, w ∈ wsX10_fewest := by decide +kernel
set_option maxRecDepth 100000 in
set_option maxHeartbeats 4000000 in
theorem mtX10_fewest_L17 {X : mh_X} {n : Nat} {z : Int32} (M : mh_M) (x1 : Int32) (C : mh_C X rmX10_fewest cX10_fewest wsX10_fewest RX10 4) (hR : mh_R X (some .int) M (some (.int z))) : ∀ (k : Nat) (x2 : Int32) (x3 : Int32), mh_W X rmX10_fewest 4 (itr2 (fX10_fewest_L17 n M x1) k x2 x3) z M 17 [(0, .ref (xad X 40 0)), (1, .int x1), (2, .int x2), (3, .int x3)] [] := by
  intro k
  induction k with
  | zero =>
    intro x2 x3
    exact ms_none
  | succ k ih =>
    intro x2 x3
    show mh_W X rmX10_fewest 4 (fX10_fewest_L17 n M x1 (itr2 (fX10_fewest_L17 n M x1) k) x2 x3) z M 17 [(0, .ref (xad X 40 0)), (1, .int x1), (2, .int x2), (3, .int x3)] []
    generalize itr2 (fX10_fewest_L17 n M x1) k = rec at ih ⊢
    unfold fX10_fewest_L17
    refine ms_iload_n C dX10_fewest_17 3 rfl ?_
    refine ms_iconst C (1 : Int32) dX10_fewest_18 (by decide) ?_
    refine ms_aload_n C dX10_fewest_19 0 rfl ?_
    refine ms_geti C dX10_fewest_20 (zz40 (G := xg X) Nat.one_pos) (k := 0) (Nat.le_of_ble_eq_true rfl) rfl (Cn := RX10) (T := TX10) rfl inX10_X10_fewest rfl (by decide +kernel) (fun v3 => ?_)
    refine ms_ishl C dX10_fewest_23 (fun v4 => ?_)
    refine ms_icmp_ge (tgt := 63) C dX10_fewest_24 (by decide) (fun c5 => ?_) (fun c5 => ?_)
    · refine ms_iload_n C dX10_fewest_63 2 rfl ?_
      exact ms_ireti C hR rfl rfl dX10_fewest_64
    · refine ms_iload_n C dX10_fewest_27 2 rfl ?_
      refine ms_if_lt (tgt := 42) C dX10_fewest_28 (by decide) (fun c6 => ?_) (fun c6 => ?_)
      · refine ms_aload_n C dX10_fewest_42 0 rfl ?_
        refine ms_iload_n C dX10_fewest_43 3 rfl ?_
        refine ms_callVi (As := [.int x3]) C dX10_fewest_44 (fun _ h => mtX10_madeBy (xl X) (xg X) n M x3 h) (cwV 1 C.2.2.1 gX10_fewest_X10_madeBy rfl rfl rfl (by decide +kernel) ⟨Nat.le_of_ble_eq_true rfl, Nat.le_of_ble_eq_true rfl⟩) (zz40 (G := xg X) Nat.one_pos) (T := TX10) rfl rfl rfl (Nat.le_of_ble_eq_true rfl) (fun v7 => ?_)
        refine ms_iload_n C dX10_fewest_47 1 rfl ?_
        refine ms_icmp_lt (tgt := 55) C dX10_fewest_48 (by decide) (fun c8 => ?_) (fun c8 => ?_)
        · refine ms_iload_n C dX10_fewest_55 2 rfl ?_
          refine ms_istore_n (L' := [(2, .int x2), (0, .ref (xad X 40 0)), (1, .int x1), (3, .int x3)]) C dX10_fewest_56 rfl (by decide) rfl ?_
          refine ms_iinc (L' := fun v9 => [(3, .int v9), (2, .int x2), (0, .ref (xad X 40 0)), (1, .int x1)]) C dX10_fewest_57 3 rfl (c := 1) (by decide) (by decide) (fun _ => rfl) (fun v9 => ?_)
          refine ms_goto (tgt := 17) C dX10_fewest_60 (by decide) ?_
          exact ms_sub [2, 3, 1, 0] rfl (ih x2 v9)
        · refine ms_iload_n C dX10_fewest_51 3 rfl ?_
          refine ms_goto (tgt := 56) C dX10_fewest_52 (by decide) ?_
          refine ms_istore_n (L' := [(2, .int x3), (0, .ref (xad X 40 0)), (1, .int x1), (3, .int x3)]) C dX10_fewest_56 rfl (by decide) rfl ?_
          refine ms_iinc (L' := fun v10 => [(3, .int v10), (2, .int x3), (0, .ref (xad X 40 0)), (1, .int x1)]) C dX10_fewest_57 3 rfl (c := 1) (by decide) (by decide) (fun _ => rfl) (fun v10 => ?_)
          refine ms_goto (tgt := 17) C dX10_fewest_60 (by decide) ?_
          exact ms_sub [2, 3, 1, 0] rfl (ih x3 v10)
      · refine ms_iload_n C dX10_fewest_31 3 rfl ?_
        refine ms_callSi (As := [.int x3]) C dX10_fewest_32 (fun _ h => mtX10_bits (xl X) (xg X) n M x3 h) (va_cwS 1 C.2.2.1 gX10_fewest_X10_bits rfl rfl rfl (by decide +kernel) ⟨Nat.le_of_ble_eq_true rfl, Nat.le_of_ble_eq_true rfl⟩) rfl rfl (Nat.le_of_ble_eq_true rfl) (fun v11 => ?_)
        refine ms_iload_n C dX10_fewest_35 2 rfl ?_
        refine ms_callSi (As := [.int x2]) C dX10_fewest_36 (fun _ h => mtX10_bits (xl X) (xg X) n M x2 h) (va_cwS 1 C.2.2.1 gX10_fewest_X10_bits rfl rfl rfl (by decide +kernel) ⟨Nat.le_of_ble_eq_true rfl, Nat.le_of_ble_eq_true rfl⟩) rfl rfl (Nat.le_of_ble_eq_true rfl) (fun v12 => ?_)
        refine ms_icmp_ge (tgt := 55) C dX10_fewest_39 (by decide) (fun c13 => ?_) (fun c13 => ?_)
        · refine ms_iload_n C dX10_fewest_55 2 rfl ?_
          refine ms_istore_n (L' := [(2, .int x2), (0, .ref (xad X 40 0)), (1, .int x1), (3, .int x3)]) C dX10_fewest_56 rfl (by decide) rfl ?_
          refine ms_iinc (L' := fun v14 => [(3, .int v14), (2, .int x2), (0, .ref (xad X 40 0)), (1, .int x1)]) C dX10_fewest_57 3 rfl (c := 1) (by decide) (by decide) (fun _ => rfl) (fun v14 => ?_)
          refine ms_goto (tgt := 17) C dX10_fewest_60 (by decide) ?_
          exact ms_sub [2, 3, 1, 0] rfl (ih x2 v14)
        · refine ms_aload_n C dX10_fewest_42 0 rfl ?_
          refine ms_iload_n C dX10_fewest_43 3 rfl ?_
          refine ms_callVi (As := [.int x3]) C dX10_fewest_44 (fun _ h => mtX10_madeBy (xl X) (xg X) n M x3 h) (cwV 1 C.2.2.1 gX10_fewest_X10_madeBy rfl rfl rfl (by decide +kernel) ⟨Nat.le_of_ble_eq_true rfl, Nat.le_of_ble_eq_true rfl⟩) (zz40 (G := xg X) Nat.one_pos) (T := TX10) rfl rfl rfl (Nat.le_of_ble_eq_true rfl) (fun v15 => ?_)
          refine ms_iload_n C dX10_fewest_47 1 rfl ?_
          refine ms_icmp_lt (tgt := 55) C dX10_fewest_48 (by decide) (fun c16 => ?_) (fun c16 => ?_)
          · refine ms_iload_n C dX10_fewest_55 2 rfl ?_
            refine ms_istore_n (L' := [(2, .int x2), (0, .ref (xad X 40 0)), (1, .int x1), (3, .int x3)]) C dX10_fewest_56 rfl (by decide) rfl ?_
            refine ms_iinc (L' := fun v17 => [(3, .int v17), (2, .int x2), (0, .ref (xad X 40 0)), (1, .int x1)]) C dX10_fewest_57 3 rfl (c := 1) (by decide) (by decide) (fun _ => rfl) (fun v17 => ?_)
            refine ms_goto (tgt := 17) C dX10_fewest_60 (by decide) ?_
            exact ms_sub [2, 3, 1, 0] rfl (ih x2 v17)
          · refine ms_iload_n C dX10_fewest_51 3 rfl ?_
            refine ms_goto (tgt := 56) C dX10_fewest_52 (by decide) ?_
            refine ms_istore_n (L' := [(2, .int x3), (0, .ref (xad X 40 0)), (1, .int x1), (3, .int x3)]) C dX10_fewest_56 rfl (by decide) rfl ?_
            refine ms_iinc (L' := fun v18 => [(3, .int v18), (2, .int x3), (0, .ref (xad X 40 0)), (1, .int x1)]) C dX10_fewest_57 3 rfl (c := 1) (by decide) (by decide) (fun _ => rfl) (fun v18 => ?_)
            refine ms_goto (tgt := 17) C dX10_fewest_60 (by decide) ?_
            exact ms_sub [2, 3, 1, 0] rfl (ih x3 v18)
set_option maxRecDepth 100000 in
set_option maxHeartbeats 4000000 in
theorem mtX10_fewest (l : Launch) (G : mh_G) (n : Nat) (M : mh_M) (a0 : Int32) {z : Int32} (ho : fX10_fewest n M a0 = some z) : Met l yX10_fewest wsX10_fewest rmX10_fewest (mh_Pc G M [.ref (G.2.2 40 0), .int a0]) (mh_Q G M (some (.int z))) 0 0 (mh_dom G) := by
  refine mh_met (cc := cX10_fewest) (maxL := 4) (ret := (some .int)) (by decide) rfl (Nat.le_of_ble_eq_true rfl) ho ?_
  rintro X rfl rfl C hR
  show mh_W X rmX10_fewest 4 _ z M 0 [(0, .ref (xad X 40 0)), (1, .int a0)] []
  replace C : mh_C X rmX10_fewest cX10_fewest wsX10_fewest RX10 4 := C
  unfold fX10_fewest
  refine ms_iload_n C dX10_fewest_0 1 rfl ?_
  refine ms_iconst C (1 : Int32) dX10_fewest_1 (by decide) ?_
  refine ms_bipush C (12 : Int32) dX10_fewest_2 (by decide) ?_
  refine ms_callSi (As := [.int a0, .int (1 : Int32), .int (12 : Int32)]) C dX10_fewest_4 (fun _ h => mtX10_in (xl X) (xg X) n M a0 (1 : Int32) (12 : Int32) h) (va_cwS 3 C.2.2.1 gX10_fewest_X10_in rfl rfl rfl (by decide +kernel) ⟨Nat.le_of_ble_eq_true rfl, Nat.le_of_ble_eq_true rfl⟩) rfl rfl (Nat.le_of_ble_eq_true rfl) (fun v1 => ?_)
  refine ms_if_ne (tgt := 12) C dX10_fewest_7 (by decide) (fun c2 => ?_) (fun c2 => ?_)
  · refine ms_bipush C (-4 : Int32) dX10_fewest_12 (by decide) ?_
    refine ms_istore_n (L' := [(2, .int (-4 : Int32)), (0, .ref (xad X 40 0)), (1, .int a0)]) C dX10_fewest_14 rfl (by decide) rfl ?_
    refine ms_iconst C (0 : Int32) dX10_fewest_15 (by decide) ?_
    refine ms_istore_n (L' := [(3, .int (0 : Int32)), (2, .int (-4 : Int32)), (0, .ref (xad X 40 0)), (1, .int a0)]) C dX10_fewest_16 rfl (by decide) rfl ?_
    exact ms_sub [2, 3, 1, 0] rfl (mtX10_fewest_L17 (n := n) M a0 C hR n (-4 : Int32) (0 : Int32))
  · refine ms_iconst C (-1 : Int32) dX10_fewest_10 (by decide) ?_
    exact ms_ireti C hR rfl rfl dX10_fewest_11
def rmX10_most : Room := { frames := 1, cells := 0, slots := 0, locals := 25 }
theorem inX10_X10_most : ∀ w ∈ wsX100, w ∈ wsX10_most := by decide +kernel
set_option maxRecDepth 100000 in
set_option maxHeartbeats 4000000 in
theorem mtX10_most_L21 {X : mh_X} {n : Nat} {z : Int32} (M : mh_M) (x1 : Int32) (C : mh_C X rmX10_most cX10_most wsX10_most RX10 5) (hR : mh_R X (some .int) M (some (.int z))) : ∀ (k : Nat) (x2 : Int32) (x3 : Int32) (x4 : Int32), mh_W X rmX10_most 5 (itr3 (fX10_most_L21 n M x1) k x2 x3 x4) z M 21 [(0, .ref (xad X 40 0)), (1, .int x1), (2, .int x2), (3, .int x3), (4, .int x4)] [] := by
  intro k
  induction k with
  | zero =>
    intro x2 x3 x4
    exact ms_none
  | succ k ih =>
    intro x2 x3 x4
    show mh_W X rmX10_most 5 (fX10_most_L21 n M x1 (itr3 (fX10_most_L21 n M x1) k) x2 x3 x4) z M 21 [(0, .ref (xad X 40 0)), (1, .int x1), (2, .int x2), (3, .int x3), (4, .int x4)] []
    generalize itr3 (fX10_most_L21 n M x1) k = rec at ih ⊢
    unfold fX10_most_L21
    refine ms_iload C dX10_most_21 4 rfl ?_
    refine ms_iconst C (1 : Int32) dX10_most_23 (by decide) ?_
    refine ms_aload_n C dX10_most_24 0 rfl ?_
    refine ms_geti C dX10_most_25 (zz40 (G := xg X) Nat.one_pos) (k := 0) (Nat.le_of_ble_eq_true rfl) rfl (Cn := RX10) (T := TX10) rfl inX10_X10_most rfl (by decide +kernel) (fun v4 => ?_)
    refine ms_ishl C dX10_most_28 (fun v5 => ?_)
    refine ms_icmp_ge (tgt := 67) C dX10_most_29 (by decide) (fun c6 => ?_) (fun c6 => ?_)
    · refine ms_iload_n C dX10_most_67 2 rfl ?_
      exact ms_ireti C hR rfl rfl dX10_most_68
    · refine ms_iload C dX10_most_32 4 rfl ?_
      refine ms_callSi (As := [.int x4]) C dX10_most_34 (fun _ h => mtX10_bits (xl X) (xg X) n M x4 h) (va_cwS 1 C.2.2.1 gX10_most_X10_bits rfl rfl rfl (by decide +kernel) ⟨Nat.le_of_ble_eq_true rfl, Nat.le_of_ble_eq_true rfl⟩) rfl rfl (Nat.le_of_ble_eq_true rfl) (fun v7 => ?_)
      refine ms_iload_n C dX10_most_37 1 rfl ?_
      refine ms_icmp_ne (tgt := 61) C dX10_most_38 (by decide) (fun c8 => ?_) (fun c8 => ?_)
      · refine ms_iinc (L' := fun v9 => [(4, .int v9), (0, .ref (xad X 40 0)), (1, .int x1), (2, .int x2), (3, .int x3)]) C dX10_most_61 4 rfl (c := 1) (by decide) (by decide) (fun _ => rfl) (fun v9 => ?_)
        refine ms_goto (tgt := 21) C dX10_most_64 (by decide) ?_
        exact ms_sub [1, 2, 3, 4, 0] rfl (ih x2 x3 v9)
      · refine ms_aload_n C dX10_most_41 0 rfl ?_
        refine ms_iload C dX10_most_42 4 rfl ?_
        refine ms_callVi (As := [.int x4]) C dX10_most_44 (fun _ h => mtX10_madeBy (xl X) (xg X) n M x4 h) (cwV 1 C.2.2.1 gX10_most_X10_madeBy rfl rfl rfl (by decide +kernel) ⟨Nat.le_of_ble_eq_true rfl, Nat.le_of_ble_eq_true rfl⟩) (zz40 (G := xg X) Nat.one_pos) (T := TX10) rfl rfl rfl (Nat.le_of_ble_eq_true rfl) (fun v10 => ?_)
        refine ms_iload_n C dX10_most_47 3 rfl ?_
        refine ms_icmp_le (tgt := 61) C dX10_most_48 (by decide) (fun c11 => ?_) (fun c11 => ?_)
        · refine ms_iinc (L' := fun v12 => [(4, .int v12), (0, .ref (xad X 40 0)), (1, .int x1), (2, .int x2), (3, .int x3)]) C dX10_most_61 4 rfl (c := 1) (by decide) (by decide) (fun _ => rfl) (fun v12 => ?_)
          refine ms_goto (tgt := 21) C dX10_most_64 (by decide) ?_
          exact ms_sub [1, 2, 3, 4, 0] rfl (ih x2 x3 v12)
        · refine ms_iload C dX10_most_51 4 rfl ?_
          refine ms_istore_n (L' := [(2, .int x4), (0, .ref (xad X 40 0)), (1, .int x1), (3, .int x3), (4, .int x4)]) C dX10_most_53 rfl (by decide) rfl ?_
          refine ms_aload_n C dX10_most_54 1 rfl ?_
          refine ms_iload C dX10_most_55 4 rfl ?_
          refine ms_callVi (As := [.int x4]) C dX10_most_57 (fun _ h => mtX10_madeBy (xl X) (xg X) n M x4 h) (cwV 1 C.2.2.1 gX10_most_X10_madeBy rfl rfl rfl (by decide +kernel) ⟨Nat.le_of_ble_eq_true rfl, Nat.le_of_ble_eq_true rfl⟩) (zz40 (G := xg X) Nat.one_pos) (T := TX10) rfl rfl rfl (Nat.le_of_ble_eq_true rfl) (fun v13 => ?_)
          refine ms_istore_n (L' := [(3, .int v13), (2, .int x4), (0, .ref (xad X 40 0)), (1, .int x1), (4, .int x4)]) C dX10_most_60 rfl (by decide) rfl ?_
          refine ms_iinc (L' := fun v14 => [(4, .int v14), (3, .int v13), (2, .int x4), (0, .ref (xad X 40 0)), (1, .int x1)]) C dX10_most_61 4 rfl (c := 1) (by decide) (by decide) (fun _ => rfl) (fun v14 => ?_)
          refine ms_goto (tgt := 21) C dX10_most_64 (by decide) ?_
          exact ms_sub [3, 4, 2, 1, 0] rfl (ih x4 v13 v14)
set_option maxRecDepth 100000 in
set_option maxHeartbeats 4000000 in
theorem mtX10_most (l : Launch) (G : mh_G) (n : Nat) (M : mh_M) (a0 : Int32) {z : Int32} (ho : fX10_most n M a0 = some z) : Met l yX10_most wsX10_most rmX10_most (mh_Pc G M [.ref (G.2.2 40 0), .int a0]) (mh_Q G M (some (.int z))) 0 0 (mh_dom G) := by
  refine mh_met (cc := cX10_most) (maxL := 5) (ret := (some .int)) (by decide) rfl (Nat.le_of_ble_eq_true rfl) ho ?_
  rintro X rfl rfl C hR
  show mh_W X rmX10_most 5 _ z M 0 [(0, .ref (xad X 40 0)), (1, .int a0)] []
  replace C : mh_C X rmX10_most cX10_most wsX10_most RX10 5 := C
  unfold fX10_most
  refine ms_iload_n C dX10_most_0 1 rfl ?_
  refine ms_iconst C (0 : Int32) dX10_most_1 (by decide) ?_
  refine ms_aload_n C dX10_most_2 0 rfl ?_
  refine ms_geti C dX10_most_3 (zz40 (G := xg X) Nat.one_pos) (k := 0) (Nat.le_of_ble_eq_true rfl) rfl (Cn := RX10) (T := TX10) rfl inX10_X10_most rfl (by decide +kernel) (fun v1 => ?_)
  refine ms_callSi (As := [.int a0, .int (0 : Int32), .int v1]) C dX10_most_6 (fun _ h => mtX10_in (xl X) (xg X) n M a0 (0 : Int32) v1 h) (va_cwS 3 C.2.2.1 gX10_most_X10_in rfl rfl rfl (by decide +kernel) ⟨Nat.le_of_ble_eq_true rfl, Nat.le_of_ble_eq_true rfl⟩) rfl rfl (Nat.le_of_ble_eq_true rfl) (fun v2 => ?_)
  refine ms_if_ne (tgt := 14) C dX10_most_9 (by decide) (fun c3 => ?_) (fun c3 => ?_)
  · refine ms_iconst C (-1 : Int32) dX10_most_14 (by decide) ?_
    refine ms_istore_n (L' := [(2, .int (-1 : Int32)), (0, .ref (xad X 40 0)), (1, .int a0)]) C dX10_most_15 rfl (by decide) rfl ?_
    refine ms_iconst C (-1 : Int32) dX10_most_16 (by decide) ?_
    refine ms_istore_n (L' := [(3, .int (-1 : Int32)), (2, .int (-1 : Int32)), (0, .ref (xad X 40 0)), (1, .int a0)]) C dX10_most_17 rfl (by decide) rfl ?_
    refine ms_iconst C (0 : Int32) dX10_most_18 (by decide) ?_
    refine ms_istore (L' := [(4, .int (0 : Int32)), (3, .int (-1 : Int32)), (2, .int (-1 : Int32)), (0, .ref (xad X 40 0)), (1, .int a0)]) C dX10_most_19 (by decide) rfl ?_
    exact ms_sub [3, 4, 2, 1, 0] rfl (mtX10_most_L21 (n := n) M a0 C hR n (-1 : Int32) (-1 : Int32) (0 : Int32))
  · refine ms_iconst C (-1 : Int32) dX10_most_12 (by decide) ?_
    exact ms_ireti C hR rfl rfl dX10_most_13
def rmX10_priceRule : Room := { frames := 1, cells := 0, slots := 0, locals := 22 }
theorem inX10_X10_priceRule : ∀ w ∈ wsX100, w ∈ wsX10_priceRule := by decide +kernel
set_option maxRecDepth 100000 in
set_option maxHeartbeats 4000000 in
theorem mtX10_priceRule (l : Launch) (G : mh_G) (n : Nat) (M : mh_M) (a0 : Int32) (a1 : Int32) (a2 : Int32) (a3 : Int32) {z : mh_M × Int32} (ho : fX10_priceRule n M a0 a1 a2 a3 = some z) : Met l yX10_priceRule wsX10_priceRule rmX10_priceRule (mh_Pc G M [.ref (G.2.2 40 0), .int a0, .int a1, .int a2, .int a3]) (mh_Q G z.1 (some (.int z.2))) 0 0 (mh_dom G) := by
  refine mh_met (cc := cX10_priceRule) (maxL := 5) (ret := (some .int)) (by decide) rfl (Nat.le_of_ble_eq_true rfl) ho ?_
  rintro X rfl rfl C hR
  show mh_W X rmX10_priceRule 5 _ z M 0 [(0, .ref (xad X 40 0)), (1, .int a0), (2, .int a1), (3, .int a2), (4, .int a3)] []
  replace C : mh_C X rmX10_priceRule cX10_priceRule wsX10_priceRule RX10 5 := C
  unfold fX10_priceRule
  refine ms_iload_n C dX10_priceRule_0 1 rfl ?_
  refine ms_iconst C (0 : Int32) dX10_priceRule_1 (by decide) ?_
  refine ms_bipush C (127 : Int32) dX10_priceRule_2 (by decide) ?_
  refine ms_callSi (As := [.int a0, .int (0 : Int32), .int (127 : Int32)]) C dX10_priceRule_4 (fun _ h => mtX10_in (xl X) (xg X) n M a0 (0 : Int32) (127 : Int32) h) (va_cwS 3 C.2.2.1 gX10_priceRule_X10_in rfl rfl rfl (by decide +kernel) ⟨Nat.le_of_ble_eq_true rfl, Nat.le_of_ble_eq_true rfl⟩) rfl rfl (Nat.le_of_ble_eq_true rfl) (fun v1 => ?_)
  refine ms_if_eq (tgt := 44) C dX10_priceRule_7 (by decide) (fun c2 => ?_) (fun c2 => ?_)
  · refine ms_iconst C (-1 : Int32) dX10_priceRule_44 (by decide) ?_
    exact ms_iretm C hR rfl dX10_priceRule_45
  · refine ms_iload_n C dX10_priceRule_10 2 rfl ?_
    refine ms_iconst C (0 : Int32) dX10_priceRule_11 (by decide) ?_
    refine ms_sipush C (1439 : Int32) dX10_priceRule_12 (by decide) ?_
    refine ms_callSi (As := [.int a1, .int (0 : Int32), .int (1439 : Int32)]) C dX10_priceRule_15 (fun _ h => mtX10_in (xl X) (xg X) n M a1 (0 : Int32) (1439 : Int32) h) (va_cwS 3 C.2.2.1 gX10_priceRule_X10_in rfl rfl rfl (by decide +kernel) ⟨Nat.le_of_ble_eq_true rfl, Nat.le_of_ble_eq_true rfl⟩) rfl rfl (Nat.le_of_ble_eq_true rfl) (fun v3 => ?_)
    refine ms_if_eq (tgt := 44) C dX10_priceRule_18 (by decide) (fun c4 => ?_) (fun c4 => ?_)
    · refine ms_iconst C (-1 : Int32) dX10_priceRule_44 (by decide) ?_
      exact ms_iretm C hR rfl dX10_priceRule_45
    · refine ms_iload_n C dX10_priceRule_21 3 rfl ?_
      refine ms_iconst C (0 : Int32) dX10_priceRule_22 (by decide) ?_
      refine ms_sipush C (1439 : Int32) dX10_priceRule_23 (by decide) ?_
      refine ms_callSi (As := [.int a2, .int (0 : Int32), .int (1439 : Int32)]) C dX10_priceRule_26 (fun _ h => mtX10_in (xl X) (xg X) n M a2 (0 : Int32) (1439 : Int32) h) (va_cwS 3 C.2.2.1 gX10_priceRule_X10_in rfl rfl rfl (by decide +kernel) ⟨Nat.le_of_ble_eq_true rfl, Nat.le_of_ble_eq_true rfl⟩) rfl rfl (Nat.le_of_ble_eq_true rfl) (fun v5 => ?_)
      refine ms_if_eq (tgt := 44) C dX10_priceRule_29 (by decide) (fun c6 => ?_) (fun c6 => ?_)
      · refine ms_iconst C (-1 : Int32) dX10_priceRule_44 (by decide) ?_
        exact ms_iretm C hR rfl dX10_priceRule_45
      · refine ms_iload C dX10_priceRule_32 4 rfl ?_
        refine ms_iconst C (0 : Int32) dX10_priceRule_34 (by decide) ?_
        refine ms_sipush C (200 : Int32) dX10_priceRule_35 (by decide) ?_
        refine ms_callSi (As := [.int a3, .int (0 : Int32), .int (200 : Int32)]) C dX10_priceRule_38 (fun _ h => mtX10_in (xl X) (xg X) n M a3 (0 : Int32) (200 : Int32) h) (va_cwS 3 C.2.2.1 gX10_priceRule_X10_in rfl rfl rfl (by decide +kernel) ⟨Nat.le_of_ble_eq_true rfl, Nat.le_of_ble_eq_true rfl⟩) rfl rfl (Nat.le_of_ble_eq_true rfl) (fun v7 => ?_)
        refine ms_if_ne (tgt := 46) C dX10_priceRule_41 (by decide) (fun c8 => ?_) (fun c8 => ?_)
        · refine ms_aload_n C dX10_priceRule_46 0 rfl ?_
          refine ms_geti C dX10_priceRule_47 (zz40 (G := xg X) Nat.one_pos) (k := 24) (Nat.le_of_ble_eq_true rfl) rfl (Cn := RX10) (T := TX10) rfl inX10_X10_priceRule rfl (by decide +kernel) (fun v9 => ?_)
          refine ms_bipush C (12 : Int32) dX10_priceRule_50 (by decide) ?_
          refine ms_icmp_ne (tgt := 58) C dX10_priceRule_52 (by decide) (fun c10 => ?_) (fun c10 => ?_)
          · refine ms_aload_n C dX10_priceRule_58 0 rfl ?_
            refine ms_getr C dX10_priceRule_59 (zz40 (G := xg X) Nat.one_pos) (k := 25) (Nat.le_of_ble_eq_true rfl) (b := xad X 66 0) rfl (Cn := RX10) (T := TX10) rfl inX10_X10_priceRule rfl (by decide +kernel) ?_
            refine ms_aload_n C dX10_priceRule_62 0 rfl ?_
            refine ms_geti C dX10_priceRule_63 (zz40 (G := xg X) Nat.one_pos) (k := 24) (Nat.le_of_ble_eq_true rfl) rfl (Cn := RX10) (T := TX10) rfl inX10_X10_priceRule rfl (by decide +kernel) (fun v11 => ?_)
            refine ms_iload_n C dX10_priceRule_66 1 rfl ?_
            refine ms_st C dX10_priceRule_67 (zz66 (G := xg X) Nat.one_pos) rfl (fun _ M12 => ?_)
            refine ms_aload_n C dX10_priceRule_68 0 rfl ?_
            refine ms_getr C dX10_priceRule_69 (zz40 (G := xg X) Nat.one_pos) (k := 26) (Nat.le_of_ble_eq_true rfl) (b := xad X 67 0) rfl (Cn := RX10) (T := TX10) rfl inX10_X10_priceRule rfl (by decide +kernel) ?_
            refine ms_aload_n C dX10_priceRule_72 0 rfl ?_
            refine ms_geti C dX10_priceRule_73 (zz40 (G := xg X) Nat.one_pos) (k := 24) (Nat.le_of_ble_eq_true rfl) rfl (Cn := RX10) (T := TX10) rfl inX10_X10_priceRule rfl (by decide +kernel) (fun v13 => ?_)
            refine ms_iload_n C dX10_priceRule_76 2 rfl ?_
            refine ms_st C dX10_priceRule_77 (zz67 (G := xg X) Nat.one_pos) rfl (fun _ M14 => ?_)
            refine ms_aload_n C dX10_priceRule_78 0 rfl ?_
            refine ms_getr C dX10_priceRule_79 (zz40 (G := xg X) Nat.one_pos) (k := 27) (Nat.le_of_ble_eq_true rfl) (b := xad X 68 0) rfl (Cn := RX10) (T := TX10) rfl inX10_X10_priceRule rfl (by decide +kernel) ?_
            refine ms_aload_n C dX10_priceRule_82 0 rfl ?_
            refine ms_geti C dX10_priceRule_83 (zz40 (G := xg X) Nat.one_pos) (k := 24) (Nat.le_of_ble_eq_true rfl) rfl (Cn := RX10) (T := TX10) rfl inX10_X10_priceRule rfl (by decide +kernel) (fun v15 => ?_)
            refine ms_iload_n C dX10_priceRule_86 3 rfl ?_
            refine ms_st C dX10_priceRule_87 (zz68 (G := xg X) Nat.one_pos) rfl (fun _ M16 => ?_)
            refine ms_aload_n C dX10_priceRule_88 0 rfl ?_
            refine ms_getr C dX10_priceRule_89 (zz40 (G := xg X) Nat.one_pos) (k := 28) (Nat.le_of_ble_eq_true rfl) (b := xad X 69 0) rfl (Cn := RX10) (T := TX10) rfl inX10_X10_priceRule rfl (by decide +kernel) ?_
            refine ms_aload_n C dX10_priceRule_92 0 rfl ?_
            refine ms_geti C dX10_priceRule_93 (zz40 (G := xg X) Nat.one_pos) (k := 24) (Nat.le_of_ble_eq_true rfl) rfl (Cn := RX10) (T := TX10) rfl inX10_X10_priceRule rfl (by decide +kernel) (fun v17 => ?_)
            refine ms_iload C dX10_priceRule_96 4 rfl ?_
            refine ms_st C dX10_priceRule_98 (zz69 (G := xg X) Nat.one_pos) rfl (fun _ M18 => ?_)
            refine ms_aload_n C dX10_priceRule_99 0 rfl ?_
            refine ms_dup C dX10_priceRule_100 rfl ?_
            refine ms_geti C dX10_priceRule_101 (zz40 (G := xg X) Nat.one_pos) (k := 24) (Nat.le_of_ble_eq_true rfl) rfl (Cn := RX10) (T := TX10) rfl inX10_X10_priceRule rfl (by decide +kernel) (fun v19 => ?_)
            refine ms_iconst C (1 : Int32) dX10_priceRule_104 (by decide) ?_
            refine ms_iadd C dX10_priceRule_105 (fun v20 => ?_)
            refine ms_puti C dX10_priceRule_106 tyX10 tyX10_ok nmX10 (zz40 (G := xg X) Nat.one_pos) (k := 24) (Nat.le_of_ble_eq_true rfl) rfl (Cn := RX10) (T := TX10) rfl inX10_X10_priceRule rfl (by decide +kernel) rfl (by decide +kernel) (fun M21 => ?_)
            refine ms_aload_n C dX10_priceRule_109 0 rfl ?_
            refine ms_geti C dX10_priceRule_110 (zz40 (G := xg X) Nat.one_pos) (k := 24) (Nat.le_of_ble_eq_true rfl) rfl (Cn := RX10) (T := TX10) rfl inX10_X10_priceRule rfl (by decide +kernel) (fun v22 => ?_)
            exact ms_iretm C hR rfl dX10_priceRule_113
          · refine ms_bipush C (-3 : Int32) dX10_priceRule_55 (by decide) ?_
            exact ms_iretm C hR rfl dX10_priceRule_57
        · refine ms_iconst C (-1 : Int32) dX10_priceRule_44 (by decide) ?_
          exact ms_iretm C hR rfl dX10_priceRule_45
def rmX10_price : Room := { frames := 3, cells := 0, slots := 0, locals := 72 }
set_option maxRecDepth 100000 in
set_option maxHeartbeats 4000000 in
theorem mtX10_price (l : Launch) (G : mh_G) (n : Nat) (M : mh_M) (a0 : Int32) (a1 : Int32) (a2 : Int32) {z : Int32} (ho : fX10_price n M a0 a1 a2 = some z) : Met l yX10_price wsX10_price rmX10_price (mh_Pc G M [.ref (G.2.2 40 0), .int a0, .int a1, .int a2]) (mh_Q G M (some (.int z))) 0 0 (mh_dom G) := by
  refine mh_met (cc := cX10_price) (maxL := 4) (ret := (some .int)) (by decide) rfl (Nat.le_of_ble_eq_true rfl) ho ?_
  rintro X rfl rfl C hR
  show mh_W X rmX10_price 4 _ z M 0 [(0, .ref (xad X 40 0)), (1, .int a0), (2, .int a1), (3, .int a2)] []
  replace C : mh_C X rmX10_price cX10_price wsX10_price RX10 4 := C
  unfold fX10_price
  refine ms_aload_n C dX10_price_0 0 rfl ?_
  refine ms_iload_n C dX10_price_1 1 rfl ?_
  refine ms_callVi (As := [.int a0]) C dX10_price_2 (fun _ h => mtX10_isRecipe (xl X) (xg X) n M a0 h) (cwV 1 C.2.2.1 gX10_price_X10_isRecipe rfl rfl rfl (by decide +kernel) ⟨Nat.le_of_ble_eq_true rfl, Nat.le_of_ble_eq_true rfl⟩) (zz40 (G := xg X) Nat.one_pos) (T := TX10) rfl rfl rfl (Nat.le_of_ble_eq_true rfl) (fun v1 => ?_)
  refine ms_if_eq (tgt := 39) C dX10_price_5 (by decide) (fun c2 => ?_) (fun c2 => ?_)
  · refine ms_iconst C (-1 : Int32) dX10_price_39 (by decide) ?_
    exact ms_ireti C hR rfl rfl dX10_price_40
  · refine ms_iload_n C dX10_price_8 2 rfl ?_
    refine ms_iconst C (0 : Int32) dX10_price_9 (by decide) ?_
    refine ms_bipush C (6 : Int32) dX10_price_10 (by decide) ?_
    refine ms_callSi (As := [.int a1, .int (0 : Int32), .int (6 : Int32)]) C dX10_price_12 (fun _ h => mtX10_in (xl X) (xg X) n M a1 (0 : Int32) (6 : Int32) h) (va_cwS 3 C.2.2.1 gX10_price_X10_in rfl rfl rfl (by decide +kernel) ⟨Nat.le_of_ble_eq_true rfl, Nat.le_of_ble_eq_true rfl⟩) rfl rfl (Nat.le_of_ble_eq_true rfl) (fun v3 => ?_)
    refine ms_if_eq (tgt := 39) C dX10_price_15 (by decide) (fun c4 => ?_) (fun c4 => ?_)
    · refine ms_iconst C (-1 : Int32) dX10_price_39 (by decide) ?_
      exact ms_ireti C hR rfl rfl dX10_price_40
    · refine ms_iload_n C dX10_price_18 3 rfl ?_
      refine ms_iconst C (0 : Int32) dX10_price_19 (by decide) ?_
      refine ms_sipush C (1439 : Int32) dX10_price_20 (by decide) ?_
      refine ms_callSi (As := [.int a2, .int (0 : Int32), .int (1439 : Int32)]) C dX10_price_23 (fun _ h => mtX10_in (xl X) (xg X) n M a2 (0 : Int32) (1439 : Int32) h) (va_cwS 3 C.2.2.1 gX10_price_X10_in rfl rfl rfl (by decide +kernel) ⟨Nat.le_of_ble_eq_true rfl, Nat.le_of_ble_eq_true rfl⟩) rfl rfl (Nat.le_of_ble_eq_true rfl) (fun v5 => ?_)
      refine ms_if_eq (tgt := 39) C dX10_price_26 (by decide) (fun c6 => ?_) (fun c6 => ?_)
      · refine ms_iconst C (-1 : Int32) dX10_price_39 (by decide) ?_
        exact ms_ireti C hR rfl rfl dX10_price_40
      · refine ms_aload_n C dX10_price_29 0 rfl ?_
        refine ms_iload_n C dX10_price_30 1 rfl ?_
        refine ms_iload_n C dX10_price_31 2 rfl ?_
        refine ms_iload_n C dX10_price_32 3 rfl ?_
        refine ms_callVi (As := [.int a0, .int a1, .int a2]) C dX10_price_33 (fun _ h => mtX10_priceOf (xl X) (xg X) n M a0 a1 a2 h) (cwV 3 C.2.2.1 gX10_price_X10_priceOf rfl rfl rfl (by decide +kernel) ⟨Nat.le_of_ble_eq_true rfl, Nat.le_of_ble_eq_true rfl⟩) (zz40 (G := xg X) Nat.one_pos) (T := TX10) rfl rfl rfl (Nat.le_of_ble_eq_true rfl) (fun v7 => ?_)
        refine ms_goto (tgt := 40) C dX10_price_36 (by decide) ?_
        exact ms_ireti C hR rfl rfl dX10_price_40
def rmX10_person : Room := { frames := 1, cells := 0, slots := 0, locals := 22 }
theorem inX10_X10_person : ∀ w ∈ wsX100, w ∈ wsX10_person := by decide +kernel
set_option maxRecDepth 100000 in
set_option maxHeartbeats 4000000 in
theorem mtX10_person (l : Launch) (G : mh_G) (n : Nat) (M : mh_M) (a0 : Int32) (a1 : Int32) (a2 : Int32) {z : mh_M × Int32} (ho : fX10_person n M a0 a1 a2 = some z) : Met l yX10_person wsX10_person rmX10_person (mh_Pc G M [.ref (G.2.2 40 0), .int a0, .int a1, .int a2]) (mh_Q G z.1 (some (.int z.2))) 0 0 (mh_dom G) := by
  refine mh_met (cc := cX10_person) (maxL := 4) (ret := (some .int)) (by decide) rfl (Nat.le_of_ble_eq_true rfl) ho ?_
  rintro X rfl rfl C hR
  show mh_W X rmX10_person 4 _ z M 0 [(0, .ref (xad X 40 0)), (1, .int a0), (2, .int a1), (3, .int a2)] []
  replace C : mh_C X rmX10_person cX10_person wsX10_person RX10 4 := C
  unfold fX10_person
  refine ms_iload_n C dX10_person_0 1 rfl ?_
  refine ms_iconst C (0 : Int32) dX10_person_1 (by decide) ?_
  refine ms_iconst C (5 : Int32) dX10_person_2 (by decide) ?_
  refine ms_callSi (As := [.int a0, .int (0 : Int32), .int (5 : Int32)]) C dX10_person_3 (fun _ h => mtX10_in (xl X) (xg X) n M a0 (0 : Int32) (5 : Int32) h) (va_cwS 3 C.2.2.1 gX10_person_X10_in rfl rfl rfl (by decide +kernel) ⟨Nat.le_of_ble_eq_true rfl, Nat.le_of_ble_eq_true rfl⟩) rfl rfl (Nat.le_of_ble_eq_true rfl) (fun v1 => ?_)
  refine ms_if_eq (tgt := 30) C dX10_person_6 (by decide) (fun c2 => ?_) (fun c2 => ?_)
  · refine ms_iconst C (-1 : Int32) dX10_person_30 (by decide) ?_
    exact ms_iretm C hR rfl dX10_person_31
  · refine ms_iload_n C dX10_person_9 2 rfl ?_
    refine ms_iconst C (0 : Int32) dX10_person_10 (by decide) ?_
    refine ms_bipush C (10 : Int32) dX10_person_11 (by decide) ?_
    refine ms_callSi (As := [.int a1, .int (0 : Int32), .int (10 : Int32)]) C dX10_person_13 (fun _ h => mtX10_in (xl X) (xg X) n M a1 (0 : Int32) (10 : Int32) h) (va_cwS 3 C.2.2.1 gX10_person_X10_in rfl rfl rfl (by decide +kernel) ⟨Nat.le_of_ble_eq_true rfl, Nat.le_of_ble_eq_true rfl⟩) rfl rfl (Nat.le_of_ble_eq_true rfl) (fun v3 => ?_)
    refine ms_if_eq (tgt := 30) C dX10_person_16 (by decide) (fun c4 => ?_) (fun c4 => ?_)
    · refine ms_iconst C (-1 : Int32) dX10_person_30 (by decide) ?_
      exact ms_iretm C hR rfl dX10_person_31
    · refine ms_iload_n C dX10_person_19 3 rfl ?_
      refine ms_iconst C (0 : Int32) dX10_person_20 (by decide) ?_
      refine ms_sipush C (1440 : Int32) dX10_person_21 (by decide) ?_
      refine ms_callSi (As := [.int a2, .int (0 : Int32), .int (1440 : Int32)]) C dX10_person_24 (fun _ h => mtX10_in (xl X) (xg X) n M a2 (0 : Int32) (1440 : Int32) h) (va_cwS 3 C.2.2.1 gX10_person_X10_in rfl rfl rfl (by decide +kernel) ⟨Nat.le_of_ble_eq_true rfl, Nat.le_of_ble_eq_true rfl⟩) rfl rfl (Nat.le_of_ble_eq_true rfl) (fun v5 => ?_)
      refine ms_if_ne (tgt := 32) C dX10_person_27 (by decide) (fun c6 => ?_) (fun c6 => ?_)
      · refine ms_aload_n C dX10_person_32 0 rfl ?_
        refine ms_getr C dX10_person_33 (zz40 (G := xg X) Nat.one_pos) (k := 29) (Nat.le_of_ble_eq_true rfl) (b := xad X 70 0) rfl (Cn := RX10) (T := TX10) rfl inX10_X10_person rfl (by decide +kernel) ?_
        refine ms_iload_n C dX10_person_36 1 rfl ?_
        refine ms_iload_n C dX10_person_37 2 rfl ?_
        refine ms_iload_n C dX10_person_38 3 rfl ?_
        refine ms_imul C dX10_person_39 (fun v7 => ?_)
        refine ms_st C dX10_person_40 (zz70 (G := xg X) Nat.one_pos) rfl (fun _ M8 => ?_)
        refine ms_iconst C (0 : Int32) dX10_person_41 (by decide) ?_
        exact ms_iretm C hR rfl dX10_person_42
      · refine ms_iconst C (-1 : Int32) dX10_person_30 (by decide) ?_
        exact ms_iretm C hR rfl dX10_person_31
def rmX10_tips : Room := { frames := 1, cells := 0, slots := 0, locals := 22 }
theorem inX10_X10_tips : ∀ w ∈ wsX100, w ∈ wsX10_tips := by decide +kernel
set_option maxRecDepth 100000 in
set_option maxHeartbeats 4000000 in
theorem mtX10_tips_L83 {X : mh_X} {n : Nat} {z : Int32} (M : mh_M) (x1 : Int32) (x2 : Int32) (x3 : Int64) (x8 : Int64) (C : mh_C X rmX10_tips cX10_tips wsX10_tips RX10 13) (hR : mh_R X (some .int) M (some (.int z))) : ∀ (k : Nat) (x5 : Int64) (x7 : Int32) (x10 : Int32), mh_W X rmX10_tips 13 (itr3 (fX10_tips_L83 n M x1 x2 x3 x8) k x5 x7 x10) z M 83 [(0, .ref (xad X 40 0)), (1, .int x1), (2, .int x2), (3, .long x3), (5, .long x5), (7, .int x7), (8, .long x8), (10, .int x10)] [] := by
  intro k
  induction k with
  | zero =>
    intro x5 x7 x10
    exact ms_none
  | succ k ih =>
    intro x5 x7 x10
    show mh_W X rmX10_tips 13 (fX10_tips_L83 n M x1 x2 x3 x8 (itr3 (fX10_tips_L83 n M x1 x2 x3 x8) k) x5 x7 x10) z M 83 [(0, .ref (xad X 40 0)), (1, .int x1), (2, .int x2), (3, .long x3), (5, .long x5), (7, .int x7), (8, .long x8), (10, .int x10)] []
    generalize itr3 (fX10_tips_L83 n M x1 x2 x3 x8) k = rec at ih ⊢
    unfold fX10_tips_L83
    refine ms_iload C dX10_tips_83 7 rfl ?_
    refine ms_bipush C (6 : Int32) dX10_tips_85 (by decide) ?_
    refine ms_icmp_ge (tgt := 161) C dX10_tips_87 (by decide) (fun c14 => ?_) (fun c14 => ?_)
    · refine ms_iload_n C dX10_tips_161 1 rfl ?_
      refine ms_i2l C dX10_tips_162 (fun v15 => ?_)
      refine ms_aload_n C dX10_tips_163 0 rfl ?_
      refine ms_getr C dX10_tips_164 (zz40 (G := xg X) Nat.one_pos) (k := 29) (Nat.le_of_ble_eq_true rfl) (b := xad X 70 0) rfl (Cn := RX10) (T := TX10) rfl inX10_X10_tips rfl (by decide +kernel) ?_
      refine ms_iload_n C dX10_tips_167 2 rfl ?_
      refine ms_ld C dX10_tips_168 (zz70 (G := xg X) Nat.one_pos) rfl (fun _ v16 => ?_)
      refine ms_i2l C dX10_tips_169 (fun v17 => ?_)
      refine ms_lmul C dX10_tips_170 (fun v18 => ?_)
      refine ms_lload_n C dX10_tips_171 3 rfl ?_
      refine ms_ldiv C dX10_tips_172 (fun v19 => ?_)
      refine ms_l2i C dX10_tips_173 (fun v20 => ?_)
      refine ms_iload C dX10_tips_174 5 rfl ?_
      refine ms_i2l C dX10_tips_176 (fun v21 => ?_)
      refine ms_lload C dX10_tips_177 4 rfl ?_
      refine ms_lcmp C dX10_tips_179 (fun v22 => ?_)
      refine ms_if_ge (tgt := 187) C dX10_tips_180 (by decide) (fun c23 => ?_) (fun c23 => ?_)
      · refine ms_iconst C (0 : Int32) dX10_tips_187 (by decide) ?_
        refine ms_iadd C dX10_tips_188 (fun v24 => ?_)
        exact ms_ireti C hR rfl rfl dX10_tips_189
      · refine ms_iconst C (1 : Int32) dX10_tips_183 (by decide) ?_
        refine ms_goto (tgt := 188) C dX10_tips_184 (by decide) ?_
        refine ms_iadd C dX10_tips_188 (fun v25 => ?_)
        exact ms_ireti C hR rfl rfl dX10_tips_189
    · refine ms_lload C dX10_tips_90 4 rfl ?_
      refine ms_iload_n C dX10_tips_92 1 rfl ?_
      refine ms_i2l C dX10_tips_93 (fun v26 => ?_)
      refine ms_aload_n C dX10_tips_94 0 rfl ?_
      refine ms_getr C dX10_tips_95 (zz40 (G := xg X) Nat.one_pos) (k := 29) (Nat.le_of_ble_eq_true rfl) (b := xad X 70 0) rfl (Cn := RX10) (T := TX10) rfl inX10_X10_tips rfl (by decide +kernel) ?_
      refine ms_iload C dX10_tips_98 7 rfl ?_
      refine ms_ld C dX10_tips_100 (zz70 (G := xg X) Nat.one_pos) rfl (fun _ v27 => ?_)
      refine ms_i2l C dX10_tips_101 (fun v28 => ?_)
      refine ms_lmul C dX10_tips_102 (fun v29 => ?_)
      refine ms_lload_n C dX10_tips_103 3 rfl ?_
      refine ms_ldiv C dX10_tips_104 (fun v30 => ?_)
      refine ms_lsub C dX10_tips_105 (fun v31 => ?_)
      refine ms_lstore (L' := [(5, .long v31), (0, .ref (xad X 40 0)), (1, .int x1), (2, .int x2), (3, .long x3), (7, .int x7), (8, .long x8), (10, .int x10)]) C dX10_tips_106 (by decide) rfl ?_
      refine ms_iload_n C dX10_tips_108 2 rfl ?_
      refine ms_i2l C dX10_tips_109 (fun v32 => ?_)
      refine ms_aload_n C dX10_tips_110 1 rfl ?_
      refine ms_getr C dX10_tips_111 (zz40 (G := xg X) Nat.one_pos) (k := 29) (Nat.le_of_ble_eq_true rfl) (b := xad X 70 0) rfl (Cn := RX10) (T := TX10) rfl inX10_X10_tips rfl (by decide +kernel) ?_
      refine ms_iload C dX10_tips_114 7 rfl ?_
      refine ms_ld C dX10_tips_116 (zz70 (G := xg X) Nat.one_pos) rfl (fun _ v33 => ?_)
      refine ms_i2l C dX10_tips_117 (fun v34 => ?_)
      refine ms_lmul C dX10_tips_118 (fun v35 => ?_)
      refine ms_lload_n C dX10_tips_119 4 rfl ?_
      refine ms_lrem C dX10_tips_120 (fun v36 => ?_)
      refine ms_lstore (L' := [(11, .long v36), (5, .long v31), (0, .ref (xad X 40 0)), (1, .int x1), (2, .int x2), (3, .long x3), (7, .int x7), (8, .long x8), (10, .int x10)]) C dX10_tips_121 (by decide) rfl ?_
      refine ms_iload C dX10_tips_123 6 rfl ?_
      refine ms_lload C dX10_tips_125 0 rfl ?_
      refine ms_lload C dX10_tips_127 7 rfl ?_
      refine ms_lcmp C dX10_tips_129 (fun v37 => ?_)
      refine ms_if_gt (tgt := 147) C dX10_tips_130 (by decide) (fun c38 => ?_) (fun c38 => ?_)
      · refine ms_iconst C (1 : Int32) dX10_tips_147 (by decide) ?_
        refine ms_goto (tgt := 152) C dX10_tips_148 (by decide) ?_
        refine ms_iadd C dX10_tips_152 (fun v39 => ?_)
        refine ms_istore (L' := [(7, .int v39), (11, .long v36), (5, .long v31), (0, .ref (xad X 40 0)), (1, .int x1), (2, .int x2), (3, .long x3), (8, .long x8), (10, .int x10)]) C dX10_tips_153 (by decide) rfl ?_
        refine ms_iinc (L' := fun v40 => [(10, .int v40), (7, .int v39), (11, .long v36), (5, .long v31), (0, .ref (xad X 40 0)), (1, .int x1), (2, .int x2), (3, .long x3), (8, .long x8)]) C dX10_tips_155 8 rfl (c := 1) (by decide) (by decide) (fun _ => rfl) (fun v40 => ?_)
        refine ms_goto (tgt := 83) C dX10_tips_158 (by decide) ?_
        exact ms_sub [4, 5, 6, 7, 3, 1, 8, 0] rfl (ih v31 v39 v40)
      · refine ms_lload C dX10_tips_133 0 rfl ?_
        refine ms_lload C dX10_tips_135 7 rfl ?_
        refine ms_lcmp C dX10_tips_137 (fun v41 => ?_)
        refine ms_if_ne (tgt := 151) C dX10_tips_138 (by decide) (fun c42 => ?_) (fun c42 => ?_)
        · refine ms_iconst C (0 : Int32) dX10_tips_151 (by decide) ?_
          refine ms_iadd C dX10_tips_152 (fun v43 => ?_)
          refine ms_istore (L' := [(7, .int v43), (11, .long v36), (5, .long v31), (0, .ref (xad X 40 0)), (1, .int x1), (2, .int x2), (3, .long x3), (8, .long x8), (10, .int x10)]) C dX10_tips_153 (by decide) rfl ?_
          refine ms_iinc (L' := fun v44 => [(10, .int v44), (7, .int v43), (11, .long v36), (5, .long v31), (0, .ref (xad X 40 0)), (1, .int x1), (2, .int x2), (3, .long x3), (8, .long x8)]) C dX10_tips_155 8 rfl (c := 1) (by decide) (by decide) (fun _ => rfl) (fun v44 => ?_)
          refine ms_goto (tgt := 83) C dX10_tips_158 (by decide) ?_
          exact ms_sub [4, 5, 6, 7, 3, 1, 8, 0] rfl (ih v31 v43 v44)
        · refine ms_iload C dX10_tips_141 8 rfl ?_
          refine ms_iload_n C dX10_tips_143 4 rfl ?_
          refine ms_icmp_ge (tgt := 151) C dX10_tips_144 (by decide) (fun c45 => ?_) (fun c45 => ?_)
          · refine ms_iconst C (0 : Int32) dX10_tips_151 (by decide) ?_
            refine ms_iadd C dX10_tips_152 (fun v46 => ?_)
            refine ms_istore (L' := [(7, .int v46), (11, .long v36), (5, .long v31), (0, .ref (xad X 40 0)), (1, .int x1), (2, .int x2), (3, .long x3), (8, .long x8), (10, .int x10)]) C dX10_tips_153 (by decide) rfl ?_
            refine ms_iinc (L' := fun v47 => [(10, .int v47), (7, .int v46), (11, .long v36), (5, .long v31), (0, .ref (xad X 40 0)), (1, .int x1), (2, .int x2), (3, .long x3), (8, .long x8)]) C dX10_tips_155 8 rfl (c := 1) (by decide) (by decide) (fun _ => rfl) (fun v47 => ?_)
            refine ms_goto (tgt := 83) C dX10_tips_158 (by decide) ?_
            exact ms_sub [4, 5, 6, 7, 3, 1, 8, 0] rfl (ih v31 v46 v47)
          · refine ms_iconst C (1 : Int32) dX10_tips_147 (by decide) ?_
            refine ms_goto (tgt := 152) C dX10_tips_148 (by decide) ?_
            refine ms_iadd C dX10_tips_152 (fun v48 => ?_)
            refine ms_istore (L' := [(7, .int v48), (11, .long v36), (5, .long v31), (0, .ref (xad X 40 0)), (1, .int x1), (2, .int x2), (3, .long x3), (8, .long x8), (10, .int x10)]) C dX10_tips_153 (by decide) rfl ?_
            refine ms_iinc (L' := fun v49 => [(10, .int v49), (7, .int v48), (11, .long v36), (5, .long v31), (0, .ref (xad X 40 0)), (1, .int x1), (2, .int x2), (3, .long x3), (8, .long x8)]) C dX10_tips_155 8 rfl (c := 1) (by decide) (by decide) (fun _ => rfl) (fun v49 => ?_)
            refine ms_goto (tgt := 83) C dX10_tips_158 (by decide) ?_
            exact ms_sub [4, 5, 6, 7, 3, 1, 8, 0] rfl (ih v31 v48 v49)
set_option maxRecDepth 100000 in
set_option maxHeartbeats 4000000 in
theorem mtX10_tips_L26 {X : mh_X} {n : Nat} {z : Int32} (M : mh_M) (x1 : Int32) (x2 : Int32) (C : mh_C X rmX10_tips cX10_tips wsX10_tips RX10 13) (hR : mh_R X (some .int) M (some (.int z))) : ∀ (k : Nat) (x3 : Int64) (x5 : Int32), mh_W X rmX10_tips 13 (itr2 (fX10_tips_L26 n M x1 x2) k x3 x5) z M 26 [(0, .ref (xad X 40 0)), (1, .int x1), (2, .int x2), (3, .long x3), (5, .int x5)] [] := by
  intro k
  induction k with
  | zero =>
    intro x3 x5
    exact ms_none
  | succ k ih =>
    intro x3 x5
    show mh_W X rmX10_tips 13 (fX10_tips_L26 n M x1 x2 (itr2 (fX10_tips_L26 n M x1 x2) k) x3 x5) z M 26 [(0, .ref (xad X 40 0)), (1, .int x1), (2, .int x2), (3, .long x3), (5, .int x5)] []
    generalize itr2 (fX10_tips_L26 n M x1 x2) k = rec at ih ⊢
    unfold fX10_tips_L26
    refine ms_iload C dX10_tips_26 4 rfl ?_
    refine ms_bipush C (6 : Int32) dX10_tips_28 (by decide) ?_
    refine ms_icmp_ge (tgt := 50) C dX10_tips_30 (by decide) (fun c5 => ?_) (fun c5 => ?_)
    · refine ms_lload_n C dX10_tips_50 3 rfl ?_
      refine ms_lconst C (0 : Int64) dX10_tips_51 (by decide) ?_
      refine ms_lcmp C dX10_tips_52 (fun v6 => ?_)
      refine ms_if_ne (tgt := 59) C dX10_tips_53 (by decide) (fun c7 => ?_) (fun c7 => ?_)
      · refine ms_iload_n C dX10_tips_59 1 rfl ?_
        refine ms_i2l C dX10_tips_60 (fun v8 => ?_)
        refine ms_lstore (L' := [(5, .long v8), (0, .ref (xad X 40 0)), (1, .int x1), (2, .int x2), (3, .long x3)]) C dX10_tips_61 (by decide) rfl ?_
        refine ms_iconst C (0 : Int32) dX10_tips_63 (by decide) ?_
        refine ms_istore (L' := [(7, .int (0 : Int32)), (5, .long v8), (0, .ref (xad X 40 0)), (1, .int x1), (2, .int x2), (3, .long x3)]) C dX10_tips_64 (by decide) rfl ?_
        refine ms_iload_n C dX10_tips_66 3 rfl ?_
        refine ms_i2l C dX10_tips_67 (fun v9 => ?_)
        refine ms_aload_n C dX10_tips_68 2 rfl ?_
        refine ms_getr C dX10_tips_69 (zz40 (G := xg X) Nat.one_pos) (k := 29) (Nat.le_of_ble_eq_true rfl) (b := xad X 70 0) rfl (Cn := RX10) (T := TX10) rfl inX10_X10_tips rfl (by decide +kernel) ?_
        refine ms_iload_n C dX10_tips_72 4 rfl ?_
        refine ms_ld C dX10_tips_73 (zz70 (G := xg X) Nat.one_pos) rfl (fun _ v10 => ?_)
        refine ms_i2l C dX10_tips_74 (fun v11 => ?_)
        refine ms_lmul C dX10_tips_75 (fun v12 => ?_)
        refine ms_lload_n C dX10_tips_76 5 rfl ?_
        refine ms_lrem C dX10_tips_77 (fun v13 => ?_)
        refine ms_lstore (L' := [(8, .long v13), (7, .int (0 : Int32)), (5, .long v8), (0, .ref (xad X 40 0)), (1, .int x1), (2, .int x2), (3, .long x3)]) C dX10_tips_78 (by decide) rfl ?_
        refine ms_iconst C (0 : Int32) dX10_tips_80 (by decide) ?_
        refine ms_istore (L' := [(10, .int (0 : Int32)), (8, .long v13), (7, .int (0 : Int32)), (5, .long v8), (0, .ref (xad X 40 0)), (1, .int x1), (2, .int x2), (3, .long x3)]) C dX10_tips_81 (by decide) rfl ?_
        exact ms_sub [4, 5, 6, 7, 3, 2, 1, 0] rfl (mtX10_tips_L83 (n := n) M x1 x2 x3 v13 C hR n v8 (0 : Int32) (0 : Int32))
      · refine ms_bipush C (-2 : Int32) dX10_tips_56 (by decide) ?_
        exact ms_ireti C hR rfl rfl dX10_tips_58
    · refine ms_lload_n C dX10_tips_33 3 rfl ?_
      refine ms_aload_n C dX10_tips_34 0 rfl ?_
      refine ms_getr C dX10_tips_35 (zz40 (G := xg X) Nat.one_pos) (k := 29) (Nat.le_of_ble_eq_true rfl) (b := xad X 70 0) rfl (Cn := RX10) (T := TX10) rfl inX10_X10_tips rfl (by decide +kernel) ?_
      refine ms_iload C dX10_tips_38 4 rfl ?_
      refine ms_ld C dX10_tips_40 (zz70 (G := xg X) Nat.one_pos) rfl (fun _ v50 => ?_)
      refine ms_i2l C dX10_tips_41 (fun v51 => ?_)
      refine ms_ladd C dX10_tips_42 (fun v52 => ?_)
      refine ms_lstore_n (L' := [(3, .long v52), (0, .ref (xad X 40 0)), (1, .int x1), (2, .int x2), (5, .int x5)]) C dX10_tips_43 rfl (by decide) rfl ?_
      refine ms_iinc (L' := fun v53 => [(5, .int v53), (3, .long v52), (0, .ref (xad X 40 0)), (1, .int x1), (2, .int x2)]) C dX10_tips_44 4 rfl (c := 1) (by decide) (by decide) (fun _ => rfl) (fun v53 => ?_)
      refine ms_goto (tgt := 26) C dX10_tips_47 (by decide) ?_
      exact ms_sub [2, 3, 4, 1, 0] rfl (ih v52 v53)
set_option maxRecDepth 100000 in
set_option maxHeartbeats 4000000 in
theorem mtX10_tips (l : Launch) (G : mh_G) (n : Nat) (M : mh_M) (a0 : Int32) (a1 : Int32) {z : Int32} (ho : fX10_tips n M a0 a1 = some z) : Met l yX10_tips wsX10_tips rmX10_tips (mh_Pc G M [.ref (G.2.2 40 0), .int a0, .int a1]) (mh_Q G M (some (.int z))) 0 0 (mh_dom G) := by
  refine mh_met (cc := cX10_tips) (maxL := 13) (ret := (some .int)) (by decide) rfl (Nat.le_of_ble_eq_true rfl) ho ?_
  rintro X rfl rfl C hR
  show mh_W X rmX10_tips 13 _ z M 0 [(0, .ref (xad X 40 0)), (1, .int a0), (2, .int a1)] []
  replace C : mh_C X rmX10_tips cX10_tips wsX10_tips RX10 13 := C
  unfold fX10_tips
  refine ms_iload_n C dX10_tips_0 1 rfl ?_
  refine ms_iconst C (0 : Int32) dX10_tips_1 (by decide) ?_
  refine ms_ldc C (1000000 : Int32) dX10_tips_2 (by decide +kernel) ?_
  refine ms_callSi (As := [.int a0, .int (0 : Int32), .int (1000000 : Int32)]) C dX10_tips_4 (fun _ h => mtX10_in (xl X) (xg X) n M a0 (0 : Int32) (1000000 : Int32) h) (va_cwS 3 C.2.2.1 gX10_tips_X10_in rfl rfl rfl (by decide +kernel) ⟨Nat.le_of_ble_eq_true rfl, Nat.le_of_ble_eq_true rfl⟩) rfl rfl (Nat.le_of_ble_eq_true rfl) (fun v1 => ?_)
  refine ms_if_eq (tgt := 19) C dX10_tips_7 (by decide) (fun c2 => ?_) (fun c2 => ?_)
  · refine ms_iconst C (-1 : Int32) dX10_tips_19 (by decide) ?_
    exact ms_ireti C hR rfl rfl dX10_tips_20
  · refine ms_iload_n C dX10_tips_10 2 rfl ?_
    refine ms_iconst C (0 : Int32) dX10_tips_11 (by decide) ?_
    refine ms_iconst C (5 : Int32) dX10_tips_12 (by decide) ?_
    refine ms_callSi (As := [.int a1, .int (0 : Int32), .int (5 : Int32)]) C dX10_tips_13 (fun _ h => mtX10_in (xl X) (xg X) n M a1 (0 : Int32) (5 : Int32) h) (va_cwS 3 C.2.2.1 gX10_tips_X10_in rfl rfl rfl (by decide +kernel) ⟨Nat.le_of_ble_eq_true rfl, Nat.le_of_ble_eq_true rfl⟩) rfl rfl (Nat.le_of_ble_eq_true rfl) (fun v3 => ?_)
    refine ms_if_ne (tgt := 21) C dX10_tips_16 (by decide) (fun c4 => ?_) (fun c4 => ?_)
    · refine ms_lconst C (0 : Int64) dX10_tips_21 (by decide) ?_
      refine ms_lstore_n (L' := [(3, .long (0 : Int64)), (0, .ref (xad X 40 0)), (1, .int a0), (2, .int a1)]) C dX10_tips_22 rfl (by decide) rfl ?_
      refine ms_iconst C (0 : Int32) dX10_tips_23 (by decide) ?_
      refine ms_istore (L' := [(5, .int (0 : Int32)), (3, .long (0 : Int64)), (0, .ref (xad X 40 0)), (1, .int a0), (2, .int a1)]) C dX10_tips_24 (by decide) rfl ?_
      exact ms_sub [2, 3, 4, 1, 0] rfl (mtX10_tips_L26 (n := n) M a0 a1 C hR n (0 : Int64) (0 : Int32))
    · refine ms_iconst C (-1 : Int32) dX10_tips_19 (by decide) ?_
      exact ms_ireti C hR rfl rfl dX10_tips_20
def rmX10_keg : Room := { frames := 1, cells := 0, slots := 0, locals := 22 }
theorem inX10_X10_keg : ∀ w ∈ wsX100, w ∈ wsX10_keg := by decide +kernel
set_option maxRecDepth 100000 in
set_option maxHeartbeats 4000000 in
theorem mtX10_keg (l : Launch) (G : mh_G) (n : Nat) (M : mh_M) (a0 : Int32) (a1 : Int32) {z : Int32} (ho : fX10_keg n M a0 a1 = some z) : Met l yX10_keg wsX10_keg rmX10_keg (mh_Pc G M [.ref (G.2.2 40 0), .int a0, .int a1]) (mh_Q G M (some (.int z))) 0 0 (mh_dom G) := by
  refine mh_met (cc := cX10_keg) (maxL := 4) (ret := (some .int)) (by decide) rfl (Nat.le_of_ble_eq_true rfl) ho ?_
  rintro X rfl rfl C hR
  show mh_W X rmX10_keg 4 _ z M 0 [(0, .ref (xad X 40 0)), (1, .int a0), (2, .int a1)] []
  replace C : mh_C X rmX10_keg cX10_keg wsX10_keg RX10 4 := C
  unfold fX10_keg
  refine ms_iload_n C dX10_keg_0 1 rfl ?_
  refine ms_sipush C (1000 : Int32) dX10_keg_1 (by decide) ?_
  refine ms_ldc C (100000 : Int32) dX10_keg_4 (by decide +kernel) ?_
  refine ms_callSi (As := [.int a0, .int (1000 : Int32), .int (100000 : Int32)]) C dX10_keg_6 (fun _ h => mtX10_in (xl X) (xg X) n M a0 (1000 : Int32) (100000 : Int32) h) (va_cwS 3 C.2.2.1 gX10_keg_X10_in rfl rfl rfl (by decide +kernel) ⟨Nat.le_of_ble_eq_true rfl, Nat.le_of_ble_eq_true rfl⟩) rfl rfl (Nat.le_of_ble_eq_true rfl) (fun v1 => ?_)
  refine ms_if_eq (tgt := 22) C dX10_keg_9 (by decide) (fun c2 => ?_) (fun c2 => ?_)
  · refine ms_iconst C (-1 : Int32) dX10_keg_22 (by decide) ?_
    exact ms_ireti C hR rfl rfl dX10_keg_23
  · refine ms_iload_n C dX10_keg_12 2 rfl ?_
    refine ms_iconst C (0 : Int32) dX10_keg_13 (by decide) ?_
    refine ms_bipush C (40 : Int32) dX10_keg_14 (by decide) ?_
    refine ms_callSi (As := [.int a1, .int (0 : Int32), .int (40 : Int32)]) C dX10_keg_16 (fun _ h => mtX10_in (xl X) (xg X) n M a1 (0 : Int32) (40 : Int32) h) (va_cwS 3 C.2.2.1 gX10_keg_X10_in rfl rfl rfl (by decide +kernel) ⟨Nat.le_of_ble_eq_true rfl, Nat.le_of_ble_eq_true rfl⟩) rfl rfl (Nat.le_of_ble_eq_true rfl) (fun v3 => ?_)
    refine ms_if_ne (tgt := 24) C dX10_keg_19 (by decide) (fun c4 => ?_) (fun c4 => ?_)
    · refine ms_aload_n C dX10_keg_24 0 rfl ?_
      refine ms_getr C dX10_keg_25 (zz40 (G := xg X) Nat.one_pos) (k := 8) (Nat.le_of_ble_eq_true rfl) (b := xad X 49 0) rfl (Cn := RX10) (T := TX10) rfl inX10_X10_keg rfl (by decide +kernel) ?_
      refine ms_iconst C (5 : Int32) dX10_keg_28 (by decide) ?_
      refine ms_ld C dX10_keg_29 (zz49 (G := xg X) Nat.one_pos) rfl (fun _ v5 => ?_)
      refine ms_iload_n C dX10_keg_30 2 rfl ?_
      refine ms_iconst C (4 : Int32) dX10_keg_31 (by decide) ?_
      refine ms_icmp_le (tgt := 49) C dX10_keg_32 (by decide) (fun c6 => ?_) (fun c6 => ?_)
      · refine ms_iconst C (0 : Int32) dX10_keg_49 (by decide) ?_
        refine ms_iadd C dX10_keg_50 (fun v7 => ?_)
        refine ms_istore_n (L' := [(3, .int v7), (0, .ref (xad X 40 0)), (1, .int a0), (2, .int a1)]) C dX10_keg_51 rfl (by decide) rfl ?_
        refine ms_iload_n C dX10_keg_52 0 rfl ?_
        refine ms_bipush C (90 : Int32) dX10_keg_53 (by decide) ?_
        refine ms_icmp_le (tgt := 63) C dX10_keg_55 (by decide) (fun c8 => ?_) (fun c8 => ?_)
        · refine ms_iload_n C dX10_keg_63 0 rfl ?_
          refine ms_istore_n (L' := [(3, .int v7), (0, .ref (xad X 40 0)), (1, .int a0), (2, .int a1)]) C dX10_keg_64 rfl (by decide) rfl ?_
          refine ms_iload_n C dX10_keg_65 2 rfl ?_
          refine ms_bipush C (100 : Int32) dX10_keg_66 (by decide) ?_
          refine ms_iload_n C dX10_keg_68 0 rfl ?_
          refine ms_isub C dX10_keg_69 (fun v9 => ?_)
          refine ms_imul C dX10_keg_70 (fun v10 => ?_)
          refine ms_ldc C (50000 : Int32) dX10_keg_71 (by decide +kernel) ?_
          refine ms_idiv C dX10_keg_73 (fun v11 => ?_)
          exact ms_ireti C hR rfl rfl dX10_keg_74
        · refine ms_bipush C (90 : Int32) dX10_keg_58 (by decide) ?_
          refine ms_goto (tgt := 64) C dX10_keg_60 (by decide) ?_
          refine ms_istore_n (L' := [(3, .int (90 : Int32)), (0, .ref (xad X 40 0)), (1, .int a0), (2, .int a1)]) C dX10_keg_64 rfl (by decide) rfl ?_
          refine ms_iload_n C dX10_keg_65 2 rfl ?_
          refine ms_bipush C (100 : Int32) dX10_keg_66 (by decide) ?_
          refine ms_iload_n C dX10_keg_68 0 rfl ?_
          refine ms_isub C dX10_keg_69 (fun v12 => ?_)
          refine ms_imul C dX10_keg_70 (fun v13 => ?_)
          refine ms_ldc C (50000 : Int32) dX10_keg_71 (by decide +kernel) ?_
          refine ms_idiv C dX10_keg_73 (fun v14 => ?_)
          exact ms_ireti C hR rfl rfl dX10_keg_74
      · refine ms_aload_n C dX10_keg_35 0 rfl ?_
        refine ms_getr C dX10_keg_36 (zz40 (G := xg X) Nat.one_pos) (k := 8) (Nat.le_of_ble_eq_true rfl) (b := xad X 49 0) rfl (Cn := RX10) (T := TX10) rfl inX10_X10_keg rfl (by decide +kernel) ?_
        refine ms_bipush C (6 : Int32) dX10_keg_39 (by decide) ?_
        refine ms_ld C dX10_keg_41 (zz49 (G := xg X) Nat.one_pos) rfl (fun _ v15 => ?_)
        refine ms_iload_n C dX10_keg_42 2 rfl ?_
        refine ms_iconst C (4 : Int32) dX10_keg_43 (by decide) ?_
        refine ms_isub C dX10_keg_44 (fun v16 => ?_)
        refine ms_imul C dX10_keg_45 (fun v17 => ?_)
        refine ms_goto (tgt := 50) C dX10_keg_46 (by decide) ?_
        refine ms_iadd C dX10_keg_50 (fun v18 => ?_)
        refine ms_istore_n (L' := [(3, .int v18), (0, .ref (xad X 40 0)), (1, .int a0), (2, .int a1)]) C dX10_keg_51 rfl (by decide) rfl ?_
        refine ms_iload_n C dX10_keg_52 0 rfl ?_
        refine ms_bipush C (90 : Int32) dX10_keg_53 (by decide) ?_
        refine ms_icmp_le (tgt := 63) C dX10_keg_55 (by decide) (fun c19 => ?_) (fun c19 => ?_)
        · refine ms_iload_n C dX10_keg_63 0 rfl ?_
          refine ms_istore_n (L' := [(3, .int v18), (0, .ref (xad X 40 0)), (1, .int a0), (2, .int a1)]) C dX10_keg_64 rfl (by decide) rfl ?_
          refine ms_iload_n C dX10_keg_65 2 rfl ?_
          refine ms_bipush C (100 : Int32) dX10_keg_66 (by decide) ?_
          refine ms_iload_n C dX10_keg_68 0 rfl ?_
          refine ms_isub C dX10_keg_69 (fun v20 => ?_)
          refine ms_imul C dX10_keg_70 (fun v21 => ?_)
          refine ms_ldc C (50000 : Int32) dX10_keg_71 (by decide +kernel) ?_
          refine ms_idiv C dX10_keg_73 (fun v22 => ?_)
          exact ms_ireti C hR rfl rfl dX10_keg_74
        · refine ms_bipush C (90 : Int32) dX10_keg_58 (by decide) ?_
          refine ms_goto (tgt := 64) C dX10_keg_60 (by decide) ?_
          refine ms_istore_n (L' := [(3, .int (90 : Int32)), (0, .ref (xad X 40 0)), (1, .int a0), (2, .int a1)]) C dX10_keg_64 rfl (by decide) rfl ?_
          refine ms_iload_n C dX10_keg_65 2 rfl ?_
          refine ms_bipush C (100 : Int32) dX10_keg_66 (by decide) ?_
          refine ms_iload_n C dX10_keg_68 0 rfl ?_
          refine ms_isub C dX10_keg_69 (fun v23 => ?_)
          refine ms_imul C dX10_keg_70 (fun v24 => ?_)
          refine ms_ldc C (50000 : Int32) dX10_keg_71 (by decide +kernel) ?_
          refine ms_idiv C dX10_keg_73 (fun v25 => ?_)
          exact ms_ireti C hR rfl rfl dX10_keg_74
    · refine ms_iconst C (-1 : Int32) dX10_keg_22 (by decide) ?_
      exact ms_ireti C hR rfl rfl dX10_keg_23
def rmX10_deal : Room := { frames := 1, cells := 0, slots := 0, locals := 22 }
theorem inX10_X10_deal : ∀ w ∈ wsX100, w ∈ wsX10_deal := by decide +kernel
set_option maxRecDepth 100000 in
set_option maxHeartbeats 4000000 in
theorem mtX10_deal (l : Launch) (G : mh_G) (n : Nat) (M : mh_M) (a0 : Int32) (a1 : Int32) {z : mh_M × Int32} (ho : fX10_deal n M a0 a1 = some z) : Met l yX10_deal wsX10_deal rmX10_deal (mh_Pc G M [.ref (G.2.2 40 0), .int a0, .int a1]) (mh_Q G z.1 (some (.int z.2))) 0 0 (mh_dom G) := by
  refine mh_met (cc := cX10_deal) (maxL := 3) (ret := (some .int)) (by decide) rfl (Nat.le_of_ble_eq_true rfl) ho ?_
  rintro X rfl rfl C hR
  show mh_W X rmX10_deal 3 _ z M 0 [(0, .ref (xad X 40 0)), (1, .int a0), (2, .int a1)] []
  replace C : mh_C X rmX10_deal cX10_deal wsX10_deal RX10 3 := C
  unfold fX10_deal
  refine ms_iload_n C dX10_deal_0 1 rfl ?_
  refine ms_iconst C (1 : Int32) dX10_deal_1 (by decide) ?_
  refine ms_bipush C (24 : Int32) dX10_deal_2 (by decide) ?_
  refine ms_callSi (As := [.int a0, .int (1 : Int32), .int (24 : Int32)]) C dX10_deal_4 (fun _ h => mtX10_in (xl X) (xg X) n M a0 (1 : Int32) (24 : Int32) h) (va_cwS 3 C.2.2.1 gX10_deal_X10_in rfl rfl rfl (by decide +kernel) ⟨Nat.le_of_ble_eq_true rfl, Nat.le_of_ble_eq_true rfl⟩) rfl rfl (Nat.le_of_ble_eq_true rfl) (fun v1 => ?_)
  refine ms_if_eq (tgt := 20) C dX10_deal_7 (by decide) (fun c2 => ?_) (fun c2 => ?_)
  · refine ms_iconst C (-1 : Int32) dX10_deal_20 (by decide) ?_
    exact ms_iretm C hR rfl dX10_deal_21
  · refine ms_iload_n C dX10_deal_10 2 rfl ?_
    refine ms_iconst C (0 : Int32) dX10_deal_11 (by decide) ?_
    refine ms_ldc C (100000 : Int32) dX10_deal_12 (by decide +kernel) ?_
    refine ms_callSi (As := [.int a1, .int (0 : Int32), .int (100000 : Int32)]) C dX10_deal_14 (fun _ h => mtX10_in (xl X) (xg X) n M a1 (0 : Int32) (100000 : Int32) h) (va_cwS 3 C.2.2.1 gX10_deal_X10_in rfl rfl rfl (by decide +kernel) ⟨Nat.le_of_ble_eq_true rfl, Nat.le_of_ble_eq_true rfl⟩) rfl rfl (Nat.le_of_ble_eq_true rfl) (fun v3 => ?_)
    refine ms_if_ne (tgt := 22) C dX10_deal_17 (by decide) (fun c4 => ?_) (fun c4 => ?_)
    · refine ms_aload_n C dX10_deal_22 0 rfl ?_
      refine ms_geti C dX10_deal_23 (zz40 (G := xg X) Nat.one_pos) (k := 30) (Nat.le_of_ble_eq_true rfl) rfl (Cn := RX10) (T := TX10) rfl inX10_X10_deal rfl (by decide +kernel) (fun v5 => ?_)
      refine ms_iconst C (5 : Int32) dX10_deal_26 (by decide) ?_
      refine ms_icmp_ne (tgt := 33) C dX10_deal_27 (by decide) (fun c6 => ?_) (fun c6 => ?_)
      · refine ms_aload_n C dX10_deal_33 0 rfl ?_
        refine ms_getr C dX10_deal_34 (zz40 (G := xg X) Nat.one_pos) (k := 31) (Nat.le_of_ble_eq_true rfl) (b := xad X 72 0) rfl (Cn := RX10) (T := TX10) rfl inX10_X10_deal rfl (by decide +kernel) ?_
        refine ms_aload_n C dX10_deal_37 0 rfl ?_
        refine ms_geti C dX10_deal_38 (zz40 (G := xg X) Nat.one_pos) (k := 30) (Nat.le_of_ble_eq_true rfl) rfl (Cn := RX10) (T := TX10) rfl inX10_X10_deal rfl (by decide +kernel) (fun v7 => ?_)
        refine ms_iload_n C dX10_deal_41 1 rfl ?_
        refine ms_st C dX10_deal_42 (zz72 (G := xg X) Nat.one_pos) rfl (fun _ M8 => ?_)
        refine ms_aload_n C dX10_deal_43 0 rfl ?_
        refine ms_getr C dX10_deal_44 (zz40 (G := xg X) Nat.one_pos) (k := 32) (Nat.le_of_ble_eq_true rfl) (b := xad X 73 0) rfl (Cn := RX10) (T := TX10) rfl inX10_X10_deal rfl (by decide +kernel) ?_
        refine ms_aload_n C dX10_deal_47 0 rfl ?_
        refine ms_geti C dX10_deal_48 (zz40 (G := xg X) Nat.one_pos) (k := 30) (Nat.le_of_ble_eq_true rfl) rfl (Cn := RX10) (T := TX10) rfl inX10_X10_deal rfl (by decide +kernel) (fun v9 => ?_)
        refine ms_iload_n C dX10_deal_51 2 rfl ?_
        refine ms_st C dX10_deal_52 (zz73 (G := xg X) Nat.one_pos) rfl (fun _ M10 => ?_)
        refine ms_aload_n C dX10_deal_53 0 rfl ?_
        refine ms_dup C dX10_deal_54 rfl ?_
        refine ms_geti C dX10_deal_55 (zz40 (G := xg X) Nat.one_pos) (k := 30) (Nat.le_of_ble_eq_true rfl) rfl (Cn := RX10) (T := TX10) rfl inX10_X10_deal rfl (by decide +kernel) (fun v11 => ?_)
        refine ms_iconst C (1 : Int32) dX10_deal_58 (by decide) ?_
        refine ms_iadd C dX10_deal_59 (fun v12 => ?_)
        refine ms_puti C dX10_deal_60 tyX10 tyX10_ok nmX10 (zz40 (G := xg X) Nat.one_pos) (k := 30) (Nat.le_of_ble_eq_true rfl) rfl (Cn := RX10) (T := TX10) rfl inX10_X10_deal rfl (by decide +kernel) rfl (by decide +kernel) (fun M13 => ?_)
        refine ms_aload_n C dX10_deal_63 0 rfl ?_
        refine ms_geti C dX10_deal_64 (zz40 (G := xg X) Nat.one_pos) (k := 30) (Nat.le_of_ble_eq_true rfl) rfl (Cn := RX10) (T := TX10) rfl inX10_X10_deal rfl (by decide +kernel) (fun v14 => ?_)
        exact ms_iretm C hR rfl dX10_deal_67
      · refine ms_bipush C (-3 : Int32) dX10_deal_30 (by decide) ?_
        exact ms_iretm C hR rfl dX10_deal_32
    · refine ms_iconst C (-1 : Int32) dX10_deal_20 (by decide) ?_
      exact ms_iretm C hR rfl dX10_deal_21
