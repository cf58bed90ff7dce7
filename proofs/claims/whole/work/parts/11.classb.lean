def rmX9_gap : Room := { frames := 2, cells := 0, slots := 0, locals := 43 }
theorem inX7_X9_gap : ∀ w ∈ wsX70, w ∈ wsX9_gap := by decide +kernel
theorem inX9_X9_gap : ∀ w ∈ wsX90, w ∈ wsX9_gap := by decide +kernel
set_option maxRecDepth 100000 in
set_option maxHeartbeats 4000000 in
theorem mtX9_gap (l : Launch) (G : mh_G) (n : Nat) (M : mh_M) (a0 : Int32) (a1 : Int32) (a2 : Int32) (a3 : Int32) {z : Int32} (ho : fX9_gap n M a0 a1 a2 a3 = some z) : Met l yX9_gap wsX9_gap rmX9_gap (mh_Pc G M [.ref (G.2.2 0 0), .int a0, .int a1, .int a2, .int a3]) (mh_Q G M (some (.int z))) 0 0 (mh_dom G) := by
  refine mh_met (cc := cX9_gap) (maxL := 6) (ret := (some .int)) (by decide) rfl (Nat.le_of_ble_eq_true rfl) ho ?_
  rintro X rfl rfl C hR
  show mh_W X rmX9_gap 6 _ z M 0 [(0, .ref (xad X 0 0)), (1, .int a0), (2, .int a1), (3, .int a2), (4, .int a3)] []
  replace C : mh_C X rmX9_gap cX9_gap wsX9_gap RX9 6 := C
  unfold fX9_gap
  refine ms_iload_n C dX9_gap_0 1 rfl ?_
  refine ms_iconst C (0 : Int32) dX9_gap_1 (by decide) ?_
  refine ms_aload_n C dX9_gap_2 0 rfl ?_
  refine ms_geti C dX9_gap_3 (zz0 (G := xg X) Nat.one_pos) (k := 6) (Nat.le_of_ble_eq_true rfl) rfl (Cn := RX9) (T := TX9) rfl inX9_X9_gap rfl (by decide +kernel) (fun v1 => ?_)
  refine ms_callSi (As := [.int a0, .int (0 : Int32), .int v1]) C dX9_gap_6 (fun _ h => mtX9_isIn (xl X) (xg X) n M a0 (0 : Int32) v1 h) (va_cwS 3 C.2.2.1 gX9_gap_X9_isIn rfl rfl rfl (by decide +kernel) ⟨Nat.le_of_ble_eq_true rfl, Nat.le_of_ble_eq_true rfl⟩) rfl rfl (Nat.le_of_ble_eq_true rfl) (fun v2 => ?_)
  refine ms_if_eq (tgt := 37) C dX9_gap_9 (by decide) (fun c3 => ?_) (fun c3 => ?_)
  · refine ms_ldc C (-1000000000 : Int32) dX9_gap_37 (by decide +kernel) ?_
    exact ms_ireti C hR rfl rfl dX9_gap_39
  · refine ms_iload_n C dX9_gap_12 2 rfl ?_
    refine ms_callSi (As := [.int a1]) C dX9_gap_13 (fun _ h => mtX9_isBar (xl X) (xg X) n M a1 h) (va_cwS 1 C.2.2.1 gX9_gap_X9_isBar rfl rfl rfl (by decide +kernel) ⟨Nat.le_of_ble_eq_true rfl, Nat.le_of_ble_eq_true rfl⟩) rfl rfl (Nat.le_of_ble_eq_true rfl) (fun v4 => ?_)
    refine ms_if_eq (tgt := 37) C dX9_gap_16 (by decide) (fun c5 => ?_) (fun c5 => ?_)
    · refine ms_ldc C (-1000000000 : Int32) dX9_gap_37 (by decide +kernel) ?_
      exact ms_ireti C hR rfl rfl dX9_gap_39
    · refine ms_aload_n C dX9_gap_19 0 rfl ?_
      refine ms_iload_n C dX9_gap_20 3 rfl ?_
      refine ms_callVi (As := [.int a2]) C dX9_gap_21 (fun _ h => mtX9_isKind (xl X) (xg X) n M a2 h) (cwV 1 C.2.2.1 gX9_gap_X9_isKind rfl rfl rfl (by decide +kernel) ⟨Nat.le_of_ble_eq_true rfl, Nat.le_of_ble_eq_true rfl⟩) (zz0 (G := xg X) Nat.one_pos) (T := TX9) rfl rfl rfl (Nat.le_of_ble_eq_true rfl) (fun v6 => ?_)
      refine ms_if_eq (tgt := 37) C dX9_gap_24 (by decide) (fun c7 => ?_) (fun c7 => ?_)
      · refine ms_ldc C (-1000000000 : Int32) dX9_gap_37 (by decide +kernel) ?_
        exact ms_ireti C hR rfl rfl dX9_gap_39
      · refine ms_iload C dX9_gap_27 4 rfl ?_
        refine ms_iconst C (0 : Int32) dX9_gap_29 (by decide) ?_
        refine ms_iconst C (4 : Int32) dX9_gap_30 (by decide) ?_
        refine ms_callSi (As := [.int a3, .int (0 : Int32), .int (4 : Int32)]) C dX9_gap_31 (fun _ h => mtX9_isIn (xl X) (xg X) n M a3 (0 : Int32) (4 : Int32) h) (va_cwS 3 C.2.2.1 gX9_gap_X9_isIn rfl rfl rfl (by decide +kernel) ⟨Nat.le_of_ble_eq_true rfl, Nat.le_of_ble_eq_true rfl⟩) rfl rfl (Nat.le_of_ble_eq_true rfl) (fun v8 => ?_)
        refine ms_if_ne (tgt := 40) C dX9_gap_34 (by decide) (fun c9 => ?_) (fun c9 => ?_)
        · refine ms_aload_n C dX9_gap_40 0 rfl ?_
          refine ms_iload_n C dX9_gap_41 1 rfl ?_
          refine ms_iload_n C dX9_gap_42 2 rfl ?_
          refine ms_callVr (As := [.int a0, .int a1]) C dX9_gap_43 (fun _ h => mtX9_sheetOf (xl X) (xg X) n M a0 a1 h) (cwV 2 C.2.2.1 gX9_gap_X9_sheetOf rfl rfl rfl (by decide +kernel) ⟨Nat.le_of_ble_eq_true rfl, Nat.le_of_ble_eq_true rfl⟩) (zz0 (G := xg X) Nat.one_pos) (T := TX9) rfl rfl rfl (Nat.le_of_ble_eq_true rfl) (t2 := 25) (N2 := 40) (fun _ h => bX9_sheetOf h) (fun q10 hq10 => ?_)
          refine ms_astore (L' := [(5, .ref (xad X 25 q10)), (0, .ref (xad X 0 0)), (1, .int a0), (2, .int a1), (3, .int a2), (4, .int a3)]) C dX9_gap_46 (by decide) rfl ?_
          refine ms_iload C dX9_gap_48 5 rfl ?_
          refine ms_split (fun c11 => ?_) (fun c11 => ?_)
          · refine ms_tableIn (tgt := 80) C dX9_gap_50 (by rw [c11]; decide) (by rw [c11]; decide) (by rw [c11]; rfl) (by decide) ?_
            refine ms_aload C dX9_gap_80 0 rfl ?_
            refine ms_getr C dX9_gap_82 (zz25 (G := xg X) hq10) (k := 2) (Nat.le_of_ble_eq_true rfl) (b := xad X 27 q10) rfl (Cn := RX7) (T := TX7) rfl inX7_X9_gap rfl (by decide +kernel) ?_
            refine ms_iload_n C dX9_gap_85 4 rfl ?_
            refine ms_zld C dX9_gap_86 (zz27 (G := xg X) hq10) rfl (fun _ v12 => ?_)
            refine ms_if_eq (tgt := 100) C dX9_gap_87 (by decide) (fun c13 => ?_) (fun c13 => ?_)
            · refine ms_ldc C (-1000000004 : Int32) dX9_gap_100 (by decide +kernel) ?_
              exact ms_ireti C hR rfl rfl dX9_gap_102
            · refine ms_aload C dX9_gap_90 0 rfl ?_
              refine ms_getr C dX9_gap_92 (zz25 (G := xg X) hq10) (k := 3) (Nat.le_of_ble_eq_true rfl) (b := xad X 28 q10) rfl (Cn := RX7) (T := TX7) rfl inX7_X9_gap rfl (by decide +kernel) ?_
              refine ms_iload_n C dX9_gap_95 4 rfl ?_
              refine ms_ld C dX9_gap_96 (zz28 (G := xg X) hq10) rfl (fun _ v14 => ?_)
              refine ms_goto (tgt := 102) C dX9_gap_97 (by decide) ?_
              exact ms_ireti C hR rfl rfl dX9_gap_102
          refine ms_split (fun c15 => ?_) (fun c15 => ?_)
          · refine ms_tableIn (tgt := 103) C dX9_gap_50 (by rw [c15]; decide) (by rw [c15]; decide) (by rw [c15]; rfl) (by decide) ?_
            refine ms_aload C dX9_gap_103 0 rfl ?_
            refine ms_getr C dX9_gap_105 (zz25 (G := xg X) hq10) (k := 2) (Nat.le_of_ble_eq_true rfl) (b := xad X 27 q10) rfl (Cn := RX7) (T := TX7) rfl inX7_X9_gap rfl (by decide +kernel) ?_
            refine ms_iload_n C dX9_gap_108 4 rfl ?_
            refine ms_zld C dX9_gap_109 (zz27 (G := xg X) hq10) rfl (fun _ v16 => ?_)
            refine ms_if_eq (tgt := 123) C dX9_gap_110 (by decide) (fun c17 => ?_) (fun c17 => ?_)
            · refine ms_aload_n C dX9_gap_123 1 rfl ?_
              refine ms_aload C dX9_gap_124 0 rfl ?_
              refine ms_iload_n C dX9_gap_126 4 rfl ?_
              refine ms_callVi (As := [.ref (xad X 25 q10), .int a2]) C dX9_gap_127 (fun _ h => mtX9_spanNow (xl X) (xg X) n M q10 a2 hq10 h) (cwV 2 C.2.2.1 gX9_gap_X9_spanNow rfl rfl rfl (by decide +kernel) ⟨Nat.le_of_ble_eq_true rfl, Nat.le_of_ble_eq_true rfl⟩) (zz0 (G := xg X) Nat.one_pos) (T := TX9) rfl rfl rfl (Nat.le_of_ble_eq_true rfl) (fun v18 => ?_)
              exact ms_ireti C hR rfl rfl dX9_gap_130
            · refine ms_aload C dX9_gap_113 0 rfl ?_
              refine ms_getr C dX9_gap_115 (zz25 (G := xg X) hq10) (k := 4) (Nat.le_of_ble_eq_true rfl) (b := xad X 29 q10) rfl (Cn := RX7) (T := TX7) rfl inX7_X9_gap rfl (by decide +kernel) ?_
              refine ms_iload_n C dX9_gap_118 4 rfl ?_
              refine ms_ld C dX9_gap_119 (zz29 (G := xg X) hq10) rfl (fun _ v19 => ?_)
              refine ms_goto (tgt := 130) C dX9_gap_120 (by decide) ?_
              exact ms_ireti C hR rfl rfl dX9_gap_130
          refine ms_split (fun c20 => ?_) (fun c20 => ?_)
          · refine ms_tableIn (tgt := 131) C dX9_gap_50 (by rw [c20]; decide) (by rw [c20]; decide) (by rw [c20]; rfl) (by decide) ?_
            refine ms_aload C dX9_gap_131 0 rfl ?_
            refine ms_iload_n C dX9_gap_133 4 rfl ?_
            refine ms_callVi (As := [.int a2]) C dX9_gap_134 (fun _ h => mtX7_isTold (xl X) (xg X) n M q10 a2 hq10 h) (cwV 1 C.2.2.1 gX9_gap_X7_isTold rfl rfl rfl (by decide +kernel) ⟨Nat.le_of_ble_eq_true rfl, Nat.le_of_ble_eq_true rfl⟩) (zz25 (G := xg X) hq10) (T := TX7) rfl rfl rfl (Nat.le_of_ble_eq_true rfl) (fun v21 => ?_)
            refine ms_if_eq (tgt := 144) C dX9_gap_137 (by decide) (fun c22 => ?_) (fun c22 => ?_)
            · refine ms_iconst C (0 : Int32) dX9_gap_144 (by decide) ?_
              exact ms_ireti C hR rfl rfl dX9_gap_145
            · refine ms_iconst C (1 : Int32) dX9_gap_140 (by decide) ?_
              refine ms_goto (tgt := 145) C dX9_gap_141 (by decide) ?_
              exact ms_ireti C hR rfl rfl dX9_gap_145
          refine ms_split (fun c23 => ?_) (fun c23 => ?_)
          · refine ms_tableIn (tgt := 146) C dX9_gap_50 (by rw [c23]; decide) (by rw [c23]; decide) (by rw [c23]; rfl) (by decide) ?_
            refine ms_aload C dX9_gap_146 0 rfl ?_
            refine ms_getr C dX9_gap_148 (zz25 (G := xg X) hq10) (k := 1) (Nat.le_of_ble_eq_true rfl) (b := xad X 26 q10) rfl (Cn := RX7) (T := TX7) rfl inX7_X9_gap rfl (by decide +kernel) ?_
            refine ms_iload_n C dX9_gap_151 4 rfl ?_
            refine ms_ld C dX9_gap_152 (zz26 (G := xg X) hq10) rfl (fun _ v24 => ?_)
            exact ms_ireti C hR rfl rfl dX9_gap_153
          refine ms_tableOut (tgt := 154) C dX9_gap_50 (by have ec11 : ¬ a3.toInt = 0 := fun q => c11 (Int32.toInt_inj.mp q); have ec15 : ¬ a3.toInt = 1 := fun q => c15 (Int32.toInt_inj.mp q); have ec20 : ¬ a3.toInt = 2 := fun q => c20 (Int32.toInt_inj.mp q); have ec23 : ¬ a3.toInt = 3 := fun q => c23 (Int32.toInt_inj.mp q); omega) (by decide) ?_
          refine ms_aload C dX9_gap_154 0 rfl ?_
          refine ms_geti C dX9_gap_156 (zz25 (G := xg X) hq10) (k := 0) (Nat.le_of_ble_eq_true rfl) rfl (Cn := RX7) (T := TX7) rfl inX7_X9_gap rfl (by decide +kernel) (fun v25 => ?_)
          exact ms_ireti C hR rfl rfl dX9_gap_159
        · refine ms_ldc C (-1000000000 : Int32) dX9_gap_37 (by decide +kernel) ?_
          exact ms_ireti C hR rfl rfl dX9_gap_39
def rmX9_sheetsSoFar : Room := { frames := 0, cells := 0, slots := 0, locals := 0 }
theorem inX9_X9_sheetsSoFar : ∀ w ∈ wsX90, w ∈ wsX9_sheetsSoFar := by decide +kernel
set_option maxRecDepth 100000 in
set_option maxHeartbeats 4000000 in
theorem mtX9_sheetsSoFar (l : Launch) (G : mh_G) (n : Nat) (M : mh_M) {z : Int32} (ho : fX9_sheetsSoFar n M = some z) : Met l yX9_sheetsSoFar wsX9_sheetsSoFar rmX9_sheetsSoFar (mh_Pc G M [.ref (G.2.2 0 0)]) (mh_Q G M (some (.int z))) 0 0 (mh_dom G) := by
  refine mh_met (cc := cX9_sheetsSoFar) (maxL := 1) (ret := (some .int)) (by decide) rfl (Nat.le_of_ble_eq_true rfl) ho ?_
  rintro X rfl rfl C hR
  show mh_W X rmX9_sheetsSoFar 1 _ z M 0 [(0, .ref (xad X 0 0))] []
  replace C : mh_C X rmX9_sheetsSoFar cX9_sheetsSoFar wsX9_sheetsSoFar RX9 1 := C
  unfold fX9_sheetsSoFar
  refine ms_aload_n C dX9_sheetsSoFar_0 0 rfl ?_
  refine ms_geti C dX9_sheetsSoFar_1 (zz0 (G := xg X) Nat.one_pos) (k := 6) (Nat.le_of_ble_eq_true rfl) rfl (Cn := RX9) (T := TX9) rfl inX9_X9_sheetsSoFar rfl (by decide +kernel) (fun v1 => ?_)
  refine ms_iconst C (1 : Int32) dX9_sheetsSoFar_4 (by decide) ?_
  refine ms_iadd C dX9_sheetsSoFar_5 (fun v2 => ?_)
  refine ms_iconst C (2 : Int32) dX9_sheetsSoFar_6 (by decide) ?_
  refine ms_imul C dX9_sheetsSoFar_7 (fun v3 => ?_)
  exact ms_ireti C hR rfl rfl dX9_sheetsSoFar_8
def rmX9_commonDivisor : Room := { frames := 0, cells := 0, slots := 0, locals := 0 }
set_option maxRecDepth 100000 in
set_option maxHeartbeats 4000000 in
theorem mtX9_commonDivisor_L3 {X : mh_X} {n : Nat} {z : Int64} (M : mh_M) (C : mh_C X rmX9_commonDivisor cX9_commonDivisor wsX9_commonDivisor RX9 7) (hR : mh_R X (some .long) M (some (.long z))) : ∀ (k : Nat) (x0 : Int64) (x2 : Int64) (x4 : Int32), mh_W X rmX9_commonDivisor 7 (itr3 (fX9_commonDivisor_L3 n M) k x0 x2 x4) z M 3 [(0, .long x0), (2, .long x2), (4, .int x4)] [] := by
  intro k
  induction k with
  | zero =>
    intro x0 x2 x4
    exact ms_none
  | succ k ih =>
    intro x0 x2 x4
    show mh_W X rmX9_commonDivisor 7 (fX9_commonDivisor_L3 n M (itr3 (fX9_commonDivisor_L3 n M) k) x0 x2 x4) z M 3 [(0, .long x0), (2, .long x2), (4, .int x4)] []
    generalize itr3 (fX9_commonDivisor_L3 n M) k = rec at ih ⊢
    unfold fX9_commonDivisor_L3
    refine ms_iload C dX9_commonDivisor_3 2 rfl ?_
    refine ms_bipush C (100 : Int32) dX9_commonDivisor_5 (by decide) ?_
    refine ms_icmp_ge (tgt := 32) C dX9_commonDivisor_7 (by decide) (fun c1 => ?_) (fun c1 => ?_)
    · refine ms_lload_n C dX9_commonDivisor_32 0 rfl ?_
      refine ms_lconst C (0 : Int64) dX9_commonDivisor_33 (by decide) ?_
      refine ms_lcmp C dX9_commonDivisor_34 (fun v2 => ?_)
      refine ms_if_ne (tgt := 42) C dX9_commonDivisor_35 (by decide) (fun c3 => ?_) (fun c3 => ?_)
      · refine ms_lload_n C dX9_commonDivisor_42 0 rfl ?_
        exact ms_lreti C hR rfl dX9_commonDivisor_43
      · refine ms_lconst C (1 : Int64) dX9_commonDivisor_38 (by decide) ?_
        refine ms_goto (tgt := 43) C dX9_commonDivisor_39 (by decide) ?_
        exact ms_lreti C hR rfl dX9_commonDivisor_43
    · refine ms_lload_n C dX9_commonDivisor_10 1 rfl ?_
      refine ms_lconst C (0 : Int64) dX9_commonDivisor_11 (by decide) ?_
      refine ms_lcmp C dX9_commonDivisor_12 (fun v4 => ?_)
      refine ms_if_eq (tgt := 32) C dX9_commonDivisor_13 (by decide) (fun c5 => ?_) (fun c5 => ?_)
      · refine ms_lload_n C dX9_commonDivisor_32 0 rfl ?_
        refine ms_lconst C (0 : Int64) dX9_commonDivisor_33 (by decide) ?_
        refine ms_lcmp C dX9_commonDivisor_34 (fun v6 => ?_)
        refine ms_if_ne (tgt := 42) C dX9_commonDivisor_35 (by decide) (fun c7 => ?_) (fun c7 => ?_)
        · refine ms_lload_n C dX9_commonDivisor_42 0 rfl ?_
          exact ms_lreti C hR rfl dX9_commonDivisor_43
        · refine ms_lconst C (1 : Int64) dX9_commonDivisor_38 (by decide) ?_
          refine ms_goto (tgt := 43) C dX9_commonDivisor_39 (by decide) ?_
          exact ms_lreti C hR rfl dX9_commonDivisor_43
      · refine ms_lload_n C dX9_commonDivisor_16 0 rfl ?_
        refine ms_lload_n C dX9_commonDivisor_17 1 rfl ?_
        refine ms_lrem C dX9_commonDivisor_18 (fun v8 => ?_)
        refine ms_lstore (L' := [(5, .long v8), (0, .long x0), (2, .long x2), (4, .int x4)]) C dX9_commonDivisor_19 (by decide) rfl ?_
        refine ms_lload_n C dX9_commonDivisor_21 2 rfl ?_
        refine ms_lstore_n (L' := [(0, .long x2), (5, .long v8), (2, .long x2), (4, .int x4)]) C dX9_commonDivisor_22 rfl (by decide) rfl ?_
        refine ms_lload C dX9_commonDivisor_23 1 rfl ?_
        refine ms_lstore_n (L' := [(2, .long v8), (0, .long x2), (5, .long v8), (4, .int x4)]) C dX9_commonDivisor_25 rfl (by decide) rfl ?_
        refine ms_iinc (L' := fun v9 => [(4, .int v9), (2, .long v8), (0, .long x2), (5, .long v8)]) C dX9_commonDivisor_26 3 rfl (c := 1) (by decide) (by decide) (fun _ => rfl) (fun v9 => ?_)
        refine ms_goto (tgt := 3) C dX9_commonDivisor_29 (by decide) ?_
        exact ms_sub [2, 1, 0] rfl (ih x2 v8 v9)
set_option maxRecDepth 100000 in
set_option maxHeartbeats 4000000 in
theorem mtX9_commonDivisor (l : Launch) (G : mh_G) (n : Nat) (M : mh_M) (a0 : Int64) (a1 : Int64) {z : Int64} (ho : fX9_commonDivisor n M a0 a1 = some z) : Met l yX9_commonDivisor wsX9_commonDivisor rmX9_commonDivisor (mh_Pc G M [.long a0, .long a1]) (mh_Q G M (some (.long z))) 0 0 (mh_dom G) := by
  refine mh_met (cc := cX9_commonDivisor) (maxL := 7) (ret := (some .long)) (by decide) rfl (Nat.le_of_ble_eq_true rfl) ho ?_
  rintro X rfl rfl C hR
  show mh_W X rmX9_commonDivisor 7 _ z M 0 [(0, .long a0), (2, .long a1)] []
  replace C : mh_C X rmX9_commonDivisor cX9_commonDivisor wsX9_commonDivisor RX9 7 := C
  unfold fX9_commonDivisor
  refine ms_iconst C (0 : Int32) dX9_commonDivisor_0 (by decide) ?_
  refine ms_istore (L' := [(4, .int (0 : Int32)), (0, .long a0), (2, .long a1)]) C dX9_commonDivisor_1 (by decide) rfl ?_
  exact ms_sub [1, 2, 0] rfl (mtX9_commonDivisor_L3 (n := n) M C hR n a0 a1 (0 : Int32))
def rmX9_over : Room := { frames := 2, cells := 0, slots := 0, locals := 43 }
theorem inX7_X9_over : ∀ w ∈ wsX70, w ∈ wsX9_over := by decide +kernel
theorem inX9_X9_over : ∀ w ∈ wsX90, w ∈ wsX9_over := by decide +kernel
set_option maxRecDepth 100000 in
set_option maxHeartbeats 4000000 in
theorem mtX9_over_L40 {X : mh_X} {n : Nat} {z : Int64} (M : mh_M) (x1 : Int32) (x2 : Int32) (x3 : Int32) (C : mh_C X rmX9_over cX9_over wsX9_over RX9 12) (hR : mh_R X (some .long) M (some (.long z))) : ∀ (k : Nat) (x4 : Int32) (x5 : Int64) (x7 : Int64) (x9 : Int32), mh_W X rmX9_over 12 (itr4 (fX9_over_L40 n M x1 x2 x3) k x4 x5 x7 x9) z M 40 [(0, .ref (xad X 0 0)), (1, .int x1), (2, .int x2), (3, .int x3), (4, .int x4), (5, .long x5), (7, .long x7), (9, .int x9)] [] := by
  intro k
  induction k with
  | zero =>
    intro x4 x5 x7 x9
    exact ms_none
  | succ k ih =>
    intro x4 x5 x7 x9
    show mh_W X rmX9_over 12 (fX9_over_L40 n M x1 x2 x3 (itr4 (fX9_over_L40 n M x1 x2 x3) k) x4 x5 x7 x9) z M 40 [(0, .ref (xad X 0 0)), (1, .int x1), (2, .int x2), (3, .int x3), (4, .int x4), (5, .long x5), (7, .long x7), (9, .int x9)] []
    generalize itr4 (fX9_over_L40 n M x1 x2 x3) k = rec at ih ⊢
    unfold fX9_over_L40
    refine ms_iload C dX9_over_40 7 rfl ?_
    refine ms_aload_n C dX9_over_42 0 rfl ?_
    refine ms_callVi (As := []) C dX9_over_43 (fun _ h => mtX9_sheetsSoFar (xl X) (xg X) n M h) (cwV 0 C.2.2.1 gX9_over_X9_sheetsSoFar rfl rfl rfl (by decide +kernel) ⟨Nat.le_of_ble_eq_true rfl, Nat.le_of_ble_eq_true rfl⟩) (zz0 (G := xg X) Nat.one_pos) (T := TX9) rfl rfl rfl (Nat.le_of_ble_eq_true rfl) (fun v7 => ?_)
    refine ms_icmp_ge (tgt := 119) C dX9_over_46 (by decide) (fun c8 => ?_) (fun c8 => ?_)
    · refine ms_iload C dX9_over_119 4 rfl ?_
      refine ms_iconst C (3 : Int32) dX9_over_121 (by decide) ?_
      refine ms_icmp_ge (tgt := 129) C dX9_over_122 (by decide) (fun c9 => ?_) (fun c9 => ?_)
      · refine ms_iload_n C dX9_over_129 3 rfl ?_
        refine ms_if_ne (tgt := 138) C dX9_over_130 (by decide) (fun c10 => ?_) (fun c10 => ?_)
        · refine ms_lload C dX9_over_138 6 rfl ?_
          refine ms_lload C dX9_over_140 5 rfl ?_
          refine ms_mabsl C dX9_over_142 (by decide +kernel) (by decide +kernel) (by decide +kernel) (by decide +kernel) (Nat.le_of_ble_eq_true rfl) (Nat.le_of_ble_eq_true rfl) (fun v11 => ?_)
          refine ms_lload C dX9_over_145 6 rfl ?_
          refine ms_callSl (As := [.long v11, .long x7]) C dX9_over_147 (fun _ h => mtX9_commonDivisor (xl X) (xg X) n M v11 x7 h) (va_cwS 2 C.2.2.1 gX9_over_X9_commonDivisor rfl rfl rfl (by decide +kernel) ⟨Nat.le_of_ble_eq_true rfl, Nat.le_of_ble_eq_true rfl⟩) rfl rfl (Nat.le_of_ble_eq_true rfl) (fun v12 => ?_)
          refine ms_ldiv C dX9_over_150 (fun v13 => ?_)
          exact ms_lreti C hR rfl dX9_over_151
        · refine ms_lload C dX9_over_133 5 rfl ?_
          refine ms_goto (tgt := 140) C dX9_over_135 (by decide) ?_
          refine ms_lload C dX9_over_140 5 rfl ?_
          refine ms_mabsl C dX9_over_142 (by decide +kernel) (by decide +kernel) (by decide +kernel) (by decide +kernel) (Nat.le_of_ble_eq_true rfl) (Nat.le_of_ble_eq_true rfl) (fun v14 => ?_)
          refine ms_lload C dX9_over_145 6 rfl ?_
          refine ms_callSl (As := [.long v14, .long x7]) C dX9_over_147 (fun _ h => mtX9_commonDivisor (xl X) (xg X) n M v14 x7 h) (va_cwS 2 C.2.2.1 gX9_over_X9_commonDivisor rfl rfl rfl (by decide +kernel) ⟨Nat.le_of_ble_eq_true rfl, Nat.le_of_ble_eq_true rfl⟩) rfl rfl (Nat.le_of_ble_eq_true rfl) (fun v15 => ?_)
          refine ms_ldiv C dX9_over_150 (fun v16 => ?_)
          exact ms_lreti C hR rfl dX9_over_151
      · refine ms_ldc2 C (-1000000004 : Int64) dX9_over_125 (by decide +kernel) ?_
        exact ms_lreti C hR rfl dX9_over_128
    · refine ms_aload_n C dX9_over_49 0 rfl ?_
      refine ms_getr C dX9_over_50 (zz0 (G := xg X) Nat.one_pos) (k := 5) (Nat.le_of_ble_eq_true rfl) (b := xad X 4 0) rfl (Cn := RX9) (T := TX9) rfl inX9_X9_over rfl (by decide +kernel) ?_
      refine ms_iload C dX9_over_53 7 rfl ?_
      refine ms_ald C dX9_over_55 (zz4 (G := xg X) Nat.one_pos) rfl rfl (fun q17 hq17 => ?_)
      refine ms_iload_n C dX9_over_56 1 rfl ?_
      refine ms_iload_n C dX9_over_57 2 rfl ?_
      refine ms_callVi (As := [.int x1, .int x2]) C dX9_over_58 (fun _ h => mtX7_judges (xl X) (xg X) n M q17 x1 x2 hq17 h) (cwV 2 C.2.2.1 gX9_over_X7_judges rfl rfl rfl (by decide +kernel) ⟨Nat.le_of_ble_eq_true rfl, Nat.le_of_ble_eq_true rfl⟩) (zz25 (G := xg X) hq17) (T := TX7) rfl rfl rfl (Nat.le_of_ble_eq_true rfl) (fun v18 => ?_)
      refine ms_if_eq (tgt := 113) C dX9_over_61 (by decide) (fun c19 => ?_) (fun c19 => ?_)
      · refine ms_iinc (L' := fun v20 => [(9, .int v20), (0, .ref (xad X 0 0)), (1, .int x1), (2, .int x2), (3, .int x3), (4, .int x4), (5, .long x5), (7, .long x7)]) C dX9_over_113 7 rfl (c := 1) (by decide) (by decide) (fun _ => rfl) (fun v20 => ?_)
        refine ms_goto (tgt := 40) C dX9_over_116 (by decide) ?_
        exact ms_sub [1, 2, 3, 4, 5, 6, 7, 0] rfl (ih x4 x5 x7 v20)
      · refine ms_aload_n C dX9_over_64 0 rfl ?_
        refine ms_getr C dX9_over_65 (zz0 (G := xg X) Nat.one_pos) (k := 5) (Nat.le_of_ble_eq_true rfl) (b := xad X 4 0) rfl (Cn := RX9) (T := TX9) rfl inX9_X9_over rfl (by decide +kernel) ?_
        refine ms_iload C dX9_over_68 7 rfl ?_
        refine ms_ald C dX9_over_70 (zz4 (G := xg X) Nat.one_pos) rfl rfl (fun q21 hq21 => ?_)
        refine ms_getr C dX9_over_71 (zz25 (G := xg X) hq21) (k := 1) (Nat.le_of_ble_eq_true rfl) (b := xad X 26 q21) rfl (Cn := RX7) (T := TX7) rfl inX7_X9_over rfl (by decide +kernel) ?_
        refine ms_iload_n C dX9_over_74 2 rfl ?_
        refine ms_ld C dX9_over_75 (zz26 (G := xg X) hq21) rfl (fun _ v22 => ?_)
        refine ms_i2l C dX9_over_76 (fun v23 => ?_)
        refine ms_lstore (L' := [(10, .long v23), (0, .ref (xad X 0 0)), (1, .int x1), (2, .int x2), (3, .int x3), (4, .int x4), (5, .long x5), (7, .long x7), (9, .int x9)]) C dX9_over_77 (by decide) rfl ?_
        refine ms_iinc (L' := fun v24 => [(4, .int v24), (10, .long v23), (0, .ref (xad X 0 0)), (1, .int x1), (2, .int x2), (3, .int x3), (5, .long x5), (7, .long x7), (9, .int x9)]) C dX9_over_79 5 rfl (c := 1) (by decide) (by decide) (fun _ => rfl) (fun v24 => ?_)
        refine ms_lload C dX9_over_82 6 rfl ?_
        refine ms_lload C dX9_over_84 1 rfl ?_
        refine ms_aload_n C dX9_over_86 2 rfl ?_
        refine ms_getr C dX9_over_87 (zz0 (G := xg X) Nat.one_pos) (k := 5) (Nat.le_of_ble_eq_true rfl) (b := xad X 4 0) rfl (Cn := RX9) (T := TX9) rfl inX9_X9_over rfl (by decide +kernel) ?_
        refine ms_iload C dX9_over_90 8 rfl ?_
        refine ms_ald C dX9_over_92 (zz4 (G := xg X) Nat.one_pos) rfl rfl (fun q25 hq25 => ?_)
        refine ms_getr C dX9_over_93 (zz25 (G := xg X) hq25) (k := 3) (Nat.le_of_ble_eq_true rfl) (b := xad X 28 q25) rfl (Cn := RX7) (T := TX7) rfl inX7_X9_over rfl (by decide +kernel) ?_
        refine ms_iload_n C dX9_over_96 4 rfl ?_
        refine ms_ld C dX9_over_97 (zz28 (G := xg X) hq25) rfl (fun _ v26 => ?_)
        refine ms_i2l C dX9_over_98 (fun v27 => ?_)
        refine ms_lmul C dX9_over_99 (fun v28 => ?_)
        refine ms_ladd C dX9_over_100 (fun v29 => ?_)
        refine ms_lstore (L' := [(5, .long v29), (4, .int v24), (10, .long v23), (0, .ref (xad X 0 0)), (1, .int x1), (2, .int x2), (3, .int x3), (7, .long x7), (9, .int x9)]) C dX9_over_101 (by decide) rfl ?_
        refine ms_lload C dX9_over_103 7 rfl ?_
        refine ms_lload C dX9_over_105 2 rfl ?_
        refine ms_lload C dX9_over_107 2 rfl ?_
        refine ms_lmul C dX9_over_109 (fun v30 => ?_)
        refine ms_ladd C dX9_over_110 (fun v31 => ?_)
        refine ms_lstore (L' := [(7, .long v31), (5, .long v29), (4, .int v24), (10, .long v23), (0, .ref (xad X 0 0)), (1, .int x1), (2, .int x2), (3, .int x3), (9, .int x9)]) C dX9_over_111 (by decide) rfl ?_
        refine ms_iinc (L' := fun v32 => [(9, .int v32), (7, .long v31), (5, .long v29), (4, .int v24), (10, .long v23), (0, .ref (xad X 0 0)), (1, .int x1), (2, .int x2), (3, .int x3)]) C dX9_over_113 8 rfl (c := 1) (by decide) (by decide) (fun _ => rfl) (fun v32 => ?_)
        refine ms_goto (tgt := 40) C dX9_over_116 (by decide) ?_
        exact ms_sub [5, 6, 7, 8, 3, 2, 1, 0] rfl (ih v24 v29 v31 v32)
set_option maxRecDepth 100000 in
set_option maxHeartbeats 4000000 in
theorem mtX9_over (l : Launch) (G : mh_G) (n : Nat) (M : mh_M) (a0 : Int32) (a1 : Int32) (a2 : Int32) {z : Int64} (ho : fX9_over n M a0 a1 a2 = some z) : Met l yX9_over wsX9_over rmX9_over (mh_Pc G M [.ref (G.2.2 0 0), .int a0, .int a1, .int a2]) (mh_Q G M (some (.long z))) 0 0 (mh_dom G) := by
  refine mh_met (cc := cX9_over) (maxL := 12) (ret := (some .long)) (by decide) rfl (Nat.le_of_ble_eq_true rfl) ho ?_
  rintro X rfl rfl C hR
  show mh_W X rmX9_over 12 _ z M 0 [(0, .ref (xad X 0 0)), (1, .int a0), (2, .int a1), (3, .int a2)] []
  replace C : mh_C X rmX9_over cX9_over wsX9_over RX9 12 := C
  unfold fX9_over
  refine ms_iload_n C dX9_over_0 1 rfl ?_
  refine ms_callSi (As := [.int a0]) C dX9_over_1 (fun _ h => mtX9_isKeeper (xl X) (xg X) n M a0 h) (va_cwS 1 C.2.2.1 gX9_over_X9_isKeeper rfl rfl rfl (by decide +kernel) ⟨Nat.le_of_ble_eq_true rfl, Nat.le_of_ble_eq_true rfl⟩) rfl rfl (Nat.le_of_ble_eq_true rfl) (fun v1 => ?_)
  refine ms_if_eq (tgt := 24) C dX9_over_4 (by decide) (fun c2 => ?_) (fun c2 => ?_)
  · refine ms_ldc2 C (-1000000000 : Int64) dX9_over_24 (by decide +kernel) ?_
    exact ms_lreti C hR rfl dX9_over_27
  · refine ms_aload_n C dX9_over_7 0 rfl ?_
    refine ms_iload_n C dX9_over_8 2 rfl ?_
    refine ms_callVi (As := [.int a1]) C dX9_over_9 (fun _ h => mtX9_isKind (xl X) (xg X) n M a1 h) (cwV 1 C.2.2.1 gX9_over_X9_isKind rfl rfl rfl (by decide +kernel) ⟨Nat.le_of_ble_eq_true rfl, Nat.le_of_ble_eq_true rfl⟩) (zz0 (G := xg X) Nat.one_pos) (T := TX9) rfl rfl rfl (Nat.le_of_ble_eq_true rfl) (fun v3 => ?_)
    refine ms_if_eq (tgt := 24) C dX9_over_12 (by decide) (fun c4 => ?_) (fun c4 => ?_)
    · refine ms_ldc2 C (-1000000000 : Int64) dX9_over_24 (by decide +kernel) ?_
      exact ms_lreti C hR rfl dX9_over_27
    · refine ms_iload_n C dX9_over_15 3 rfl ?_
      refine ms_iconst C (0 : Int32) dX9_over_16 (by decide) ?_
      refine ms_iconst C (1 : Int32) dX9_over_17 (by decide) ?_
      refine ms_callSi (As := [.int a2, .int (0 : Int32), .int (1 : Int32)]) C dX9_over_18 (fun _ h => mtX9_isIn (xl X) (xg X) n M a2 (0 : Int32) (1 : Int32) h) (va_cwS 3 C.2.2.1 gX9_over_X9_isIn rfl rfl rfl (by decide +kernel) ⟨Nat.le_of_ble_eq_true rfl, Nat.le_of_ble_eq_true rfl⟩) rfl rfl (Nat.le_of_ble_eq_true rfl) (fun v5 => ?_)
      refine ms_if_ne (tgt := 28) C dX9_over_21 (by decide) (fun c6 => ?_) (fun c6 => ?_)
      · refine ms_iconst C (0 : Int32) dX9_over_28 (by decide) ?_
        refine ms_istore (L' := [(4, .int (0 : Int32)), (0, .ref (xad X 0 0)), (1, .int a0), (2, .int a1), (3, .int a2)]) C dX9_over_29 (by decide) rfl ?_
        refine ms_lconst C (0 : Int64) dX9_over_31 (by decide) ?_
        refine ms_lstore (L' := [(5, .long (0 : Int64)), (4, .int (0 : Int32)), (0, .ref (xad X 0 0)), (1, .int a0), (2, .int a1), (3, .int a2)]) C dX9_over_32 (by decide) rfl ?_
        refine ms_lconst C (0 : Int64) dX9_over_34 (by decide) ?_
        refine ms_lstore (L' := [(7, .long (0 : Int64)), (5, .long (0 : Int64)), (4, .int (0 : Int32)), (0, .ref (xad X 0 0)), (1, .int a0), (2, .int a1), (3, .int a2)]) C dX9_over_35 (by decide) rfl ?_
        refine ms_iconst C (0 : Int32) dX9_over_37 (by decide) ?_
        refine ms_istore (L' := [(9, .int (0 : Int32)), (7, .long (0 : Int64)), (5, .long (0 : Int64)), (4, .int (0 : Int32)), (0, .ref (xad X 0 0)), (1, .int a0), (2, .int a1), (3, .int a2)]) C dX9_over_38 (by decide) rfl ?_
        exact ms_sub [4, 5, 6, 7, 3, 2, 1, 0] rfl (mtX9_over_L40 (n := n) M a0 a1 a2 C hR n (0 : Int32) (0 : Int64) (0 : Int64) (0 : Int32))
      · refine ms_ldc2 C (-1000000000 : Int64) dX9_over_24 (by decide +kernel) ?_
        exact ms_lreti C hR rfl dX9_over_27
def rmX9_leans : Room := { frames := 2, cells := 0, slots := 0, locals := 43 }
theorem inX9_X9_leans : ∀ w ∈ wsX90, w ∈ wsX9_leans := by decide +kernel
set_option maxRecDepth 100000 in
set_option maxHeartbeats 4000000 in
theorem mtX9_leans_L22 {X : mh_X} {n : Nat} {z : Int32} (M : mh_M) (x1 : Int32) (x2 : Int32) (C : mh_C X rmX9_leans cX9_leans wsX9_leans RX9 5) (hR : mh_R X (some .int) M (some (.int z))) : ∀ (k : Nat) (x3 : Int32) (x4 : Int32), mh_W X rmX9_leans 5 (itr2 (fX9_leans_L22 n M x1 x2) k x3 x4) z M 22 [(0, .ref (xad X 0 0)), (1, .int x1), (2, .int x2), (3, .int x3), (4, .int x4)] [] := by
  intro k
  induction k with
  | zero =>
    intro x3 x4
    exact ms_none
  | succ k ih =>
    intro x3 x4
    show mh_W X rmX9_leans 5 (fX9_leans_L22 n M x1 x2 (itr2 (fX9_leans_L22 n M x1 x2) k) x3 x4) z M 22 [(0, .ref (xad X 0 0)), (1, .int x1), (2, .int x2), (3, .int x3), (4, .int x4)] []
    generalize itr2 (fX9_leans_L22 n M x1 x2) k = rec at ih ⊢
    unfold fX9_leans_L22
    refine ms_iload C dX9_leans_22 4 rfl ?_
    refine ms_aload_n C dX9_leans_24 0 rfl ?_
    refine ms_callVi (As := []) C dX9_leans_25 (fun _ h => mtX9_sheetsSoFar (xl X) (xg X) n M h) (cwV 0 C.2.2.1 gX9_leans_X9_sheetsSoFar rfl rfl rfl (by decide +kernel) ⟨Nat.le_of_ble_eq_true rfl, Nat.le_of_ble_eq_true rfl⟩) (zz0 (G := xg X) Nat.one_pos) (T := TX9) rfl rfl rfl (Nat.le_of_ble_eq_true rfl) (fun v5 => ?_)
    refine ms_icmp_ge (tgt := 69) C dX9_leans_28 (by decide) (fun c6 => ?_) (fun c6 => ?_)
    · refine ms_iload_n C dX9_leans_69 3 rfl ?_
      exact ms_ireti C hR rfl rfl dX9_leans_70
    · refine ms_aload_n C dX9_leans_31 0 rfl ?_
      refine ms_getr C dX9_leans_32 (zz0 (G := xg X) Nat.one_pos) (k := 5) (Nat.le_of_ble_eq_true rfl) (b := xad X 4 0) rfl (Cn := RX9) (T := TX9) rfl inX9_X9_leans rfl (by decide +kernel) ?_
      refine ms_iload C dX9_leans_35 4 rfl ?_
      refine ms_ald C dX9_leans_37 (zz4 (G := xg X) Nat.one_pos) rfl rfl (fun q7 hq7 => ?_)
      refine ms_iload_n C dX9_leans_38 1 rfl ?_
      refine ms_iload_n C dX9_leans_39 2 rfl ?_
      refine ms_callVi (As := [.int x1, .int x2]) C dX9_leans_40 (fun _ h => mtX7_judges (xl X) (xg X) n M q7 x1 x2 hq7 h) (cwV 2 C.2.2.1 gX9_leans_X7_judges rfl rfl rfl (by decide +kernel) ⟨Nat.le_of_ble_eq_true rfl, Nat.le_of_ble_eq_true rfl⟩) (zz25 (G := xg X) hq7) (T := TX7) rfl rfl rfl (Nat.le_of_ble_eq_true rfl) (fun v8 => ?_)
      refine ms_if_eq (tgt := 63) C dX9_leans_43 (by decide) (fun c9 => ?_) (fun c9 => ?_)
      · refine ms_iinc (L' := fun v10 => [(4, .int v10), (0, .ref (xad X 0 0)), (1, .int x1), (2, .int x2), (3, .int x3)]) C dX9_leans_63 4 rfl (c := 1) (by decide) (by decide) (fun _ => rfl) (fun v10 => ?_)
        refine ms_goto (tgt := 22) C dX9_leans_66 (by decide) ?_
        exact ms_sub [1, 2, 3, 4, 0] rfl (ih x3 v10)
      · refine ms_aload_n C dX9_leans_46 0 rfl ?_
        refine ms_getr C dX9_leans_47 (zz0 (G := xg X) Nat.one_pos) (k := 5) (Nat.le_of_ble_eq_true rfl) (b := xad X 4 0) rfl (Cn := RX9) (T := TX9) rfl inX9_X9_leans rfl (by decide +kernel) ?_
        refine ms_iload C dX9_leans_50 4 rfl ?_
        refine ms_ald C dX9_leans_52 (zz4 (G := xg X) Nat.one_pos) rfl rfl (fun q11 hq11 => ?_)
        refine ms_iload_n C dX9_leans_53 2 rfl ?_
        refine ms_callVi (As := [.int x2]) C dX9_leans_54 (fun _ h => mtX7_isTold (xl X) (xg X) n M q11 x2 hq11 h) (cwV 1 C.2.2.1 gX9_leans_X7_isTold rfl rfl rfl (by decide +kernel) ⟨Nat.le_of_ble_eq_true rfl, Nat.le_of_ble_eq_true rfl⟩) (zz25 (G := xg X) hq11) (T := TX7) rfl rfl rfl (Nat.le_of_ble_eq_true rfl) (fun v12 => ?_)
        refine ms_if_eq (tgt := 63) C dX9_leans_57 (by decide) (fun c13 => ?_) (fun c13 => ?_)
        · refine ms_iinc (L' := fun v14 => [(4, .int v14), (0, .ref (xad X 0 0)), (1, .int x1), (2, .int x2), (3, .int x3)]) C dX9_leans_63 4 rfl (c := 1) (by decide) (by decide) (fun _ => rfl) (fun v14 => ?_)
          refine ms_goto (tgt := 22) C dX9_leans_66 (by decide) ?_
          exact ms_sub [1, 2, 3, 4, 0] rfl (ih x3 v14)
        · refine ms_iinc (L' := fun v15 => [(3, .int v15), (0, .ref (xad X 0 0)), (1, .int x1), (2, .int x2), (4, .int x4)]) C dX9_leans_60 3 rfl (c := 1) (by decide) (by decide) (fun _ => rfl) (fun v15 => ?_)
          refine ms_iinc (L' := fun v16 => [(4, .int v16), (3, .int v15), (0, .ref (xad X 0 0)), (1, .int x1), (2, .int x2)]) C dX9_leans_63 4 rfl (c := 1) (by decide) (by decide) (fun _ => rfl) (fun v16 => ?_)
          refine ms_goto (tgt := 22) C dX9_leans_66 (by decide) ?_
          exact ms_sub [2, 3, 4, 1, 0] rfl (ih v15 v16)
set_option maxRecDepth 100000 in
set_option maxHeartbeats 4000000 in
theorem mtX9_leans (l : Launch) (G : mh_G) (n : Nat) (M : mh_M) (a0 : Int32) (a1 : Int32) {z : Int32} (ho : fX9_leans n M a0 a1 = some z) : Met l yX9_leans wsX9_leans rmX9_leans (mh_Pc G M [.ref (G.2.2 0 0), .int a0, .int a1]) (mh_Q G M (some (.int z))) 0 0 (mh_dom G) := by
  refine mh_met (cc := cX9_leans) (maxL := 5) (ret := (some .int)) (by decide) rfl (Nat.le_of_ble_eq_true rfl) ho ?_
  rintro X rfl rfl C hR
  show mh_W X rmX9_leans 5 _ z M 0 [(0, .ref (xad X 0 0)), (1, .int a0), (2, .int a1)] []
  replace C : mh_C X rmX9_leans cX9_leans wsX9_leans RX9 5 := C
  unfold fX9_leans
  refine ms_iload_n C dX9_leans_0 1 rfl ?_
  refine ms_callSi (As := [.int a0]) C dX9_leans_1 (fun _ h => mtX9_isKeeper (xl X) (xg X) n M a0 h) (va_cwS 1 C.2.2.1 gX9_leans_X9_isKeeper rfl rfl rfl (by decide +kernel) ⟨Nat.le_of_ble_eq_true rfl, Nat.le_of_ble_eq_true rfl⟩) rfl rfl (Nat.le_of_ble_eq_true rfl) (fun v1 => ?_)
  refine ms_if_eq (tgt := 15) C dX9_leans_4 (by decide) (fun c2 => ?_) (fun c2 => ?_)
  · refine ms_iconst C (-1 : Int32) dX9_leans_15 (by decide) ?_
    exact ms_ireti C hR rfl rfl dX9_leans_16
  · refine ms_aload_n C dX9_leans_7 0 rfl ?_
    refine ms_iload_n C dX9_leans_8 2 rfl ?_
    refine ms_callVi (As := [.int a1]) C dX9_leans_9 (fun _ h => mtX9_isKind (xl X) (xg X) n M a1 h) (cwV 1 C.2.2.1 gX9_leans_X9_isKind rfl rfl rfl (by decide +kernel) ⟨Nat.le_of_ble_eq_true rfl, Nat.le_of_ble_eq_true rfl⟩) (zz0 (G := xg X) Nat.one_pos) (T := TX9) rfl rfl rfl (Nat.le_of_ble_eq_true rfl) (fun v3 => ?_)
    refine ms_if_ne (tgt := 17) C dX9_leans_12 (by decide) (fun c4 => ?_) (fun c4 => ?_)
    · refine ms_iconst C (0 : Int32) dX9_leans_17 (by decide) ?_
      refine ms_istore_n (L' := [(3, .int (0 : Int32)), (0, .ref (xad X 0 0)), (1, .int a0), (2, .int a1)]) C dX9_leans_18 rfl (by decide) rfl ?_
      refine ms_iconst C (0 : Int32) dX9_leans_19 (by decide) ?_
      refine ms_istore (L' := [(4, .int (0 : Int32)), (3, .int (0 : Int32)), (0, .ref (xad X 0 0)), (1, .int a0), (2, .int a1)]) C dX9_leans_20 (by decide) rfl ?_
      exact ms_sub [2, 3, 4, 1, 0] rfl (mtX9_leans_L22 (n := n) M a0 a1 C hR n (0 : Int32) (0 : Int32))
    · refine ms_iconst C (-1 : Int32) dX9_leans_15 (by decide) ?_
      exact ms_ireti C hR rfl rfl dX9_leans_16
def rmX9_takings : Room := { frames := 2, cells := 0, slots := 0, locals := 42 }
theorem inX9_X9_takings : ∀ w ∈ wsX90, w ∈ wsX9_takings := by decide +kernel
set_option maxRecDepth 100000 in
set_option maxHeartbeats 4000000 in
theorem mtX9_takings (l : Launch) (G : mh_G) (n : Nat) (M : mh_M) (a0 : Int32) {z : Int32} (ho : fX9_takings n M a0 = some z) : Met l yX9_takings wsX9_takings rmX9_takings (mh_Pc G M [.ref (G.2.2 0 0), .int a0]) (mh_Q G M (some (.int z))) 0 0 (mh_dom G) := by
  refine mh_met (cc := cX9_takings) (maxL := 2) (ret := (some .int)) (by decide) rfl (Nat.le_of_ble_eq_true rfl) ho ?_
  rintro X rfl rfl C hR
  show mh_W X rmX9_takings 2 _ z M 0 [(0, .ref (xad X 0 0)), (1, .int a0)] []
  replace C : mh_C X rmX9_takings cX9_takings wsX9_takings RX9 2 := C
  unfold fX9_takings
  refine ms_iload_n C dX9_takings_0 1 rfl ?_
  refine ms_callSi (As := [.int a0]) C dX9_takings_1 (fun _ h => mtX9_isBar (xl X) (xg X) n M a0 h) (va_cwS 1 C.2.2.1 gX9_takings_X9_isBar rfl rfl rfl (by decide +kernel) ⟨Nat.le_of_ble_eq_true rfl, Nat.le_of_ble_eq_true rfl⟩) rfl rfl (Nat.le_of_ble_eq_true rfl) (fun v1 => ?_)
  refine ms_if_eq (tgt := 16) C dX9_takings_4 (by decide) (fun c2 => ?_) (fun c2 => ?_)
  · refine ms_iconst C (-1 : Int32) dX9_takings_16 (by decide) ?_
    exact ms_ireti C hR rfl rfl dX9_takings_17
  · refine ms_aload_n C dX9_takings_7 0 rfl ?_
    refine ms_getr C dX9_takings_8 (zz0 (G := xg X) Nat.one_pos) (k := 8) (Nat.le_of_ble_eq_true rfl) (b := xad X 7 0) rfl (Cn := RX9) (T := TX9) rfl inX9_X9_takings rfl (by decide +kernel) ?_
    refine ms_iload_n C dX9_takings_11 1 rfl ?_
    refine ms_ld C dX9_takings_12 (zz7 (G := xg X) Nat.one_pos) rfl (fun _ v3 => ?_)
    refine ms_goto (tgt := 17) C dX9_takings_13 (by decide) ?_
    exact ms_ireti C hR rfl rfl dX9_takings_17
def rmX9_foretell : Room := { frames := 1, cells := 0, slots := 0, locals := 22 }
theorem inX3_X9_foretell : ∀ w ∈ wsX30, w ∈ wsX9_foretell := by decide +kernel
theorem inX9_X9_foretell : ∀ w ∈ wsX90, w ∈ wsX9_foretell := by decide +kernel
set_option maxRecDepth 100000 in
set_option maxHeartbeats 4000000 in
theorem mtX9_foretell (l : Launch) (G : mh_G) (n : Nat) (M : mh_M) (a0 : Int32) (a1 : Int32) {z : mh_M × Int32} (ho : fX9_foretell n M a0 a1 = some z) : Met l yX9_foretell wsX9_foretell rmX9_foretell (mh_Pc G M [.ref (G.2.2 0 0), .int a0, .int a1]) (mh_Q G z.1 (some (.int z.2))) 0 0 (mh_dom G) := by
  refine mh_met (cc := cX9_foretell) (maxL := 3) (ret := (some .int)) (by decide) rfl (Nat.le_of_ble_eq_true rfl) ho ?_
  rintro X rfl rfl C hR
  show mh_W X rmX9_foretell 3 _ z M 0 [(0, .ref (xad X 0 0)), (1, .int a0), (2, .int a1)] []
  replace C : mh_C X rmX9_foretell cX9_foretell wsX9_foretell RX9 3 := C
  unfold fX9_foretell
  refine ms_iload_n C dX9_foretell_0 1 rfl ?_
  refine ms_iconst C (0 : Int32) dX9_foretell_1 (by decide) ?_
  refine ms_sipush C (200 : Int32) dX9_foretell_2 (by decide) ?_
  refine ms_callSi (As := [.int a0, .int (0 : Int32), .int (200 : Int32)]) C dX9_foretell_5 (fun _ h => mtX9_isIn (xl X) (xg X) n M a0 (0 : Int32) (200 : Int32) h) (va_cwS 3 C.2.2.1 gX9_foretell_X9_isIn rfl rfl rfl (by decide +kernel) ⟨Nat.le_of_ble_eq_true rfl, Nat.le_of_ble_eq_true rfl⟩) rfl rfl (Nat.le_of_ble_eq_true rfl) (fun v1 => ?_)
  refine ms_if_eq (tgt := 21) C dX9_foretell_8 (by decide) (fun c2 => ?_) (fun c2 => ?_)
  · refine ms_iconst C (-1 : Int32) dX9_foretell_21 (by decide) ?_
    exact ms_iretm C hR rfl dX9_foretell_22
  · refine ms_iload_n C dX9_foretell_11 2 rfl ?_
    refine ms_iconst C (1 : Int32) dX9_foretell_12 (by decide) ?_
    refine ms_bipush C (100 : Int32) dX9_foretell_13 (by decide) ?_
    refine ms_callSi (As := [.int a1, .int (1 : Int32), .int (100 : Int32)]) C dX9_foretell_15 (fun _ h => mtX9_isIn (xl X) (xg X) n M a1 (1 : Int32) (100 : Int32) h) (va_cwS 3 C.2.2.1 gX9_foretell_X9_isIn rfl rfl rfl (by decide +kernel) ⟨Nat.le_of_ble_eq_true rfl, Nat.le_of_ble_eq_true rfl⟩) rfl rfl (Nat.le_of_ble_eq_true rfl) (fun v3 => ?_)
    refine ms_if_ne (tgt := 23) C dX9_foretell_18 (by decide) (fun c4 => ?_) (fun c4 => ?_)
    · refine ms_aload_n C dX9_foretell_23 0 rfl ?_
      refine ms_getr C dX9_foretell_24 (zz0 (G := xg X) Nat.one_pos) (k := 9) (Nat.le_of_ble_eq_true rfl) (b := xad X 8 0) rfl (Cn := RX9) (T := TX9) rfl inX9_X9_foretell rfl (by decide +kernel) ?_
      refine ms_geti C dX9_foretell_27 (zz8 (G := xg X) Nat.one_pos) (k := 2) (Nat.le_of_ble_eq_true rfl) rfl (Cn := RX3) (T := TX3) rfl inX3_X9_foretell rfl (by decide +kernel) (fun v5 => ?_)
      refine ms_bipush C (8 : Int32) dX9_foretell_30 (by decide) ?_
      refine ms_icmp_lt (tgt := 38) C dX9_foretell_32 (by decide) (fun c6 => ?_) (fun c6 => ?_)
      · refine ms_aload_n C dX9_foretell_38 0 rfl ?_
        refine ms_getr C dX9_foretell_39 (zz0 (G := xg X) Nat.one_pos) (k := 9) (Nat.le_of_ble_eq_true rfl) (b := xad X 8 0) rfl (Cn := RX9) (T := TX9) rfl inX9_X9_foretell rfl (by decide +kernel) ?_
        refine ms_iload_n C dX9_foretell_42 1 rfl ?_
        refine ms_iload_n C dX9_foretell_43 2 rfl ?_
        refine ms_callVv (As := [.int a0, .int a1]) C dX9_foretell_44 (fun _ h => mtX3_add (xl X) (xg X) n M a0 a1 h) (cwV 2 C.2.2.1 gX9_foretell_X3_add rfl rfl rfl (by decide +kernel) ⟨Nat.le_of_ble_eq_true rfl, Nat.le_of_ble_eq_true rfl⟩) (zz8 (G := xg X) Nat.one_pos) (T := TX3) rfl rfl rfl (Nat.le_of_ble_eq_true rfl) (fun M7 => ?_)
        refine ms_aload_n C dX9_foretell_47 0 rfl ?_
        refine ms_getr C dX9_foretell_48 (zz0 (G := xg X) Nat.one_pos) (k := 9) (Nat.le_of_ble_eq_true rfl) (b := xad X 8 0) rfl (Cn := RX9) (T := TX9) rfl inX9_X9_foretell rfl (by decide +kernel) ?_
        refine ms_geti C dX9_foretell_51 (zz8 (G := xg X) Nat.one_pos) (k := 2) (Nat.le_of_ble_eq_true rfl) rfl (Cn := RX3) (T := TX3) rfl inX3_X9_foretell rfl (by decide +kernel) (fun v8 => ?_)
        exact ms_iretm C hR rfl dX9_foretell_54
      · refine ms_bipush C (-3 : Int32) dX9_foretell_35 (by decide) ?_
        exact ms_iretm C hR rfl dX9_foretell_37
    · refine ms_iconst C (-1 : Int32) dX9_foretell_21 (by decide) ?_
      exact ms_iretm C hR rfl dX9_foretell_22
def rmX9_forget : Room := { frames := 0, cells := 0, slots := 0, locals := 0 }
theorem inX3_X9_forget : ∀ w ∈ wsX30, w ∈ wsX9_forget := by decide +kernel
theorem inX9_X9_forget : ∀ w ∈ wsX90, w ∈ wsX9_forget := by decide +kernel
set_option maxRecDepth 100000 in
set_option maxHeartbeats 4000000 in
theorem mtX9_forget (l : Launch) (G : mh_G) (n : Nat) (M : mh_M) {z : mh_M × Int32} (ho : fX9_forget n M = some z) : Met l yX9_forget wsX9_forget rmX9_forget (mh_Pc G M [.ref (G.2.2 0 0)]) (mh_Q G z.1 (some (.int z.2))) 0 0 (mh_dom G) := by
  refine mh_met (cc := cX9_forget) (maxL := 2) (ret := (some .int)) (by decide) rfl (Nat.le_of_ble_eq_true rfl) ho ?_
  rintro X rfl rfl C hR
  show mh_W X rmX9_forget 2 _ z M 0 [(0, .ref (xad X 0 0))] []
  replace C : mh_C X rmX9_forget cX9_forget wsX9_forget RX9 2 := C
  unfold fX9_forget
  refine ms_aload_n C dX9_forget_0 0 rfl ?_
  refine ms_getr C dX9_forget_1 (zz0 (G := xg X) Nat.one_pos) (k := 9) (Nat.le_of_ble_eq_true rfl) (b := xad X 8 0) rfl (Cn := RX9) (T := TX9) rfl inX9_X9_forget rfl (by decide +kernel) ?_
  refine ms_geti C dX9_forget_4 (zz8 (G := xg X) Nat.one_pos) (k := 2) (Nat.le_of_ble_eq_true rfl) rfl (Cn := RX3) (T := TX3) rfl inX3_X9_forget rfl (by decide +kernel) (fun v1 => ?_)
  refine ms_istore_n (L' := [(1, .int v1), (0, .ref (xad X 0 0))]) C dX9_forget_7 rfl (by decide) rfl ?_
  refine ms_aload_n C dX9_forget_8 1 rfl ?_
  refine ms_getr C dX9_forget_9 (zz0 (G := xg X) Nat.one_pos) (k := 9) (Nat.le_of_ble_eq_true rfl) (b := xad X 8 0) rfl (Cn := RX9) (T := TX9) rfl inX9_X9_forget rfl (by decide +kernel) ?_
  refine ms_iconst C (0 : Int32) dX9_forget_12 (by decide) ?_
  refine ms_puti C dX9_forget_13 tyX3 tyX3_ok nmX3 (zz8 (G := xg X) Nat.one_pos) (k := 2) (Nat.le_of_ble_eq_true rfl) rfl (Cn := RX3) (T := TX3) rfl inX3_X9_forget rfl (by decide +kernel) rfl (by decide +kernel) (fun M2 => ?_)
  refine ms_iload_n C dX9_forget_16 0 rfl ?_
  exact ms_iretm C hR rfl dX9_forget_17
def rmX9_press : Room := { frames := 3, cells := 0, slots := 0, locals := 74 }
theorem inX3_X9_press : ∀ w ∈ wsX30, w ∈ wsX9_press := by decide +kernel
theorem inX9_X9_press : ∀ w ∈ wsX90, w ∈ wsX9_press := by decide +kernel
set_option maxRecDepth 100000 in
set_option maxHeartbeats 4000000 in
theorem mtX9_press (l : Launch) (G : mh_G) (n : Nat) (M : mh_M) (a0 : Int32) {z : Int32} (ho : fX9_press n M a0 = some z) : Met l yX9_press wsX9_press rmX9_press (mh_Pc G M [.ref (G.2.2 0 0), .int a0]) (mh_Q G M (some (.int z))) 0 0 (mh_dom G) := by
  refine mh_met (cc := cX9_press) (maxL := 4) (ret := (some .int)) (by decide) rfl (Nat.le_of_ble_eq_true rfl) ho ?_
  rintro X rfl rfl C hR
  show mh_W X rmX9_press 4 _ z M 0 [(0, .ref (xad X 0 0)), (1, .int a0)] []
  replace C : mh_C X rmX9_press cX9_press wsX9_press RX9 4 := C
  unfold fX9_press
  refine ms_aload_n C dX9_press_0 0 rfl ?_
  refine ms_getr C dX9_press_1 (zz0 (G := xg X) Nat.one_pos) (k := 9) (Nat.le_of_ble_eq_true rfl) (b := xad X 8 0) rfl (Cn := RX9) (T := TX9) rfl inX9_X9_press rfl (by decide +kernel) ?_
  refine ms_geti C dX9_press_4 (zz8 (G := xg X) Nat.one_pos) (k := 2) (Nat.le_of_ble_eq_true rfl) rfl (Cn := RX3) (T := TX3) rfl inX3_X9_press rfl (by decide +kernel) (fun v1 => ?_)
  refine ms_if_ne (tgt := 13) C dX9_press_7 (by decide) (fun c2 => ?_) (fun c2 => ?_)
  · refine ms_iload_n C dX9_press_13 1 rfl ?_
    refine ms_iconst C (-1 : Int32) dX9_press_14 (by decide) ?_
    refine ms_sipush C (200 : Int32) dX9_press_15 (by decide) ?_
    refine ms_callSi (As := [.int a0, .int (-1 : Int32), .int (200 : Int32)]) C dX9_press_18 (fun _ h => mtX9_isIn (xl X) (xg X) n M a0 (-1 : Int32) (200 : Int32) h) (va_cwS 3 C.2.2.1 gX9_press_X9_isIn rfl rfl rfl (by decide +kernel) ⟨Nat.le_of_ble_eq_true rfl, Nat.le_of_ble_eq_true rfl⟩) rfl rfl (Nat.le_of_ble_eq_true rfl) (fun v3 => ?_)
    refine ms_if_ne (tgt := 26) C dX9_press_21 (by decide) (fun c4 => ?_) (fun c4 => ?_)
    · refine ms_aload_n C dX9_press_26 0 rfl ?_
      refine ms_getr C dX9_press_27 (zz0 (G := xg X) Nat.one_pos) (k := 4) (Nat.le_of_ble_eq_true rfl) (b := xad X 3 0) rfl (Cn := RX9) (T := TX9) rfl inX9_X9_press rfl (by decide +kernel) ?_
      refine ms_iconst C (2 : Int32) dX9_press_30 (by decide) ?_
      refine ms_ld C dX9_press_31 (zz3 (G := xg X) Nat.one_pos) rfl (fun _ v5 => ?_)
      refine ms_istore_n (L' := [(2, .int v5), (0, .ref (xad X 0 0)), (1, .int a0)]) C dX9_press_32 rfl (by decide) rfl ?_
      refine ms_aload_n C dX9_press_33 1 rfl ?_
      refine ms_getr C dX9_press_34 (zz0 (G := xg X) Nat.one_pos) (k := 4) (Nat.le_of_ble_eq_true rfl) (b := xad X 3 0) rfl (Cn := RX9) (T := TX9) rfl inX9_X9_press rfl (by decide +kernel) ?_
      refine ms_iconst C (3 : Int32) dX9_press_37 (by decide) ?_
      refine ms_ld C dX9_press_38 (zz3 (G := xg X) Nat.one_pos) rfl (fun _ v6 => ?_)
      refine ms_istore_n (L' := [(3, .int v6), (2, .int v5), (0, .ref (xad X 0 0)), (1, .int a0)]) C dX9_press_39 rfl (by decide) rfl ?_
      refine ms_iload_n C dX9_press_40 3 rfl ?_
      refine ms_iconst C (-1 : Int32) dX9_press_41 (by decide) ?_
      refine ms_icmp_ne (tgt := 57) C dX9_press_42 (by decide) (fun c7 => ?_) (fun c7 => ?_)
      · refine ms_aload_n C dX9_press_57 2 rfl ?_
        refine ms_getr C dX9_press_58 (zz0 (G := xg X) Nat.one_pos) (k := 9) (Nat.le_of_ble_eq_true rfl) (b := xad X 8 0) rfl (Cn := RX9) (T := TX9) rfl inX9_X9_press rfl (by decide +kernel) ?_
        refine ms_iload_n C dX9_press_61 3 rfl ?_
        refine ms_iload_n C dX9_press_62 1 rfl ?_
        refine ms_iload_n C dX9_press_63 0 rfl ?_
        refine ms_callVi (As := [.int a0, .int v5, .int v6]) C dX9_press_64 (fun _ h => mtX3_costOf (xl X) (xg X) n M a0 v5 v6 h) (cwV 3 C.2.2.1 gX9_press_X3_costOf rfl rfl rfl (by decide +kernel) ⟨Nat.le_of_ble_eq_true rfl, Nat.le_of_ble_eq_true rfl⟩) (zz8 (G := xg X) Nat.one_pos) (T := TX3) rfl rfl rfl (Nat.le_of_ble_eq_true rfl) (fun v8 => ?_)
        exact ms_ireti C hR rfl rfl dX9_press_67
      · refine ms_aload_n C dX9_press_45 2 rfl ?_
        refine ms_getr C dX9_press_46 (zz0 (G := xg X) Nat.one_pos) (k := 9) (Nat.le_of_ble_eq_true rfl) (b := xad X 8 0) rfl (Cn := RX9) (T := TX9) rfl inX9_X9_press rfl (by decide +kernel) ?_
        refine ms_iload_n C dX9_press_49 1 rfl ?_
        refine ms_iload_n C dX9_press_50 0 rfl ?_
        refine ms_callVi (As := [.int v5, .int v6]) C dX9_press_51 (fun _ h => mtX3_par (xl X) (xg X) n M v5 v6 h) (cwV 2 C.2.2.1 gX9_press_X3_par rfl rfl rfl (by decide +kernel) ⟨Nat.le_of_ble_eq_true rfl, Nat.le_of_ble_eq_true rfl⟩) (zz8 (G := xg X) Nat.one_pos) (T := TX3) rfl rfl rfl (Nat.le_of_ble_eq_true rfl) (fun v9 => ?_)
        refine ms_goto (tgt := 67) C dX9_press_54 (by decide) ?_
        exact ms_ireti C hR rfl rfl dX9_press_67
    · refine ms_iconst C (-1 : Int32) dX9_press_24 (by decide) ?_
      exact ms_ireti C hR rfl rfl dX9_press_25
  · refine ms_bipush C (-2 : Int32) dX9_press_10 (by decide) ?_
    exact ms_ireti C hR rfl rfl dX9_press_12
def rmX9_allKinds : Room := { frames := 0, cells := 0, slots := 0, locals := 0 }
theorem inX9_X9_allKinds : ∀ w ∈ wsX90, w ∈ wsX9_allKinds := by decide +kernel
set_option maxRecDepth 100000 in
set_option maxHeartbeats 4000000 in
theorem mtX9_allKinds (l : Launch) (G : mh_G) (n : Nat) (M : mh_M) {z : Int32} (ho : fX9_allKinds n M = some z) : Met l yX9_allKinds wsX9_allKinds rmX9_allKinds (mh_Pc G M [.ref (G.2.2 0 0)]) (mh_Q G M (some (.int z))) 0 0 (mh_dom G) := by
  refine mh_met (cc := cX9_allKinds) (maxL := 1) (ret := (some .int)) (by decide) rfl (Nat.le_of_ble_eq_true rfl) ho ?_
  rintro X rfl rfl C hR
  show mh_W X rmX9_allKinds 1 _ z M 0 [(0, .ref (xad X 0 0))] []
  replace C : mh_C X rmX9_allKinds cX9_allKinds wsX9_allKinds RX9 1 := C
  unfold fX9_allKinds
  refine ms_iconst C (1 : Int32) dX9_allKinds_0 (by decide) ?_
  refine ms_aload_n C dX9_allKinds_1 0 rfl ?_
  refine ms_geti C dX9_allKinds_2 (zz0 (G := xg X) Nat.one_pos) (k := 1) (Nat.le_of_ble_eq_true rfl) rfl (Cn := RX9) (T := TX9) rfl inX9_X9_allKinds rfl (by decide +kernel) (fun v1 => ?_)
  refine ms_ishl C dX9_allKinds_5 (fun v2 => ?_)
  refine ms_iconst C (1 : Int32) dX9_allKinds_6 (by decide) ?_
  refine ms_isub C dX9_allKinds_7 (fun v3 => ?_)
  exact ms_ireti C hR rfl rfl dX9_allKinds_8
def rmX9_madeBy : Room := { frames := 1, cells := 0, slots := 0, locals := 21 }
theorem inX9_X9_madeBy : ∀ w ∈ wsX90, w ∈ wsX9_madeBy := by decide +kernel
set_option maxRecDepth 100000 in
set_option maxHeartbeats 4000000 in
theorem mtX9_madeBy_L4 {X : mh_X} {n : Nat} {z : Int32} (M : mh_M) (x1 : Int32) (C : mh_C X rmX9_madeBy cX9_madeBy wsX9_madeBy RX9 4) (hR : mh_R X (some .int) M (some (.int z))) : ∀ (k : Nat) (x2 : Int32) (x3 : Int32), mh_W X rmX9_madeBy 4 (itr2 (fX9_madeBy_L4 n M x1) k x2 x3) z M 4 [(0, .ref (xad X 0 0)), (1, .int x1), (2, .int x2), (3, .int x3)] [] := by
  intro k
  induction k with
  | zero =>
    intro x2 x3
    exact ms_none
  | succ k ih =>
    intro x2 x3
    show mh_W X rmX9_madeBy 4 (fX9_madeBy_L4 n M x1 (itr2 (fX9_madeBy_L4 n M x1) k) x2 x3) z M 4 [(0, .ref (xad X 0 0)), (1, .int x1), (2, .int x2), (3, .int x3)] []
    generalize itr2 (fX9_madeBy_L4 n M x1) k = rec at ih ⊢
    unfold fX9_madeBy_L4
    refine ms_iload_n C dX9_madeBy_4 3 rfl ?_
    refine ms_aload_n C dX9_madeBy_5 0 rfl ?_
    refine ms_geti C dX9_madeBy_6 (zz0 (G := xg X) Nat.one_pos) (k := 3) (Nat.le_of_ble_eq_true rfl) rfl (Cn := RX9) (T := TX9) rfl inX9_X9_madeBy rfl (by decide +kernel) (fun v1 => ?_)
    refine ms_icmp_ge (tgt := 34) C dX9_madeBy_9 (by decide) (fun c2 => ?_) (fun c2 => ?_)
    · refine ms_iload_n C dX9_madeBy_34 2 rfl ?_
      exact ms_ireti C hR rfl rfl dX9_madeBy_35
    · refine ms_aload_n C dX9_madeBy_12 0 rfl ?_
      refine ms_getr C dX9_madeBy_13 (zz0 (G := xg X) Nat.one_pos) (k := 2) (Nat.le_of_ble_eq_true rfl) (b := xad X 2 0) rfl (Cn := RX9) (T := TX9) rfl inX9_X9_madeBy rfl (by decide +kernel) ?_
      refine ms_iload_n C dX9_madeBy_16 3 rfl ?_
      refine ms_ald C dX9_madeBy_17 (zz2 (G := xg X) Nat.one_pos) rfl rfl (fun q3 hq3 => ?_)
      refine ms_iload_n C dX9_madeBy_18 1 rfl ?_
      refine ms_callVi (As := [.int x1]) C dX9_madeBy_19 (fun _ h => mtX6_canBeMadeBy (xl X) (xg X) n M q3 x1 hq3 h) (cwV 1 C.2.2.1 gX9_madeBy_X6_canBeMadeBy rfl rfl rfl (by decide +kernel) ⟨Nat.le_of_ble_eq_true rfl, Nat.le_of_ble_eq_true rfl⟩) (zz23 (G := xg X) hq3) (T := TX6) rfl rfl rfl (Nat.le_of_ble_eq_true rfl) (fun v4 => ?_)
      refine ms_if_eq (tgt := 28) C dX9_madeBy_22 (by decide) (fun c5 => ?_) (fun c5 => ?_)
      · refine ms_iinc (L' := fun v6 => [(3, .int v6), (0, .ref (xad X 0 0)), (1, .int x1), (2, .int x2)]) C dX9_madeBy_28 3 rfl (c := 1) (by decide) (by decide) (fun _ => rfl) (fun v6 => ?_)
        refine ms_goto (tgt := 4) C dX9_madeBy_31 (by decide) ?_
        exact ms_sub [1, 2, 3, 0] rfl (ih x2 v6)
      · refine ms_iinc (L' := fun v7 => [(2, .int v7), (0, .ref (xad X 0 0)), (1, .int x1), (3, .int x3)]) C dX9_madeBy_25 2 rfl (c := 1) (by decide) (by decide) (fun _ => rfl) (fun v7 => ?_)
        refine ms_iinc (L' := fun v8 => [(3, .int v8), (2, .int v7), (0, .ref (xad X 0 0)), (1, .int x1)]) C dX9_madeBy_28 3 rfl (c := 1) (by decide) (by decide) (fun _ => rfl) (fun v8 => ?_)
        refine ms_goto (tgt := 4) C dX9_madeBy_31 (by decide) ?_
        exact ms_sub [2, 3, 1, 0] rfl (ih v7 v8)
set_option maxRecDepth 100000 in
set_option maxHeartbeats 4000000 in
theorem mtX9_madeBy (l : Launch) (G : mh_G) (n : Nat) (M : mh_M) (a0 : Int32) {z : Int32} (ho : fX9_madeBy n M a0 = some z) : Met l yX9_madeBy wsX9_madeBy rmX9_madeBy (mh_Pc G M [.ref (G.2.2 0 0), .int a0]) (mh_Q G M (some (.int z))) 0 0 (mh_dom G) := by
  refine mh_met (cc := cX9_madeBy) (maxL := 4) (ret := (some .int)) (by decide) rfl (Nat.le_of_ble_eq_true rfl) ho ?_
  rintro X rfl rfl C hR
  show mh_W X rmX9_madeBy 4 _ z M 0 [(0, .ref (xad X 0 0)), (1, .int a0)] []
  replace C : mh_C X rmX9_madeBy cX9_madeBy wsX9_madeBy RX9 4 := C
  unfold fX9_madeBy
  refine ms_iconst C (0 : Int32) dX9_madeBy_0 (by decide) ?_
  refine ms_istore_n (L' := [(2, .int (0 : Int32)), (0, .ref (xad X 0 0)), (1, .int a0)]) C dX9_madeBy_1 rfl (by decide) rfl ?_
  refine ms_iconst C (0 : Int32) dX9_madeBy_2 (by decide) ?_
  refine ms_istore_n (L' := [(3, .int (0 : Int32)), (2, .int (0 : Int32)), (0, .ref (xad X 0 0)), (1, .int a0)]) C dX9_madeBy_3 rfl (by decide) rfl ?_
  exact ms_sub [2, 3, 1, 0] rfl (mtX9_madeBy_L4 (n := n) M a0 C hR n (0 : Int32) (0 : Int32))
def rmX9_makes : Room := { frames := 2, cells := 0, slots := 0, locals := 44 }
set_option maxRecDepth 100000 in
set_option maxHeartbeats 4000000 in
theorem mtX9_makes (l : Launch) (G : mh_G) (n : Nat) (M : mh_M) (a0 : Int32) {z : Int32} (ho : fX9_makes n M a0 = some z) : Met l yX9_makes wsX9_makes rmX9_makes (mh_Pc G M [.ref (G.2.2 0 0), .int a0]) (mh_Q G M (some (.int z))) 0 0 (mh_dom G) := by
  refine mh_met (cc := cX9_makes) (maxL := 2) (ret := (some .int)) (by decide) rfl (Nat.le_of_ble_eq_true rfl) ho ?_
  rintro X rfl rfl C hR
  show mh_W X rmX9_makes 2 _ z M 0 [(0, .ref (xad X 0 0)), (1, .int a0)] []
  replace C : mh_C X rmX9_makes cX9_makes wsX9_makes RX9 2 := C
  unfold fX9_makes
  refine ms_iload_n C dX9_makes_0 1 rfl ?_
  refine ms_iconst C (0 : Int32) dX9_makes_1 (by decide) ?_
  refine ms_aload_n C dX9_makes_2 0 rfl ?_
  refine ms_callVi (As := []) C dX9_makes_3 (fun _ h => mtX9_allKinds (xl X) (xg X) n M h) (cwV 0 C.2.2.1 gX9_makes_X9_allKinds rfl rfl rfl (by decide +kernel) ⟨Nat.le_of_ble_eq_true rfl, Nat.le_of_ble_eq_true rfl⟩) (zz0 (G := xg X) Nat.one_pos) (T := TX9) rfl rfl rfl (Nat.le_of_ble_eq_true rfl) (fun v1 => ?_)
  refine ms_callSi (As := [.int a0, .int (0 : Int32), .int v1]) C dX9_makes_6 (fun _ h => mtX9_isIn (xl X) (xg X) n M a0 (0 : Int32) v1 h) (va_cwS 3 C.2.2.1 gX9_makes_X9_isIn rfl rfl rfl (by decide +kernel) ⟨Nat.le_of_ble_eq_true rfl, Nat.le_of_ble_eq_true rfl⟩) rfl rfl (Nat.le_of_ble_eq_true rfl) (fun v2 => ?_)
  refine ms_if_eq (tgt := 20) C dX9_makes_9 (by decide) (fun c3 => ?_) (fun c3 => ?_)
  · refine ms_iconst C (-1 : Int32) dX9_makes_20 (by decide) ?_
    exact ms_ireti C hR rfl rfl dX9_makes_21
  · refine ms_aload_n C dX9_makes_12 0 rfl ?_
    refine ms_iload_n C dX9_makes_13 1 rfl ?_
    refine ms_callVi (As := [.int a0]) C dX9_makes_14 (fun _ h => mtX9_madeBy (xl X) (xg X) n M a0 h) (cwV 1 C.2.2.1 gX9_makes_X9_madeBy rfl rfl rfl (by decide +kernel) ⟨Nat.le_of_ble_eq_true rfl, Nat.le_of_ble_eq_true rfl⟩) (zz0 (G := xg X) Nat.one_pos) (T := TX9) rfl rfl rfl (Nat.le_of_ble_eq_true rfl) (fun v4 => ?_)
    refine ms_goto (tgt := 21) C dX9_makes_17 (by decide) ?_
    exact ms_ireti C hR rfl rfl dX9_makes_21
def rmX9_fewest : Room := { frames := 2, cells := 0, slots := 0, locals := 44 }
set_option maxRecDepth 100000 in
set_option maxHeartbeats 4000000 in
theorem mtX9_fewest_L17 {X : mh_X} {n : Nat} {z : Int32} (M : mh_M) (x1 : Int32) (C : mh_C X rmX9_fewest cX9_fewest wsX9_fewest RX9 5) (hR : mh_R X (some .int) M (some (.int z))) : ∀ (k : Nat) (x2 : Int32) (x3 : Int32), mh_W X rmX9_fewest 5 (itr2 (fX9_fewest_L17 n M x1) k x2 x3) z M 17 [(0, .ref (xad X 0 0)), (1, .int x1), (2, .int x2), (3, .int x3)] [] := by
  intro k
  induction k with
  | zero =>
    intro x2 x3
    exact ms_none
  | succ k ih =>
    intro x2 x3
    show mh_W X rmX9_fewest 5 (fX9_fewest_L17 n M x1 (itr2 (fX9_fewest_L17 n M x1) k) x2 x3) z M 17 [(0, .ref (xad X 0 0)), (1, .int x1), (2, .int x2), (3, .int x3)] []
    generalize itr2 (fX9_fewest_L17 n M x1) k = rec at ih ⊢
    unfold fX9_fewest_L17
    refine ms_iload_n C dX9_fewest_17 3 rfl ?_
    refine ms_aload_n C dX9_fewest_18 0 rfl ?_
    refine ms_callVi (As := []) C dX9_fewest_19 (fun _ h => mtX9_allKinds (xl X) (xg X) n M h) (cwV 0 C.2.2.1 gX9_fewest_X9_allKinds rfl rfl rfl (by decide +kernel) ⟨Nat.le_of_ble_eq_true rfl, Nat.le_of_ble_eq_true rfl⟩) (zz0 (G := xg X) Nat.one_pos) (T := TX9) rfl rfl rfl (Nat.le_of_ble_eq_true rfl) (fun v3 => ?_)
    refine ms_icmp_gt (tgt := 71) C dX9_fewest_22 (by decide) (fun c4 => ?_) (fun c4 => ?_)
    · refine ms_iload_n C dX9_fewest_71 2 rfl ?_
      exact ms_ireti C hR rfl rfl dX9_fewest_72
    · refine ms_iload_n C dX9_fewest_25 2 rfl ?_
      refine ms_bipush C (-4 : Int32) dX9_fewest_26 (by decide) ?_
      refine ms_icmp_eq (tgt := 42) C dX9_fewest_28 (by decide) (fun c5 => ?_) (fun c5 => ?_)
      · refine ms_iconst C (1 : Int32) dX9_fewest_42 (by decide) ?_
        refine ms_goto (tgt := 47) C dX9_fewest_43 (by decide) ?_
        refine ms_istore (L' := [(4, .int (1 : Int32)), (0, .ref (xad X 0 0)), (1, .int x1), (2, .int x2), (3, .int x3)]) C dX9_fewest_47 (by decide) rfl ?_
        refine ms_iload C dX9_fewest_49 0 rfl ?_
        refine ms_if_eq (tgt := 65) C dX9_fewest_51 (by decide) (fun c6 => ?_) (fun c6 => ?_)
        · refine ms_iinc (L' := fun v7 => [(3, .int v7), (4, .int (1 : Int32)), (0, .ref (xad X 0 0)), (1, .int x1), (2, .int x2)]) C dX9_fewest_65 4 rfl (c := 1) (by decide) (by decide) (fun _ => rfl) (fun v7 => ?_)
          refine ms_goto (tgt := 17) C dX9_fewest_68 (by decide) ?_
          exact ms_sub [2, 3, 4, 0] rfl (ih x2 v7)
        · refine ms_aload_n C dX9_fewest_54 1 rfl ?_
          refine ms_iload_n C dX9_fewest_55 4 rfl ?_
          refine ms_callVi (As := [.int x3]) C dX9_fewest_56 (fun _ h => mtX9_madeBy (xl X) (xg X) n M x3 h) (cwV 1 C.2.2.1 gX9_fewest_X9_madeBy rfl rfl rfl (by decide +kernel) ⟨Nat.le_of_ble_eq_true rfl, Nat.le_of_ble_eq_true rfl⟩) (zz0 (G := xg X) Nat.one_pos) (T := TX9) rfl rfl rfl (Nat.le_of_ble_eq_true rfl) (fun v8 => ?_)
          refine ms_iload_n C dX9_fewest_59 2 rfl ?_
          refine ms_icmp_lt (tgt := 65) C dX9_fewest_60 (by decide) (fun c9 => ?_) (fun c9 => ?_)
          · refine ms_iinc (L' := fun v10 => [(3, .int v10), (4, .int (1 : Int32)), (0, .ref (xad X 0 0)), (1, .int x1), (2, .int x2)]) C dX9_fewest_65 4 rfl (c := 1) (by decide) (by decide) (fun _ => rfl) (fun v10 => ?_)
            refine ms_goto (tgt := 17) C dX9_fewest_68 (by decide) ?_
            exact ms_sub [2, 3, 4, 0] rfl (ih x2 v10)
          · refine ms_iload_n C dX9_fewest_63 4 rfl ?_
            refine ms_istore_n (L' := [(2, .int x3), (4, .int (1 : Int32)), (0, .ref (xad X 0 0)), (1, .int x1), (3, .int x3)]) C dX9_fewest_64 rfl (by decide) rfl ?_
            refine ms_iinc (L' := fun v11 => [(3, .int v11), (2, .int x3), (4, .int (1 : Int32)), (0, .ref (xad X 0 0)), (1, .int x1)]) C dX9_fewest_65 4 rfl (c := 1) (by decide) (by decide) (fun _ => rfl) (fun v11 => ?_)
            refine ms_goto (tgt := 17) C dX9_fewest_68 (by decide) ?_
            exact ms_sub [3, 4, 1, 0] rfl (ih x3 v11)
      · refine ms_iload_n C dX9_fewest_31 3 rfl ?_
        refine ms_callSi (As := [.int x3]) C dX9_fewest_32 (fun _ h => mtJ6_bitCount_0f7a4 (xl X) (xg X) n M x3 h) (va_cwS 1 C.2.2.1 gX9_fewest_J6_bitCount_0f7a4 rfl rfl rfl (by decide +kernel) ⟨Nat.le_of_ble_eq_true rfl, Nat.le_of_ble_eq_true rfl⟩) rfl rfl (Nat.le_of_ble_eq_true rfl) (fun v12 => ?_)
        refine ms_iload_n C dX9_fewest_35 2 rfl ?_
        refine ms_callSi (As := [.int x2]) C dX9_fewest_36 (fun _ h => mtJ6_bitCount_0f7a4 (xl X) (xg X) n M x2 h) (va_cwS 1 C.2.2.1 gX9_fewest_J6_bitCount_0f7a4 rfl rfl rfl (by decide +kernel) ⟨Nat.le_of_ble_eq_true rfl, Nat.le_of_ble_eq_true rfl⟩) rfl rfl (Nat.le_of_ble_eq_true rfl) (fun v13 => ?_)
        refine ms_icmp_ge (tgt := 46) C dX9_fewest_39 (by decide) (fun c14 => ?_) (fun c14 => ?_)
        · refine ms_iconst C (0 : Int32) dX9_fewest_46 (by decide) ?_
          refine ms_istore (L' := [(4, .int (0 : Int32)), (0, .ref (xad X 0 0)), (1, .int x1), (2, .int x2), (3, .int x3)]) C dX9_fewest_47 (by decide) rfl ?_
          refine ms_iload C dX9_fewest_49 0 rfl ?_
          refine ms_if_eq (tgt := 65) C dX9_fewest_51 (by decide) (fun c15 => ?_) (fun c15 => ?_)
          · refine ms_iinc (L' := fun v16 => [(3, .int v16), (4, .int (0 : Int32)), (0, .ref (xad X 0 0)), (1, .int x1), (2, .int x2)]) C dX9_fewest_65 4 rfl (c := 1) (by decide) (by decide) (fun _ => rfl) (fun v16 => ?_)
            refine ms_goto (tgt := 17) C dX9_fewest_68 (by decide) ?_
            exact ms_sub [2, 3, 4, 0] rfl (ih x2 v16)
          · refine ms_aload_n C dX9_fewest_54 1 rfl ?_
            refine ms_iload_n C dX9_fewest_55 4 rfl ?_
            refine ms_callVi (As := [.int x3]) C dX9_fewest_56 (fun _ h => mtX9_madeBy (xl X) (xg X) n M x3 h) (cwV 1 C.2.2.1 gX9_fewest_X9_madeBy rfl rfl rfl (by decide +kernel) ⟨Nat.le_of_ble_eq_true rfl, Nat.le_of_ble_eq_true rfl⟩) (zz0 (G := xg X) Nat.one_pos) (T := TX9) rfl rfl rfl (Nat.le_of_ble_eq_true rfl) (fun v17 => ?_)
            refine ms_iload_n C dX9_fewest_59 2 rfl ?_
            refine ms_icmp_lt (tgt := 65) C dX9_fewest_60 (by decide) (fun c18 => ?_) (fun c18 => ?_)
            · refine ms_iinc (L' := fun v19 => [(3, .int v19), (4, .int (0 : Int32)), (0, .ref (xad X 0 0)), (1, .int x1), (2, .int x2)]) C dX9_fewest_65 4 rfl (c := 1) (by decide) (by decide) (fun _ => rfl) (fun v19 => ?_)
              refine ms_goto (tgt := 17) C dX9_fewest_68 (by decide) ?_
              exact ms_sub [2, 3, 4, 0] rfl (ih x2 v19)
            · refine ms_iload_n C dX9_fewest_63 4 rfl ?_
              refine ms_istore_n (L' := [(2, .int x3), (4, .int (0 : Int32)), (0, .ref (xad X 0 0)), (1, .int x1), (3, .int x3)]) C dX9_fewest_64 rfl (by decide) rfl ?_
              refine ms_iinc (L' := fun v20 => [(3, .int v20), (2, .int x3), (4, .int (0 : Int32)), (0, .ref (xad X 0 0)), (1, .int x1)]) C dX9_fewest_65 4 rfl (c := 1) (by decide) (by decide) (fun _ => rfl) (fun v20 => ?_)
              refine ms_goto (tgt := 17) C dX9_fewest_68 (by decide) ?_
              exact ms_sub [3, 4, 1, 0] rfl (ih x3 v20)
        · refine ms_iconst C (1 : Int32) dX9_fewest_42 (by decide) ?_
          refine ms_goto (tgt := 47) C dX9_fewest_43 (by decide) ?_
          refine ms_istore (L' := [(4, .int (1 : Int32)), (0, .ref (xad X 0 0)), (1, .int x1), (2, .int x2), (3, .int x3)]) C dX9_fewest_47 (by decide) rfl ?_
          refine ms_iload C dX9_fewest_49 0 rfl ?_
          refine ms_if_eq (tgt := 65) C dX9_fewest_51 (by decide) (fun c21 => ?_) (fun c21 => ?_)
          · refine ms_iinc (L' := fun v22 => [(3, .int v22), (4, .int (1 : Int32)), (0, .ref (xad X 0 0)), (1, .int x1), (2, .int x2)]) C dX9_fewest_65 4 rfl (c := 1) (by decide) (by decide) (fun _ => rfl) (fun v22 => ?_)
            refine ms_goto (tgt := 17) C dX9_fewest_68 (by decide) ?_
            exact ms_sub [2, 3, 4, 0] rfl (ih x2 v22)
          · refine ms_aload_n C dX9_fewest_54 1 rfl ?_
            refine ms_iload_n C dX9_fewest_55 4 rfl ?_
            refine ms_callVi (As := [.int x3]) C dX9_fewest_56 (fun _ h => mtX9_madeBy (xl X) (xg X) n M x3 h) (cwV 1 C.2.2.1 gX9_fewest_X9_madeBy rfl rfl rfl (by decide +kernel) ⟨Nat.le_of_ble_eq_true rfl, Nat.le_of_ble_eq_true rfl⟩) (zz0 (G := xg X) Nat.one_pos) (T := TX9) rfl rfl rfl (Nat.le_of_ble_eq_true rfl) (fun v23 => ?_)
            refine ms_iload_n C dX9_fewest_59 2 rfl ?_
            refine ms_icmp_lt (tgt := 65) C dX9_fewest_60 (by decide) (fun c24 => ?_) (fun c24 => ?_)
            · refine ms_iinc (L' := fun v25 => [(3, .int v25), (4, .int (1 : Int32)), (0, .ref (xad X 0 0)), (1, .int x1), (2, .int x2)]) C dX9_fewest_65 4 rfl (c := 1) (by decide) (by decide) (fun _ => rfl) (fun v25 => ?_)
              refine ms_goto (tgt := 17) C dX9_fewest_68 (by decide) ?_
              exact ms_sub [2, 3, 4, 0] rfl (ih x2 v25)
            · refine ms_iload_n C dX9_fewest_63 4 rfl ?_
              refine ms_istore_n (L' := [(2, .int x3), (4, .int (1 : Int32)), (0, .ref (xad X 0 0)), (1, .int x1), (3, .int x3)]) C dX9_fewest_64 rfl (by decide) rfl ?_
              refine ms_iinc (L' := fun v26 => [(3, .int v26), (2, .int x3), (4, .int (1 : Int32)), (0, .ref (xad X 0 0)), (1, .int x1)]) C dX9_fewest_65 4 rfl (c := 1) (by decide) (by decide) (fun _ => rfl) (fun v26 => ?_)
              refine ms_goto (tgt := 17) C dX9_fewest_68 (by decide) ?_
              exact ms_sub [3, 4, 1, 0] rfl (ih x3 v26)
set_option maxRecDepth 100000 in
set_option maxHeartbeats 4000000 in
theorem mtX9_fewest (l : Launch) (G : mh_G) (n : Nat) (M : mh_M) (a0 : Int32) {z : Int32} (ho : fX9_fewest n M a0 = some z) : Met l yX9_fewest wsX9_fewest rmX9_fewest (mh_Pc G M [.ref (G.2.2 0 0), .int a0]) (mh_Q G M (some (.int z))) 0 0 (mh_dom G) := by
  refine mh_met (cc := cX9_fewest) (maxL := 5) (ret := (some .int)) (by decide) rfl (Nat.le_of_ble_eq_true rfl) ho ?_
  rintro X rfl rfl C hR
  show mh_W X rmX9_fewest 5 _ z M 0 [(0, .ref (xad X 0 0)), (1, .int a0)] []
  replace C : mh_C X rmX9_fewest cX9_fewest wsX9_fewest RX9 5 := C
  unfold fX9_fewest
  refine ms_iload_n C dX9_fewest_0 1 rfl ?_
  refine ms_iconst C (1 : Int32) dX9_fewest_1 (by decide) ?_
  refine ms_bipush C (12 : Int32) dX9_fewest_2 (by decide) ?_
  refine ms_callSi (As := [.int a0, .int (1 : Int32), .int (12 : Int32)]) C dX9_fewest_4 (fun _ h => mtX9_isIn (xl X) (xg X) n M a0 (1 : Int32) (12 : Int32) h) (va_cwS 3 C.2.2.1 gX9_fewest_X9_isIn rfl rfl rfl (by decide +kernel) ⟨Nat.le_of_ble_eq_true rfl, Nat.le_of_ble_eq_true rfl⟩) rfl rfl (Nat.le_of_ble_eq_true rfl) (fun v1 => ?_)
  refine ms_if_ne (tgt := 12) C dX9_fewest_7 (by decide) (fun c2 => ?_) (fun c2 => ?_)
  · refine ms_bipush C (-4 : Int32) dX9_fewest_12 (by decide) ?_
    refine ms_istore_n (L' := [(2, .int (-4 : Int32)), (0, .ref (xad X 0 0)), (1, .int a0)]) C dX9_fewest_14 rfl (by decide) rfl ?_
    refine ms_iconst C (0 : Int32) dX9_fewest_15 (by decide) ?_
    refine ms_istore_n (L' := [(3, .int (0 : Int32)), (2, .int (-4 : Int32)), (0, .ref (xad X 0 0)), (1, .int a0)]) C dX9_fewest_16 rfl (by decide) rfl ?_
    exact ms_sub [2, 3, 1, 0] rfl (mtX9_fewest_L17 (n := n) M a0 C hR n (-4 : Int32) (0 : Int32))
  · refine ms_iconst C (-1 : Int32) dX9_fewest_10 (by decide) ?_
    exact ms_ireti C hR rfl rfl dX9_fewest_11
def rmX9_most : Room := { frames := 2, cells := 0, slots := 0, locals := 44 }
theorem inX9_X9_most : ∀ w ∈ wsX90, w ∈ wsX9_most := by decide +kernel
set_option maxRecDepth 100000 in
set_option maxHeartbeats 4000000 in
theorem mtX9_most_L21 {X : mh_X} {n : Nat} {z : Int32} (M : mh_M) (x1 : Int32) (C : mh_C X rmX9_most cX9_most wsX9_most RX9 6) (hR : mh_R X (some .int) M (some (.int z))) : ∀ (k : Nat) (x2 : Int32) (x3 : Int32) (x4 : Int32), mh_W X rmX9_most 6 (itr3 (fX9_most_L21 n M x1) k x2 x3 x4) z M 21 [(0, .ref (xad X 0 0)), (1, .int x1), (2, .int x2), (3, .int x3), (4, .int x4)] [] := by
  intro k
  induction k with
  | zero =>
    intro x2 x3 x4
    exact ms_none
  | succ k ih =>
    intro x2 x3 x4
    show mh_W X rmX9_most 6 (fX9_most_L21 n M x1 (itr3 (fX9_most_L21 n M x1) k) x2 x3 x4) z M 21 [(0, .ref (xad X 0 0)), (1, .int x1), (2, .int x2), (3, .int x3), (4, .int x4)] []
    generalize itr3 (fX9_most_L21 n M x1) k = rec at ih ⊢
    unfold fX9_most_L21
    refine ms_iload C dX9_most_21 4 rfl ?_
    refine ms_aload_n C dX9_most_23 0 rfl ?_
    refine ms_callVi (As := []) C dX9_most_24 (fun _ h => mtX9_allKinds (xl X) (xg X) n M h) (cwV 0 C.2.2.1 gX9_most_X9_allKinds rfl rfl rfl (by decide +kernel) ⟨Nat.le_of_ble_eq_true rfl, Nat.le_of_ble_eq_true rfl⟩) (zz0 (G := xg X) Nat.one_pos) (T := TX9) rfl rfl rfl (Nat.le_of_ble_eq_true rfl) (fun v4 => ?_)
    refine ms_icmp_gt (tgt := 69) C dX9_most_27 (by decide) (fun c5 => ?_) (fun c5 => ?_)
    · refine ms_iload_n C dX9_most_69 2 rfl ?_
      exact ms_ireti C hR rfl rfl dX9_most_70
    · refine ms_iload C dX9_most_30 4 rfl ?_
      refine ms_callSi (As := [.int x4]) C dX9_most_32 (fun _ h => mtJ6_bitCount_0f7a4 (xl X) (xg X) n M x4 h) (va_cwS 1 C.2.2.1 gX9_most_J6_bitCount_0f7a4 rfl rfl rfl (by decide +kernel) ⟨Nat.le_of_ble_eq_true rfl, Nat.le_of_ble_eq_true rfl⟩) rfl rfl (Nat.le_of_ble_eq_true rfl) (fun v6 => ?_)
      refine ms_iload_n C dX9_most_35 1 rfl ?_
      refine ms_icmp_ne (tgt := 48) C dX9_most_36 (by decide) (fun c7 => ?_) (fun c7 => ?_)
      · refine ms_iconst C (-1 : Int32) dX9_most_48 (by decide) ?_
        refine ms_istore (L' := [(5, .int (-1 : Int32)), (0, .ref (xad X 0 0)), (1, .int x1), (2, .int x2), (3, .int x3), (4, .int x4)]) C dX9_most_49 (by decide) rfl ?_
        refine ms_iload C dX9_most_51 0 rfl ?_
        refine ms_iload_n C dX9_most_53 4 rfl ?_
        refine ms_icmp_le (tgt := 63) C dX9_most_54 (by decide) (fun c8 => ?_) (fun c8 => ?_)
        · refine ms_iinc (L' := fun v9 => [(4, .int v9), (5, .int (-1 : Int32)), (0, .ref (xad X 0 0)), (1, .int x1), (2, .int x2), (3, .int x3)]) C dX9_most_63 5 rfl (c := 1) (by decide) (by decide) (fun _ => rfl) (fun v9 => ?_)
          refine ms_goto (tgt := 21) C dX9_most_66 (by decide) ?_
          exact ms_sub [2, 3, 4, 5, 0] rfl (ih x2 x3 v9)
        · refine ms_iload C dX9_most_57 5 rfl ?_
          refine ms_istore_n (L' := [(2, .int x4), (5, .int (-1 : Int32)), (0, .ref (xad X 0 0)), (1, .int x1), (3, .int x3), (4, .int x4)]) C dX9_most_59 rfl (by decide) rfl ?_
          refine ms_iload C dX9_most_60 1 rfl ?_
          refine ms_istore_n (L' := [(3, .int (-1 : Int32)), (2, .int x4), (5, .int (-1 : Int32)), (0, .ref (xad X 0 0)), (1, .int x1), (4, .int x4)]) C dX9_most_62 rfl (by decide) rfl ?_
          refine ms_iinc (L' := fun v10 => [(4, .int v10), (3, .int (-1 : Int32)), (2, .int x4), (5, .int (-1 : Int32)), (0, .ref (xad X 0 0)), (1, .int x1)]) C dX9_most_63 5 rfl (c := 1) (by decide) (by decide) (fun _ => rfl) (fun v10 => ?_)
          refine ms_goto (tgt := 21) C dX9_most_66 (by decide) ?_
          exact ms_sub [4, 5, 2, 1, 0] rfl (ih x4 (-1 : Int32) v10)
      · refine ms_aload_n C dX9_most_39 0 rfl ?_
        refine ms_iload C dX9_most_40 4 rfl ?_
        refine ms_callVi (As := [.int x4]) C dX9_most_42 (fun _ h => mtX9_madeBy (xl X) (xg X) n M x4 h) (cwV 1 C.2.2.1 gX9_most_X9_madeBy rfl rfl rfl (by decide +kernel) ⟨Nat.le_of_ble_eq_true rfl, Nat.le_of_ble_eq_true rfl⟩) (zz0 (G := xg X) Nat.one_pos) (T := TX9) rfl rfl rfl (Nat.le_of_ble_eq_true rfl) (fun v11 => ?_)
        refine ms_goto (tgt := 49) C dX9_most_45 (by decide) ?_
        refine ms_istore (L' := [(5, .int v11), (0, .ref (xad X 0 0)), (1, .int x1), (2, .int x2), (3, .int x3), (4, .int x4)]) C dX9_most_49 (by decide) rfl ?_
        refine ms_iload C dX9_most_51 0 rfl ?_
        refine ms_iload_n C dX9_most_53 4 rfl ?_
        refine ms_icmp_le (tgt := 63) C dX9_most_54 (by decide) (fun c12 => ?_) (fun c12 => ?_)
        · refine ms_iinc (L' := fun v13 => [(4, .int v13), (5, .int v11), (0, .ref (xad X 0 0)), (1, .int x1), (2, .int x2), (3, .int x3)]) C dX9_most_63 5 rfl (c := 1) (by decide) (by decide) (fun _ => rfl) (fun v13 => ?_)
          refine ms_goto (tgt := 21) C dX9_most_66 (by decide) ?_
          exact ms_sub [2, 3, 4, 5, 0] rfl (ih x2 x3 v13)
        · refine ms_iload C dX9_most_57 5 rfl ?_
          refine ms_istore_n (L' := [(2, .int x4), (5, .int v11), (0, .ref (xad X 0 0)), (1, .int x1), (3, .int x3), (4, .int x4)]) C dX9_most_59 rfl (by decide) rfl ?_
          refine ms_iload C dX9_most_60 1 rfl ?_
          refine ms_istore_n (L' := [(3, .int v11), (2, .int x4), (5, .int v11), (0, .ref (xad X 0 0)), (1, .int x1), (4, .int x4)]) C dX9_most_62 rfl (by decide) rfl ?_
          refine ms_iinc (L' := fun v14 => [(4, .int v14), (3, .int v11), (2, .int x4), (5, .int v11), (0, .ref (xad X 0 0)), (1, .int x1)]) C dX9_most_63 5 rfl (c := 1) (by decide) (by decide) (fun _ => rfl) (fun v14 => ?_)
          refine ms_goto (tgt := 21) C dX9_most_66 (by decide) ?_
          exact ms_sub [4, 5, 2, 1, 0] rfl (ih x4 v11 v14)
set_option maxRecDepth 100000 in
set_option maxHeartbeats 4000000 in
theorem mtX9_most (l : Launch) (G : mh_G) (n : Nat) (M : mh_M) (a0 : Int32) {z : Int32} (ho : fX9_most n M a0 = some z) : Met l yX9_most wsX9_most rmX9_most (mh_Pc G M [.ref (G.2.2 0 0), .int a0]) (mh_Q G M (some (.int z))) 0 0 (mh_dom G) := by
  refine mh_met (cc := cX9_most) (maxL := 6) (ret := (some .int)) (by decide) rfl (Nat.le_of_ble_eq_true rfl) ho ?_
  rintro X rfl rfl C hR
  show mh_W X rmX9_most 6 _ z M 0 [(0, .ref (xad X 0 0)), (1, .int a0)] []
  replace C : mh_C X rmX9_most cX9_most wsX9_most RX9 6 := C
  unfold fX9_most
  refine ms_iload_n C dX9_most_0 1 rfl ?_
  refine ms_iconst C (0 : Int32) dX9_most_1 (by decide) ?_
  refine ms_aload_n C dX9_most_2 0 rfl ?_
  refine ms_geti C dX9_most_3 (zz0 (G := xg X) Nat.one_pos) (k := 1) (Nat.le_of_ble_eq_true rfl) rfl (Cn := RX9) (T := TX9) rfl inX9_X9_most rfl (by decide +kernel) (fun v1 => ?_)
  refine ms_callSi (As := [.int a0, .int (0 : Int32), .int v1]) C dX9_most_6 (fun _ h => mtX9_isIn (xl X) (xg X) n M a0 (0 : Int32) v1 h) (va_cwS 3 C.2.2.1 gX9_most_X9_isIn rfl rfl rfl (by decide +kernel) ⟨Nat.le_of_ble_eq_true rfl, Nat.le_of_ble_eq_true rfl⟩) rfl rfl (Nat.le_of_ble_eq_true rfl) (fun v2 => ?_)
  refine ms_if_ne (tgt := 14) C dX9_most_9 (by decide) (fun c3 => ?_) (fun c3 => ?_)
  · refine ms_iconst C (0 : Int32) dX9_most_14 (by decide) ?_
    refine ms_istore_n (L' := [(2, .int (0 : Int32)), (0, .ref (xad X 0 0)), (1, .int a0)]) C dX9_most_15 rfl (by decide) rfl ?_
    refine ms_iconst C (-1 : Int32) dX9_most_16 (by decide) ?_
    refine ms_istore_n (L' := [(3, .int (-1 : Int32)), (2, .int (0 : Int32)), (0, .ref (xad X 0 0)), (1, .int a0)]) C dX9_most_17 rfl (by decide) rfl ?_
    refine ms_iconst C (0 : Int32) dX9_most_18 (by decide) ?_
    refine ms_istore (L' := [(4, .int (0 : Int32)), (3, .int (-1 : Int32)), (2, .int (0 : Int32)), (0, .ref (xad X 0 0)), (1, .int a0)]) C dX9_most_19 (by decide) rfl ?_
    exact ms_sub [3, 4, 2, 1, 0] rfl (mtX9_most_L21 (n := n) M a0 C hR n (0 : Int32) (-1 : Int32) (0 : Int32))
  · refine ms_iconst C (-1 : Int32) dX9_most_12 (by decide) ?_
    exact ms_ireti C hR rfl rfl dX9_most_13
def rmX9_priceRule : Room := { frames := 1, cells := 0, slots := 0, locals := 22 }
theorem inX5_X9_priceRule : ∀ w ∈ wsX50, w ∈ wsX9_priceRule := by decide +kernel
theorem inX9_X9_priceRule : ∀ w ∈ wsX90, w ∈ wsX9_priceRule := by decide +kernel
set_option maxRecDepth 100000 in
set_option maxHeartbeats 4000000 in
theorem mtX9_priceRule (l : Launch) (G : mh_G) (n : Nat) (M : mh_M) (a0 : Int32) (a1 : Int32) (a2 : Int32) (a3 : Int32) {z : mh_M × Int32} (ho : fX9_priceRule n M a0 a1 a2 a3 = some z) : Met l yX9_priceRule wsX9_priceRule rmX9_priceRule (mh_Pc G M [.ref (G.2.2 0 0), .int a0, .int a1, .int a2, .int a3]) (mh_Q G z.1 (some (.int z.2))) 0 0 (mh_dom G) := by
  refine mh_met (cc := cX9_priceRule) (maxL := 7) (ret := (some .int)) (by decide) rfl (Nat.le_of_ble_eq_true rfl) ho ?_
  rintro X rfl rfl C hR
  show mh_W X rmX9_priceRule 7 _ z M 0 [(0, .ref (xad X 0 0)), (1, .int a0), (2, .int a1), (3, .int a2), (4, .int a3)] []
  replace C : mh_C X rmX9_priceRule cX9_priceRule wsX9_priceRule RX9 7 := C
  unfold fX9_priceRule
  refine ms_iload_n C dX9_priceRule_0 2 rfl ?_
  refine ms_iconst C (0 : Int32) dX9_priceRule_1 (by decide) ?_
  refine ms_sipush C (1439 : Int32) dX9_priceRule_2 (by decide) ?_
  refine ms_callSi (As := [.int a1, .int (0 : Int32), .int (1439 : Int32)]) C dX9_priceRule_5 (fun _ h => mtX9_isIn (xl X) (xg X) n M a1 (0 : Int32) (1439 : Int32) h) (va_cwS 3 C.2.2.1 gX9_priceRule_X9_isIn rfl rfl rfl (by decide +kernel) ⟨Nat.le_of_ble_eq_true rfl, Nat.le_of_ble_eq_true rfl⟩) rfl rfl (Nat.le_of_ble_eq_true rfl) (fun v1 => ?_)
  refine ms_if_eq (tgt := 26) C dX9_priceRule_8 (by decide) (fun c2 => ?_) (fun c2 => ?_)
  · refine ms_iconst C (0 : Int32) dX9_priceRule_26 (by decide) ?_
    refine ms_istore (L' := [(5, .int (0 : Int32)), (0, .ref (xad X 0 0)), (1, .int a0), (2, .int a1), (3, .int a2), (4, .int a3)]) C dX9_priceRule_27 (by decide) rfl ?_
    refine ms_iload_n C dX9_priceRule_29 2 rfl ?_
    refine ms_iconst C (0 : Int32) dX9_priceRule_30 (by decide) ?_
    refine ms_bipush C (127 : Int32) dX9_priceRule_31 (by decide) ?_
    refine ms_callSi (As := [.int a0, .int (0 : Int32), .int (127 : Int32)]) C dX9_priceRule_33 (fun _ h => mtX9_isIn (xl X) (xg X) n M a0 (0 : Int32) (127 : Int32) h) (va_cwS 3 C.2.2.1 gX9_priceRule_X9_isIn rfl rfl rfl (by decide +kernel) ⟨Nat.le_of_ble_eq_true rfl, Nat.le_of_ble_eq_true rfl⟩) rfl rfl (Nat.le_of_ble_eq_true rfl) (fun v3 => ?_)
    refine ms_if_eq (tgt := 56) C dX9_priceRule_36 (by decide) (fun c4 => ?_) (fun c4 => ?_)
    · refine ms_iconst C (-1 : Int32) dX9_priceRule_56 (by decide) ?_
      exact ms_iretm C hR rfl dX9_priceRule_57
    · refine ms_iload C dX9_priceRule_39 0 rfl ?_
      refine ms_if_eq (tgt := 56) C dX9_priceRule_41 (by decide) (fun c5 => ?_) (fun c5 => ?_)
      · refine ms_iconst C (-1 : Int32) dX9_priceRule_56 (by decide) ?_
        exact ms_iretm C hR rfl dX9_priceRule_57
      · refine ms_iload C dX9_priceRule_44 5 rfl ?_
        refine ms_iconst C (0 : Int32) dX9_priceRule_46 (by decide) ?_
        refine ms_sipush C (200 : Int32) dX9_priceRule_47 (by decide) ?_
        refine ms_callSi (As := [.int a3, .int (0 : Int32), .int (200 : Int32)]) C dX9_priceRule_50 (fun _ h => mtX9_isIn (xl X) (xg X) n M a3 (0 : Int32) (200 : Int32) h) (va_cwS 3 C.2.2.1 gX9_priceRule_X9_isIn rfl rfl rfl (by decide +kernel) ⟨Nat.le_of_ble_eq_true rfl, Nat.le_of_ble_eq_true rfl⟩) rfl rfl (Nat.le_of_ble_eq_true rfl) (fun v6 => ?_)
        refine ms_if_ne (tgt := 58) C dX9_priceRule_53 (by decide) (fun c7 => ?_) (fun c7 => ?_)
        · refine ms_aload_n C dX9_priceRule_58 1 rfl ?_
          refine ms_geti C dX9_priceRule_59 (zz0 (G := xg X) Nat.one_pos) (k := 11) (Nat.le_of_ble_eq_true rfl) rfl (Cn := RX9) (T := TX9) rfl inX9_X9_priceRule rfl (by decide +kernel) (fun v8 => ?_)
          refine ms_bipush C (12 : Int32) dX9_priceRule_62 (by decide) ?_
          refine ms_icmp_lt (tgt := 70) C dX9_priceRule_64 (by decide) (fun c9 => ?_) (fun c9 => ?_)
          · refine ms_aload_n C dX9_priceRule_70 1 rfl ?_
            refine ms_getr C dX9_priceRule_71 (zz0 (G := xg X) Nat.one_pos) (k := 10) (Nat.le_of_ble_eq_true rfl) (b := xad X 11 0) rfl (Cn := RX9) (T := TX9) rfl inX9_X9_priceRule rfl (by decide +kernel) ?_
            refine ms_aload_n C dX9_priceRule_74 1 rfl ?_
            refine ms_geti C dX9_priceRule_75 (zz0 (G := xg X) Nat.one_pos) (k := 11) (Nat.le_of_ble_eq_true rfl) rfl (Cn := RX9) (T := TX9) rfl inX9_X9_priceRule rfl (by decide +kernel) (fun v10 => ?_)
            refine ms_ald C dX9_priceRule_78 (zz11 (G := xg X) Nat.one_pos) rfl rfl (fun q11 hq11 => ?_)
            refine ms_astore (L' := [(6, .ref (xad X 31 q11)), (5, .int (0 : Int32)), (0, .ref (xad X 0 0)), (1, .int a0), (2, .int a1), (3, .int a2), (4, .int a3)]) C dX9_priceRule_79 (by decide) rfl ?_
            refine ms_aload C dX9_priceRule_81 0 rfl ?_
            refine ms_iload_n C dX9_priceRule_83 3 rfl ?_
            refine ms_puti C dX9_priceRule_84 tyX5 tyX5_ok nmX5 (zz31 (G := xg X) hq11) (k := 0) (Nat.le_of_ble_eq_true rfl) rfl (Cn := RX5) (T := TX5) rfl inX5_X9_priceRule rfl (by decide +kernel) rfl (by decide +kernel) (fun M12 => ?_)
            refine ms_aload C dX9_priceRule_87 0 rfl ?_
            refine ms_iload_n C dX9_priceRule_89 4 rfl ?_
            refine ms_puti C dX9_priceRule_90 tyX5 tyX5_ok nmX5 (zz31 (G := xg X) hq11) (k := 1) (Nat.le_of_ble_eq_true rfl) rfl (Cn := RX5) (T := TX5) rfl inX5_X9_priceRule rfl (by decide +kernel) rfl (by decide +kernel) (fun M13 => ?_)
            refine ms_aload C dX9_priceRule_93 0 rfl ?_
            refine ms_iload_n C dX9_priceRule_95 5 rfl ?_
            refine ms_puti C dX9_priceRule_96 tyX5 tyX5_ok nmX5 (zz31 (G := xg X) hq11) (k := 2) (Nat.le_of_ble_eq_true rfl) rfl (Cn := RX5) (T := TX5) rfl inX5_X9_priceRule rfl (by decide +kernel) rfl (by decide +kernel) (fun M14 => ?_)
            refine ms_aload C dX9_priceRule_99 0 rfl ?_
            refine ms_iload C dX9_priceRule_101 6 rfl ?_
            refine ms_puti C dX9_priceRule_103 tyX5 tyX5_ok nmX5 (zz31 (G := xg X) hq11) (k := 3) (Nat.le_of_ble_eq_true rfl) rfl (Cn := RX5) (T := TX5) rfl inX5_X9_priceRule rfl (by decide +kernel) rfl (by decide +kernel) (fun M15 => ?_)
            refine ms_aload_n C dX9_priceRule_106 2 rfl ?_
            refine ms_dup C dX9_priceRule_107 rfl ?_
            refine ms_geti C dX9_priceRule_108 (zz0 (G := xg X) Nat.one_pos) (k := 11) (Nat.le_of_ble_eq_true rfl) rfl (Cn := RX9) (T := TX9) rfl inX9_X9_priceRule rfl (by decide +kernel) (fun v16 => ?_)
            refine ms_iconst C (1 : Int32) dX9_priceRule_111 (by decide) ?_
            refine ms_iadd C dX9_priceRule_112 (fun v17 => ?_)
            refine ms_puti C dX9_priceRule_113 tyX9 tyX9_ok nmX9 (zz0 (G := xg X) Nat.one_pos) (k := 11) (Nat.le_of_ble_eq_true rfl) rfl (Cn := RX9) (T := TX9) rfl inX9_X9_priceRule rfl (by decide +kernel) rfl (by decide +kernel) (fun M18 => ?_)
            refine ms_aload_n C dX9_priceRule_116 2 rfl ?_
            refine ms_geti C dX9_priceRule_117 (zz0 (G := xg X) Nat.one_pos) (k := 11) (Nat.le_of_ble_eq_true rfl) rfl (Cn := RX9) (T := TX9) rfl inX9_X9_priceRule rfl (by decide +kernel) (fun v19 => ?_)
            exact ms_iretm C hR rfl dX9_priceRule_120
          · refine ms_bipush C (-3 : Int32) dX9_priceRule_67 (by decide) ?_
            exact ms_iretm C hR rfl dX9_priceRule_69
        · refine ms_iconst C (-1 : Int32) dX9_priceRule_56 (by decide) ?_
          exact ms_iretm C hR rfl dX9_priceRule_57
  · refine ms_iload_n C dX9_priceRule_11 3 rfl ?_
    refine ms_iconst C (0 : Int32) dX9_priceRule_12 (by decide) ?_
    refine ms_sipush C (1439 : Int32) dX9_priceRule_13 (by decide) ?_
    refine ms_callSi (As := [.int a2, .int (0 : Int32), .int (1439 : Int32)]) C dX9_priceRule_16 (fun _ h => mtX9_isIn (xl X) (xg X) n M a2 (0 : Int32) (1439 : Int32) h) (va_cwS 3 C.2.2.1 gX9_priceRule_X9_isIn rfl rfl rfl (by decide +kernel) ⟨Nat.le_of_ble_eq_true rfl, Nat.le_of_ble_eq_true rfl⟩) rfl rfl (Nat.le_of_ble_eq_true rfl) (fun v20 => ?_)
    refine ms_if_eq (tgt := 26) C dX9_priceRule_19 (by decide) (fun c21 => ?_) (fun c21 => ?_)
    · refine ms_iconst C (0 : Int32) dX9_priceRule_26 (by decide) ?_
      refine ms_istore (L' := [(5, .int (0 : Int32)), (0, .ref (xad X 0 0)), (1, .int a0), (2, .int a1), (3, .int a2), (4, .int a3)]) C dX9_priceRule_27 (by decide) rfl ?_
      refine ms_iload_n C dX9_priceRule_29 2 rfl ?_
      refine ms_iconst C (0 : Int32) dX9_priceRule_30 (by decide) ?_
      refine ms_bipush C (127 : Int32) dX9_priceRule_31 (by decide) ?_
      refine ms_callSi (As := [.int a0, .int (0 : Int32), .int (127 : Int32)]) C dX9_priceRule_33 (fun _ h => mtX9_isIn (xl X) (xg X) n M a0 (0 : Int32) (127 : Int32) h) (va_cwS 3 C.2.2.1 gX9_priceRule_X9_isIn rfl rfl rfl (by decide +kernel) ⟨Nat.le_of_ble_eq_true rfl, Nat.le_of_ble_eq_true rfl⟩) rfl rfl (Nat.le_of_ble_eq_true rfl) (fun v22 => ?_)
      refine ms_if_eq (tgt := 56) C dX9_priceRule_36 (by decide) (fun c23 => ?_) (fun c23 => ?_)
      · refine ms_iconst C (-1 : Int32) dX9_priceRule_56 (by decide) ?_
        exact ms_iretm C hR rfl dX9_priceRule_57
      · refine ms_iload C dX9_priceRule_39 0 rfl ?_
        refine ms_if_eq (tgt := 56) C dX9_priceRule_41 (by decide) (fun c24 => ?_) (fun c24 => ?_)
        · refine ms_iconst C (-1 : Int32) dX9_priceRule_56 (by decide) ?_
          exact ms_iretm C hR rfl dX9_priceRule_57
        · refine ms_iload C dX9_priceRule_44 5 rfl ?_
          refine ms_iconst C (0 : Int32) dX9_priceRule_46 (by decide) ?_
          refine ms_sipush C (200 : Int32) dX9_priceRule_47 (by decide) ?_
          refine ms_callSi (As := [.int a3, .int (0 : Int32), .int (200 : Int32)]) C dX9_priceRule_50 (fun _ h => mtX9_isIn (xl X) (xg X) n M a3 (0 : Int32) (200 : Int32) h) (va_cwS 3 C.2.2.1 gX9_priceRule_X9_isIn rfl rfl rfl (by decide +kernel) ⟨Nat.le_of_ble_eq_true rfl, Nat.le_of_ble_eq_true rfl⟩) rfl rfl (Nat.le_of_ble_eq_true rfl) (fun v25 => ?_)
          refine ms_if_ne (tgt := 58) C dX9_priceRule_53 (by decide) (fun c26 => ?_) (fun c26 => ?_)
          · refine ms_aload_n C dX9_priceRule_58 1 rfl ?_
            refine ms_geti C dX9_priceRule_59 (zz0 (G := xg X) Nat.one_pos) (k := 11) (Nat.le_of_ble_eq_true rfl) rfl (Cn := RX9) (T := TX9) rfl inX9_X9_priceRule rfl (by decide +kernel) (fun v27 => ?_)
            refine ms_bipush C (12 : Int32) dX9_priceRule_62 (by decide) ?_
            refine ms_icmp_lt (tgt := 70) C dX9_priceRule_64 (by decide) (fun c28 => ?_) (fun c28 => ?_)
            · refine ms_aload_n C dX9_priceRule_70 1 rfl ?_
              refine ms_getr C dX9_priceRule_71 (zz0 (G := xg X) Nat.one_pos) (k := 10) (Nat.le_of_ble_eq_true rfl) (b := xad X 11 0) rfl (Cn := RX9) (T := TX9) rfl inX9_X9_priceRule rfl (by decide +kernel) ?_
              refine ms_aload_n C dX9_priceRule_74 1 rfl ?_
              refine ms_geti C dX9_priceRule_75 (zz0 (G := xg X) Nat.one_pos) (k := 11) (Nat.le_of_ble_eq_true rfl) rfl (Cn := RX9) (T := TX9) rfl inX9_X9_priceRule rfl (by decide +kernel) (fun v29 => ?_)
              refine ms_ald C dX9_priceRule_78 (zz11 (G := xg X) Nat.one_pos) rfl rfl (fun q30 hq30 => ?_)
              refine ms_astore (L' := [(6, .ref (xad X 31 q30)), (5, .int (0 : Int32)), (0, .ref (xad X 0 0)), (1, .int a0), (2, .int a1), (3, .int a2), (4, .int a3)]) C dX9_priceRule_79 (by decide) rfl ?_
              refine ms_aload C dX9_priceRule_81 0 rfl ?_
              refine ms_iload_n C dX9_priceRule_83 3 rfl ?_
              refine ms_puti C dX9_priceRule_84 tyX5 tyX5_ok nmX5 (zz31 (G := xg X) hq30) (k := 0) (Nat.le_of_ble_eq_true rfl) rfl (Cn := RX5) (T := TX5) rfl inX5_X9_priceRule rfl (by decide +kernel) rfl (by decide +kernel) (fun M31 => ?_)
              refine ms_aload C dX9_priceRule_87 0 rfl ?_
              refine ms_iload_n C dX9_priceRule_89 4 rfl ?_
              refine ms_puti C dX9_priceRule_90 tyX5 tyX5_ok nmX5 (zz31 (G := xg X) hq30) (k := 1) (Nat.le_of_ble_eq_true rfl) rfl (Cn := RX5) (T := TX5) rfl inX5_X9_priceRule rfl (by decide +kernel) rfl (by decide +kernel) (fun M32 => ?_)
              refine ms_aload C dX9_priceRule_93 0 rfl ?_
              refine ms_iload_n C dX9_priceRule_95 5 rfl ?_
              refine ms_puti C dX9_priceRule_96 tyX5 tyX5_ok nmX5 (zz31 (G := xg X) hq30) (k := 2) (Nat.le_of_ble_eq_true rfl) rfl (Cn := RX5) (T := TX5) rfl inX5_X9_priceRule rfl (by decide +kernel) rfl (by decide +kernel) (fun M33 => ?_)
              refine ms_aload C dX9_priceRule_99 0 rfl ?_
              refine ms_iload C dX9_priceRule_101 6 rfl ?_
              refine ms_puti C dX9_priceRule_103 tyX5 tyX5_ok nmX5 (zz31 (G := xg X) hq30) (k := 3) (Nat.le_of_ble_eq_true rfl) rfl (Cn := RX5) (T := TX5) rfl inX5_X9_priceRule rfl (by decide +kernel) rfl (by decide +kernel) (fun M34 => ?_)
              refine ms_aload_n C dX9_priceRule_106 2 rfl ?_
              refine ms_dup C dX9_priceRule_107 rfl ?_
              refine ms_geti C dX9_priceRule_108 (zz0 (G := xg X) Nat.one_pos) (k := 11) (Nat.le_of_ble_eq_true rfl) rfl (Cn := RX9) (T := TX9) rfl inX9_X9_priceRule rfl (by decide +kernel) (fun v35 => ?_)
              refine ms_iconst C (1 : Int32) dX9_priceRule_111 (by decide) ?_
              refine ms_iadd C dX9_priceRule_112 (fun v36 => ?_)
              refine ms_puti C dX9_priceRule_113 tyX9 tyX9_ok nmX9 (zz0 (G := xg X) Nat.one_pos) (k := 11) (Nat.le_of_ble_eq_true rfl) rfl (Cn := RX9) (T := TX9) rfl inX9_X9_priceRule rfl (by decide +kernel) rfl (by decide +kernel) (fun M37 => ?_)
              refine ms_aload_n C dX9_priceRule_116 2 rfl ?_
              refine ms_geti C dX9_priceRule_117 (zz0 (G := xg X) Nat.one_pos) (k := 11) (Nat.le_of_ble_eq_true rfl) rfl (Cn := RX9) (T := TX9) rfl inX9_X9_priceRule rfl (by decide +kernel) (fun v38 => ?_)
              exact ms_iretm C hR rfl dX9_priceRule_120
            · refine ms_bipush C (-3 : Int32) dX9_priceRule_67 (by decide) ?_
              exact ms_iretm C hR rfl dX9_priceRule_69
          · refine ms_iconst C (-1 : Int32) dX9_priceRule_56 (by decide) ?_
            exact ms_iretm C hR rfl dX9_priceRule_57
    · refine ms_iconst C (1 : Int32) dX9_priceRule_22 (by decide) ?_
      refine ms_goto (tgt := 27) C dX9_priceRule_23 (by decide) ?_
      refine ms_istore (L' := [(5, .int (1 : Int32)), (0, .ref (xad X 0 0)), (1, .int a0), (2, .int a1), (3, .int a2), (4, .int a3)]) C dX9_priceRule_27 (by decide) rfl ?_
      refine ms_iload_n C dX9_priceRule_29 2 rfl ?_
      refine ms_iconst C (0 : Int32) dX9_priceRule_30 (by decide) ?_
      refine ms_bipush C (127 : Int32) dX9_priceRule_31 (by decide) ?_
      refine ms_callSi (As := [.int a0, .int (0 : Int32), .int (127 : Int32)]) C dX9_priceRule_33 (fun _ h => mtX9_isIn (xl X) (xg X) n M a0 (0 : Int32) (127 : Int32) h) (va_cwS 3 C.2.2.1 gX9_priceRule_X9_isIn rfl rfl rfl (by decide +kernel) ⟨Nat.le_of_ble_eq_true rfl, Nat.le_of_ble_eq_true rfl⟩) rfl rfl (Nat.le_of_ble_eq_true rfl) (fun v39 => ?_)
      refine ms_if_eq (tgt := 56) C dX9_priceRule_36 (by decide) (fun c40 => ?_) (fun c40 => ?_)
      · refine ms_iconst C (-1 : Int32) dX9_priceRule_56 (by decide) ?_
        exact ms_iretm C hR rfl dX9_priceRule_57
      · refine ms_iload C dX9_priceRule_39 0 rfl ?_
        refine ms_if_eq (tgt := 56) C dX9_priceRule_41 (by decide) (fun c41 => ?_) (fun c41 => ?_)
        · refine ms_iconst C (-1 : Int32) dX9_priceRule_56 (by decide) ?_
          exact ms_iretm C hR rfl dX9_priceRule_57
        · refine ms_iload C dX9_priceRule_44 5 rfl ?_
          refine ms_iconst C (0 : Int32) dX9_priceRule_46 (by decide) ?_
          refine ms_sipush C (200 : Int32) dX9_priceRule_47 (by decide) ?_
          refine ms_callSi (As := [.int a3, .int (0 : Int32), .int (200 : Int32)]) C dX9_priceRule_50 (fun _ h => mtX9_isIn (xl X) (xg X) n M a3 (0 : Int32) (200 : Int32) h) (va_cwS 3 C.2.2.1 gX9_priceRule_X9_isIn rfl rfl rfl (by decide +kernel) ⟨Nat.le_of_ble_eq_true rfl, Nat.le_of_ble_eq_true rfl⟩) rfl rfl (Nat.le_of_ble_eq_true rfl) (fun v42 => ?_)
          refine ms_if_ne (tgt := 58) C dX9_priceRule_53 (by decide) (fun c43 => ?_) (fun c43 => ?_)
          · refine ms_aload_n C dX9_priceRule_58 1 rfl ?_
            refine ms_geti C dX9_priceRule_59 (zz0 (G := xg X) Nat.one_pos) (k := 11) (Nat.le_of_ble_eq_true rfl) rfl (Cn := RX9) (T := TX9) rfl inX9_X9_priceRule rfl (by decide +kernel) (fun v44 => ?_)
            refine ms_bipush C (12 : Int32) dX9_priceRule_62 (by decide) ?_
            refine ms_icmp_lt (tgt := 70) C dX9_priceRule_64 (by decide) (fun c45 => ?_) (fun c45 => ?_)
            · refine ms_aload_n C dX9_priceRule_70 1 rfl ?_
              refine ms_getr C dX9_priceRule_71 (zz0 (G := xg X) Nat.one_pos) (k := 10) (Nat.le_of_ble_eq_true rfl) (b := xad X 11 0) rfl (Cn := RX9) (T := TX9) rfl inX9_X9_priceRule rfl (by decide +kernel) ?_
              refine ms_aload_n C dX9_priceRule_74 1 rfl ?_
              refine ms_geti C dX9_priceRule_75 (zz0 (G := xg X) Nat.one_pos) (k := 11) (Nat.le_of_ble_eq_true rfl) rfl (Cn := RX9) (T := TX9) rfl inX9_X9_priceRule rfl (by decide +kernel) (fun v46 => ?_)
              refine ms_ald C dX9_priceRule_78 (zz11 (G := xg X) Nat.one_pos) rfl rfl (fun q47 hq47 => ?_)
              refine ms_astore (L' := [(6, .ref (xad X 31 q47)), (5, .int (1 : Int32)), (0, .ref (xad X 0 0)), (1, .int a0), (2, .int a1), (3, .int a2), (4, .int a3)]) C dX9_priceRule_79 (by decide) rfl ?_
              refine ms_aload C dX9_priceRule_81 0 rfl ?_
              refine ms_iload_n C dX9_priceRule_83 3 rfl ?_
              refine ms_puti C dX9_priceRule_84 tyX5 tyX5_ok nmX5 (zz31 (G := xg X) hq47) (k := 0) (Nat.le_of_ble_eq_true rfl) rfl (Cn := RX5) (T := TX5) rfl inX5_X9_priceRule rfl (by decide +kernel) rfl (by decide +kernel) (fun M48 => ?_)
              refine ms_aload C dX9_priceRule_87 0 rfl ?_
              refine ms_iload_n C dX9_priceRule_89 4 rfl ?_
              refine ms_puti C dX9_priceRule_90 tyX5 tyX5_ok nmX5 (zz31 (G := xg X) hq47) (k := 1) (Nat.le_of_ble_eq_true rfl) rfl (Cn := RX5) (T := TX5) rfl inX5_X9_priceRule rfl (by decide +kernel) rfl (by decide +kernel) (fun M49 => ?_)
              refine ms_aload C dX9_priceRule_93 0 rfl ?_
              refine ms_iload_n C dX9_priceRule_95 5 rfl ?_
              refine ms_puti C dX9_priceRule_96 tyX5 tyX5_ok nmX5 (zz31 (G := xg X) hq47) (k := 2) (Nat.le_of_ble_eq_true rfl) rfl (Cn := RX5) (T := TX5) rfl inX5_X9_priceRule rfl (by decide +kernel) rfl (by decide +kernel) (fun M50 => ?_)
              refine ms_aload C dX9_priceRule_99 0 rfl ?_
              refine ms_iload C dX9_priceRule_101 6 rfl ?_
              refine ms_puti C dX9_priceRule_103 tyX5 tyX5_ok nmX5 (zz31 (G := xg X) hq47) (k := 3) (Nat.le_of_ble_eq_true rfl) rfl (Cn := RX5) (T := TX5) rfl inX5_X9_priceRule rfl (by decide +kernel) rfl (by decide +kernel) (fun M51 => ?_)
              refine ms_aload_n C dX9_priceRule_106 2 rfl ?_
              refine ms_dup C dX9_priceRule_107 rfl ?_
              refine ms_geti C dX9_priceRule_108 (zz0 (G := xg X) Nat.one_pos) (k := 11) (Nat.le_of_ble_eq_true rfl) rfl (Cn := RX9) (T := TX9) rfl inX9_X9_priceRule rfl (by decide +kernel) (fun v52 => ?_)
              refine ms_iconst C (1 : Int32) dX9_priceRule_111 (by decide) ?_
              refine ms_iadd C dX9_priceRule_112 (fun v53 => ?_)
              refine ms_puti C dX9_priceRule_113 tyX9 tyX9_ok nmX9 (zz0 (G := xg X) Nat.one_pos) (k := 11) (Nat.le_of_ble_eq_true rfl) rfl (Cn := RX9) (T := TX9) rfl inX9_X9_priceRule rfl (by decide +kernel) rfl (by decide +kernel) (fun M54 => ?_)
              refine ms_aload_n C dX9_priceRule_116 2 rfl ?_
              refine ms_geti C dX9_priceRule_117 (zz0 (G := xg X) Nat.one_pos) (k := 11) (Nat.le_of_ble_eq_true rfl) rfl (Cn := RX9) (T := TX9) rfl inX9_X9_priceRule rfl (by decide +kernel) (fun v55 => ?_)
              exact ms_iretm C hR rfl dX9_priceRule_120
            · refine ms_bipush C (-3 : Int32) dX9_priceRule_67 (by decide) ?_
              exact ms_iretm C hR rfl dX9_priceRule_69
          · refine ms_iconst C (-1 : Int32) dX9_priceRule_56 (by decide) ?_
            exact ms_iretm C hR rfl dX9_priceRule_57
def rmX9_price : Room := { frames := 3, cells := 0, slots := 0, locals := 69 }
set_option maxRecDepth 100000 in
set_option maxHeartbeats 4000000 in
theorem mtX9_price (l : Launch) (G : mh_G) (n : Nat) (M : mh_M) (a0 : Int32) (a1 : Int32) (a2 : Int32) {z : Int32} (ho : fX9_price n M a0 a1 a2 = some z) : Met l yX9_price wsX9_price rmX9_price (mh_Pc G M [.ref (G.2.2 0 0), .int a0, .int a1, .int a2]) (mh_Q G M (some (.int z))) 0 0 (mh_dom G) := by
  refine mh_met (cc := cX9_price) (maxL := 4) (ret := (some .int)) (by decide) rfl (Nat.le_of_ble_eq_true rfl) ho ?_
  rintro X rfl rfl C hR
  show mh_W X rmX9_price 4 _ z M 0 [(0, .ref (xad X 0 0)), (1, .int a0), (2, .int a1), (3, .int a2)] []
  replace C : mh_C X rmX9_price cX9_price wsX9_price RX9 4 := C
  unfold fX9_price
  refine ms_aload_n C dX9_price_0 0 rfl ?_
  refine ms_iload_n C dX9_price_1 1 rfl ?_
  refine ms_callVi (As := [.int a0]) C dX9_price_2 (fun _ h => mtX9_isRecipe (xl X) (xg X) n M a0 h) (cwV 1 C.2.2.1 gX9_price_X9_isRecipe rfl rfl rfl (by decide +kernel) ⟨Nat.le_of_ble_eq_true rfl, Nat.le_of_ble_eq_true rfl⟩) (zz0 (G := xg X) Nat.one_pos) (T := TX9) rfl rfl rfl (Nat.le_of_ble_eq_true rfl) (fun v1 => ?_)
  refine ms_if_eq (tgt := 26) C dX9_price_5 (by decide) (fun c2 => ?_) (fun c2 => ?_)
  · refine ms_iconst C (-1 : Int32) dX9_price_26 (by decide) ?_
    exact ms_ireti C hR rfl rfl dX9_price_27
  · refine ms_iload_n C dX9_price_8 2 rfl ?_
    refine ms_iload_n C dX9_price_9 3 rfl ?_
    refine ms_callSi (As := [.int a1, .int a2]) C dX9_price_10 (fun _ h => mtX9_isTime (xl X) (xg X) n M a1 a2 h) (va_cwS 2 C.2.2.1 gX9_price_X9_isTime rfl rfl rfl (by decide +kernel) ⟨Nat.le_of_ble_eq_true rfl, Nat.le_of_ble_eq_true rfl⟩) rfl rfl (Nat.le_of_ble_eq_true rfl) (fun v3 => ?_)
    refine ms_if_eq (tgt := 26) C dX9_price_13 (by decide) (fun c4 => ?_) (fun c4 => ?_)
    · refine ms_iconst C (-1 : Int32) dX9_price_26 (by decide) ?_
      exact ms_ireti C hR rfl rfl dX9_price_27
    · refine ms_aload_n C dX9_price_16 0 rfl ?_
      refine ms_iload_n C dX9_price_17 1 rfl ?_
      refine ms_iload_n C dX9_price_18 2 rfl ?_
      refine ms_iload_n C dX9_price_19 3 rfl ?_
      refine ms_callVi (As := [.int a0, .int a1, .int a2]) C dX9_price_20 (fun _ h => mtX9_priceAt (xl X) (xg X) n M a0 a1 a2 h) (cwV 3 C.2.2.1 gX9_price_X9_priceAt rfl rfl rfl (by decide +kernel) ⟨Nat.le_of_ble_eq_true rfl, Nat.le_of_ble_eq_true rfl⟩) (zz0 (G := xg X) Nat.one_pos) (T := TX9) rfl rfl rfl (Nat.le_of_ble_eq_true rfl) (fun v5 => ?_)
      refine ms_goto (tgt := 27) C dX9_price_23 (by decide) ?_
      exact ms_ireti C hR rfl rfl dX9_price_27
def rmX9_person : Room := { frames := 1, cells := 0, slots := 0, locals := 22 }
theorem inX8_X9_person : ∀ w ∈ wsX80, w ∈ wsX9_person := by decide +kernel
theorem inX9_X9_person : ∀ w ∈ wsX90, w ∈ wsX9_person := by decide +kernel
set_option maxRecDepth 100000 in
set_option maxHeartbeats 4000000 in
theorem mtX9_person (l : Launch) (G : mh_G) (n : Nat) (M : mh_M) (a0 : Int32) (a1 : Int32) (a2 : Int32) {z : mh_M × Int32} (ho : fX9_person n M a0 a1 a2 = some z) : Met l yX9_person wsX9_person rmX9_person (mh_Pc G M [.ref (G.2.2 0 0), .int a0, .int a1, .int a2]) (mh_Q G z.1 (some (.int z.2))) 0 0 (mh_dom G) := by
  refine mh_met (cc := cX9_person) (maxL := 4) (ret := (some .int)) (by decide) rfl (Nat.le_of_ble_eq_true rfl) ho ?_
  rintro X rfl rfl C hR
  show mh_W X rmX9_person 4 _ z M 0 [(0, .ref (xad X 0 0)), (1, .int a0), (2, .int a1), (3, .int a2)] []
  replace C : mh_C X rmX9_person cX9_person wsX9_person RX9 4 := C
  unfold fX9_person
  refine ms_iload_n C dX9_person_0 1 rfl ?_
  refine ms_iconst C (0 : Int32) dX9_person_1 (by decide) ?_
  refine ms_iconst C (5 : Int32) dX9_person_2 (by decide) ?_
  refine ms_callSi (As := [.int a0, .int (0 : Int32), .int (5 : Int32)]) C dX9_person_3 (fun _ h => mtX9_isIn (xl X) (xg X) n M a0 (0 : Int32) (5 : Int32) h) (va_cwS 3 C.2.2.1 gX9_person_X9_isIn rfl rfl rfl (by decide +kernel) ⟨Nat.le_of_ble_eq_true rfl, Nat.le_of_ble_eq_true rfl⟩) rfl rfl (Nat.le_of_ble_eq_true rfl) (fun v1 => ?_)
  refine ms_if_eq (tgt := 30) C dX9_person_6 (by decide) (fun c2 => ?_) (fun c2 => ?_)
  · refine ms_iconst C (-1 : Int32) dX9_person_30 (by decide) ?_
    exact ms_iretm C hR rfl dX9_person_31
  · refine ms_iload_n C dX9_person_9 2 rfl ?_
    refine ms_iconst C (0 : Int32) dX9_person_10 (by decide) ?_
    refine ms_bipush C (10 : Int32) dX9_person_11 (by decide) ?_
    refine ms_callSi (As := [.int a1, .int (0 : Int32), .int (10 : Int32)]) C dX9_person_13 (fun _ h => mtX9_isIn (xl X) (xg X) n M a1 (0 : Int32) (10 : Int32) h) (va_cwS 3 C.2.2.1 gX9_person_X9_isIn rfl rfl rfl (by decide +kernel) ⟨Nat.le_of_ble_eq_true rfl, Nat.le_of_ble_eq_true rfl⟩) rfl rfl (Nat.le_of_ble_eq_true rfl) (fun v3 => ?_)
    refine ms_if_eq (tgt := 30) C dX9_person_16 (by decide) (fun c4 => ?_) (fun c4 => ?_)
    · refine ms_iconst C (-1 : Int32) dX9_person_30 (by decide) ?_
      exact ms_iretm C hR rfl dX9_person_31
    · refine ms_iload_n C dX9_person_19 3 rfl ?_
      refine ms_iconst C (0 : Int32) dX9_person_20 (by decide) ?_
      refine ms_sipush C (1440 : Int32) dX9_person_21 (by decide) ?_
      refine ms_callSi (As := [.int a2, .int (0 : Int32), .int (1440 : Int32)]) C dX9_person_24 (fun _ h => mtX9_isIn (xl X) (xg X) n M a2 (0 : Int32) (1440 : Int32) h) (va_cwS 3 C.2.2.1 gX9_person_X9_isIn rfl rfl rfl (by decide +kernel) ⟨Nat.le_of_ble_eq_true rfl, Nat.le_of_ble_eq_true rfl⟩) rfl rfl (Nat.le_of_ble_eq_true rfl) (fun v5 => ?_)
      refine ms_if_ne (tgt := 32) C dX9_person_27 (by decide) (fun c6 => ?_) (fun c6 => ?_)
      · refine ms_aload_n C dX9_person_32 0 rfl ?_
        refine ms_getr C dX9_person_33 (zz0 (G := xg X) Nat.one_pos) (k := 12) (Nat.le_of_ble_eq_true rfl) (b := xad X 13 0) rfl (Cn := RX9) (T := TX9) rfl inX9_X9_person rfl (by decide +kernel) ?_
        refine ms_getr C dX9_person_36 (zz13 (G := xg X) Nat.one_pos) (k := 0) (Nat.le_of_ble_eq_true rfl) (b := xad X 14 0) rfl (Cn := RX8) (T := TX8) rfl inX8_X9_person rfl (by decide +kernel) ?_
        refine ms_iload_n C dX9_person_39 1 rfl ?_
        refine ms_iload_n C dX9_person_40 2 rfl ?_
        refine ms_iload_n C dX9_person_41 3 rfl ?_
        refine ms_imul C dX9_person_42 (fun v7 => ?_)
        refine ms_st C dX9_person_43 (zz14 (G := xg X) Nat.one_pos) rfl (fun _ M8 => ?_)
        refine ms_iconst C (0 : Int32) dX9_person_44 (by decide) ?_
        exact ms_iretm C hR rfl dX9_person_45
      · refine ms_iconst C (-1 : Int32) dX9_person_30 (by decide) ?_
        exact ms_iretm C hR rfl dX9_person_31
def rmX9_tips : Room := { frames := 3, cells := 0, slots := 0, locals := 81 }
theorem inX9_X9_tips : ∀ w ∈ wsX90, w ∈ wsX9_tips := by decide +kernel
set_option maxRecDepth 100000 in
set_option maxHeartbeats 4000000 in
theorem mtX9_tips (l : Launch) (G : mh_G) (n : Nat) (M : mh_M) (a0 : Int32) (a1 : Int32) {z : Int32} (ho : fX9_tips n M a0 a1 = some z) : Met l yX9_tips wsX9_tips rmX9_tips (mh_Pc G M [.ref (G.2.2 0 0), .int a0, .int a1]) (mh_Q G M (some (.int z))) 0 0 (mh_dom G) := by
  refine mh_met (cc := cX9_tips) (maxL := 3) (ret := (some .int)) (by decide) rfl (Nat.le_of_ble_eq_true rfl) ho ?_
  rintro X rfl rfl C hR
  show mh_W X rmX9_tips 3 _ z M 0 [(0, .ref (xad X 0 0)), (1, .int a0), (2, .int a1)] []
  replace C : mh_C X rmX9_tips cX9_tips wsX9_tips RX9 3 := C
  unfold fX9_tips
  refine ms_iload_n C dX9_tips_0 1 rfl ?_
  refine ms_iconst C (0 : Int32) dX9_tips_1 (by decide) ?_
  refine ms_ldcw C (1000000 : Int32) dX9_tips_2 (by decide +kernel) ?_
  refine ms_callSi (As := [.int a0, .int (0 : Int32), .int (1000000 : Int32)]) C dX9_tips_5 (fun _ h => mtX9_isIn (xl X) (xg X) n M a0 (0 : Int32) (1000000 : Int32) h) (va_cwS 3 C.2.2.1 gX9_tips_X9_isIn rfl rfl rfl (by decide +kernel) ⟨Nat.le_of_ble_eq_true rfl, Nat.le_of_ble_eq_true rfl⟩) rfl rfl (Nat.le_of_ble_eq_true rfl) (fun v1 => ?_)
  refine ms_if_eq (tgt := 20) C dX9_tips_8 (by decide) (fun c2 => ?_) (fun c2 => ?_)
  · refine ms_iconst C (-1 : Int32) dX9_tips_20 (by decide) ?_
    exact ms_ireti C hR rfl rfl dX9_tips_21
  · refine ms_iload_n C dX9_tips_11 2 rfl ?_
    refine ms_iconst C (0 : Int32) dX9_tips_12 (by decide) ?_
    refine ms_iconst C (5 : Int32) dX9_tips_13 (by decide) ?_
    refine ms_callSi (As := [.int a1, .int (0 : Int32), .int (5 : Int32)]) C dX9_tips_14 (fun _ h => mtX9_isIn (xl X) (xg X) n M a1 (0 : Int32) (5 : Int32) h) (va_cwS 3 C.2.2.1 gX9_tips_X9_isIn rfl rfl rfl (by decide +kernel) ⟨Nat.le_of_ble_eq_true rfl, Nat.le_of_ble_eq_true rfl⟩) rfl rfl (Nat.le_of_ble_eq_true rfl) (fun v3 => ?_)
    refine ms_if_ne (tgt := 22) C dX9_tips_17 (by decide) (fun c4 => ?_) (fun c4 => ?_)
    · refine ms_aload_n C dX9_tips_22 0 rfl ?_
      refine ms_getr C dX9_tips_23 (zz0 (G := xg X) Nat.one_pos) (k := 12) (Nat.le_of_ble_eq_true rfl) (b := xad X 13 0) rfl (Cn := RX9) (T := TX9) rfl inX9_X9_tips rfl (by decide +kernel) ?_
      refine ms_iload_n C dX9_tips_26 2 rfl ?_
      refine ms_iload_n C dX9_tips_27 1 rfl ?_
      refine ms_callVi (As := [.int a1, .int a0]) C dX9_tips_28 (fun _ h => mtX8_shareOf (xl X) (xg X) n M a1 a0 h) (cwV 2 C.2.2.1 gX9_tips_X8_shareOf rfl rfl rfl (by decide +kernel) ⟨Nat.le_of_ble_eq_true rfl, Nat.le_of_ble_eq_true rfl⟩) (zz13 (G := xg X) Nat.one_pos) (T := TX8) rfl rfl rfl (Nat.le_of_ble_eq_true rfl) (fun v5 => ?_)
      exact ms_ireti C hR rfl rfl dX9_tips_31
    · refine ms_iconst C (-1 : Int32) dX9_tips_20 (by decide) ?_
      exact ms_ireti C hR rfl rfl dX9_tips_21
def rmX9_keg : Room := { frames := 1, cells := 0, slots := 0, locals := 22 }
theorem inX9_X9_keg : ∀ w ∈ wsX90, w ∈ wsX9_keg := by decide +kernel
set_option maxRecDepth 100000 in
set_option maxHeartbeats 4000000 in
theorem mtX9_keg (l : Launch) (G : mh_G) (n : Nat) (M : mh_M) (a0 : Int32) (a1 : Int32) {z : Int32} (ho : fX9_keg n M a0 a1 = some z) : Met l yX9_keg wsX9_keg rmX9_keg (mh_Pc G M [.ref (G.2.2 0 0), .int a0, .int a1]) (mh_Q G M (some (.int z))) 0 0 (mh_dom G) := by
  refine mh_met (cc := cX9_keg) (maxL := 4) (ret := (some .int)) (by decide) rfl (Nat.le_of_ble_eq_true rfl) ho ?_
  rintro X rfl rfl C hR
  show mh_W X rmX9_keg 4 _ z M 0 [(0, .ref (xad X 0 0)), (1, .int a0), (2, .int a1)] []
  replace C : mh_C X rmX9_keg cX9_keg wsX9_keg RX9 4 := C
  unfold fX9_keg
  refine ms_iload_n C dX9_keg_0 1 rfl ?_
  refine ms_sipush C (1000 : Int32) dX9_keg_1 (by decide) ?_
  refine ms_ldcw C (100000 : Int32) dX9_keg_4 (by decide +kernel) ?_
  refine ms_callSi (As := [.int a0, .int (1000 : Int32), .int (100000 : Int32)]) C dX9_keg_7 (fun _ h => mtX9_isIn (xl X) (xg X) n M a0 (1000 : Int32) (100000 : Int32) h) (va_cwS 3 C.2.2.1 gX9_keg_X9_isIn rfl rfl rfl (by decide +kernel) ⟨Nat.le_of_ble_eq_true rfl, Nat.le_of_ble_eq_true rfl⟩) rfl rfl (Nat.le_of_ble_eq_true rfl) (fun v1 => ?_)
  refine ms_if_eq (tgt := 23) C dX9_keg_10 (by decide) (fun c2 => ?_) (fun c2 => ?_)
  · refine ms_iconst C (-1 : Int32) dX9_keg_23 (by decide) ?_
    exact ms_ireti C hR rfl rfl dX9_keg_24
  · refine ms_iload_n C dX9_keg_13 2 rfl ?_
    refine ms_iconst C (0 : Int32) dX9_keg_14 (by decide) ?_
    refine ms_bipush C (40 : Int32) dX9_keg_15 (by decide) ?_
    refine ms_callSi (As := [.int a1, .int (0 : Int32), .int (40 : Int32)]) C dX9_keg_17 (fun _ h => mtX9_isIn (xl X) (xg X) n M a1 (0 : Int32) (40 : Int32) h) (va_cwS 3 C.2.2.1 gX9_keg_X9_isIn rfl rfl rfl (by decide +kernel) ⟨Nat.le_of_ble_eq_true rfl, Nat.le_of_ble_eq_true rfl⟩) rfl rfl (Nat.le_of_ble_eq_true rfl) (fun v3 => ?_)
    refine ms_if_ne (tgt := 25) C dX9_keg_20 (by decide) (fun c4 => ?_) (fun c4 => ?_)
    · refine ms_bipush C (90 : Int32) dX9_keg_25 (by decide) ?_
      refine ms_aload_n C dX9_keg_27 0 rfl ?_
      refine ms_getr C dX9_keg_28 (zz0 (G := xg X) Nat.one_pos) (k := 4) (Nat.le_of_ble_eq_true rfl) (b := xad X 3 0) rfl (Cn := RX9) (T := TX9) rfl inX9_X9_keg rfl (by decide +kernel) ?_
      refine ms_iconst C (5 : Int32) dX9_keg_31 (by decide) ?_
      refine ms_ld C dX9_keg_32 (zz3 (G := xg X) Nat.one_pos) rfl (fun _ v5 => ?_)
      refine ms_aload_n C dX9_keg_33 0 rfl ?_
      refine ms_getr C dX9_keg_34 (zz0 (G := xg X) Nat.one_pos) (k := 4) (Nat.le_of_ble_eq_true rfl) (b := xad X 3 0) rfl (Cn := RX9) (T := TX9) rfl inX9_X9_keg rfl (by decide +kernel) ?_
      refine ms_bipush C (6 : Int32) dX9_keg_37 (by decide) ?_
      refine ms_ld C dX9_keg_39 (zz3 (G := xg X) Nat.one_pos) rfl (fun _ v6 => ?_)
      refine ms_iconst C (0 : Int32) dX9_keg_40 (by decide) ?_
      refine ms_iload_n C dX9_keg_41 2 rfl ?_
      refine ms_iconst C (4 : Int32) dX9_keg_42 (by decide) ?_
      refine ms_isub C dX9_keg_43 (fun v7 => ?_)
      refine ms_mmax C dX9_keg_44 (by decide +kernel) (by decide +kernel) (by decide +kernel) (by decide +kernel) (Nat.le_of_ble_eq_true rfl) (Nat.le_of_ble_eq_true rfl) (fun v8 => ?_)
      refine ms_imul C dX9_keg_47 (fun v9 => ?_)
      refine ms_iadd C dX9_keg_48 (fun v10 => ?_)
      refine ms_mmin C dX9_keg_49 (by decide +kernel) (by decide +kernel) (by decide +kernel) (by decide +kernel) (Nat.le_of_ble_eq_true rfl) (Nat.le_of_ble_eq_true rfl) (fun v11 => ?_)
      refine ms_istore_n (L' := [(3, .int v11), (0, .ref (xad X 0 0)), (1, .int a0), (2, .int a1)]) C dX9_keg_52 rfl (by decide) rfl ?_
      refine ms_iload_n C dX9_keg_53 2 rfl ?_
      refine ms_bipush C (100 : Int32) dX9_keg_54 (by decide) ?_
      refine ms_iload_n C dX9_keg_56 0 rfl ?_
      refine ms_isub C dX9_keg_57 (fun v12 => ?_)
      refine ms_imul C dX9_keg_58 (fun v13 => ?_)
      refine ms_ldcw C (50000 : Int32) dX9_keg_59 (by decide +kernel) ?_
      refine ms_idiv C dX9_keg_62 (fun v14 => ?_)
      exact ms_ireti C hR rfl rfl dX9_keg_63
    · refine ms_iconst C (-1 : Int32) dX9_keg_23 (by decide) ?_
      exact ms_ireti C hR rfl rfl dX9_keg_24
def rmX9_deal : Room := { frames := 1, cells := 0, slots := 0, locals := 22 }
theorem inX2_X9_deal : ∀ w ∈ wsX20, w ∈ wsX9_deal := by decide +kernel
theorem inX9_X9_deal : ∀ w ∈ wsX90, w ∈ wsX9_deal := by decide +kernel
set_option maxRecDepth 100000 in
set_option maxHeartbeats 4000000 in
theorem mtX9_deal (l : Launch) (G : mh_G) (n : Nat) (M : mh_M) (a0 : Int32) (a1 : Int32) {z : mh_M × Int32} (ho : fX9_deal n M a0 a1 = some z) : Met l yX9_deal wsX9_deal rmX9_deal (mh_Pc G M [.ref (G.2.2 0 0), .int a0, .int a1]) (mh_Q G z.1 (some (.int z.2))) 0 0 (mh_dom G) := by
  refine mh_met (cc := cX9_deal) (maxL := 3) (ret := (some .int)) (by decide) rfl (Nat.le_of_ble_eq_true rfl) ho ?_
  rintro X rfl rfl C hR
  show mh_W X rmX9_deal 3 _ z M 0 [(0, .ref (xad X 0 0)), (1, .int a0), (2, .int a1)] []
  replace C : mh_C X rmX9_deal cX9_deal wsX9_deal RX9 3 := C
  unfold fX9_deal
  refine ms_iload_n C dX9_deal_0 1 rfl ?_
  refine ms_iconst C (1 : Int32) dX9_deal_1 (by decide) ?_
  refine ms_bipush C (24 : Int32) dX9_deal_2 (by decide) ?_
  refine ms_callSi (As := [.int a0, .int (1 : Int32), .int (24 : Int32)]) C dX9_deal_4 (fun _ h => mtX9_isIn (xl X) (xg X) n M a0 (1 : Int32) (24 : Int32) h) (va_cwS 3 C.2.2.1 gX9_deal_X9_isIn rfl rfl rfl (by decide +kernel) ⟨Nat.le_of_ble_eq_true rfl, Nat.le_of_ble_eq_true rfl⟩) rfl rfl (Nat.le_of_ble_eq_true rfl) (fun v1 => ?_)
  refine ms_if_eq (tgt := 21) C dX9_deal_7 (by decide) (fun c2 => ?_) (fun c2 => ?_)
  · refine ms_iconst C (-1 : Int32) dX9_deal_21 (by decide) ?_
    exact ms_iretm C hR rfl dX9_deal_22
  · refine ms_iload_n C dX9_deal_10 2 rfl ?_
    refine ms_iconst C (0 : Int32) dX9_deal_11 (by decide) ?_
    refine ms_ldcw C (100000 : Int32) dX9_deal_12 (by decide +kernel) ?_
    refine ms_callSi (As := [.int a1, .int (0 : Int32), .int (100000 : Int32)]) C dX9_deal_15 (fun _ h => mtX9_isIn (xl X) (xg X) n M a1 (0 : Int32) (100000 : Int32) h) (va_cwS 3 C.2.2.1 gX9_deal_X9_isIn rfl rfl rfl (by decide +kernel) ⟨Nat.le_of_ble_eq_true rfl, Nat.le_of_ble_eq_true rfl⟩) rfl rfl (Nat.le_of_ble_eq_true rfl) (fun v3 => ?_)
    refine ms_if_ne (tgt := 23) C dX9_deal_18 (by decide) (fun c4 => ?_) (fun c4 => ?_)
    · refine ms_aload_n C dX9_deal_23 0 rfl ?_
      refine ms_getr C dX9_deal_24 (zz0 (G := xg X) Nat.one_pos) (k := 13) (Nat.le_of_ble_eq_true rfl) (b := xad X 15 0) rfl (Cn := RX9) (T := TX9) rfl inX9_X9_deal rfl (by decide +kernel) ?_
      refine ms_geti C dX9_deal_27 (zz15 (G := xg X) Nat.one_pos) (k := 2) (Nat.le_of_ble_eq_true rfl) rfl (Cn := RX2) (T := TX2) rfl inX2_X9_deal rfl (by decide +kernel) (fun v5 => ?_)
      refine ms_iconst C (5 : Int32) dX9_deal_30 (by decide) ?_
      refine ms_icmp_lt (tgt := 37) C dX9_deal_31 (by decide) (fun c6 => ?_) (fun c6 => ?_)
      · refine ms_aload_n C dX9_deal_37 0 rfl ?_
        refine ms_getr C dX9_deal_38 (zz0 (G := xg X) Nat.one_pos) (k := 13) (Nat.le_of_ble_eq_true rfl) (b := xad X 15 0) rfl (Cn := RX9) (T := TX9) rfl inX9_X9_deal rfl (by decide +kernel) ?_
        refine ms_iload_n C dX9_deal_41 1 rfl ?_
        refine ms_iload_n C dX9_deal_42 2 rfl ?_
        refine ms_callVv (As := [.int a0, .int a1]) C dX9_deal_43 (fun _ h => mtX2_add (xl X) (xg X) n M a0 a1 h) (cwV 2 C.2.2.1 gX9_deal_X2_add rfl rfl rfl (by decide +kernel) ⟨Nat.le_of_ble_eq_true rfl, Nat.le_of_ble_eq_true rfl⟩) (zz15 (G := xg X) Nat.one_pos) (T := TX2) rfl rfl rfl (Nat.le_of_ble_eq_true rfl) (fun M7 => ?_)
        refine ms_aload_n C dX9_deal_46 0 rfl ?_
        refine ms_getr C dX9_deal_47 (zz0 (G := xg X) Nat.one_pos) (k := 13) (Nat.le_of_ble_eq_true rfl) (b := xad X 15 0) rfl (Cn := RX9) (T := TX9) rfl inX9_X9_deal rfl (by decide +kernel) ?_
        refine ms_geti C dX9_deal_50 (zz15 (G := xg X) Nat.one_pos) (k := 2) (Nat.le_of_ble_eq_true rfl) rfl (Cn := RX2) (T := TX2) rfl inX2_X9_deal rfl (by decide +kernel) (fun v8 => ?_)
        exact ms_iretm C hR rfl dX9_deal_53
      · refine ms_bipush C (-3 : Int32) dX9_deal_34 (by decide) ?_
        exact ms_iretm C hR rfl dX9_deal_36
    · refine ms_iconst C (-1 : Int32) dX9_deal_21 (by decide) ?_
      exact ms_iretm C hR rfl dX9_deal_22
def rmX9_buy : Room := { frames := 3, cells := 0, slots := 0, locals := 71 }
theorem inX2_X9_buy : ∀ w ∈ wsX20, w ∈ wsX9_buy := by decide +kernel
theorem inX9_X9_buy : ∀ w ∈ wsX90, w ∈ wsX9_buy := by decide +kernel
set_option maxRecDepth 100000 in
set_option maxHeartbeats 4000000 in
theorem mtX9_buy (l : Launch) (G : mh_G) (n : Nat) (M : mh_M) (a0 : Int32) (a1 : Int32) {z : mh_M × Int32} (ho : fX9_buy n M a0 a1 = some z) : Met l yX9_buy wsX9_buy rmX9_buy (mh_Pc G M [.ref (G.2.2 0 0), .int a0, .int a1]) (mh_Q G z.1 (some (.int z.2))) 0 0 (mh_dom G) := by
  refine mh_met (cc := cX9_buy) (maxL := 4) (ret := (some .int)) (by decide) rfl (Nat.le_of_ble_eq_true rfl) ho ?_
  rintro X rfl rfl C hR
  show mh_W X rmX9_buy 4 _ z M 0 [(0, .ref (xad X 0 0)), (1, .int a0), (2, .int a1)] []
  replace C : mh_C X rmX9_buy cX9_buy wsX9_buy RX9 4 := C
  unfold fX9_buy
  refine ms_iload_n C dX9_buy_0 1 rfl ?_
  refine ms_iconst C (1 : Int32) dX9_buy_1 (by decide) ?_
  refine ms_bipush C (120 : Int32) dX9_buy_2 (by decide) ?_
  refine ms_callSi (As := [.int a0, .int (1 : Int32), .int (120 : Int32)]) C dX9_buy_4 (fun _ h => mtX9_isIn (xl X) (xg X) n M a0 (1 : Int32) (120 : Int32) h) (va_cwS 3 C.2.2.1 gX9_buy_X9_isIn rfl rfl rfl (by decide +kernel) ⟨Nat.le_of_ble_eq_true rfl, Nat.le_of_ble_eq_true rfl⟩) rfl rfl (Nat.le_of_ble_eq_true rfl) (fun v1 => ?_)
  refine ms_if_eq (tgt := 27) C dX9_buy_7 (by decide) (fun c2 => ?_) (fun c2 => ?_)
  · refine ms_iconst C (-1 : Int32) dX9_buy_27 (by decide) ?_
    exact ms_iretm C hR rfl dX9_buy_28
  · refine ms_iload_n C dX9_buy_10 2 rfl ?_
    refine ms_iconst C (0 : Int32) dX9_buy_11 (by decide) ?_
    refine ms_iconst C (1 : Int32) dX9_buy_12 (by decide) ?_
    refine ms_aload_n C dX9_buy_13 0 rfl ?_
    refine ms_getr C dX9_buy_14 (zz0 (G := xg X) Nat.one_pos) (k := 13) (Nat.le_of_ble_eq_true rfl) (b := xad X 15 0) rfl (Cn := RX9) (T := TX9) rfl inX9_X9_buy rfl (by decide +kernel) ?_
    refine ms_geti C dX9_buy_17 (zz15 (G := xg X) Nat.one_pos) (k := 2) (Nat.le_of_ble_eq_true rfl) rfl (Cn := RX2) (T := TX2) rfl inX2_X9_buy rfl (by decide +kernel) (fun v3 => ?_)
    refine ms_iadd C dX9_buy_20 (fun v4 => ?_)
    refine ms_callSi (As := [.int a1, .int (0 : Int32), .int v4]) C dX9_buy_21 (fun _ h => mtX9_isIn (xl X) (xg X) n M a1 (0 : Int32) v4 h) (va_cwS 3 C.2.2.1 gX9_buy_X9_isIn rfl rfl rfl (by decide +kernel) ⟨Nat.le_of_ble_eq_true rfl, Nat.le_of_ble_eq_true rfl⟩) rfl rfl (Nat.le_of_ble_eq_true rfl) (fun v5 => ?_)
    refine ms_if_ne (tgt := 29) C dX9_buy_24 (by decide) (fun c6 => ?_) (fun c6 => ?_)
    · refine ms_aload_n C dX9_buy_29 0 rfl ?_
      refine ms_getr C dX9_buy_30 (zz0 (G := xg X) Nat.one_pos) (k := 13) (Nat.le_of_ble_eq_true rfl) (b := xad X 15 0) rfl (Cn := RX9) (T := TX9) rfl inX9_X9_buy rfl (by decide +kernel) ?_
      refine ms_geti C dX9_buy_33 (zz15 (G := xg X) Nat.one_pos) (k := 2) (Nat.le_of_ble_eq_true rfl) rfl (Cn := RX2) (T := TX2) rfl inX2_X9_buy rfl (by decide +kernel) (fun v7 => ?_)
      refine ms_if_ne (tgt := 42) C dX9_buy_36 (by decide) (fun c8 => ?_) (fun c8 => ?_)
      · refine ms_aload_n C dX9_buy_42 0 rfl ?_
        refine ms_getr C dX9_buy_43 (zz0 (G := xg X) Nat.one_pos) (k := 13) (Nat.le_of_ble_eq_true rfl) (b := xad X 15 0) rfl (Cn := RX9) (T := TX9) rfl inX9_X9_buy rfl (by decide +kernel) ?_
        refine ms_callVv (As := []) C dX9_buy_46 (fun _ h => mtX2_weighUp (xl X) (xg X) n M h) (cwV 0 C.2.2.1 gX9_buy_X2_weighUp rfl rfl rfl (by decide +kernel) ⟨Nat.le_of_ble_eq_true rfl, Nat.le_of_ble_eq_true rfl⟩) (zz15 (G := xg X) Nat.one_pos) (T := TX2) rfl rfl rfl (Nat.le_of_ble_eq_true rfl) (fun M9 => ?_)
        refine ms_aload_n C dX9_buy_49 0 rfl ?_
        refine ms_getr C dX9_buy_50 (zz0 (G := xg X) Nat.one_pos) (k := 13) (Nat.le_of_ble_eq_true rfl) (b := xad X 15 0) rfl (Cn := RX9) (T := TX9) rfl inX9_X9_buy rfl (by decide +kernel) ?_
        refine ms_iload_n C dX9_buy_53 1 rfl ?_
        refine ms_callVi (As := [.int a0]) C dX9_buy_54 (fun _ h => mtX2_bestBottles (xl X) (xg X) n M9 a0 h) (cwV 1 C.2.2.1 gX9_buy_X2_bestBottles rfl rfl rfl (by decide +kernel) ⟨Nat.le_of_ble_eq_true rfl, Nat.le_of_ble_eq_true rfl⟩) (zz15 (G := xg X) Nat.one_pos) (T := TX2) rfl rfl rfl (Nat.le_of_ble_eq_true rfl) (fun v10 => ?_)
        refine ms_istore_n (L' := [(3, .int v10), (0, .ref (xad X 0 0)), (1, .int a0), (2, .int a1)]) C dX9_buy_57 rfl (by decide) rfl ?_
        refine ms_iload_n C dX9_buy_58 3 rfl ?_
        refine ms_split (fun c11 => ?_) (fun c11 => ?_)
        · refine ms_lookup (off := 25) (tgt := 84) C dX9_buy_59 (by decide) (by rw [c11] <;> rfl) (by decide) ?_
          refine ms_aload_n C dX9_buy_84 1 rfl ?_
          refine ms_getr C dX9_buy_85 (zz0 (G := xg X) Nat.one_pos) (k := 13) (Nat.le_of_ble_eq_true rfl) (b := xad X 15 0) rfl (Cn := RX9) (T := TX9) rfl inX9_X9_buy rfl (by decide +kernel) ?_
          refine ms_iload_n C dX9_buy_88 0 rfl ?_
          refine ms_callVi (As := [.int v10]) C dX9_buy_89 (fun _ h => mtX2_leastFor (xl X) (xg X) n M9 v10 h) (cwV 1 C.2.2.1 gX9_buy_X2_leastFor rfl rfl rfl (by decide +kernel) ⟨Nat.le_of_ble_eq_true rfl, Nat.le_of_ble_eq_true rfl⟩) (zz15 (G := xg X) Nat.one_pos) (T := TX2) rfl rfl rfl (Nat.le_of_ble_eq_true rfl) (fun v12 => ?_)
          exact ms_iretm C hR rfl dX9_buy_92
        refine ms_split (fun c13 => ?_) (fun c13 => ?_)
        · refine ms_lookup (off := 34) (tgt := 93) C dX9_buy_59 (by decide) (by rw [c13] <;> rfl) (by decide) ?_
          refine ms_iload_n C dX9_buy_93 0 rfl ?_
          exact ms_iretm C hR rfl dX9_buy_94
        refine ms_lookup (off := 36) (tgt := 95) C dX9_buy_59 (by decide) (by have ec11 : ¬ 0 = a1.toInt := fun q => c11 (Int32.toInt_inj.mp q.symm); have ec13 : ¬ 1 = a1.toInt := fun q => c13 (Int32.toInt_inj.mp q.symm); simp [Op.lookupswitch.offset, ec11, ec13]) (by decide) ?_
        refine ms_aload_n C dX9_buy_95 1 rfl ?_
        refine ms_getr C dX9_buy_96 (zz0 (G := xg X) Nat.one_pos) (k := 13) (Nat.le_of_ble_eq_true rfl) (b := xad X 15 0) rfl (Cn := RX9) (T := TX9) rfl inX9_X9_buy rfl (by decide +kernel) ?_
        refine ms_iload_n C dX9_buy_99 3 rfl ?_
        refine ms_iconst C (2 : Int32) dX9_buy_100 (by decide) ?_
        refine ms_isub C dX9_buy_101 (fun v14 => ?_)
        refine ms_iload_n C dX9_buy_102 0 rfl ?_
        refine ms_callVi (As := [.int v14, .int v10]) C dX9_buy_103 (fun _ h => mtX2_timesOf (xl X) (xg X) n M9 v14 v10 h) (cwV 2 C.2.2.1 gX9_buy_X2_timesOf rfl rfl rfl (by decide +kernel) ⟨Nat.le_of_ble_eq_true rfl, Nat.le_of_ble_eq_true rfl⟩) (zz15 (G := xg X) Nat.one_pos) (T := TX2) rfl rfl rfl (Nat.le_of_ble_eq_true rfl) (fun v15 => ?_)
        exact ms_iretm C hR rfl dX9_buy_106
      · refine ms_bipush C (-2 : Int32) dX9_buy_39 (by decide) ?_
        exact ms_iretm C hR rfl dX9_buy_41
    · refine ms_iconst C (-1 : Int32) dX9_buy_27 (by decide) ?_
      exact ms_iretm C hR rfl dX9_buy_28
def rmX9_count : Room := { frames := 0, cells := 0, slots := 0, locals := 0 }
theorem inX1_X9_count : ∀ w ∈ wsX10, w ∈ wsX9_count := by decide +kernel
theorem inX2_X9_count : ∀ w ∈ wsX20, w ∈ wsX9_count := by decide +kernel
theorem inX3_X9_count : ∀ w ∈ wsX30, w ∈ wsX9_count := by decide +kernel
theorem inX9_X9_count : ∀ w ∈ wsX90, w ∈ wsX9_count := by decide +kernel
set_option maxRecDepth 100000 in
set_option maxHeartbeats 4000000 in
theorem mtX9_count (l : Launch) (G : mh_G) (n : Nat) (M : mh_M) (a0 : Int32) {z : Int32} (ho : fX9_count n M a0 = some z) : Met l yX9_count wsX9_count rmX9_count (mh_Pc G M [.ref (G.2.2 0 0), .int a0]) (mh_Q G M (some (.int z))) 0 0 (mh_dom G) := by
  refine mh_met (cc := cX9_count) (maxL := 2) (ret := (some .int)) (by decide) rfl (Nat.le_of_ble_eq_true rfl) ho ?_
  rintro X rfl rfl C hR
  show mh_W X rmX9_count 2 _ z M 0 [(0, .ref (xad X 0 0)), (1, .int a0)] []
  replace C : mh_C X rmX9_count cX9_count wsX9_count RX9 2 := C
  unfold fX9_count
  refine ms_iload_n C dX9_count_0 1 rfl ?_
  refine ms_split (fun c1 => ?_) (fun c1 => ?_)
  · refine ms_tableIn (tgt := 44) C dX9_count_1 (by rw [c1]; decide) (by rw [c1]; decide) (by rw [c1]; rfl) (by decide) ?_
    refine ms_aload_n C dX9_count_44 0 rfl ?_
    refine ms_geti C dX9_count_45 (zz0 (G := xg X) Nat.one_pos) (k := 1) (Nat.le_of_ble_eq_true rfl) rfl (Cn := RX9) (T := TX9) rfl inX9_X9_count rfl (by decide +kernel) (fun v2 => ?_)
    exact ms_ireti C hR rfl rfl dX9_count_48
  refine ms_split (fun c3 => ?_) (fun c3 => ?_)
  · refine ms_tableIn (tgt := 49) C dX9_count_1 (by rw [c3]; decide) (by rw [c3]; decide) (by rw [c3]; rfl) (by decide) ?_
    refine ms_aload_n C dX9_count_49 0 rfl ?_
    refine ms_geti C dX9_count_50 (zz0 (G := xg X) Nat.one_pos) (k := 3) (Nat.le_of_ble_eq_true rfl) rfl (Cn := RX9) (T := TX9) rfl inX9_X9_count rfl (by decide +kernel) (fun v4 => ?_)
    exact ms_ireti C hR rfl rfl dX9_count_53
  refine ms_split (fun c5 => ?_) (fun c5 => ?_)
  · refine ms_tableIn (tgt := 54) C dX9_count_1 (by rw [c5]; decide) (by rw [c5]; decide) (by rw [c5]; rfl) (by decide) ?_
    refine ms_aload_n C dX9_count_54 0 rfl ?_
    refine ms_geti C dX9_count_55 (zz0 (G := xg X) Nat.one_pos) (k := 6) (Nat.le_of_ble_eq_true rfl) rfl (Cn := RX9) (T := TX9) rfl inX9_X9_count rfl (by decide +kernel) (fun v6 => ?_)
    exact ms_ireti C hR rfl rfl dX9_count_58
  refine ms_split (fun c7 => ?_) (fun c7 => ?_)
  · refine ms_tableIn (tgt := 59) C dX9_count_1 (by rw [c7]; decide) (by rw [c7]; decide) (by rw [c7]; rfl) (by decide) ?_
    refine ms_aload_n C dX9_count_59 0 rfl ?_
    refine ms_getr C dX9_count_60 (zz0 (G := xg X) Nat.one_pos) (k := 7) (Nat.le_of_ble_eq_true rfl) (b := xad X 5 0) rfl (Cn := RX9) (T := TX9) rfl inX9_X9_count rfl (by decide +kernel) ?_
    refine ms_geti C dX9_count_63 (zz5 (G := xg X) Nat.one_pos) (k := 1) (Nat.le_of_ble_eq_true rfl) rfl (Cn := RX1) (T := TX1) rfl inX1_X9_count rfl (by decide +kernel) (fun v8 => ?_)
    exact ms_ireti C hR rfl rfl dX9_count_66
  refine ms_split (fun c9 => ?_) (fun c9 => ?_)
  · refine ms_tableIn (tgt := 67) C dX9_count_1 (by rw [c9]; decide) (by rw [c9]; decide) (by rw [c9]; rfl) (by decide) ?_
    refine ms_aload_n C dX9_count_67 0 rfl ?_
    refine ms_geti C dX9_count_68 (zz0 (G := xg X) Nat.one_pos) (k := 11) (Nat.le_of_ble_eq_true rfl) rfl (Cn := RX9) (T := TX9) rfl inX9_X9_count rfl (by decide +kernel) (fun v10 => ?_)
    exact ms_ireti C hR rfl rfl dX9_count_71
  refine ms_split (fun c11 => ?_) (fun c11 => ?_)
  · refine ms_tableIn (tgt := 72) C dX9_count_1 (by rw [c11]; decide) (by rw [c11]; decide) (by rw [c11]; rfl) (by decide) ?_
    refine ms_aload_n C dX9_count_72 0 rfl ?_
    refine ms_getr C dX9_count_73 (zz0 (G := xg X) Nat.one_pos) (k := 13) (Nat.le_of_ble_eq_true rfl) (b := xad X 15 0) rfl (Cn := RX9) (T := TX9) rfl inX9_X9_count rfl (by decide +kernel) ?_
    refine ms_geti C dX9_count_76 (zz15 (G := xg X) Nat.one_pos) (k := 2) (Nat.le_of_ble_eq_true rfl) rfl (Cn := RX2) (T := TX2) rfl inX2_X9_count rfl (by decide +kernel) (fun v12 => ?_)
    exact ms_ireti C hR rfl rfl dX9_count_79
  refine ms_split (fun c13 => ?_) (fun c13 => ?_)
  · refine ms_tableIn (tgt := 80) C dX9_count_1 (by rw [c13]; decide) (by rw [c13]; decide) (by rw [c13]; rfl) (by decide) ?_
    refine ms_aload_n C dX9_count_80 0 rfl ?_
    refine ms_getr C dX9_count_81 (zz0 (G := xg X) Nat.one_pos) (k := 9) (Nat.le_of_ble_eq_true rfl) (b := xad X 8 0) rfl (Cn := RX9) (T := TX9) rfl inX9_X9_count rfl (by decide +kernel) ?_
    refine ms_geti C dX9_count_84 (zz8 (G := xg X) Nat.one_pos) (k := 2) (Nat.le_of_ble_eq_true rfl) rfl (Cn := RX3) (T := TX3) rfl inX3_X9_count rfl (by decide +kernel) (fun v14 => ?_)
    exact ms_ireti C hR rfl rfl dX9_count_87
  refine ms_tableOut (tgt := 88) C dX9_count_1 (by have ec1 : ¬ a0.toInt = 0 := fun q => c1 (Int32.toInt_inj.mp q); have ec3 : ¬ a0.toInt = 1 := fun q => c3 (Int32.toInt_inj.mp q); have ec5 : ¬ a0.toInt = 2 := fun q => c5 (Int32.toInt_inj.mp q); have ec7 : ¬ a0.toInt = 3 := fun q => c7 (Int32.toInt_inj.mp q); have ec9 : ¬ a0.toInt = 4 := fun q => c9 (Int32.toInt_inj.mp q); have ec11 : ¬ a0.toInt = 5 := fun q => c11 (Int32.toInt_inj.mp q); have ec13 : ¬ a0.toInt = 6 := fun q => c13 (Int32.toInt_inj.mp q); omega) (by decide) ?_
  refine ms_iconst C (-1 : Int32) dX9_count_88 (by decide) ?_
  exact ms_ireti C hR rfl rfl dX9_count_89
