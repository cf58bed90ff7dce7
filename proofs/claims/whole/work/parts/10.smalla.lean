def rmX1_nextRow : Room := { frames := 1, cells := 0, slots := 0, locals := 21 }
theorem inX1_X1_nextRow : ∀ w ∈ wsX10, w ∈ wsX1_nextRow := by decide +kernel
set_option maxRecDepth 100000 in
set_option maxHeartbeats 4000000 in
theorem mtX1_nextRow (l : Launch) (G : mh_G) (n : Nat) (M : mh_M) {z : mh_M × Nat} (ho : fX1_nextRow n M = some z) : Met l yX1_nextRow wsX1_nextRow rmX1_nextRow (mh_Pc G M [.ref (G.2.2 5 0)]) (mh_Q G z.1 (some (.ref (G.2.2 30 z.2)))) 0 0 (mh_dom G) := by
  refine mh_met (cc := cX1_nextRow) (maxL := 2) (ret := (some (.object "BarMeasure$Act"))) (by decide) rfl (Nat.le_of_ble_eq_true rfl) ho ?_
  rintro X rfl rfl C hR
  show mh_W X rmX1_nextRow 2 _ z M 0 [(0, .ref (xad X 5 0))] []
  replace C : mh_C X rmX1_nextRow cX1_nextRow wsX1_nextRow RX1 2 := C
  unfold fX1_nextRow
  refine ms_aload_n C dX1_nextRow_0 0 rfl ?_
  refine ms_getr C dX1_nextRow_1 (zz5 (G := xg X) Nat.one_pos) (k := 0) (Nat.le_of_ble_eq_true rfl) (b := xad X 6 0) rfl (Cn := RX1) (T := TX1) rfl inX1_X1_nextRow rfl (by decide +kernel) ?_
  refine ms_aload_n C dX1_nextRow_4 0 rfl ?_
  refine ms_geti C dX1_nextRow_5 (zz5 (G := xg X) Nat.one_pos) (k := 2) (Nat.le_of_ble_eq_true rfl) rfl (Cn := RX1) (T := TX1) rfl inX1_X1_nextRow rfl (by decide +kernel) (fun v1 => ?_)
  refine ms_ald C dX1_nextRow_8 (zz6 (G := xg X) Nat.one_pos) rfl rfl (fun q2 hq2 => ?_)
  refine ms_astore_n (L' := [(1, .ref (xad X 30 q2)), (0, .ref (xad X 5 0))]) C dX1_nextRow_9 rfl (by decide) rfl ?_
  refine ms_aload_n C dX1_nextRow_10 1 rfl ?_
  refine ms_aload_n C dX1_nextRow_11 1 rfl ?_
  refine ms_geti C dX1_nextRow_12 (zz5 (G := xg X) Nat.one_pos) (k := 2) (Nat.le_of_ble_eq_true rfl) rfl (Cn := RX1) (T := TX1) rfl inX1_X1_nextRow rfl (by decide +kernel) (fun v3 => ?_)
  refine ms_iconst C (1 : Int32) dX1_nextRow_15 (by decide) ?_
  refine ms_iadd C dX1_nextRow_16 (fun v4 => ?_)
  refine ms_bipush C (40 : Int32) dX1_nextRow_17 (by decide) ?_
  refine ms_irem C dX1_nextRow_19 (fun v5 => ?_)
  refine ms_puti C dX1_nextRow_20 tyX1 tyX1_ok nmX1 (zz5 (G := xg X) Nat.one_pos) (k := 2) (Nat.le_of_ble_eq_true rfl) rfl (Cn := RX1) (T := TX1) rfl inX1_X1_nextRow rfl (by decide +kernel) rfl (by decide +kernel) (fun M6 => ?_)
  refine ms_aload_n C dX1_nextRow_23 1 rfl ?_
  refine ms_aload_n C dX1_nextRow_24 1 rfl ?_
  refine ms_geti C dX1_nextRow_25 (zz5 (G := xg X) Nat.one_pos) (k := 1) (Nat.le_of_ble_eq_true rfl) rfl (Cn := RX1) (T := TX1) rfl inX1_X1_nextRow rfl (by decide +kernel) (fun v7 => ?_)
  refine ms_iconst C (1 : Int32) dX1_nextRow_28 (by decide) ?_
  refine ms_iadd C dX1_nextRow_29 (fun v8 => ?_)
  refine ms_bipush C (40 : Int32) dX1_nextRow_30 (by decide) ?_
  refine ms_mmin C dX1_nextRow_32 (by decide +kernel) (by decide +kernel) (by decide +kernel) (by decide +kernel) (Nat.le_of_ble_eq_true rfl) (Nat.le_of_ble_eq_true rfl) (fun v9 => ?_)
  refine ms_puti C dX1_nextRow_35 tyX1 tyX1_ok nmX1 (zz5 (G := xg X) Nat.one_pos) (k := 1) (Nat.le_of_ble_eq_true rfl) rfl (Cn := RX1) (T := TX1) rfl inX1_X1_nextRow rfl (by decide +kernel) rfl (by decide +kernel) (fun M10 => ?_)
  refine ms_aload_n C dX1_nextRow_38 0 rfl ?_
  exact ms_aretm C hR dX1_nextRow_39
def rmX1_takeLatest : Room := { frames := 0, cells := 0, slots := 0, locals := 0 }
theorem inX1_X1_takeLatest : ∀ w ∈ wsX10, w ∈ wsX1_takeLatest := by decide +kernel
set_option maxRecDepth 100000 in
set_option maxHeartbeats 4000000 in
theorem mtX1_takeLatest (l : Launch) (G : mh_G) (n : Nat) (M : mh_M) {z : mh_M × Nat} (ho : fX1_takeLatest n M = some z) : Met l yX1_takeLatest wsX1_takeLatest rmX1_takeLatest (mh_Pc G M [.ref (G.2.2 5 0)]) (mh_Q G z.1 (some (.ref (G.2.2 30 z.2)))) 0 0 (mh_dom G) := by
  refine mh_met (cc := cX1_takeLatest) (maxL := 1) (ret := (some (.object "BarMeasure$Act"))) (by decide) rfl (Nat.le_of_ble_eq_true rfl) ho ?_
  rintro X rfl rfl C hR
  show mh_W X rmX1_takeLatest 1 _ z M 0 [(0, .ref (xad X 5 0))] []
  replace C : mh_C X rmX1_takeLatest cX1_takeLatest wsX1_takeLatest RX1 1 := C
  unfold fX1_takeLatest
  refine ms_aload_n C dX1_takeLatest_0 0 rfl ?_
  refine ms_aload_n C dX1_takeLatest_1 0 rfl ?_
  refine ms_geti C dX1_takeLatest_2 (zz5 (G := xg X) Nat.one_pos) (k := 2) (Nat.le_of_ble_eq_true rfl) rfl (Cn := RX1) (T := TX1) rfl inX1_X1_takeLatest rfl (by decide +kernel) (fun v1 => ?_)
  refine ms_bipush C (40 : Int32) dX1_takeLatest_5 (by decide) ?_
  refine ms_iadd C dX1_takeLatest_7 (fun v2 => ?_)
  refine ms_iconst C (1 : Int32) dX1_takeLatest_8 (by decide) ?_
  refine ms_isub C dX1_takeLatest_9 (fun v3 => ?_)
  refine ms_bipush C (40 : Int32) dX1_takeLatest_10 (by decide) ?_
  refine ms_irem C dX1_takeLatest_12 (fun v4 => ?_)
  refine ms_puti C dX1_takeLatest_13 tyX1 tyX1_ok nmX1 (zz5 (G := xg X) Nat.one_pos) (k := 2) (Nat.le_of_ble_eq_true rfl) rfl (Cn := RX1) (T := TX1) rfl inX1_X1_takeLatest rfl (by decide +kernel) rfl (by decide +kernel) (fun M5 => ?_)
  refine ms_aload_n C dX1_takeLatest_16 0 rfl ?_
  refine ms_dup C dX1_takeLatest_17 rfl ?_
  refine ms_geti C dX1_takeLatest_18 (zz5 (G := xg X) Nat.one_pos) (k := 1) (Nat.le_of_ble_eq_true rfl) rfl (Cn := RX1) (T := TX1) rfl inX1_X1_takeLatest rfl (by decide +kernel) (fun v6 => ?_)
  refine ms_iconst C (1 : Int32) dX1_takeLatest_21 (by decide) ?_
  refine ms_isub C dX1_takeLatest_22 (fun v7 => ?_)
  refine ms_puti C dX1_takeLatest_23 tyX1 tyX1_ok nmX1 (zz5 (G := xg X) Nat.one_pos) (k := 1) (Nat.le_of_ble_eq_true rfl) rfl (Cn := RX1) (T := TX1) rfl inX1_X1_takeLatest rfl (by decide +kernel) rfl (by decide +kernel) (fun M8 => ?_)
  refine ms_aload_n C dX1_takeLatest_26 0 rfl ?_
  refine ms_getr C dX1_takeLatest_27 (zz5 (G := xg X) Nat.one_pos) (k := 0) (Nat.le_of_ble_eq_true rfl) (b := xad X 6 0) rfl (Cn := RX1) (T := TX1) rfl inX1_X1_takeLatest rfl (by decide +kernel) ?_
  refine ms_aload_n C dX1_takeLatest_30 0 rfl ?_
  refine ms_geti C dX1_takeLatest_31 (zz5 (G := xg X) Nat.one_pos) (k := 2) (Nat.le_of_ble_eq_true rfl) rfl (Cn := RX1) (T := TX1) rfl inX1_X1_takeLatest rfl (by decide +kernel) (fun v9 => ?_)
  refine ms_ald C dX1_takeLatest_34 (zz6 (G := xg X) Nat.one_pos) rfl rfl (fun q10 hq10 => ?_)
  exact ms_aretm C hR dX1_takeLatest_35
def rmX2_add : Room := { frames := 0, cells := 0, slots := 0, locals := 0 }
theorem inX2_X2_add : ∀ w ∈ wsX20, w ∈ wsX2_add := by decide +kernel
set_option maxRecDepth 100000 in
set_option maxHeartbeats 4000000 in
theorem mtX2_add (l : Launch) (G : mh_G) (n : Nat) (M : mh_M) (a0 : Int32) (a1 : Int32) {z : mh_M} (ho : fX2_add n M a0 a1 = some z) : Met l yX2_add wsX2_add rmX2_add (mh_Pc G M [.ref (G.2.2 15 0), .int a0, .int a1]) (mh_Q G z none) 0 0 (mh_dom G) := by
  refine mh_met (cc := cX2_add) (maxL := 3) (ret := none) (by decide) rfl (Nat.le_of_ble_eq_true rfl) ho ?_
  rintro X rfl rfl C hR
  show mh_W X rmX2_add 3 _ z M 0 [(0, .ref (xad X 15 0)), (1, .int a0), (2, .int a1)] []
  replace C : mh_C X rmX2_add cX2_add wsX2_add RX2 3 := C
  unfold fX2_add
  refine ms_aload_n C dX2_add_0 0 rfl ?_
  refine ms_getr C dX2_add_1 (zz15 (G := xg X) Nat.one_pos) (k := 0) (Nat.le_of_ble_eq_true rfl) (b := xad X 16 0) rfl (Cn := RX2) (T := TX2) rfl inX2_X2_add rfl (by decide +kernel) ?_
  refine ms_aload_n C dX2_add_4 0 rfl ?_
  refine ms_geti C dX2_add_5 (zz15 (G := xg X) Nat.one_pos) (k := 2) (Nat.le_of_ble_eq_true rfl) rfl (Cn := RX2) (T := TX2) rfl inX2_X2_add rfl (by decide +kernel) (fun v1 => ?_)
  refine ms_iload_n C dX2_add_8 1 rfl ?_
  refine ms_st C dX2_add_9 (zz16 (G := xg X) Nat.one_pos) rfl (fun _ M2 => ?_)
  refine ms_aload_n C dX2_add_10 0 rfl ?_
  refine ms_getr C dX2_add_11 (zz15 (G := xg X) Nat.one_pos) (k := 1) (Nat.le_of_ble_eq_true rfl) (b := xad X 17 0) rfl (Cn := RX2) (T := TX2) rfl inX2_X2_add rfl (by decide +kernel) ?_
  refine ms_aload_n C dX2_add_14 0 rfl ?_
  refine ms_geti C dX2_add_15 (zz15 (G := xg X) Nat.one_pos) (k := 2) (Nat.le_of_ble_eq_true rfl) rfl (Cn := RX2) (T := TX2) rfl inX2_X2_add rfl (by decide +kernel) (fun v3 => ?_)
  refine ms_iload_n C dX2_add_18 2 rfl ?_
  refine ms_st C dX2_add_19 (zz17 (G := xg X) Nat.one_pos) rfl (fun _ M4 => ?_)
  refine ms_aload_n C dX2_add_20 0 rfl ?_
  refine ms_dup C dX2_add_21 rfl ?_
  refine ms_geti C dX2_add_22 (zz15 (G := xg X) Nat.one_pos) (k := 2) (Nat.le_of_ble_eq_true rfl) rfl (Cn := RX2) (T := TX2) rfl inX2_X2_add rfl (by decide +kernel) (fun v5 => ?_)
  refine ms_iconst C (1 : Int32) dX2_add_25 (by decide) ?_
  refine ms_iadd C dX2_add_26 (fun v6 => ?_)
  refine ms_puti C dX2_add_27 tyX2 tyX2_ok nmX2 (zz15 (G := xg X) Nat.one_pos) (k := 2) (Nat.le_of_ble_eq_true rfl) rfl (Cn := RX2) (T := TX2) rfl inX2_X2_add rfl (by decide +kernel) rfl (by decide +kernel) (fun M7 => ?_)
  exact ms_vretm C hR dX2_add_30
def rmX2_priceWithOneMore : Room := { frames := 0, cells := 0, slots := 0, locals := 0 }
theorem inX2_X2_priceWithOneMore : ∀ w ∈ wsX20, w ∈ wsX2_priceWithOneMore := by decide +kernel
set_option maxRecDepth 100000 in
set_option maxHeartbeats 4000000 in
theorem mtX2_priceWithOneMore (l : Launch) (G : mh_G) (n : Nat) (M : mh_M) (a0 : Int32) (a1 : Int32) {z : Int32} (ho : fX2_priceWithOneMore n M a0 a1 = some z) : Met l yX2_priceWithOneMore wsX2_priceWithOneMore rmX2_priceWithOneMore (mh_Pc G M [.ref (G.2.2 15 0), .int a0, .int a1]) (mh_Q G M (some (.int z))) 0 0 (mh_dom G) := by
  refine mh_met (cc := cX2_priceWithOneMore) (maxL := 3) (ret := (some .int)) (by decide) rfl (Nat.le_of_ble_eq_true rfl) ho ?_
  rintro X rfl rfl C hR
  show mh_W X rmX2_priceWithOneMore 3 _ z M 0 [(0, .ref (xad X 15 0)), (1, .int a0), (2, .int a1)] []
  replace C : mh_C X rmX2_priceWithOneMore cX2_priceWithOneMore wsX2_priceWithOneMore RX2 3 := C
  unfold fX2_priceWithOneMore
  refine ms_iload_n C dX2_priceWithOneMore_0 2 rfl ?_
  refine ms_aload_n C dX2_priceWithOneMore_1 0 rfl ?_
  refine ms_getr C dX2_priceWithOneMore_2 (zz15 (G := xg X) Nat.one_pos) (k := 0) (Nat.le_of_ble_eq_true rfl) (b := xad X 16 0) rfl (Cn := RX2) (T := TX2) rfl inX2_X2_priceWithOneMore rfl (by decide +kernel) ?_
  refine ms_iload_n C dX2_priceWithOneMore_5 1 rfl ?_
  refine ms_ld C dX2_priceWithOneMore_6 (zz16 (G := xg X) Nat.one_pos) rfl (fun _ v1 => ?_)
  refine ms_icmp_ge (tgt := 15) C dX2_priceWithOneMore_7 (by decide) (fun c2 => ?_) (fun c2 => ?_)
  · refine ms_aload_n C dX2_priceWithOneMore_15 0 rfl ?_
    refine ms_getr C dX2_priceWithOneMore_16 (zz15 (G := xg X) Nat.one_pos) (k := 3) (Nat.le_of_ble_eq_true rfl) (b := xad X 18 0) rfl (Cn := RX2) (T := TX2) rfl inX2_X2_priceWithOneMore rfl (by decide +kernel) ?_
    refine ms_iload_n C dX2_priceWithOneMore_19 1 rfl ?_
    refine ms_ald C dX2_priceWithOneMore_20 (zz18 (G := xg X) Nat.one_pos) rfl rfl (fun q3 hq3 => ?_)
    refine ms_iload_n C dX2_priceWithOneMore_21 2 rfl ?_
    refine ms_aload_n C dX2_priceWithOneMore_22 0 rfl ?_
    refine ms_getr C dX2_priceWithOneMore_23 (zz15 (G := xg X) Nat.one_pos) (k := 0) (Nat.le_of_ble_eq_true rfl) (b := xad X 16 0) rfl (Cn := RX2) (T := TX2) rfl inX2_X2_priceWithOneMore rfl (by decide +kernel) ?_
    refine ms_iload_n C dX2_priceWithOneMore_26 1 rfl ?_
    refine ms_ld C dX2_priceWithOneMore_27 (zz16 (G := xg X) Nat.one_pos) rfl (fun _ v4 => ?_)
    refine ms_isub C dX2_priceWithOneMore_28 (fun v5 => ?_)
    refine ms_ld C dX2_priceWithOneMore_29 (zz19 (G := xg X) hq3) rfl (fun _ v6 => ?_)
    refine ms_aload_n C dX2_priceWithOneMore_30 0 rfl ?_
    refine ms_getr C dX2_priceWithOneMore_31 (zz15 (G := xg X) Nat.one_pos) (k := 1) (Nat.le_of_ble_eq_true rfl) (b := xad X 17 0) rfl (Cn := RX2) (T := TX2) rfl inX2_X2_priceWithOneMore rfl (by decide +kernel) ?_
    refine ms_iload_n C dX2_priceWithOneMore_34 1 rfl ?_
    refine ms_ld C dX2_priceWithOneMore_35 (zz17 (G := xg X) Nat.one_pos) rfl (fun _ v7 => ?_)
    refine ms_iadd C dX2_priceWithOneMore_36 (fun v8 => ?_)
    exact ms_ireti C hR rfl rfl dX2_priceWithOneMore_37
  · refine ms_ldc C (1000000000 : Int32) dX2_priceWithOneMore_10 (by decide +kernel) ?_
    refine ms_goto (tgt := 37) C dX2_priceWithOneMore_12 (by decide) ?_
    exact ms_ireti C hR rfl rfl dX2_priceWithOneMore_37
def rmX2_weighUp : Room := { frames := 1, cells := 0, slots := 0, locals := 22 }
theorem inX2_X2_weighUp : ∀ w ∈ wsX20, w ∈ wsX2_weighUp := by decide +kernel
set_option maxRecDepth 100000 in
set_option maxHeartbeats 4000000 in
theorem mtX2_weighUp_L49 {X : mh_X} {n : Nat} {z : mh_M} (x1 : Int32) (C : mh_C X rmX2_weighUp cX2_weighUp wsX2_weighUp RX2 3) (hR : mh_R X none z none) (k43 : mh_M → Int32 → Option (mh_M)) (hk43 : ∀ (M : mh_M) (x1 : Int32), mh_W X rmX2_weighUp 3 (k43 M x1) z M 43 [(0, .ref (xad X 15 0)), (1, .int x1)] []) : ∀ (k : Nat) (M : mh_M) (x2 : Int32), mh_W X rmX2_weighUp 3 (itr2 (fX2_weighUp_L49 n x1 k43) k M x2) z M 49 [(0, .ref (xad X 15 0)), (1, .int x1), (2, .int x2)] [] := by
  intro k
  induction k with
  | zero =>
    intro M x2
    exact ms_none
  | succ k ih =>
    intro M x2
    show mh_W X rmX2_weighUp 3 (fX2_weighUp_L49 n x1 k43 (itr2 (fX2_weighUp_L49 n x1 k43) k) M x2) z M 49 [(0, .ref (xad X 15 0)), (1, .int x1), (2, .int x2)] []
    generalize itr2 (fX2_weighUp_L49 n x1 k43) k = rec at ih ⊢
    unfold fX2_weighUp_L49
    refine ms_iload_n C dX2_weighUp_49 2 rfl ?_
    refine ms_sipush C (144 : Int32) dX2_weighUp_50 (by decide) ?_
    refine ms_icmp_ge (tgt := 89) C dX2_weighUp_53 (by decide) (fun c5 => ?_) (fun c5 => ?_)
    · refine ms_iinc (L' := fun v6 => [(1, .int v6), (0, .ref (xad X 15 0)), (2, .int x2)]) C dX2_weighUp_89 1 rfl (c := -1) (by decide) (by decide) (fun _ => rfl) (fun v6 => ?_)
      refine ms_goto (tgt := 43) C dX2_weighUp_92 (by decide) ?_
      exact ms_sub [1, 0] rfl (hk43 M v6)
    · refine ms_aload_n C dX2_weighUp_56 0 rfl ?_
      refine ms_getr C dX2_weighUp_57 (zz15 (G := xg X) Nat.one_pos) (k := 3) (Nat.le_of_ble_eq_true rfl) (b := xad X 18 0) rfl (Cn := RX2) (T := TX2) rfl inX2_X2_weighUp rfl (by decide +kernel) ?_
      refine ms_iload_n C dX2_weighUp_60 1 rfl ?_
      refine ms_ald C dX2_weighUp_61 (zz18 (G := xg X) Nat.one_pos) rfl rfl (fun q7 hq7 => ?_)
      refine ms_iload_n C dX2_weighUp_62 2 rfl ?_
      refine ms_aload_n C dX2_weighUp_63 0 rfl ?_
      refine ms_getr C dX2_weighUp_64 (zz15 (G := xg X) Nat.one_pos) (k := 3) (Nat.le_of_ble_eq_true rfl) (b := xad X 18 0) rfl (Cn := RX2) (T := TX2) rfl inX2_X2_weighUp rfl (by decide +kernel) ?_
      refine ms_iload_n C dX2_weighUp_67 1 rfl ?_
      refine ms_iconst C (1 : Int32) dX2_weighUp_68 (by decide) ?_
      refine ms_iadd C dX2_weighUp_69 (fun v8 => ?_)
      refine ms_ald C dX2_weighUp_70 (zz18 (G := xg X) Nat.one_pos) rfl rfl (fun q9 hq9 => ?_)
      refine ms_iload_n C dX2_weighUp_71 2 rfl ?_
      refine ms_ld C dX2_weighUp_72 (zz19 (G := xg X) hq9) rfl (fun _ v10 => ?_)
      refine ms_aload_n C dX2_weighUp_73 0 rfl ?_
      refine ms_iload_n C dX2_weighUp_74 1 rfl ?_
      refine ms_iload_n C dX2_weighUp_75 2 rfl ?_
      refine ms_callVi (As := [.int x1, .int x2]) C dX2_weighUp_76 (fun _ h => mtX2_priceWithOneMore (xl X) (xg X) n M x1 x2 h) (cwV 2 C.2.2.1 gX2_weighUp_X2_priceWithOneMore rfl rfl rfl (by decide +kernel) ⟨Nat.le_of_ble_eq_true rfl, Nat.le_of_ble_eq_true rfl⟩) (zz15 (G := xg X) Nat.one_pos) (T := TX2) rfl rfl rfl (Nat.le_of_ble_eq_true rfl) (fun v11 => ?_)
      refine ms_mmin C dX2_weighUp_79 (by decide +kernel) (by decide +kernel) (by decide +kernel) (by decide +kernel) (Nat.le_of_ble_eq_true rfl) (Nat.le_of_ble_eq_true rfl) (fun v12 => ?_)
      refine ms_st C dX2_weighUp_82 (zz19 (G := xg X) hq7) rfl (fun _ M13 => ?_)
      refine ms_iinc (L' := fun v14 => [(2, .int v14), (0, .ref (xad X 15 0)), (1, .int x1)]) C dX2_weighUp_83 2 rfl (c := 1) (by decide) (by decide) (fun _ => rfl) (fun v14 => ?_)
      refine ms_goto (tgt := 49) C dX2_weighUp_86 (by decide) ?_
      exact ms_sub [1, 2, 0] rfl (ih M13 v14)
set_option maxRecDepth 100000 in
set_option maxHeartbeats 4000000 in
theorem mtX2_weighUp_L43 {X : mh_X} {n : Nat} {z : mh_M} (C : mh_C X rmX2_weighUp cX2_weighUp wsX2_weighUp RX2 3) (hR : mh_R X none z none) : ∀ (k : Nat) (M : mh_M) (x1 : Int32), mh_W X rmX2_weighUp 3 (itr2 (fX2_weighUp_L43 n) k M x1) z M 43 [(0, .ref (xad X 15 0)), (1, .int x1)] [] := by
  intro k
  induction k with
  | zero =>
    intro M x1
    exact ms_none
  | succ k ih =>
    intro M x1
    show mh_W X rmX2_weighUp 3 (fX2_weighUp_L43 n (itr2 (fX2_weighUp_L43 n) k) M x1) z M 43 [(0, .ref (xad X 15 0)), (1, .int x1)] []
    generalize itr2 (fX2_weighUp_L43 n) k = rec at ih ⊢
    unfold fX2_weighUp_L43
    refine ms_iload_n C dX2_weighUp_43 1 rfl ?_
    refine ms_if_lt (tgt := 95) C dX2_weighUp_44 (by decide) (fun c4 => ?_) (fun c4 => ?_)
    · exact ms_vretm C hR dX2_weighUp_95
    · refine ms_iconst C (0 : Int32) dX2_weighUp_47 (by decide) ?_
      refine ms_istore_n (L' := [(2, .int (0 : Int32)), (0, .ref (xad X 15 0)), (1, .int x1)]) C dX2_weighUp_48 rfl (by decide) rfl ?_
      exact ms_sub [1, 2, 0] rfl (mtX2_weighUp_L49 (n := n) x1 C hR rec ih n M (0 : Int32))
set_option maxRecDepth 100000 in
set_option maxHeartbeats 4000000 in
theorem mtX2_weighUp_L2 {X : mh_X} {n : Nat} {z : mh_M} (C : mh_C X rmX2_weighUp cX2_weighUp wsX2_weighUp RX2 3) (hR : mh_R X none z none) : ∀ (k : Nat) (M : mh_M) (x1 : Int32), mh_W X rmX2_weighUp 3 (itr2 (fX2_weighUp_L2 n) k M x1) z M 2 [(0, .ref (xad X 15 0)), (1, .int x1)] [] := by
  intro k
  induction k with
  | zero =>
    intro M x1
    exact ms_none
  | succ k ih =>
    intro M x1
    show mh_W X rmX2_weighUp 3 (fX2_weighUp_L2 n (itr2 (fX2_weighUp_L2 n) k) M x1) z M 2 [(0, .ref (xad X 15 0)), (1, .int x1)] []
    generalize itr2 (fX2_weighUp_L2 n) k = rec at ih ⊢
    unfold fX2_weighUp_L2
    refine ms_iload_n C dX2_weighUp_2 1 rfl ?_
    refine ms_sipush C (144 : Int32) dX2_weighUp_3 (by decide) ?_
    refine ms_icmp_ge (tgt := 36) C dX2_weighUp_6 (by decide) (fun c1 => ?_) (fun c1 => ?_)
    · refine ms_aload_n C dX2_weighUp_36 0 rfl ?_
      refine ms_geti C dX2_weighUp_37 (zz15 (G := xg X) Nat.one_pos) (k := 2) (Nat.le_of_ble_eq_true rfl) rfl (Cn := RX2) (T := TX2) rfl inX2_X2_weighUp rfl (by decide +kernel) (fun v2 => ?_)
      refine ms_iconst C (1 : Int32) dX2_weighUp_40 (by decide) ?_
      refine ms_isub C dX2_weighUp_41 (fun v3 => ?_)
      refine ms_istore_n (L' := [(1, .int v3), (0, .ref (xad X 15 0))]) C dX2_weighUp_42 rfl (by decide) rfl ?_
      exact ms_sub [1, 0] rfl (mtX2_weighUp_L43 (n := n) C hR n M v3)
    · refine ms_aload_n C dX2_weighUp_9 0 rfl ?_
      refine ms_getr C dX2_weighUp_10 (zz15 (G := xg X) Nat.one_pos) (k := 3) (Nat.le_of_ble_eq_true rfl) (b := xad X 18 0) rfl (Cn := RX2) (T := TX2) rfl inX2_X2_weighUp rfl (by decide +kernel) ?_
      refine ms_aload_n C dX2_weighUp_13 0 rfl ?_
      refine ms_geti C dX2_weighUp_14 (zz15 (G := xg X) Nat.one_pos) (k := 2) (Nat.le_of_ble_eq_true rfl) rfl (Cn := RX2) (T := TX2) rfl inX2_X2_weighUp rfl (by decide +kernel) (fun v15 => ?_)
      refine ms_ald C dX2_weighUp_17 (zz18 (G := xg X) Nat.one_pos) rfl rfl (fun q16 hq16 => ?_)
      refine ms_iload_n C dX2_weighUp_18 1 rfl ?_
      refine ms_iload_n C dX2_weighUp_19 1 rfl ?_
      refine ms_if_ne (tgt := 27) C dX2_weighUp_20 (by decide) (fun c17 => ?_) (fun c17 => ?_)
      · refine ms_ldc C (1000000000 : Int32) dX2_weighUp_27 (by decide +kernel) ?_
        refine ms_st C dX2_weighUp_29 (zz19 (G := xg X) hq16) rfl (fun _ M18 => ?_)
        refine ms_iinc (L' := fun v19 => [(1, .int v19), (0, .ref (xad X 15 0))]) C dX2_weighUp_30 1 rfl (c := 1) (by decide) (by decide) (fun _ => rfl) (fun v19 => ?_)
        refine ms_goto (tgt := 2) C dX2_weighUp_33 (by decide) ?_
        exact ms_sub [1, 0] rfl (ih M18 v19)
      · refine ms_iconst C (0 : Int32) dX2_weighUp_23 (by decide) ?_
        refine ms_goto (tgt := 29) C dX2_weighUp_24 (by decide) ?_
        refine ms_st C dX2_weighUp_29 (zz19 (G := xg X) hq16) rfl (fun _ M20 => ?_)
        refine ms_iinc (L' := fun v21 => [(1, .int v21), (0, .ref (xad X 15 0))]) C dX2_weighUp_30 1 rfl (c := 1) (by decide) (by decide) (fun _ => rfl) (fun v21 => ?_)
        refine ms_goto (tgt := 2) C dX2_weighUp_33 (by decide) ?_
        exact ms_sub [1, 0] rfl (ih M20 v21)
set_option maxRecDepth 100000 in
set_option maxHeartbeats 4000000 in
theorem mtX2_weighUp (l : Launch) (G : mh_G) (n : Nat) (M : mh_M) {z : mh_M} (ho : fX2_weighUp n M = some z) : Met l yX2_weighUp wsX2_weighUp rmX2_weighUp (mh_Pc G M [.ref (G.2.2 15 0)]) (mh_Q G z none) 0 0 (mh_dom G) := by
  refine mh_met (cc := cX2_weighUp) (maxL := 3) (ret := none) (by decide) rfl (Nat.le_of_ble_eq_true rfl) ho ?_
  rintro X rfl rfl C hR
  show mh_W X rmX2_weighUp 3 _ z M 0 [(0, .ref (xad X 15 0))] []
  replace C : mh_C X rmX2_weighUp cX2_weighUp wsX2_weighUp RX2 3 := C
  unfold fX2_weighUp
  refine ms_iconst C (0 : Int32) dX2_weighUp_0 (by decide) ?_
  refine ms_istore_n (L' := [(1, .int (0 : Int32)), (0, .ref (xad X 15 0))]) C dX2_weighUp_1 rfl (by decide) rfl ?_
  exact ms_sub [1, 0] rfl (mtX2_weighUp_L2 (n := n) C hR n M (0 : Int32))
def rmX2_leastFor : Room := { frames := 0, cells := 0, slots := 0, locals := 0 }
theorem inX2_X2_leastFor : ∀ w ∈ wsX20, w ∈ wsX2_leastFor := by decide +kernel
set_option maxRecDepth 100000 in
set_option maxHeartbeats 4000000 in
theorem mtX2_leastFor (l : Launch) (G : mh_G) (n : Nat) (M : mh_M) (a0 : Int32) {z : Int32} (ho : fX2_leastFor n M a0 = some z) : Met l yX2_leastFor wsX2_leastFor rmX2_leastFor (mh_Pc G M [.ref (G.2.2 15 0), .int a0]) (mh_Q G M (some (.int z))) 0 0 (mh_dom G) := by
  refine mh_met (cc := cX2_leastFor) (maxL := 2) (ret := (some .int)) (by decide) rfl (Nat.le_of_ble_eq_true rfl) ho ?_
  rintro X rfl rfl C hR
  show mh_W X rmX2_leastFor 2 _ z M 0 [(0, .ref (xad X 15 0)), (1, .int a0)] []
  replace C : mh_C X rmX2_leastFor cX2_leastFor wsX2_leastFor RX2 2 := C
  unfold fX2_leastFor
  refine ms_aload_n C dX2_leastFor_0 0 rfl ?_
  refine ms_getr C dX2_leastFor_1 (zz15 (G := xg X) Nat.one_pos) (k := 3) (Nat.le_of_ble_eq_true rfl) (b := xad X 18 0) rfl (Cn := RX2) (T := TX2) rfl inX2_X2_leastFor rfl (by decide +kernel) ?_
  refine ms_iconst C (0 : Int32) dX2_leastFor_4 (by decide) ?_
  refine ms_ald C dX2_leastFor_5 (zz18 (G := xg X) Nat.one_pos) rfl rfl (fun q1 hq1 => ?_)
  refine ms_iload_n C dX2_leastFor_6 1 rfl ?_
  refine ms_ld C dX2_leastFor_7 (zz19 (G := xg X) hq1) rfl (fun _ v2 => ?_)
  exact ms_ireti C hR rfl rfl dX2_leastFor_8
def rmX2_bestBottles : Room := { frames := 0, cells := 0, slots := 0, locals := 0 }
theorem inX2_X2_bestBottles : ∀ w ∈ wsX20, w ∈ wsX2_bestBottles := by decide +kernel
set_option maxRecDepth 100000 in
set_option maxHeartbeats 4000000 in
theorem mtX2_bestBottles_L6 {X : mh_X} {n : Nat} {z : Int32} (M : mh_M) (C : mh_C X rmX2_bestBottles cX2_bestBottles wsX2_bestBottles RX2 4) (hR : mh_R X (some .int) M (some (.int z))) : ∀ (k : Nat) (x2 : Int32) (x3 : Int32), mh_W X rmX2_bestBottles 4 (itr2 (fX2_bestBottles_L6 n M) k x2 x3) z M 6 [(0, .ref (xad X 15 0)), (2, .int x2), (3, .int x3)] [] := by
  intro k
  induction k with
  | zero =>
    intro x2 x3
    exact ms_none
  | succ k ih =>
    intro x2 x3
    show mh_W X rmX2_bestBottles 4 (fX2_bestBottles_L6 n M (itr2 (fX2_bestBottles_L6 n M) k) x2 x3) z M 6 [(0, .ref (xad X 15 0)), (2, .int x2), (3, .int x3)] []
    generalize itr2 (fX2_bestBottles_L6 n M) k = rec at ih ⊢
    unfold fX2_bestBottles_L6
    refine ms_iload_n C dX2_bestBottles_6 2 rfl ?_
    refine ms_sipush C (144 : Int32) dX2_bestBottles_7 (by decide) ?_
    refine ms_icmp_ge (tgt := 40) C dX2_bestBottles_10 (by decide) (fun c2 => ?_) (fun c2 => ?_)
    · refine ms_iload_n C dX2_bestBottles_40 1 rfl ?_
      exact ms_ireti C hR rfl rfl dX2_bestBottles_41
    · refine ms_aload_n C dX2_bestBottles_13 0 rfl ?_
      refine ms_getr C dX2_bestBottles_14 (zz15 (G := xg X) Nat.one_pos) (k := 3) (Nat.le_of_ble_eq_true rfl) (b := xad X 18 0) rfl (Cn := RX2) (T := TX2) rfl inX2_X2_bestBottles rfl (by decide +kernel) ?_
      refine ms_iconst C (0 : Int32) dX2_bestBottles_17 (by decide) ?_
      refine ms_ald C dX2_bestBottles_18 (zz18 (G := xg X) Nat.one_pos) rfl rfl (fun q3 hq3 => ?_)
      refine ms_iload_n C dX2_bestBottles_19 2 rfl ?_
      refine ms_ld C dX2_bestBottles_20 (zz19 (G := xg X) hq3) rfl (fun _ v4 => ?_)
      refine ms_aload_n C dX2_bestBottles_21 0 rfl ?_
      refine ms_getr C dX2_bestBottles_22 (zz15 (G := xg X) Nat.one_pos) (k := 3) (Nat.le_of_ble_eq_true rfl) (b := xad X 18 0) rfl (Cn := RX2) (T := TX2) rfl inX2_X2_bestBottles rfl (by decide +kernel) ?_
      refine ms_iconst C (0 : Int32) dX2_bestBottles_25 (by decide) ?_
      refine ms_ald C dX2_bestBottles_26 (zz18 (G := xg X) Nat.one_pos) rfl rfl (fun q5 hq5 => ?_)
      refine ms_iload_n C dX2_bestBottles_27 1 rfl ?_
      refine ms_ld C dX2_bestBottles_28 (zz19 (G := xg X) hq5) rfl (fun _ v6 => ?_)
      refine ms_icmp_ge (tgt := 34) C dX2_bestBottles_29 (by decide) (fun c7 => ?_) (fun c7 => ?_)
      · refine ms_iinc (L' := fun v8 => [(3, .int v8), (0, .ref (xad X 15 0)), (2, .int x2)]) C dX2_bestBottles_34 2 rfl (c := 1) (by decide) (by decide) (fun _ => rfl) (fun v8 => ?_)
        refine ms_goto (tgt := 6) C dX2_bestBottles_37 (by decide) ?_
        exact ms_sub [1, 2, 0] rfl (ih x2 v8)
      · refine ms_iload_n C dX2_bestBottles_32 2 rfl ?_
        refine ms_istore_n (L' := [(2, .int x3), (0, .ref (xad X 15 0)), (3, .int x3)]) C dX2_bestBottles_33 rfl (by decide) rfl ?_
        refine ms_iinc (L' := fun v9 => [(3, .int v9), (2, .int x3), (0, .ref (xad X 15 0))]) C dX2_bestBottles_34 2 rfl (c := 1) (by decide) (by decide) (fun _ => rfl) (fun v9 => ?_)
        refine ms_goto (tgt := 6) C dX2_bestBottles_37 (by decide) ?_
        exact ms_sub [2, 1, 0] rfl (ih x3 v9)
set_option maxRecDepth 100000 in
set_option maxHeartbeats 4000000 in
theorem mtX2_bestBottles (l : Launch) (G : mh_G) (n : Nat) (M : mh_M) (a0 : Int32) {z : Int32} (ho : fX2_bestBottles n M a0 = some z) : Met l yX2_bestBottles wsX2_bestBottles rmX2_bestBottles (mh_Pc G M [.ref (G.2.2 15 0), .int a0]) (mh_Q G M (some (.int z))) 0 0 (mh_dom G) := by
  refine mh_met (cc := cX2_bestBottles) (maxL := 4) (ret := (some .int)) (by decide) rfl (Nat.le_of_ble_eq_true rfl) ho ?_
  rintro X rfl rfl C hR
  show mh_W X rmX2_bestBottles 4 _ z M 0 [(0, .ref (xad X 15 0)), (1, .int a0)] []
  replace C : mh_C X rmX2_bestBottles cX2_bestBottles wsX2_bestBottles RX2 4 := C
  unfold fX2_bestBottles
  refine ms_iload_n C dX2_bestBottles_0 1 rfl ?_
  refine ms_istore_n (L' := [(2, .int a0), (0, .ref (xad X 15 0)), (1, .int a0)]) C dX2_bestBottles_1 rfl (by decide) rfl ?_
  refine ms_iload_n C dX2_bestBottles_2 2 rfl ?_
  refine ms_iconst C (1 : Int32) dX2_bestBottles_3 (by decide) ?_
  refine ms_iadd C dX2_bestBottles_4 (fun v1 => ?_)
  refine ms_istore_n (L' := [(3, .int v1), (2, .int a0), (0, .ref (xad X 15 0)), (1, .int a0)]) C dX2_bestBottles_5 rfl (by decide) rfl ?_
  exact ms_sub [2, 1, 0] rfl (mtX2_bestBottles_L6 (n := n) M C hR n a0 v1)
def rmX2_mostTimes : Room := { frames := 1, cells := 0, slots := 0, locals := 22 }
theorem inX2_X2_mostTimes : ∀ w ∈ wsX20, w ∈ wsX2_mostTimes := by decide +kernel
set_option maxRecDepth 100000 in
set_option maxHeartbeats 4000000 in
theorem mtX2_mostTimes_L5 {X : mh_X} {n : Nat} {z : Int32} (M : mh_M) (x1 : Int32) (C : mh_C X rmX2_mostTimes cX2_mostTimes wsX2_mostTimes RX2 5) (hR : mh_R X (some .int) M (some (.int z))) : ∀ (k : Nat) (x3 : Int32) (x4 : Int32), mh_W X rmX2_mostTimes 5 (itr2 (fX2_mostTimes_L5 n M x1) k x3 x4) z M 5 [(0, .ref (xad X 15 0)), (1, .int x1), (3, .int x3), (4, .int x4)] [] := by
  intro k
  induction k with
  | zero =>
    intro x3 x4
    exact ms_none
  | succ k ih =>
    intro x3 x4
    show mh_W X rmX2_mostTimes 5 (fX2_mostTimes_L5 n M x1 (itr2 (fX2_mostTimes_L5 n M x1) k) x3 x4) z M 5 [(0, .ref (xad X 15 0)), (1, .int x1), (3, .int x3), (4, .int x4)] []
    generalize itr2 (fX2_mostTimes_L5 n M x1) k = rec at ih ⊢
    unfold fX2_mostTimes_L5
    refine ms_iload C dX2_mostTimes_5 3 rfl ?_
    refine ms_sipush C (144 : Int32) dX2_mostTimes_7 (by decide) ?_
    refine ms_icmp_ge (tgt := 55) C dX2_mostTimes_10 (by decide) (fun c1 => ?_) (fun c1 => ?_)
    · refine ms_iload C dX2_mostTimes_55 3 rfl ?_
      exact ms_ireti C hR rfl rfl dX2_mostTimes_57
    · refine ms_iload_n C dX2_mostTimes_13 2 rfl ?_
      refine ms_aload_n C dX2_mostTimes_14 0 rfl ?_
      refine ms_getr C dX2_mostTimes_15 (zz15 (G := xg X) Nat.one_pos) (k := 0) (Nat.le_of_ble_eq_true rfl) (b := xad X 16 0) rfl (Cn := RX2) (T := TX2) rfl inX2_X2_mostTimes rfl (by decide +kernel) ?_
      refine ms_iload_n C dX2_mostTimes_18 1 rfl ?_
      refine ms_ld C dX2_mostTimes_19 (zz16 (G := xg X) Nat.one_pos) rfl (fun _ v2 => ?_)
      refine ms_icmp_lt (tgt := 55) C dX2_mostTimes_20 (by decide) (fun c3 => ?_) (fun c3 => ?_)
      · refine ms_iload C dX2_mostTimes_55 3 rfl ?_
        exact ms_ireti C hR rfl rfl dX2_mostTimes_57
      · refine ms_aload_n C dX2_mostTimes_23 0 rfl ?_
        refine ms_iload_n C dX2_mostTimes_24 1 rfl ?_
        refine ms_iload_n C dX2_mostTimes_25 2 rfl ?_
        refine ms_callVi (As := [.int x1, .int x3]) C dX2_mostTimes_26 (fun _ h => mtX2_priceWithOneMore (xl X) (xg X) n M x1 x3 h) (cwV 2 C.2.2.1 gX2_mostTimes_X2_priceWithOneMore rfl rfl rfl (by decide +kernel) ⟨Nat.le_of_ble_eq_true rfl, Nat.le_of_ble_eq_true rfl⟩) (zz15 (G := xg X) Nat.one_pos) (T := TX2) rfl rfl rfl (Nat.le_of_ble_eq_true rfl) (fun v4 => ?_)
        refine ms_aload_n C dX2_mostTimes_29 0 rfl ?_
        refine ms_getr C dX2_mostTimes_30 (zz15 (G := xg X) Nat.one_pos) (k := 3) (Nat.le_of_ble_eq_true rfl) (b := xad X 18 0) rfl (Cn := RX2) (T := TX2) rfl inX2_X2_mostTimes rfl (by decide +kernel) ?_
        refine ms_iload_n C dX2_mostTimes_33 1 rfl ?_
        refine ms_ald C dX2_mostTimes_34 (zz18 (G := xg X) Nat.one_pos) rfl rfl (fun q5 hq5 => ?_)
        refine ms_iload_n C dX2_mostTimes_35 2 rfl ?_
        refine ms_ld C dX2_mostTimes_36 (zz19 (G := xg X) hq5) rfl (fun _ v6 => ?_)
        refine ms_icmp_ne (tgt := 55) C dX2_mostTimes_37 (by decide) (fun c7 => ?_) (fun c7 => ?_)
        · refine ms_iload C dX2_mostTimes_55 3 rfl ?_
          exact ms_ireti C hR rfl rfl dX2_mostTimes_57
        · refine ms_iload_n C dX2_mostTimes_40 2 rfl ?_
          refine ms_aload_n C dX2_mostTimes_41 0 rfl ?_
          refine ms_getr C dX2_mostTimes_42 (zz15 (G := xg X) Nat.one_pos) (k := 0) (Nat.le_of_ble_eq_true rfl) (b := xad X 16 0) rfl (Cn := RX2) (T := TX2) rfl inX2_X2_mostTimes rfl (by decide +kernel) ?_
          refine ms_iload_n C dX2_mostTimes_45 1 rfl ?_
          refine ms_ld C dX2_mostTimes_46 (zz16 (G := xg X) Nat.one_pos) rfl (fun _ v8 => ?_)
          refine ms_isub C dX2_mostTimes_47 (fun v9 => ?_)
          refine ms_istore_n (L' := [(3, .int v9), (0, .ref (xad X 15 0)), (1, .int x1), (4, .int x4)]) C dX2_mostTimes_48 rfl (by decide) rfl ?_
          refine ms_iinc (L' := fun v10 => [(4, .int v10), (3, .int v9), (0, .ref (xad X 15 0)), (1, .int x1)]) C dX2_mostTimes_49 3 rfl (c := 1) (by decide) (by decide) (fun _ => rfl) (fun v10 => ?_)
          refine ms_goto (tgt := 5) C dX2_mostTimes_52 (by decide) ?_
          exact ms_sub [2, 3, 1, 0] rfl (ih v9 v10)
set_option maxRecDepth 100000 in
set_option maxHeartbeats 4000000 in
theorem mtX2_mostTimes (l : Launch) (G : mh_G) (n : Nat) (M : mh_M) (a0 : Int32) (a1 : Int32) {z : Int32} (ho : fX2_mostTimes n M a0 a1 = some z) : Met l yX2_mostTimes wsX2_mostTimes rmX2_mostTimes (mh_Pc G M [.ref (G.2.2 15 0), .int a0, .int a1]) (mh_Q G M (some (.int z))) 0 0 (mh_dom G) := by
  refine mh_met (cc := cX2_mostTimes) (maxL := 5) (ret := (some .int)) (by decide) rfl (Nat.le_of_ble_eq_true rfl) ho ?_
  rintro X rfl rfl C hR
  show mh_W X rmX2_mostTimes 5 _ z M 0 [(0, .ref (xad X 15 0)), (1, .int a0), (2, .int a1)] []
  replace C : mh_C X rmX2_mostTimes cX2_mostTimes wsX2_mostTimes RX2 5 := C
  unfold fX2_mostTimes
  refine ms_iload_n C dX2_mostTimes_0 2 rfl ?_
  refine ms_istore_n (L' := [(3, .int a1), (0, .ref (xad X 15 0)), (1, .int a0), (2, .int a1)]) C dX2_mostTimes_1 rfl (by decide) rfl ?_
  refine ms_iconst C (0 : Int32) dX2_mostTimes_2 (by decide) ?_
  refine ms_istore (L' := [(4, .int (0 : Int32)), (3, .int a1), (0, .ref (xad X 15 0)), (1, .int a0), (2, .int a1)]) C dX2_mostTimes_3 (by decide) rfl ?_
  exact ms_sub [2, 3, 1, 0] rfl (mtX2_mostTimes_L5 (n := n) M a0 C hR n a1 (0 : Int32))
def rmX2_timesOf : Room := { frames := 2, cells := 0, slots := 0, locals := 46 }
theorem inX2_X2_timesOf : ∀ w ∈ wsX20, w ∈ wsX2_timesOf := by decide +kernel
set_option maxRecDepth 100000 in
set_option maxHeartbeats 4000000 in
theorem mtX2_timesOf_L8 {X : mh_X} {n : Nat} {z : Int32} (M : mh_M) (x1 : Int32) (C : mh_C X rmX2_timesOf cX2_timesOf wsX2_timesOf RX2 6) (hR : mh_R X (some .int) M (some (.int z))) : ∀ (k : Nat) (x3 : Int32) (x4 : Int32) (x5 : Int32), mh_W X rmX2_timesOf 6 (itr3 (fX2_timesOf_L8 n M x1) k x3 x4 x5) z M 8 [(0, .ref (xad X 15 0)), (1, .int x1), (3, .int x3), (4, .int x4), (5, .int x5)] [] := by
  intro k
  induction k with
  | zero =>
    intro x3 x4 x5
    exact ms_none
  | succ k ih =>
    intro x3 x4 x5
    show mh_W X rmX2_timesOf 6 (fX2_timesOf_L8 n M x1 (itr3 (fX2_timesOf_L8 n M x1) k) x3 x4 x5) z M 8 [(0, .ref (xad X 15 0)), (1, .int x1), (3, .int x3), (4, .int x4), (5, .int x5)] []
    generalize itr3 (fX2_timesOf_L8 n M x1) k = rec at ih ⊢
    unfold fX2_timesOf_L8
    refine ms_iload C dX2_timesOf_8 4 rfl ?_
    refine ms_iload_n C dX2_timesOf_10 1 rfl ?_
    refine ms_icmp_gt (tgt := 42) C dX2_timesOf_11 (by decide) (fun c1 => ?_) (fun c1 => ?_)
    · refine ms_iload C dX2_timesOf_42 3 rfl ?_
      exact ms_ireti C hR rfl rfl dX2_timesOf_44
    · refine ms_aload_n C dX2_timesOf_14 0 rfl ?_
      refine ms_iload C dX2_timesOf_15 4 rfl ?_
      refine ms_iload_n C dX2_timesOf_17 2 rfl ?_
      refine ms_callVi (As := [.int x5, .int x3]) C dX2_timesOf_18 (fun _ h => mtX2_mostTimes (xl X) (xg X) n M x5 x3 h) (cwV 2 C.2.2.1 gX2_timesOf_X2_mostTimes rfl rfl rfl (by decide +kernel) ⟨Nat.le_of_ble_eq_true rfl, Nat.le_of_ble_eq_true rfl⟩) (zz15 (G := xg X) Nat.one_pos) (T := TX2) rfl rfl rfl (Nat.le_of_ble_eq_true rfl) (fun v2 => ?_)
      refine ms_istore (L' := [(4, .int v2), (0, .ref (xad X 15 0)), (1, .int x1), (3, .int x3), (5, .int x5)]) C dX2_timesOf_21 (by decide) rfl ?_
      refine ms_iload_n C dX2_timesOf_23 3 rfl ?_
      refine ms_iload C dX2_timesOf_24 0 rfl ?_
      refine ms_aload_n C dX2_timesOf_26 1 rfl ?_
      refine ms_getr C dX2_timesOf_27 (zz15 (G := xg X) Nat.one_pos) (k := 0) (Nat.le_of_ble_eq_true rfl) (b := xad X 16 0) rfl (Cn := RX2) (T := TX2) rfl inX2_X2_timesOf rfl (by decide +kernel) ?_
      refine ms_iload C dX2_timesOf_30 4 rfl ?_
      refine ms_ld C dX2_timesOf_32 (zz16 (G := xg X) Nat.one_pos) rfl (fun _ v3 => ?_)
      refine ms_imul C dX2_timesOf_33 (fun v4 => ?_)
      refine ms_isub C dX2_timesOf_34 (fun v5 => ?_)
      refine ms_istore_n (L' := [(3, .int v5), (4, .int v2), (0, .ref (xad X 15 0)), (1, .int x1), (5, .int x5)]) C dX2_timesOf_35 rfl (by decide) rfl ?_
      refine ms_iinc (L' := fun v6 => [(5, .int v6), (3, .int v5), (4, .int v2), (0, .ref (xad X 15 0)), (1, .int x1)]) C dX2_timesOf_36 4 rfl (c := 1) (by decide) (by decide) (fun _ => rfl) (fun v6 => ?_)
      refine ms_goto (tgt := 8) C dX2_timesOf_39 (by decide) ?_
      exact ms_sub [3, 4, 1, 2, 0] rfl (ih v5 v2 v6)
set_option maxRecDepth 100000 in
set_option maxHeartbeats 4000000 in
theorem mtX2_timesOf (l : Launch) (G : mh_G) (n : Nat) (M : mh_M) (a0 : Int32) (a1 : Int32) {z : Int32} (ho : fX2_timesOf n M a0 a1 = some z) : Met l yX2_timesOf wsX2_timesOf rmX2_timesOf (mh_Pc G M [.ref (G.2.2 15 0), .int a0, .int a1]) (mh_Q G M (some (.int z))) 0 0 (mh_dom G) := by
  refine mh_met (cc := cX2_timesOf) (maxL := 6) (ret := (some .int)) (by decide) rfl (Nat.le_of_ble_eq_true rfl) ho ?_
  rintro X rfl rfl C hR
  show mh_W X rmX2_timesOf 6 _ z M 0 [(0, .ref (xad X 15 0)), (1, .int a0), (2, .int a1)] []
  replace C : mh_C X rmX2_timesOf cX2_timesOf wsX2_timesOf RX2 6 := C
  unfold fX2_timesOf
  refine ms_iload_n C dX2_timesOf_0 2 rfl ?_
  refine ms_istore_n (L' := [(3, .int a1), (0, .ref (xad X 15 0)), (1, .int a0), (2, .int a1)]) C dX2_timesOf_1 rfl (by decide) rfl ?_
  refine ms_iconst C (0 : Int32) dX2_timesOf_2 (by decide) ?_
  refine ms_istore (L' := [(4, .int (0 : Int32)), (3, .int a1), (0, .ref (xad X 15 0)), (1, .int a0), (2, .int a1)]) C dX2_timesOf_3 (by decide) rfl ?_
  refine ms_iconst C (0 : Int32) dX2_timesOf_5 (by decide) ?_
  refine ms_istore (L' := [(5, .int (0 : Int32)), (4, .int (0 : Int32)), (3, .int a1), (0, .ref (xad X 15 0)), (1, .int a0), (2, .int a1)]) C dX2_timesOf_6 (by decide) rfl ?_
  exact ms_sub [3, 4, 2, 1, 0] rfl (mtX2_timesOf_L8 (n := n) M a0 C hR n a1 (0 : Int32) (0 : Int32))
def rmX3_add : Room := { frames := 0, cells := 0, slots := 0, locals := 0 }
theorem inX3_X3_add : ∀ w ∈ wsX30, w ∈ wsX3_add := by decide +kernel
set_option maxRecDepth 100000 in
set_option maxHeartbeats 4000000 in
theorem mtX3_add (l : Launch) (G : mh_G) (n : Nat) (M : mh_M) (a0 : Int32) (a1 : Int32) {z : mh_M} (ho : fX3_add n M a0 a1 = some z) : Met l yX3_add wsX3_add rmX3_add (mh_Pc G M [.ref (G.2.2 8 0), .int a0, .int a1]) (mh_Q G z none) 0 0 (mh_dom G) := by
  refine mh_met (cc := cX3_add) (maxL := 3) (ret := none) (by decide) rfl (Nat.le_of_ble_eq_true rfl) ho ?_
  rintro X rfl rfl C hR
  show mh_W X rmX3_add 3 _ z M 0 [(0, .ref (xad X 8 0)), (1, .int a0), (2, .int a1)] []
  replace C : mh_C X rmX3_add cX3_add wsX3_add RX3 3 := C
  unfold fX3_add
  refine ms_aload_n C dX3_add_0 0 rfl ?_
  refine ms_getr C dX3_add_1 (zz8 (G := xg X) Nat.one_pos) (k := 0) (Nat.le_of_ble_eq_true rfl) (b := xad X 9 0) rfl (Cn := RX3) (T := TX3) rfl inX3_X3_add rfl (by decide +kernel) ?_
  refine ms_aload_n C dX3_add_4 0 rfl ?_
  refine ms_geti C dX3_add_5 (zz8 (G := xg X) Nat.one_pos) (k := 2) (Nat.le_of_ble_eq_true rfl) rfl (Cn := RX3) (T := TX3) rfl inX3_X3_add rfl (by decide +kernel) (fun v1 => ?_)
  refine ms_iload_n C dX3_add_8 1 rfl ?_
  refine ms_st C dX3_add_9 (zz9 (G := xg X) Nat.one_pos) rfl (fun _ M2 => ?_)
  refine ms_aload_n C dX3_add_10 0 rfl ?_
  refine ms_getr C dX3_add_11 (zz8 (G := xg X) Nat.one_pos) (k := 1) (Nat.le_of_ble_eq_true rfl) (b := xad X 10 0) rfl (Cn := RX3) (T := TX3) rfl inX3_X3_add rfl (by decide +kernel) ?_
  refine ms_aload_n C dX3_add_14 0 rfl ?_
  refine ms_geti C dX3_add_15 (zz8 (G := xg X) Nat.one_pos) (k := 2) (Nat.le_of_ble_eq_true rfl) rfl (Cn := RX3) (T := TX3) rfl inX3_X3_add rfl (by decide +kernel) (fun v3 => ?_)
  refine ms_iload_n C dX3_add_18 2 rfl ?_
  refine ms_st C dX3_add_19 (zz10 (G := xg X) Nat.one_pos) rfl (fun _ M4 => ?_)
  refine ms_aload_n C dX3_add_20 0 rfl ?_
  refine ms_dup C dX3_add_21 rfl ?_
  refine ms_geti C dX3_add_22 (zz8 (G := xg X) Nat.one_pos) (k := 2) (Nat.le_of_ble_eq_true rfl) rfl (Cn := RX3) (T := TX3) rfl inX3_X3_add rfl (by decide +kernel) (fun v5 => ?_)
  refine ms_iconst C (1 : Int32) dX3_add_25 (by decide) ?_
  refine ms_iadd C dX3_add_26 (fun v6 => ?_)
  refine ms_puti C dX3_add_27 tyX3 tyX3_ok nmX3 (zz8 (G := xg X) Nat.one_pos) (k := 2) (Nat.le_of_ble_eq_true rfl) rfl (Cn := RX3) (T := TX3) rfl inX3_X3_add rfl (by decide +kernel) rfl (by decide +kernel) (fun M7 => ?_)
  exact ms_vretm C hR dX3_add_30
def rmX3_costOf : Room := { frames := 1, cells := 0, slots := 0, locals := 21 }
theorem inX3_X3_costOf : ∀ w ∈ wsX30, w ∈ wsX3_costOf := by decide +kernel
set_option maxRecDepth 100000 in
set_option maxHeartbeats 4000000 in
theorem mtX3_costOf_L6 {X : mh_X} {n : Nat} {z : Int32} (M : mh_M) (x1 : Int32) (x2 : Int32) (x3 : Int32) (C : mh_C X rmX3_costOf cX3_costOf wsX3_costOf RX3 8) (hR : mh_R X (some .int) M (some (.int z))) : ∀ (k : Nat) (x4 : Int32) (x5 : Int32), mh_W X rmX3_costOf 8 (itr2 (fX3_costOf_L6 n M x1 x2 x3) k x4 x5) z M 6 [(0, .ref (xad X 8 0)), (1, .int x1), (2, .int x2), (3, .int x3), (4, .int x4), (5, .int x5)] [] := by
  intro k
  induction k with
  | zero =>
    intro x4 x5
    exact ms_none
  | succ k ih =>
    intro x4 x5
    show mh_W X rmX3_costOf 8 (fX3_costOf_L6 n M x1 x2 x3 (itr2 (fX3_costOf_L6 n M x1 x2 x3) k) x4 x5) z M 6 [(0, .ref (xad X 8 0)), (1, .int x1), (2, .int x2), (3, .int x3), (4, .int x4), (5, .int x5)] []
    generalize itr2 (fX3_costOf_L6 n M x1 x2 x3) k = rec at ih ⊢
    unfold fX3_costOf_L6
    refine ms_iload C dX3_costOf_6 5 rfl ?_
    refine ms_aload_n C dX3_costOf_8 0 rfl ?_
    refine ms_geti C dX3_costOf_9 (zz8 (G := xg X) Nat.one_pos) (k := 2) (Nat.le_of_ble_eq_true rfl) rfl (Cn := RX3) (T := TX3) rfl inX3_X3_costOf rfl (by decide +kernel) (fun v1 => ?_)
    refine ms_icmp_ge (tgt := 73) C dX3_costOf_12 (by decide) (fun c2 => ?_) (fun c2 => ?_)
    · refine ms_iload C dX3_costOf_73 4 rfl ?_
      exact ms_ireti C hR rfl rfl dX3_costOf_75
    · refine ms_iconst C (0 : Int32) dX3_costOf_15 (by decide) ?_
      refine ms_iload_n C dX3_costOf_16 1 rfl ?_
      refine ms_aload_n C dX3_costOf_17 0 rfl ?_
      refine ms_getr C dX3_costOf_18 (zz8 (G := xg X) Nat.one_pos) (k := 0) (Nat.le_of_ble_eq_true rfl) (b := xad X 9 0) rfl (Cn := RX3) (T := TX3) rfl inX3_X3_costOf rfl (by decide +kernel) ?_
      refine ms_iload C dX3_costOf_21 5 rfl ?_
      refine ms_ld C dX3_costOf_23 (zz9 (G := xg X) Nat.one_pos) rfl (fun _ v3 => ?_)
      refine ms_isub C dX3_costOf_24 (fun v4 => ?_)
      refine ms_mmax C dX3_costOf_25 (by decide +kernel) (by decide +kernel) (by decide +kernel) (by decide +kernel) (Nat.le_of_ble_eq_true rfl) (Nat.le_of_ble_eq_true rfl) (fun v5 => ?_)
      refine ms_istore (L' := [(6, .int v5), (0, .ref (xad X 8 0)), (1, .int x1), (2, .int x2), (3, .int x3), (4, .int x4), (5, .int x5)]) C dX3_costOf_28 (by decide) rfl ?_
      refine ms_iconst C (0 : Int32) dX3_costOf_30 (by decide) ?_
      refine ms_aload_n C dX3_costOf_31 1 rfl ?_
      refine ms_getr C dX3_costOf_32 (zz8 (G := xg X) Nat.one_pos) (k := 0) (Nat.le_of_ble_eq_true rfl) (b := xad X 9 0) rfl (Cn := RX3) (T := TX3) rfl inX3_X3_costOf rfl (by decide +kernel) ?_
      refine ms_iload C dX3_costOf_35 6 rfl ?_
      refine ms_ld C dX3_costOf_37 (zz9 (G := xg X) Nat.one_pos) rfl (fun _ v6 => ?_)
      refine ms_iload_n C dX3_costOf_38 2 rfl ?_
      refine ms_isub C dX3_costOf_39 (fun v7 => ?_)
      refine ms_mmax C dX3_costOf_40 (by decide +kernel) (by decide +kernel) (by decide +kernel) (by decide +kernel) (Nat.le_of_ble_eq_true rfl) (Nat.le_of_ble_eq_true rfl) (fun v8 => ?_)
      refine ms_istore (L' := [(7, .int v8), (6, .int v5), (0, .ref (xad X 8 0)), (1, .int x1), (2, .int x2), (3, .int x3), (4, .int x4), (5, .int x5)]) C dX3_costOf_43 (by decide) rfl ?_
      refine ms_iload C dX3_costOf_45 6 rfl ?_
      refine ms_aload_n C dX3_costOf_47 2 rfl ?_
      refine ms_getr C dX3_costOf_48 (zz8 (G := xg X) Nat.one_pos) (k := 1) (Nat.le_of_ble_eq_true rfl) (b := xad X 10 0) rfl (Cn := RX3) (T := TX3) rfl inX3_X3_costOf rfl (by decide +kernel) ?_
      refine ms_iload C dX3_costOf_51 7 rfl ?_
      refine ms_ld C dX3_costOf_53 (zz10 (G := xg X) Nat.one_pos) rfl (fun _ v9 => ?_)
      refine ms_iload_n C dX3_costOf_54 4 rfl ?_
      refine ms_iload C dX3_costOf_55 1 rfl ?_
      refine ms_imul C dX3_costOf_57 (fun v10 => ?_)
      refine ms_iload_n C dX3_costOf_58 5 rfl ?_
      refine ms_iload C dX3_costOf_59 0 rfl ?_
      refine ms_imul C dX3_costOf_61 (fun v11 => ?_)
      refine ms_iadd C dX3_costOf_62 (fun v12 => ?_)
      refine ms_imul C dX3_costOf_63 (fun v13 => ?_)
      refine ms_iadd C dX3_costOf_64 (fun v14 => ?_)
      refine ms_istore (L' := [(4, .int v14), (7, .int v8), (6, .int v5), (0, .ref (xad X 8 0)), (1, .int x1), (2, .int x2), (3, .int x3), (5, .int x5)]) C dX3_costOf_65 (by decide) rfl ?_
      refine ms_iinc (L' := fun v15 => [(5, .int v15), (4, .int v14), (7, .int v8), (6, .int v5), (0, .ref (xad X 8 0)), (1, .int x1), (2, .int x2), (3, .int x3)]) C dX3_costOf_67 7 rfl (c := 1) (by decide) (by decide) (fun _ => rfl) (fun v15 => ?_)
      refine ms_goto (tgt := 6) C dX3_costOf_70 (by decide) ?_
      exact ms_sub [4, 5, 6, 7, 1, 0] rfl (ih v14 v15)
set_option maxRecDepth 100000 in
set_option maxHeartbeats 4000000 in
theorem mtX3_costOf (l : Launch) (G : mh_G) (n : Nat) (M : mh_M) (a0 : Int32) (a1 : Int32) (a2 : Int32) {z : Int32} (ho : fX3_costOf n M a0 a1 a2 = some z) : Met l yX3_costOf wsX3_costOf rmX3_costOf (mh_Pc G M [.ref (G.2.2 8 0), .int a0, .int a1, .int a2]) (mh_Q G M (some (.int z))) 0 0 (mh_dom G) := by
  refine mh_met (cc := cX3_costOf) (maxL := 8) (ret := (some .int)) (by decide) rfl (Nat.le_of_ble_eq_true rfl) ho ?_
  rintro X rfl rfl C hR
  show mh_W X rmX3_costOf 8 _ z M 0 [(0, .ref (xad X 8 0)), (1, .int a0), (2, .int a1), (3, .int a2)] []
  replace C : mh_C X rmX3_costOf cX3_costOf wsX3_costOf RX3 8 := C
  unfold fX3_costOf
  refine ms_iconst C (0 : Int32) dX3_costOf_0 (by decide) ?_
  refine ms_istore (L' := [(4, .int (0 : Int32)), (0, .ref (xad X 8 0)), (1, .int a0), (2, .int a1), (3, .int a2)]) C dX3_costOf_1 (by decide) rfl ?_
  refine ms_iconst C (0 : Int32) dX3_costOf_3 (by decide) ?_
  refine ms_istore (L' := [(5, .int (0 : Int32)), (4, .int (0 : Int32)), (0, .ref (xad X 8 0)), (1, .int a0), (2, .int a1), (3, .int a2)]) C dX3_costOf_4 (by decide) rfl ?_
  exact ms_sub [2, 3, 4, 5, 1, 0] rfl (mtX3_costOf_L6 (n := n) M a0 a1 a2 C hR n (0 : Int32) (0 : Int32))
def rmX3_par : Room := { frames := 2, cells := 0, slots := 0, locals := 48 }
set_option maxRecDepth 100000 in
set_option maxHeartbeats 4000000 in
theorem mtX3_par_L14 {X : mh_X} {n : Nat} {z : Int32} (M : mh_M) (x1 : Int32) (x2 : Int32) (C : mh_C X rmX3_par cX3_par wsX3_par RX3 7) (hR : mh_R X (some .int) M (some (.int z))) : ∀ (k : Nat) (x3 : Int32) (x4 : Int32) (x5 : Int32), mh_W X rmX3_par 7 (itr3 (fX3_par_L14 n M x1 x2) k x3 x4 x5) z M 14 [(0, .ref (xad X 8 0)), (1, .int x1), (2, .int x2), (3, .int x3), (4, .int x4), (5, .int x5)] [] := by
  intro k
  induction k with
  | zero =>
    intro x3 x4 x5
    exact ms_none
  | succ k ih =>
    intro x3 x4 x5
    show mh_W X rmX3_par 7 (fX3_par_L14 n M x1 x2 (itr3 (fX3_par_L14 n M x1 x2) k) x3 x4 x5) z M 14 [(0, .ref (xad X 8 0)), (1, .int x1), (2, .int x2), (3, .int x3), (4, .int x4), (5, .int x5)] []
    generalize itr3 (fX3_par_L14 n M x1 x2) k = rec at ih ⊢
    unfold fX3_par_L14
    refine ms_iload C dX3_par_14 5 rfl ?_
    refine ms_sipush C (200 : Int32) dX3_par_16 (by decide) ?_
    refine ms_icmp_gt (tgt := 52) C dX3_par_19 (by decide) (fun c2 => ?_) (fun c2 => ?_)
    · refine ms_iload_n C dX3_par_52 3 rfl ?_
      exact ms_ireti C hR rfl rfl dX3_par_53
    · refine ms_aload_n C dX3_par_22 0 rfl ?_
      refine ms_iload C dX3_par_23 5 rfl ?_
      refine ms_iload_n C dX3_par_25 1 rfl ?_
      refine ms_iload_n C dX3_par_26 2 rfl ?_
      refine ms_callVi (As := [.int x5, .int x1, .int x2]) C dX3_par_27 (fun _ h => mtX3_costOf (xl X) (xg X) n M x5 x1 x2 h) (cwV 3 C.2.2.1 gX3_par_X3_costOf rfl rfl rfl (by decide +kernel) ⟨Nat.le_of_ble_eq_true rfl, Nat.le_of_ble_eq_true rfl⟩) (zz8 (G := xg X) Nat.one_pos) (T := TX3) rfl rfl rfl (Nat.le_of_ble_eq_true rfl) (fun v3 => ?_)
      refine ms_istore (L' := [(6, .int v3), (0, .ref (xad X 8 0)), (1, .int x1), (2, .int x2), (3, .int x3), (4, .int x4), (5, .int x5)]) C dX3_par_30 (by decide) rfl ?_
      refine ms_iload C dX3_par_32 0 rfl ?_
      refine ms_iload C dX3_par_34 5 rfl ?_
      refine ms_icmp_ge (tgt := 46) C dX3_par_36 (by decide) (fun c4 => ?_) (fun c4 => ?_)
      · refine ms_iinc (L' := fun v5 => [(5, .int v5), (6, .int v3), (0, .ref (xad X 8 0)), (1, .int x1), (2, .int x2), (3, .int x3), (4, .int x4)]) C dX3_par_46 6 rfl (c := 1) (by decide) (by decide) (fun _ => rfl) (fun v5 => ?_)
        refine ms_goto (tgt := 14) C dX3_par_49 (by decide) ?_
        exact ms_sub [2, 3, 4, 5, 6, 0] rfl (ih x3 x4 v5)
      · refine ms_iload C dX3_par_39 6 rfl ?_
        refine ms_istore_n (L' := [(3, .int x5), (6, .int v3), (0, .ref (xad X 8 0)), (1, .int x1), (2, .int x2), (4, .int x4), (5, .int x5)]) C dX3_par_41 rfl (by decide) rfl ?_
        refine ms_iload C dX3_par_42 1 rfl ?_
        refine ms_istore (L' := [(4, .int v3), (3, .int x5), (6, .int v3), (0, .ref (xad X 8 0)), (1, .int x1), (2, .int x2), (5, .int x5)]) C dX3_par_44 (by decide) rfl ?_
        refine ms_iinc (L' := fun v6 => [(5, .int v6), (4, .int v3), (3, .int x5), (6, .int v3), (0, .ref (xad X 8 0)), (1, .int x1), (2, .int x2)]) C dX3_par_46 6 rfl (c := 1) (by decide) (by decide) (fun _ => rfl) (fun v6 => ?_)
        refine ms_goto (tgt := 14) C dX3_par_49 (by decide) ?_
        exact ms_sub [4, 5, 6, 2, 1, 0] rfl (ih x5 v3 v6)
set_option maxRecDepth 100000 in
set_option maxHeartbeats 4000000 in
theorem mtX3_par (l : Launch) (G : mh_G) (n : Nat) (M : mh_M) (a0 : Int32) (a1 : Int32) {z : Int32} (ho : fX3_par n M a0 a1 = some z) : Met l yX3_par wsX3_par rmX3_par (mh_Pc G M [.ref (G.2.2 8 0), .int a0, .int a1]) (mh_Q G M (some (.int z))) 0 0 (mh_dom G) := by
  refine mh_met (cc := cX3_par) (maxL := 7) (ret := (some .int)) (by decide) rfl (Nat.le_of_ble_eq_true rfl) ho ?_
  rintro X rfl rfl C hR
  show mh_W X rmX3_par 7 _ z M 0 [(0, .ref (xad X 8 0)), (1, .int a0), (2, .int a1)] []
  replace C : mh_C X rmX3_par cX3_par wsX3_par RX3 7 := C
  unfold fX3_par
  refine ms_iconst C (0 : Int32) dX3_par_0 (by decide) ?_
  refine ms_istore_n (L' := [(3, .int (0 : Int32)), (0, .ref (xad X 8 0)), (1, .int a0), (2, .int a1)]) C dX3_par_1 rfl (by decide) rfl ?_
  refine ms_aload_n C dX3_par_2 1 rfl ?_
  refine ms_iconst C (0 : Int32) dX3_par_3 (by decide) ?_
  refine ms_iload_n C dX3_par_4 2 rfl ?_
  refine ms_iload_n C dX3_par_5 3 rfl ?_
  refine ms_callVi (As := [.int (0 : Int32), .int a0, .int a1]) C dX3_par_6 (fun _ h => mtX3_costOf (xl X) (xg X) n M (0 : Int32) a0 a1 h) (cwV 3 C.2.2.1 gX3_par_X3_costOf rfl rfl rfl (by decide +kernel) ⟨Nat.le_of_ble_eq_true rfl, Nat.le_of_ble_eq_true rfl⟩) (zz8 (G := xg X) Nat.one_pos) (T := TX3) rfl rfl rfl (Nat.le_of_ble_eq_true rfl) (fun v1 => ?_)
  refine ms_istore (L' := [(4, .int v1), (3, .int (0 : Int32)), (0, .ref (xad X 8 0)), (1, .int a0), (2, .int a1)]) C dX3_par_9 (by decide) rfl ?_
  refine ms_iconst C (1 : Int32) dX3_par_11 (by decide) ?_
  refine ms_istore (L' := [(5, .int (1 : Int32)), (4, .int v1), (3, .int (0 : Int32)), (0, .ref (xad X 8 0)), (1, .int a0), (2, .int a1)]) C dX3_par_12 (by decide) rfl ?_
  exact ms_sub [3, 4, 5, 2, 1, 0] rfl (mtX3_par_L14 (n := n) M a0 a1 C hR n (0 : Int32) v1 (1 : Int32))
def rmX4_found : Room := { frames := 1, cells := 0, slots := 0, locals := 21 }
theorem inX4_X4_found : ∀ w ∈ wsX40, w ∈ wsX4_found := by decide +kernel
set_option maxRecDepth 100000 in
set_option maxHeartbeats 4000000 in
theorem mtX4_found (l : Launch) (G : mh_G) (n : Nat) (M : mh_M) (q0 : Nat) (a0 : Int32) (a1 : Int32) (hq0 : q0 < 10) {z : Int32} (ho : fX4_found n M q0 a0 a1 = some z) : Met l yX4_found wsX4_found rmX4_found (mh_Pc G M [.ref (G.2.2 20 q0), .int a0, .int a1]) (mh_Q G M (some (.int z))) 0 0 (mh_dom G) := by
  refine mh_met (cc := cX4_found) (maxL := 3) (ret := (some .int)) (by decide) rfl (Nat.le_of_ble_eq_true rfl) ho ?_
  rintro X rfl rfl C hR
  show mh_W X rmX4_found 3 _ z M 0 [(0, .ref (xad X 20 q0)), (1, .int a0), (2, .int a1)] []
  replace C : mh_C X rmX4_found cX4_found wsX4_found RX4 3 := C
  unfold fX4_found
  refine ms_aload_n C dX4_found_0 0 rfl ?_
  refine ms_geti C dX4_found_1 (zz20 (G := xg X) hq0) (k := 1) (Nat.le_of_ble_eq_true rfl) rfl (Cn := RX4) (T := TX4) rfl inX4_X4_found rfl (by decide +kernel) (fun v1 => ?_)
  refine ms_iload_n C dX4_found_4 1 rfl ?_
  refine ms_imul C dX4_found_5 (fun v2 => ?_)
  refine ms_bipush C (100 : Int32) dX4_found_6 (by decide) ?_
  refine ms_iconst C (0 : Int32) dX4_found_8 (by decide) ?_
  refine ms_iload_n C dX4_found_9 2 rfl ?_
  refine ms_aload_n C dX4_found_10 0 rfl ?_
  refine ms_geti C dX4_found_11 (zz20 (G := xg X) hq0) (k := 0) (Nat.le_of_ble_eq_true rfl) rfl (Cn := RX4) (T := TX4) rfl inX4_X4_found rfl (by decide +kernel) (fun v3 => ?_)
  refine ms_isub C dX4_found_14 (fun v4 => ?_)
  refine ms_mmax C dX4_found_15 (by decide +kernel) (by decide +kernel) (by decide +kernel) (by decide +kernel) (Nat.le_of_ble_eq_true rfl) (Nat.le_of_ble_eq_true rfl) (fun v5 => ?_)
  refine ms_imul C dX4_found_18 (fun v6 => ?_)
  refine ms_aload_n C dX4_found_19 0 rfl ?_
  refine ms_geti C dX4_found_20 (zz20 (G := xg X) hq0) (k := 2) (Nat.le_of_ble_eq_true rfl) rfl (Cn := RX4) (T := TX4) rfl inX4_X4_found rfl (by decide +kernel) (fun v7 => ?_)
  refine ms_idiv C dX4_found_23 (fun v8 => ?_)
  refine ms_iadd C dX4_found_24 (fun v9 => ?_)
  exact ms_ireti C hR rfl rfl dX4_found_25
def rmX4_mlOfScale : Room := { frames := 0, cells := 0, slots := 0, locals := 0 }
theorem inX4_X4_mlOfScale : ∀ w ∈ wsX40, w ∈ wsX4_mlOfScale := by decide +kernel
set_option maxRecDepth 100000 in
set_option maxHeartbeats 4000000 in
theorem mtX4_mlOfScale (l : Launch) (G : mh_G) (n : Nat) (M : mh_M) (q0 : Nat) (a0 : Int32) (hq0 : q0 < 10) {z : Int32} (ho : fX4_mlOfScale n M q0 a0 = some z) : Met l yX4_mlOfScale wsX4_mlOfScale rmX4_mlOfScale (mh_Pc G M [.ref (G.2.2 20 q0), .int a0]) (mh_Q G M (some (.int z))) 0 0 (mh_dom G) := by
  refine mh_met (cc := cX4_mlOfScale) (maxL := 2) (ret := (some .int)) (by decide) rfl (Nat.le_of_ble_eq_true rfl) ho ?_
  rintro X rfl rfl C hR
  show mh_W X rmX4_mlOfScale 2 _ z M 0 [(0, .ref (xad X 20 q0)), (1, .int a0)] []
  replace C : mh_C X rmX4_mlOfScale cX4_mlOfScale wsX4_mlOfScale RX4 2 := C
  unfold fX4_mlOfScale
  refine ms_bipush C (100 : Int32) dX4_mlOfScale_0 (by decide) ?_
  refine ms_iload_n C dX4_mlOfScale_2 1 rfl ?_
  refine ms_imul C dX4_mlOfScale_3 (fun v1 => ?_)
  refine ms_aload_n C dX4_mlOfScale_4 0 rfl ?_
  refine ms_geti C dX4_mlOfScale_5 (zz20 (G := xg X) hq0) (k := 2) (Nat.le_of_ble_eq_true rfl) rfl (Cn := RX4) (T := TX4) rfl inX4_X4_mlOfScale rfl (by decide +kernel) (fun v2 => ?_)
  refine ms_iadd C dX4_mlOfScale_8 (fun v3 => ?_)
  refine ms_iconst C (1 : Int32) dX4_mlOfScale_9 (by decide) ?_
  refine ms_isub C dX4_mlOfScale_10 (fun v4 => ?_)
  refine ms_aload_n C dX4_mlOfScale_11 0 rfl ?_
  refine ms_geti C dX4_mlOfScale_12 (zz20 (G := xg X) hq0) (k := 2) (Nat.le_of_ble_eq_true rfl) rfl (Cn := RX4) (T := TX4) rfl inX4_X4_mlOfScale rfl (by decide +kernel) (fun v5 => ?_)
  refine ms_idiv C dX4_mlOfScale_15 (fun v6 => ?_)
  exact ms_ireti C hR rfl rfl dX4_mlOfScale_16
def rmX4_move : Room := { frames := 0, cells := 0, slots := 0, locals := 0 }
theorem inX4_X4_move : ∀ w ∈ wsX40, w ∈ wsX4_move := by decide +kernel
set_option maxRecDepth 100000 in
set_option maxHeartbeats 4000000 in
theorem mtX4_move (l : Launch) (G : mh_G) (n : Nat) (M : mh_M) (q0 : Nat) (a0 : Int32) (a1 : Int32) (a2 : Int32) (hq0 : q0 < 10) {z : mh_M} (ho : fX4_move n M q0 a0 a1 a2 = some z) : Met l yX4_move wsX4_move rmX4_move (mh_Pc G M [.ref (G.2.2 20 q0), .int a0, .int a1, .int a2]) (mh_Q G z none) 0 0 (mh_dom G) := by
  refine mh_met (cc := cX4_move) (maxL := 4) (ret := none) (by decide) rfl (Nat.le_of_ble_eq_true rfl) ho ?_
  rintro X rfl rfl C hR
  show mh_W X rmX4_move 4 _ z M 0 [(0, .ref (xad X 20 q0)), (1, .int a0), (2, .int a1), (3, .int a2)] []
  replace C : mh_C X rmX4_move cX4_move wsX4_move RX4 4 := C
  unfold fX4_move
  refine ms_iload_n C dX4_move_0 1 rfl ?_
  refine ms_split (fun c1 => ?_) (fun c1 => ?_)
  · refine ms_tableIn (tgt := 28) C dX4_move_1 (by rw [c1]; decide) (by rw [c1]; decide) (by rw [c1]; rfl) (by decide) ?_
    refine ms_aload_n C dX4_move_28 0 rfl ?_
    refine ms_dup C dX4_move_29 rfl ?_
    refine ms_geti C dX4_move_30 (zz20 (G := xg X) hq0) (k := 3) (Nat.le_of_ble_eq_true rfl) rfl (Cn := RX4) (T := TX4) rfl inX4_X4_move rfl (by decide +kernel) (fun v2 => ?_)
    refine ms_iload_n C dX4_move_33 3 rfl ?_
    refine ms_iadd C dX4_move_34 (fun v3 => ?_)
    refine ms_puti C dX4_move_35 tyX4 tyX4_ok nmX4 (zz20 (G := xg X) hq0) (k := 3) (Nat.le_of_ble_eq_true rfl) rfl (Cn := RX4) (T := TX4) rfl inX4_X4_move rfl (by decide +kernel) rfl (by decide +kernel) (fun M4 => ?_)
    refine ms_aload_n C dX4_move_38 0 rfl ?_
    refine ms_dup C dX4_move_39 rfl ?_
    refine ms_geti C dX4_move_40 (zz20 (G := xg X) hq0) (k := 4) (Nat.le_of_ble_eq_true rfl) rfl (Cn := RX4) (T := TX4) rfl inX4_X4_move rfl (by decide +kernel) (fun v5 => ?_)
    refine ms_iload_n C dX4_move_43 3 rfl ?_
    refine ms_iadd C dX4_move_44 (fun v6 => ?_)
    refine ms_puti C dX4_move_45 tyX4 tyX4_ok nmX4 (zz20 (G := xg X) hq0) (k := 4) (Nat.le_of_ble_eq_true rfl) rfl (Cn := RX4) (T := TX4) rfl inX4_X4_move rfl (by decide +kernel) rfl (by decide +kernel) (fun M7 => ?_)
    refine ms_goto (tgt := 126) C dX4_move_48 (by decide) ?_
    exact ms_vretm C hR dX4_move_126
  refine ms_split (fun c8 => ?_) (fun c8 => ?_)
  · refine ms_tableIn (tgt := 51) C dX4_move_1 (by rw [c8]; decide) (by rw [c8]; decide) (by rw [c8]; rfl) (by decide) ?_
    refine ms_aload_n C dX4_move_51 0 rfl ?_
    refine ms_dup C dX4_move_52 rfl ?_
    refine ms_geti C dX4_move_53 (zz20 (G := xg X) hq0) (k := 3) (Nat.le_of_ble_eq_true rfl) rfl (Cn := RX4) (T := TX4) rfl inX4_X4_move rfl (by decide +kernel) (fun v9 => ?_)
    refine ms_iload_n C dX4_move_56 3 rfl ?_
    refine ms_isub C dX4_move_57 (fun v10 => ?_)
    refine ms_puti C dX4_move_58 tyX4 tyX4_ok nmX4 (zz20 (G := xg X) hq0) (k := 3) (Nat.le_of_ble_eq_true rfl) rfl (Cn := RX4) (T := TX4) rfl inX4_X4_move rfl (by decide +kernel) rfl (by decide +kernel) (fun M11 => ?_)
    refine ms_aload_n C dX4_move_61 0 rfl ?_
    refine ms_getr C dX4_move_62 (zz20 (G := xg X) hq0) (k := 5) (Nat.le_of_ble_eq_true rfl) (b := xad X 21 q0) rfl (Cn := RX4) (T := TX4) rfl inX4_X4_move rfl (by decide +kernel) ?_
    refine ms_iload_n C dX4_move_65 2 rfl ?_
    refine ms_dup2 C dX4_move_66 rfl rfl ?_
    refine ms_ld C dX4_move_67 (zz21 (G := xg X) hq0) rfl (fun _ v12 => ?_)
    refine ms_iload_n C dX4_move_68 3 rfl ?_
    refine ms_aload_n C dX4_move_69 0 rfl ?_
    refine ms_geti C dX4_move_70 (zz20 (G := xg X) hq0) (k := 1) (Nat.le_of_ble_eq_true rfl) rfl (Cn := RX4) (T := TX4) rfl inX4_X4_move rfl (by decide +kernel) (fun v13 => ?_)
    refine ms_imul C dX4_move_73 (fun v14 => ?_)
    refine ms_iadd C dX4_move_74 (fun v15 => ?_)
    refine ms_st C dX4_move_75 (zz21 (G := xg X) hq0) rfl (fun _ M16 => ?_)
    refine ms_goto (tgt := 126) C dX4_move_76 (by decide) ?_
    exact ms_vretm C hR dX4_move_126
  refine ms_split (fun c17 => ?_) (fun c17 => ?_)
  · refine ms_tableIn (tgt := 79) C dX4_move_1 (by rw [c17]; decide) (by rw [c17]; decide) (by rw [c17]; rfl) (by decide) ?_
    refine ms_aload_n C dX4_move_79 0 rfl ?_
    refine ms_getr C dX4_move_80 (zz20 (G := xg X) hq0) (k := 5) (Nat.le_of_ble_eq_true rfl) (b := xad X 21 q0) rfl (Cn := RX4) (T := TX4) rfl inX4_X4_move rfl (by decide +kernel) ?_
    refine ms_iload_n C dX4_move_83 2 rfl ?_
    refine ms_dup2 C dX4_move_84 rfl rfl ?_
    refine ms_ld C dX4_move_85 (zz21 (G := xg X) hq0) rfl (fun _ v18 => ?_)
    refine ms_iload_n C dX4_move_86 3 rfl ?_
    refine ms_isub C dX4_move_87 (fun v19 => ?_)
    refine ms_st C dX4_move_88 (zz21 (G := xg X) hq0) rfl (fun _ M20 => ?_)
    refine ms_aload_n C dX4_move_89 0 rfl ?_
    refine ms_getr C dX4_move_90 (zz20 (G := xg X) hq0) (k := 5) (Nat.le_of_ble_eq_true rfl) (b := xad X 21 q0) rfl (Cn := RX4) (T := TX4) rfl inX4_X4_move rfl (by decide +kernel) ?_
    refine ms_iconst C (1 : Int32) dX4_move_93 (by decide) ?_
    refine ms_iload_n C dX4_move_94 2 rfl ?_
    refine ms_isub C dX4_move_95 (fun v21 => ?_)
    refine ms_dup2 C dX4_move_96 rfl rfl ?_
    refine ms_ld C dX4_move_97 (zz21 (G := xg X) hq0) rfl (fun _ v22 => ?_)
    refine ms_iload_n C dX4_move_98 3 rfl ?_
    refine ms_iadd C dX4_move_99 (fun v23 => ?_)
    refine ms_st C dX4_move_100 (zz21 (G := xg X) hq0) rfl (fun _ M24 => ?_)
    refine ms_goto (tgt := 126) C dX4_move_101 (by decide) ?_
    exact ms_vretm C hR dX4_move_126
  refine ms_tableOut (tgt := 104) C dX4_move_1 (by have ec1 : ¬ a0.toInt = 0 := fun q => c1 (Int32.toInt_inj.mp q); have ec8 : ¬ a0.toInt = 1 := fun q => c8 (Int32.toInt_inj.mp q); have ec17 : ¬ a0.toInt = 2 := fun q => c17 (Int32.toInt_inj.mp q); omega) (by decide) ?_
  refine ms_aload_n C dX4_move_104 0 rfl ?_
  refine ms_getr C dX4_move_105 (zz20 (G := xg X) hq0) (k := 5) (Nat.le_of_ble_eq_true rfl) (b := xad X 21 q0) rfl (Cn := RX4) (T := TX4) rfl inX4_X4_move rfl (by decide +kernel) ?_
  refine ms_iload_n C dX4_move_108 2 rfl ?_
  refine ms_dup2 C dX4_move_109 rfl rfl ?_
  refine ms_ld C dX4_move_110 (zz21 (G := xg X) hq0) rfl (fun _ v25 => ?_)
  refine ms_iload_n C dX4_move_111 3 rfl ?_
  refine ms_isub C dX4_move_112 (fun v26 => ?_)
  refine ms_st C dX4_move_113 (zz21 (G := xg X) hq0) rfl (fun _ M27 => ?_)
  refine ms_aload_n C dX4_move_114 0 rfl ?_
  refine ms_getr C dX4_move_115 (zz20 (G := xg X) hq0) (k := 6) (Nat.le_of_ble_eq_true rfl) (b := xad X 22 q0) rfl (Cn := RX4) (T := TX4) rfl inX4_X4_move rfl (by decide +kernel) ?_
  refine ms_iload_n C dX4_move_118 1 rfl ?_
  refine ms_iconst C (3 : Int32) dX4_move_119 (by decide) ?_
  refine ms_isub C dX4_move_120 (fun v28 => ?_)
  refine ms_dup2 C dX4_move_121 rfl rfl ?_
  refine ms_ld C dX4_move_122 (zz22 (G := xg X) hq0) rfl (fun _ v29 => ?_)
  refine ms_iload_n C dX4_move_123 3 rfl ?_
  refine ms_iadd C dX4_move_124 (fun v30 => ?_)
  refine ms_st C dX4_move_125 (zz22 (G := xg X) hq0) rfl (fun _ M31 => ?_)
  exact ms_vretm C hR dX4_move_126
def rmX5_hasDay : Room := { frames := 0, cells := 0, slots := 0, locals := 0 }
theorem inX5_X5_hasDay : ∀ w ∈ wsX50, w ∈ wsX5_hasDay := by decide +kernel
set_option maxRecDepth 100000 in
set_option maxHeartbeats 4000000 in
theorem mtX5_hasDay (l : Launch) (G : mh_G) (n : Nat) (M : mh_M) (q0 : Nat) (a0 : Int32) (hq0 : q0 < 12) {z : Int32} (ho : fX5_hasDay n M q0 a0 = some z) : Met l yX5_hasDay wsX5_hasDay rmX5_hasDay (mh_Pc G M [.ref (G.2.2 31 q0), .int a0]) (mh_Q G M (some (.int z))) 0 0 (mh_dom G) := by
  refine mh_met (cc := cX5_hasDay) (maxL := 2) (ret := (some .boolean)) (by decide) rfl (Nat.le_of_ble_eq_true rfl) ho ?_
  rintro X rfl rfl C hR
  show mh_W X rmX5_hasDay 2 _ z M 0 [(0, .ref (xad X 31 q0)), (1, .int a0)] []
  replace C : mh_C X rmX5_hasDay cX5_hasDay wsX5_hasDay RX5 2 := C
  unfold fX5_hasDay
  refine ms_aload_n C dX5_hasDay_0 0 rfl ?_
  refine ms_geti C dX5_hasDay_1 (zz31 (G := xg X) hq0) (k := 0) (Nat.le_of_ble_eq_true rfl) rfl (Cn := RX5) (T := TX5) rfl inX5_X5_hasDay rfl (by decide +kernel) (fun v1 => ?_)
  refine ms_iload_n C dX5_hasDay_4 1 rfl ?_
  refine ms_ishr C dX5_hasDay_5 (fun v2 => ?_)
  refine ms_iconst C (1 : Int32) dX5_hasDay_6 (by decide) ?_
  refine ms_iand C dX5_hasDay_7 (fun v3 => ?_)
  refine ms_iconst C (1 : Int32) dX5_hasDay_8 (by decide) ?_
  refine ms_icmp_ne (tgt := 16) C dX5_hasDay_9 (by decide) (fun c4 => ?_) (fun c4 => ?_)
  · refine ms_iconst C (0 : Int32) dX5_hasDay_16 (by decide) ?_
    exact ms_ireti C hR rfl rfl dX5_hasDay_17
  · refine ms_iconst C (1 : Int32) dX5_hasDay_12 (by decide) ?_
    refine ms_goto (tgt := 17) C dX5_hasDay_13 (by decide) ?_
    exact ms_ireti C hR rfl rfl dX5_hasDay_17
def rmX5_holds : Room := { frames := 1, cells := 0, slots := 0, locals := 21 }
theorem inX5_X5_holds : ∀ w ∈ wsX50, w ∈ wsX5_holds := by decide +kernel
set_option maxRecDepth 100000 in
set_option maxHeartbeats 4000000 in
theorem mtX5_holds (l : Launch) (G : mh_G) (n : Nat) (M : mh_M) (q0 : Nat) (a0 : Int32) (a1 : Int32) (hq0 : q0 < 12) {z : Int32} (ho : fX5_holds n M q0 a0 a1 = some z) : Met l yX5_holds wsX5_holds rmX5_holds (mh_Pc G M [.ref (G.2.2 31 q0), .int a0, .int a1]) (mh_Q G M (some (.int z))) 0 0 (mh_dom G) := by
  refine mh_met (cc := cX5_holds) (maxL := 4) (ret := (some .boolean)) (by decide) rfl (Nat.le_of_ble_eq_true rfl) ho ?_
  rintro X rfl rfl C hR
  show mh_W X rmX5_holds 4 _ z M 0 [(0, .ref (xad X 31 q0)), (1, .int a0), (2, .int a1)] []
  replace C : mh_C X rmX5_holds cX5_holds wsX5_holds RX5 4 := C
  unfold fX5_holds
  refine ms_aload_n C dX5_holds_0 0 rfl ?_
  refine ms_geti C dX5_holds_1 (zz31 (G := xg X) hq0) (k := 1) (Nat.le_of_ble_eq_true rfl) rfl (Cn := RX5) (T := TX5) rfl inX5_X5_holds rfl (by decide +kernel) (fun v1 => ?_)
  refine ms_aload_n C dX5_holds_4 0 rfl ?_
  refine ms_geti C dX5_holds_5 (zz31 (G := xg X) hq0) (k := 2) (Nat.le_of_ble_eq_true rfl) rfl (Cn := RX5) (T := TX5) rfl inX5_X5_holds rfl (by decide +kernel) (fun v2 => ?_)
  refine ms_icmp_ge (tgt := 41) C dX5_holds_8 (by decide) (fun c3 => ?_) (fun c3 => ?_)
  · refine ms_iload_n C dX5_holds_41 1 rfl ?_
    refine ms_if_ne (tgt := 50) C dX5_holds_42 (by decide) (fun c4 => ?_) (fun c4 => ?_)
    · refine ms_iload_n C dX5_holds_50 1 rfl ?_
      refine ms_iconst C (1 : Int32) dX5_holds_51 (by decide) ?_
      refine ms_isub C dX5_holds_52 (fun v5 => ?_)
      refine ms_istore_n (L' := [(3, .int v5), (0, .ref (xad X 31 q0)), (1, .int a0), (2, .int a1)]) C dX5_holds_53 rfl (by decide) rfl ?_
      refine ms_aload_n C dX5_holds_54 1 rfl ?_
      refine ms_iload_n C dX5_holds_55 2 rfl ?_
      refine ms_callVi (As := [.int a0]) C dX5_holds_56 (fun _ h => mtX5_hasDay (xl X) (xg X) n M q0 a0 hq0 h) (cwV 1 C.2.2.1 gX5_holds_X5_hasDay rfl rfl rfl (by decide +kernel) ⟨Nat.le_of_ble_eq_true rfl, Nat.le_of_ble_eq_true rfl⟩) (zz31 (G := xg X) hq0) (T := TX5) rfl rfl rfl (Nat.le_of_ble_eq_true rfl) (fun v6 => ?_)
      refine ms_if_eq (tgt := 70) C dX5_holds_59 (by decide) (fun c7 => ?_) (fun c7 => ?_)
      · refine ms_aload_n C dX5_holds_70 1 rfl ?_
        refine ms_iload_n C dX5_holds_71 0 rfl ?_
        refine ms_callVi (As := [.int v5]) C dX5_holds_72 (fun _ h => mtX5_hasDay (xl X) (xg X) n M q0 v5 hq0 h) (cwV 1 C.2.2.1 gX5_holds_X5_hasDay rfl rfl rfl (by decide +kernel) ⟨Nat.le_of_ble_eq_true rfl, Nat.le_of_ble_eq_true rfl⟩) (zz31 (G := xg X) hq0) (T := TX5) rfl rfl rfl (Nat.le_of_ble_eq_true rfl) (fun v8 => ?_)
        refine ms_if_eq (tgt := 90) C dX5_holds_75 (by decide) (fun c9 => ?_) (fun c9 => ?_)
        · refine ms_iconst C (0 : Int32) dX5_holds_90 (by decide) ?_
          exact ms_ireti C hR rfl rfl dX5_holds_91
        · refine ms_iload_n C dX5_holds_78 3 rfl ?_
          refine ms_aload_n C dX5_holds_79 1 rfl ?_
          refine ms_geti C dX5_holds_80 (zz31 (G := xg X) hq0) (k := 2) (Nat.le_of_ble_eq_true rfl) rfl (Cn := RX5) (T := TX5) rfl inX5_X5_holds rfl (by decide +kernel) (fun v10 => ?_)
          refine ms_icmp_ge (tgt := 90) C dX5_holds_83 (by decide) (fun c11 => ?_) (fun c11 => ?_)
          · refine ms_iconst C (0 : Int32) dX5_holds_90 (by decide) ?_
            exact ms_ireti C hR rfl rfl dX5_holds_91
          · refine ms_iconst C (1 : Int32) dX5_holds_86 (by decide) ?_
            refine ms_goto (tgt := 91) C dX5_holds_87 (by decide) ?_
            exact ms_ireti C hR rfl rfl dX5_holds_91
      · refine ms_aload_n C dX5_holds_62 1 rfl ?_
        refine ms_geti C dX5_holds_63 (zz31 (G := xg X) hq0) (k := 1) (Nat.le_of_ble_eq_true rfl) rfl (Cn := RX5) (T := TX5) rfl inX5_X5_holds rfl (by decide +kernel) (fun v12 => ?_)
        refine ms_iload_n C dX5_holds_66 3 rfl ?_
        refine ms_icmp_le (tgt := 86) C dX5_holds_67 (by decide) (fun c13 => ?_) (fun c13 => ?_)
        · refine ms_iconst C (1 : Int32) dX5_holds_86 (by decide) ?_
          refine ms_goto (tgt := 91) C dX5_holds_87 (by decide) ?_
          exact ms_ireti C hR rfl rfl dX5_holds_91
        · refine ms_aload_n C dX5_holds_70 1 rfl ?_
          refine ms_iload_n C dX5_holds_71 0 rfl ?_
          refine ms_callVi (As := [.int v5]) C dX5_holds_72 (fun _ h => mtX5_hasDay (xl X) (xg X) n M q0 v5 hq0 h) (cwV 1 C.2.2.1 gX5_holds_X5_hasDay rfl rfl rfl (by decide +kernel) ⟨Nat.le_of_ble_eq_true rfl, Nat.le_of_ble_eq_true rfl⟩) (zz31 (G := xg X) hq0) (T := TX5) rfl rfl rfl (Nat.le_of_ble_eq_true rfl) (fun v14 => ?_)
          refine ms_if_eq (tgt := 90) C dX5_holds_75 (by decide) (fun c15 => ?_) (fun c15 => ?_)
          · refine ms_iconst C (0 : Int32) dX5_holds_90 (by decide) ?_
            exact ms_ireti C hR rfl rfl dX5_holds_91
          · refine ms_iload_n C dX5_holds_78 3 rfl ?_
            refine ms_aload_n C dX5_holds_79 1 rfl ?_
            refine ms_geti C dX5_holds_80 (zz31 (G := xg X) hq0) (k := 2) (Nat.le_of_ble_eq_true rfl) rfl (Cn := RX5) (T := TX5) rfl inX5_X5_holds rfl (by decide +kernel) (fun v16 => ?_)
            refine ms_icmp_ge (tgt := 90) C dX5_holds_83 (by decide) (fun c17 => ?_) (fun c17 => ?_)
            · refine ms_iconst C (0 : Int32) dX5_holds_90 (by decide) ?_
              exact ms_ireti C hR rfl rfl dX5_holds_91
            · refine ms_iconst C (1 : Int32) dX5_holds_86 (by decide) ?_
              refine ms_goto (tgt := 91) C dX5_holds_87 (by decide) ?_
              exact ms_ireti C hR rfl rfl dX5_holds_91
    · refine ms_bipush C (6 : Int32) dX5_holds_45 (by decide) ?_
      refine ms_goto (tgt := 53) C dX5_holds_47 (by decide) ?_
      refine ms_istore_n (L' := [(3, .int (6 : Int32)), (0, .ref (xad X 31 q0)), (1, .int a0), (2, .int a1)]) C dX5_holds_53 rfl (by decide) rfl ?_
      refine ms_aload_n C dX5_holds_54 1 rfl ?_
      refine ms_iload_n C dX5_holds_55 2 rfl ?_
      refine ms_callVi (As := [.int a0]) C dX5_holds_56 (fun _ h => mtX5_hasDay (xl X) (xg X) n M q0 a0 hq0 h) (cwV 1 C.2.2.1 gX5_holds_X5_hasDay rfl rfl rfl (by decide +kernel) ⟨Nat.le_of_ble_eq_true rfl, Nat.le_of_ble_eq_true rfl⟩) (zz31 (G := xg X) hq0) (T := TX5) rfl rfl rfl (Nat.le_of_ble_eq_true rfl) (fun v18 => ?_)
      refine ms_if_eq (tgt := 70) C dX5_holds_59 (by decide) (fun c19 => ?_) (fun c19 => ?_)
      · refine ms_aload_n C dX5_holds_70 1 rfl ?_
        refine ms_iload_n C dX5_holds_71 0 rfl ?_
        refine ms_callVi (As := [.int (6 : Int32)]) C dX5_holds_72 (fun _ h => mtX5_hasDay (xl X) (xg X) n M q0 (6 : Int32) hq0 h) (cwV 1 C.2.2.1 gX5_holds_X5_hasDay rfl rfl rfl (by decide +kernel) ⟨Nat.le_of_ble_eq_true rfl, Nat.le_of_ble_eq_true rfl⟩) (zz31 (G := xg X) hq0) (T := TX5) rfl rfl rfl (Nat.le_of_ble_eq_true rfl) (fun v20 => ?_)
        refine ms_if_eq (tgt := 90) C dX5_holds_75 (by decide) (fun c21 => ?_) (fun c21 => ?_)
        · refine ms_iconst C (0 : Int32) dX5_holds_90 (by decide) ?_
          exact ms_ireti C hR rfl rfl dX5_holds_91
        · refine ms_iload_n C dX5_holds_78 3 rfl ?_
          refine ms_aload_n C dX5_holds_79 1 rfl ?_
          refine ms_geti C dX5_holds_80 (zz31 (G := xg X) hq0) (k := 2) (Nat.le_of_ble_eq_true rfl) rfl (Cn := RX5) (T := TX5) rfl inX5_X5_holds rfl (by decide +kernel) (fun v22 => ?_)
          refine ms_icmp_ge (tgt := 90) C dX5_holds_83 (by decide) (fun c23 => ?_) (fun c23 => ?_)
          · refine ms_iconst C (0 : Int32) dX5_holds_90 (by decide) ?_
            exact ms_ireti C hR rfl rfl dX5_holds_91
          · refine ms_iconst C (1 : Int32) dX5_holds_86 (by decide) ?_
            refine ms_goto (tgt := 91) C dX5_holds_87 (by decide) ?_
            exact ms_ireti C hR rfl rfl dX5_holds_91
      · refine ms_aload_n C dX5_holds_62 1 rfl ?_
        refine ms_geti C dX5_holds_63 (zz31 (G := xg X) hq0) (k := 1) (Nat.le_of_ble_eq_true rfl) rfl (Cn := RX5) (T := TX5) rfl inX5_X5_holds rfl (by decide +kernel) (fun v24 => ?_)
        refine ms_iload_n C dX5_holds_66 3 rfl ?_
        refine ms_icmp_le (tgt := 86) C dX5_holds_67 (by decide) (fun c25 => ?_) (fun c25 => ?_)
        · refine ms_iconst C (1 : Int32) dX5_holds_86 (by decide) ?_
          refine ms_goto (tgt := 91) C dX5_holds_87 (by decide) ?_
          exact ms_ireti C hR rfl rfl dX5_holds_91
        · refine ms_aload_n C dX5_holds_70 1 rfl ?_
          refine ms_iload_n C dX5_holds_71 0 rfl ?_
          refine ms_callVi (As := [.int (6 : Int32)]) C dX5_holds_72 (fun _ h => mtX5_hasDay (xl X) (xg X) n M q0 (6 : Int32) hq0 h) (cwV 1 C.2.2.1 gX5_holds_X5_hasDay rfl rfl rfl (by decide +kernel) ⟨Nat.le_of_ble_eq_true rfl, Nat.le_of_ble_eq_true rfl⟩) (zz31 (G := xg X) hq0) (T := TX5) rfl rfl rfl (Nat.le_of_ble_eq_true rfl) (fun v26 => ?_)
          refine ms_if_eq (tgt := 90) C dX5_holds_75 (by decide) (fun c27 => ?_) (fun c27 => ?_)
          · refine ms_iconst C (0 : Int32) dX5_holds_90 (by decide) ?_
            exact ms_ireti C hR rfl rfl dX5_holds_91
          · refine ms_iload_n C dX5_holds_78 3 rfl ?_
            refine ms_aload_n C dX5_holds_79 1 rfl ?_
            refine ms_geti C dX5_holds_80 (zz31 (G := xg X) hq0) (k := 2) (Nat.le_of_ble_eq_true rfl) rfl (Cn := RX5) (T := TX5) rfl inX5_X5_holds rfl (by decide +kernel) (fun v28 => ?_)
            refine ms_icmp_ge (tgt := 90) C dX5_holds_83 (by decide) (fun c29 => ?_) (fun c29 => ?_)
            · refine ms_iconst C (0 : Int32) dX5_holds_90 (by decide) ?_
              exact ms_ireti C hR rfl rfl dX5_holds_91
            · refine ms_iconst C (1 : Int32) dX5_holds_86 (by decide) ?_
              refine ms_goto (tgt := 91) C dX5_holds_87 (by decide) ?_
              exact ms_ireti C hR rfl rfl dX5_holds_91
  · refine ms_aload_n C dX5_holds_11 0 rfl ?_
    refine ms_iload_n C dX5_holds_12 1 rfl ?_
    refine ms_callVi (As := [.int a0]) C dX5_holds_13 (fun _ h => mtX5_hasDay (xl X) (xg X) n M q0 a0 hq0 h) (cwV 1 C.2.2.1 gX5_holds_X5_hasDay rfl rfl rfl (by decide +kernel) ⟨Nat.le_of_ble_eq_true rfl, Nat.le_of_ble_eq_true rfl⟩) (zz31 (G := xg X) hq0) (T := TX5) rfl rfl rfl (Nat.le_of_ble_eq_true rfl) (fun v30 => ?_)
    refine ms_if_eq (tgt := 39) C dX5_holds_16 (by decide) (fun c31 => ?_) (fun c31 => ?_)
    · refine ms_iconst C (0 : Int32) dX5_holds_39 (by decide) ?_
      exact ms_ireti C hR rfl rfl dX5_holds_40
    · refine ms_aload_n C dX5_holds_19 0 rfl ?_
      refine ms_geti C dX5_holds_20 (zz31 (G := xg X) hq0) (k := 1) (Nat.le_of_ble_eq_true rfl) rfl (Cn := RX5) (T := TX5) rfl inX5_X5_holds rfl (by decide +kernel) (fun v32 => ?_)
      refine ms_iload_n C dX5_holds_23 2 rfl ?_
      refine ms_icmp_gt (tgt := 39) C dX5_holds_24 (by decide) (fun c33 => ?_) (fun c33 => ?_)
      · refine ms_iconst C (0 : Int32) dX5_holds_39 (by decide) ?_
        exact ms_ireti C hR rfl rfl dX5_holds_40
      · refine ms_iload_n C dX5_holds_27 2 rfl ?_
        refine ms_aload_n C dX5_holds_28 0 rfl ?_
        refine ms_geti C dX5_holds_29 (zz31 (G := xg X) hq0) (k := 2) (Nat.le_of_ble_eq_true rfl) rfl (Cn := RX5) (T := TX5) rfl inX5_X5_holds rfl (by decide +kernel) (fun v34 => ?_)
        refine ms_icmp_ge (tgt := 39) C dX5_holds_32 (by decide) (fun c35 => ?_) (fun c35 => ?_)
        · refine ms_iconst C (0 : Int32) dX5_holds_39 (by decide) ?_
          exact ms_ireti C hR rfl rfl dX5_holds_40
        · refine ms_iconst C (1 : Int32) dX5_holds_35 (by decide) ?_
          refine ms_goto (tgt := 40) C dX5_holds_36 (by decide) ?_
          exact ms_ireti C hR rfl rfl dX5_holds_40
def rmX6_putParts : Room := { frames := 0, cells := 0, slots := 0, locals := 0 }
theorem inX6_X6_putParts : ∀ w ∈ wsX60, w ∈ wsX6_putParts := by decide +kernel
set_option maxRecDepth 100000 in
set_option maxHeartbeats 4000000 in
theorem mtX6_putParts (l : Launch) (G : mh_G) (n : Nat) (M : mh_M) (q0 : Nat) (a0 : Int32) (a1 : Int32) (hq0 : q0 < 12) {z : mh_M × Int32} (ho : fX6_putParts n M q0 a0 a1 = some z) : Met l yX6_putParts wsX6_putParts rmX6_putParts (mh_Pc G M [.ref (G.2.2 23 q0), .int a0, .int a1]) (mh_Q G z.1 (some (.int z.2))) 0 0 (mh_dom G) := by
  refine mh_met (cc := cX6_putParts) (maxL := 4) (ret := (some .int)) (by decide) rfl (Nat.le_of_ble_eq_true rfl) ho ?_
  rintro X rfl rfl C hR
  show mh_W X rmX6_putParts 4 _ z M 0 [(0, .ref (xad X 23 q0)), (1, .int a0), (2, .int a1)] []
  replace C : mh_C X rmX6_putParts cX6_putParts wsX6_putParts RX6 4 := C
  unfold fX6_putParts
  refine ms_aload_n C dX6_putParts_0 0 rfl ?_
  refine ms_getr C dX6_putParts_1 (zz23 (G := xg X) hq0) (k := 3) (Nat.le_of_ble_eq_true rfl) (b := xad X 24 q0) rfl (Cn := RX6) (T := TX6) rfl inX6_X6_putParts rfl (by decide +kernel) ?_
  refine ms_iload_n C dX6_putParts_4 1 rfl ?_
  refine ms_ld C dX6_putParts_5 (zz24 (G := xg X) hq0) rfl (fun _ v1 => ?_)
  refine ms_istore_n (L' := [(3, .int v1), (0, .ref (xad X 23 q0)), (1, .int a0), (2, .int a1)]) C dX6_putParts_6 rfl (by decide) rfl ?_
  refine ms_aload_n C dX6_putParts_7 1 rfl ?_
  refine ms_getr C dX6_putParts_8 (zz23 (G := xg X) hq0) (k := 3) (Nat.le_of_ble_eq_true rfl) (b := xad X 24 q0) rfl (Cn := RX6) (T := TX6) rfl inX6_X6_putParts rfl (by decide +kernel) ?_
  refine ms_iload_n C dX6_putParts_11 2 rfl ?_
  refine ms_iload_n C dX6_putParts_12 3 rfl ?_
  refine ms_st C dX6_putParts_13 (zz24 (G := xg X) hq0) rfl (fun _ M2 => ?_)
  refine ms_aload_n C dX6_putParts_14 1 rfl ?_
  refine ms_iload_n C dX6_putParts_15 3 rfl ?_
  refine ms_if_le (tgt := 30) C dX6_putParts_16 (by decide) (fun c3 => ?_) (fun c3 => ?_)
  · refine ms_aload_n C dX6_putParts_30 1 rfl ?_
    refine ms_geti C dX6_putParts_31 (zz23 (G := xg X) hq0) (k := 2) (Nat.le_of_ble_eq_true rfl) rfl (Cn := RX6) (T := TX6) rfl inX6_X6_putParts rfl (by decide +kernel) (fun v4 => ?_)
    refine ms_iconst C (1 : Int32) dX6_putParts_34 (by decide) ?_
    refine ms_iload_n C dX6_putParts_35 2 rfl ?_
    refine ms_ishl C dX6_putParts_36 (fun v5 => ?_)
    refine ms_iconst C (-1 : Int32) dX6_putParts_37 (by decide) ?_
    refine ms_ixor C dX6_putParts_38 (fun v6 => ?_)
    refine ms_iand C dX6_putParts_39 (fun v7 => ?_)
    refine ms_puti C dX6_putParts_40 tyX6 tyX6_ok nmX6 (zz23 (G := xg X) hq0) (k := 2) (Nat.le_of_ble_eq_true rfl) rfl (Cn := RX6) (T := TX6) rfl inX6_X6_putParts rfl (by decide +kernel) rfl (by decide +kernel) (fun M8 => ?_)
    refine ms_iload_n C dX6_putParts_43 0 rfl ?_
    exact ms_iretm C hR rfl dX6_putParts_44
  · refine ms_aload_n C dX6_putParts_19 1 rfl ?_
    refine ms_geti C dX6_putParts_20 (zz23 (G := xg X) hq0) (k := 2) (Nat.le_of_ble_eq_true rfl) rfl (Cn := RX6) (T := TX6) rfl inX6_X6_putParts rfl (by decide +kernel) (fun v9 => ?_)
    refine ms_iconst C (1 : Int32) dX6_putParts_23 (by decide) ?_
    refine ms_iload_n C dX6_putParts_24 2 rfl ?_
    refine ms_ishl C dX6_putParts_25 (fun v10 => ?_)
    refine ms_ior C dX6_putParts_26 (fun v11 => ?_)
    refine ms_goto (tgt := 40) C dX6_putParts_27 (by decide) ?_
    refine ms_puti C dX6_putParts_40 tyX6 tyX6_ok nmX6 (zz23 (G := xg X) hq0) (k := 2) (Nat.le_of_ble_eq_true rfl) rfl (Cn := RX6) (T := TX6) rfl inX6_X6_putParts rfl (by decide +kernel) rfl (by decide +kernel) (fun M12 => ?_)
    refine ms_iload_n C dX6_putParts_43 0 rfl ?_
    exact ms_iretm C hR rfl dX6_putParts_44
def rmX6_canBeMadeBy : Room := { frames := 0, cells := 0, slots := 0, locals := 0 }
theorem inX6_X6_canBeMadeBy : ∀ w ∈ wsX60, w ∈ wsX6_canBeMadeBy := by decide +kernel
set_option maxRecDepth 100000 in
set_option maxHeartbeats 4000000 in
theorem mtX6_canBeMadeBy (l : Launch) (G : mh_G) (n : Nat) (M : mh_M) (q0 : Nat) (a0 : Int32) (hq0 : q0 < 12) {z : Int32} (ho : fX6_canBeMadeBy n M q0 a0 = some z) : Met l yX6_canBeMadeBy wsX6_canBeMadeBy rmX6_canBeMadeBy (mh_Pc G M [.ref (G.2.2 23 q0), .int a0]) (mh_Q G M (some (.int z))) 0 0 (mh_dom G) := by
  refine mh_met (cc := cX6_canBeMadeBy) (maxL := 2) (ret := (some .boolean)) (by decide) rfl (Nat.le_of_ble_eq_true rfl) ho ?_
  rintro X rfl rfl C hR
  show mh_W X rmX6_canBeMadeBy 2 _ z M 0 [(0, .ref (xad X 23 q0)), (1, .int a0)] []
  replace C : mh_C X rmX6_canBeMadeBy cX6_canBeMadeBy wsX6_canBeMadeBy RX6 2 := C
  unfold fX6_canBeMadeBy
  refine ms_aload_n C dX6_canBeMadeBy_0 0 rfl ?_
  refine ms_geti C dX6_canBeMadeBy_1 (zz23 (G := xg X) hq0) (k := 2) (Nat.le_of_ble_eq_true rfl) rfl (Cn := RX6) (T := TX6) rfl inX6_X6_canBeMadeBy rfl (by decide +kernel) (fun v1 => ?_)
  refine ms_if_eq (tgt := 22) C dX6_canBeMadeBy_4 (by decide) (fun c2 => ?_) (fun c2 => ?_)
  · refine ms_iconst C (0 : Int32) dX6_canBeMadeBy_22 (by decide) ?_
    exact ms_ireti C hR rfl rfl dX6_canBeMadeBy_23
  · refine ms_aload_n C dX6_canBeMadeBy_7 0 rfl ?_
    refine ms_geti C dX6_canBeMadeBy_8 (zz23 (G := xg X) hq0) (k := 2) (Nat.le_of_ble_eq_true rfl) rfl (Cn := RX6) (T := TX6) rfl inX6_X6_canBeMadeBy rfl (by decide +kernel) (fun v3 => ?_)
    refine ms_iload_n C dX6_canBeMadeBy_11 1 rfl ?_
    refine ms_iconst C (-1 : Int32) dX6_canBeMadeBy_12 (by decide) ?_
    refine ms_ixor C dX6_canBeMadeBy_13 (fun v4 => ?_)
    refine ms_iand C dX6_canBeMadeBy_14 (fun v5 => ?_)
    refine ms_if_ne (tgt := 22) C dX6_canBeMadeBy_15 (by decide) (fun c6 => ?_) (fun c6 => ?_)
    · refine ms_iconst C (0 : Int32) dX6_canBeMadeBy_22 (by decide) ?_
      exact ms_ireti C hR rfl rfl dX6_canBeMadeBy_23
    · refine ms_iconst C (1 : Int32) dX6_canBeMadeBy_18 (by decide) ?_
      refine ms_goto (tgt := 23) C dX6_canBeMadeBy_19 (by decide) ?_
      exact ms_ireti C hR rfl rfl dX6_canBeMadeBy_23
def rmX7_isTold : Room := { frames := 1, cells := 0, slots := 0, locals := 21 }
theorem inX7_X7_isTold : ∀ w ∈ wsX70, w ∈ wsX7_isTold := by decide +kernel
set_option maxRecDepth 100000 in
set_option maxHeartbeats 4000000 in
theorem mtX7_isTold (l : Launch) (G : mh_G) (n : Nat) (M : mh_M) (q0 : Nat) (a0 : Int32) (hq0 : q0 < 40) {z : Int32} (ho : fX7_isTold n M q0 a0 = some z) : Met l yX7_isTold wsX7_isTold rmX7_isTold (mh_Pc G M [.ref (G.2.2 25 q0), .int a0]) (mh_Q G M (some (.int z))) 0 0 (mh_dom G) := by
  refine mh_met (cc := cX7_isTold) (maxL := 2) (ret := (some .boolean)) (by decide) rfl (Nat.le_of_ble_eq_true rfl) ho ?_
  rintro X rfl rfl C hR
  show mh_W X rmX7_isTold 2 _ z M 0 [(0, .ref (xad X 25 q0)), (1, .int a0)] []
  replace C : mh_C X rmX7_isTold cX7_isTold wsX7_isTold RX7 2 := C
  unfold fX7_isTold
  refine ms_aload_n C dX7_isTold_0 0 rfl ?_
  refine ms_getr C dX7_isTold_1 (zz25 (G := xg X) hq0) (k := 2) (Nat.le_of_ble_eq_true rfl) (b := xad X 27 q0) rfl (Cn := RX7) (T := TX7) rfl inX7_X7_isTold rfl (by decide +kernel) ?_
  refine ms_iload_n C dX7_isTold_4 1 rfl ?_
  refine ms_zld C dX7_isTold_5 (zz27 (G := xg X) hq0) rfl (fun _ v1 => ?_)
  refine ms_if_eq (tgt := 31) C dX7_isTold_6 (by decide) (fun c2 => ?_) (fun c2 => ?_)
  · refine ms_iconst C (0 : Int32) dX7_isTold_31 (by decide) ?_
    exact ms_ireti C hR rfl rfl dX7_isTold_32
  · refine ms_aload_n C dX7_isTold_9 0 rfl ?_
    refine ms_getr C dX7_isTold_10 (zz25 (G := xg X) hq0) (k := 3) (Nat.le_of_ble_eq_true rfl) (b := xad X 28 q0) rfl (Cn := RX7) (T := TX7) rfl inX7_X7_isTold rfl (by decide +kernel) ?_
    refine ms_iload_n C dX7_isTold_13 1 rfl ?_
    refine ms_ld C dX7_isTold_14 (zz28 (G := xg X) hq0) rfl (fun _ v3 => ?_)
    refine ms_mabs C dX7_isTold_15 (by decide +kernel) (by decide +kernel) (by decide +kernel) (by decide +kernel) (Nat.le_of_ble_eq_true rfl) (Nat.le_of_ble_eq_true rfl) (fun v4 => ?_)
    refine ms_aload_n C dX7_isTold_18 0 rfl ?_
    refine ms_getr C dX7_isTold_19 (zz25 (G := xg X) hq0) (k := 4) (Nat.le_of_ble_eq_true rfl) (b := xad X 29 q0) rfl (Cn := RX7) (T := TX7) rfl inX7_X7_isTold rfl (by decide +kernel) ?_
    refine ms_iload_n C dX7_isTold_22 1 rfl ?_
    refine ms_ld C dX7_isTold_23 (zz29 (G := xg X) hq0) rfl (fun _ v5 => ?_)
    refine ms_icmp_le (tgt := 31) C dX7_isTold_24 (by decide) (fun c6 => ?_) (fun c6 => ?_)
    · refine ms_iconst C (0 : Int32) dX7_isTold_31 (by decide) ?_
      exact ms_ireti C hR rfl rfl dX7_isTold_32
    · refine ms_iconst C (1 : Int32) dX7_isTold_27 (by decide) ?_
      refine ms_goto (tgt := 32) C dX7_isTold_28 (by decide) ?_
      exact ms_ireti C hR rfl rfl dX7_isTold_32
def rmX7_judges : Room := { frames := 0, cells := 0, slots := 0, locals := 0 }
theorem inX7_X7_judges : ∀ w ∈ wsX70, w ∈ wsX7_judges := by decide +kernel
set_option maxRecDepth 100000 in
set_option maxHeartbeats 4000000 in
theorem mtX7_judges (l : Launch) (G : mh_G) (n : Nat) (M : mh_M) (q0 : Nat) (a0 : Int32) (a1 : Int32) (hq0 : q0 < 40) {z : Int32} (ho : fX7_judges n M q0 a0 a1 = some z) : Met l yX7_judges wsX7_judges rmX7_judges (mh_Pc G M [.ref (G.2.2 25 q0), .int a0, .int a1]) (mh_Q G M (some (.int z))) 0 0 (mh_dom G) := by
  refine mh_met (cc := cX7_judges) (maxL := 3) (ret := (some .boolean)) (by decide) rfl (Nat.le_of_ble_eq_true rfl) ho ?_
  rintro X rfl rfl C hR
  show mh_W X rmX7_judges 3 _ z M 0 [(0, .ref (xad X 25 q0)), (1, .int a0), (2, .int a1)] []
  replace C : mh_C X rmX7_judges cX7_judges wsX7_judges RX7 3 := C
  unfold fX7_judges
  refine ms_aload_n C dX7_judges_0 0 rfl ?_
  refine ms_geti C dX7_judges_1 (zz25 (G := xg X) hq0) (k := 0) (Nat.le_of_ble_eq_true rfl) rfl (Cn := RX7) (T := TX7) rfl inX7_X7_judges rfl (by decide +kernel) (fun v1 => ?_)
  refine ms_iload_n C dX7_judges_4 1 rfl ?_
  refine ms_icmp_ne (tgt := 30) C dX7_judges_5 (by decide) (fun c2 => ?_) (fun c2 => ?_)
  · refine ms_iconst C (0 : Int32) dX7_judges_30 (by decide) ?_
    exact ms_ireti C hR rfl rfl dX7_judges_31
  · refine ms_aload_n C dX7_judges_8 0 rfl ?_
    refine ms_getr C dX7_judges_9 (zz25 (G := xg X) hq0) (k := 2) (Nat.le_of_ble_eq_true rfl) (b := xad X 27 q0) rfl (Cn := RX7) (T := TX7) rfl inX7_X7_judges rfl (by decide +kernel) ?_
    refine ms_iload_n C dX7_judges_12 2 rfl ?_
    refine ms_zld C dX7_judges_13 (zz27 (G := xg X) hq0) rfl (fun _ v3 => ?_)
    refine ms_if_eq (tgt := 30) C dX7_judges_14 (by decide) (fun c4 => ?_) (fun c4 => ?_)
    · refine ms_iconst C (0 : Int32) dX7_judges_30 (by decide) ?_
      exact ms_ireti C hR rfl rfl dX7_judges_31
    · refine ms_aload_n C dX7_judges_17 0 rfl ?_
      refine ms_getr C dX7_judges_18 (zz25 (G := xg X) hq0) (k := 1) (Nat.le_of_ble_eq_true rfl) (b := xad X 26 q0) rfl (Cn := RX7) (T := TX7) rfl inX7_X7_judges rfl (by decide +kernel) ?_
      refine ms_iload_n C dX7_judges_21 2 rfl ?_
      refine ms_ld C dX7_judges_22 (zz26 (G := xg X) hq0) rfl (fun _ v5 => ?_)
      refine ms_if_le (tgt := 30) C dX7_judges_23 (by decide) (fun c6 => ?_) (fun c6 => ?_)
      · refine ms_iconst C (0 : Int32) dX7_judges_30 (by decide) ?_
        exact ms_ireti C hR rfl rfl dX7_judges_31
      · refine ms_iconst C (1 : Int32) dX7_judges_26 (by decide) ?_
        refine ms_goto (tgt := 31) C dX7_judges_27 (by decide) ?_
        exact ms_ireti C hR rfl rfl dX7_judges_31
def rmX8_cutShare : Room := { frames := 0, cells := 0, slots := 0, locals := 0 }
theorem inX8_X8_cutShare : ∀ w ∈ wsX80, w ∈ wsX8_cutShare := by decide +kernel
set_option maxRecDepth 100000 in
set_option maxHeartbeats 4000000 in
theorem mtX8_cutShare (l : Launch) (G : mh_G) (n : Nat) (M : mh_M) (a0 : Int32) (a1 : Int32) (a2 : Int64) {z : Int64} (ho : fX8_cutShare n M a0 a1 a2 = some z) : Met l yX8_cutShare wsX8_cutShare rmX8_cutShare (mh_Pc G M [.ref (G.2.2 13 0), .int a0, .int a1, .long a2]) (mh_Q G M (some (.long z))) 0 0 (mh_dom G) := by
  refine mh_met (cc := cX8_cutShare) (maxL := 5) (ret := (some .long)) (by decide) rfl (Nat.le_of_ble_eq_true rfl) ho ?_
  rintro X rfl rfl C hR
  show mh_W X rmX8_cutShare 5 _ z M 0 [(0, .ref (xad X 13 0)), (1, .int a0), (2, .int a1), (3, .long a2)] []
  replace C : mh_C X rmX8_cutShare cX8_cutShare wsX8_cutShare RX8 5 := C
  unfold fX8_cutShare
  refine ms_iload_n C dX8_cutShare_0 2 rfl ?_
  refine ms_i2l C dX8_cutShare_1 (fun v1 => ?_)
  refine ms_aload_n C dX8_cutShare_2 0 rfl ?_
  refine ms_getr C dX8_cutShare_3 (zz13 (G := xg X) Nat.one_pos) (k := 0) (Nat.le_of_ble_eq_true rfl) (b := xad X 14 0) rfl (Cn := RX8) (T := TX8) rfl inX8_X8_cutShare rfl (by decide +kernel) ?_
  refine ms_iload_n C dX8_cutShare_6 1 rfl ?_
  refine ms_ld C dX8_cutShare_7 (zz14 (G := xg X) Nat.one_pos) rfl (fun _ v2 => ?_)
  refine ms_i2l C dX8_cutShare_8 (fun v3 => ?_)
  refine ms_lmul C dX8_cutShare_9 (fun v4 => ?_)
  refine ms_lload_n C dX8_cutShare_10 3 rfl ?_
  refine ms_ldiv C dX8_cutShare_11 (fun v5 => ?_)
  exact ms_lreti C hR rfl dX8_cutShare_12
def rmX8_rest : Room := { frames := 0, cells := 0, slots := 0, locals := 0 }
theorem inX8_X8_rest : ∀ w ∈ wsX80, w ∈ wsX8_rest := by decide +kernel
set_option maxRecDepth 100000 in
set_option maxHeartbeats 4000000 in
theorem mtX8_rest (l : Launch) (G : mh_G) (n : Nat) (M : mh_M) (a0 : Int32) (a1 : Int32) (a2 : Int64) {z : Int64} (ho : fX8_rest n M a0 a1 a2 = some z) : Met l yX8_rest wsX8_rest rmX8_rest (mh_Pc G M [.ref (G.2.2 13 0), .int a0, .int a1, .long a2]) (mh_Q G M (some (.long z))) 0 0 (mh_dom G) := by
  refine mh_met (cc := cX8_rest) (maxL := 5) (ret := (some .long)) (by decide) rfl (Nat.le_of_ble_eq_true rfl) ho ?_
  rintro X rfl rfl C hR
  show mh_W X rmX8_rest 5 _ z M 0 [(0, .ref (xad X 13 0)), (1, .int a0), (2, .int a1), (3, .long a2)] []
  replace C : mh_C X rmX8_rest cX8_rest wsX8_rest RX8 5 := C
  unfold fX8_rest
  refine ms_iload_n C dX8_rest_0 2 rfl ?_
  refine ms_i2l C dX8_rest_1 (fun v1 => ?_)
  refine ms_aload_n C dX8_rest_2 0 rfl ?_
  refine ms_getr C dX8_rest_3 (zz13 (G := xg X) Nat.one_pos) (k := 0) (Nat.le_of_ble_eq_true rfl) (b := xad X 14 0) rfl (Cn := RX8) (T := TX8) rfl inX8_X8_rest rfl (by decide +kernel) ?_
  refine ms_iload_n C dX8_rest_6 1 rfl ?_
  refine ms_ld C dX8_rest_7 (zz14 (G := xg X) Nat.one_pos) rfl (fun _ v2 => ?_)
  refine ms_i2l C dX8_rest_8 (fun v3 => ?_)
  refine ms_lmul C dX8_rest_9 (fun v4 => ?_)
  refine ms_lload_n C dX8_rest_10 3 rfl ?_
  refine ms_lrem C dX8_rest_11 (fun v5 => ?_)
  exact ms_lreti C hR rfl dX8_rest_12
def rmX8_aheadOf : Room := { frames := 1, cells := 0, slots := 0, locals := 24 }
set_option maxRecDepth 100000 in
set_option maxHeartbeats 4000000 in
theorem mtX8_aheadOf_L15 {X : mh_X} {n : Nat} {z : Int32} (M : mh_M) (x1 : Int32) (x2 : Int32) (x3 : Int64) (x5 : Int64) (C : mh_C X rmX8_aheadOf cX8_aheadOf wsX8_aheadOf RX8 11) (hR : mh_R X (some .int) M (some (.int z))) : ∀ (k : Nat) (x7 : Int32) (x8 : Int32), mh_W X rmX8_aheadOf 11 (itr2 (fX8_aheadOf_L15 n M x1 x2 x3 x5) k x7 x8) z M 15 [(0, .ref (xad X 13 0)), (1, .int x1), (2, .int x2), (3, .long x3), (5, .long x5), (7, .int x7), (8, .int x8)] [] := by
  intro k
  induction k with
  | zero =>
    intro x7 x8
    exact ms_none
  | succ k ih =>
    intro x7 x8
    show mh_W X rmX8_aheadOf 11 (fX8_aheadOf_L15 n M x1 x2 x3 x5 (itr2 (fX8_aheadOf_L15 n M x1 x2 x3 x5) k) x7 x8) z M 15 [(0, .ref (xad X 13 0)), (1, .int x1), (2, .int x2), (3, .long x3), (5, .long x5), (7, .int x7), (8, .int x8)] []
    generalize itr2 (fX8_aheadOf_L15 n M x1 x2 x3 x5) k = rec at ih ⊢
    unfold fX8_aheadOf_L15
    refine ms_iload C dX8_aheadOf_15 6 rfl ?_
    refine ms_bipush C (6 : Int32) dX8_aheadOf_17 (by decide) ?_
    refine ms_icmp_ge (tgt := 63) C dX8_aheadOf_19 (by decide) (fun c2 => ?_) (fun c2 => ?_)
    · refine ms_iload C dX8_aheadOf_63 5 rfl ?_
      exact ms_ireti C hR rfl rfl dX8_aheadOf_65
    · refine ms_aload_n C dX8_aheadOf_22 0 rfl ?_
      refine ms_iload C dX8_aheadOf_23 6 rfl ?_
      refine ms_iload_n C dX8_aheadOf_25 2 rfl ?_
      refine ms_lload_n C dX8_aheadOf_26 3 rfl ?_
      refine ms_callVl (As := [.int x8, .int x2, .long x3]) C dX8_aheadOf_27 (fun _ h => mtX8_rest (xl X) (xg X) n M x8 x2 x3 h) (cwV 3 C.2.2.1 gX8_aheadOf_X8_rest rfl rfl rfl (by decide +kernel) ⟨Nat.le_of_ble_eq_true rfl, Nat.le_of_ble_eq_true rfl⟩) (zz13 (G := xg X) Nat.one_pos) (T := TX8) rfl rfl rfl (Nat.le_of_ble_eq_true rfl) (fun v3 => ?_)
      refine ms_lstore (L' := [(9, .long v3), (0, .ref (xad X 13 0)), (1, .int x1), (2, .int x2), (3, .long x3), (5, .long x5), (7, .int x7), (8, .int x8)]) C dX8_aheadOf_30 (by decide) rfl ?_
      refine ms_lload C dX8_aheadOf_32 0 rfl ?_
      refine ms_lload C dX8_aheadOf_34 5 rfl ?_
      refine ms_lcmp C dX8_aheadOf_36 (fun v4 => ?_)
      refine ms_if_gt (tgt := 54) C dX8_aheadOf_37 (by decide) (fun c5 => ?_) (fun c5 => ?_)
      · refine ms_iinc (L' := fun v6 => [(7, .int v6), (9, .long v3), (0, .ref (xad X 13 0)), (1, .int x1), (2, .int x2), (3, .long x3), (5, .long x5), (8, .int x8)]) C dX8_aheadOf_54 6 rfl (c := 1) (by decide) (by decide) (fun _ => rfl) (fun v6 => ?_)
        refine ms_iinc (L' := fun v7 => [(8, .int v7), (7, .int v6), (9, .long v3), (0, .ref (xad X 13 0)), (1, .int x1), (2, .int x2), (3, .long x3), (5, .long x5)]) C dX8_aheadOf_57 7 rfl (c := 1) (by decide) (by decide) (fun _ => rfl) (fun v7 => ?_)
        refine ms_goto (tgt := 15) C dX8_aheadOf_60 (by decide) ?_
        exact ms_sub [3, 4, 5, 6, 7, 1, 0] rfl (ih v6 v7)
      · refine ms_lload C dX8_aheadOf_40 0 rfl ?_
        refine ms_lload C dX8_aheadOf_42 5 rfl ?_
        refine ms_lcmp C dX8_aheadOf_44 (fun v8 => ?_)
        refine ms_if_ne (tgt := 57) C dX8_aheadOf_45 (by decide) (fun c9 => ?_) (fun c9 => ?_)
        · refine ms_iinc (L' := fun v10 => [(8, .int v10), (9, .long v3), (0, .ref (xad X 13 0)), (1, .int x1), (2, .int x2), (3, .long x3), (5, .long x5), (7, .int x7)]) C dX8_aheadOf_57 7 rfl (c := 1) (by decide) (by decide) (fun _ => rfl) (fun v10 => ?_)
          refine ms_goto (tgt := 15) C dX8_aheadOf_60 (by decide) ?_
          exact ms_sub [2, 3, 4, 5, 6, 7, 0] rfl (ih x7 v10)
        · refine ms_iload C dX8_aheadOf_48 7 rfl ?_
          refine ms_iload_n C dX8_aheadOf_50 2 rfl ?_
          refine ms_icmp_ge (tgt := 57) C dX8_aheadOf_51 (by decide) (fun c11 => ?_) (fun c11 => ?_)
          · refine ms_iinc (L' := fun v12 => [(8, .int v12), (9, .long v3), (0, .ref (xad X 13 0)), (1, .int x1), (2, .int x2), (3, .long x3), (5, .long x5), (7, .int x7)]) C dX8_aheadOf_57 7 rfl (c := 1) (by decide) (by decide) (fun _ => rfl) (fun v12 => ?_)
            refine ms_goto (tgt := 15) C dX8_aheadOf_60 (by decide) ?_
            exact ms_sub [2, 3, 4, 5, 6, 7, 0] rfl (ih x7 v12)
          · refine ms_iinc (L' := fun v13 => [(7, .int v13), (9, .long v3), (0, .ref (xad X 13 0)), (1, .int x1), (2, .int x2), (3, .long x3), (5, .long x5), (8, .int x8)]) C dX8_aheadOf_54 6 rfl (c := 1) (by decide) (by decide) (fun _ => rfl) (fun v13 => ?_)
            refine ms_iinc (L' := fun v14 => [(8, .int v14), (7, .int v13), (9, .long v3), (0, .ref (xad X 13 0)), (1, .int x1), (2, .int x2), (3, .long x3), (5, .long x5)]) C dX8_aheadOf_57 7 rfl (c := 1) (by decide) (by decide) (fun _ => rfl) (fun v14 => ?_)
            refine ms_goto (tgt := 15) C dX8_aheadOf_60 (by decide) ?_
            exact ms_sub [3, 4, 5, 6, 7, 1, 0] rfl (ih v13 v14)
set_option maxRecDepth 100000 in
set_option maxHeartbeats 4000000 in
theorem mtX8_aheadOf (l : Launch) (G : mh_G) (n : Nat) (M : mh_M) (a0 : Int32) (a1 : Int32) (a2 : Int64) {z : Int32} (ho : fX8_aheadOf n M a0 a1 a2 = some z) : Met l yX8_aheadOf wsX8_aheadOf rmX8_aheadOf (mh_Pc G M [.ref (G.2.2 13 0), .int a0, .int a1, .long a2]) (mh_Q G M (some (.int z))) 0 0 (mh_dom G) := by
  refine mh_met (cc := cX8_aheadOf) (maxL := 11) (ret := (some .int)) (by decide) rfl (Nat.le_of_ble_eq_true rfl) ho ?_
  rintro X rfl rfl C hR
  show mh_W X rmX8_aheadOf 11 _ z M 0 [(0, .ref (xad X 13 0)), (1, .int a0), (2, .int a1), (3, .long a2)] []
  replace C : mh_C X rmX8_aheadOf cX8_aheadOf wsX8_aheadOf RX8 11 := C
  unfold fX8_aheadOf
  refine ms_aload_n C dX8_aheadOf_0 0 rfl ?_
  refine ms_iload_n C dX8_aheadOf_1 1 rfl ?_
  refine ms_iload_n C dX8_aheadOf_2 2 rfl ?_
  refine ms_lload_n C dX8_aheadOf_3 3 rfl ?_
  refine ms_callVl (As := [.int a0, .int a1, .long a2]) C dX8_aheadOf_4 (fun _ h => mtX8_rest (xl X) (xg X) n M a0 a1 a2 h) (cwV 3 C.2.2.1 gX8_aheadOf_X8_rest rfl rfl rfl (by decide +kernel) ⟨Nat.le_of_ble_eq_true rfl, Nat.le_of_ble_eq_true rfl⟩) (zz13 (G := xg X) Nat.one_pos) (T := TX8) rfl rfl rfl (Nat.le_of_ble_eq_true rfl) (fun v1 => ?_)
  refine ms_lstore (L' := [(5, .long v1), (0, .ref (xad X 13 0)), (1, .int a0), (2, .int a1), (3, .long a2)]) C dX8_aheadOf_7 (by decide) rfl ?_
  refine ms_iconst C (0 : Int32) dX8_aheadOf_9 (by decide) ?_
  refine ms_istore (L' := [(7, .int (0 : Int32)), (5, .long v1), (0, .ref (xad X 13 0)), (1, .int a0), (2, .int a1), (3, .long a2)]) C dX8_aheadOf_10 (by decide) rfl ?_
  refine ms_iconst C (0 : Int32) dX8_aheadOf_12 (by decide) ?_
  refine ms_istore (L' := [(8, .int (0 : Int32)), (7, .int (0 : Int32)), (5, .long v1), (0, .ref (xad X 13 0)), (1, .int a0), (2, .int a1), (3, .long a2)]) C dX8_aheadOf_13 (by decide) rfl ?_
  exact ms_sub [3, 4, 5, 6, 2, 1, 0] rfl (mtX8_aheadOf_L15 (n := n) M a0 a1 a2 v1 C hR n (0 : Int32) (0 : Int32))
def rmX8_shareOf : Room := { frames := 2, cells := 0, slots := 0, locals := 54 }
theorem inX8_X8_shareOf : ∀ w ∈ wsX80, w ∈ wsX8_shareOf := by decide +kernel
set_option maxRecDepth 100000 in
set_option maxHeartbeats 4000000 in
theorem mtX8_shareOf_L45 {X : mh_X} {n : Nat} {z : Int32} (M : mh_M) (x1 : Int32) (x2 : Int32) (x3 : Int64) (C : mh_C X rmX8_shareOf cX8_shareOf wsX8_shareOf RX8 8) (hR : mh_R X (some .int) M (some (.int z))) : ∀ (k : Nat) (x5 : Int64) (x7 : Int32), mh_W X rmX8_shareOf 8 (itr2 (fX8_shareOf_L45 n M x1 x2 x3) k x5 x7) z M 45 [(0, .ref (xad X 13 0)), (1, .int x1), (2, .int x2), (3, .long x3), (5, .long x5), (7, .int x7)] [] := by
  intro k
  induction k with
  | zero =>
    intro x5 x7
    exact ms_none
  | succ k ih =>
    intro x5 x7
    show mh_W X rmX8_shareOf 8 (fX8_shareOf_L45 n M x1 x2 x3 (itr2 (fX8_shareOf_L45 n M x1 x2 x3) k) x5 x7) z M 45 [(0, .ref (xad X 13 0)), (1, .int x1), (2, .int x2), (3, .long x3), (5, .long x5), (7, .int x7)] []
    generalize itr2 (fX8_shareOf_L45 n M x1 x2 x3) k = rec at ih ⊢
    unfold fX8_shareOf_L45
    refine ms_iload C dX8_shareOf_45 5 rfl ?_
    refine ms_bipush C (6 : Int32) dX8_shareOf_47 (by decide) ?_
    refine ms_icmp_ge (tgt := 71) C dX8_shareOf_49 (by decide) (fun c5 => ?_) (fun c5 => ?_)
    · refine ms_aload_n C dX8_shareOf_71 0 rfl ?_
      refine ms_iload_n C dX8_shareOf_72 1 rfl ?_
      refine ms_iload_n C dX8_shareOf_73 2 rfl ?_
      refine ms_lload_n C dX8_shareOf_74 3 rfl ?_
      refine ms_callVi (As := [.int x1, .int x2, .long x3]) C dX8_shareOf_75 (fun _ h => mtX8_aheadOf (xl X) (xg X) n M x1 x2 x3 h) (cwV 3 C.2.2.1 gX8_shareOf_X8_aheadOf rfl rfl rfl (by decide +kernel) ⟨Nat.le_of_ble_eq_true rfl, Nat.le_of_ble_eq_true rfl⟩) (zz13 (G := xg X) Nat.one_pos) (T := TX8) rfl rfl rfl (Nat.le_of_ble_eq_true rfl) (fun v6 => ?_)
      refine ms_i2l C dX8_shareOf_78 (fun v7 => ?_)
      refine ms_lload C dX8_shareOf_79 4 rfl ?_
      refine ms_lcmp C dX8_shareOf_81 (fun v8 => ?_)
      refine ms_if_ge (tgt := 89) C dX8_shareOf_82 (by decide) (fun c9 => ?_) (fun c9 => ?_)
      · refine ms_iconst C (0 : Int32) dX8_shareOf_89 (by decide) ?_
        refine ms_istore (L' := [(7, .int (0 : Int32)), (0, .ref (xad X 13 0)), (1, .int x1), (2, .int x2), (3, .long x3), (5, .long x5)]) C dX8_shareOf_90 (by decide) rfl ?_
        refine ms_aload_n C dX8_shareOf_92 1 rfl ?_
        refine ms_iload_n C dX8_shareOf_93 2 rfl ?_
        refine ms_iload_n C dX8_shareOf_94 3 rfl ?_
        refine ms_lload_n C dX8_shareOf_95 4 rfl ?_
        refine ms_callVl (As := [.int x1, .int x2, .long x3]) C dX8_shareOf_96 (fun _ h => mtX8_cutShare (xl X) (xg X) n M x1 x2 x3 h) (cwV 3 C.2.2.1 gX8_shareOf_X8_cutShare rfl rfl rfl (by decide +kernel) ⟨Nat.le_of_ble_eq_true rfl, Nat.le_of_ble_eq_true rfl⟩) (zz13 (G := xg X) Nat.one_pos) (T := TX8) rfl rfl rfl (Nat.le_of_ble_eq_true rfl) (fun v10 => ?_)
        refine ms_l2i C dX8_shareOf_99 (fun v11 => ?_)
        refine ms_iload C dX8_shareOf_100 0 rfl ?_
        refine ms_if_eq (tgt := 109) C dX8_shareOf_102 (by decide) (fun c12 => ?_) (fun c12 => ?_)
        · refine ms_iconst C (0 : Int32) dX8_shareOf_109 (by decide) ?_
          refine ms_iadd C dX8_shareOf_110 (fun v13 => ?_)
          exact ms_ireti C hR rfl rfl dX8_shareOf_111
        · refine ms_iconst C (1 : Int32) dX8_shareOf_105 (by decide) ?_
          refine ms_goto (tgt := 110) C dX8_shareOf_106 (by decide) ?_
          refine ms_iadd C dX8_shareOf_110 (fun v14 => ?_)
          exact ms_ireti C hR rfl rfl dX8_shareOf_111
      · refine ms_iconst C (1 : Int32) dX8_shareOf_85 (by decide) ?_
        refine ms_goto (tgt := 90) C dX8_shareOf_86 (by decide) ?_
        refine ms_istore (L' := [(7, .int (1 : Int32)), (0, .ref (xad X 13 0)), (1, .int x1), (2, .int x2), (3, .long x3), (5, .long x5)]) C dX8_shareOf_90 (by decide) rfl ?_
        refine ms_aload_n C dX8_shareOf_92 1 rfl ?_
        refine ms_iload_n C dX8_shareOf_93 2 rfl ?_
        refine ms_iload_n C dX8_shareOf_94 3 rfl ?_
        refine ms_lload_n C dX8_shareOf_95 4 rfl ?_
        refine ms_callVl (As := [.int x1, .int x2, .long x3]) C dX8_shareOf_96 (fun _ h => mtX8_cutShare (xl X) (xg X) n M x1 x2 x3 h) (cwV 3 C.2.2.1 gX8_shareOf_X8_cutShare rfl rfl rfl (by decide +kernel) ⟨Nat.le_of_ble_eq_true rfl, Nat.le_of_ble_eq_true rfl⟩) (zz13 (G := xg X) Nat.one_pos) (T := TX8) rfl rfl rfl (Nat.le_of_ble_eq_true rfl) (fun v15 => ?_)
        refine ms_l2i C dX8_shareOf_99 (fun v16 => ?_)
        refine ms_iload C dX8_shareOf_100 0 rfl ?_
        refine ms_if_eq (tgt := 109) C dX8_shareOf_102 (by decide) (fun c17 => ?_) (fun c17 => ?_)
        · refine ms_iconst C (0 : Int32) dX8_shareOf_109 (by decide) ?_
          refine ms_iadd C dX8_shareOf_110 (fun v18 => ?_)
          exact ms_ireti C hR rfl rfl dX8_shareOf_111
        · refine ms_iconst C (1 : Int32) dX8_shareOf_105 (by decide) ?_
          refine ms_goto (tgt := 110) C dX8_shareOf_106 (by decide) ?_
          refine ms_iadd C dX8_shareOf_110 (fun v19 => ?_)
          exact ms_ireti C hR rfl rfl dX8_shareOf_111
    · refine ms_lload C dX8_shareOf_52 4 rfl ?_
      refine ms_aload_n C dX8_shareOf_54 0 rfl ?_
      refine ms_iload C dX8_shareOf_55 5 rfl ?_
      refine ms_iload_n C dX8_shareOf_57 2 rfl ?_
      refine ms_lload_n C dX8_shareOf_58 3 rfl ?_
      refine ms_callVl (As := [.int x7, .int x2, .long x3]) C dX8_shareOf_59 (fun _ h => mtX8_cutShare (xl X) (xg X) n M x7 x2 x3 h) (cwV 3 C.2.2.1 gX8_shareOf_X8_cutShare rfl rfl rfl (by decide +kernel) ⟨Nat.le_of_ble_eq_true rfl, Nat.le_of_ble_eq_true rfl⟩) (zz13 (G := xg X) Nat.one_pos) (T := TX8) rfl rfl rfl (Nat.le_of_ble_eq_true rfl) (fun v20 => ?_)
      refine ms_lsub C dX8_shareOf_62 (fun v21 => ?_)
      refine ms_lstore (L' := [(5, .long v21), (0, .ref (xad X 13 0)), (1, .int x1), (2, .int x2), (3, .long x3), (7, .int x7)]) C dX8_shareOf_63 (by decide) rfl ?_
      refine ms_iinc (L' := fun v22 => [(7, .int v22), (5, .long v21), (0, .ref (xad X 13 0)), (1, .int x1), (2, .int x2), (3, .long x3)]) C dX8_shareOf_65 5 rfl (c := 1) (by decide) (by decide) (fun _ => rfl) (fun v22 => ?_)
      refine ms_goto (tgt := 45) C dX8_shareOf_68 (by decide) ?_
      exact ms_sub [2, 3, 4, 5, 1, 0] rfl (ih v21 v22)
set_option maxRecDepth 100000 in
set_option maxHeartbeats 4000000 in
theorem mtX8_shareOf_L5 {X : mh_X} {n : Nat} {z : Int32} (M : mh_M) (x1 : Int32) (x2 : Int32) (C : mh_C X rmX8_shareOf cX8_shareOf wsX8_shareOf RX8 8) (hR : mh_R X (some .int) M (some (.int z))) : ∀ (k : Nat) (x3 : Int64) (x5 : Int32), mh_W X rmX8_shareOf 8 (itr2 (fX8_shareOf_L5 n M x1 x2) k x3 x5) z M 5 [(0, .ref (xad X 13 0)), (1, .int x1), (2, .int x2), (3, .long x3), (5, .int x5)] [] := by
  intro k
  induction k with
  | zero =>
    intro x3 x5
    exact ms_none
  | succ k ih =>
    intro x3 x5
    show mh_W X rmX8_shareOf 8 (fX8_shareOf_L5 n M x1 x2 (itr2 (fX8_shareOf_L5 n M x1 x2) k) x3 x5) z M 5 [(0, .ref (xad X 13 0)), (1, .int x1), (2, .int x2), (3, .long x3), (5, .int x5)] []
    generalize itr2 (fX8_shareOf_L5 n M x1 x2) k = rec at ih ⊢
    unfold fX8_shareOf_L5
    refine ms_iload C dX8_shareOf_5 4 rfl ?_
    refine ms_bipush C (6 : Int32) dX8_shareOf_7 (by decide) ?_
    refine ms_icmp_ge (tgt := 29) C dX8_shareOf_9 (by decide) (fun c1 => ?_) (fun c1 => ?_)
    · refine ms_lload_n C dX8_shareOf_29 3 rfl ?_
      refine ms_lconst C (0 : Int64) dX8_shareOf_30 (by decide) ?_
      refine ms_lcmp C dX8_shareOf_31 (fun v2 => ?_)
      refine ms_if_ne (tgt := 38) C dX8_shareOf_32 (by decide) (fun c3 => ?_) (fun c3 => ?_)
      · refine ms_iload_n C dX8_shareOf_38 2 rfl ?_
        refine ms_i2l C dX8_shareOf_39 (fun v4 => ?_)
        refine ms_lstore (L' := [(5, .long v4), (0, .ref (xad X 13 0)), (1, .int x1), (2, .int x2), (3, .long x3)]) C dX8_shareOf_40 (by decide) rfl ?_
        refine ms_iconst C (0 : Int32) dX8_shareOf_42 (by decide) ?_
        refine ms_istore (L' := [(7, .int (0 : Int32)), (5, .long v4), (0, .ref (xad X 13 0)), (1, .int x1), (2, .int x2), (3, .long x3)]) C dX8_shareOf_43 (by decide) rfl ?_
        exact ms_sub [2, 3, 4, 5, 1, 0] rfl (mtX8_shareOf_L45 (n := n) M x1 x2 x3 C hR n v4 (0 : Int32))
      · refine ms_bipush C (-2 : Int32) dX8_shareOf_35 (by decide) ?_
        exact ms_ireti C hR rfl rfl dX8_shareOf_37
    · refine ms_lload_n C dX8_shareOf_12 3 rfl ?_
      refine ms_aload_n C dX8_shareOf_13 0 rfl ?_
      refine ms_getr C dX8_shareOf_14 (zz13 (G := xg X) Nat.one_pos) (k := 0) (Nat.le_of_ble_eq_true rfl) (b := xad X 14 0) rfl (Cn := RX8) (T := TX8) rfl inX8_X8_shareOf rfl (by decide +kernel) ?_
      refine ms_iload C dX8_shareOf_17 4 rfl ?_
      refine ms_ld C dX8_shareOf_19 (zz14 (G := xg X) Nat.one_pos) rfl (fun _ v23 => ?_)
      refine ms_i2l C dX8_shareOf_20 (fun v24 => ?_)
      refine ms_ladd C dX8_shareOf_21 (fun v25 => ?_)
      refine ms_lstore_n (L' := [(3, .long v25), (0, .ref (xad X 13 0)), (1, .int x1), (2, .int x2), (5, .int x5)]) C dX8_shareOf_22 rfl (by decide) rfl ?_
      refine ms_iinc (L' := fun v26 => [(5, .int v26), (3, .long v25), (0, .ref (xad X 13 0)), (1, .int x1), (2, .int x2)]) C dX8_shareOf_23 4 rfl (c := 1) (by decide) (by decide) (fun _ => rfl) (fun v26 => ?_)
      refine ms_goto (tgt := 5) C dX8_shareOf_26 (by decide) ?_
      exact ms_sub [2, 3, 4, 1, 0] rfl (ih v25 v26)
set_option maxRecDepth 100000 in
set_option maxHeartbeats 4000000 in
theorem mtX8_shareOf (l : Launch) (G : mh_G) (n : Nat) (M : mh_M) (a0 : Int32) (a1 : Int32) {z : Int32} (ho : fX8_shareOf n M a0 a1 = some z) : Met l yX8_shareOf wsX8_shareOf rmX8_shareOf (mh_Pc G M [.ref (G.2.2 13 0), .int a0, .int a1]) (mh_Q G M (some (.int z))) 0 0 (mh_dom G) := by
  refine mh_met (cc := cX8_shareOf) (maxL := 8) (ret := (some .int)) (by decide) rfl (Nat.le_of_ble_eq_true rfl) ho ?_
  rintro X rfl rfl C hR
  show mh_W X rmX8_shareOf 8 _ z M 0 [(0, .ref (xad X 13 0)), (1, .int a0), (2, .int a1)] []
  replace C : mh_C X rmX8_shareOf cX8_shareOf wsX8_shareOf RX8 8 := C
  unfold fX8_shareOf
  refine ms_lconst C (0 : Int64) dX8_shareOf_0 (by decide) ?_
  refine ms_lstore_n (L' := [(3, .long (0 : Int64)), (0, .ref (xad X 13 0)), (1, .int a0), (2, .int a1)]) C dX8_shareOf_1 rfl (by decide) rfl ?_
  refine ms_iconst C (0 : Int32) dX8_shareOf_2 (by decide) ?_
  refine ms_istore (L' := [(5, .int (0 : Int32)), (3, .long (0 : Int64)), (0, .ref (xad X 13 0)), (1, .int a0), (2, .int a1)]) C dX8_shareOf_3 (by decide) rfl ?_
  exact ms_sub [2, 3, 4, 1, 0] rfl (mtX8_shareOf_L5 (n := n) M a0 a1 C hR n (0 : Int64) (0 : Int32))
def rmJ6_bitCount_0f7a4 : Room := { frames := 0, cells := 0, slots := 0, locals := 0 }
set_option maxRecDepth 100000 in
set_option maxHeartbeats 4000000 in
theorem mtJ6_bitCount_0f7a4 (l : Launch) (G : mh_G) (n : Nat) (M : mh_M) (a0 : Int32) {z : Int32} (ho : fJ6_bitCount_0f7a4 n M a0 = some z) : Met l yJ6_bitCount_0f7a4 wsJ6_bitCount_0f7a4 rmJ6_bitCount_0f7a4 (mh_Pc G M [.int a0]) (mh_Q G M (some (.int z))) 0 0 (mh_dom G) := by
  refine mh_met (cc := cJ6_bitCount_0f7a4) (maxL := 1) (ret := (some .int)) (by decide) rfl (Nat.le_of_ble_eq_true rfl) ho ?_
  rintro X rfl rfl C hR
  show mh_W X rmJ6_bitCount_0f7a4 1 _ z M 0 [(0, .int a0)] []
  replace C : mh_C X rmJ6_bitCount_0f7a4 cJ6_bitCount_0f7a4 wsJ6_bitCount_0f7a4 RJ6 1 := C
  unfold fJ6_bitCount_0f7a4
  refine ms_iload_n C dJ6_bitCount_0f7a4_0 0 rfl ?_
  refine ms_iload_n C dJ6_bitCount_0f7a4_1 0 rfl ?_
  refine ms_iconst C (1 : Int32) dJ6_bitCount_0f7a4_2 (by decide) ?_
  refine ms_iushr C dJ6_bitCount_0f7a4_3 (fun v1 => ?_)
  refine ms_ldcw C (1431655765 : Int32) dJ6_bitCount_0f7a4_4 (by decide +kernel) ?_
  refine ms_iand C dJ6_bitCount_0f7a4_7 (fun v2 => ?_)
  refine ms_isub C dJ6_bitCount_0f7a4_8 (fun v3 => ?_)
  refine ms_istore_n (L' := [(0, .int v3)]) C dJ6_bitCount_0f7a4_9 rfl (by decide) rfl ?_
  refine ms_iload_n C dJ6_bitCount_0f7a4_10 0 rfl ?_
  refine ms_ldcw C (858993459 : Int32) dJ6_bitCount_0f7a4_11 (by decide +kernel) ?_
  refine ms_iand C dJ6_bitCount_0f7a4_14 (fun v4 => ?_)
  refine ms_iload_n C dJ6_bitCount_0f7a4_15 0 rfl ?_
  refine ms_iconst C (2 : Int32) dJ6_bitCount_0f7a4_16 (by decide) ?_
  refine ms_iushr C dJ6_bitCount_0f7a4_17 (fun v5 => ?_)
  refine ms_ldcw C (858993459 : Int32) dJ6_bitCount_0f7a4_18 (by decide +kernel) ?_
  refine ms_iand C dJ6_bitCount_0f7a4_21 (fun v6 => ?_)
  refine ms_iadd C dJ6_bitCount_0f7a4_22 (fun v7 => ?_)
  refine ms_istore_n (L' := [(0, .int v7)]) C dJ6_bitCount_0f7a4_23 rfl (by decide) rfl ?_
  refine ms_iload_n C dJ6_bitCount_0f7a4_24 0 rfl ?_
  refine ms_iload_n C dJ6_bitCount_0f7a4_25 0 rfl ?_
  refine ms_iconst C (4 : Int32) dJ6_bitCount_0f7a4_26 (by decide) ?_
  refine ms_iushr C dJ6_bitCount_0f7a4_27 (fun v8 => ?_)
  refine ms_iadd C dJ6_bitCount_0f7a4_28 (fun v9 => ?_)
  refine ms_ldcw C (252645135 : Int32) dJ6_bitCount_0f7a4_29 (by decide +kernel) ?_
  refine ms_iand C dJ6_bitCount_0f7a4_32 (fun v10 => ?_)
  refine ms_istore_n (L' := [(0, .int v10)]) C dJ6_bitCount_0f7a4_33 rfl (by decide) rfl ?_
  refine ms_iload_n C dJ6_bitCount_0f7a4_34 0 rfl ?_
  refine ms_iload_n C dJ6_bitCount_0f7a4_35 0 rfl ?_
  refine ms_bipush C (8 : Int32) dJ6_bitCount_0f7a4_36 (by decide) ?_
  refine ms_iushr C dJ6_bitCount_0f7a4_38 (fun v11 => ?_)
  refine ms_iadd C dJ6_bitCount_0f7a4_39 (fun v12 => ?_)
  refine ms_istore_n (L' := [(0, .int v12)]) C dJ6_bitCount_0f7a4_40 rfl (by decide) rfl ?_
  refine ms_iload_n C dJ6_bitCount_0f7a4_41 0 rfl ?_
  refine ms_iload_n C dJ6_bitCount_0f7a4_42 0 rfl ?_
  refine ms_bipush C (16 : Int32) dJ6_bitCount_0f7a4_43 (by decide) ?_
  refine ms_iushr C dJ6_bitCount_0f7a4_45 (fun v13 => ?_)
  refine ms_iadd C dJ6_bitCount_0f7a4_46 (fun v14 => ?_)
  refine ms_istore_n (L' := [(0, .int v14)]) C dJ6_bitCount_0f7a4_47 rfl (by decide) rfl ?_
  refine ms_iload_n C dJ6_bitCount_0f7a4_48 0 rfl ?_
  refine ms_bipush C (63 : Int32) dJ6_bitCount_0f7a4_49 (by decide) ?_
  refine ms_iand C dJ6_bitCount_0f7a4_51 (fun v15 => ?_)
  exact ms_ireti C hR rfl rfl dJ6_bitCount_0f7a4_52
