def rmX10_priceOf : Room := { frames := 2, cells := 0, slots := 0, locals := 47 }
theorem inX10_X10_priceOf : ∀ w ∈ wsX100, w ∈ wsX10_priceOf := by decide +kernel
set_option maxRecDepth 100000 in
set_option maxHeartbeats 4000000 in
theorem mtX10_priceOf_L11 {X : mh_X} {n : Nat} {z : Int32} (M : mh_M) (x1 : Int32) (x2 : Int32) (x3 : Int32) (C : mh_C X rmX10_priceOf cX10_priceOf wsX10_priceOf RX10 6) (hR : mh_R X (some .int) M (some (.int z))) : ∀ (k : Nat) (x4 : Int32) (x5 : Int32), mh_W X rmX10_priceOf 6 (itr2 (fX10_priceOf_L11 n M x1 x2 x3) k x4 x5) z M 11 [(0, .ref (xad X 40 0)), (1, .int x1), (2, .int x2), (3, .int x3), (4, .int x4), (5, .int x5)] [] := by
  intro k
  induction k with
  | zero =>
    intro x4 x5
    exact ms_none
  | succ k ih =>
    intro x4 x5
    show mh_W X rmX10_priceOf 6 (fX10_priceOf_L11 n M x1 x2 x3 (itr2 (fX10_priceOf_L11 n M x1 x2 x3) k) x4 x5) z M 11 [(0, .ref (xad X 40 0)), (1, .int x1), (2, .int x2), (3, .int x3), (4, .int x4), (5, .int x5)] []
    generalize itr2 (fX10_priceOf_L11 n M x1 x2 x3) k = rec at ih ⊢
    unfold fX10_priceOf_L11
    refine ms_iload C dX10_priceOf_11 5 rfl ?_
    refine ms_aload_n C dX10_priceOf_13 0 rfl ?_
    refine ms_geti C dX10_priceOf_14 (zz40 (G := xg X) Nat.one_pos) (k := 24) (Nat.le_of_ble_eq_true rfl) rfl (Cn := RX10) (T := TX10) rfl inX10_X10_priceOf rfl (by decide +kernel) (fun v2 => ?_)
    refine ms_icmp_ge (tgt := 61) C dX10_priceOf_17 (by decide) (fun c3 => ?_) (fun c3 => ?_)
    · refine ms_iload C dX10_priceOf_61 4 rfl ?_
      refine ms_aload_n C dX10_priceOf_63 0 rfl ?_
      refine ms_getr C dX10_priceOf_64 (zz40 (G := xg X) Nat.one_pos) (k := 8) (Nat.le_of_ble_eq_true rfl) (b := xad X 49 0) rfl (Cn := RX10) (T := TX10) rfl inX10_X10_priceOf rfl (by decide +kernel) ?_
      refine ms_iconst C (4 : Int32) dX10_priceOf_67 (by decide) ?_
      refine ms_ld C dX10_priceOf_68 (zz49 (G := xg X) Nat.one_pos) rfl (fun _ v4 => ?_)
      refine ms_icmp_ge (tgt := 81) C dX10_priceOf_69 (by decide) (fun c5 => ?_) (fun c5 => ?_)
      · refine ms_iload C dX10_priceOf_81 4 rfl ?_
        exact ms_ireti C hR rfl rfl dX10_priceOf_83
      · refine ms_aload_n C dX10_priceOf_72 0 rfl ?_
        refine ms_getr C dX10_priceOf_73 (zz40 (G := xg X) Nat.one_pos) (k := 8) (Nat.le_of_ble_eq_true rfl) (b := xad X 49 0) rfl (Cn := RX10) (T := TX10) rfl inX10_X10_priceOf rfl (by decide +kernel) ?_
        refine ms_iconst C (4 : Int32) dX10_priceOf_76 (by decide) ?_
        refine ms_ld C dX10_priceOf_77 (zz49 (G := xg X) Nat.one_pos) rfl (fun _ v6 => ?_)
        refine ms_goto (tgt := 83) C dX10_priceOf_78 (by decide) ?_
        exact ms_ireti C hR rfl rfl dX10_priceOf_83
    · refine ms_aload_n C dX10_priceOf_20 0 rfl ?_
      refine ms_iload C dX10_priceOf_21 5 rfl ?_
      refine ms_iload_n C dX10_priceOf_23 2 rfl ?_
      refine ms_iload_n C dX10_priceOf_24 3 rfl ?_
      refine ms_callVi (As := [.int x5, .int x2, .int x3]) C dX10_priceOf_25 (fun _ h => mtX10_holds (xl X) (xg X) n M x5 x2 x3 h) (cwV 3 C.2.2.1 gX10_priceOf_X10_holds rfl rfl rfl (by decide +kernel) ⟨Nat.le_of_ble_eq_true rfl, Nat.le_of_ble_eq_true rfl⟩) (zz40 (G := xg X) Nat.one_pos) (T := TX10) rfl rfl rfl (Nat.le_of_ble_eq_true rfl) (fun v7 => ?_)
      refine ms_if_eq (tgt := 51) C dX10_priceOf_28 (by decide) (fun c8 => ?_) (fun c8 => ?_)
      · refine ms_iload C dX10_priceOf_51 4 rfl ?_
        refine ms_istore (L' := [(4, .int x4), (0, .ref (xad X 40 0)), (1, .int x1), (2, .int x2), (3, .int x3), (5, .int x5)]) C dX10_priceOf_53 (by decide) rfl ?_
        refine ms_iinc (L' := fun v9 => [(5, .int v9), (4, .int x4), (0, .ref (xad X 40 0)), (1, .int x1), (2, .int x2), (3, .int x3)]) C dX10_priceOf_55 5 rfl (c := 1) (by decide) (by decide) (fun _ => rfl) (fun v9 => ?_)
        refine ms_goto (tgt := 11) C dX10_priceOf_58 (by decide) ?_
        exact ms_sub [2, 3, 4, 5, 1, 0] rfl (ih x4 v9)
      · refine ms_aload_n C dX10_priceOf_31 0 rfl ?_
        refine ms_getr C dX10_priceOf_32 (zz40 (G := xg X) Nat.one_pos) (k := 5) (Nat.le_of_ble_eq_true rfl) (b := xad X 46 0) rfl (Cn := RX10) (T := TX10) rfl inX10_X10_priceOf rfl (by decide +kernel) ?_
        refine ms_iload_n C dX10_priceOf_35 1 rfl ?_
        refine ms_ld C dX10_priceOf_36 (zz46 (G := xg X) Nat.one_pos) rfl (fun _ v10 => ?_)
        refine ms_aload_n C dX10_priceOf_37 0 rfl ?_
        refine ms_getr C dX10_priceOf_38 (zz40 (G := xg X) Nat.one_pos) (k := 28) (Nat.le_of_ble_eq_true rfl) (b := xad X 69 0) rfl (Cn := RX10) (T := TX10) rfl inX10_X10_priceOf rfl (by decide +kernel) ?_
        refine ms_iload C dX10_priceOf_41 5 rfl ?_
        refine ms_ld C dX10_priceOf_43 (zz69 (G := xg X) Nat.one_pos) rfl (fun _ v11 => ?_)
        refine ms_imul C dX10_priceOf_44 (fun v12 => ?_)
        refine ms_bipush C (100 : Int32) dX10_priceOf_45 (by decide) ?_
        refine ms_idiv C dX10_priceOf_47 (fun v13 => ?_)
        refine ms_goto (tgt := 53) C dX10_priceOf_48 (by decide) ?_
        refine ms_istore (L' := [(4, .int v13), (0, .ref (xad X 40 0)), (1, .int x1), (2, .int x2), (3, .int x3), (5, .int x5)]) C dX10_priceOf_53 (by decide) rfl ?_
        refine ms_iinc (L' := fun v14 => [(5, .int v14), (4, .int v13), (0, .ref (xad X 40 0)), (1, .int x1), (2, .int x2), (3, .int x3)]) C dX10_priceOf_55 5 rfl (c := 1) (by decide) (by decide) (fun _ => rfl) (fun v14 => ?_)
        refine ms_goto (tgt := 11) C dX10_priceOf_58 (by decide) ?_
        exact ms_sub [2, 3, 4, 5, 1, 0] rfl (ih v13 v14)
set_option maxRecDepth 100000 in
set_option maxHeartbeats 4000000 in
theorem mtX10_priceOf (l : Launch) (G : mh_G) (n : Nat) (M : mh_M) (a0 : Int32) (a1 : Int32) (a2 : Int32) {z : Int32} (ho : fX10_priceOf n M a0 a1 a2 = some z) : Met l yX10_priceOf wsX10_priceOf rmX10_priceOf (mh_Pc G M [.ref (G.2.2 40 0), .int a0, .int a1, .int a2]) (mh_Q G M (some (.int z))) 0 0 (mh_dom G) := by
  refine mh_met (cc := cX10_priceOf) (maxL := 6) (ret := (some .int)) (by decide) rfl (Nat.le_of_ble_eq_true rfl) ho ?_
  rintro X rfl rfl C hR
  show mh_W X rmX10_priceOf 6 _ z M 0 [(0, .ref (xad X 40 0)), (1, .int a0), (2, .int a1), (3, .int a2)] []
  replace C : mh_C X rmX10_priceOf cX10_priceOf wsX10_priceOf RX10 6 := C
  unfold fX10_priceOf
  refine ms_aload_n C dX10_priceOf_0 0 rfl ?_
  refine ms_getr C dX10_priceOf_1 (zz40 (G := xg X) Nat.one_pos) (k := 5) (Nat.le_of_ble_eq_true rfl) (b := xad X 46 0) rfl (Cn := RX10) (T := TX10) rfl inX10_X10_priceOf rfl (by decide +kernel) ?_
  refine ms_iload_n C dX10_priceOf_4 1 rfl ?_
  refine ms_ld C dX10_priceOf_5 (zz46 (G := xg X) Nat.one_pos) rfl (fun _ v1 => ?_)
  refine ms_istore (L' := [(4, .int v1), (0, .ref (xad X 40 0)), (1, .int a0), (2, .int a1), (3, .int a2)]) C dX10_priceOf_6 (by decide) rfl ?_
  refine ms_iconst C (0 : Int32) dX10_priceOf_8 (by decide) ?_
  refine ms_istore (L' := [(5, .int (0 : Int32)), (4, .int v1), (0, .ref (xad X 40 0)), (1, .int a0), (2, .int a1), (3, .int a2)]) C dX10_priceOf_9 (by decide) rfl ?_
  exact ms_sub [2, 3, 4, 5, 1, 0] rfl (mtX10_priceOf_L11 (n := n) M a0 a1 a2 C hR n v1 (0 : Int32))
def rmX10_sell : Room := { frames := 3, cells := 0, slots := 0, locals := 72 }
theorem inX10_X10_sell : ∀ w ∈ wsX100, w ∈ wsX10_sell := by decide +kernel
set_option maxRecDepth 100000 in
set_option maxHeartbeats 4000000 in
theorem mtX10_sell (l : Launch) (G : mh_G) (n : Nat) (M : mh_M) (a0 : Int32) (a1 : Int32) (a2 : Int32) (a3 : Int32) (a4 : Int32) {z : mh_M × Int32} (ho : fX10_sell n M a0 a1 a2 a3 a4 = some z) : Met l yX10_sell wsX10_sell rmX10_sell (mh_Pc G M [.ref (G.2.2 40 0), .int a0, .int a1, .int a2, .int a3, .int a4]) (mh_Q G z.1 (some (.int z.2))) 0 0 (mh_dom G) := by
  refine mh_met (cc := cX10_sell) (maxL := 7) (ret := (some .int)) (by decide) rfl (Nat.le_of_ble_eq_true rfl) ho ?_
  rintro X rfl rfl C hR
  show mh_W X rmX10_sell 7 _ z M 0 [(0, .ref (xad X 40 0)), (1, .int a0), (2, .int a1), (3, .int a2), (4, .int a3), (5, .int a4)] []
  replace C : mh_C X rmX10_sell cX10_sell wsX10_sell RX10 7 := C
  unfold fX10_sell
  refine ms_iload_n C dX10_sell_0 1 rfl ?_
  refine ms_callSi (As := [.int a0]) C dX10_sell_1 (fun _ h => mtX10_isBar (xl X) (xg X) n M a0 h) (va_cwS 1 C.2.2.1 gX10_sell_X10_isBar rfl rfl rfl (by decide +kernel) ⟨Nat.le_of_ble_eq_true rfl, Nat.le_of_ble_eq_true rfl⟩) rfl rfl (Nat.le_of_ble_eq_true rfl) (fun v1 => ?_)
  refine ms_if_eq (tgt := 48) C dX10_sell_4 (by decide) (fun c2 => ?_) (fun c2 => ?_)
  · refine ms_iconst C (-1 : Int32) dX10_sell_48 (by decide) ?_
    exact ms_iretm C hR rfl dX10_sell_49
  · refine ms_aload_n C dX10_sell_7 0 rfl ?_
    refine ms_iload_n C dX10_sell_8 2 rfl ?_
    refine ms_callVi (As := [.int a1]) C dX10_sell_9 (fun _ h => mtX10_isRecipe (xl X) (xg X) n M a1 h) (cwV 1 C.2.2.1 gX10_sell_X10_isRecipe rfl rfl rfl (by decide +kernel) ⟨Nat.le_of_ble_eq_true rfl, Nat.le_of_ble_eq_true rfl⟩) (zz40 (G := xg X) Nat.one_pos) (T := TX10) rfl rfl rfl (Nat.le_of_ble_eq_true rfl) (fun v3 => ?_)
    refine ms_if_eq (tgt := 48) C dX10_sell_12 (by decide) (fun c4 => ?_) (fun c4 => ?_)
    · refine ms_iconst C (-1 : Int32) dX10_sell_48 (by decide) ?_
      exact ms_iretm C hR rfl dX10_sell_49
    · refine ms_iload_n C dX10_sell_15 3 rfl ?_
      refine ms_iconst C (1 : Int32) dX10_sell_16 (by decide) ?_
      refine ms_bipush C (100 : Int32) dX10_sell_17 (by decide) ?_
      refine ms_callSi (As := [.int a2, .int (1 : Int32), .int (100 : Int32)]) C dX10_sell_19 (fun _ h => mtX10_in (xl X) (xg X) n M a2 (1 : Int32) (100 : Int32) h) (va_cwS 3 C.2.2.1 gX10_sell_X10_in rfl rfl rfl (by decide +kernel) ⟨Nat.le_of_ble_eq_true rfl, Nat.le_of_ble_eq_true rfl⟩) rfl rfl (Nat.le_of_ble_eq_true rfl) (fun v5 => ?_)
      refine ms_if_eq (tgt := 48) C dX10_sell_22 (by decide) (fun c6 => ?_) (fun c6 => ?_)
      · refine ms_iconst C (-1 : Int32) dX10_sell_48 (by decide) ?_
        exact ms_iretm C hR rfl dX10_sell_49
      · refine ms_iload C dX10_sell_25 4 rfl ?_
        refine ms_iconst C (0 : Int32) dX10_sell_27 (by decide) ?_
        refine ms_bipush C (6 : Int32) dX10_sell_28 (by decide) ?_
        refine ms_callSi (As := [.int a3, .int (0 : Int32), .int (6 : Int32)]) C dX10_sell_30 (fun _ h => mtX10_in (xl X) (xg X) n M a3 (0 : Int32) (6 : Int32) h) (va_cwS 3 C.2.2.1 gX10_sell_X10_in rfl rfl rfl (by decide +kernel) ⟨Nat.le_of_ble_eq_true rfl, Nat.le_of_ble_eq_true rfl⟩) rfl rfl (Nat.le_of_ble_eq_true rfl) (fun v7 => ?_)
        refine ms_if_eq (tgt := 48) C dX10_sell_33 (by decide) (fun c8 => ?_) (fun c8 => ?_)
        · refine ms_iconst C (-1 : Int32) dX10_sell_48 (by decide) ?_
          exact ms_iretm C hR rfl dX10_sell_49
        · refine ms_iload C dX10_sell_36 5 rfl ?_
          refine ms_iconst C (0 : Int32) dX10_sell_38 (by decide) ?_
          refine ms_sipush C (1439 : Int32) dX10_sell_39 (by decide) ?_
          refine ms_callSi (As := [.int a4, .int (0 : Int32), .int (1439 : Int32)]) C dX10_sell_42 (fun _ h => mtX10_in (xl X) (xg X) n M a4 (0 : Int32) (1439 : Int32) h) (va_cwS 3 C.2.2.1 gX10_sell_X10_in rfl rfl rfl (by decide +kernel) ⟨Nat.le_of_ble_eq_true rfl, Nat.le_of_ble_eq_true rfl⟩) rfl rfl (Nat.le_of_ble_eq_true rfl) (fun v9 => ?_)
          refine ms_if_ne (tgt := 50) C dX10_sell_45 (by decide) (fun c10 => ?_) (fun c10 => ?_)
          · refine ms_iload_n C dX10_sell_50 3 rfl ?_
            refine ms_aload_n C dX10_sell_51 0 rfl ?_
            refine ms_iload_n C dX10_sell_52 2 rfl ?_
            refine ms_iload C dX10_sell_53 4 rfl ?_
            refine ms_iload C dX10_sell_55 5 rfl ?_
            refine ms_callVi (As := [.int a1, .int a3, .int a4]) C dX10_sell_57 (fun _ h => mtX10_priceOf (xl X) (xg X) n M a1 a3 a4 h) (cwV 3 C.2.2.1 gX10_sell_X10_priceOf rfl rfl rfl (by decide +kernel) ⟨Nat.le_of_ble_eq_true rfl, Nat.le_of_ble_eq_true rfl⟩) (zz40 (G := xg X) Nat.one_pos) (T := TX10) rfl rfl rfl (Nat.le_of_ble_eq_true rfl) (fun v11 => ?_)
            refine ms_imul C dX10_sell_60 (fun v12 => ?_)
            refine ms_istore (L' := [(6, .int v12), (0, .ref (xad X 40 0)), (1, .int a0), (2, .int a1), (3, .int a2), (4, .int a3), (5, .int a4)]) C dX10_sell_61 (by decide) rfl ?_
            refine ms_aload_n C dX10_sell_63 1 rfl ?_
            refine ms_iload_n C dX10_sell_64 2 rfl ?_
            refine ms_iload_n C dX10_sell_65 3 rfl ?_
            refine ms_iload_n C dX10_sell_66 4 rfl ?_
            refine ms_iload C dX10_sell_67 0 rfl ?_
            refine ms_callVv (As := [.int a0, .int a1, .int a2, .int v12]) C dX10_sell_69 (fun _ h => mtX10_sells (xl X) (xg X) n M a0 a1 a2 v12 h) (cwV 4 C.2.2.1 gX10_sell_X10_sells rfl rfl rfl (by decide +kernel) ⟨Nat.le_of_ble_eq_true rfl, Nat.le_of_ble_eq_true rfl⟩) (zz40 (G := xg X) Nat.one_pos) (T := TX10) rfl rfl rfl (Nat.le_of_ble_eq_true rfl) (fun M13 => ?_)
            refine ms_aload_n C dX10_sell_72 1 rfl ?_
            refine ms_getr C dX10_sell_73 (zz40 (G := xg X) Nat.one_pos) (k := 7) (Nat.le_of_ble_eq_true rfl) (b := xad X 48 0) rfl (Cn := RX10) (T := TX10) rfl inX10_X10_sell rfl (by decide +kernel) ?_
            refine ms_iload_n C dX10_sell_76 3 rfl ?_
            refine ms_iconst C (1 : Int32) dX10_sell_77 (by decide) ?_
            refine ms_zst C dX10_sell_78 (zz48 (G := xg X) Nat.one_pos) rfl (fun _ M14 => ?_)
            refine ms_aload_n C dX10_sell_79 1 rfl ?_
            refine ms_iconst C (3 : Int32) dX10_sell_80 (by decide) ?_
            refine ms_iload_n C dX10_sell_81 2 rfl ?_
            refine ms_iload_n C dX10_sell_82 3 rfl ?_
            refine ms_iload_n C dX10_sell_83 4 rfl ?_
            refine ms_iload C dX10_sell_84 0 rfl ?_
            refine ms_iconst C (0 : Int32) dX10_sell_86 (by decide) ?_
            refine ms_callVv (As := [.int (3 : Int32), .int a0, .int a1, .int a2, .int v12, .int (0 : Int32)]) C dX10_sell_87 (fun _ h => mtX10_keeps (xl X) (xg X) n M14 (3 : Int32) a0 a1 a2 v12 (0 : Int32) h) (cwV 6 C.2.2.1 gX10_sell_X10_keeps rfl rfl rfl (by decide +kernel) ⟨Nat.le_of_ble_eq_true rfl, Nat.le_of_ble_eq_true rfl⟩) (zz40 (G := xg X) Nat.one_pos) (T := TX10) rfl rfl rfl (Nat.le_of_ble_eq_true rfl) (fun M15 => ?_)
            refine ms_iload C dX10_sell_90 0 rfl ?_
            exact ms_iretm C hR rfl dX10_sell_92
          · refine ms_iconst C (-1 : Int32) dX10_sell_48 (by decide) ?_
            exact ms_iretm C hR rfl dX10_sell_49
def rmX10_lose : Room := { frames := 2, cells := 0, slots := 0, locals := 43 }
theorem inX10_X10_lose : ∀ w ∈ wsX100, w ∈ wsX10_lose := by decide +kernel
set_option maxRecDepth 100000 in
set_option maxHeartbeats 4000000 in
theorem mtX10_lose (l : Launch) (G : mh_G) (n : Nat) (M : mh_M) (a0 : Int32) (a1 : Int32) (a2 : Int32) (a3 : Int32) {z : mh_M × Int32} (ho : fX10_lose n M a0 a1 a2 a3 = some z) : Met l yX10_lose wsX10_lose rmX10_lose (mh_Pc G M [.ref (G.2.2 40 0), .int a0, .int a1, .int a2, .int a3]) (mh_Q G z.1 (some (.int z.2))) 0 0 (mh_dom G) := by
  refine mh_met (cc := cX10_lose) (maxL := 5) (ret := (some .int)) (by decide) rfl (Nat.le_of_ble_eq_true rfl) ho ?_
  rintro X rfl rfl C hR
  show mh_W X rmX10_lose 5 _ z M 0 [(0, .ref (xad X 40 0)), (1, .int a0), (2, .int a1), (3, .int a2), (4, .int a3)] []
  replace C : mh_C X rmX10_lose cX10_lose wsX10_lose RX10 5 := C
  unfold fX10_lose
  refine ms_iload_n C dX10_lose_0 1 rfl ?_
  refine ms_callSi (As := [.int a0]) C dX10_lose_1 (fun _ h => mtX10_isBar (xl X) (xg X) n M a0 h) (va_cwS 1 C.2.2.1 gX10_lose_X10_isBar rfl rfl rfl (by decide +kernel) ⟨Nat.le_of_ble_eq_true rfl, Nat.le_of_ble_eq_true rfl⟩) rfl rfl (Nat.le_of_ble_eq_true rfl) (fun v1 => ?_)
  refine ms_if_eq (tgt := 36) C dX10_lose_4 (by decide) (fun c2 => ?_) (fun c2 => ?_)
  · refine ms_ldc C (-1000000000 : Int32) dX10_lose_36 (by decide +kernel) ?_
    exact ms_iretm C hR rfl dX10_lose_38
  · refine ms_aload_n C dX10_lose_7 0 rfl ?_
    refine ms_iload_n C dX10_lose_8 2 rfl ?_
    refine ms_callVi (As := [.int a1]) C dX10_lose_9 (fun _ h => mtX10_isKind (xl X) (xg X) n M a1 h) (cwV 1 C.2.2.1 gX10_lose_X10_isKind rfl rfl rfl (by decide +kernel) ⟨Nat.le_of_ble_eq_true rfl, Nat.le_of_ble_eq_true rfl⟩) (zz40 (G := xg X) Nat.one_pos) (T := TX10) rfl rfl rfl (Nat.le_of_ble_eq_true rfl) (fun v3 => ?_)
    refine ms_if_eq (tgt := 36) C dX10_lose_12 (by decide) (fun c4 => ?_) (fun c4 => ?_)
    · refine ms_ldc C (-1000000000 : Int32) dX10_lose_36 (by decide +kernel) ?_
      exact ms_iretm C hR rfl dX10_lose_38
    · refine ms_iload_n C dX10_lose_15 3 rfl ?_
      refine ms_iconst C (0 : Int32) dX10_lose_16 (by decide) ?_
      refine ms_iconst C (1 : Int32) dX10_lose_17 (by decide) ?_
      refine ms_callSi (As := [.int a2, .int (0 : Int32), .int (1 : Int32)]) C dX10_lose_18 (fun _ h => mtX10_in (xl X) (xg X) n M a2 (0 : Int32) (1 : Int32) h) (va_cwS 3 C.2.2.1 gX10_lose_X10_in rfl rfl rfl (by decide +kernel) ⟨Nat.le_of_ble_eq_true rfl, Nat.le_of_ble_eq_true rfl⟩) rfl rfl (Nat.le_of_ble_eq_true rfl) (fun v5 => ?_)
      refine ms_if_eq (tgt := 36) C dX10_lose_21 (by decide) (fun c6 => ?_) (fun c6 => ?_)
      · refine ms_ldc C (-1000000000 : Int32) dX10_lose_36 (by decide +kernel) ?_
        exact ms_iretm C hR rfl dX10_lose_38
      · refine ms_iload C dX10_lose_24 4 rfl ?_
        refine ms_iconst C (1 : Int32) dX10_lose_26 (by decide) ?_
        refine ms_sipush C (10000 : Int32) dX10_lose_27 (by decide) ?_
        refine ms_callSi (As := [.int a3, .int (1 : Int32), .int (10000 : Int32)]) C dX10_lose_30 (fun _ h => mtX10_in (xl X) (xg X) n M a3 (1 : Int32) (10000 : Int32) h) (va_cwS 3 C.2.2.1 gX10_lose_X10_in rfl rfl rfl (by decide +kernel) ⟨Nat.le_of_ble_eq_true rfl, Nat.le_of_ble_eq_true rfl⟩) rfl rfl (Nat.le_of_ble_eq_true rfl) (fun v7 => ?_)
        refine ms_if_ne (tgt := 39) C dX10_lose_33 (by decide) (fun c8 => ?_) (fun c8 => ?_)
        · refine ms_aload_n C dX10_lose_39 0 rfl ?_
          refine ms_iload_n C dX10_lose_40 1 rfl ?_
          refine ms_iload_n C dX10_lose_41 2 rfl ?_
          refine ms_iload_n C dX10_lose_42 3 rfl ?_
          refine ms_iload C dX10_lose_43 4 rfl ?_
          refine ms_callVv (As := [.int a0, .int a1, .int a2, .int a3]) C dX10_lose_45 (fun _ h => mtX10_loses (xl X) (xg X) n M a0 a1 a2 a3 h) (cwV 4 C.2.2.1 gX10_lose_X10_loses rfl rfl rfl (by decide +kernel) ⟨Nat.le_of_ble_eq_true rfl, Nat.le_of_ble_eq_true rfl⟩) (zz40 (G := xg X) Nat.one_pos) (T := TX10) rfl rfl rfl (Nat.le_of_ble_eq_true rfl) (fun M9 => ?_)
          refine ms_aload_n C dX10_lose_48 0 rfl ?_
          refine ms_iconst C (4 : Int32) dX10_lose_49 (by decide) ?_
          refine ms_iload_n C dX10_lose_50 3 rfl ?_
          refine ms_iadd C dX10_lose_51 (fun v10 => ?_)
          refine ms_iload_n C dX10_lose_52 1 rfl ?_
          refine ms_iload_n C dX10_lose_53 2 rfl ?_
          refine ms_iload C dX10_lose_54 4 rfl ?_
          refine ms_iconst C (0 : Int32) dX10_lose_56 (by decide) ?_
          refine ms_iconst C (0 : Int32) dX10_lose_57 (by decide) ?_
          refine ms_callVv (As := [.int v10, .int a0, .int a1, .int a3, .int (0 : Int32), .int (0 : Int32)]) C dX10_lose_58 (fun _ h => mtX10_keeps (xl X) (xg X) n M9 v10 a0 a1 a3 (0 : Int32) (0 : Int32) h) (cwV 6 C.2.2.1 gX10_lose_X10_keeps rfl rfl rfl (by decide +kernel) ⟨Nat.le_of_ble_eq_true rfl, Nat.le_of_ble_eq_true rfl⟩) (zz40 (G := xg X) Nat.one_pos) (T := TX10) rfl rfl rfl (Nat.le_of_ble_eq_true rfl) (fun M11 => ?_)
          refine ms_aload_n C dX10_lose_61 0 rfl ?_
          refine ms_getr C dX10_lose_62 (zz40 (G := xg X) Nat.one_pos) (k := 10) (Nat.le_of_ble_eq_true rfl) (b := xad X 51 0) rfl (Cn := RX10) (T := TX10) rfl inX10_X10_lose rfl (by decide +kernel) ?_
          refine ms_bipush C (10 : Int32) dX10_lose_65 (by decide) ?_
          refine ms_iload_n C dX10_lose_67 1 rfl ?_
          refine ms_imul C dX10_lose_68 (fun v12 => ?_)
          refine ms_iload_n C dX10_lose_69 2 rfl ?_
          refine ms_iadd C dX10_lose_70 (fun v13 => ?_)
          refine ms_ld C dX10_lose_71 (zz51 (G := xg X) Nat.one_pos) rfl (fun _ v14 => ?_)
          exact ms_iretm C hR rfl dX10_lose_72
        · refine ms_ldc C (-1000000000 : Int32) dX10_lose_36 (by decide +kernel) ?_
          exact ms_iretm C hR rfl dX10_lose_38
def rmX10_spanNow : Room := { frames := 0, cells := 0, slots := 0, locals := 0 }
theorem inX10_X10_spanNow : ∀ w ∈ wsX100, w ∈ wsX10_spanNow := by decide +kernel
set_option maxRecDepth 100000 in
set_option maxHeartbeats 4000000 in
theorem mtX10_spanNow (l : Launch) (G : mh_G) (n : Nat) (M : mh_M) (a0 : Int32) {z : Int32} (ho : fX10_spanNow n M a0 = some z) : Met l yX10_spanNow wsX10_spanNow rmX10_spanNow (mh_Pc G M [.ref (G.2.2 40 0), .int a0]) (mh_Q G M (some (.int z))) 0 0 (mh_dom G) := by
  refine mh_met (cc := cX10_spanNow) (maxL := 3) (ret := (some .int)) (by decide) rfl (Nat.le_of_ble_eq_true rfl) ho ?_
  rintro X rfl rfl C hR
  show mh_W X rmX10_spanNow 3 _ z M 0 [(0, .ref (xad X 40 0)), (1, .int a0)] []
  replace C : mh_C X rmX10_spanNow cX10_spanNow wsX10_spanNow RX10 3 := C
  unfold fX10_spanNow
  refine ms_iload_n C dX10_spanNow_0 1 rfl ?_
  refine ms_bipush C (10 : Int32) dX10_spanNow_1 (by decide) ?_
  refine ms_irem C dX10_spanNow_3 (fun v1 => ?_)
  refine ms_istore_n (L' := [(2, .int v1), (0, .ref (xad X 40 0)), (1, .int a0)]) C dX10_spanNow_4 rfl (by decide) rfl ?_
  refine ms_aload_n C dX10_spanNow_5 1 rfl ?_
  refine ms_getr C dX10_spanNow_6 (zz40 (G := xg X) Nat.one_pos) (k := 8) (Nat.le_of_ble_eq_true rfl) (b := xad X 49 0) rfl (Cn := RX10) (T := TX10) rfl inX10_X10_spanNow rfl (by decide +kernel) ?_
  refine ms_iconst C (0 : Int32) dX10_spanNow_9 (by decide) ?_
  refine ms_ld C dX10_spanNow_10 (zz49 (G := xg X) Nat.one_pos) rfl (fun _ v2 => ?_)
  refine ms_bipush C (100 : Int32) dX10_spanNow_11 (by decide) ?_
  refine ms_imul C dX10_spanNow_13 (fun v3 => ?_)
  refine ms_aload_n C dX10_spanNow_14 1 rfl ?_
  refine ms_getr C dX10_spanNow_15 (zz40 (G := xg X) Nat.one_pos) (k := 3) (Nat.le_of_ble_eq_true rfl) (b := xad X 44 0) rfl (Cn := RX10) (T := TX10) rfl inX10_X10_spanNow rfl (by decide +kernel) ?_
  refine ms_iload_n C dX10_spanNow_18 0 rfl ?_
  refine ms_ld C dX10_spanNow_19 (zz44 (G := xg X) Nat.one_pos) rfl (fun _ v4 => ?_)
  refine ms_iadd C dX10_spanNow_20 (fun v5 => ?_)
  refine ms_iconst C (1 : Int32) dX10_spanNow_21 (by decide) ?_
  refine ms_isub C dX10_spanNow_22 (fun v6 => ?_)
  refine ms_aload_n C dX10_spanNow_23 1 rfl ?_
  refine ms_getr C dX10_spanNow_24 (zz40 (G := xg X) Nat.one_pos) (k := 3) (Nat.le_of_ble_eq_true rfl) (b := xad X 44 0) rfl (Cn := RX10) (T := TX10) rfl inX10_X10_spanNow rfl (by decide +kernel) ?_
  refine ms_iload_n C dX10_spanNow_27 0 rfl ?_
  refine ms_ld C dX10_spanNow_28 (zz44 (G := xg X) Nat.one_pos) rfl (fun _ v7 => ?_)
  refine ms_idiv C dX10_spanNow_29 (fun v8 => ?_)
  refine ms_aload_n C dX10_spanNow_30 1 rfl ?_
  refine ms_getr C dX10_spanNow_31 (zz40 (G := xg X) Nat.one_pos) (k := 8) (Nat.le_of_ble_eq_true rfl) (b := xad X 49 0) rfl (Cn := RX10) (T := TX10) rfl inX10_X10_spanNow rfl (by decide +kernel) ?_
  refine ms_iconst C (1 : Int32) dX10_spanNow_34 (by decide) ?_
  refine ms_ld C dX10_spanNow_35 (zz49 (G := xg X) Nat.one_pos) rfl (fun _ v9 => ?_)
  refine ms_aload_n C dX10_spanNow_36 1 rfl ?_
  refine ms_getr C dX10_spanNow_37 (zz40 (G := xg X) Nat.one_pos) (k := 14) (Nat.le_of_ble_eq_true rfl) (b := xad X 55 0) rfl (Cn := RX10) (T := TX10) rfl inX10_X10_spanNow rfl (by decide +kernel) ?_
  refine ms_iload_n C dX10_spanNow_40 2 rfl ?_
  refine ms_ld C dX10_spanNow_41 (zz55 (G := xg X) Nat.one_pos) rfl (fun _ v10 => ?_)
  refine ms_imul C dX10_spanNow_42 (fun v11 => ?_)
  refine ms_iadd C dX10_spanNow_43 (fun v12 => ?_)
  exact ms_ireti C hR rfl rfl dX10_spanNow_44
def rmX10_weigh : Room := { frames := 2, cells := 0, slots := 0, locals := 43 }
theorem inX10_X10_weigh : ∀ w ∈ wsX100, w ∈ wsX10_weigh := by decide +kernel
set_option maxRecDepth 100000 in
set_option maxHeartbeats 4000000 in
theorem mtX10_weigh (l : Launch) (G : mh_G) (n : Nat) (M : mh_M) (a0 : Int32) (a1 : Int32) (a2 : Int32) (a3 : Int32) {z : mh_M × Int32} (ho : fX10_weigh n M a0 a1 a2 a3 = some z) : Met l yX10_weigh wsX10_weigh rmX10_weigh (mh_Pc G M [.ref (G.2.2 40 0), .int a0, .int a1, .int a2, .int a3]) (mh_Q G z.1 (some (.int z.2))) 0 0 (mh_dom G) := by
  refine mh_met (cc := cX10_weigh) (maxL := 9) (ret := (some .int)) (by decide) rfl (Nat.le_of_ble_eq_true rfl) ho ?_
  rintro X rfl rfl C hR
  show mh_W X rmX10_weigh 9 _ z M 0 [(0, .ref (xad X 40 0)), (1, .int a0), (2, .int a1), (3, .int a2), (4, .int a3)] []
  replace C : mh_C X rmX10_weigh cX10_weigh wsX10_weigh RX10 9 := C
  unfold fX10_weigh
  refine ms_iload_n C dX10_weigh_0 1 rfl ?_
  refine ms_callSi (As := [.int a0]) C dX10_weigh_1 (fun _ h => mtX10_isBar (xl X) (xg X) n M a0 h) (va_cwS 1 C.2.2.1 gX10_weigh_X10_isBar rfl rfl rfl (by decide +kernel) ⟨Nat.le_of_ble_eq_true rfl, Nat.le_of_ble_eq_true rfl⟩) rfl rfl (Nat.le_of_ble_eq_true rfl) (fun v1 => ?_)
  refine ms_if_eq (tgt := 37) C dX10_weigh_4 (by decide) (fun c2 => ?_) (fun c2 => ?_)
  · refine ms_ldc C (-1000000000 : Int32) dX10_weigh_37 (by decide +kernel) ?_
    exact ms_iretm C hR rfl dX10_weigh_39
  · refine ms_aload_n C dX10_weigh_7 0 rfl ?_
    refine ms_iload_n C dX10_weigh_8 2 rfl ?_
    refine ms_callVi (As := [.int a1]) C dX10_weigh_9 (fun _ h => mtX10_isKind (xl X) (xg X) n M a1 h) (cwV 1 C.2.2.1 gX10_weigh_X10_isKind rfl rfl rfl (by decide +kernel) ⟨Nat.le_of_ble_eq_true rfl, Nat.le_of_ble_eq_true rfl⟩) (zz40 (G := xg X) Nat.one_pos) (T := TX10) rfl rfl rfl (Nat.le_of_ble_eq_true rfl) (fun v3 => ?_)
    refine ms_if_eq (tgt := 37) C dX10_weigh_12 (by decide) (fun c4 => ?_) (fun c4 => ?_)
    · refine ms_ldc C (-1000000000 : Int32) dX10_weigh_37 (by decide +kernel) ?_
      exact ms_iretm C hR rfl dX10_weigh_39
    · refine ms_iload_n C dX10_weigh_15 3 rfl ?_
      refine ms_iconst C (0 : Int32) dX10_weigh_16 (by decide) ?_
      refine ms_bipush C (50 : Int32) dX10_weigh_17 (by decide) ?_
      refine ms_callSi (As := [.int a2, .int (0 : Int32), .int (50 : Int32)]) C dX10_weigh_19 (fun _ h => mtX10_in (xl X) (xg X) n M a2 (0 : Int32) (50 : Int32) h) (va_cwS 3 C.2.2.1 gX10_weigh_X10_in rfl rfl rfl (by decide +kernel) ⟨Nat.le_of_ble_eq_true rfl, Nat.le_of_ble_eq_true rfl⟩) rfl rfl (Nat.le_of_ble_eq_true rfl) (fun v5 => ?_)
      refine ms_if_eq (tgt := 37) C dX10_weigh_22 (by decide) (fun c6 => ?_) (fun c6 => ?_)
      · refine ms_ldc C (-1000000000 : Int32) dX10_weigh_37 (by decide +kernel) ?_
        exact ms_iretm C hR rfl dX10_weigh_39
      · refine ms_iload C dX10_weigh_25 4 rfl ?_
        refine ms_iconst C (0 : Int32) dX10_weigh_27 (by decide) ?_
        refine ms_sipush C (5000 : Int32) dX10_weigh_28 (by decide) ?_
        refine ms_callSi (As := [.int a3, .int (0 : Int32), .int (5000 : Int32)]) C dX10_weigh_31 (fun _ h => mtX10_in (xl X) (xg X) n M a3 (0 : Int32) (5000 : Int32) h) (va_cwS 3 C.2.2.1 gX10_weigh_X10_in rfl rfl rfl (by decide +kernel) ⟨Nat.le_of_ble_eq_true rfl, Nat.le_of_ble_eq_true rfl⟩) rfl rfl (Nat.le_of_ble_eq_true rfl) (fun v7 => ?_)
        refine ms_if_ne (tgt := 40) C dX10_weigh_34 (by decide) (fun c8 => ?_) (fun c8 => ?_)
        · refine ms_aload_n C dX10_weigh_40 0 rfl ?_
          refine ms_geti C dX10_weigh_41 (zz40 (G := xg X) Nat.one_pos) (k := 11) (Nat.le_of_ble_eq_true rfl) rfl (Cn := RX10) (T := TX10) rfl inX10_X10_weigh rfl (by decide +kernel) (fun v9 => ?_)
          refine ms_iload_n C dX10_weigh_44 1 rfl ?_
          refine ms_iload_n C dX10_weigh_45 2 rfl ?_
          refine ms_callSi (As := [.int v9, .int a0, .int a1]) C dX10_weigh_46 (fun _ h => mtX10_at (xl X) (xg X) n M v9 a0 a1 h) (va_cwS 3 C.2.2.1 gX10_weigh_X10_at rfl rfl rfl (by decide +kernel) ⟨Nat.le_of_ble_eq_true rfl, Nat.le_of_ble_eq_true rfl⟩) rfl rfl (Nat.le_of_ble_eq_true rfl) (fun v10 => ?_)
          refine ms_istore (L' := [(5, .int v10), (0, .ref (xad X 40 0)), (1, .int a0), (2, .int a1), (3, .int a2), (4, .int a3)]) C dX10_weigh_49 (by decide) rfl ?_
          refine ms_aload_n C dX10_weigh_51 1 rfl ?_
          refine ms_getr C dX10_weigh_52 (zz40 (G := xg X) Nat.one_pos) (k := 13) (Nat.le_of_ble_eq_true rfl) (b := xad X 54 0) rfl (Cn := RX10) (T := TX10) rfl inX10_X10_weigh rfl (by decide +kernel) ?_
          refine ms_iload C dX10_weigh_55 0 rfl ?_
          refine ms_zld C dX10_weigh_57 (zz54 (G := xg X) Nat.one_pos) rfl (fun _ v11 => ?_)
          refine ms_if_eq (tgt := 64) C dX10_weigh_58 (by decide) (fun c12 => ?_) (fun c12 => ?_)
          · refine ms_iload C dX10_weigh_64 5 rfl ?_
            refine ms_aload_n C dX10_weigh_66 1 rfl ?_
            refine ms_getr C dX10_weigh_67 (zz40 (G := xg X) Nat.one_pos) (k := 1) (Nat.le_of_ble_eq_true rfl) (b := xad X 42 0) rfl (Cn := RX10) (T := TX10) rfl inX10_X10_weigh rfl (by decide +kernel) ?_
            refine ms_iload_n C dX10_weigh_70 3 rfl ?_
            refine ms_ld C dX10_weigh_71 (zz42 (G := xg X) Nat.one_pos) rfl (fun _ v13 => ?_)
            refine ms_icmp_ge (tgt := 79) C dX10_weigh_72 (by decide) (fun c14 => ?_) (fun c14 => ?_)
            · refine ms_iload C dX10_weigh_79 5 rfl ?_
              refine ms_aload_n C dX10_weigh_81 1 rfl ?_
              refine ms_getr C dX10_weigh_82 (zz40 (G := xg X) Nat.one_pos) (k := 1) (Nat.le_of_ble_eq_true rfl) (b := xad X 42 0) rfl (Cn := RX10) (T := TX10) rfl inX10_X10_weigh rfl (by decide +kernel) ?_
              refine ms_iload_n C dX10_weigh_85 3 rfl ?_
              refine ms_ld C dX10_weigh_86 (zz42 (G := xg X) Nat.one_pos) rfl (fun _ v15 => ?_)
              refine ms_isub C dX10_weigh_87 (fun v16 => ?_)
              refine ms_istore (L' := [(6, .int v16), (5, .int v10), (0, .ref (xad X 40 0)), (1, .int a0), (2, .int a1), (3, .int a2), (4, .int a3)]) C dX10_weigh_88 (by decide) rfl ?_
              refine ms_aload_n C dX10_weigh_90 2 rfl ?_
              refine ms_getr C dX10_weigh_91 (zz40 (G := xg X) Nat.one_pos) (k := 2) (Nat.le_of_ble_eq_true rfl) (b := xad X 43 0) rfl (Cn := RX10) (T := TX10) rfl inX10_X10_weigh rfl (by decide +kernel) ?_
              refine ms_iload_n C dX10_weigh_94 4 rfl ?_
              refine ms_ld C dX10_weigh_95 (zz43 (G := xg X) Nat.one_pos) rfl (fun _ v17 => ?_)
              refine ms_iload_n C dX10_weigh_96 5 rfl ?_
              refine ms_imul C dX10_weigh_97 (fun v18 => ?_)
              refine ms_bipush C (100 : Int32) dX10_weigh_98 (by decide) ?_
              refine ms_iload C dX10_weigh_100 0 rfl ?_
              refine ms_imul C dX10_weigh_102 (fun v19 => ?_)
              refine ms_aload_n C dX10_weigh_103 2 rfl ?_
              refine ms_getr C dX10_weigh_104 (zz40 (G := xg X) Nat.one_pos) (k := 3) (Nat.le_of_ble_eq_true rfl) (b := xad X 44 0) rfl (Cn := RX10) (T := TX10) rfl inX10_X10_weigh rfl (by decide +kernel) ?_
              refine ms_iload_n C dX10_weigh_107 4 rfl ?_
              refine ms_ld C dX10_weigh_108 (zz44 (G := xg X) Nat.one_pos) rfl (fun _ v20 => ?_)
              refine ms_idiv C dX10_weigh_109 (fun v21 => ?_)
              refine ms_iadd C dX10_weigh_110 (fun v22 => ?_)
              refine ms_istore (L' := [(7, .int v22), (6, .int v16), (5, .int v10), (0, .ref (xad X 40 0)), (1, .int a0), (2, .int a1), (3, .int a2), (4, .int a3)]) C dX10_weigh_111 (by decide) rfl ?_
              refine ms_aload_n C dX10_weigh_113 3 rfl ?_
              refine ms_getr C dX10_weigh_114 (zz40 (G := xg X) Nat.one_pos) (k := 10) (Nat.le_of_ble_eq_true rfl) (b := xad X 51 0) rfl (Cn := RX10) (T := TX10) rfl inX10_X10_weigh rfl (by decide +kernel) ?_
              refine ms_bipush C (10 : Int32) dX10_weigh_117 (by decide) ?_
              refine ms_iload_n C dX10_weigh_119 4 rfl ?_
              refine ms_imul C dX10_weigh_120 (fun v23 => ?_)
              refine ms_iload_n C dX10_weigh_121 5 rfl ?_
              refine ms_iadd C dX10_weigh_122 (fun v24 => ?_)
              refine ms_ld C dX10_weigh_123 (zz51 (G := xg X) Nat.one_pos) rfl (fun _ v25 => ?_)
              refine ms_iload C dX10_weigh_124 0 rfl ?_
              refine ms_isub C dX10_weigh_126 (fun v26 => ?_)
              refine ms_istore (L' := [(8, .int v26), (7, .int v22), (6, .int v16), (5, .int v10), (0, .ref (xad X 40 0)), (1, .int a0), (2, .int a1), (3, .int a2), (4, .int a3)]) C dX10_weigh_127 (by decide) rfl ?_
              refine ms_aload_n C dX10_weigh_129 4 rfl ?_
              refine ms_getr C dX10_weigh_130 (zz40 (G := xg X) Nat.one_pos) (k := 10) (Nat.le_of_ble_eq_true rfl) (b := xad X 51 0) rfl (Cn := RX10) (T := TX10) rfl inX10_X10_weigh rfl (by decide +kernel) ?_
              refine ms_bipush C (10 : Int32) dX10_weigh_133 (by decide) ?_
              refine ms_iload_n C dX10_weigh_135 5 rfl ?_
              refine ms_imul C dX10_weigh_136 (fun v27 => ?_)
              refine ms_iload_n C dX10_weigh_137 6 rfl ?_
              refine ms_iadd C dX10_weigh_138 (fun v28 => ?_)
              refine ms_iload C dX10_weigh_139 1 rfl ?_
              refine ms_st C dX10_weigh_141 (zz51 (G := xg X) Nat.one_pos) rfl (fun _ M29 => ?_)
              refine ms_aload_n C dX10_weigh_142 4 rfl ?_
              refine ms_getr C dX10_weigh_143 (zz40 (G := xg X) Nat.one_pos) (k := 13) (Nat.le_of_ble_eq_true rfl) (b := xad X 54 0) rfl (Cn := RX10) (T := TX10) rfl inX10_X10_weigh rfl (by decide +kernel) ?_
              refine ms_iload C dX10_weigh_146 3 rfl ?_
              refine ms_iconst C (1 : Int32) dX10_weigh_148 (by decide) ?_
              refine ms_zst C dX10_weigh_149 (zz54 (G := xg X) Nat.one_pos) rfl (fun _ M30 => ?_)
              refine ms_aload_n C dX10_weigh_150 4 rfl ?_
              refine ms_getr C dX10_weigh_151 (zz40 (G := xg X) Nat.one_pos) (k := 12) (Nat.le_of_ble_eq_true rfl) (b := xad X 53 0) rfl (Cn := RX10) (T := TX10) rfl inX10_X10_weigh rfl (by decide +kernel) ?_
              refine ms_iload C dX10_weigh_154 3 rfl ?_
              refine ms_iload C dX10_weigh_156 0 rfl ?_
              refine ms_st C dX10_weigh_158 (zz53 (G := xg X) Nat.one_pos) rfl (fun _ M31 => ?_)
              refine ms_aload_n C dX10_weigh_159 4 rfl ?_
              refine ms_getr C dX10_weigh_160 (zz40 (G := xg X) Nat.one_pos) (k := 15) (Nat.le_of_ble_eq_true rfl) (b := xad X 56 0) rfl (Cn := RX10) (T := TX10) rfl inX10_X10_weigh rfl (by decide +kernel) ?_
              refine ms_iload C dX10_weigh_163 3 rfl ?_
              refine ms_aload_n C dX10_weigh_165 4 rfl ?_
              refine ms_iload C dX10_weigh_166 3 rfl ?_
              refine ms_callVi (As := [.int v10]) C dX10_weigh_168 (fun _ h => mtX10_spanNow (xl X) (xg X) n M31 v10 h) (cwV 1 C.2.2.1 gX10_weigh_X10_spanNow rfl rfl rfl (by decide +kernel) ⟨Nat.le_of_ble_eq_true rfl, Nat.le_of_ble_eq_true rfl⟩) (zz40 (G := xg X) Nat.one_pos) (T := TX10) rfl rfl rfl (Nat.le_of_ble_eq_true rfl) (fun v32 => ?_)
              refine ms_st C dX10_weigh_171 (zz56 (G := xg X) Nat.one_pos) rfl (fun _ M33 => ?_)
              refine ms_aload_n C dX10_weigh_172 4 rfl ?_
              refine ms_getr C dX10_weigh_173 (zz40 (G := xg X) Nat.one_pos) (k := 17) (Nat.le_of_ble_eq_true rfl) (b := xad X 58 0) rfl (Cn := RX10) (T := TX10) rfl inX10_X10_weigh rfl (by decide +kernel) ?_
              refine ms_iconst C (5 : Int32) dX10_weigh_176 (by decide) ?_
              refine ms_iload_n C dX10_weigh_177 6 rfl ?_
              refine ms_imul C dX10_weigh_178 (fun v34 => ?_)
              refine ms_iconst C (3 : Int32) dX10_weigh_179 (by decide) ?_
              refine ms_iadd C dX10_weigh_180 (fun v35 => ?_)
              refine ms_dup2 C dX10_weigh_181 rfl rfl ?_
              refine ms_ld C dX10_weigh_182 (zz58 (G := xg X) Nat.one_pos) rfl (fun _ v36 => ?_)
              refine ms_iload C dX10_weigh_183 0 rfl ?_
              refine ms_iadd C dX10_weigh_185 (fun v37 => ?_)
              refine ms_st C dX10_weigh_186 (zz58 (G := xg X) Nat.one_pos) rfl (fun _ M38 => ?_)
              refine ms_aload_n C dX10_weigh_187 4 rfl ?_
              refine ms_bipush C (6 : Int32) dX10_weigh_188 (by decide) ?_
              refine ms_iload_n C dX10_weigh_190 5 rfl ?_
              refine ms_iload_n C dX10_weigh_191 6 rfl ?_
              refine ms_iload C dX10_weigh_192 0 rfl ?_
              refine ms_iconst C (0 : Int32) dX10_weigh_194 (by decide) ?_
              refine ms_iconst C (0 : Int32) dX10_weigh_195 (by decide) ?_
              refine ms_callVv (As := [.int (6 : Int32), .int a0, .int a1, .int v26, .int (0 : Int32), .int (0 : Int32)]) C dX10_weigh_196 (fun _ h => mtX10_keeps (xl X) (xg X) n M38 (6 : Int32) a0 a1 v26 (0 : Int32) (0 : Int32) h) (cwV 6 C.2.2.1 gX10_weigh_X10_keeps rfl rfl rfl (by decide +kernel) ⟨Nat.le_of_ble_eq_true rfl, Nat.le_of_ble_eq_true rfl⟩) (zz40 (G := xg X) Nat.one_pos) (T := TX10) rfl rfl rfl (Nat.le_of_ble_eq_true rfl) (fun M39 => ?_)
              refine ms_iload C dX10_weigh_199 0 rfl ?_
              exact ms_iretm C hR rfl dX10_weigh_201
            · refine ms_iconst C (0 : Int32) dX10_weigh_75 (by decide) ?_
              refine ms_goto (tgt := 88) C dX10_weigh_76 (by decide) ?_
              refine ms_istore (L' := [(6, .int (0 : Int32)), (5, .int v10), (0, .ref (xad X 40 0)), (1, .int a0), (2, .int a1), (3, .int a2), (4, .int a3)]) C dX10_weigh_88 (by decide) rfl ?_
              refine ms_aload_n C dX10_weigh_90 2 rfl ?_
              refine ms_getr C dX10_weigh_91 (zz40 (G := xg X) Nat.one_pos) (k := 2) (Nat.le_of_ble_eq_true rfl) (b := xad X 43 0) rfl (Cn := RX10) (T := TX10) rfl inX10_X10_weigh rfl (by decide +kernel) ?_
              refine ms_iload_n C dX10_weigh_94 4 rfl ?_
              refine ms_ld C dX10_weigh_95 (zz43 (G := xg X) Nat.one_pos) rfl (fun _ v40 => ?_)
              refine ms_iload_n C dX10_weigh_96 5 rfl ?_
              refine ms_imul C dX10_weigh_97 (fun v41 => ?_)
              refine ms_bipush C (100 : Int32) dX10_weigh_98 (by decide) ?_
              refine ms_iload C dX10_weigh_100 0 rfl ?_
              refine ms_imul C dX10_weigh_102 (fun v42 => ?_)
              refine ms_aload_n C dX10_weigh_103 2 rfl ?_
              refine ms_getr C dX10_weigh_104 (zz40 (G := xg X) Nat.one_pos) (k := 3) (Nat.le_of_ble_eq_true rfl) (b := xad X 44 0) rfl (Cn := RX10) (T := TX10) rfl inX10_X10_weigh rfl (by decide +kernel) ?_
              refine ms_iload_n C dX10_weigh_107 4 rfl ?_
              refine ms_ld C dX10_weigh_108 (zz44 (G := xg X) Nat.one_pos) rfl (fun _ v43 => ?_)
              refine ms_idiv C dX10_weigh_109 (fun v44 => ?_)
              refine ms_iadd C dX10_weigh_110 (fun v45 => ?_)
              refine ms_istore (L' := [(7, .int v45), (6, .int (0 : Int32)), (5, .int v10), (0, .ref (xad X 40 0)), (1, .int a0), (2, .int a1), (3, .int a2), (4, .int a3)]) C dX10_weigh_111 (by decide) rfl ?_
              refine ms_aload_n C dX10_weigh_113 3 rfl ?_
              refine ms_getr C dX10_weigh_114 (zz40 (G := xg X) Nat.one_pos) (k := 10) (Nat.le_of_ble_eq_true rfl) (b := xad X 51 0) rfl (Cn := RX10) (T := TX10) rfl inX10_X10_weigh rfl (by decide +kernel) ?_
              refine ms_bipush C (10 : Int32) dX10_weigh_117 (by decide) ?_
              refine ms_iload_n C dX10_weigh_119 4 rfl ?_
              refine ms_imul C dX10_weigh_120 (fun v46 => ?_)
              refine ms_iload_n C dX10_weigh_121 5 rfl ?_
              refine ms_iadd C dX10_weigh_122 (fun v47 => ?_)
              refine ms_ld C dX10_weigh_123 (zz51 (G := xg X) Nat.one_pos) rfl (fun _ v48 => ?_)
              refine ms_iload C dX10_weigh_124 0 rfl ?_
              refine ms_isub C dX10_weigh_126 (fun v49 => ?_)
              refine ms_istore (L' := [(8, .int v49), (7, .int v45), (6, .int (0 : Int32)), (5, .int v10), (0, .ref (xad X 40 0)), (1, .int a0), (2, .int a1), (3, .int a2), (4, .int a3)]) C dX10_weigh_127 (by decide) rfl ?_
              refine ms_aload_n C dX10_weigh_129 4 rfl ?_
              refine ms_getr C dX10_weigh_130 (zz40 (G := xg X) Nat.one_pos) (k := 10) (Nat.le_of_ble_eq_true rfl) (b := xad X 51 0) rfl (Cn := RX10) (T := TX10) rfl inX10_X10_weigh rfl (by decide +kernel) ?_
              refine ms_bipush C (10 : Int32) dX10_weigh_133 (by decide) ?_
              refine ms_iload_n C dX10_weigh_135 5 rfl ?_
              refine ms_imul C dX10_weigh_136 (fun v50 => ?_)
              refine ms_iload_n C dX10_weigh_137 6 rfl ?_
              refine ms_iadd C dX10_weigh_138 (fun v51 => ?_)
              refine ms_iload C dX10_weigh_139 1 rfl ?_
              refine ms_st C dX10_weigh_141 (zz51 (G := xg X) Nat.one_pos) rfl (fun _ M52 => ?_)
              refine ms_aload_n C dX10_weigh_142 4 rfl ?_
              refine ms_getr C dX10_weigh_143 (zz40 (G := xg X) Nat.one_pos) (k := 13) (Nat.le_of_ble_eq_true rfl) (b := xad X 54 0) rfl (Cn := RX10) (T := TX10) rfl inX10_X10_weigh rfl (by decide +kernel) ?_
              refine ms_iload C dX10_weigh_146 3 rfl ?_
              refine ms_iconst C (1 : Int32) dX10_weigh_148 (by decide) ?_
              refine ms_zst C dX10_weigh_149 (zz54 (G := xg X) Nat.one_pos) rfl (fun _ M53 => ?_)
              refine ms_aload_n C dX10_weigh_150 4 rfl ?_
              refine ms_getr C dX10_weigh_151 (zz40 (G := xg X) Nat.one_pos) (k := 12) (Nat.le_of_ble_eq_true rfl) (b := xad X 53 0) rfl (Cn := RX10) (T := TX10) rfl inX10_X10_weigh rfl (by decide +kernel) ?_
              refine ms_iload C dX10_weigh_154 3 rfl ?_
              refine ms_iload C dX10_weigh_156 0 rfl ?_
              refine ms_st C dX10_weigh_158 (zz53 (G := xg X) Nat.one_pos) rfl (fun _ M54 => ?_)
              refine ms_aload_n C dX10_weigh_159 4 rfl ?_
              refine ms_getr C dX10_weigh_160 (zz40 (G := xg X) Nat.one_pos) (k := 15) (Nat.le_of_ble_eq_true rfl) (b := xad X 56 0) rfl (Cn := RX10) (T := TX10) rfl inX10_X10_weigh rfl (by decide +kernel) ?_
              refine ms_iload C dX10_weigh_163 3 rfl ?_
              refine ms_aload_n C dX10_weigh_165 4 rfl ?_
              refine ms_iload C dX10_weigh_166 3 rfl ?_
              refine ms_callVi (As := [.int v10]) C dX10_weigh_168 (fun _ h => mtX10_spanNow (xl X) (xg X) n M54 v10 h) (cwV 1 C.2.2.1 gX10_weigh_X10_spanNow rfl rfl rfl (by decide +kernel) ⟨Nat.le_of_ble_eq_true rfl, Nat.le_of_ble_eq_true rfl⟩) (zz40 (G := xg X) Nat.one_pos) (T := TX10) rfl rfl rfl (Nat.le_of_ble_eq_true rfl) (fun v55 => ?_)
              refine ms_st C dX10_weigh_171 (zz56 (G := xg X) Nat.one_pos) rfl (fun _ M56 => ?_)
              refine ms_aload_n C dX10_weigh_172 4 rfl ?_
              refine ms_getr C dX10_weigh_173 (zz40 (G := xg X) Nat.one_pos) (k := 17) (Nat.le_of_ble_eq_true rfl) (b := xad X 58 0) rfl (Cn := RX10) (T := TX10) rfl inX10_X10_weigh rfl (by decide +kernel) ?_
              refine ms_iconst C (5 : Int32) dX10_weigh_176 (by decide) ?_
              refine ms_iload_n C dX10_weigh_177 6 rfl ?_
              refine ms_imul C dX10_weigh_178 (fun v57 => ?_)
              refine ms_iconst C (3 : Int32) dX10_weigh_179 (by decide) ?_
              refine ms_iadd C dX10_weigh_180 (fun v58 => ?_)
              refine ms_dup2 C dX10_weigh_181 rfl rfl ?_
              refine ms_ld C dX10_weigh_182 (zz58 (G := xg X) Nat.one_pos) rfl (fun _ v59 => ?_)
              refine ms_iload C dX10_weigh_183 0 rfl ?_
              refine ms_iadd C dX10_weigh_185 (fun v60 => ?_)
              refine ms_st C dX10_weigh_186 (zz58 (G := xg X) Nat.one_pos) rfl (fun _ M61 => ?_)
              refine ms_aload_n C dX10_weigh_187 4 rfl ?_
              refine ms_bipush C (6 : Int32) dX10_weigh_188 (by decide) ?_
              refine ms_iload_n C dX10_weigh_190 5 rfl ?_
              refine ms_iload_n C dX10_weigh_191 6 rfl ?_
              refine ms_iload C dX10_weigh_192 0 rfl ?_
              refine ms_iconst C (0 : Int32) dX10_weigh_194 (by decide) ?_
              refine ms_iconst C (0 : Int32) dX10_weigh_195 (by decide) ?_
              refine ms_callVv (As := [.int (6 : Int32), .int a0, .int a1, .int v49, .int (0 : Int32), .int (0 : Int32)]) C dX10_weigh_196 (fun _ h => mtX10_keeps (xl X) (xg X) n M61 (6 : Int32) a0 a1 v49 (0 : Int32) (0 : Int32) h) (cwV 6 C.2.2.1 gX10_weigh_X10_keeps rfl rfl rfl (by decide +kernel) ⟨Nat.le_of_ble_eq_true rfl, Nat.le_of_ble_eq_true rfl⟩) (zz40 (G := xg X) Nat.one_pos) (T := TX10) rfl rfl rfl (Nat.le_of_ble_eq_true rfl) (fun M62 => ?_)
              refine ms_iload C dX10_weigh_199 0 rfl ?_
              exact ms_iretm C hR rfl dX10_weigh_201
          · refine ms_ldc C (-1000000002 : Int32) dX10_weigh_61 (by decide +kernel) ?_
            exact ms_iretm C hR rfl dX10_weigh_63
        · refine ms_ldc C (-1000000000 : Int32) dX10_weigh_37 (by decide +kernel) ?_
          exact ms_iretm C hR rfl dX10_weigh_39
def rmX10_undo : Room := { frames := 2, cells := 0, slots := 0, locals := 48 }
theorem inX10_X10_undo : ∀ w ∈ wsX100, w ∈ wsX10_undo := by decide +kernel
set_option maxRecDepth 100000 in
set_option maxHeartbeats 4000000 in
theorem mtX10_undo (l : Launch) (G : mh_G) (n : Nat) (M : mh_M) {z : mh_M × Int32} (ho : fX10_undo n M = some z) : Met l yX10_undo wsX10_undo rmX10_undo (mh_Pc G M [.ref (G.2.2 40 0)]) (mh_Q G z.1 (some (.int z.2))) 0 0 (mh_dom G) := by
  refine mh_met (cc := cX10_undo) (maxL := 5) (ret := (some .int)) (by decide) rfl (Nat.le_of_ble_eq_true rfl) ho ?_
  rintro X rfl rfl C hR
  show mh_W X rmX10_undo 5 _ z M 0 [(0, .ref (xad X 40 0))] []
  replace C : mh_C X rmX10_undo cX10_undo wsX10_undo RX10 5 := C
  unfold fX10_undo
  refine ms_aload_n C dX10_undo_0 0 rfl ?_
  refine ms_geti C dX10_undo_1 (zz40 (G := xg X) Nat.one_pos) (k := 19) (Nat.le_of_ble_eq_true rfl) rfl (Cn := RX10) (T := TX10) rfl inX10_X10_undo rfl (by decide +kernel) (fun v1 => ?_)
  refine ms_if_ne (tgt := 10) C dX10_undo_4 (by decide) (fun c2 => ?_) (fun c2 => ?_)
  · refine ms_aload_n C dX10_undo_10 0 rfl ?_
    refine ms_dup C dX10_undo_11 rfl ?_
    refine ms_geti C dX10_undo_12 (zz40 (G := xg X) Nat.one_pos) (k := 19) (Nat.le_of_ble_eq_true rfl) rfl (Cn := RX10) (T := TX10) rfl inX10_X10_undo rfl (by decide +kernel) (fun v3 => ?_)
    refine ms_iconst C (1 : Int32) dX10_undo_15 (by decide) ?_
    refine ms_isub C dX10_undo_16 (fun v4 => ?_)
    refine ms_puti C dX10_undo_17 tyX10 tyX10_ok nmX10 (zz40 (G := xg X) Nat.one_pos) (k := 19) (Nat.le_of_ble_eq_true rfl) rfl (Cn := RX10) (T := TX10) rfl inX10_X10_undo rfl (by decide +kernel) rfl (by decide +kernel) (fun M5 => ?_)
    refine ms_aload_n C dX10_undo_20 0 rfl ?_
    refine ms_getr C dX10_undo_21 (zz40 (G := xg X) Nat.one_pos) (k := 20) (Nat.le_of_ble_eq_true rfl) (b := xad X 61 0) rfl (Cn := RX10) (T := TX10) rfl inX10_X10_undo rfl (by decide +kernel) ?_
    refine ms_bipush C (6 : Int32) dX10_undo_24 (by decide) ?_
    refine ms_aload_n C dX10_undo_26 0 rfl ?_
    refine ms_geti C dX10_undo_27 (zz40 (G := xg X) Nat.one_pos) (k := 19) (Nat.le_of_ble_eq_true rfl) rfl (Cn := RX10) (T := TX10) rfl inX10_X10_undo rfl (by decide +kernel) (fun v6 => ?_)
    refine ms_imul C dX10_undo_30 (fun v7 => ?_)
    refine ms_ld C dX10_undo_31 (zz61 (G := xg X) Nat.one_pos) rfl (fun _ v8 => ?_)
    refine ms_istore_n (L' := [(1, .int v8), (0, .ref (xad X 40 0))]) C dX10_undo_32 rfl (by decide) rfl ?_
    refine ms_aload_n C dX10_undo_33 1 rfl ?_
    refine ms_getr C dX10_undo_34 (zz40 (G := xg X) Nat.one_pos) (k := 20) (Nat.le_of_ble_eq_true rfl) (b := xad X 61 0) rfl (Cn := RX10) (T := TX10) rfl inX10_X10_undo rfl (by decide +kernel) ?_
    refine ms_bipush C (6 : Int32) dX10_undo_37 (by decide) ?_
    refine ms_aload_n C dX10_undo_39 1 rfl ?_
    refine ms_geti C dX10_undo_40 (zz40 (G := xg X) Nat.one_pos) (k := 19) (Nat.le_of_ble_eq_true rfl) rfl (Cn := RX10) (T := TX10) rfl inX10_X10_undo rfl (by decide +kernel) (fun v9 => ?_)
    refine ms_imul C dX10_undo_43 (fun v10 => ?_)
    refine ms_iconst C (1 : Int32) dX10_undo_44 (by decide) ?_
    refine ms_iadd C dX10_undo_45 (fun v11 => ?_)
    refine ms_ld C dX10_undo_46 (zz61 (G := xg X) Nat.one_pos) rfl (fun _ v12 => ?_)
    refine ms_istore_n (L' := [(2, .int v12), (1, .int v8), (0, .ref (xad X 40 0))]) C dX10_undo_47 rfl (by decide) rfl ?_
    refine ms_aload_n C dX10_undo_48 2 rfl ?_
    refine ms_getr C dX10_undo_49 (zz40 (G := xg X) Nat.one_pos) (k := 20) (Nat.le_of_ble_eq_true rfl) (b := xad X 61 0) rfl (Cn := RX10) (T := TX10) rfl inX10_X10_undo rfl (by decide +kernel) ?_
    refine ms_bipush C (6 : Int32) dX10_undo_52 (by decide) ?_
    refine ms_aload_n C dX10_undo_54 2 rfl ?_
    refine ms_geti C dX10_undo_55 (zz40 (G := xg X) Nat.one_pos) (k := 19) (Nat.le_of_ble_eq_true rfl) rfl (Cn := RX10) (T := TX10) rfl inX10_X10_undo rfl (by decide +kernel) (fun v13 => ?_)
    refine ms_imul C dX10_undo_58 (fun v14 => ?_)
    refine ms_iconst C (2 : Int32) dX10_undo_59 (by decide) ?_
    refine ms_iadd C dX10_undo_60 (fun v15 => ?_)
    refine ms_ld C dX10_undo_61 (zz61 (G := xg X) Nat.one_pos) rfl (fun _ v16 => ?_)
    refine ms_istore_n (L' := [(3, .int v16), (2, .int v12), (1, .int v8), (0, .ref (xad X 40 0))]) C dX10_undo_62 rfl (by decide) rfl ?_
    refine ms_aload_n C dX10_undo_63 3 rfl ?_
    refine ms_getr C dX10_undo_64 (zz40 (G := xg X) Nat.one_pos) (k := 20) (Nat.le_of_ble_eq_true rfl) (b := xad X 61 0) rfl (Cn := RX10) (T := TX10) rfl inX10_X10_undo rfl (by decide +kernel) ?_
    refine ms_bipush C (6 : Int32) dX10_undo_67 (by decide) ?_
    refine ms_aload_n C dX10_undo_69 3 rfl ?_
    refine ms_geti C dX10_undo_70 (zz40 (G := xg X) Nat.one_pos) (k := 19) (Nat.le_of_ble_eq_true rfl) rfl (Cn := RX10) (T := TX10) rfl inX10_X10_undo rfl (by decide +kernel) (fun v17 => ?_)
    refine ms_imul C dX10_undo_73 (fun v18 => ?_)
    refine ms_iconst C (3 : Int32) dX10_undo_74 (by decide) ?_
    refine ms_iadd C dX10_undo_75 (fun v19 => ?_)
    refine ms_ld C dX10_undo_76 (zz61 (G := xg X) Nat.one_pos) rfl (fun _ v20 => ?_)
    refine ms_istore (L' := [(4, .int v20), (3, .int v16), (2, .int v12), (1, .int v8), (0, .ref (xad X 40 0))]) C dX10_undo_77 (by decide) rfl ?_
    refine ms_iload_n C dX10_undo_79 3 rfl ?_
    refine ms_if_ne (tgt := 94) C dX10_undo_80 (by decide) (fun c21 => ?_) (fun c21 => ?_)
    · refine ms_iload_n C dX10_undo_94 3 rfl ?_
      refine ms_iconst C (1 : Int32) dX10_undo_95 (by decide) ?_
      refine ms_icmp_ne (tgt := 111) C dX10_undo_96 (by decide) (fun c22 => ?_) (fun c22 => ?_)
      · refine ms_iload_n C dX10_undo_111 3 rfl ?_
        refine ms_iconst C (2 : Int32) dX10_undo_112 (by decide) ?_
        refine ms_icmp_ne (tgt := 128) C dX10_undo_113 (by decide) (fun c23 => ?_) (fun c23 => ?_)
        · refine ms_iload_n C dX10_undo_128 3 rfl ?_
          refine ms_iconst C (3 : Int32) dX10_undo_129 (by decide) ?_
          refine ms_icmp_ne (tgt := 160) C dX10_undo_130 (by decide) (fun c24 => ?_) (fun c24 => ?_)
          · refine ms_iload_n C dX10_undo_160 3 rfl ?_
            refine ms_bipush C (6 : Int32) dX10_undo_161 (by decide) ?_
            refine ms_icmp_ne (tgt := 215) C dX10_undo_163 (by decide) (fun c25 => ?_) (fun c25 => ?_)
            · refine ms_aload_n C dX10_undo_215 4 rfl ?_
              refine ms_iload_n C dX10_undo_216 2 rfl ?_
              refine ms_iload_n C dX10_undo_217 1 rfl ?_
              refine ms_iload_n C dX10_undo_218 3 rfl ?_
              refine ms_iconst C (4 : Int32) dX10_undo_219 (by decide) ?_
              refine ms_isub C dX10_undo_220 (fun v26 => ?_)
              refine ms_iload C dX10_undo_221 0 rfl ?_
              refine ms_ineg C dX10_undo_223 (fun v27 => ?_)
              refine ms_callVv (As := [.int v12, .int v16, .int v26, .int v27]) C dX10_undo_224 (fun _ h => mtX10_loses (xl X) (xg X) n M5 v12 v16 v26 v27 h) (cwV 4 C.2.2.1 gX10_undo_X10_loses rfl rfl rfl (by decide +kernel) ⟨Nat.le_of_ble_eq_true rfl, Nat.le_of_ble_eq_true rfl⟩) (zz40 (G := xg X) Nat.one_pos) (T := TX10) rfl rfl rfl (Nat.le_of_ble_eq_true rfl) (fun M28 => ?_)
              refine ms_iload_n C dX10_undo_227 3 rfl ?_
              exact ms_iretm C hR rfl dX10_undo_228
            · refine ms_aload_n C dX10_undo_166 4 rfl ?_
              refine ms_getr C dX10_undo_167 (zz40 (G := xg X) Nat.one_pos) (k := 10) (Nat.le_of_ble_eq_true rfl) (b := xad X 51 0) rfl (Cn := RX10) (T := TX10) rfl inX10_X10_undo rfl (by decide +kernel) ?_
              refine ms_bipush C (10 : Int32) dX10_undo_170 (by decide) ?_
              refine ms_iload_n C dX10_undo_172 2 rfl ?_
              refine ms_imul C dX10_undo_173 (fun v29 => ?_)
              refine ms_iload_n C dX10_undo_174 1 rfl ?_
              refine ms_iadd C dX10_undo_175 (fun v30 => ?_)
              refine ms_dup2 C dX10_undo_176 rfl rfl ?_
              refine ms_ld C dX10_undo_177 (zz51 (G := xg X) Nat.one_pos) rfl (fun _ v31 => ?_)
              refine ms_iload C dX10_undo_178 0 rfl ?_
              refine ms_iadd C dX10_undo_180 (fun v32 => ?_)
              refine ms_st C dX10_undo_181 (zz51 (G := xg X) Nat.one_pos) rfl (fun _ M33 => ?_)
              refine ms_aload_n C dX10_undo_182 4 rfl ?_
              refine ms_getr C dX10_undo_183 (zz40 (G := xg X) Nat.one_pos) (k := 17) (Nat.le_of_ble_eq_true rfl) (b := xad X 58 0) rfl (Cn := RX10) (T := TX10) rfl inX10_X10_undo rfl (by decide +kernel) ?_
              refine ms_iconst C (5 : Int32) dX10_undo_186 (by decide) ?_
              refine ms_iload_n C dX10_undo_187 1 rfl ?_
              refine ms_imul C dX10_undo_188 (fun v34 => ?_)
              refine ms_iconst C (3 : Int32) dX10_undo_189 (by decide) ?_
              refine ms_iadd C dX10_undo_190 (fun v35 => ?_)
              refine ms_dup2 C dX10_undo_191 rfl rfl ?_
              refine ms_ld C dX10_undo_192 (zz58 (G := xg X) Nat.one_pos) rfl (fun _ v36 => ?_)
              refine ms_iload C dX10_undo_193 0 rfl ?_
              refine ms_isub C dX10_undo_195 (fun v37 => ?_)
              refine ms_st C dX10_undo_196 (zz58 (G := xg X) Nat.one_pos) rfl (fun _ M38 => ?_)
              refine ms_aload_n C dX10_undo_197 4 rfl ?_
              refine ms_getr C dX10_undo_198 (zz40 (G := xg X) Nat.one_pos) (k := 13) (Nat.le_of_ble_eq_true rfl) (b := xad X 54 0) rfl (Cn := RX10) (T := TX10) rfl inX10_X10_undo rfl (by decide +kernel) ?_
              refine ms_aload_n C dX10_undo_201 4 rfl ?_
              refine ms_geti C dX10_undo_202 (zz40 (G := xg X) Nat.one_pos) (k := 11) (Nat.le_of_ble_eq_true rfl) rfl (Cn := RX10) (T := TX10) rfl inX10_X10_undo rfl (by decide +kernel) (fun v39 => ?_)
              refine ms_iload_n C dX10_undo_205 2 rfl ?_
              refine ms_iload_n C dX10_undo_206 1 rfl ?_
              refine ms_callSi (As := [.int v39, .int v12, .int v16]) C dX10_undo_207 (fun _ h => mtX10_at (xl X) (xg X) n M38 v39 v12 v16 h) (va_cwS 3 C.2.2.1 gX10_undo_X10_at rfl rfl rfl (by decide +kernel) ⟨Nat.le_of_ble_eq_true rfl, Nat.le_of_ble_eq_true rfl⟩) rfl rfl (Nat.le_of_ble_eq_true rfl) (fun v40 => ?_)
              refine ms_iconst C (0 : Int32) dX10_undo_210 (by decide) ?_
              refine ms_zst C dX10_undo_211 (zz54 (G := xg X) Nat.one_pos) rfl (fun _ M41 => ?_)
              refine ms_goto (tgt := 227) C dX10_undo_212 (by decide) ?_
              refine ms_iload_n C dX10_undo_227 3 rfl ?_
              exact ms_iretm C hR rfl dX10_undo_228
          · refine ms_aload_n C dX10_undo_133 4 rfl ?_
            refine ms_iload_n C dX10_undo_134 2 rfl ?_
            refine ms_iload_n C dX10_undo_135 1 rfl ?_
            refine ms_iload C dX10_undo_136 0 rfl ?_
            refine ms_ineg C dX10_undo_138 (fun v42 => ?_)
            refine ms_aload_n C dX10_undo_139 4 rfl ?_
            refine ms_getr C dX10_undo_140 (zz40 (G := xg X) Nat.one_pos) (k := 20) (Nat.le_of_ble_eq_true rfl) (b := xad X 61 0) rfl (Cn := RX10) (T := TX10) rfl inX10_X10_undo rfl (by decide +kernel) ?_
            refine ms_bipush C (6 : Int32) dX10_undo_143 (by decide) ?_
            refine ms_aload_n C dX10_undo_145 4 rfl ?_
            refine ms_geti C dX10_undo_146 (zz40 (G := xg X) Nat.one_pos) (k := 19) (Nat.le_of_ble_eq_true rfl) rfl (Cn := RX10) (T := TX10) rfl inX10_X10_undo rfl (by decide +kernel) (fun v43 => ?_)
            refine ms_imul C dX10_undo_149 (fun v44 => ?_)
            refine ms_iconst C (4 : Int32) dX10_undo_150 (by decide) ?_
            refine ms_iadd C dX10_undo_151 (fun v45 => ?_)
            refine ms_ld C dX10_undo_152 (zz61 (G := xg X) Nat.one_pos) rfl (fun _ v46 => ?_)
            refine ms_ineg C dX10_undo_153 (fun v47 => ?_)
            refine ms_callVv (As := [.int v12, .int v16, .int v42, .int v47]) C dX10_undo_154 (fun _ h => mtX10_sells (xl X) (xg X) n M5 v12 v16 v42 v47 h) (cwV 4 C.2.2.1 gX10_undo_X10_sells rfl rfl rfl (by decide +kernel) ⟨Nat.le_of_ble_eq_true rfl, Nat.le_of_ble_eq_true rfl⟩) (zz40 (G := xg X) Nat.one_pos) (T := TX10) rfl rfl rfl (Nat.le_of_ble_eq_true rfl) (fun M48 => ?_)
            refine ms_goto (tgt := 227) C dX10_undo_157 (by decide) ?_
            refine ms_iload_n C dX10_undo_227 3 rfl ?_
            exact ms_iretm C hR rfl dX10_undo_228
        · refine ms_aload_n C dX10_undo_116 4 rfl ?_
          refine ms_iload_n C dX10_undo_117 2 rfl ?_
          refine ms_iload_n C dX10_undo_118 1 rfl ?_
          refine ms_iload C dX10_undo_119 0 rfl ?_
          refine ms_ineg C dX10_undo_121 (fun v49 => ?_)
          refine ms_callVv (As := [.int v12, .int v16, .int v49]) C dX10_undo_122 (fun _ h => mtX10_lends (xl X) (xg X) n M5 v12 v16 v49 h) (cwV 3 C.2.2.1 gX10_undo_X10_lends rfl rfl rfl (by decide +kernel) ⟨Nat.le_of_ble_eq_true rfl, Nat.le_of_ble_eq_true rfl⟩) (zz40 (G := xg X) Nat.one_pos) (T := TX10) rfl rfl rfl (Nat.le_of_ble_eq_true rfl) (fun M50 => ?_)
          refine ms_goto (tgt := 227) C dX10_undo_125 (by decide) ?_
          refine ms_iload_n C dX10_undo_227 3 rfl ?_
          exact ms_iretm C hR rfl dX10_undo_228
      · refine ms_aload_n C dX10_undo_99 4 rfl ?_
        refine ms_iload_n C dX10_undo_100 2 rfl ?_
        refine ms_iload_n C dX10_undo_101 1 rfl ?_
        refine ms_iload C dX10_undo_102 0 rfl ?_
        refine ms_ineg C dX10_undo_104 (fun v51 => ?_)
        refine ms_callVv (As := [.int v12, .int v16, .int v51]) C dX10_undo_105 (fun _ h => mtX10_issues (xl X) (xg X) n M5 v12 v16 v51 h) (cwV 3 C.2.2.1 gX10_undo_X10_issues rfl rfl rfl (by decide +kernel) ⟨Nat.le_of_ble_eq_true rfl, Nat.le_of_ble_eq_true rfl⟩) (zz40 (G := xg X) Nat.one_pos) (T := TX10) rfl rfl rfl (Nat.le_of_ble_eq_true rfl) (fun M52 => ?_)
        refine ms_goto (tgt := 227) C dX10_undo_108 (by decide) ?_
        refine ms_iload_n C dX10_undo_227 3 rfl ?_
        exact ms_iretm C hR rfl dX10_undo_228
    · refine ms_aload_n C dX10_undo_83 4 rfl ?_
      refine ms_iload_n C dX10_undo_84 1 rfl ?_
      refine ms_iload C dX10_undo_85 0 rfl ?_
      refine ms_ineg C dX10_undo_87 (fun v53 => ?_)
      refine ms_callVv (As := [.int v16, .int v53]) C dX10_undo_88 (fun _ h => mtX10_receives (xl X) (xg X) n M5 v16 v53 h) (cwV 2 C.2.2.1 gX10_undo_X10_receives rfl rfl rfl (by decide +kernel) ⟨Nat.le_of_ble_eq_true rfl, Nat.le_of_ble_eq_true rfl⟩) (zz40 (G := xg X) Nat.one_pos) (T := TX10) rfl rfl rfl (Nat.le_of_ble_eq_true rfl) (fun M54 => ?_)
      refine ms_goto (tgt := 227) C dX10_undo_91 (by decide) ?_
      refine ms_iload_n C dX10_undo_227 3 rfl ?_
      exact ms_iretm C hR rfl dX10_undo_228
  · refine ms_bipush C (-2 : Int32) dX10_undo_7 (by decide) ?_
    exact ms_iretm C hR rfl dX10_undo_9
def rmX10_keeper : Room := { frames := 2, cells := 0, slots := 0, locals := 42 }
theorem inX10_X10_keeper : ∀ w ∈ wsX100, w ∈ wsX10_keeper := by decide +kernel
set_option maxRecDepth 100000 in
set_option maxHeartbeats 4000000 in
theorem mtX10_keeper (l : Launch) (G : mh_G) (n : Nat) (M : mh_M) (a0 : Int32) (a1 : Int32) {z : mh_M × Int32} (ho : fX10_keeper n M a0 a1 = some z) : Met l yX10_keeper wsX10_keeper rmX10_keeper (mh_Pc G M [.ref (G.2.2 40 0), .int a0, .int a1]) (mh_Q G z.1 (some (.int z.2))) 0 0 (mh_dom G) := by
  refine mh_met (cc := cX10_keeper) (maxL := 4) (ret := (some .int)) (by decide) rfl (Nat.le_of_ble_eq_true rfl) ho ?_
  rintro X rfl rfl C hR
  show mh_W X rmX10_keeper 4 _ z M 0 [(0, .ref (xad X 40 0)), (1, .int a0), (2, .int a1)] []
  replace C : mh_C X rmX10_keeper cX10_keeper wsX10_keeper RX10 4 := C
  unfold fX10_keeper
  refine ms_iload_n C dX10_keeper_0 1 rfl ?_
  refine ms_callSi (As := [.int a0]) C dX10_keeper_1 (fun _ h => mtX10_isBar (xl X) (xg X) n M a0 h) (va_cwS 1 C.2.2.1 gX10_keeper_X10_isBar rfl rfl rfl (by decide +kernel) ⟨Nat.le_of_ble_eq_true rfl, Nat.le_of_ble_eq_true rfl⟩) rfl rfl (Nat.le_of_ble_eq_true rfl) (fun v1 => ?_)
  refine ms_if_eq (tgt := 16) C dX10_keeper_4 (by decide) (fun c2 => ?_) (fun c2 => ?_)
  · refine ms_iconst C (-1 : Int32) dX10_keeper_16 (by decide) ?_
    exact ms_iretm C hR rfl dX10_keeper_17
  · refine ms_iload_n C dX10_keeper_7 2 rfl ?_
    refine ms_iconst C (0 : Int32) dX10_keeper_8 (by decide) ?_
    refine ms_iconst C (2 : Int32) dX10_keeper_9 (by decide) ?_
    refine ms_callSi (As := [.int a1, .int (0 : Int32), .int (2 : Int32)]) C dX10_keeper_10 (fun _ h => mtX10_in (xl X) (xg X) n M a1 (0 : Int32) (2 : Int32) h) (va_cwS 3 C.2.2.1 gX10_keeper_X10_in rfl rfl rfl (by decide +kernel) ⟨Nat.le_of_ble_eq_true rfl, Nat.le_of_ble_eq_true rfl⟩) rfl rfl (Nat.le_of_ble_eq_true rfl) (fun v3 => ?_)
    refine ms_if_ne (tgt := 18) C dX10_keeper_13 (by decide) (fun c4 => ?_) (fun c4 => ?_)
    · refine ms_aload_n C dX10_keeper_18 0 rfl ?_
      refine ms_getr C dX10_keeper_19 (zz40 (G := xg X) Nat.one_pos) (k := 16) (Nat.le_of_ble_eq_true rfl) (b := xad X 57 0) rfl (Cn := RX10) (T := TX10) rfl inX10_X10_keeper rfl (by decide +kernel) ?_
      refine ms_iconst C (2 : Int32) dX10_keeper_22 (by decide) ?_
      refine ms_aload_n C dX10_keeper_23 0 rfl ?_
      refine ms_geti C dX10_keeper_24 (zz40 (G := xg X) Nat.one_pos) (k := 11) (Nat.le_of_ble_eq_true rfl) rfl (Cn := RX10) (T := TX10) rfl inX10_X10_keeper rfl (by decide +kernel) (fun v5 => ?_)
      refine ms_imul C dX10_keeper_27 (fun v6 => ?_)
      refine ms_iload_n C dX10_keeper_28 1 rfl ?_
      refine ms_iadd C dX10_keeper_29 (fun v7 => ?_)
      refine ms_ld C dX10_keeper_30 (zz57 (G := xg X) Nat.one_pos) rfl (fun _ v8 => ?_)
      refine ms_istore_n (L' := [(3, .int v8), (0, .ref (xad X 40 0)), (1, .int a0), (2, .int a1)]) C dX10_keeper_31 rfl (by decide) rfl ?_
      refine ms_aload_n C dX10_keeper_32 1 rfl ?_
      refine ms_getr C dX10_keeper_33 (zz40 (G := xg X) Nat.one_pos) (k := 16) (Nat.le_of_ble_eq_true rfl) (b := xad X 57 0) rfl (Cn := RX10) (T := TX10) rfl inX10_X10_keeper rfl (by decide +kernel) ?_
      refine ms_iconst C (2 : Int32) dX10_keeper_36 (by decide) ?_
      refine ms_aload_n C dX10_keeper_37 1 rfl ?_
      refine ms_geti C dX10_keeper_38 (zz40 (G := xg X) Nat.one_pos) (k := 11) (Nat.le_of_ble_eq_true rfl) rfl (Cn := RX10) (T := TX10) rfl inX10_X10_keeper rfl (by decide +kernel) (fun v9 => ?_)
      refine ms_imul C dX10_keeper_41 (fun v10 => ?_)
      refine ms_iload_n C dX10_keeper_42 2 rfl ?_
      refine ms_iadd C dX10_keeper_43 (fun v11 => ?_)
      refine ms_iload_n C dX10_keeper_44 3 rfl ?_
      refine ms_st C dX10_keeper_45 (zz57 (G := xg X) Nat.one_pos) rfl (fun _ M12 => ?_)
      refine ms_iload_n C dX10_keeper_46 0 rfl ?_
      exact ms_iretm C hR rfl dX10_keeper_47
    · refine ms_iconst C (-1 : Int32) dX10_keeper_16 (by decide) ?_
      exact ms_iretm C hR rfl dX10_keeper_17
def rmX10_night : Room := { frames := 0, cells := 0, slots := 0, locals := 0 }
theorem inX10_X10_night : ∀ w ∈ wsX100, w ∈ wsX10_night := by decide +kernel
set_option maxRecDepth 100000 in
set_option maxHeartbeats 4000000 in
theorem mtX10_night_L79 {X : mh_X} {n : Nat} {z : mh_M × Int32} (C : mh_C X rmX10_night cX10_night wsX10_night RX10 2) (hR : mh_R X (some .int) z.1 (some (.int z.2))) : ∀ (k : Nat) (M : mh_M) (x1 : Int32), mh_W X rmX10_night 2 (itr2 (fX10_night_L79 n) k M x1) z M 79 [(0, .ref (xad X 40 0)), (1, .int x1)] [] := by
  intro k
  induction k with
  | zero =>
    intro M x1
    exact ms_none
  | succ k ih =>
    intro M x1
    show mh_W X rmX10_night 2 (fX10_night_L79 n (itr2 (fX10_night_L79 n) k) M x1) z M 79 [(0, .ref (xad X 40 0)), (1, .int x1)] []
    generalize itr2 (fX10_night_L79 n) k = rec at ih ⊢
    unfold fX10_night_L79
    refine ms_iload_n C dX10_night_79 1 rfl ?_
    refine ms_bipush C (12 : Int32) dX10_night_80 (by decide) ?_
    refine ms_icmp_ge (tgt := 98) C dX10_night_82 (by decide) (fun c22 => ?_) (fun c22 => ?_)
    · refine ms_aload_n C dX10_night_98 0 rfl ?_
      refine ms_geti C dX10_night_99 (zz40 (G := xg X) Nat.one_pos) (k := 11) (Nat.le_of_ble_eq_true rfl) rfl (Cn := RX10) (T := TX10) rfl inX10_X10_night rfl (by decide +kernel) (fun v23 => ?_)
      exact ms_iretm C hR rfl dX10_night_102
    · refine ms_aload_n C dX10_night_85 0 rfl ?_
      refine ms_getr C dX10_night_86 (zz40 (G := xg X) Nat.one_pos) (k := 7) (Nat.le_of_ble_eq_true rfl) (b := xad X 48 0) rfl (Cn := RX10) (T := TX10) rfl inX10_X10_night rfl (by decide +kernel) ?_
      refine ms_iload_n C dX10_night_89 1 rfl ?_
      refine ms_iconst C (0 : Int32) dX10_night_90 (by decide) ?_
      refine ms_zst C dX10_night_91 (zz48 (G := xg X) Nat.one_pos) rfl (fun _ M24 => ?_)
      refine ms_iinc (L' := fun v25 => [(1, .int v25), (0, .ref (xad X 40 0))]) C dX10_night_92 1 rfl (c := 1) (by decide) (by decide) (fun _ => rfl) (fun v25 => ?_)
      refine ms_goto (tgt := 79) C dX10_night_95 (by decide) ?_
      exact ms_sub [1, 0] rfl (ih M24 v25)
set_option maxRecDepth 100000 in
set_option maxHeartbeats 4000000 in
theorem mtX10_night (l : Launch) (G : mh_G) (n : Nat) (M : mh_M) {z : mh_M × Int32} (ho : fX10_night n M = some z) : Met l yX10_night wsX10_night rmX10_night (mh_Pc G M [.ref (G.2.2 40 0)]) (mh_Q G z.1 (some (.int z.2))) 0 0 (mh_dom G) := by
  refine mh_met (cc := cX10_night) (maxL := 2) (ret := (some .int)) (by decide) rfl (Nat.le_of_ble_eq_true rfl) ho ?_
  rintro X rfl rfl C hR
  show mh_W X rmX10_night 2 _ z M 0 [(0, .ref (xad X 40 0))] []
  replace C : mh_C X rmX10_night cX10_night wsX10_night RX10 2 := C
  unfold fX10_night
  refine ms_aload_n C dX10_night_0 0 rfl ?_
  refine ms_geti C dX10_night_1 (zz40 (G := xg X) Nat.one_pos) (k := 11) (Nat.le_of_ble_eq_true rfl) rfl (Cn := RX10) (T := TX10) rfl inX10_X10_night rfl (by decide +kernel) (fun v1 => ?_)
  refine ms_bipush C (19 : Int32) dX10_night_4 (by decide) ?_
  refine ms_icmp_ne (tgt := 12) C dX10_night_6 (by decide) (fun c2 => ?_) (fun c2 => ?_)
  · refine ms_aload_n C dX10_night_12 0 rfl ?_
    refine ms_dup C dX10_night_13 rfl ?_
    refine ms_geti C dX10_night_14 (zz40 (G := xg X) Nat.one_pos) (k := 11) (Nat.le_of_ble_eq_true rfl) rfl (Cn := RX10) (T := TX10) rfl inX10_X10_night rfl (by decide +kernel) (fun v3 => ?_)
    refine ms_iconst C (1 : Int32) dX10_night_17 (by decide) ?_
    refine ms_iadd C dX10_night_18 (fun v4 => ?_)
    refine ms_puti C dX10_night_19 tyX10 tyX10_ok nmX10 (zz40 (G := xg X) Nat.one_pos) (k := 11) (Nat.le_of_ble_eq_true rfl) rfl (Cn := RX10) (T := TX10) rfl inX10_X10_night rfl (by decide +kernel) rfl (by decide +kernel) (fun M5 => ?_)
    refine ms_aload_n C dX10_night_22 0 rfl ?_
    refine ms_getr C dX10_night_23 (zz40 (G := xg X) Nat.one_pos) (k := 16) (Nat.le_of_ble_eq_true rfl) (b := xad X 57 0) rfl (Cn := RX10) (T := TX10) rfl inX10_X10_night rfl (by decide +kernel) ?_
    refine ms_iconst C (2 : Int32) dX10_night_26 (by decide) ?_
    refine ms_aload_n C dX10_night_27 0 rfl ?_
    refine ms_geti C dX10_night_28 (zz40 (G := xg X) Nat.one_pos) (k := 11) (Nat.le_of_ble_eq_true rfl) rfl (Cn := RX10) (T := TX10) rfl inX10_X10_night rfl (by decide +kernel) (fun v6 => ?_)
    refine ms_imul C dX10_night_31 (fun v7 => ?_)
    refine ms_aload_n C dX10_night_32 0 rfl ?_
    refine ms_getr C dX10_night_33 (zz40 (G := xg X) Nat.one_pos) (k := 16) (Nat.le_of_ble_eq_true rfl) (b := xad X 57 0) rfl (Cn := RX10) (T := TX10) rfl inX10_X10_night rfl (by decide +kernel) ?_
    refine ms_iconst C (2 : Int32) dX10_night_36 (by decide) ?_
    refine ms_aload_n C dX10_night_37 0 rfl ?_
    refine ms_geti C dX10_night_38 (zz40 (G := xg X) Nat.one_pos) (k := 11) (Nat.le_of_ble_eq_true rfl) rfl (Cn := RX10) (T := TX10) rfl inX10_X10_night rfl (by decide +kernel) (fun v8 => ?_)
    refine ms_imul C dX10_night_41 (fun v9 => ?_)
    refine ms_iconst C (2 : Int32) dX10_night_42 (by decide) ?_
    refine ms_isub C dX10_night_43 (fun v10 => ?_)
    refine ms_ld C dX10_night_44 (zz57 (G := xg X) Nat.one_pos) rfl (fun _ v11 => ?_)
    refine ms_st C dX10_night_45 (zz57 (G := xg X) Nat.one_pos) rfl (fun _ M12 => ?_)
    refine ms_aload_n C dX10_night_46 0 rfl ?_
    refine ms_getr C dX10_night_47 (zz40 (G := xg X) Nat.one_pos) (k := 16) (Nat.le_of_ble_eq_true rfl) (b := xad X 57 0) rfl (Cn := RX10) (T := TX10) rfl inX10_X10_night rfl (by decide +kernel) ?_
    refine ms_iconst C (2 : Int32) dX10_night_50 (by decide) ?_
    refine ms_aload_n C dX10_night_51 0 rfl ?_
    refine ms_geti C dX10_night_52 (zz40 (G := xg X) Nat.one_pos) (k := 11) (Nat.le_of_ble_eq_true rfl) rfl (Cn := RX10) (T := TX10) rfl inX10_X10_night rfl (by decide +kernel) (fun v13 => ?_)
    refine ms_imul C dX10_night_55 (fun v14 => ?_)
    refine ms_iconst C (1 : Int32) dX10_night_56 (by decide) ?_
    refine ms_iadd C dX10_night_57 (fun v15 => ?_)
    refine ms_aload_n C dX10_night_58 0 rfl ?_
    refine ms_getr C dX10_night_59 (zz40 (G := xg X) Nat.one_pos) (k := 16) (Nat.le_of_ble_eq_true rfl) (b := xad X 57 0) rfl (Cn := RX10) (T := TX10) rfl inX10_X10_night rfl (by decide +kernel) ?_
    refine ms_iconst C (2 : Int32) dX10_night_62 (by decide) ?_
    refine ms_aload_n C dX10_night_63 0 rfl ?_
    refine ms_geti C dX10_night_64 (zz40 (G := xg X) Nat.one_pos) (k := 11) (Nat.le_of_ble_eq_true rfl) rfl (Cn := RX10) (T := TX10) rfl inX10_X10_night rfl (by decide +kernel) (fun v16 => ?_)
    refine ms_imul C dX10_night_67 (fun v17 => ?_)
    refine ms_iconst C (1 : Int32) dX10_night_68 (by decide) ?_
    refine ms_isub C dX10_night_69 (fun v18 => ?_)
    refine ms_ld C dX10_night_70 (zz57 (G := xg X) Nat.one_pos) rfl (fun _ v19 => ?_)
    refine ms_st C dX10_night_71 (zz57 (G := xg X) Nat.one_pos) rfl (fun _ M20 => ?_)
    refine ms_aload_n C dX10_night_72 0 rfl ?_
    refine ms_iconst C (0 : Int32) dX10_night_73 (by decide) ?_
    refine ms_puti C dX10_night_74 tyX10 tyX10_ok nmX10 (zz40 (G := xg X) Nat.one_pos) (k := 19) (Nat.le_of_ble_eq_true rfl) rfl (Cn := RX10) (T := TX10) rfl inX10_X10_night rfl (by decide +kernel) rfl (by decide +kernel) (fun M21 => ?_)
    refine ms_iconst C (0 : Int32) dX10_night_77 (by decide) ?_
    refine ms_istore_n (L' := [(1, .int (0 : Int32)), (0, .ref (xad X 40 0))]) C dX10_night_78 rfl (by decide) rfl ?_
    exact ms_sub [1, 0] rfl (mtX10_night_L79 (n := n) C hR n M21 (0 : Int32))
  · refine ms_bipush C (-3 : Int32) dX10_night_9 (by decide) ?_
    exact ms_iretm C hR rfl dX10_night_11
def rmX10_has : Room := { frames := 2, cells := 0, slots := 0, locals := 43 }
theorem inX10_X10_has : ∀ w ∈ wsX100, w ∈ wsX10_has := by decide +kernel
set_option maxRecDepth 100000 in
set_option maxHeartbeats 4000000 in
theorem mtX10_has (l : Launch) (G : mh_G) (n : Nat) (M : mh_M) (a0 : Int32) (a1 : Int32) {z : Int32} (ho : fX10_has n M a0 a1 = some z) : Met l yX10_has wsX10_has rmX10_has (mh_Pc G M [.ref (G.2.2 40 0), .int a0, .int a1]) (mh_Q G M (some (.int z))) 0 0 (mh_dom G) := by
  refine mh_met (cc := cX10_has) (maxL := 3) (ret := (some .int)) (by decide) rfl (Nat.le_of_ble_eq_true rfl) ho ?_
  rintro X rfl rfl C hR
  show mh_W X rmX10_has 3 _ z M 0 [(0, .ref (xad X 40 0)), (1, .int a0), (2, .int a1)] []
  replace C : mh_C X rmX10_has cX10_has wsX10_has RX10 3 := C
  unfold fX10_has
  refine ms_iload_n C dX10_has_0 1 rfl ?_
  refine ms_iconst C (0 : Int32) dX10_has_1 (by decide) ?_
  refine ms_iconst C (2 : Int32) dX10_has_2 (by decide) ?_
  refine ms_callSi (As := [.int a0, .int (0 : Int32), .int (2 : Int32)]) C dX10_has_3 (fun _ h => mtX10_in (xl X) (xg X) n M a0 (0 : Int32) (2 : Int32) h) (va_cwS 3 C.2.2.1 gX10_has_X10_in rfl rfl rfl (by decide +kernel) ⟨Nat.le_of_ble_eq_true rfl, Nat.le_of_ble_eq_true rfl⟩) rfl rfl (Nat.le_of_ble_eq_true rfl) (fun v1 => ?_)
  refine ms_if_eq (tgt := 17) C dX10_has_6 (by decide) (fun c2 => ?_) (fun c2 => ?_)
  · refine ms_ldc C (-1000000000 : Int32) dX10_has_17 (by decide +kernel) ?_
    exact ms_ireti C hR rfl rfl dX10_has_19
  · refine ms_aload_n C dX10_has_9 0 rfl ?_
    refine ms_iload_n C dX10_has_10 2 rfl ?_
    refine ms_callVi (As := [.int a1]) C dX10_has_11 (fun _ h => mtX10_isKind (xl X) (xg X) n M a1 h) (cwV 1 C.2.2.1 gX10_has_X10_isKind rfl rfl rfl (by decide +kernel) ⟨Nat.le_of_ble_eq_true rfl, Nat.le_of_ble_eq_true rfl⟩) (zz40 (G := xg X) Nat.one_pos) (T := TX10) rfl rfl rfl (Nat.le_of_ble_eq_true rfl) (fun v3 => ?_)
    refine ms_if_ne (tgt := 20) C dX10_has_14 (by decide) (fun c4 => ?_) (fun c4 => ?_)
    · refine ms_iload_n C dX10_has_20 1 rfl ?_
      refine ms_iconst C (2 : Int32) dX10_has_21 (by decide) ?_
      refine ms_icmp_ne (tgt := 34) C dX10_has_22 (by decide) (fun c5 => ?_) (fun c5 => ?_)
      · refine ms_aload_n C dX10_has_34 0 rfl ?_
        refine ms_getr C dX10_has_35 (zz40 (G := xg X) Nat.one_pos) (k := 10) (Nat.le_of_ble_eq_true rfl) (b := xad X 51 0) rfl (Cn := RX10) (T := TX10) rfl inX10_X10_has rfl (by decide +kernel) ?_
        refine ms_bipush C (10 : Int32) dX10_has_38 (by decide) ?_
        refine ms_iload_n C dX10_has_40 1 rfl ?_
        refine ms_imul C dX10_has_41 (fun v6 => ?_)
        refine ms_iload_n C dX10_has_42 2 rfl ?_
        refine ms_iadd C dX10_has_43 (fun v7 => ?_)
        refine ms_ld C dX10_has_44 (zz51 (G := xg X) Nat.one_pos) rfl (fun _ v8 => ?_)
        exact ms_ireti C hR rfl rfl dX10_has_45
      · refine ms_aload_n C dX10_has_25 0 rfl ?_
        refine ms_getr C dX10_has_26 (zz40 (G := xg X) Nat.one_pos) (k := 9) (Nat.le_of_ble_eq_true rfl) (b := xad X 50 0) rfl (Cn := RX10) (T := TX10) rfl inX10_X10_has rfl (by decide +kernel) ?_
        refine ms_iload_n C dX10_has_29 2 rfl ?_
        refine ms_ld C dX10_has_30 (zz50 (G := xg X) Nat.one_pos) rfl (fun _ v9 => ?_)
        refine ms_goto (tgt := 45) C dX10_has_31 (by decide) ?_
        exact ms_ireti C hR rfl rfl dX10_has_45
    · refine ms_ldc C (-1000000000 : Int32) dX10_has_17 (by decide +kernel) ?_
      exact ms_ireti C hR rfl rfl dX10_has_19
def rmX10_all : Room := { frames := 2, cells := 0, slots := 0, locals := 43 }
theorem inX10_X10_all : ∀ w ∈ wsX100, w ∈ wsX10_all := by decide +kernel
set_option maxRecDepth 100000 in
set_option maxHeartbeats 4000000 in
theorem mtX10_all (l : Launch) (G : mh_G) (n : Nat) (M : mh_M) (a0 : Int32) (a1 : Int32) {z : Int32} (ho : fX10_all n M a0 a1 = some z) : Met l yX10_all wsX10_all rmX10_all (mh_Pc G M [.ref (G.2.2 40 0), .int a0, .int a1]) (mh_Q G M (some (.int z))) 0 0 (mh_dom G) := by
  refine mh_met (cc := cX10_all) (maxL := 3) (ret := (some .int)) (by decide) rfl (Nat.le_of_ble_eq_true rfl) ho ?_
  rintro X rfl rfl C hR
  show mh_W X rmX10_all 3 _ z M 0 [(0, .ref (xad X 40 0)), (1, .int a0), (2, .int a1)] []
  replace C : mh_C X rmX10_all cX10_all wsX10_all RX10 3 := C
  unfold fX10_all
  refine ms_aload_n C dX10_all_0 0 rfl ?_
  refine ms_iload_n C dX10_all_1 1 rfl ?_
  refine ms_callVi (As := [.int a0]) C dX10_all_2 (fun _ h => mtX10_isKind (xl X) (xg X) n M a0 h) (cwV 1 C.2.2.1 gX10_all_X10_isKind rfl rfl rfl (by decide +kernel) ⟨Nat.le_of_ble_eq_true rfl, Nat.le_of_ble_eq_true rfl⟩) (zz40 (G := xg X) Nat.one_pos) (T := TX10) rfl rfl rfl (Nat.le_of_ble_eq_true rfl) (fun v1 => ?_)
  refine ms_if_eq (tgt := 30) C dX10_all_5 (by decide) (fun c2 => ?_) (fun c2 => ?_)
  · refine ms_ldc C (-1000000000 : Int32) dX10_all_30 (by decide +kernel) ?_
    exact ms_ireti C hR rfl rfl dX10_all_32
  · refine ms_iload_n C dX10_all_8 2 rfl ?_
    refine ms_iconst C (0 : Int32) dX10_all_9 (by decide) ?_
    refine ms_iconst C (4 : Int32) dX10_all_10 (by decide) ?_
    refine ms_callSi (As := [.int a1, .int (0 : Int32), .int (4 : Int32)]) C dX10_all_11 (fun _ h => mtX10_in (xl X) (xg X) n M a1 (0 : Int32) (4 : Int32) h) (va_cwS 3 C.2.2.1 gX10_all_X10_in rfl rfl rfl (by decide +kernel) ⟨Nat.le_of_ble_eq_true rfl, Nat.le_of_ble_eq_true rfl⟩) rfl rfl (Nat.le_of_ble_eq_true rfl) (fun v3 => ?_)
    refine ms_if_eq (tgt := 30) C dX10_all_14 (by decide) (fun c4 => ?_) (fun c4 => ?_)
    · refine ms_ldc C (-1000000000 : Int32) dX10_all_30 (by decide +kernel) ?_
      exact ms_ireti C hR rfl rfl dX10_all_32
    · refine ms_aload_n C dX10_all_17 0 rfl ?_
      refine ms_getr C dX10_all_18 (zz40 (G := xg X) Nat.one_pos) (k := 17) (Nat.le_of_ble_eq_true rfl) (b := xad X 58 0) rfl (Cn := RX10) (T := TX10) rfl inX10_X10_all rfl (by decide +kernel) ?_
      refine ms_iconst C (5 : Int32) dX10_all_21 (by decide) ?_
      refine ms_iload_n C dX10_all_22 1 rfl ?_
      refine ms_imul C dX10_all_23 (fun v5 => ?_)
      refine ms_iload_n C dX10_all_24 2 rfl ?_
      refine ms_iadd C dX10_all_25 (fun v6 => ?_)
      refine ms_ld C dX10_all_26 (zz58 (G := xg X) Nat.one_pos) rfl (fun _ v7 => ?_)
      refine ms_goto (tgt := 32) C dX10_all_27 (by decide) ?_
      exact ms_ireti C hR rfl rfl dX10_all_32
def rmX10_spanOf : Room := { frames := 1, cells := 0, slots := 0, locals := 22 }
theorem inX10_X10_spanOf : ∀ w ∈ wsX100, w ∈ wsX10_spanOf := by decide +kernel
set_option maxRecDepth 100000 in
set_option maxHeartbeats 4000000 in
theorem mtX10_spanOf (l : Launch) (G : mh_G) (n : Nat) (M : mh_M) (a0 : Int32) {z : Int32} (ho : fX10_spanOf n M a0 = some z) : Met l yX10_spanOf wsX10_spanOf rmX10_spanOf (mh_Pc G M [.ref (G.2.2 40 0), .int a0]) (mh_Q G M (some (.int z))) 0 0 (mh_dom G) := by
  refine mh_met (cc := cX10_spanOf) (maxL := 2) (ret := (some .int)) (by decide) rfl (Nat.le_of_ble_eq_true rfl) ho ?_
  rintro X rfl rfl C hR
  show mh_W X rmX10_spanOf 2 _ z M 0 [(0, .ref (xad X 40 0)), (1, .int a0)] []
  replace C : mh_C X rmX10_spanOf cX10_spanOf wsX10_spanOf RX10 2 := C
  unfold fX10_spanOf
  refine ms_aload_n C dX10_spanOf_0 0 rfl ?_
  refine ms_getr C dX10_spanOf_1 (zz40 (G := xg X) Nat.one_pos) (k := 13) (Nat.le_of_ble_eq_true rfl) (b := xad X 54 0) rfl (Cn := RX10) (T := TX10) rfl inX10_X10_spanOf rfl (by decide +kernel) ?_
  refine ms_iload_n C dX10_spanOf_4 1 rfl ?_
  refine ms_zld C dX10_spanOf_5 (zz54 (G := xg X) Nat.one_pos) rfl (fun _ v1 => ?_)
  refine ms_if_eq (tgt := 18) C dX10_spanOf_6 (by decide) (fun c2 => ?_) (fun c2 => ?_)
  · refine ms_aload_n C dX10_spanOf_18 0 rfl ?_
    refine ms_iload_n C dX10_spanOf_19 1 rfl ?_
    refine ms_callVi (As := [.int a0]) C dX10_spanOf_20 (fun _ h => mtX10_spanNow (xl X) (xg X) n M a0 h) (cwV 1 C.2.2.1 gX10_spanOf_X10_spanNow rfl rfl rfl (by decide +kernel) ⟨Nat.le_of_ble_eq_true rfl, Nat.le_of_ble_eq_true rfl⟩) (zz40 (G := xg X) Nat.one_pos) (T := TX10) rfl rfl rfl (Nat.le_of_ble_eq_true rfl) (fun v3 => ?_)
    exact ms_ireti C hR rfl rfl dX10_spanOf_23
  · refine ms_aload_n C dX10_spanOf_9 0 rfl ?_
    refine ms_getr C dX10_spanOf_10 (zz40 (G := xg X) Nat.one_pos) (k := 15) (Nat.le_of_ble_eq_true rfl) (b := xad X 56 0) rfl (Cn := RX10) (T := TX10) rfl inX10_X10_spanOf rfl (by decide +kernel) ?_
    refine ms_iload_n C dX10_spanOf_13 1 rfl ?_
    refine ms_ld C dX10_spanOf_14 (zz56 (G := xg X) Nat.one_pos) rfl (fun _ v4 => ?_)
    refine ms_goto (tgt := 23) C dX10_spanOf_15 (by decide) ?_
    exact ms_ireti C hR rfl rfl dX10_spanOf_23
def rmX10_isTold : Room := { frames := 2, cells := 0, slots := 0, locals := 43 }
theorem inX10_X10_isTold : ∀ w ∈ wsX100, w ∈ wsX10_isTold := by decide +kernel
set_option maxRecDepth 100000 in
set_option maxHeartbeats 4000000 in
theorem mtX10_isTold (l : Launch) (G : mh_G) (n : Nat) (M : mh_M) (a0 : Int32) {z : Int32} (ho : fX10_isTold n M a0 = some z) : Met l yX10_isTold wsX10_isTold rmX10_isTold (mh_Pc G M [.ref (G.2.2 40 0), .int a0]) (mh_Q G M (some (.int z))) 0 0 (mh_dom G) := by
  refine mh_met (cc := cX10_isTold) (maxL := 3) (ret := (some .boolean)) (by decide) rfl (Nat.le_of_ble_eq_true rfl) ho ?_
  rintro X rfl rfl C hR
  show mh_W X rmX10_isTold 3 _ z M 0 [(0, .ref (xad X 40 0)), (1, .int a0)] []
  replace C : mh_C X rmX10_isTold cX10_isTold wsX10_isTold RX10 3 := C
  unfold fX10_isTold
  refine ms_aload_n C dX10_isTold_0 0 rfl ?_
  refine ms_getr C dX10_isTold_1 (zz40 (G := xg X) Nat.one_pos) (k := 12) (Nat.le_of_ble_eq_true rfl) (b := xad X 53 0) rfl (Cn := RX10) (T := TX10) rfl inX10_X10_isTold rfl (by decide +kernel) ?_
  refine ms_iload_n C dX10_isTold_4 1 rfl ?_
  refine ms_ld C dX10_isTold_5 (zz53 (G := xg X) Nat.one_pos) rfl (fun _ v1 => ?_)
  refine ms_if_ge (tgt := 19) C dX10_isTold_6 (by decide) (fun c2 => ?_) (fun c2 => ?_)
  · refine ms_aload_n C dX10_isTold_19 0 rfl ?_
    refine ms_getr C dX10_isTold_20 (zz40 (G := xg X) Nat.one_pos) (k := 12) (Nat.le_of_ble_eq_true rfl) (b := xad X 53 0) rfl (Cn := RX10) (T := TX10) rfl inX10_X10_isTold rfl (by decide +kernel) ?_
    refine ms_iload_n C dX10_isTold_23 1 rfl ?_
    refine ms_ld C dX10_isTold_24 (zz53 (G := xg X) Nat.one_pos) rfl (fun _ v3 => ?_)
    refine ms_istore_n (L' := [(2, .int v3), (0, .ref (xad X 40 0)), (1, .int a0)]) C dX10_isTold_25 rfl (by decide) rfl ?_
    refine ms_aload_n C dX10_isTold_26 1 rfl ?_
    refine ms_getr C dX10_isTold_27 (zz40 (G := xg X) Nat.one_pos) (k := 13) (Nat.le_of_ble_eq_true rfl) (b := xad X 54 0) rfl (Cn := RX10) (T := TX10) rfl inX10_X10_isTold rfl (by decide +kernel) ?_
    refine ms_iload_n C dX10_isTold_30 2 rfl ?_
    refine ms_zld C dX10_isTold_31 (zz54 (G := xg X) Nat.one_pos) rfl (fun _ v4 => ?_)
    refine ms_if_eq (tgt := 48) C dX10_isTold_32 (by decide) (fun c5 => ?_) (fun c5 => ?_)
    · refine ms_iconst C (0 : Int32) dX10_isTold_48 (by decide) ?_
      exact ms_ireti C hR rfl rfl dX10_isTold_49
    · refine ms_iload_n C dX10_isTold_35 0 rfl ?_
      refine ms_aload_n C dX10_isTold_36 1 rfl ?_
      refine ms_iload_n C dX10_isTold_37 2 rfl ?_
      refine ms_callVi (As := [.int a0]) C dX10_isTold_38 (fun _ h => mtX10_spanOf (xl X) (xg X) n M a0 h) (cwV 1 C.2.2.1 gX10_isTold_X10_spanOf rfl rfl rfl (by decide +kernel) ⟨Nat.le_of_ble_eq_true rfl, Nat.le_of_ble_eq_true rfl⟩) (zz40 (G := xg X) Nat.one_pos) (T := TX10) rfl rfl rfl (Nat.le_of_ble_eq_true rfl) (fun v6 => ?_)
      refine ms_icmp_le (tgt := 48) C dX10_isTold_41 (by decide) (fun c7 => ?_) (fun c7 => ?_)
      · refine ms_iconst C (0 : Int32) dX10_isTold_48 (by decide) ?_
        exact ms_ireti C hR rfl rfl dX10_isTold_49
      · refine ms_iconst C (1 : Int32) dX10_isTold_44 (by decide) ?_
        refine ms_goto (tgt := 49) C dX10_isTold_45 (by decide) ?_
        exact ms_ireti C hR rfl rfl dX10_isTold_49
  · refine ms_aload_n C dX10_isTold_9 0 rfl ?_
    refine ms_getr C dX10_isTold_10 (zz40 (G := xg X) Nat.one_pos) (k := 12) (Nat.le_of_ble_eq_true rfl) (b := xad X 53 0) rfl (Cn := RX10) (T := TX10) rfl inX10_X10_isTold rfl (by decide +kernel) ?_
    refine ms_iload_n C dX10_isTold_13 1 rfl ?_
    refine ms_ld C dX10_isTold_14 (zz53 (G := xg X) Nat.one_pos) rfl (fun _ v8 => ?_)
    refine ms_ineg C dX10_isTold_15 (fun v9 => ?_)
    refine ms_goto (tgt := 25) C dX10_isTold_16 (by decide) ?_
    refine ms_istore_n (L' := [(2, .int v9), (0, .ref (xad X 40 0)), (1, .int a0)]) C dX10_isTold_25 rfl (by decide) rfl ?_
    refine ms_aload_n C dX10_isTold_26 1 rfl ?_
    refine ms_getr C dX10_isTold_27 (zz40 (G := xg X) Nat.one_pos) (k := 13) (Nat.le_of_ble_eq_true rfl) (b := xad X 54 0) rfl (Cn := RX10) (T := TX10) rfl inX10_X10_isTold rfl (by decide +kernel) ?_
    refine ms_iload_n C dX10_isTold_30 2 rfl ?_
    refine ms_zld C dX10_isTold_31 (zz54 (G := xg X) Nat.one_pos) rfl (fun _ v10 => ?_)
    refine ms_if_eq (tgt := 48) C dX10_isTold_32 (by decide) (fun c11 => ?_) (fun c11 => ?_)
    · refine ms_iconst C (0 : Int32) dX10_isTold_48 (by decide) ?_
      exact ms_ireti C hR rfl rfl dX10_isTold_49
    · refine ms_iload_n C dX10_isTold_35 0 rfl ?_
      refine ms_aload_n C dX10_isTold_36 1 rfl ?_
      refine ms_iload_n C dX10_isTold_37 2 rfl ?_
      refine ms_callVi (As := [.int a0]) C dX10_isTold_38 (fun _ h => mtX10_spanOf (xl X) (xg X) n M a0 h) (cwV 1 C.2.2.1 gX10_isTold_X10_spanOf rfl rfl rfl (by decide +kernel) ⟨Nat.le_of_ble_eq_true rfl, Nat.le_of_ble_eq_true rfl⟩) (zz40 (G := xg X) Nat.one_pos) (T := TX10) rfl rfl rfl (Nat.le_of_ble_eq_true rfl) (fun v12 => ?_)
      refine ms_icmp_le (tgt := 48) C dX10_isTold_41 (by decide) (fun c13 => ?_) (fun c13 => ?_)
      · refine ms_iconst C (0 : Int32) dX10_isTold_48 (by decide) ?_
        exact ms_ireti C hR rfl rfl dX10_isTold_49
      · refine ms_iconst C (1 : Int32) dX10_isTold_44 (by decide) ?_
        refine ms_goto (tgt := 49) C dX10_isTold_45 (by decide) ?_
        exact ms_ireti C hR rfl rfl dX10_isTold_49
def rmX10_gap : Room := { frames := 3, cells := 0, slots := 0, locals := 65 }
theorem inX10_X10_gap : ∀ w ∈ wsX100, w ∈ wsX10_gap := by decide +kernel
set_option maxRecDepth 100000 in
set_option maxHeartbeats 4000000 in
theorem mtX10_gap (l : Launch) (G : mh_G) (n : Nat) (M : mh_M) (a0 : Int32) (a1 : Int32) (a2 : Int32) (a3 : Int32) {z : Int32} (ho : fX10_gap n M a0 a1 a2 a3 = some z) : Met l yX10_gap wsX10_gap rmX10_gap (mh_Pc G M [.ref (G.2.2 40 0), .int a0, .int a1, .int a2, .int a3]) (mh_Q G M (some (.int z))) 0 0 (mh_dom G) := by
  refine mh_met (cc := cX10_gap) (maxL := 6) (ret := (some .int)) (by decide) rfl (Nat.le_of_ble_eq_true rfl) ho ?_
  rintro X rfl rfl C hR
  show mh_W X rmX10_gap 6 _ z M 0 [(0, .ref (xad X 40 0)), (1, .int a0), (2, .int a1), (3, .int a2), (4, .int a3)] []
  replace C : mh_C X rmX10_gap cX10_gap wsX10_gap RX10 6 := C
  unfold fX10_gap
  refine ms_iload_n C dX10_gap_0 1 rfl ?_
  refine ms_iconst C (0 : Int32) dX10_gap_1 (by decide) ?_
  refine ms_aload_n C dX10_gap_2 0 rfl ?_
  refine ms_geti C dX10_gap_3 (zz40 (G := xg X) Nat.one_pos) (k := 11) (Nat.le_of_ble_eq_true rfl) rfl (Cn := RX10) (T := TX10) rfl inX10_X10_gap rfl (by decide +kernel) (fun v1 => ?_)
  refine ms_callSi (As := [.int a0, .int (0 : Int32), .int v1]) C dX10_gap_6 (fun _ h => mtX10_in (xl X) (xg X) n M a0 (0 : Int32) v1 h) (va_cwS 3 C.2.2.1 gX10_gap_X10_in rfl rfl rfl (by decide +kernel) ⟨Nat.le_of_ble_eq_true rfl, Nat.le_of_ble_eq_true rfl⟩) rfl rfl (Nat.le_of_ble_eq_true rfl) (fun v2 => ?_)
  refine ms_if_eq (tgt := 37) C dX10_gap_9 (by decide) (fun c3 => ?_) (fun c3 => ?_)
  · refine ms_ldc C (-1000000000 : Int32) dX10_gap_37 (by decide +kernel) ?_
    exact ms_ireti C hR rfl rfl dX10_gap_39
  · refine ms_iload_n C dX10_gap_12 2 rfl ?_
    refine ms_callSi (As := [.int a1]) C dX10_gap_13 (fun _ h => mtX10_isBar (xl X) (xg X) n M a1 h) (va_cwS 1 C.2.2.1 gX10_gap_X10_isBar rfl rfl rfl (by decide +kernel) ⟨Nat.le_of_ble_eq_true rfl, Nat.le_of_ble_eq_true rfl⟩) rfl rfl (Nat.le_of_ble_eq_true rfl) (fun v4 => ?_)
    refine ms_if_eq (tgt := 37) C dX10_gap_16 (by decide) (fun c5 => ?_) (fun c5 => ?_)
    · refine ms_ldc C (-1000000000 : Int32) dX10_gap_37 (by decide +kernel) ?_
      exact ms_ireti C hR rfl rfl dX10_gap_39
    · refine ms_aload_n C dX10_gap_19 0 rfl ?_
      refine ms_iload_n C dX10_gap_20 3 rfl ?_
      refine ms_callVi (As := [.int a2]) C dX10_gap_21 (fun _ h => mtX10_isKind (xl X) (xg X) n M a2 h) (cwV 1 C.2.2.1 gX10_gap_X10_isKind rfl rfl rfl (by decide +kernel) ⟨Nat.le_of_ble_eq_true rfl, Nat.le_of_ble_eq_true rfl⟩) (zz40 (G := xg X) Nat.one_pos) (T := TX10) rfl rfl rfl (Nat.le_of_ble_eq_true rfl) (fun v6 => ?_)
      refine ms_if_eq (tgt := 37) C dX10_gap_24 (by decide) (fun c7 => ?_) (fun c7 => ?_)
      · refine ms_ldc C (-1000000000 : Int32) dX10_gap_37 (by decide +kernel) ?_
        exact ms_ireti C hR rfl rfl dX10_gap_39
      · refine ms_iload C dX10_gap_27 4 rfl ?_
        refine ms_iconst C (0 : Int32) dX10_gap_29 (by decide) ?_
        refine ms_iconst C (4 : Int32) dX10_gap_30 (by decide) ?_
        refine ms_callSi (As := [.int a3, .int (0 : Int32), .int (4 : Int32)]) C dX10_gap_31 (fun _ h => mtX10_in (xl X) (xg X) n M a3 (0 : Int32) (4 : Int32) h) (va_cwS 3 C.2.2.1 gX10_gap_X10_in rfl rfl rfl (by decide +kernel) ⟨Nat.le_of_ble_eq_true rfl, Nat.le_of_ble_eq_true rfl⟩) rfl rfl (Nat.le_of_ble_eq_true rfl) (fun v8 => ?_)
        refine ms_if_ne (tgt := 40) C dX10_gap_34 (by decide) (fun c9 => ?_) (fun c9 => ?_)
        · refine ms_iload_n C dX10_gap_40 1 rfl ?_
          refine ms_iload_n C dX10_gap_41 2 rfl ?_
          refine ms_iload_n C dX10_gap_42 3 rfl ?_
          refine ms_callSi (As := [.int a0, .int a1, .int a2]) C dX10_gap_43 (fun _ h => mtX10_at (xl X) (xg X) n M a0 a1 a2 h) (va_cwS 3 C.2.2.1 gX10_gap_X10_at rfl rfl rfl (by decide +kernel) ⟨Nat.le_of_ble_eq_true rfl, Nat.le_of_ble_eq_true rfl⟩) rfl rfl (Nat.le_of_ble_eq_true rfl) (fun v10 => ?_)
          refine ms_istore (L' := [(5, .int v10), (0, .ref (xad X 40 0)), (1, .int a0), (2, .int a1), (3, .int a2), (4, .int a3)]) C dX10_gap_46 (by decide) rfl ?_
          refine ms_iload C dX10_gap_48 5 rfl ?_
          refine ms_split (fun c11 => ?_) (fun c11 => ?_)
          · refine ms_tableIn (tgt := 80) C dX10_gap_50 (by rw [c11]; decide) (by rw [c11]; decide) (by rw [c11]; rfl) (by decide) ?_
            refine ms_aload_n C dX10_gap_80 1 rfl ?_
            refine ms_getr C dX10_gap_81 (zz40 (G := xg X) Nat.one_pos) (k := 13) (Nat.le_of_ble_eq_true rfl) (b := xad X 54 0) rfl (Cn := RX10) (T := TX10) rfl inX10_X10_gap rfl (by decide +kernel) ?_
            refine ms_iload C dX10_gap_84 0 rfl ?_
            refine ms_zld C dX10_gap_86 (zz54 (G := xg X) Nat.one_pos) rfl (fun _ v12 => ?_)
            refine ms_if_eq (tgt := 100) C dX10_gap_87 (by decide) (fun c13 => ?_) (fun c13 => ?_)
            · refine ms_ldc C (-1000000004 : Int32) dX10_gap_100 (by decide +kernel) ?_
              exact ms_ireti C hR rfl rfl dX10_gap_102
            · refine ms_aload_n C dX10_gap_90 1 rfl ?_
              refine ms_getr C dX10_gap_91 (zz40 (G := xg X) Nat.one_pos) (k := 12) (Nat.le_of_ble_eq_true rfl) (b := xad X 53 0) rfl (Cn := RX10) (T := TX10) rfl inX10_X10_gap rfl (by decide +kernel) ?_
              refine ms_iload C dX10_gap_94 0 rfl ?_
              refine ms_ld C dX10_gap_96 (zz53 (G := xg X) Nat.one_pos) rfl (fun _ v14 => ?_)
              refine ms_goto (tgt := 102) C dX10_gap_97 (by decide) ?_
              exact ms_ireti C hR rfl rfl dX10_gap_102
          refine ms_split (fun c15 => ?_) (fun c15 => ?_)
          · refine ms_tableIn (tgt := 103) C dX10_gap_50 (by rw [c15]; decide) (by rw [c15]; decide) (by rw [c15]; rfl) (by decide) ?_
            refine ms_aload_n C dX10_gap_103 1 rfl ?_
            refine ms_iload C dX10_gap_104 0 rfl ?_
            refine ms_callVi (As := [.int v10]) C dX10_gap_106 (fun _ h => mtX10_spanOf (xl X) (xg X) n M v10 h) (cwV 1 C.2.2.1 gX10_gap_X10_spanOf rfl rfl rfl (by decide +kernel) ⟨Nat.le_of_ble_eq_true rfl, Nat.le_of_ble_eq_true rfl⟩) (zz40 (G := xg X) Nat.one_pos) (T := TX10) rfl rfl rfl (Nat.le_of_ble_eq_true rfl) (fun v16 => ?_)
            exact ms_ireti C hR rfl rfl dX10_gap_109
          refine ms_split (fun c17 => ?_) (fun c17 => ?_)
          · refine ms_tableIn (tgt := 110) C dX10_gap_50 (by rw [c17]; decide) (by rw [c17]; decide) (by rw [c17]; rfl) (by decide) ?_
            refine ms_aload_n C dX10_gap_110 1 rfl ?_
            refine ms_iload C dX10_gap_111 0 rfl ?_
            refine ms_callVi (As := [.int v10]) C dX10_gap_113 (fun _ h => mtX10_isTold (xl X) (xg X) n M v10 h) (cwV 1 C.2.2.1 gX10_gap_X10_isTold rfl rfl rfl (by decide +kernel) ⟨Nat.le_of_ble_eq_true rfl, Nat.le_of_ble_eq_true rfl⟩) (zz40 (G := xg X) Nat.one_pos) (T := TX10) rfl rfl rfl (Nat.le_of_ble_eq_true rfl) (fun v18 => ?_)
            refine ms_if_eq (tgt := 123) C dX10_gap_116 (by decide) (fun c19 => ?_) (fun c19 => ?_)
            · refine ms_iconst C (0 : Int32) dX10_gap_123 (by decide) ?_
              exact ms_ireti C hR rfl rfl dX10_gap_124
            · refine ms_iconst C (1 : Int32) dX10_gap_119 (by decide) ?_
              refine ms_goto (tgt := 124) C dX10_gap_120 (by decide) ?_
              exact ms_ireti C hR rfl rfl dX10_gap_124
          refine ms_split (fun c20 => ?_) (fun c20 => ?_)
          · refine ms_tableIn (tgt := 125) C dX10_gap_50 (by rw [c20]; decide) (by rw [c20]; decide) (by rw [c20]; rfl) (by decide) ?_
            refine ms_aload_n C dX10_gap_125 1 rfl ?_
            refine ms_getr C dX10_gap_126 (zz40 (G := xg X) Nat.one_pos) (k := 14) (Nat.le_of_ble_eq_true rfl) (b := xad X 55 0) rfl (Cn := RX10) (T := TX10) rfl inX10_X10_gap rfl (by decide +kernel) ?_
            refine ms_iload C dX10_gap_129 0 rfl ?_
            refine ms_ld C dX10_gap_131 (zz55 (G := xg X) Nat.one_pos) rfl (fun _ v21 => ?_)
            exact ms_ireti C hR rfl rfl dX10_gap_132
          refine ms_tableOut (tgt := 133) C dX10_gap_50 (by have ec11 : ¬ a3.toInt = 0 := fun q => c11 (Int32.toInt_inj.mp q); have ec15 : ¬ a3.toInt = 1 := fun q => c15 (Int32.toInt_inj.mp q); have ec17 : ¬ a3.toInt = 2 := fun q => c17 (Int32.toInt_inj.mp q); have ec20 : ¬ a3.toInt = 3 := fun q => c20 (Int32.toInt_inj.mp q); omega) (by decide) ?_
          refine ms_aload_n C dX10_gap_133 1 rfl ?_
          refine ms_getr C dX10_gap_134 (zz40 (G := xg X) Nat.one_pos) (k := 16) (Nat.le_of_ble_eq_true rfl) (b := xad X 57 0) rfl (Cn := RX10) (T := TX10) rfl inX10_X10_gap rfl (by decide +kernel) ?_
          refine ms_iconst C (2 : Int32) dX10_gap_137 (by decide) ?_
          refine ms_iload_n C dX10_gap_138 2 rfl ?_
          refine ms_imul C dX10_gap_139 (fun v22 => ?_)
          refine ms_iload_n C dX10_gap_140 3 rfl ?_
          refine ms_iadd C dX10_gap_141 (fun v23 => ?_)
          refine ms_ld C dX10_gap_142 (zz57 (G := xg X) Nat.one_pos) rfl (fun _ v24 => ?_)
          exact ms_ireti C hR rfl rfl dX10_gap_143
        · refine ms_ldc C (-1000000000 : Int32) dX10_gap_37 (by decide +kernel) ?_
          exact ms_ireti C hR rfl rfl dX10_gap_39
def rmX10_counts : Room := { frames := 1, cells := 0, slots := 0, locals := 22 }
theorem inX10_X10_counts : ∀ w ∈ wsX100, w ∈ wsX10_counts := by decide +kernel
set_option maxRecDepth 100000 in
set_option maxHeartbeats 4000000 in
theorem mtX10_counts (l : Launch) (G : mh_G) (n : Nat) (M : mh_M) (a0 : Int32) (a1 : Int32) (a2 : Int32) (a3 : Int32) {z : Int32} (ho : fX10_counts n M a0 a1 a2 a3 = some z) : Met l yX10_counts wsX10_counts rmX10_counts (mh_Pc G M [.ref (G.2.2 40 0), .int a0, .int a1, .int a2, .int a3]) (mh_Q G M (some (.int z))) 0 0 (mh_dom G) := by
  refine mh_met (cc := cX10_counts) (maxL := 6) (ret := (some .boolean)) (by decide) rfl (Nat.le_of_ble_eq_true rfl) ho ?_
  rintro X rfl rfl C hR
  show mh_W X rmX10_counts 6 _ z M 0 [(0, .ref (xad X 40 0)), (1, .int a0), (2, .int a1), (3, .int a2), (4, .int a3)] []
  replace C : mh_C X rmX10_counts cX10_counts wsX10_counts RX10 6 := C
  unfold fX10_counts
  refine ms_iload_n C dX10_counts_0 1 rfl ?_
  refine ms_iload_n C dX10_counts_1 2 rfl ?_
  refine ms_iload C dX10_counts_2 4 rfl ?_
  refine ms_callSi (As := [.int a0, .int a1, .int a3]) C dX10_counts_4 (fun _ h => mtX10_at (xl X) (xg X) n M a0 a1 a3 h) (va_cwS 3 C.2.2.1 gX10_counts_X10_at rfl rfl rfl (by decide +kernel) ⟨Nat.le_of_ble_eq_true rfl, Nat.le_of_ble_eq_true rfl⟩) rfl rfl (Nat.le_of_ble_eq_true rfl) (fun v1 => ?_)
  refine ms_istore (L' := [(5, .int v1), (0, .ref (xad X 40 0)), (1, .int a0), (2, .int a1), (3, .int a2), (4, .int a3)]) C dX10_counts_7 (by decide) rfl ?_
  refine ms_aload_n C dX10_counts_9 1 rfl ?_
  refine ms_getr C dX10_counts_10 (zz40 (G := xg X) Nat.one_pos) (k := 16) (Nat.le_of_ble_eq_true rfl) (b := xad X 57 0) rfl (Cn := RX10) (T := TX10) rfl inX10_X10_counts rfl (by decide +kernel) ?_
  refine ms_iconst C (2 : Int32) dX10_counts_13 (by decide) ?_
  refine ms_iload_n C dX10_counts_14 2 rfl ?_
  refine ms_imul C dX10_counts_15 (fun v2 => ?_)
  refine ms_iload_n C dX10_counts_16 3 rfl ?_
  refine ms_iadd C dX10_counts_17 (fun v3 => ?_)
  refine ms_ld C dX10_counts_18 (zz57 (G := xg X) Nat.one_pos) rfl (fun _ v4 => ?_)
  refine ms_iload_n C dX10_counts_19 4 rfl ?_
  refine ms_icmp_ne (tgt := 47) C dX10_counts_20 (by decide) (fun c5 => ?_) (fun c5 => ?_)
  · refine ms_iconst C (0 : Int32) dX10_counts_47 (by decide) ?_
    exact ms_ireti C hR rfl rfl dX10_counts_48
  · refine ms_aload_n C dX10_counts_23 1 rfl ?_
    refine ms_getr C dX10_counts_24 (zz40 (G := xg X) Nat.one_pos) (k := 13) (Nat.le_of_ble_eq_true rfl) (b := xad X 54 0) rfl (Cn := RX10) (T := TX10) rfl inX10_X10_counts rfl (by decide +kernel) ?_
    refine ms_iload C dX10_counts_27 0 rfl ?_
    refine ms_zld C dX10_counts_29 (zz54 (G := xg X) Nat.one_pos) rfl (fun _ v6 => ?_)
    refine ms_if_eq (tgt := 47) C dX10_counts_30 (by decide) (fun c7 => ?_) (fun c7 => ?_)
    · refine ms_iconst C (0 : Int32) dX10_counts_47 (by decide) ?_
      exact ms_ireti C hR rfl rfl dX10_counts_48
    · refine ms_aload_n C dX10_counts_33 1 rfl ?_
      refine ms_getr C dX10_counts_34 (zz40 (G := xg X) Nat.one_pos) (k := 14) (Nat.le_of_ble_eq_true rfl) (b := xad X 55 0) rfl (Cn := RX10) (T := TX10) rfl inX10_X10_counts rfl (by decide +kernel) ?_
      refine ms_iload C dX10_counts_37 0 rfl ?_
      refine ms_ld C dX10_counts_39 (zz55 (G := xg X) Nat.one_pos) rfl (fun _ v8 => ?_)
      refine ms_if_le (tgt := 47) C dX10_counts_40 (by decide) (fun c9 => ?_) (fun c9 => ?_)
      · refine ms_iconst C (0 : Int32) dX10_counts_47 (by decide) ?_
        exact ms_ireti C hR rfl rfl dX10_counts_48
      · refine ms_iconst C (1 : Int32) dX10_counts_43 (by decide) ?_
        refine ms_goto (tgt := 48) C dX10_counts_44 (by decide) ?_
        exact ms_ireti C hR rfl rfl dX10_counts_48
def rmX10_common : Room := { frames := 0, cells := 0, slots := 0, locals := 0 }
set_option maxRecDepth 100000 in
set_option maxHeartbeats 4000000 in
theorem mtX10_common_L17 {X : mh_X} {n : Nat} {z : Int64} (M : mh_M) (C : mh_C X rmX10_common cX10_common wsX10_common RX10 10) (hR : mh_R X (some .long) M (some (.long z))) : ∀ (k : Nat) (x4 : Int64) (x6 : Int64), mh_W X rmX10_common 10 (itr2 (fX10_common_L17 n M) k x4 x6) z M 17 [(4, .long x4), (6, .long x6)] [] := by
  intro k
  induction k with
  | zero =>
    intro x4 x6
    exact ms_none
  | succ k ih =>
    intro x4 x6
    show mh_W X rmX10_common 10 (fX10_common_L17 n M (itr2 (fX10_common_L17 n M) k) x4 x6) z M 17 [(4, .long x4), (6, .long x6)] []
    generalize itr2 (fX10_common_L17 n M) k = rec at ih ⊢
    unfold fX10_common_L17
    refine ms_lload C dX10_common_17 1 rfl ?_
    refine ms_lconst C (0 : Int64) dX10_common_19 (by decide) ?_
    refine ms_lcmp C dX10_common_20 (fun v3 => ?_)
    refine ms_if_eq (tgt := 42) C dX10_common_21 (by decide) (fun c4 => ?_) (fun c4 => ?_)
    · refine ms_lload C dX10_common_42 0 rfl ?_
      exact ms_lreti C hR rfl dX10_common_44
    · refine ms_lload C dX10_common_24 0 rfl ?_
      refine ms_lload C dX10_common_26 1 rfl ?_
      refine ms_lrem C dX10_common_28 (fun v5 => ?_)
      refine ms_lstore (L' := [(8, .long v5), (4, .long x4), (6, .long x6)]) C dX10_common_29 (by decide) rfl ?_
      refine ms_lload C dX10_common_31 2 rfl ?_
      refine ms_lstore (L' := [(4, .long x6), (8, .long v5), (6, .long x6)]) C dX10_common_33 (by decide) rfl ?_
      refine ms_lload C dX10_common_35 1 rfl ?_
      refine ms_lstore (L' := [(6, .long v5), (4, .long x6), (8, .long v5)]) C dX10_common_37 (by decide) rfl ?_
      refine ms_goto (tgt := 17) C dX10_common_39 (by decide) ?_
      exact ms_sub [1, 0] rfl (ih x6 v5)
set_option maxRecDepth 100000 in
set_option maxHeartbeats 4000000 in
theorem mtX10_common (l : Launch) (G : mh_G) (n : Nat) (M : mh_M) (a0 : Int64) (a1 : Int64) {z : Int64} (ho : fX10_common n M a0 a1 = some z) : Met l yX10_common wsX10_common rmX10_common (mh_Pc G M [.long a0, .long a1]) (mh_Q G M (some (.long z))) 0 0 (mh_dom G) := by
  refine mh_met (cc := cX10_common) (maxL := 10) (ret := (some .long)) (by decide) rfl (Nat.le_of_ble_eq_true rfl) ho ?_
  rintro X rfl rfl C hR
  show mh_W X rmX10_common 10 _ z M 0 [(0, .long a0), (2, .long a1)] []
  replace C : mh_C X rmX10_common cX10_common wsX10_common RX10 10 := C
  unfold fX10_common
  refine ms_lload_n C dX10_common_0 0 rfl ?_
  refine ms_lconst C (0 : Int64) dX10_common_1 (by decide) ?_
  refine ms_lcmp C dX10_common_2 (fun v1 => ?_)
  refine ms_if_ge (tgt := 11) C dX10_common_3 (by decide) (fun c2 => ?_) (fun c2 => ?_)
  · refine ms_lload_n C dX10_common_11 0 rfl ?_
    refine ms_lstore (L' := [(4, .long a0), (0, .long a0), (2, .long a1)]) C dX10_common_12 (by decide) rfl ?_
    refine ms_lload_n C dX10_common_14 2 rfl ?_
    refine ms_lstore (L' := [(6, .long a1), (4, .long a0), (0, .long a0), (2, .long a1)]) C dX10_common_15 (by decide) rfl ?_
    exact ms_sub [1, 0] rfl (mtX10_common_L17 (n := n) M C hR n a0 a1)
  · refine ms_lload_n C dX10_common_6 0 rfl ?_
    refine ms_lneg C dX10_common_7 (fun v6 => ?_)
    refine ms_goto (tgt := 12) C dX10_common_8 (by decide) ?_
    refine ms_lstore (L' := [(4, .long v6), (0, .long a0), (2, .long a1)]) C dX10_common_12 (by decide) rfl ?_
    refine ms_lload_n C dX10_common_14 2 rfl ?_
    refine ms_lstore (L' := [(6, .long a1), (4, .long v6), (0, .long a0), (2, .long a1)]) C dX10_common_15 (by decide) rfl ?_
    exact ms_sub [1, 0] rfl (mtX10_common_L17 (n := n) M C hR n v6 a1)
