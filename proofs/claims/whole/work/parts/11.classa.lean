def rmX9_isIn : Room := { frames := 0, cells := 0, slots := 0, locals := 0 }
set_option maxRecDepth 100000 in
set_option maxHeartbeats 4000000 in
theorem mtX9_isIn (l : Launch) (G : mh_G) (n : Nat) (M : mh_M) (a0 : Int32) (a1 : Int32) (a2 : Int32) {z : Int32} (ho : fX9_isIn n M a0 a1 a2 = some z) : Met l yX9_isIn wsX9_isIn rmX9_isIn (mh_Pc G M [.int a0, .int a1, .int a2]) (mh_Q G M (some (.int z))) 0 0 (mh_dom G) := by
  refine mh_met (cc := cX9_isIn) (maxL := 3) (ret := (some .boolean)) (by decide) rfl (Nat.le_of_ble_eq_true rfl) ho ?_
  rintro X rfl rfl C hR
  show mh_W X rmX9_isIn 3 _ z M 0 [(0, .int a0), (1, .int a1), (2, .int a2)] []
  replace C : mh_C X rmX9_isIn cX9_isIn wsX9_isIn RX9 3 := C
  unfold fX9_isIn
  refine ms_iload_n C dX9_isIn_0 1 rfl ?_
  refine ms_iload_n C dX9_isIn_1 0 rfl ?_
  refine ms_icmp_gt (tgt := 14) C dX9_isIn_2 (by decide) (fun c1 => ?_) (fun c1 => ?_)
  · refine ms_iconst C (0 : Int32) dX9_isIn_14 (by decide) ?_
    exact ms_ireti C hR rfl rfl dX9_isIn_15
  · refine ms_iload_n C dX9_isIn_5 0 rfl ?_
    refine ms_iload_n C dX9_isIn_6 2 rfl ?_
    refine ms_icmp_gt (tgt := 14) C dX9_isIn_7 (by decide) (fun c2 => ?_) (fun c2 => ?_)
    · refine ms_iconst C (0 : Int32) dX9_isIn_14 (by decide) ?_
      exact ms_ireti C hR rfl rfl dX9_isIn_15
    · refine ms_iconst C (1 : Int32) dX9_isIn_10 (by decide) ?_
      refine ms_goto (tgt := 15) C dX9_isIn_11 (by decide) ?_
      exact ms_ireti C hR rfl rfl dX9_isIn_15
def rmX9_kind : Room := { frames := 1, cells := 0, slots := 0, locals := 22 }
theorem inX4_X9_kind : ∀ w ∈ wsX40, w ∈ wsX9_kind := by decide +kernel
theorem inX9_X9_kind : ∀ w ∈ wsX90, w ∈ wsX9_kind := by decide +kernel
set_option maxRecDepth 100000 in
set_option maxHeartbeats 4000000 in
theorem mtX9_kind (l : Launch) (G : mh_G) (n : Nat) (M : mh_M) (a0 : Int32) (a1 : Int32) (a2 : Int32) {z : mh_M × Int32} (ho : fX9_kind n M a0 a1 a2 = some z) : Met l yX9_kind wsX9_kind rmX9_kind (mh_Pc G M [.ref (G.2.2 0 0), .int a0, .int a1, .int a2]) (mh_Q G z.1 (some (.int z.2))) 0 0 (mh_dom G) := by
  refine mh_met (cc := cX9_kind) (maxL := 5) (ret := (some .int)) (by decide) rfl (Nat.le_of_ble_eq_true rfl) ho ?_
  rintro X rfl rfl C hR
  show mh_W X rmX9_kind 5 _ z M 0 [(0, .ref (xad X 0 0)), (1, .int a0), (2, .int a1), (3, .int a2)] []
  replace C : mh_C X rmX9_kind cX9_kind wsX9_kind RX9 5 := C
  unfold fX9_kind
  refine ms_iload_n C dX9_kind_0 1 rfl ?_
  refine ms_iconst C (0 : Int32) dX9_kind_1 (by decide) ?_
  refine ms_sipush C (2000 : Int32) dX9_kind_2 (by decide) ?_
  refine ms_callSi (As := [.int a0, .int (0 : Int32), .int (2000 : Int32)]) C dX9_kind_5 (fun _ h => mtX9_isIn (xl X) (xg X) n M a0 (0 : Int32) (2000 : Int32) h) (va_cwS 3 C.2.2.1 gX9_kind_X9_isIn rfl rfl rfl (by decide +kernel) ⟨Nat.le_of_ble_eq_true rfl, Nat.le_of_ble_eq_true rfl⟩) rfl rfl (Nat.le_of_ble_eq_true rfl) (fun v1 => ?_)
  refine ms_if_eq (tgt := 35) C dX9_kind_8 (by decide) (fun c2 => ?_) (fun c2 => ?_)
  · refine ms_iconst C (-1 : Int32) dX9_kind_35 (by decide) ?_
    exact ms_iretm C hR rfl dX9_kind_36
  · refine ms_iload_n C dX9_kind_11 2 rfl ?_
    refine ms_bipush C (100 : Int32) dX9_kind_12 (by decide) ?_
    refine ms_sipush C (2000 : Int32) dX9_kind_14 (by decide) ?_
    refine ms_callSi (As := [.int a1, .int (100 : Int32), .int (2000 : Int32)]) C dX9_kind_17 (fun _ h => mtX9_isIn (xl X) (xg X) n M a1 (100 : Int32) (2000 : Int32) h) (va_cwS 3 C.2.2.1 gX9_kind_X9_isIn rfl rfl rfl (by decide +kernel) ⟨Nat.le_of_ble_eq_true rfl, Nat.le_of_ble_eq_true rfl⟩) rfl rfl (Nat.le_of_ble_eq_true rfl) (fun v3 => ?_)
    refine ms_if_eq (tgt := 35) C dX9_kind_20 (by decide) (fun c4 => ?_) (fun c4 => ?_)
    · refine ms_iconst C (-1 : Int32) dX9_kind_35 (by decide) ?_
      exact ms_iretm C hR rfl dX9_kind_36
    · refine ms_iload_n C dX9_kind_23 3 rfl ?_
      refine ms_bipush C (50 : Int32) dX9_kind_24 (by decide) ?_
      refine ms_sipush C (150 : Int32) dX9_kind_26 (by decide) ?_
      refine ms_callSi (As := [.int a2, .int (50 : Int32), .int (150 : Int32)]) C dX9_kind_29 (fun _ h => mtX9_isIn (xl X) (xg X) n M a2 (50 : Int32) (150 : Int32) h) (va_cwS 3 C.2.2.1 gX9_kind_X9_isIn rfl rfl rfl (by decide +kernel) ⟨Nat.le_of_ble_eq_true rfl, Nat.le_of_ble_eq_true rfl⟩) rfl rfl (Nat.le_of_ble_eq_true rfl) (fun v5 => ?_)
      refine ms_if_ne (tgt := 37) C dX9_kind_32 (by decide) (fun c6 => ?_) (fun c6 => ?_)
      · refine ms_aload_n C dX9_kind_37 0 rfl ?_
        refine ms_geti C dX9_kind_38 (zz0 (G := xg X) Nat.one_pos) (k := 1) (Nat.le_of_ble_eq_true rfl) rfl (Cn := RX9) (T := TX9) rfl inX9_X9_kind rfl (by decide +kernel) (fun v7 => ?_)
        refine ms_bipush C (10 : Int32) dX9_kind_41 (by decide) ?_
        refine ms_icmp_lt (tgt := 49) C dX9_kind_43 (by decide) (fun c8 => ?_) (fun c8 => ?_)
        · refine ms_aload_n C dX9_kind_49 0 rfl ?_
          refine ms_getr C dX9_kind_50 (zz0 (G := xg X) Nat.one_pos) (k := 0) (Nat.le_of_ble_eq_true rfl) (b := xad X 1 0) rfl (Cn := RX9) (T := TX9) rfl inX9_X9_kind rfl (by decide +kernel) ?_
          refine ms_aload_n C dX9_kind_53 0 rfl ?_
          refine ms_geti C dX9_kind_54 (zz0 (G := xg X) Nat.one_pos) (k := 1) (Nat.le_of_ble_eq_true rfl) rfl (Cn := RX9) (T := TX9) rfl inX9_X9_kind rfl (by decide +kernel) (fun v9 => ?_)
          refine ms_ald C dX9_kind_57 (zz1 (G := xg X) Nat.one_pos) rfl rfl (fun q10 hq10 => ?_)
          refine ms_astore (L' := [(4, .ref (xad X 20 q10)), (0, .ref (xad X 0 0)), (1, .int a0), (2, .int a1), (3, .int a2)]) C dX9_kind_58 (by decide) rfl ?_
          refine ms_aload C dX9_kind_60 0 rfl ?_
          refine ms_iload_n C dX9_kind_62 2 rfl ?_
          refine ms_puti C dX9_kind_63 tyX4 tyX4_ok nmX4 (zz20 (G := xg X) hq10) (k := 0) (Nat.le_of_ble_eq_true rfl) rfl (Cn := RX4) (T := TX4) rfl inX4_X9_kind rfl (by decide +kernel) rfl (by decide +kernel) (fun M11 => ?_)
          refine ms_aload C dX9_kind_66 0 rfl ?_
          refine ms_iload_n C dX9_kind_68 3 rfl ?_
          refine ms_puti C dX9_kind_69 tyX4 tyX4_ok nmX4 (zz20 (G := xg X) hq10) (k := 1) (Nat.le_of_ble_eq_true rfl) rfl (Cn := RX4) (T := TX4) rfl inX4_X9_kind rfl (by decide +kernel) rfl (by decide +kernel) (fun M12 => ?_)
          refine ms_aload C dX9_kind_72 0 rfl ?_
          refine ms_iload_n C dX9_kind_74 4 rfl ?_
          refine ms_puti C dX9_kind_75 tyX4 tyX4_ok nmX4 (zz20 (G := xg X) hq10) (k := 2) (Nat.le_of_ble_eq_true rfl) rfl (Cn := RX4) (T := TX4) rfl inX4_X9_kind rfl (by decide +kernel) rfl (by decide +kernel) (fun M13 => ?_)
          refine ms_aload_n C dX9_kind_78 1 rfl ?_
          refine ms_dup C dX9_kind_79 rfl ?_
          refine ms_geti C dX9_kind_80 (zz0 (G := xg X) Nat.one_pos) (k := 1) (Nat.le_of_ble_eq_true rfl) rfl (Cn := RX9) (T := TX9) rfl inX9_X9_kind rfl (by decide +kernel) (fun v14 => ?_)
          refine ms_iconst C (1 : Int32) dX9_kind_83 (by decide) ?_
          refine ms_iadd C dX9_kind_84 (fun v15 => ?_)
          refine ms_puti C dX9_kind_85 tyX9 tyX9_ok nmX9 (zz0 (G := xg X) Nat.one_pos) (k := 1) (Nat.le_of_ble_eq_true rfl) rfl (Cn := RX9) (T := TX9) rfl inX9_X9_kind rfl (by decide +kernel) rfl (by decide +kernel) (fun M16 => ?_)
          refine ms_aload_n C dX9_kind_88 1 rfl ?_
          refine ms_geti C dX9_kind_89 (zz0 (G := xg X) Nat.one_pos) (k := 1) (Nat.le_of_ble_eq_true rfl) rfl (Cn := RX9) (T := TX9) rfl inX9_X9_kind rfl (by decide +kernel) (fun v17 => ?_)
          refine ms_iconst C (1 : Int32) dX9_kind_92 (by decide) ?_
          refine ms_isub C dX9_kind_93 (fun v18 => ?_)
          exact ms_iretm C hR rfl dX9_kind_94
        · refine ms_bipush C (-3 : Int32) dX9_kind_46 (by decide) ?_
          exact ms_iretm C hR rfl dX9_kind_48
      · refine ms_iconst C (-1 : Int32) dX9_kind_35 (by decide) ?_
        exact ms_iretm C hR rfl dX9_kind_36
def rmX9_recipe : Room := { frames := 1, cells := 0, slots := 0, locals := 22 }
theorem inX6_X9_recipe : ∀ w ∈ wsX60, w ∈ wsX9_recipe := by decide +kernel
theorem inX9_X9_recipe : ∀ w ∈ wsX90, w ∈ wsX9_recipe := by decide +kernel
set_option maxRecDepth 100000 in
set_option maxHeartbeats 4000000 in
theorem mtX9_recipe (l : Launch) (G : mh_G) (n : Nat) (M : mh_M) (a0 : Int32) {z : mh_M × Int32} (ho : fX9_recipe n M a0 = some z) : Met l yX9_recipe wsX9_recipe rmX9_recipe (mh_Pc G M [.ref (G.2.2 0 0), .int a0]) (mh_Q G z.1 (some (.int z.2))) 0 0 (mh_dom G) := by
  refine mh_met (cc := cX9_recipe) (maxL := 2) (ret := (some .int)) (by decide) rfl (Nat.le_of_ble_eq_true rfl) ho ?_
  rintro X rfl rfl C hR
  show mh_W X rmX9_recipe 2 _ z M 0 [(0, .ref (xad X 0 0)), (1, .int a0)] []
  replace C : mh_C X rmX9_recipe cX9_recipe wsX9_recipe RX9 2 := C
  unfold fX9_recipe
  refine ms_iload_n C dX9_recipe_0 1 rfl ?_
  refine ms_iconst C (0 : Int32) dX9_recipe_1 (by decide) ?_
  refine ms_sipush C (10000 : Int32) dX9_recipe_2 (by decide) ?_
  refine ms_callSi (As := [.int a0, .int (0 : Int32), .int (10000 : Int32)]) C dX9_recipe_5 (fun _ h => mtX9_isIn (xl X) (xg X) n M a0 (0 : Int32) (10000 : Int32) h) (va_cwS 3 C.2.2.1 gX9_recipe_X9_isIn rfl rfl rfl (by decide +kernel) ⟨Nat.le_of_ble_eq_true rfl, Nat.le_of_ble_eq_true rfl⟩) rfl rfl (Nat.le_of_ble_eq_true rfl) (fun v1 => ?_)
  refine ms_if_ne (tgt := 13) C dX9_recipe_8 (by decide) (fun c2 => ?_) (fun c2 => ?_)
  · refine ms_aload_n C dX9_recipe_13 0 rfl ?_
    refine ms_geti C dX9_recipe_14 (zz0 (G := xg X) Nat.one_pos) (k := 3) (Nat.le_of_ble_eq_true rfl) rfl (Cn := RX9) (T := TX9) rfl inX9_X9_recipe rfl (by decide +kernel) (fun v3 => ?_)
    refine ms_bipush C (12 : Int32) dX9_recipe_17 (by decide) ?_
    refine ms_icmp_lt (tgt := 25) C dX9_recipe_19 (by decide) (fun c4 => ?_) (fun c4 => ?_)
    · refine ms_aload_n C dX9_recipe_25 0 rfl ?_
      refine ms_getr C dX9_recipe_26 (zz0 (G := xg X) Nat.one_pos) (k := 2) (Nat.le_of_ble_eq_true rfl) (b := xad X 2 0) rfl (Cn := RX9) (T := TX9) rfl inX9_X9_recipe rfl (by decide +kernel) ?_
      refine ms_aload_n C dX9_recipe_29 0 rfl ?_
      refine ms_geti C dX9_recipe_30 (zz0 (G := xg X) Nat.one_pos) (k := 3) (Nat.le_of_ble_eq_true rfl) rfl (Cn := RX9) (T := TX9) rfl inX9_X9_recipe rfl (by decide +kernel) (fun v5 => ?_)
      refine ms_ald C dX9_recipe_33 (zz2 (G := xg X) Nat.one_pos) rfl rfl (fun q6 hq6 => ?_)
      refine ms_iload_n C dX9_recipe_34 1 rfl ?_
      refine ms_puti C dX9_recipe_35 tyX6 tyX6_ok nmX6 (zz23 (G := xg X) hq6) (k := 0) (Nat.le_of_ble_eq_true rfl) rfl (Cn := RX6) (T := TX6) rfl inX6_X9_recipe rfl (by decide +kernel) rfl (by decide +kernel) (fun M7 => ?_)
      refine ms_aload_n C dX9_recipe_38 0 rfl ?_
      refine ms_dup C dX9_recipe_39 rfl ?_
      refine ms_geti C dX9_recipe_40 (zz0 (G := xg X) Nat.one_pos) (k := 3) (Nat.le_of_ble_eq_true rfl) rfl (Cn := RX9) (T := TX9) rfl inX9_X9_recipe rfl (by decide +kernel) (fun v8 => ?_)
      refine ms_iconst C (1 : Int32) dX9_recipe_43 (by decide) ?_
      refine ms_iadd C dX9_recipe_44 (fun v9 => ?_)
      refine ms_puti C dX9_recipe_45 tyX9 tyX9_ok nmX9 (zz0 (G := xg X) Nat.one_pos) (k := 3) (Nat.le_of_ble_eq_true rfl) rfl (Cn := RX9) (T := TX9) rfl inX9_X9_recipe rfl (by decide +kernel) rfl (by decide +kernel) (fun M10 => ?_)
      refine ms_aload_n C dX9_recipe_48 0 rfl ?_
      refine ms_geti C dX9_recipe_49 (zz0 (G := xg X) Nat.one_pos) (k := 3) (Nat.le_of_ble_eq_true rfl) rfl (Cn := RX9) (T := TX9) rfl inX9_X9_recipe rfl (by decide +kernel) (fun v11 => ?_)
      refine ms_iconst C (1 : Int32) dX9_recipe_52 (by decide) ?_
      refine ms_isub C dX9_recipe_53 (fun v12 => ?_)
      exact ms_iretm C hR rfl dX9_recipe_54
    · refine ms_bipush C (-3 : Int32) dX9_recipe_22 (by decide) ?_
      exact ms_iretm C hR rfl dX9_recipe_24
  · refine ms_iconst C (-1 : Int32) dX9_recipe_11 (by decide) ?_
    exact ms_iretm C hR rfl dX9_recipe_12
def rmX9_isRecipe : Room := { frames := 1, cells := 0, slots := 0, locals := 22 }
theorem inX9_X9_isRecipe : ∀ w ∈ wsX90, w ∈ wsX9_isRecipe := by decide +kernel
set_option maxRecDepth 100000 in
set_option maxHeartbeats 4000000 in
theorem mtX9_isRecipe (l : Launch) (G : mh_G) (n : Nat) (M : mh_M) (a0 : Int32) {z : Int32} (ho : fX9_isRecipe n M a0 = some z) : Met l yX9_isRecipe wsX9_isRecipe rmX9_isRecipe (mh_Pc G M [.ref (G.2.2 0 0), .int a0]) (mh_Q G M (some (.int z))) 0 0 (mh_dom G) := by
  refine mh_met (cc := cX9_isRecipe) (maxL := 2) (ret := (some .boolean)) (by decide) rfl (Nat.le_of_ble_eq_true rfl) ho ?_
  rintro X rfl rfl C hR
  show mh_W X rmX9_isRecipe 2 _ z M 0 [(0, .ref (xad X 0 0)), (1, .int a0)] []
  replace C : mh_C X rmX9_isRecipe cX9_isRecipe wsX9_isRecipe RX9 2 := C
  unfold fX9_isRecipe
  refine ms_iload_n C dX9_isRecipe_0 1 rfl ?_
  refine ms_iconst C (0 : Int32) dX9_isRecipe_1 (by decide) ?_
  refine ms_aload_n C dX9_isRecipe_2 0 rfl ?_
  refine ms_geti C dX9_isRecipe_3 (zz0 (G := xg X) Nat.one_pos) (k := 3) (Nat.le_of_ble_eq_true rfl) rfl (Cn := RX9) (T := TX9) rfl inX9_X9_isRecipe rfl (by decide +kernel) (fun v1 => ?_)
  refine ms_iconst C (1 : Int32) dX9_isRecipe_6 (by decide) ?_
  refine ms_isub C dX9_isRecipe_7 (fun v2 => ?_)
  refine ms_callSb (As := [.int a0, .int (0 : Int32), .int v2]) C dX9_isRecipe_8 (fun _ h => mtX9_isIn (xl X) (xg X) n M a0 (0 : Int32) v2 h) (va_cwS 3 C.2.2.1 gX9_isRecipe_X9_isIn rfl rfl rfl (by decide +kernel) ⟨Nat.le_of_ble_eq_true rfl, Nat.le_of_ble_eq_true rfl⟩) rfl rfl (Nat.le_of_ble_eq_true rfl) (fun _ h => bX9_isIn h) (fun v3 hv3 => ?_)
  exact ms_ireti C hR rfl hv3 dX9_isRecipe_11
def rmX9_isKind : Room := { frames := 1, cells := 0, slots := 0, locals := 22 }
theorem inX9_X9_isKind : ∀ w ∈ wsX90, w ∈ wsX9_isKind := by decide +kernel
set_option maxRecDepth 100000 in
set_option maxHeartbeats 4000000 in
theorem mtX9_isKind (l : Launch) (G : mh_G) (n : Nat) (M : mh_M) (a0 : Int32) {z : Int32} (ho : fX9_isKind n M a0 = some z) : Met l yX9_isKind wsX9_isKind rmX9_isKind (mh_Pc G M [.ref (G.2.2 0 0), .int a0]) (mh_Q G M (some (.int z))) 0 0 (mh_dom G) := by
  refine mh_met (cc := cX9_isKind) (maxL := 2) (ret := (some .boolean)) (by decide) rfl (Nat.le_of_ble_eq_true rfl) ho ?_
  rintro X rfl rfl C hR
  show mh_W X rmX9_isKind 2 _ z M 0 [(0, .ref (xad X 0 0)), (1, .int a0)] []
  replace C : mh_C X rmX9_isKind cX9_isKind wsX9_isKind RX9 2 := C
  unfold fX9_isKind
  refine ms_iload_n C dX9_isKind_0 1 rfl ?_
  refine ms_iconst C (0 : Int32) dX9_isKind_1 (by decide) ?_
  refine ms_aload_n C dX9_isKind_2 0 rfl ?_
  refine ms_geti C dX9_isKind_3 (zz0 (G := xg X) Nat.one_pos) (k := 1) (Nat.le_of_ble_eq_true rfl) rfl (Cn := RX9) (T := TX9) rfl inX9_X9_isKind rfl (by decide +kernel) (fun v1 => ?_)
  refine ms_iconst C (1 : Int32) dX9_isKind_6 (by decide) ?_
  refine ms_isub C dX9_isKind_7 (fun v2 => ?_)
  refine ms_callSb (As := [.int a0, .int (0 : Int32), .int v2]) C dX9_isKind_8 (fun _ h => mtX9_isIn (xl X) (xg X) n M a0 (0 : Int32) v2 h) (va_cwS 3 C.2.2.1 gX9_isKind_X9_isIn rfl rfl rfl (by decide +kernel) ⟨Nat.le_of_ble_eq_true rfl, Nat.le_of_ble_eq_true rfl⟩) rfl rfl (Nat.le_of_ble_eq_true rfl) (fun _ h => bX9_isIn h) (fun v3 hv3 => ?_)
  exact ms_ireti C hR rfl hv3 dX9_isKind_11
def rmX9_part : Room := { frames := 2, cells := 0, slots := 0, locals := 43 }
theorem inX6_X9_part : ∀ w ∈ wsX60, w ∈ wsX9_part := by decide +kernel
theorem inX9_X9_part : ∀ w ∈ wsX90, w ∈ wsX9_part := by decide +kernel
set_option maxRecDepth 100000 in
set_option maxHeartbeats 4000000 in
theorem mtX9_part (l : Launch) (G : mh_G) (n : Nat) (M : mh_M) (a0 : Int32) (a1 : Int32) (a2 : Int32) {z : mh_M × Int32} (ho : fX9_part n M a0 a1 a2 = some z) : Met l yX9_part wsX9_part rmX9_part (mh_Pc G M [.ref (G.2.2 0 0), .int a0, .int a1, .int a2]) (mh_Q G z.1 (some (.int z.2))) 0 0 (mh_dom G) := by
  refine mh_met (cc := cX9_part) (maxL := 4) (ret := (some .int)) (by decide) rfl (Nat.le_of_ble_eq_true rfl) ho ?_
  rintro X rfl rfl C hR
  show mh_W X rmX9_part 4 _ z M 0 [(0, .ref (xad X 0 0)), (1, .int a0), (2, .int a1), (3, .int a2)] []
  replace C : mh_C X rmX9_part cX9_part wsX9_part RX9 4 := C
  unfold fX9_part
  refine ms_aload_n C dX9_part_0 0 rfl ?_
  refine ms_iload_n C dX9_part_1 1 rfl ?_
  refine ms_callVi (As := [.int a0]) C dX9_part_2 (fun _ h => mtX9_isRecipe (xl X) (xg X) n M a0 h) (cwV 1 C.2.2.1 gX9_part_X9_isRecipe rfl rfl rfl (by decide +kernel) ⟨Nat.le_of_ble_eq_true rfl, Nat.le_of_ble_eq_true rfl⟩) (zz0 (G := xg X) Nat.one_pos) (T := TX9) rfl rfl rfl (Nat.le_of_ble_eq_true rfl) (fun v1 => ?_)
  refine ms_if_eq (tgt := 26) C dX9_part_5 (by decide) (fun c2 => ?_) (fun c2 => ?_)
  · refine ms_iconst C (-1 : Int32) dX9_part_26 (by decide) ?_
    exact ms_iretm C hR rfl dX9_part_27
  · refine ms_aload_n C dX9_part_8 0 rfl ?_
    refine ms_iload_n C dX9_part_9 2 rfl ?_
    refine ms_callVi (As := [.int a1]) C dX9_part_10 (fun _ h => mtX9_isKind (xl X) (xg X) n M a1 h) (cwV 1 C.2.2.1 gX9_part_X9_isKind rfl rfl rfl (by decide +kernel) ⟨Nat.le_of_ble_eq_true rfl, Nat.le_of_ble_eq_true rfl⟩) (zz0 (G := xg X) Nat.one_pos) (T := TX9) rfl rfl rfl (Nat.le_of_ble_eq_true rfl) (fun v3 => ?_)
    refine ms_if_eq (tgt := 26) C dX9_part_13 (by decide) (fun c4 => ?_) (fun c4 => ?_)
    · refine ms_iconst C (-1 : Int32) dX9_part_26 (by decide) ?_
      exact ms_iretm C hR rfl dX9_part_27
    · refine ms_iload_n C dX9_part_16 3 rfl ?_
      refine ms_iconst C (0 : Int32) dX9_part_17 (by decide) ?_
      refine ms_bipush C (20 : Int32) dX9_part_18 (by decide) ?_
      refine ms_callSi (As := [.int a2, .int (0 : Int32), .int (20 : Int32)]) C dX9_part_20 (fun _ h => mtX9_isIn (xl X) (xg X) n M a2 (0 : Int32) (20 : Int32) h) (va_cwS 3 C.2.2.1 gX9_part_X9_isIn rfl rfl rfl (by decide +kernel) ⟨Nat.le_of_ble_eq_true rfl, Nat.le_of_ble_eq_true rfl⟩) rfl rfl (Nat.le_of_ble_eq_true rfl) (fun v5 => ?_)
      refine ms_if_ne (tgt := 28) C dX9_part_23 (by decide) (fun c6 => ?_) (fun c6 => ?_)
      · refine ms_aload_n C dX9_part_28 0 rfl ?_
        refine ms_getr C dX9_part_29 (zz0 (G := xg X) Nat.one_pos) (k := 2) (Nat.le_of_ble_eq_true rfl) (b := xad X 2 0) rfl (Cn := RX9) (T := TX9) rfl inX9_X9_part rfl (by decide +kernel) ?_
        refine ms_iload_n C dX9_part_32 1 rfl ?_
        refine ms_ald C dX9_part_33 (zz2 (G := xg X) Nat.one_pos) rfl rfl (fun q7 hq7 => ?_)
        refine ms_geti C dX9_part_34 (zz23 (G := xg X) hq7) (k := 1) (Nat.le_of_ble_eq_true rfl) rfl (Cn := RX6) (T := TX6) rfl inX6_X9_part rfl (by decide +kernel) (fun v8 => ?_)
        refine ms_aload_n C dX9_part_37 0 rfl ?_
        refine ms_geti C dX9_part_38 (zz0 (G := xg X) Nat.one_pos) (k := 6) (Nat.le_of_ble_eq_true rfl) rfl (Cn := RX9) (T := TX9) rfl inX9_X9_part rfl (by decide +kernel) (fun v9 => ?_)
        refine ms_icmp_ne (tgt := 47) C dX9_part_41 (by decide) (fun c10 => ?_) (fun c10 => ?_)
        · refine ms_aload_n C dX9_part_47 0 rfl ?_
          refine ms_getr C dX9_part_48 (zz0 (G := xg X) Nat.one_pos) (k := 2) (Nat.le_of_ble_eq_true rfl) (b := xad X 2 0) rfl (Cn := RX9) (T := TX9) rfl inX9_X9_part rfl (by decide +kernel) ?_
          refine ms_iload_n C dX9_part_51 1 rfl ?_
          refine ms_ald C dX9_part_52 (zz2 (G := xg X) Nat.one_pos) rfl rfl (fun q11 hq11 => ?_)
          refine ms_iload_n C dX9_part_53 2 rfl ?_
          refine ms_iload_n C dX9_part_54 3 rfl ?_
          refine ms_callVm (As := [.int a1, .int a2]) C dX9_part_55 (fun _ h => mtX6_putParts (xl X) (xg X) n M q11 a1 a2 hq11 h) (cwV 2 C.2.2.1 gX9_part_X6_putParts rfl rfl rfl (by decide +kernel) ⟨Nat.le_of_ble_eq_true rfl, Nat.le_of_ble_eq_true rfl⟩) (zz23 (G := xg X) hq11) (T := TX6) rfl rfl rfl (Nat.le_of_ble_eq_true rfl) (fun M12 v13 => ?_)
          exact ms_iretm C hR rfl dX9_part_58
        · refine ms_bipush C (-2 : Int32) dX9_part_44 (by decide) ?_
          exact ms_iretm C hR rfl dX9_part_46
      · refine ms_iconst C (-1 : Int32) dX9_part_26 (by decide) ?_
        exact ms_iretm C hR rfl dX9_part_27
def rmX9_rule : Room := { frames := 1, cells := 0, slots := 0, locals := 22 }
theorem inX9_X9_rule : ∀ w ∈ wsX90, w ∈ wsX9_rule := by decide +kernel
set_option maxRecDepth 100000 in
set_option maxHeartbeats 4000000 in
theorem mtX9_rule (l : Launch) (G : mh_G) (n : Nat) (M : mh_M) (a0 : Int32) (a1 : Int32) {tS : Nat} {z : mh_M × Int32} (ho : fX9_rule n M a0 a1 = some z) : Met l yX9_rule wsX9_rule rmX9_rule (mh_PcS G M [.ref (G.2.2 0 0), .int a0, .int a1] tS) (mh_Q G z.1 (some (.int z.2))) 0 0 (mh_dom G) := by
  refine mh_metS (cc := cX9_rule) (maxL := 4) (ret := (some .int)) (by decide) rfl (Nat.le_of_ble_eq_true rfl) ho ?_
  rintro X rfl rfl C hR hZ hT
  show mh_W X rmX9_rule 4 _ z M 0 [(0, .ref (xad X 0 0)), (1, .int a0), (2, .int a1)] []
  replace C : mh_C X rmX9_rule cX9_rule wsX9_rule RX9 4 := C
  unfold fX9_rule
  refine ms_iload_n C dX9_rule_0 1 rfl ?_
  refine ms_iconst C (0 : Int32) dX9_rule_1 (by decide) ?_
  refine ms_aload_n C dX9_rule_2 0 rfl ?_
  refine ms_getr C dX9_rule_3 (zz0 (G := xg X) Nat.one_pos) (k := 4) (Nat.le_of_ble_eq_true rfl) (b := xad X 3 0) rfl (Cn := RX9) (T := TX9) rfl inX9_X9_rule rfl (by decide +kernel) ?_
  refine ms_alen C dX9_rule_6 (zz3 (G := xg X) Nat.one_pos) rfl (v := (7 : Int32)) (by decide) ?_
  refine ms_iconst C (1 : Int32) dX9_rule_7 (by decide) ?_
  refine ms_isub C dX9_rule_8 (fun v1 => ?_)
  refine ms_callSi (As := [.int a0, .int (0 : Int32), .int v1]) C dX9_rule_9 (fun _ h => mtX9_isIn (xl X) (xg X) n M a0 (0 : Int32) v1 h) (va_cwS 3 C.2.2.1 gX9_rule_X9_isIn rfl rfl rfl (by decide +kernel) ⟨Nat.le_of_ble_eq_true rfl, Nat.le_of_ble_eq_true rfl⟩) rfl rfl (Nat.le_of_ble_eq_true rfl) (fun v2 => ?_)
  refine ms_if_eq (tgt := 28) C dX9_rule_12 (by decide) (fun c3 => ?_) (fun c3 => ?_)
  · refine ms_iconst C (-1 : Int32) dX9_rule_28 (by decide) ?_
    exact ms_iretm C hR rfl dX9_rule_29
  · refine ms_iload_n C dX9_rule_15 2 rfl ?_
    refine ms_iconst C (0 : Int32) dX9_rule_16 (by decide) ?_
    refine ms_getst C dX9_rule_17 hZ (by decide +kernel) ?_
    refine ms_iload_n C dX9_rule_20 1 rfl ?_
    refine ms_ldst C dX9_rule_21 hT (fun _ v4 => ?_)
    refine ms_callSi (As := [.int a1, .int (0 : Int32), .int v4]) C dX9_rule_22 (fun _ h => mtX9_isIn (xl X) (xg X) n M a1 (0 : Int32) v4 h) (va_cwS 3 C.2.2.1 gX9_rule_X9_isIn rfl rfl rfl (by decide +kernel) ⟨Nat.le_of_ble_eq_true rfl, Nat.le_of_ble_eq_true rfl⟩) rfl rfl (Nat.le_of_ble_eq_true rfl) (fun v5 => ?_)
    refine ms_if_ne (tgt := 30) C dX9_rule_25 (by decide) (fun c6 => ?_) (fun c6 => ?_)
    · refine ms_aload_n C dX9_rule_30 0 rfl ?_
      refine ms_getr C dX9_rule_31 (zz0 (G := xg X) Nat.one_pos) (k := 4) (Nat.le_of_ble_eq_true rfl) (b := xad X 3 0) rfl (Cn := RX9) (T := TX9) rfl inX9_X9_rule rfl (by decide +kernel) ?_
      refine ms_iload_n C dX9_rule_34 1 rfl ?_
      refine ms_ld C dX9_rule_35 (zz3 (G := xg X) Nat.one_pos) rfl (fun _ v7 => ?_)
      refine ms_istore_n (L' := [(3, .int v7), (0, .ref (xad X 0 0)), (1, .int a0), (2, .int a1)]) C dX9_rule_36 rfl (by decide) rfl ?_
      refine ms_aload_n C dX9_rule_37 1 rfl ?_
      refine ms_getr C dX9_rule_38 (zz0 (G := xg X) Nat.one_pos) (k := 4) (Nat.le_of_ble_eq_true rfl) (b := xad X 3 0) rfl (Cn := RX9) (T := TX9) rfl inX9_X9_rule rfl (by decide +kernel) ?_
      refine ms_iload_n C dX9_rule_41 2 rfl ?_
      refine ms_iload_n C dX9_rule_42 3 rfl ?_
      refine ms_st C dX9_rule_43 (zz3 (G := xg X) Nat.one_pos) rfl (fun _ M8 => ?_)
      refine ms_iload_n C dX9_rule_44 0 rfl ?_
      exact ms_iretm C hR rfl dX9_rule_45
    · refine ms_iconst C (-1 : Int32) dX9_rule_28 (by decide) ?_
      exact ms_iretm C hR rfl dX9_rule_29
def rmX9_sheetOf : Room := { frames := 0, cells := 0, slots := 0, locals := 0 }
theorem inX9_X9_sheetOf : ∀ w ∈ wsX90, w ∈ wsX9_sheetOf := by decide +kernel
set_option maxRecDepth 100000 in
set_option maxHeartbeats 4000000 in
theorem mtX9_sheetOf (l : Launch) (G : mh_G) (n : Nat) (M : mh_M) (a0 : Int32) (a1 : Int32) {z : Nat} (ho : fX9_sheetOf n M a0 a1 = some z) : Met l yX9_sheetOf wsX9_sheetOf rmX9_sheetOf (mh_Pc G M [.ref (G.2.2 0 0), .int a0, .int a1]) (mh_Q G M (some (.ref (G.2.2 25 z)))) 0 0 (mh_dom G) := by
  refine mh_met (cc := cX9_sheetOf) (maxL := 3) (ret := (some (.object "BarMeasure$Sheet"))) (by decide) rfl (Nat.le_of_ble_eq_true rfl) ho ?_
  rintro X rfl rfl C hR
  show mh_W X rmX9_sheetOf 3 _ z M 0 [(0, .ref (xad X 0 0)), (1, .int a0), (2, .int a1)] []
  replace C : mh_C X rmX9_sheetOf cX9_sheetOf wsX9_sheetOf RX9 3 := C
  unfold fX9_sheetOf
  refine ms_aload_n C dX9_sheetOf_0 0 rfl ?_
  refine ms_getr C dX9_sheetOf_1 (zz0 (G := xg X) Nat.one_pos) (k := 5) (Nat.le_of_ble_eq_true rfl) (b := xad X 4 0) rfl (Cn := RX9) (T := TX9) rfl inX9_X9_sheetOf rfl (by decide +kernel) ?_
  refine ms_iload_n C dX9_sheetOf_4 1 rfl ?_
  refine ms_iconst C (2 : Int32) dX9_sheetOf_5 (by decide) ?_
  refine ms_imul C dX9_sheetOf_6 (fun v1 => ?_)
  refine ms_iload_n C dX9_sheetOf_7 2 rfl ?_
  refine ms_iadd C dX9_sheetOf_8 (fun v2 => ?_)
  refine ms_ald C dX9_sheetOf_9 (zz4 (G := xg X) Nat.one_pos) rfl rfl (fun q3 hq3 => ?_)
  exact ms_areti C hR rfl dX9_sheetOf_10
def rmX9_applySale : Room := { frames := 1, cells := 0, slots := 0, locals := 23 }
theorem inX0_X9_applySale : ∀ w ∈ wsX00, w ∈ wsX9_applySale := by decide +kernel
theorem inX6_X9_applySale : ∀ w ∈ wsX60, w ∈ wsX9_applySale := by decide +kernel
theorem inX7_X9_applySale : ∀ w ∈ wsX70, w ∈ wsX9_applySale := by decide +kernel
theorem inX9_X9_applySale : ∀ w ∈ wsX90, w ∈ wsX9_applySale := by decide +kernel
set_option maxRecDepth 100000 in
set_option maxHeartbeats 4000000 in
theorem mtX9_applySale_L14 {X : mh_X} {n : Nat} {z : mh_M} (r1 : Nat) (r2 : Nat) (x3 : Int32) (r4 : Nat) (C : mh_C X rmX9_applySale cX9_applySale wsX9_applySale RX9 6) (hR : mh_R X none z none) (hr1 : r1 < 40) (hr2 : r2 < 40) (hr4 : r4 < 12) : ∀ (k : Nat) (M : mh_M) (x5 : Int32), mh_W X rmX9_applySale 6 (itr2 (fX9_applySale_L14 n r1 r2 x3 r4) k M x5) z M 14 [(0, .ref (xad X 0 0)), (1, .ref (xad X 30 r1)), (2, .ref (xad X 25 r2)), (3, .int x3), (4, .ref (xad X 23 r4)), (5, .int x5)] [] := by
  intro k
  induction k with
  | zero =>
    intro M x5
    exact ms_none
  | succ k ih =>
    intro M x5
    show mh_W X rmX9_applySale 6 (fX9_applySale_L14 n r1 r2 x3 r4 (itr2 (fX9_applySale_L14 n r1 r2 x3 r4) k) M x5) z M 14 [(0, .ref (xad X 0 0)), (1, .ref (xad X 30 r1)), (2, .ref (xad X 25 r2)), (3, .int x3), (4, .ref (xad X 23 r4)), (5, .int x5)] []
    generalize itr2 (fX9_applySale_L14 n r1 r2 x3 r4) k = rec at ih ⊢
    unfold fX9_applySale_L14
    refine ms_iload C dX9_applySale_14 5 rfl ?_
    refine ms_aload_n C dX9_applySale_16 0 rfl ?_
    refine ms_geti C dX9_applySale_17 (zz0 (G := xg X) Nat.one_pos) (k := 1) (Nat.le_of_ble_eq_true rfl) rfl (Cn := RX9) (T := TX9) rfl inX9_X9_applySale rfl (by decide +kernel) (fun v3 => ?_)
    refine ms_icmp_ge (tgt := 89) C dX9_applySale_20 (by decide) (fun c4 => ?_) (fun c4 => ?_)
    · refine ms_aload_n C dX9_applySale_89 0 rfl ?_
      refine ms_getr C dX9_applySale_90 (zz0 (G := xg X) Nat.one_pos) (k := 8) (Nat.le_of_ble_eq_true rfl) (b := xad X 7 0) rfl (Cn := RX9) (T := TX9) rfl inX9_X9_applySale rfl (by decide +kernel) ?_
      refine ms_aload_n C dX9_applySale_93 1 rfl ?_
      refine ms_geti C dX9_applySale_94 (zz30 (G := xg X) hr1) (k := 1) (Nat.le_of_ble_eq_true rfl) rfl (Cn := RX0) (T := TX0) rfl inX0_X9_applySale rfl (by decide +kernel) (fun v5 => ?_)
      refine ms_dup2 C dX9_applySale_97 rfl rfl ?_
      refine ms_ld C dX9_applySale_98 (zz7 (G := xg X) Nat.one_pos) rfl (fun _ v6 => ?_)
      refine ms_iload_n C dX9_applySale_99 3 rfl ?_
      refine ms_aload_n C dX9_applySale_100 1 rfl ?_
      refine ms_geti C dX9_applySale_101 (zz30 (G := xg X) hr1) (k := 4) (Nat.le_of_ble_eq_true rfl) rfl (Cn := RX0) (T := TX0) rfl inX0_X9_applySale rfl (by decide +kernel) (fun v7 => ?_)
      refine ms_imul C dX9_applySale_104 (fun v8 => ?_)
      refine ms_iadd C dX9_applySale_105 (fun v9 => ?_)
      refine ms_st C dX9_applySale_106 (zz7 (G := xg X) Nat.one_pos) rfl (fun _ M10 => ?_)
      exact ms_vretm C hR dX9_applySale_107
    · refine ms_aload C dX9_applySale_23 4 rfl ?_
      refine ms_getr C dX9_applySale_25 (zz23 (G := xg X) hr4) (k := 3) (Nat.le_of_ble_eq_true rfl) (b := xad X 24 r4) rfl (Cn := RX6) (T := TX6) rfl inX6_X9_applySale rfl (by decide +kernel) ?_
      refine ms_iload C dX9_applySale_28 5 rfl ?_
      refine ms_ld C dX9_applySale_30 (zz24 (G := xg X) hr4) rfl (fun _ v11 => ?_)
      refine ms_if_le (tgt := 83) C dX9_applySale_31 (by decide) (fun c12 => ?_) (fun c12 => ?_)
      · refine ms_iinc (L' := fun v13 => [(5, .int v13), (0, .ref (xad X 0 0)), (1, .ref (xad X 30 r1)), (2, .ref (xad X 25 r2)), (3, .int x3), (4, .ref (xad X 23 r4))]) C dX9_applySale_83 5 rfl (c := 1) (by decide) (by decide) (fun _ => rfl) (fun v13 => ?_)
        refine ms_goto (tgt := 14) C dX9_applySale_86 (by decide) ?_
        exact ms_sub [1, 2, 3, 4, 5, 0] rfl (ih M v13)
      · refine ms_aload_n C dX9_applySale_34 0 rfl ?_
        refine ms_getr C dX9_applySale_35 (zz0 (G := xg X) Nat.one_pos) (k := 0) (Nat.le_of_ble_eq_true rfl) (b := xad X 1 0) rfl (Cn := RX9) (T := TX9) rfl inX9_X9_applySale rfl (by decide +kernel) ?_
        refine ms_iload C dX9_applySale_38 5 rfl ?_
        refine ms_ald C dX9_applySale_40 (zz1 (G := xg X) Nat.one_pos) rfl rfl (fun q14 hq14 => ?_)
        refine ms_iconst C (3 : Int32) dX9_applySale_41 (by decide) ?_
        refine ms_aload_n C dX9_applySale_42 1 rfl ?_
        refine ms_geti C dX9_applySale_43 (zz30 (G := xg X) hr1) (k := 1) (Nat.le_of_ble_eq_true rfl) rfl (Cn := RX0) (T := TX0) rfl inX0_X9_applySale rfl (by decide +kernel) (fun v15 => ?_)
        refine ms_iload_n C dX9_applySale_46 3 rfl ?_
        refine ms_aload_n C dX9_applySale_47 1 rfl ?_
        refine ms_geti C dX9_applySale_48 (zz30 (G := xg X) hr1) (k := 3) (Nat.le_of_ble_eq_true rfl) rfl (Cn := RX0) (T := TX0) rfl inX0_X9_applySale rfl (by decide +kernel) (fun v16 => ?_)
        refine ms_imul C dX9_applySale_51 (fun v17 => ?_)
        refine ms_aload C dX9_applySale_52 4 rfl ?_
        refine ms_getr C dX9_applySale_54 (zz23 (G := xg X) hr4) (k := 3) (Nat.le_of_ble_eq_true rfl) (b := xad X 24 r4) rfl (Cn := RX6) (T := TX6) rfl inX6_X9_applySale rfl (by decide +kernel) ?_
        refine ms_iload C dX9_applySale_57 5 rfl ?_
        refine ms_ld C dX9_applySale_59 (zz24 (G := xg X) hr4) rfl (fun _ v18 => ?_)
        refine ms_imul C dX9_applySale_60 (fun v19 => ?_)
        refine ms_bipush C (6 : Int32) dX9_applySale_61 (by decide) ?_
        refine ms_imul C dX9_applySale_63 (fun v20 => ?_)
        refine ms_callVv (As := [.int (3 : Int32), .int v15, .int v20]) C dX9_applySale_64 (fun _ h => mtX4_move (xl X) (xg X) n M q14 (3 : Int32) v15 v20 hq14 h) (cwV 3 C.2.2.1 gX9_applySale_X4_move rfl rfl rfl (by decide +kernel) ⟨Nat.le_of_ble_eq_true rfl, Nat.le_of_ble_eq_true rfl⟩) (zz20 (G := xg X) hq14) (T := TX4) rfl rfl rfl (Nat.le_of_ble_eq_true rfl) (fun M21 => ?_)
        refine ms_aload_n C dX9_applySale_67 2 rfl ?_
        refine ms_getr C dX9_applySale_68 (zz25 (G := xg X) hr2) (k := 1) (Nat.le_of_ble_eq_true rfl) (b := xad X 26 r2) rfl (Cn := RX7) (T := TX7) rfl inX7_X9_applySale rfl (by decide +kernel) ?_
        refine ms_iload C dX9_applySale_71 5 rfl ?_
        refine ms_dup2 C dX9_applySale_73 rfl rfl ?_
        refine ms_ld C dX9_applySale_74 (zz26 (G := xg X) hr2) rfl (fun _ v22 => ?_)
        refine ms_iload_n C dX9_applySale_75 3 rfl ?_
        refine ms_aload_n C dX9_applySale_76 1 rfl ?_
        refine ms_geti C dX9_applySale_77 (zz30 (G := xg X) hr1) (k := 3) (Nat.le_of_ble_eq_true rfl) rfl (Cn := RX0) (T := TX0) rfl inX0_X9_applySale rfl (by decide +kernel) (fun v23 => ?_)
        refine ms_imul C dX9_applySale_80 (fun v24 => ?_)
        refine ms_iadd C dX9_applySale_81 (fun v25 => ?_)
        refine ms_st C dX9_applySale_82 (zz26 (G := xg X) hr2) rfl (fun _ M26 => ?_)
        refine ms_iinc (L' := fun v27 => [(5, .int v27), (0, .ref (xad X 0 0)), (1, .ref (xad X 30 r1)), (2, .ref (xad X 25 r2)), (3, .int x3), (4, .ref (xad X 23 r4))]) C dX9_applySale_83 5 rfl (c := 1) (by decide) (by decide) (fun _ => rfl) (fun v27 => ?_)
        refine ms_goto (tgt := 14) C dX9_applySale_86 (by decide) ?_
        exact ms_sub [1, 2, 3, 4, 5, 0] rfl (ih M26 v27)
set_option maxRecDepth 100000 in
set_option maxHeartbeats 4000000 in
theorem mtX9_applySale (l : Launch) (G : mh_G) (n : Nat) (M : mh_M) (a0 : Nat) (a1 : Nat) (a2 : Int32) (ha0 : a0 < 40) (ha1 : a1 < 40) {z : mh_M} (ho : fX9_applySale n M a0 a1 a2 = some z) : Met l yX9_applySale wsX9_applySale rmX9_applySale (mh_Pc G M [.ref (G.2.2 0 0), .ref (G.2.2 30 a0), .ref (G.2.2 25 a1), .int a2]) (mh_Q G z none) 0 0 (mh_dom G) := by
  refine mh_met (cc := cX9_applySale) (maxL := 6) (ret := none) (by decide) rfl (Nat.le_of_ble_eq_true rfl) ho ?_
  rintro X rfl rfl C hR
  show mh_W X rmX9_applySale 6 _ z M 0 [(0, .ref (xad X 0 0)), (1, .ref (xad X 30 a0)), (2, .ref (xad X 25 a1)), (3, .int a2)] []
  replace C : mh_C X rmX9_applySale cX9_applySale wsX9_applySale RX9 6 := C
  unfold fX9_applySale
  refine ms_aload_n C dX9_applySale_0 0 rfl ?_
  refine ms_getr C dX9_applySale_1 (zz0 (G := xg X) Nat.one_pos) (k := 2) (Nat.le_of_ble_eq_true rfl) (b := xad X 2 0) rfl (Cn := RX9) (T := TX9) rfl inX9_X9_applySale rfl (by decide +kernel) ?_
  refine ms_aload_n C dX9_applySale_4 1 rfl ?_
  refine ms_geti C dX9_applySale_5 (zz30 (G := xg X) ha0) (k := 2) (Nat.le_of_ble_eq_true rfl) rfl (Cn := RX0) (T := TX0) rfl inX0_X9_applySale rfl (by decide +kernel) (fun v1 => ?_)
  refine ms_ald C dX9_applySale_8 (zz2 (G := xg X) Nat.one_pos) rfl rfl (fun q2 hq2 => ?_)
  refine ms_astore (L' := [(4, .ref (xad X 23 q2)), (0, .ref (xad X 0 0)), (1, .ref (xad X 30 a0)), (2, .ref (xad X 25 a1)), (3, .int a2)]) C dX9_applySale_9 (by decide) rfl ?_
  refine ms_iconst C (0 : Int32) dX9_applySale_11 (by decide) ?_
  refine ms_istore (L' := [(5, .int (0 : Int32)), (4, .ref (xad X 23 q2)), (0, .ref (xad X 0 0)), (1, .ref (xad X 30 a0)), (2, .ref (xad X 25 a1)), (3, .int a2)]) C dX9_applySale_12 (by decide) rfl ?_
  exact ms_sub [2, 3, 4, 5, 1, 0] rfl (mtX9_applySale_L14 (n := n) a0 a1 a2 q2 C hR ha0 ha1 hq2 n M (0 : Int32))
def rmX9_apply : Room := { frames := 2, cells := 0, slots := 0, locals := 48 }
theorem inX0_X9_apply : ∀ w ∈ wsX00, w ∈ wsX9_apply := by decide +kernel
theorem inX7_X9_apply : ∀ w ∈ wsX70, w ∈ wsX9_apply := by decide +kernel
theorem inX9_X9_apply : ∀ w ∈ wsX90, w ∈ wsX9_apply := by decide +kernel
set_option maxRecDepth 100000 in
set_option maxHeartbeats 4000000 in
theorem mtX9_apply (l : Launch) (G : mh_G) (n : Nat) (M : mh_M) (a0 : Nat) (a1 : Int32) (ha0 : a0 < 40) {z : mh_M} (ho : fX9_apply n M a0 a1 = some z) : Met l yX9_apply wsX9_apply rmX9_apply (mh_Pc G M [.ref (G.2.2 0 0), .ref (G.2.2 30 a0), .int a1]) (mh_Q G z none) 0 0 (mh_dom G) := by
  refine mh_met (cc := cX9_apply) (maxL := 4) (ret := none) (by decide) rfl (Nat.le_of_ble_eq_true rfl) ho ?_
  rintro X rfl rfl C hR
  show mh_W X rmX9_apply 4 _ z M 0 [(0, .ref (xad X 0 0)), (1, .ref (xad X 30 a0)), (2, .int a1)] []
  replace C : mh_C X rmX9_apply cX9_apply wsX9_apply RX9 4 := C
  unfold fX9_apply
  refine ms_aload_n C dX9_apply_0 0 rfl ?_
  refine ms_aload_n C dX9_apply_1 0 rfl ?_
  refine ms_geti C dX9_apply_2 (zz0 (G := xg X) Nat.one_pos) (k := 6) (Nat.le_of_ble_eq_true rfl) rfl (Cn := RX9) (T := TX9) rfl inX9_X9_apply rfl (by decide +kernel) (fun v1 => ?_)
  refine ms_aload_n C dX9_apply_5 1 rfl ?_
  refine ms_geti C dX9_apply_6 (zz30 (G := xg X) ha0) (k := 1) (Nat.le_of_ble_eq_true rfl) rfl (Cn := RX0) (T := TX0) rfl inX0_X9_apply rfl (by decide +kernel) (fun v2 => ?_)
  refine ms_callVr (As := [.int v1, .int v2]) C dX9_apply_9 (fun _ h => mtX9_sheetOf (xl X) (xg X) n M v1 v2 h) (cwV 2 C.2.2.1 gX9_apply_X9_sheetOf rfl rfl rfl (by decide +kernel) ⟨Nat.le_of_ble_eq_true rfl, Nat.le_of_ble_eq_true rfl⟩) (zz0 (G := xg X) Nat.one_pos) (T := TX9) rfl rfl rfl (Nat.le_of_ble_eq_true rfl) (t2 := 25) (N2 := 40) (fun _ h => bX9_sheetOf h) (fun q3 hq3 => ?_)
  refine ms_astore_n (L' := [(3, .ref (xad X 25 q3)), (0, .ref (xad X 0 0)), (1, .ref (xad X 30 a0)), (2, .int a1)]) C dX9_apply_12 rfl (by decide) rfl ?_
  refine ms_aload_n C dX9_apply_13 2 rfl ?_
  refine ms_geti C dX9_apply_14 (zz30 (G := xg X) ha0) (k := 0) (Nat.le_of_ble_eq_true rfl) rfl (Cn := RX0) (T := TX0) rfl inX0_X9_apply rfl (by decide +kernel) (fun v4 => ?_)
  refine ms_iconst C (3 : Int32) dX9_apply_17 (by decide) ?_
  refine ms_icmp_ne (tgt := 29) C dX9_apply_18 (by decide) (fun c5 => ?_) (fun c5 => ?_)
  · refine ms_aload_n C dX9_apply_29 2 rfl ?_
    refine ms_geti C dX9_apply_30 (zz30 (G := xg X) ha0) (k := 0) (Nat.le_of_ble_eq_true rfl) rfl (Cn := RX0) (T := TX0) rfl inX0_X9_apply rfl (by decide +kernel) (fun v6 => ?_)
    refine ms_bipush C (6 : Int32) dX9_apply_33 (by decide) ?_
    refine ms_icmp_ne (tgt := 69) C dX9_apply_35 (by decide) (fun c7 => ?_) (fun c7 => ?_)
    · refine ms_aload_n C dX9_apply_69 1 rfl ?_
      refine ms_getr C dX9_apply_70 (zz0 (G := xg X) Nat.one_pos) (k := 0) (Nat.le_of_ble_eq_true rfl) (b := xad X 1 0) rfl (Cn := RX9) (T := TX9) rfl inX9_X9_apply rfl (by decide +kernel) ?_
      refine ms_aload_n C dX9_apply_73 2 rfl ?_
      refine ms_geti C dX9_apply_74 (zz30 (G := xg X) ha0) (k := 2) (Nat.le_of_ble_eq_true rfl) rfl (Cn := RX0) (T := TX0) rfl inX0_X9_apply rfl (by decide +kernel) (fun v8 => ?_)
      refine ms_ald C dX9_apply_77 (zz1 (G := xg X) Nat.one_pos) rfl rfl (fun q9 hq9 => ?_)
      refine ms_aload_n C dX9_apply_78 2 rfl ?_
      refine ms_geti C dX9_apply_79 (zz30 (G := xg X) ha0) (k := 0) (Nat.le_of_ble_eq_true rfl) rfl (Cn := RX0) (T := TX0) rfl inX0_X9_apply rfl (by decide +kernel) (fun v10 => ?_)
      refine ms_aload_n C dX9_apply_82 2 rfl ?_
      refine ms_geti C dX9_apply_83 (zz30 (G := xg X) ha0) (k := 1) (Nat.le_of_ble_eq_true rfl) rfl (Cn := RX0) (T := TX0) rfl inX0_X9_apply rfl (by decide +kernel) (fun v11 => ?_)
      refine ms_iload_n C dX9_apply_86 3 rfl ?_
      refine ms_aload_n C dX9_apply_87 2 rfl ?_
      refine ms_geti C dX9_apply_88 (zz30 (G := xg X) ha0) (k := 3) (Nat.le_of_ble_eq_true rfl) rfl (Cn := RX0) (T := TX0) rfl inX0_X9_apply rfl (by decide +kernel) (fun v12 => ?_)
      refine ms_imul C dX9_apply_91 (fun v13 => ?_)
      refine ms_callVv (As := [.int v10, .int v11, .int v13]) C dX9_apply_92 (fun _ h => mtX4_move (xl X) (xg X) n M q9 v10 v11 v13 hq9 h) (cwV 3 C.2.2.1 gX9_apply_X4_move rfl rfl rfl (by decide +kernel) ⟨Nat.le_of_ble_eq_true rfl, Nat.le_of_ble_eq_true rfl⟩) (zz20 (G := xg X) hq9) (T := TX4) rfl rfl rfl (Nat.le_of_ble_eq_true rfl) (fun M14 => ?_)
      exact ms_vretm C hR dX9_apply_95
    · refine ms_aload_n C dX9_apply_38 0 rfl ?_
      refine ms_getr C dX9_apply_39 (zz25 (G := xg X) hq3) (k := 2) (Nat.le_of_ble_eq_true rfl) (b := xad X 27 q3) rfl (Cn := RX7) (T := TX7) rfl inX7_X9_apply rfl (by decide +kernel) ?_
      refine ms_aload_n C dX9_apply_42 2 rfl ?_
      refine ms_geti C dX9_apply_43 (zz30 (G := xg X) ha0) (k := 2) (Nat.le_of_ble_eq_true rfl) rfl (Cn := RX0) (T := TX0) rfl inX0_X9_apply rfl (by decide +kernel) (fun v15 => ?_)
      refine ms_iload_n C dX9_apply_46 3 rfl ?_
      refine ms_if_le (tgt := 54) C dX9_apply_47 (by decide) (fun c16 => ?_) (fun c16 => ?_)
      · refine ms_iconst C (0 : Int32) dX9_apply_54 (by decide) ?_
        refine ms_zst C dX9_apply_55 (zz27 (G := xg X) hq3) rfl (fun _ M17 => ?_)
        refine ms_aload_n C dX9_apply_56 0 rfl ?_
        refine ms_getr C dX9_apply_57 (zz25 (G := xg X) hq3) (k := 3) (Nat.le_of_ble_eq_true rfl) (b := xad X 28 q3) rfl (Cn := RX7) (T := TX7) rfl inX7_X9_apply rfl (by decide +kernel) ?_
        refine ms_aload_n C dX9_apply_60 2 rfl ?_
        refine ms_geti C dX9_apply_61 (zz30 (G := xg X) ha0) (k := 2) (Nat.le_of_ble_eq_true rfl) rfl (Cn := RX0) (T := TX0) rfl inX0_X9_apply rfl (by decide +kernel) (fun v18 => ?_)
        refine ms_aload_n C dX9_apply_64 2 rfl ?_
        refine ms_geti C dX9_apply_65 (zz30 (G := xg X) ha0) (k := 3) (Nat.le_of_ble_eq_true rfl) rfl (Cn := RX0) (T := TX0) rfl inX0_X9_apply rfl (by decide +kernel) (fun v19 => ?_)
        refine ms_st C dX9_apply_68 (zz28 (G := xg X) hq3) rfl (fun _ M20 => ?_)
        refine ms_aload_n C dX9_apply_69 1 rfl ?_
        refine ms_getr C dX9_apply_70 (zz0 (G := xg X) Nat.one_pos) (k := 0) (Nat.le_of_ble_eq_true rfl) (b := xad X 1 0) rfl (Cn := RX9) (T := TX9) rfl inX9_X9_apply rfl (by decide +kernel) ?_
        refine ms_aload_n C dX9_apply_73 2 rfl ?_
        refine ms_geti C dX9_apply_74 (zz30 (G := xg X) ha0) (k := 2) (Nat.le_of_ble_eq_true rfl) rfl (Cn := RX0) (T := TX0) rfl inX0_X9_apply rfl (by decide +kernel) (fun v21 => ?_)
        refine ms_ald C dX9_apply_77 (zz1 (G := xg X) Nat.one_pos) rfl rfl (fun q22 hq22 => ?_)
        refine ms_aload_n C dX9_apply_78 2 rfl ?_
        refine ms_geti C dX9_apply_79 (zz30 (G := xg X) ha0) (k := 0) (Nat.le_of_ble_eq_true rfl) rfl (Cn := RX0) (T := TX0) rfl inX0_X9_apply rfl (by decide +kernel) (fun v23 => ?_)
        refine ms_aload_n C dX9_apply_82 2 rfl ?_
        refine ms_geti C dX9_apply_83 (zz30 (G := xg X) ha0) (k := 1) (Nat.le_of_ble_eq_true rfl) rfl (Cn := RX0) (T := TX0) rfl inX0_X9_apply rfl (by decide +kernel) (fun v24 => ?_)
        refine ms_iload_n C dX9_apply_86 3 rfl ?_
        refine ms_aload_n C dX9_apply_87 2 rfl ?_
        refine ms_geti C dX9_apply_88 (zz30 (G := xg X) ha0) (k := 3) (Nat.le_of_ble_eq_true rfl) rfl (Cn := RX0) (T := TX0) rfl inX0_X9_apply rfl (by decide +kernel) (fun v25 => ?_)
        refine ms_imul C dX9_apply_91 (fun v26 => ?_)
        refine ms_callVv (As := [.int v23, .int v24, .int v26]) C dX9_apply_92 (fun _ h => mtX4_move (xl X) (xg X) n M20 q22 v23 v24 v26 hq22 h) (cwV 3 C.2.2.1 gX9_apply_X4_move rfl rfl rfl (by decide +kernel) ⟨Nat.le_of_ble_eq_true rfl, Nat.le_of_ble_eq_true rfl⟩) (zz20 (G := xg X) hq22) (T := TX4) rfl rfl rfl (Nat.le_of_ble_eq_true rfl) (fun M27 => ?_)
        exact ms_vretm C hR dX9_apply_95
      · refine ms_iconst C (1 : Int32) dX9_apply_50 (by decide) ?_
        refine ms_goto (tgt := 55) C dX9_apply_51 (by decide) ?_
        refine ms_zst C dX9_apply_55 (zz27 (G := xg X) hq3) rfl (fun _ M28 => ?_)
        refine ms_aload_n C dX9_apply_56 0 rfl ?_
        refine ms_getr C dX9_apply_57 (zz25 (G := xg X) hq3) (k := 3) (Nat.le_of_ble_eq_true rfl) (b := xad X 28 q3) rfl (Cn := RX7) (T := TX7) rfl inX7_X9_apply rfl (by decide +kernel) ?_
        refine ms_aload_n C dX9_apply_60 2 rfl ?_
        refine ms_geti C dX9_apply_61 (zz30 (G := xg X) ha0) (k := 2) (Nat.le_of_ble_eq_true rfl) rfl (Cn := RX0) (T := TX0) rfl inX0_X9_apply rfl (by decide +kernel) (fun v29 => ?_)
        refine ms_aload_n C dX9_apply_64 2 rfl ?_
        refine ms_geti C dX9_apply_65 (zz30 (G := xg X) ha0) (k := 3) (Nat.le_of_ble_eq_true rfl) rfl (Cn := RX0) (T := TX0) rfl inX0_X9_apply rfl (by decide +kernel) (fun v30 => ?_)
        refine ms_st C dX9_apply_68 (zz28 (G := xg X) hq3) rfl (fun _ M31 => ?_)
        refine ms_aload_n C dX9_apply_69 1 rfl ?_
        refine ms_getr C dX9_apply_70 (zz0 (G := xg X) Nat.one_pos) (k := 0) (Nat.le_of_ble_eq_true rfl) (b := xad X 1 0) rfl (Cn := RX9) (T := TX9) rfl inX9_X9_apply rfl (by decide +kernel) ?_
        refine ms_aload_n C dX9_apply_73 2 rfl ?_
        refine ms_geti C dX9_apply_74 (zz30 (G := xg X) ha0) (k := 2) (Nat.le_of_ble_eq_true rfl) rfl (Cn := RX0) (T := TX0) rfl inX0_X9_apply rfl (by decide +kernel) (fun v32 => ?_)
        refine ms_ald C dX9_apply_77 (zz1 (G := xg X) Nat.one_pos) rfl rfl (fun q33 hq33 => ?_)
        refine ms_aload_n C dX9_apply_78 2 rfl ?_
        refine ms_geti C dX9_apply_79 (zz30 (G := xg X) ha0) (k := 0) (Nat.le_of_ble_eq_true rfl) rfl (Cn := RX0) (T := TX0) rfl inX0_X9_apply rfl (by decide +kernel) (fun v34 => ?_)
        refine ms_aload_n C dX9_apply_82 2 rfl ?_
        refine ms_geti C dX9_apply_83 (zz30 (G := xg X) ha0) (k := 1) (Nat.le_of_ble_eq_true rfl) rfl (Cn := RX0) (T := TX0) rfl inX0_X9_apply rfl (by decide +kernel) (fun v35 => ?_)
        refine ms_iload_n C dX9_apply_86 3 rfl ?_
        refine ms_aload_n C dX9_apply_87 2 rfl ?_
        refine ms_geti C dX9_apply_88 (zz30 (G := xg X) ha0) (k := 3) (Nat.le_of_ble_eq_true rfl) rfl (Cn := RX0) (T := TX0) rfl inX0_X9_apply rfl (by decide +kernel) (fun v36 => ?_)
        refine ms_imul C dX9_apply_91 (fun v37 => ?_)
        refine ms_callVv (As := [.int v34, .int v35, .int v37]) C dX9_apply_92 (fun _ h => mtX4_move (xl X) (xg X) n M31 q33 v34 v35 v37 hq33 h) (cwV 3 C.2.2.1 gX9_apply_X4_move rfl rfl rfl (by decide +kernel) ⟨Nat.le_of_ble_eq_true rfl, Nat.le_of_ble_eq_true rfl⟩) (zz20 (G := xg X) hq33) (T := TX4) rfl rfl rfl (Nat.le_of_ble_eq_true rfl) (fun M38 => ?_)
        exact ms_vretm C hR dX9_apply_95
  · refine ms_aload_n C dX9_apply_21 1 rfl ?_
    refine ms_aload_n C dX9_apply_22 2 rfl ?_
    refine ms_aload_n C dX9_apply_23 0 rfl ?_
    refine ms_iload_n C dX9_apply_24 3 rfl ?_
    refine ms_callVv (As := [.ref (xad X 30 a0), .ref (xad X 25 q3), .int a1]) C dX9_apply_25 (fun _ h => mtX9_applySale (xl X) (xg X) n M a0 q3 a1 ha0 hq3 h) (cwV 3 C.2.2.1 gX9_apply_X9_applySale rfl rfl rfl (by decide +kernel) ⟨Nat.le_of_ble_eq_true rfl, Nat.le_of_ble_eq_true rfl⟩) (zz0 (G := xg X) Nat.one_pos) (T := TX9) rfl rfl rfl (Nat.le_of_ble_eq_true rfl) (fun M39 => ?_)
    exact ms_vretm C hR dX9_apply_28
def rmX9_carryOut : Room := { frames := 3, cells := 0, slots := 0, locals := 71 }
theorem inX0_X9_carryOut : ∀ w ∈ wsX00, w ∈ wsX9_carryOut := by decide +kernel
theorem inX9_X9_carryOut : ∀ w ∈ wsX90, w ∈ wsX9_carryOut := by decide +kernel
set_option maxRecDepth 100000 in
set_option maxHeartbeats 4000000 in
theorem mtX9_carryOut (l : Launch) (G : mh_G) (n : Nat) (M : mh_M) (a0 : Int32) (a1 : Int32) (a2 : Int32) (a3 : Int32) (a4 : Int32) {z : mh_M} (ho : fX9_carryOut n M a0 a1 a2 a3 a4 = some z) : Met l yX9_carryOut wsX9_carryOut rmX9_carryOut (mh_Pc G M [.ref (G.2.2 0 0), .int a0, .int a1, .int a2, .int a3, .int a4]) (mh_Q G z none) 0 0 (mh_dom G) := by
  refine mh_met (cc := cX9_carryOut) (maxL := 7) (ret := none) (by decide) rfl (Nat.le_of_ble_eq_true rfl) ho ?_
  rintro X rfl rfl C hR
  show mh_W X rmX9_carryOut 7 _ z M 0 [(0, .ref (xad X 0 0)), (1, .int a0), (2, .int a1), (3, .int a2), (4, .int a3), (5, .int a4)] []
  replace C : mh_C X rmX9_carryOut cX9_carryOut wsX9_carryOut RX9 7 := C
  unfold fX9_carryOut
  refine ms_aload_n C dX9_carryOut_0 0 rfl ?_
  refine ms_getr C dX9_carryOut_1 (zz0 (G := xg X) Nat.one_pos) (k := 7) (Nat.le_of_ble_eq_true rfl) (b := xad X 5 0) rfl (Cn := RX9) (T := TX9) rfl inX9_X9_carryOut rfl (by decide +kernel) ?_
  refine ms_callVq (As := []) C dX9_carryOut_4 (fun _ h => mtX1_nextRow (xl X) (xg X) n M h) (cwV 0 C.2.2.1 gX9_carryOut_X1_nextRow rfl rfl rfl (by decide +kernel) ⟨Nat.le_of_ble_eq_true rfl, Nat.le_of_ble_eq_true rfl⟩) (zz5 (G := xg X) Nat.one_pos) (T := TX1) rfl rfl rfl (Nat.le_of_ble_eq_true rfl) (t2 := 30) (N2 := 40) (fun _ _ h => bX1_nextRow h) (fun M1 q2 hq2 => ?_)
  refine ms_astore (L' := [(6, .ref (xad X 30 q2)), (0, .ref (xad X 0 0)), (1, .int a0), (2, .int a1), (3, .int a2), (4, .int a3), (5, .int a4)]) C dX9_carryOut_7 (by decide) rfl ?_
  refine ms_aload C dX9_carryOut_9 0 rfl ?_
  refine ms_iload_n C dX9_carryOut_11 2 rfl ?_
  refine ms_puti C dX9_carryOut_12 tyX0 tyX0_ok nmX0 (zz30 (G := xg X) hq2) (k := 0) (Nat.le_of_ble_eq_true rfl) rfl (Cn := RX0) (T := TX0) rfl inX0_X9_carryOut rfl (by decide +kernel) rfl (by decide +kernel) (fun M3 => ?_)
  refine ms_aload C dX9_carryOut_15 0 rfl ?_
  refine ms_iload_n C dX9_carryOut_17 3 rfl ?_
  refine ms_puti C dX9_carryOut_18 tyX0 tyX0_ok nmX0 (zz30 (G := xg X) hq2) (k := 1) (Nat.le_of_ble_eq_true rfl) rfl (Cn := RX0) (T := TX0) rfl inX0_X9_carryOut rfl (by decide +kernel) rfl (by decide +kernel) (fun M4 => ?_)
  refine ms_aload C dX9_carryOut_21 0 rfl ?_
  refine ms_iload_n C dX9_carryOut_23 4 rfl ?_
  refine ms_puti C dX9_carryOut_24 tyX0 tyX0_ok nmX0 (zz30 (G := xg X) hq2) (k := 2) (Nat.le_of_ble_eq_true rfl) rfl (Cn := RX0) (T := TX0) rfl inX0_X9_carryOut rfl (by decide +kernel) rfl (by decide +kernel) (fun M5 => ?_)
  refine ms_aload C dX9_carryOut_27 0 rfl ?_
  refine ms_iload C dX9_carryOut_29 5 rfl ?_
  refine ms_puti C dX9_carryOut_31 tyX0 tyX0_ok nmX0 (zz30 (G := xg X) hq2) (k := 3) (Nat.le_of_ble_eq_true rfl) rfl (Cn := RX0) (T := TX0) rfl inX0_X9_carryOut rfl (by decide +kernel) rfl (by decide +kernel) (fun M6 => ?_)
  refine ms_aload C dX9_carryOut_34 0 rfl ?_
  refine ms_iload C dX9_carryOut_36 6 rfl ?_
  refine ms_puti C dX9_carryOut_38 tyX0 tyX0_ok nmX0 (zz30 (G := xg X) hq2) (k := 4) (Nat.le_of_ble_eq_true rfl) rfl (Cn := RX0) (T := TX0) rfl inX0_X9_carryOut rfl (by decide +kernel) rfl (by decide +kernel) (fun M7 => ?_)
  refine ms_aload_n C dX9_carryOut_41 1 rfl ?_
  refine ms_aload C dX9_carryOut_42 0 rfl ?_
  refine ms_iconst C (1 : Int32) dX9_carryOut_44 (by decide) ?_
  refine ms_callVv (As := [.ref (xad X 30 q2), .int (1 : Int32)]) C dX9_carryOut_45 (fun _ h => mtX9_apply (xl X) (xg X) n M7 q2 (1 : Int32) hq2 h) (cwV 2 C.2.2.1 gX9_carryOut_X9_apply rfl rfl rfl (by decide +kernel) ⟨Nat.le_of_ble_eq_true rfl, Nat.le_of_ble_eq_true rfl⟩) (zz0 (G := xg X) Nat.one_pos) (T := TX9) rfl rfl rfl (Nat.le_of_ble_eq_true rfl) (fun M8 => ?_)
  exact ms_vretm C hR dX9_carryOut_48
def rmX9_receive : Room := { frames := 4, cells := 0, slots := 0, locals := 97 }
theorem inX4_X9_receive : ∀ w ∈ wsX40, w ∈ wsX9_receive := by decide +kernel
theorem inX9_X9_receive : ∀ w ∈ wsX90, w ∈ wsX9_receive := by decide +kernel
set_option maxRecDepth 100000 in
set_option maxHeartbeats 4000000 in
theorem mtX9_receive (l : Launch) (G : mh_G) (n : Nat) (M : mh_M) (a0 : Int32) (a1 : Int32) {z : mh_M × Int32} (ho : fX9_receive n M a0 a1 = some z) : Met l yX9_receive wsX9_receive rmX9_receive (mh_Pc G M [.ref (G.2.2 0 0), .int a0, .int a1]) (mh_Q G z.1 (some (.int z.2))) 0 0 (mh_dom G) := by
  refine mh_met (cc := cX9_receive) (maxL := 3) (ret := (some .int)) (by decide) rfl (Nat.le_of_ble_eq_true rfl) ho ?_
  rintro X rfl rfl C hR
  show mh_W X rmX9_receive 3 _ z M 0 [(0, .ref (xad X 0 0)), (1, .int a0), (2, .int a1)] []
  replace C : mh_C X rmX9_receive cX9_receive wsX9_receive RX9 3 := C
  unfold fX9_receive
  refine ms_aload_n C dX9_receive_0 0 rfl ?_
  refine ms_iload_n C dX9_receive_1 1 rfl ?_
  refine ms_callVi (As := [.int a0]) C dX9_receive_2 (fun _ h => mtX9_isKind (xl X) (xg X) n M a0 h) (cwV 1 C.2.2.1 gX9_receive_X9_isKind rfl rfl rfl (by decide +kernel) ⟨Nat.le_of_ble_eq_true rfl, Nat.le_of_ble_eq_true rfl⟩) (zz0 (G := xg X) Nat.one_pos) (T := TX9) rfl rfl rfl (Nat.le_of_ble_eq_true rfl) (fun v1 => ?_)
  refine ms_if_eq (tgt := 18) C dX9_receive_5 (by decide) (fun c2 => ?_) (fun c2 => ?_)
  · refine ms_iconst C (-1 : Int32) dX9_receive_18 (by decide) ?_
    exact ms_iretm C hR rfl dX9_receive_19
  · refine ms_iload_n C dX9_receive_8 2 rfl ?_
    refine ms_iconst C (1 : Int32) dX9_receive_9 (by decide) ?_
    refine ms_bipush C (100 : Int32) dX9_receive_10 (by decide) ?_
    refine ms_callSi (As := [.int a1, .int (1 : Int32), .int (100 : Int32)]) C dX9_receive_12 (fun _ h => mtX9_isIn (xl X) (xg X) n M a1 (1 : Int32) (100 : Int32) h) (va_cwS 3 C.2.2.1 gX9_receive_X9_isIn rfl rfl rfl (by decide +kernel) ⟨Nat.le_of_ble_eq_true rfl, Nat.le_of_ble_eq_true rfl⟩) rfl rfl (Nat.le_of_ble_eq_true rfl) (fun v3 => ?_)
    refine ms_if_ne (tgt := 20) C dX9_receive_15 (by decide) (fun c4 => ?_) (fun c4 => ?_)
    · refine ms_aload_n C dX9_receive_20 0 rfl ?_
      refine ms_getr C dX9_receive_21 (zz0 (G := xg X) Nat.one_pos) (k := 0) (Nat.le_of_ble_eq_true rfl) (b := xad X 1 0) rfl (Cn := RX9) (T := TX9) rfl inX9_X9_receive rfl (by decide +kernel) ?_
      refine ms_iload_n C dX9_receive_24 1 rfl ?_
      refine ms_ald C dX9_receive_25 (zz1 (G := xg X) Nat.one_pos) rfl rfl (fun q5 hq5 => ?_)
      refine ms_geti C dX9_receive_26 (zz20 (G := xg X) hq5) (k := 3) (Nat.le_of_ble_eq_true rfl) rfl (Cn := RX4) (T := TX4) rfl inX4_X9_receive rfl (by decide +kernel) (fun v6 => ?_)
      refine ms_iload_n C dX9_receive_29 2 rfl ?_
      refine ms_iadd C dX9_receive_30 (fun v7 => ?_)
      refine ms_sipush C (1000 : Int32) dX9_receive_31 (by decide) ?_
      refine ms_icmp_le (tgt := 40) C dX9_receive_34 (by decide) (fun c8 => ?_) (fun c8 => ?_)
      · refine ms_aload_n C dX9_receive_40 0 rfl ?_
        refine ms_iconst C (0 : Int32) dX9_receive_41 (by decide) ?_
        refine ms_iconst C (0 : Int32) dX9_receive_42 (by decide) ?_
        refine ms_iload_n C dX9_receive_43 1 rfl ?_
        refine ms_iload_n C dX9_receive_44 2 rfl ?_
        refine ms_iconst C (0 : Int32) dX9_receive_45 (by decide) ?_
        refine ms_callVv (As := [.int (0 : Int32), .int (0 : Int32), .int a0, .int a1, .int (0 : Int32)]) C dX9_receive_46 (fun _ h => mtX9_carryOut (xl X) (xg X) n M (0 : Int32) (0 : Int32) a0 a1 (0 : Int32) h) (cwV 5 C.2.2.1 gX9_receive_X9_carryOut rfl rfl rfl (by decide +kernel) ⟨Nat.le_of_ble_eq_true rfl, Nat.le_of_ble_eq_true rfl⟩) (zz0 (G := xg X) Nat.one_pos) (T := TX9) rfl rfl rfl (Nat.le_of_ble_eq_true rfl) (fun M9 => ?_)
        refine ms_aload_n C dX9_receive_49 0 rfl ?_
        refine ms_getr C dX9_receive_50 (zz0 (G := xg X) Nat.one_pos) (k := 0) (Nat.le_of_ble_eq_true rfl) (b := xad X 1 0) rfl (Cn := RX9) (T := TX9) rfl inX9_X9_receive rfl (by decide +kernel) ?_
        refine ms_iload_n C dX9_receive_53 1 rfl ?_
        refine ms_ald C dX9_receive_54 (zz1 (G := xg X) Nat.one_pos) rfl rfl (fun q10 hq10 => ?_)
        refine ms_geti C dX9_receive_55 (zz20 (G := xg X) hq10) (k := 3) (Nat.le_of_ble_eq_true rfl) rfl (Cn := RX4) (T := TX4) rfl inX4_X9_receive rfl (by decide +kernel) (fun v11 => ?_)
        exact ms_iretm C hR rfl dX9_receive_58
      · refine ms_bipush C (-3 : Int32) dX9_receive_37 (by decide) ?_
        exact ms_iretm C hR rfl dX9_receive_39
    · refine ms_iconst C (-1 : Int32) dX9_receive_18 (by decide) ?_
      exact ms_iretm C hR rfl dX9_receive_19
def rmX9_isBar : Room := { frames := 1, cells := 0, slots := 0, locals := 22 }
set_option maxRecDepth 100000 in
set_option maxHeartbeats 4000000 in
theorem mtX9_isBar (l : Launch) (G : mh_G) (n : Nat) (M : mh_M) (a0 : Int32) {z : Int32} (ho : fX9_isBar n M a0 = some z) : Met l yX9_isBar wsX9_isBar rmX9_isBar (mh_Pc G M [.int a0]) (mh_Q G M (some (.int z))) 0 0 (mh_dom G) := by
  refine mh_met (cc := cX9_isBar) (maxL := 1) (ret := (some .boolean)) (by decide) rfl (Nat.le_of_ble_eq_true rfl) ho ?_
  rintro X rfl rfl C hR
  show mh_W X rmX9_isBar 1 _ z M 0 [(0, .int a0)] []
  replace C : mh_C X rmX9_isBar cX9_isBar wsX9_isBar RX9 1 := C
  unfold fX9_isBar
  refine ms_iload_n C dX9_isBar_0 0 rfl ?_
  refine ms_iconst C (0 : Int32) dX9_isBar_1 (by decide) ?_
  refine ms_iconst C (1 : Int32) dX9_isBar_2 (by decide) ?_
  refine ms_callSb (As := [.int a0, .int (0 : Int32), .int (1 : Int32)]) C dX9_isBar_3 (fun _ h => mtX9_isIn (xl X) (xg X) n M a0 (0 : Int32) (1 : Int32) h) (va_cwS 3 C.2.2.1 gX9_isBar_X9_isIn rfl rfl rfl (by decide +kernel) ⟨Nat.le_of_ble_eq_true rfl, Nat.le_of_ble_eq_true rfl⟩) rfl rfl (Nat.le_of_ble_eq_true rfl) (fun _ h => bX9_isIn h) (fun v1 hv1 => ?_)
  exact ms_ireti C hR rfl hv1 dX9_isBar_6
def rmX9_issue : Room := { frames := 4, cells := 0, slots := 0, locals := 97 }
theorem inX4_X9_issue : ∀ w ∈ wsX40, w ∈ wsX9_issue := by decide +kernel
theorem inX9_X9_issue : ∀ w ∈ wsX90, w ∈ wsX9_issue := by decide +kernel
set_option maxRecDepth 100000 in
set_option maxHeartbeats 4000000 in
theorem mtX9_issue (l : Launch) (G : mh_G) (n : Nat) (M : mh_M) (a0 : Int32) (a1 : Int32) (a2 : Int32) {z : mh_M × Int32} (ho : fX9_issue n M a0 a1 a2 = some z) : Met l yX9_issue wsX9_issue rmX9_issue (mh_Pc G M [.ref (G.2.2 0 0), .int a0, .int a1, .int a2]) (mh_Q G z.1 (some (.int z.2))) 0 0 (mh_dom G) := by
  refine mh_met (cc := cX9_issue) (maxL := 4) (ret := (some .int)) (by decide) rfl (Nat.le_of_ble_eq_true rfl) ho ?_
  rintro X rfl rfl C hR
  show mh_W X rmX9_issue 4 _ z M 0 [(0, .ref (xad X 0 0)), (1, .int a0), (2, .int a1), (3, .int a2)] []
  replace C : mh_C X rmX9_issue cX9_issue wsX9_issue RX9 4 := C
  unfold fX9_issue
  refine ms_iload_n C dX9_issue_0 1 rfl ?_
  refine ms_callSi (As := [.int a0]) C dX9_issue_1 (fun _ h => mtX9_isBar (xl X) (xg X) n M a0 h) (va_cwS 1 C.2.2.1 gX9_issue_X9_isBar rfl rfl rfl (by decide +kernel) ⟨Nat.le_of_ble_eq_true rfl, Nat.le_of_ble_eq_true rfl⟩) rfl rfl (Nat.le_of_ble_eq_true rfl) (fun v1 => ?_)
  refine ms_if_eq (tgt := 25) C dX9_issue_4 (by decide) (fun c2 => ?_) (fun c2 => ?_)
  · refine ms_ldc C (-1000000000 : Int32) dX9_issue_25 (by decide +kernel) ?_
    exact ms_iretm C hR rfl dX9_issue_27
  · refine ms_aload_n C dX9_issue_7 0 rfl ?_
    refine ms_iload_n C dX9_issue_8 2 rfl ?_
    refine ms_callVi (As := [.int a1]) C dX9_issue_9 (fun _ h => mtX9_isKind (xl X) (xg X) n M a1 h) (cwV 1 C.2.2.1 gX9_issue_X9_isKind rfl rfl rfl (by decide +kernel) ⟨Nat.le_of_ble_eq_true rfl, Nat.le_of_ble_eq_true rfl⟩) (zz0 (G := xg X) Nat.one_pos) (T := TX9) rfl rfl rfl (Nat.le_of_ble_eq_true rfl) (fun v3 => ?_)
    refine ms_if_eq (tgt := 25) C dX9_issue_12 (by decide) (fun c4 => ?_) (fun c4 => ?_)
    · refine ms_ldc C (-1000000000 : Int32) dX9_issue_25 (by decide +kernel) ?_
      exact ms_iretm C hR rfl dX9_issue_27
    · refine ms_iload_n C dX9_issue_15 3 rfl ?_
      refine ms_iconst C (1 : Int32) dX9_issue_16 (by decide) ?_
      refine ms_bipush C (100 : Int32) dX9_issue_17 (by decide) ?_
      refine ms_callSi (As := [.int a2, .int (1 : Int32), .int (100 : Int32)]) C dX9_issue_19 (fun _ h => mtX9_isIn (xl X) (xg X) n M a2 (1 : Int32) (100 : Int32) h) (va_cwS 3 C.2.2.1 gX9_issue_X9_isIn rfl rfl rfl (by decide +kernel) ⟨Nat.le_of_ble_eq_true rfl, Nat.le_of_ble_eq_true rfl⟩) rfl rfl (Nat.le_of_ble_eq_true rfl) (fun v5 => ?_)
      refine ms_if_ne (tgt := 28) C dX9_issue_22 (by decide) (fun c6 => ?_) (fun c6 => ?_)
      · refine ms_aload_n C dX9_issue_28 0 rfl ?_
        refine ms_getr C dX9_issue_29 (zz0 (G := xg X) Nat.one_pos) (k := 0) (Nat.le_of_ble_eq_true rfl) (b := xad X 1 0) rfl (Cn := RX9) (T := TX9) rfl inX9_X9_issue rfl (by decide +kernel) ?_
        refine ms_iload_n C dX9_issue_32 2 rfl ?_
        refine ms_ald C dX9_issue_33 (zz1 (G := xg X) Nat.one_pos) rfl rfl (fun q7 hq7 => ?_)
        refine ms_geti C dX9_issue_34 (zz20 (G := xg X) hq7) (k := 3) (Nat.le_of_ble_eq_true rfl) rfl (Cn := RX4) (T := TX4) rfl inX4_X9_issue rfl (by decide +kernel) (fun v8 => ?_)
        refine ms_iload_n C dX9_issue_37 3 rfl ?_
        refine ms_icmp_ge (tgt := 44) C dX9_issue_38 (by decide) (fun c9 => ?_) (fun c9 => ?_)
        · refine ms_aload_n C dX9_issue_44 0 rfl ?_
          refine ms_iconst C (1 : Int32) dX9_issue_45 (by decide) ?_
          refine ms_iload_n C dX9_issue_46 1 rfl ?_
          refine ms_iload_n C dX9_issue_47 2 rfl ?_
          refine ms_iload_n C dX9_issue_48 3 rfl ?_
          refine ms_iconst C (0 : Int32) dX9_issue_49 (by decide) ?_
          refine ms_callVv (As := [.int (1 : Int32), .int a0, .int a1, .int a2, .int (0 : Int32)]) C dX9_issue_50 (fun _ h => mtX9_carryOut (xl X) (xg X) n M (1 : Int32) a0 a1 a2 (0 : Int32) h) (cwV 5 C.2.2.1 gX9_issue_X9_carryOut rfl rfl rfl (by decide +kernel) ⟨Nat.le_of_ble_eq_true rfl, Nat.le_of_ble_eq_true rfl⟩) (zz0 (G := xg X) Nat.one_pos) (T := TX9) rfl rfl rfl (Nat.le_of_ble_eq_true rfl) (fun M10 => ?_)
          refine ms_aload_n C dX9_issue_53 0 rfl ?_
          refine ms_getr C dX9_issue_54 (zz0 (G := xg X) Nat.one_pos) (k := 0) (Nat.le_of_ble_eq_true rfl) (b := xad X 1 0) rfl (Cn := RX9) (T := TX9) rfl inX9_X9_issue rfl (by decide +kernel) ?_
          refine ms_iload_n C dX9_issue_57 2 rfl ?_
          refine ms_ald C dX9_issue_58 (zz1 (G := xg X) Nat.one_pos) rfl rfl (fun q11 hq11 => ?_)
          refine ms_getr C dX9_issue_59 (zz20 (G := xg X) hq11) (k := 5) (Nat.le_of_ble_eq_true rfl) (b := xad X 21 q11) rfl (Cn := RX4) (T := TX4) rfl inX4_X9_issue rfl (by decide +kernel) ?_
          refine ms_iload_n C dX9_issue_62 1 rfl ?_
          refine ms_ld C dX9_issue_63 (zz21 (G := xg X) hq11) rfl (fun _ v12 => ?_)
          exact ms_iretm C hR rfl dX9_issue_64
        · refine ms_ldc C (-1000000002 : Int32) dX9_issue_41 (by decide +kernel) ?_
          exact ms_iretm C hR rfl dX9_issue_43
      · refine ms_ldc C (-1000000000 : Int32) dX9_issue_25 (by decide +kernel) ?_
        exact ms_iretm C hR rfl dX9_issue_27
def rmX9_lend : Room := { frames := 4, cells := 0, slots := 0, locals := 97 }
theorem inX4_X9_lend : ∀ w ∈ wsX40, w ∈ wsX9_lend := by decide +kernel
theorem inX9_X9_lend : ∀ w ∈ wsX90, w ∈ wsX9_lend := by decide +kernel
set_option maxRecDepth 100000 in
set_option maxHeartbeats 4000000 in
theorem mtX9_lend (l : Launch) (G : mh_G) (n : Nat) (M : mh_M) (a0 : Int32) (a1 : Int32) (a2 : Int32) {z : mh_M × Int32} (ho : fX9_lend n M a0 a1 a2 = some z) : Met l yX9_lend wsX9_lend rmX9_lend (mh_Pc G M [.ref (G.2.2 0 0), .int a0, .int a1, .int a2]) (mh_Q G z.1 (some (.int z.2))) 0 0 (mh_dom G) := by
  refine mh_met (cc := cX9_lend) (maxL := 4) (ret := (some .int)) (by decide) rfl (Nat.le_of_ble_eq_true rfl) ho ?_
  rintro X rfl rfl C hR
  show mh_W X rmX9_lend 4 _ z M 0 [(0, .ref (xad X 0 0)), (1, .int a0), (2, .int a1), (3, .int a2)] []
  replace C : mh_C X rmX9_lend cX9_lend wsX9_lend RX9 4 := C
  unfold fX9_lend
  refine ms_iload_n C dX9_lend_0 1 rfl ?_
  refine ms_callSi (As := [.int a0]) C dX9_lend_1 (fun _ h => mtX9_isBar (xl X) (xg X) n M a0 h) (va_cwS 1 C.2.2.1 gX9_lend_X9_isBar rfl rfl rfl (by decide +kernel) ⟨Nat.le_of_ble_eq_true rfl, Nat.le_of_ble_eq_true rfl⟩) rfl rfl (Nat.le_of_ble_eq_true rfl) (fun v1 => ?_)
  refine ms_if_eq (tgt := 26) C dX9_lend_4 (by decide) (fun c2 => ?_) (fun c2 => ?_)
  · refine ms_ldc C (-1000000000 : Int32) dX9_lend_26 (by decide +kernel) ?_
    exact ms_iretm C hR rfl dX9_lend_28
  · refine ms_aload_n C dX9_lend_7 0 rfl ?_
    refine ms_iload_n C dX9_lend_8 2 rfl ?_
    refine ms_callVi (As := [.int a1]) C dX9_lend_9 (fun _ h => mtX9_isKind (xl X) (xg X) n M a1 h) (cwV 1 C.2.2.1 gX9_lend_X9_isKind rfl rfl rfl (by decide +kernel) ⟨Nat.le_of_ble_eq_true rfl, Nat.le_of_ble_eq_true rfl⟩) (zz0 (G := xg X) Nat.one_pos) (T := TX9) rfl rfl rfl (Nat.le_of_ble_eq_true rfl) (fun v3 => ?_)
    refine ms_if_eq (tgt := 26) C dX9_lend_12 (by decide) (fun c4 => ?_) (fun c4 => ?_)
    · refine ms_ldc C (-1000000000 : Int32) dX9_lend_26 (by decide +kernel) ?_
      exact ms_iretm C hR rfl dX9_lend_28
    · refine ms_iload_n C dX9_lend_15 3 rfl ?_
      refine ms_iconst C (1 : Int32) dX9_lend_16 (by decide) ?_
      refine ms_sipush C (10000 : Int32) dX9_lend_17 (by decide) ?_
      refine ms_callSi (As := [.int a2, .int (1 : Int32), .int (10000 : Int32)]) C dX9_lend_20 (fun _ h => mtX9_isIn (xl X) (xg X) n M a2 (1 : Int32) (10000 : Int32) h) (va_cwS 3 C.2.2.1 gX9_lend_X9_isIn rfl rfl rfl (by decide +kernel) ⟨Nat.le_of_ble_eq_true rfl, Nat.le_of_ble_eq_true rfl⟩) rfl rfl (Nat.le_of_ble_eq_true rfl) (fun v5 => ?_)
      refine ms_if_ne (tgt := 29) C dX9_lend_23 (by decide) (fun c6 => ?_) (fun c6 => ?_)
      · refine ms_aload_n C dX9_lend_29 0 rfl ?_
        refine ms_getr C dX9_lend_30 (zz0 (G := xg X) Nat.one_pos) (k := 0) (Nat.le_of_ble_eq_true rfl) (b := xad X 1 0) rfl (Cn := RX9) (T := TX9) rfl inX9_X9_lend rfl (by decide +kernel) ?_
        refine ms_iload_n C dX9_lend_33 2 rfl ?_
        refine ms_ald C dX9_lend_34 (zz1 (G := xg X) Nat.one_pos) rfl rfl (fun q7 hq7 => ?_)
        refine ms_getr C dX9_lend_35 (zz20 (G := xg X) hq7) (k := 5) (Nat.le_of_ble_eq_true rfl) (b := xad X 21 q7) rfl (Cn := RX4) (T := TX4) rfl inX4_X9_lend rfl (by decide +kernel) ?_
        refine ms_iload_n C dX9_lend_38 1 rfl ?_
        refine ms_ld C dX9_lend_39 (zz21 (G := xg X) hq7) rfl (fun _ v8 => ?_)
        refine ms_iload_n C dX9_lend_40 3 rfl ?_
        refine ms_icmp_ge (tgt := 47) C dX9_lend_41 (by decide) (fun c9 => ?_) (fun c9 => ?_)
        · refine ms_aload_n C dX9_lend_47 0 rfl ?_
          refine ms_iconst C (2 : Int32) dX9_lend_48 (by decide) ?_
          refine ms_iload_n C dX9_lend_49 1 rfl ?_
          refine ms_iload_n C dX9_lend_50 2 rfl ?_
          refine ms_iload_n C dX9_lend_51 3 rfl ?_
          refine ms_iconst C (0 : Int32) dX9_lend_52 (by decide) ?_
          refine ms_callVv (As := [.int (2 : Int32), .int a0, .int a1, .int a2, .int (0 : Int32)]) C dX9_lend_53 (fun _ h => mtX9_carryOut (xl X) (xg X) n M (2 : Int32) a0 a1 a2 (0 : Int32) h) (cwV 5 C.2.2.1 gX9_lend_X9_carryOut rfl rfl rfl (by decide +kernel) ⟨Nat.le_of_ble_eq_true rfl, Nat.le_of_ble_eq_true rfl⟩) (zz0 (G := xg X) Nat.one_pos) (T := TX9) rfl rfl rfl (Nat.le_of_ble_eq_true rfl) (fun M10 => ?_)
          refine ms_aload_n C dX9_lend_56 0 rfl ?_
          refine ms_getr C dX9_lend_57 (zz0 (G := xg X) Nat.one_pos) (k := 0) (Nat.le_of_ble_eq_true rfl) (b := xad X 1 0) rfl (Cn := RX9) (T := TX9) rfl inX9_X9_lend rfl (by decide +kernel) ?_
          refine ms_iload_n C dX9_lend_60 2 rfl ?_
          refine ms_ald C dX9_lend_61 (zz1 (G := xg X) Nat.one_pos) rfl rfl (fun q11 hq11 => ?_)
          refine ms_getr C dX9_lend_62 (zz20 (G := xg X) hq11) (k := 5) (Nat.le_of_ble_eq_true rfl) (b := xad X 21 q11) rfl (Cn := RX4) (T := TX4) rfl inX4_X9_lend rfl (by decide +kernel) ?_
          refine ms_iconst C (1 : Int32) dX9_lend_65 (by decide) ?_
          refine ms_iload_n C dX9_lend_66 1 rfl ?_
          refine ms_isub C dX9_lend_67 (fun v12 => ?_)
          refine ms_ld C dX9_lend_68 (zz21 (G := xg X) hq11) rfl (fun _ v13 => ?_)
          exact ms_iretm C hR rfl dX9_lend_69
        · refine ms_ldc C (-1000000002 : Int32) dX9_lend_44 (by decide +kernel) ?_
          exact ms_iretm C hR rfl dX9_lend_46
      · refine ms_ldc C (-1000000000 : Int32) dX9_lend_26 (by decide +kernel) ?_
        exact ms_iretm C hR rfl dX9_lend_28
def rmX9_isTime : Room := { frames := 1, cells := 0, slots := 0, locals := 22 }
set_option maxRecDepth 100000 in
set_option maxHeartbeats 4000000 in
theorem mtX9_isTime (l : Launch) (G : mh_G) (n : Nat) (M : mh_M) (a0 : Int32) (a1 : Int32) {z : Int32} (ho : fX9_isTime n M a0 a1 = some z) : Met l yX9_isTime wsX9_isTime rmX9_isTime (mh_Pc G M [.int a0, .int a1]) (mh_Q G M (some (.int z))) 0 0 (mh_dom G) := by
  refine mh_met (cc := cX9_isTime) (maxL := 2) (ret := (some .boolean)) (by decide) rfl (Nat.le_of_ble_eq_true rfl) ho ?_
  rintro X rfl rfl C hR
  show mh_W X rmX9_isTime 2 _ z M 0 [(0, .int a0), (1, .int a1)] []
  replace C : mh_C X rmX9_isTime cX9_isTime wsX9_isTime RX9 2 := C
  unfold fX9_isTime
  refine ms_iload_n C dX9_isTime_0 0 rfl ?_
  refine ms_iconst C (0 : Int32) dX9_isTime_1 (by decide) ?_
  refine ms_bipush C (6 : Int32) dX9_isTime_2 (by decide) ?_
  refine ms_callSb (As := [.int a0, .int (0 : Int32), .int (6 : Int32)]) C dX9_isTime_4 (fun _ h => mtX9_isIn (xl X) (xg X) n M a0 (0 : Int32) (6 : Int32) h) (va_cwS 3 C.2.2.1 gX9_isTime_X9_isIn rfl rfl rfl (by decide +kernel) ⟨Nat.le_of_ble_eq_true rfl, Nat.le_of_ble_eq_true rfl⟩) rfl rfl (Nat.le_of_ble_eq_true rfl) (fun _ h => bX9_isIn h) (fun v1 hv1 => ?_)
  refine ms_if_eq (tgt := 25) C dX9_isTime_7 (by decide) (fun c2 => ?_) (fun c2 => ?_)
  · refine ms_iconst C (0 : Int32) dX9_isTime_25 (by decide) ?_
    exact ms_ireti C hR rfl rfl dX9_isTime_26
  · refine ms_iload_n C dX9_isTime_10 1 rfl ?_
    refine ms_iconst C (0 : Int32) dX9_isTime_11 (by decide) ?_
    refine ms_sipush C (1439 : Int32) dX9_isTime_12 (by decide) ?_
    refine ms_callSb (As := [.int a1, .int (0 : Int32), .int (1439 : Int32)]) C dX9_isTime_15 (fun _ h => mtX9_isIn (xl X) (xg X) n M a1 (0 : Int32) (1439 : Int32) h) (va_cwS 3 C.2.2.1 gX9_isTime_X9_isIn rfl rfl rfl (by decide +kernel) ⟨Nat.le_of_ble_eq_true rfl, Nat.le_of_ble_eq_true rfl⟩) rfl rfl (Nat.le_of_ble_eq_true rfl) (fun _ h => bX9_isIn h) (fun v3 hv3 => ?_)
    refine ms_if_eq (tgt := 25) C dX9_isTime_18 (by decide) (fun c4 => ?_) (fun c4 => ?_)
    · refine ms_iconst C (0 : Int32) dX9_isTime_25 (by decide) ?_
      exact ms_ireti C hR rfl rfl dX9_isTime_26
    · refine ms_iconst C (1 : Int32) dX9_isTime_21 (by decide) ?_
      refine ms_goto (tgt := 26) C dX9_isTime_22 (by decide) ?_
      exact ms_ireti C hR rfl rfl dX9_isTime_26
def rmX9_priceAt : Room := { frames := 2, cells := 0, slots := 0, locals := 44 }
theorem inX5_X9_priceAt : ∀ w ∈ wsX50, w ∈ wsX9_priceAt := by decide +kernel
theorem inX6_X9_priceAt : ∀ w ∈ wsX60, w ∈ wsX9_priceAt := by decide +kernel
theorem inX9_X9_priceAt : ∀ w ∈ wsX90, w ∈ wsX9_priceAt := by decide +kernel
set_option maxRecDepth 100000 in
set_option maxHeartbeats 4000000 in
theorem mtX9_priceAt_L19 {X : mh_X} {n : Nat} {z : Int32} (M : mh_M) (x2 : Int32) (x3 : Int32) (x4 : Int32) (C : mh_C X rmX9_priceAt cX9_priceAt wsX9_priceAt RX9 6) (hR : mh_R X (some .int) M (some (.int z))) : ∀ (k : Nat) (x5 : Int32), mh_W X rmX9_priceAt 6 (itr1 (fX9_priceAt_L19 n M x2 x3 x4) k x5) z M 19 [(0, .ref (xad X 0 0)), (2, .int x2), (3, .int x3), (4, .int x4), (5, .int x5)] [] := by
  intro k
  induction k with
  | zero =>
    intro x5
    exact ms_none
  | succ k ih =>
    intro x5
    show mh_W X rmX9_priceAt 6 (fX9_priceAt_L19 n M x2 x3 x4 (itr1 (fX9_priceAt_L19 n M x2 x3 x4) k) x5) z M 19 [(0, .ref (xad X 0 0)), (2, .int x2), (3, .int x3), (4, .int x4), (5, .int x5)] []
    generalize itr1 (fX9_priceAt_L19 n M x2 x3 x4) k = rec at ih ⊢
    unfold fX9_priceAt_L19
    refine ms_iload C dX9_priceAt_19 4 rfl ?_
    refine ms_if_lt (tgt := 71) C dX9_priceAt_21 (by decide) (fun c5 => ?_) (fun c5 => ?_)
    · refine ms_aload_n C dX9_priceAt_71 0 rfl ?_
      refine ms_getr C dX9_priceAt_72 (zz0 (G := xg X) Nat.one_pos) (k := 4) (Nat.le_of_ble_eq_true rfl) (b := xad X 3 0) rfl (Cn := RX9) (T := TX9) rfl inX9_X9_priceAt rfl (by decide +kernel) ?_
      refine ms_iconst C (4 : Int32) dX9_priceAt_75 (by decide) ?_
      refine ms_ld C dX9_priceAt_76 (zz3 (G := xg X) Nat.one_pos) rfl (fun _ v6 => ?_)
      refine ms_iload C dX9_priceAt_77 3 rfl ?_
      refine ms_mmax C dX9_priceAt_79 (by decide +kernel) (by decide +kernel) (by decide +kernel) (by decide +kernel) (Nat.le_of_ble_eq_true rfl) (Nat.le_of_ble_eq_true rfl) (fun v7 => ?_)
      exact ms_ireti C hR rfl rfl dX9_priceAt_82
    · refine ms_aload_n C dX9_priceAt_24 0 rfl ?_
      refine ms_getr C dX9_priceAt_25 (zz0 (G := xg X) Nat.one_pos) (k := 10) (Nat.le_of_ble_eq_true rfl) (b := xad X 11 0) rfl (Cn := RX9) (T := TX9) rfl inX9_X9_priceAt rfl (by decide +kernel) ?_
      refine ms_iload C dX9_priceAt_28 4 rfl ?_
      refine ms_ald C dX9_priceAt_30 (zz11 (G := xg X) Nat.one_pos) rfl rfl (fun q8 hq8 => ?_)
      refine ms_iload_n C dX9_priceAt_31 1 rfl ?_
      refine ms_iload_n C dX9_priceAt_32 2 rfl ?_
      refine ms_callVi (As := [.int x2, .int x3]) C dX9_priceAt_33 (fun _ h => mtX5_holds (xl X) (xg X) n M q8 x2 x3 hq8 h) (cwV 2 C.2.2.1 gX9_priceAt_X5_holds rfl rfl rfl (by decide +kernel) ⟨Nat.le_of_ble_eq_true rfl, Nat.le_of_ble_eq_true rfl⟩) (zz31 (G := xg X) hq8) (T := TX5) rfl rfl rfl (Nat.le_of_ble_eq_true rfl) (fun v9 => ?_)
      refine ms_if_eq (tgt := 65) C dX9_priceAt_36 (by decide) (fun c10 => ?_) (fun c10 => ?_)
      · refine ms_iinc (L' := fun v11 => [(5, .int v11), (0, .ref (xad X 0 0)), (2, .int x2), (3, .int x3), (4, .int x4)]) C dX9_priceAt_65 4 rfl (c := -1) (by decide) (by decide) (fun _ => rfl) (fun v11 => ?_)
        refine ms_goto (tgt := 19) C dX9_priceAt_68 (by decide) ?_
        exact ms_sub [1, 2, 3, 4, 0] rfl (ih v11)
      · refine ms_aload_n C dX9_priceAt_39 0 rfl ?_
        refine ms_getr C dX9_priceAt_40 (zz0 (G := xg X) Nat.one_pos) (k := 4) (Nat.le_of_ble_eq_true rfl) (b := xad X 3 0) rfl (Cn := RX9) (T := TX9) rfl inX9_X9_priceAt rfl (by decide +kernel) ?_
        refine ms_iconst C (4 : Int32) dX9_priceAt_43 (by decide) ?_
        refine ms_ld C dX9_priceAt_44 (zz3 (G := xg X) Nat.one_pos) rfl (fun _ v12 => ?_)
        refine ms_iload C dX9_priceAt_45 3 rfl ?_
        refine ms_aload_n C dX9_priceAt_47 0 rfl ?_
        refine ms_getr C dX9_priceAt_48 (zz0 (G := xg X) Nat.one_pos) (k := 10) (Nat.le_of_ble_eq_true rfl) (b := xad X 11 0) rfl (Cn := RX9) (T := TX9) rfl inX9_X9_priceAt rfl (by decide +kernel) ?_
        refine ms_iload C dX9_priceAt_51 4 rfl ?_
        refine ms_ald C dX9_priceAt_53 (zz11 (G := xg X) Nat.one_pos) rfl rfl (fun q13 hq13 => ?_)
        refine ms_geti C dX9_priceAt_54 (zz31 (G := xg X) hq13) (k := 3) (Nat.le_of_ble_eq_true rfl) rfl (Cn := RX5) (T := TX5) rfl inX5_X9_priceAt rfl (by decide +kernel) (fun v14 => ?_)
        refine ms_imul C dX9_priceAt_57 (fun v15 => ?_)
        refine ms_bipush C (100 : Int32) dX9_priceAt_58 (by decide) ?_
        refine ms_idiv C dX9_priceAt_60 (fun v16 => ?_)
        refine ms_mmax C dX9_priceAt_61 (by decide +kernel) (by decide +kernel) (by decide +kernel) (by decide +kernel) (Nat.le_of_ble_eq_true rfl) (Nat.le_of_ble_eq_true rfl) (fun v17 => ?_)
        exact ms_ireti C hR rfl rfl dX9_priceAt_64
set_option maxRecDepth 100000 in
set_option maxHeartbeats 4000000 in
theorem mtX9_priceAt (l : Launch) (G : mh_G) (n : Nat) (M : mh_M) (a0 : Int32) (a1 : Int32) (a2 : Int32) {z : Int32} (ho : fX9_priceAt n M a0 a1 a2 = some z) : Met l yX9_priceAt wsX9_priceAt rmX9_priceAt (mh_Pc G M [.ref (G.2.2 0 0), .int a0, .int a1, .int a2]) (mh_Q G M (some (.int z))) 0 0 (mh_dom G) := by
  refine mh_met (cc := cX9_priceAt) (maxL := 6) (ret := (some .int)) (by decide) rfl (Nat.le_of_ble_eq_true rfl) ho ?_
  rintro X rfl rfl C hR
  show mh_W X rmX9_priceAt 6 _ z M 0 [(0, .ref (xad X 0 0)), (1, .int a0), (2, .int a1), (3, .int a2)] []
  replace C : mh_C X rmX9_priceAt cX9_priceAt wsX9_priceAt RX9 6 := C
  unfold fX9_priceAt
  refine ms_aload_n C dX9_priceAt_0 0 rfl ?_
  refine ms_getr C dX9_priceAt_1 (zz0 (G := xg X) Nat.one_pos) (k := 2) (Nat.le_of_ble_eq_true rfl) (b := xad X 2 0) rfl (Cn := RX9) (T := TX9) rfl inX9_X9_priceAt rfl (by decide +kernel) ?_
  refine ms_iload_n C dX9_priceAt_4 1 rfl ?_
  refine ms_ald C dX9_priceAt_5 (zz2 (G := xg X) Nat.one_pos) rfl rfl (fun q1 hq1 => ?_)
  refine ms_geti C dX9_priceAt_6 (zz23 (G := xg X) hq1) (k := 0) (Nat.le_of_ble_eq_true rfl) rfl (Cn := RX6) (T := TX6) rfl inX6_X9_priceAt rfl (by decide +kernel) (fun v2 => ?_)
  refine ms_istore (L' := [(4, .int v2), (0, .ref (xad X 0 0)), (1, .int a0), (2, .int a1), (3, .int a2)]) C dX9_priceAt_9 (by decide) rfl ?_
  refine ms_aload_n C dX9_priceAt_11 1 rfl ?_
  refine ms_geti C dX9_priceAt_12 (zz0 (G := xg X) Nat.one_pos) (k := 11) (Nat.le_of_ble_eq_true rfl) rfl (Cn := RX9) (T := TX9) rfl inX9_X9_priceAt rfl (by decide +kernel) (fun v3 => ?_)
  refine ms_iconst C (1 : Int32) dX9_priceAt_15 (by decide) ?_
  refine ms_isub C dX9_priceAt_16 (fun v4 => ?_)
  refine ms_istore (L' := [(5, .int v4), (4, .int v2), (0, .ref (xad X 0 0)), (1, .int a0), (2, .int a1), (3, .int a2)]) C dX9_priceAt_17 (by decide) rfl ?_
  exact ms_sub [2, 4, 5, 1, 0] rfl (mtX9_priceAt_L19 (n := n) M a1 a2 v2 C hR n v4)
def rmX9_sell : Room := { frames := 4, cells := 0, slots := 0, locals := 97 }
theorem inX6_X9_sell : ∀ w ∈ wsX60, w ∈ wsX9_sell := by decide +kernel
theorem inX9_X9_sell : ∀ w ∈ wsX90, w ∈ wsX9_sell := by decide +kernel
set_option maxRecDepth 100000 in
set_option maxHeartbeats 4000000 in
theorem mtX9_sell (l : Launch) (G : mh_G) (n : Nat) (M : mh_M) (a0 : Int32) (a1 : Int32) (a2 : Int32) (a3 : Int32) (a4 : Int32) {z : mh_M × Int32} (ho : fX9_sell n M a0 a1 a2 a3 a4 = some z) : Met l yX9_sell wsX9_sell rmX9_sell (mh_Pc G M [.ref (G.2.2 0 0), .int a0, .int a1, .int a2, .int a3, .int a4]) (mh_Q G z.1 (some (.int z.2))) 0 0 (mh_dom G) := by
  refine mh_met (cc := cX9_sell) (maxL := 7) (ret := (some .int)) (by decide) rfl (Nat.le_of_ble_eq_true rfl) ho ?_
  rintro X rfl rfl C hR
  show mh_W X rmX9_sell 7 _ z M 0 [(0, .ref (xad X 0 0)), (1, .int a0), (2, .int a1), (3, .int a2), (4, .int a3), (5, .int a4)] []
  replace C : mh_C X rmX9_sell cX9_sell wsX9_sell RX9 7 := C
  unfold fX9_sell
  refine ms_iload_n C dX9_sell_0 1 rfl ?_
  refine ms_callSi (As := [.int a0]) C dX9_sell_1 (fun _ h => mtX9_isBar (xl X) (xg X) n M a0 h) (va_cwS 1 C.2.2.1 gX9_sell_X9_isBar rfl rfl rfl (by decide +kernel) ⟨Nat.le_of_ble_eq_true rfl, Nat.le_of_ble_eq_true rfl⟩) rfl rfl (Nat.le_of_ble_eq_true rfl) (fun v1 => ?_)
  refine ms_if_eq (tgt := 35) C dX9_sell_4 (by decide) (fun c2 => ?_) (fun c2 => ?_)
  · refine ms_iconst C (-1 : Int32) dX9_sell_35 (by decide) ?_
    exact ms_iretm C hR rfl dX9_sell_36
  · refine ms_aload_n C dX9_sell_7 0 rfl ?_
    refine ms_iload_n C dX9_sell_8 2 rfl ?_
    refine ms_callVi (As := [.int a1]) C dX9_sell_9 (fun _ h => mtX9_isRecipe (xl X) (xg X) n M a1 h) (cwV 1 C.2.2.1 gX9_sell_X9_isRecipe rfl rfl rfl (by decide +kernel) ⟨Nat.le_of_ble_eq_true rfl, Nat.le_of_ble_eq_true rfl⟩) (zz0 (G := xg X) Nat.one_pos) (T := TX9) rfl rfl rfl (Nat.le_of_ble_eq_true rfl) (fun v3 => ?_)
    refine ms_if_eq (tgt := 35) C dX9_sell_12 (by decide) (fun c4 => ?_) (fun c4 => ?_)
    · refine ms_iconst C (-1 : Int32) dX9_sell_35 (by decide) ?_
      exact ms_iretm C hR rfl dX9_sell_36
    · refine ms_iload_n C dX9_sell_15 3 rfl ?_
      refine ms_iconst C (1 : Int32) dX9_sell_16 (by decide) ?_
      refine ms_bipush C (100 : Int32) dX9_sell_17 (by decide) ?_
      refine ms_callSi (As := [.int a2, .int (1 : Int32), .int (100 : Int32)]) C dX9_sell_19 (fun _ h => mtX9_isIn (xl X) (xg X) n M a2 (1 : Int32) (100 : Int32) h) (va_cwS 3 C.2.2.1 gX9_sell_X9_isIn rfl rfl rfl (by decide +kernel) ⟨Nat.le_of_ble_eq_true rfl, Nat.le_of_ble_eq_true rfl⟩) rfl rfl (Nat.le_of_ble_eq_true rfl) (fun v5 => ?_)
      refine ms_if_eq (tgt := 35) C dX9_sell_22 (by decide) (fun c6 => ?_) (fun c6 => ?_)
      · refine ms_iconst C (-1 : Int32) dX9_sell_35 (by decide) ?_
        exact ms_iretm C hR rfl dX9_sell_36
      · refine ms_iload C dX9_sell_25 4 rfl ?_
        refine ms_iload C dX9_sell_27 5 rfl ?_
        refine ms_callSi (As := [.int a3, .int a4]) C dX9_sell_29 (fun _ h => mtX9_isTime (xl X) (xg X) n M a3 a4 h) (va_cwS 2 C.2.2.1 gX9_sell_X9_isTime rfl rfl rfl (by decide +kernel) ⟨Nat.le_of_ble_eq_true rfl, Nat.le_of_ble_eq_true rfl⟩) rfl rfl (Nat.le_of_ble_eq_true rfl) (fun v7 => ?_)
        refine ms_if_ne (tgt := 37) C dX9_sell_32 (by decide) (fun c8 => ?_) (fun c8 => ?_)
        · refine ms_iload_n C dX9_sell_37 3 rfl ?_
          refine ms_aload_n C dX9_sell_38 0 rfl ?_
          refine ms_iload_n C dX9_sell_39 2 rfl ?_
          refine ms_iload C dX9_sell_40 4 rfl ?_
          refine ms_iload C dX9_sell_42 5 rfl ?_
          refine ms_callVi (As := [.int a1, .int a3, .int a4]) C dX9_sell_44 (fun _ h => mtX9_priceAt (xl X) (xg X) n M a1 a3 a4 h) (cwV 3 C.2.2.1 gX9_sell_X9_priceAt rfl rfl rfl (by decide +kernel) ⟨Nat.le_of_ble_eq_true rfl, Nat.le_of_ble_eq_true rfl⟩) (zz0 (G := xg X) Nat.one_pos) (T := TX9) rfl rfl rfl (Nat.le_of_ble_eq_true rfl) (fun v9 => ?_)
          refine ms_imul C dX9_sell_47 (fun v10 => ?_)
          refine ms_istore (L' := [(6, .int v10), (0, .ref (xad X 0 0)), (1, .int a0), (2, .int a1), (3, .int a2), (4, .int a3), (5, .int a4)]) C dX9_sell_48 (by decide) rfl ?_
          refine ms_aload_n C dX9_sell_50 1 rfl ?_
          refine ms_getr C dX9_sell_51 (zz0 (G := xg X) Nat.one_pos) (k := 2) (Nat.le_of_ble_eq_true rfl) (b := xad X 2 0) rfl (Cn := RX9) (T := TX9) rfl inX9_X9_sell rfl (by decide +kernel) ?_
          refine ms_iload_n C dX9_sell_54 3 rfl ?_
          refine ms_ald C dX9_sell_55 (zz2 (G := xg X) Nat.one_pos) rfl rfl (fun q11 hq11 => ?_)
          refine ms_aload_n C dX9_sell_56 1 rfl ?_
          refine ms_geti C dX9_sell_57 (zz0 (G := xg X) Nat.one_pos) (k := 6) (Nat.le_of_ble_eq_true rfl) rfl (Cn := RX9) (T := TX9) rfl inX9_X9_sell rfl (by decide +kernel) (fun v12 => ?_)
          refine ms_puti C dX9_sell_60 tyX6 tyX6_ok nmX6 (zz23 (G := xg X) hq11) (k := 1) (Nat.le_of_ble_eq_true rfl) rfl (Cn := RX6) (T := TX6) rfl inX6_X9_sell rfl (by decide +kernel) rfl (by decide +kernel) (fun M13 => ?_)
          refine ms_aload_n C dX9_sell_63 1 rfl ?_
          refine ms_iconst C (3 : Int32) dX9_sell_64 (by decide) ?_
          refine ms_iload_n C dX9_sell_65 2 rfl ?_
          refine ms_iload_n C dX9_sell_66 3 rfl ?_
          refine ms_iload_n C dX9_sell_67 4 rfl ?_
          refine ms_iload C dX9_sell_68 0 rfl ?_
          refine ms_callVv (As := [.int (3 : Int32), .int a0, .int a1, .int a2, .int v10]) C dX9_sell_70 (fun _ h => mtX9_carryOut (xl X) (xg X) n M13 (3 : Int32) a0 a1 a2 v10 h) (cwV 5 C.2.2.1 gX9_sell_X9_carryOut rfl rfl rfl (by decide +kernel) ⟨Nat.le_of_ble_eq_true rfl, Nat.le_of_ble_eq_true rfl⟩) (zz0 (G := xg X) Nat.one_pos) (T := TX9) rfl rfl rfl (Nat.le_of_ble_eq_true rfl) (fun M14 => ?_)
          refine ms_iload C dX9_sell_73 0 rfl ?_
          exact ms_iretm C hR rfl dX9_sell_75
        · refine ms_iconst C (-1 : Int32) dX9_sell_35 (by decide) ?_
          exact ms_iretm C hR rfl dX9_sell_36
def rmX9_lose : Room := { frames := 4, cells := 0, slots := 0, locals := 97 }
theorem inX4_X9_lose : ∀ w ∈ wsX40, w ∈ wsX9_lose := by decide +kernel
theorem inX9_X9_lose : ∀ w ∈ wsX90, w ∈ wsX9_lose := by decide +kernel
set_option maxRecDepth 100000 in
set_option maxHeartbeats 4000000 in
theorem mtX9_lose (l : Launch) (G : mh_G) (n : Nat) (M : mh_M) (a0 : Int32) (a1 : Int32) (a2 : Int32) (a3 : Int32) {z : mh_M × Int32} (ho : fX9_lose n M a0 a1 a2 a3 = some z) : Met l yX9_lose wsX9_lose rmX9_lose (mh_Pc G M [.ref (G.2.2 0 0), .int a0, .int a1, .int a2, .int a3]) (mh_Q G z.1 (some (.int z.2))) 0 0 (mh_dom G) := by
  refine mh_met (cc := cX9_lose) (maxL := 5) (ret := (some .int)) (by decide) rfl (Nat.le_of_ble_eq_true rfl) ho ?_
  rintro X rfl rfl C hR
  show mh_W X rmX9_lose 5 _ z M 0 [(0, .ref (xad X 0 0)), (1, .int a0), (2, .int a1), (3, .int a2), (4, .int a3)] []
  replace C : mh_C X rmX9_lose cX9_lose wsX9_lose RX9 5 := C
  unfold fX9_lose
  refine ms_iload_n C dX9_lose_0 1 rfl ?_
  refine ms_callSi (As := [.int a0]) C dX9_lose_1 (fun _ h => mtX9_isBar (xl X) (xg X) n M a0 h) (va_cwS 1 C.2.2.1 gX9_lose_X9_isBar rfl rfl rfl (by decide +kernel) ⟨Nat.le_of_ble_eq_true rfl, Nat.le_of_ble_eq_true rfl⟩) rfl rfl (Nat.le_of_ble_eq_true rfl) (fun v1 => ?_)
  refine ms_if_eq (tgt := 36) C dX9_lose_4 (by decide) (fun c2 => ?_) (fun c2 => ?_)
  · refine ms_ldc C (-1000000000 : Int32) dX9_lose_36 (by decide +kernel) ?_
    exact ms_iretm C hR rfl dX9_lose_38
  · refine ms_aload_n C dX9_lose_7 0 rfl ?_
    refine ms_iload_n C dX9_lose_8 2 rfl ?_
    refine ms_callVi (As := [.int a1]) C dX9_lose_9 (fun _ h => mtX9_isKind (xl X) (xg X) n M a1 h) (cwV 1 C.2.2.1 gX9_lose_X9_isKind rfl rfl rfl (by decide +kernel) ⟨Nat.le_of_ble_eq_true rfl, Nat.le_of_ble_eq_true rfl⟩) (zz0 (G := xg X) Nat.one_pos) (T := TX9) rfl rfl rfl (Nat.le_of_ble_eq_true rfl) (fun v3 => ?_)
    refine ms_if_eq (tgt := 36) C dX9_lose_12 (by decide) (fun c4 => ?_) (fun c4 => ?_)
    · refine ms_ldc C (-1000000000 : Int32) dX9_lose_36 (by decide +kernel) ?_
      exact ms_iretm C hR rfl dX9_lose_38
    · refine ms_iload_n C dX9_lose_15 3 rfl ?_
      refine ms_iconst C (0 : Int32) dX9_lose_16 (by decide) ?_
      refine ms_iconst C (1 : Int32) dX9_lose_17 (by decide) ?_
      refine ms_callSi (As := [.int a2, .int (0 : Int32), .int (1 : Int32)]) C dX9_lose_18 (fun _ h => mtX9_isIn (xl X) (xg X) n M a2 (0 : Int32) (1 : Int32) h) (va_cwS 3 C.2.2.1 gX9_lose_X9_isIn rfl rfl rfl (by decide +kernel) ⟨Nat.le_of_ble_eq_true rfl, Nat.le_of_ble_eq_true rfl⟩) rfl rfl (Nat.le_of_ble_eq_true rfl) (fun v5 => ?_)
      refine ms_if_eq (tgt := 36) C dX9_lose_21 (by decide) (fun c6 => ?_) (fun c6 => ?_)
      · refine ms_ldc C (-1000000000 : Int32) dX9_lose_36 (by decide +kernel) ?_
        exact ms_iretm C hR rfl dX9_lose_38
      · refine ms_iload C dX9_lose_24 4 rfl ?_
        refine ms_iconst C (1 : Int32) dX9_lose_26 (by decide) ?_
        refine ms_sipush C (10000 : Int32) dX9_lose_27 (by decide) ?_
        refine ms_callSi (As := [.int a3, .int (1 : Int32), .int (10000 : Int32)]) C dX9_lose_30 (fun _ h => mtX9_isIn (xl X) (xg X) n M a3 (1 : Int32) (10000 : Int32) h) (va_cwS 3 C.2.2.1 gX9_lose_X9_isIn rfl rfl rfl (by decide +kernel) ⟨Nat.le_of_ble_eq_true rfl, Nat.le_of_ble_eq_true rfl⟩) rfl rfl (Nat.le_of_ble_eq_true rfl) (fun v7 => ?_)
        refine ms_if_ne (tgt := 39) C dX9_lose_33 (by decide) (fun c8 => ?_) (fun c8 => ?_)
        · refine ms_aload_n C dX9_lose_39 0 rfl ?_
          refine ms_iload_n C dX9_lose_40 3 rfl ?_
          refine ms_if_ne (tgt := 48) C dX9_lose_41 (by decide) (fun c9 => ?_) (fun c9 => ?_)
          · refine ms_iconst C (5 : Int32) dX9_lose_48 (by decide) ?_
            refine ms_iload_n C dX9_lose_49 1 rfl ?_
            refine ms_iload_n C dX9_lose_50 2 rfl ?_
            refine ms_iload C dX9_lose_51 4 rfl ?_
            refine ms_iconst C (0 : Int32) dX9_lose_53 (by decide) ?_
            refine ms_callVv (As := [.int (5 : Int32), .int a0, .int a1, .int a3, .int (0 : Int32)]) C dX9_lose_54 (fun _ h => mtX9_carryOut (xl X) (xg X) n M (5 : Int32) a0 a1 a3 (0 : Int32) h) (cwV 5 C.2.2.1 gX9_lose_X9_carryOut rfl rfl rfl (by decide +kernel) ⟨Nat.le_of_ble_eq_true rfl, Nat.le_of_ble_eq_true rfl⟩) (zz0 (G := xg X) Nat.one_pos) (T := TX9) rfl rfl rfl (Nat.le_of_ble_eq_true rfl) (fun M10 => ?_)
            refine ms_aload_n C dX9_lose_57 0 rfl ?_
            refine ms_getr C dX9_lose_58 (zz0 (G := xg X) Nat.one_pos) (k := 0) (Nat.le_of_ble_eq_true rfl) (b := xad X 1 0) rfl (Cn := RX9) (T := TX9) rfl inX9_X9_lose rfl (by decide +kernel) ?_
            refine ms_iload_n C dX9_lose_61 2 rfl ?_
            refine ms_ald C dX9_lose_62 (zz1 (G := xg X) Nat.one_pos) rfl rfl (fun q11 hq11 => ?_)
            refine ms_getr C dX9_lose_63 (zz20 (G := xg X) hq11) (k := 5) (Nat.le_of_ble_eq_true rfl) (b := xad X 21 q11) rfl (Cn := RX4) (T := TX4) rfl inX4_X9_lose rfl (by decide +kernel) ?_
            refine ms_iload_n C dX9_lose_66 1 rfl ?_
            refine ms_ld C dX9_lose_67 (zz21 (G := xg X) hq11) rfl (fun _ v12 => ?_)
            exact ms_iretm C hR rfl dX9_lose_68
          · refine ms_iconst C (4 : Int32) dX9_lose_44 (by decide) ?_
            refine ms_goto (tgt := 49) C dX9_lose_45 (by decide) ?_
            refine ms_iload_n C dX9_lose_49 1 rfl ?_
            refine ms_iload_n C dX9_lose_50 2 rfl ?_
            refine ms_iload C dX9_lose_51 4 rfl ?_
            refine ms_iconst C (0 : Int32) dX9_lose_53 (by decide) ?_
            refine ms_callVv (As := [.int (4 : Int32), .int a0, .int a1, .int a3, .int (0 : Int32)]) C dX9_lose_54 (fun _ h => mtX9_carryOut (xl X) (xg X) n M (4 : Int32) a0 a1 a3 (0 : Int32) h) (cwV 5 C.2.2.1 gX9_lose_X9_carryOut rfl rfl rfl (by decide +kernel) ⟨Nat.le_of_ble_eq_true rfl, Nat.le_of_ble_eq_true rfl⟩) (zz0 (G := xg X) Nat.one_pos) (T := TX9) rfl rfl rfl (Nat.le_of_ble_eq_true rfl) (fun M13 => ?_)
            refine ms_aload_n C dX9_lose_57 0 rfl ?_
            refine ms_getr C dX9_lose_58 (zz0 (G := xg X) Nat.one_pos) (k := 0) (Nat.le_of_ble_eq_true rfl) (b := xad X 1 0) rfl (Cn := RX9) (T := TX9) rfl inX9_X9_lose rfl (by decide +kernel) ?_
            refine ms_iload_n C dX9_lose_61 2 rfl ?_
            refine ms_ald C dX9_lose_62 (zz1 (G := xg X) Nat.one_pos) rfl rfl (fun q14 hq14 => ?_)
            refine ms_getr C dX9_lose_63 (zz20 (G := xg X) hq14) (k := 5) (Nat.le_of_ble_eq_true rfl) (b := xad X 21 q14) rfl (Cn := RX4) (T := TX4) rfl inX4_X9_lose rfl (by decide +kernel) ?_
            refine ms_iload_n C dX9_lose_66 1 rfl ?_
            refine ms_ld C dX9_lose_67 (zz21 (G := xg X) hq14) rfl (fun _ v15 => ?_)
            exact ms_iretm C hR rfl dX9_lose_68
        · refine ms_ldc C (-1000000000 : Int32) dX9_lose_36 (by decide +kernel) ?_
          exact ms_iretm C hR rfl dX9_lose_38
def rmX9_spanNow : Room := { frames := 1, cells := 0, slots := 0, locals := 21 }
theorem inX7_X9_spanNow : ∀ w ∈ wsX70, w ∈ wsX9_spanNow := by decide +kernel
theorem inX9_X9_spanNow : ∀ w ∈ wsX90, w ∈ wsX9_spanNow := by decide +kernel
set_option maxRecDepth 100000 in
set_option maxHeartbeats 4000000 in
theorem mtX9_spanNow (l : Launch) (G : mh_G) (n : Nat) (M : mh_M) (a0 : Nat) (a1 : Int32) (ha0 : a0 < 40) {z : Int32} (ho : fX9_spanNow n M a0 a1 = some z) : Met l yX9_spanNow wsX9_spanNow rmX9_spanNow (mh_Pc G M [.ref (G.2.2 0 0), .ref (G.2.2 25 a0), .int a1]) (mh_Q G M (some (.int z))) 0 0 (mh_dom G) := by
  refine mh_met (cc := cX9_spanNow) (maxL := 3) (ret := (some .int)) (by decide) rfl (Nat.le_of_ble_eq_true rfl) ho ?_
  rintro X rfl rfl C hR
  show mh_W X rmX9_spanNow 3 _ z M 0 [(0, .ref (xad X 0 0)), (1, .ref (xad X 25 a0)), (2, .int a1)] []
  replace C : mh_C X rmX9_spanNow cX9_spanNow wsX9_spanNow RX9 3 := C
  unfold fX9_spanNow
  refine ms_aload_n C dX9_spanNow_0 0 rfl ?_
  refine ms_getr C dX9_spanNow_1 (zz0 (G := xg X) Nat.one_pos) (k := 0) (Nat.le_of_ble_eq_true rfl) (b := xad X 1 0) rfl (Cn := RX9) (T := TX9) rfl inX9_X9_spanNow rfl (by decide +kernel) ?_
  refine ms_iload_n C dX9_spanNow_4 2 rfl ?_
  refine ms_ald C dX9_spanNow_5 (zz1 (G := xg X) Nat.one_pos) rfl rfl (fun q1 hq1 => ?_)
  refine ms_aload_n C dX9_spanNow_6 0 rfl ?_
  refine ms_getr C dX9_spanNow_7 (zz0 (G := xg X) Nat.one_pos) (k := 4) (Nat.le_of_ble_eq_true rfl) (b := xad X 3 0) rfl (Cn := RX9) (T := TX9) rfl inX9_X9_spanNow rfl (by decide +kernel) ?_
  refine ms_iconst C (0 : Int32) dX9_spanNow_10 (by decide) ?_
  refine ms_ld C dX9_spanNow_11 (zz3 (G := xg X) Nat.one_pos) rfl (fun _ v2 => ?_)
  refine ms_callVi (As := [.int v2]) C dX9_spanNow_12 (fun _ h => mtX4_mlOfScale (xl X) (xg X) n M q1 v2 hq1 h) (cwV 1 C.2.2.1 gX9_spanNow_X4_mlOfScale rfl rfl rfl (by decide +kernel) ⟨Nat.le_of_ble_eq_true rfl, Nat.le_of_ble_eq_true rfl⟩) (zz20 (G := xg X) hq1) (T := TX4) rfl rfl rfl (Nat.le_of_ble_eq_true rfl) (fun v3 => ?_)
  refine ms_aload_n C dX9_spanNow_15 0 rfl ?_
  refine ms_getr C dX9_spanNow_16 (zz0 (G := xg X) Nat.one_pos) (k := 4) (Nat.le_of_ble_eq_true rfl) (b := xad X 3 0) rfl (Cn := RX9) (T := TX9) rfl inX9_X9_spanNow rfl (by decide +kernel) ?_
  refine ms_iconst C (1 : Int32) dX9_spanNow_19 (by decide) ?_
  refine ms_ld C dX9_spanNow_20 (zz3 (G := xg X) Nat.one_pos) rfl (fun _ v4 => ?_)
  refine ms_aload_n C dX9_spanNow_21 1 rfl ?_
  refine ms_getr C dX9_spanNow_22 (zz25 (G := xg X) ha0) (k := 1) (Nat.le_of_ble_eq_true rfl) (b := xad X 26 a0) rfl (Cn := RX7) (T := TX7) rfl inX7_X9_spanNow rfl (by decide +kernel) ?_
  refine ms_iload_n C dX9_spanNow_25 2 rfl ?_
  refine ms_ld C dX9_spanNow_26 (zz26 (G := xg X) ha0) rfl (fun _ v5 => ?_)
  refine ms_imul C dX9_spanNow_27 (fun v6 => ?_)
  refine ms_iadd C dX9_spanNow_28 (fun v7 => ?_)
  exact ms_ireti C hR rfl rfl dX9_spanNow_29
def rmX9_weigh : Room := { frames := 4, cells := 0, slots := 0, locals := 97 }
theorem inX4_X9_weigh : ∀ w ∈ wsX40, w ∈ wsX9_weigh := by decide +kernel
theorem inX7_X9_weigh : ∀ w ∈ wsX70, w ∈ wsX9_weigh := by decide +kernel
theorem inX9_X9_weigh : ∀ w ∈ wsX90, w ∈ wsX9_weigh := by decide +kernel
set_option maxRecDepth 100000 in
set_option maxHeartbeats 4000000 in
theorem mtX9_weigh (l : Launch) (G : mh_G) (n : Nat) (M : mh_M) (a0 : Int32) (a1 : Int32) (a2 : Int32) (a3 : Int32) {z : mh_M × Int32} (ho : fX9_weigh n M a0 a1 a2 a3 = some z) : Met l yX9_weigh wsX9_weigh rmX9_weigh (mh_Pc G M [.ref (G.2.2 0 0), .int a0, .int a1, .int a2, .int a3]) (mh_Q G z.1 (some (.int z.2))) 0 0 (mh_dom G) := by
  refine mh_met (cc := cX9_weigh) (maxL := 7) (ret := (some .int)) (by decide) rfl (Nat.le_of_ble_eq_true rfl) ho ?_
  rintro X rfl rfl C hR
  show mh_W X rmX9_weigh 7 _ z M 0 [(0, .ref (xad X 0 0)), (1, .int a0), (2, .int a1), (3, .int a2), (4, .int a3)] []
  replace C : mh_C X rmX9_weigh cX9_weigh wsX9_weigh RX9 7 := C
  unfold fX9_weigh
  refine ms_iload_n C dX9_weigh_0 1 rfl ?_
  refine ms_callSi (As := [.int a0]) C dX9_weigh_1 (fun _ h => mtX9_isBar (xl X) (xg X) n M a0 h) (va_cwS 1 C.2.2.1 gX9_weigh_X9_isBar rfl rfl rfl (by decide +kernel) ⟨Nat.le_of_ble_eq_true rfl, Nat.le_of_ble_eq_true rfl⟩) rfl rfl (Nat.le_of_ble_eq_true rfl) (fun v1 => ?_)
  refine ms_if_eq (tgt := 37) C dX9_weigh_4 (by decide) (fun c2 => ?_) (fun c2 => ?_)
  · refine ms_ldc C (-1000000000 : Int32) dX9_weigh_37 (by decide +kernel) ?_
    exact ms_iretm C hR rfl dX9_weigh_39
  · refine ms_aload_n C dX9_weigh_7 0 rfl ?_
    refine ms_iload_n C dX9_weigh_8 2 rfl ?_
    refine ms_callVi (As := [.int a1]) C dX9_weigh_9 (fun _ h => mtX9_isKind (xl X) (xg X) n M a1 h) (cwV 1 C.2.2.1 gX9_weigh_X9_isKind rfl rfl rfl (by decide +kernel) ⟨Nat.le_of_ble_eq_true rfl, Nat.le_of_ble_eq_true rfl⟩) (zz0 (G := xg X) Nat.one_pos) (T := TX9) rfl rfl rfl (Nat.le_of_ble_eq_true rfl) (fun v3 => ?_)
    refine ms_if_eq (tgt := 37) C dX9_weigh_12 (by decide) (fun c4 => ?_) (fun c4 => ?_)
    · refine ms_ldc C (-1000000000 : Int32) dX9_weigh_37 (by decide +kernel) ?_
      exact ms_iretm C hR rfl dX9_weigh_39
    · refine ms_iload_n C dX9_weigh_15 3 rfl ?_
      refine ms_iconst C (0 : Int32) dX9_weigh_16 (by decide) ?_
      refine ms_bipush C (50 : Int32) dX9_weigh_17 (by decide) ?_
      refine ms_callSi (As := [.int a2, .int (0 : Int32), .int (50 : Int32)]) C dX9_weigh_19 (fun _ h => mtX9_isIn (xl X) (xg X) n M a2 (0 : Int32) (50 : Int32) h) (va_cwS 3 C.2.2.1 gX9_weigh_X9_isIn rfl rfl rfl (by decide +kernel) ⟨Nat.le_of_ble_eq_true rfl, Nat.le_of_ble_eq_true rfl⟩) rfl rfl (Nat.le_of_ble_eq_true rfl) (fun v5 => ?_)
      refine ms_if_eq (tgt := 37) C dX9_weigh_22 (by decide) (fun c6 => ?_) (fun c6 => ?_)
      · refine ms_ldc C (-1000000000 : Int32) dX9_weigh_37 (by decide +kernel) ?_
        exact ms_iretm C hR rfl dX9_weigh_39
      · refine ms_iload C dX9_weigh_25 4 rfl ?_
        refine ms_iconst C (0 : Int32) dX9_weigh_27 (by decide) ?_
        refine ms_sipush C (5000 : Int32) dX9_weigh_28 (by decide) ?_
        refine ms_callSi (As := [.int a3, .int (0 : Int32), .int (5000 : Int32)]) C dX9_weigh_31 (fun _ h => mtX9_isIn (xl X) (xg X) n M a3 (0 : Int32) (5000 : Int32) h) (va_cwS 3 C.2.2.1 gX9_weigh_X9_isIn rfl rfl rfl (by decide +kernel) ⟨Nat.le_of_ble_eq_true rfl, Nat.le_of_ble_eq_true rfl⟩) rfl rfl (Nat.le_of_ble_eq_true rfl) (fun v7 => ?_)
        refine ms_if_ne (tgt := 40) C dX9_weigh_34 (by decide) (fun c8 => ?_) (fun c8 => ?_)
        · refine ms_aload_n C dX9_weigh_40 0 rfl ?_
          refine ms_aload_n C dX9_weigh_41 0 rfl ?_
          refine ms_geti C dX9_weigh_42 (zz0 (G := xg X) Nat.one_pos) (k := 6) (Nat.le_of_ble_eq_true rfl) rfl (Cn := RX9) (T := TX9) rfl inX9_X9_weigh rfl (by decide +kernel) (fun v9 => ?_)
          refine ms_iload_n C dX9_weigh_45 1 rfl ?_
          refine ms_callVr (As := [.int v9, .int a0]) C dX9_weigh_46 (fun _ h => mtX9_sheetOf (xl X) (xg X) n M v9 a0 h) (cwV 2 C.2.2.1 gX9_weigh_X9_sheetOf rfl rfl rfl (by decide +kernel) ⟨Nat.le_of_ble_eq_true rfl, Nat.le_of_ble_eq_true rfl⟩) (zz0 (G := xg X) Nat.one_pos) (T := TX9) rfl rfl rfl (Nat.le_of_ble_eq_true rfl) (t2 := 25) (N2 := 40) (fun _ h => bX9_sheetOf h) (fun q10 hq10 => ?_)
          refine ms_astore (L' := [(5, .ref (xad X 25 q10)), (0, .ref (xad X 0 0)), (1, .int a0), (2, .int a1), (3, .int a2), (4, .int a3)]) C dX9_weigh_49 (by decide) rfl ?_
          refine ms_aload C dX9_weigh_51 0 rfl ?_
          refine ms_getr C dX9_weigh_53 (zz25 (G := xg X) hq10) (k := 2) (Nat.le_of_ble_eq_true rfl) (b := xad X 27 q10) rfl (Cn := RX7) (T := TX7) rfl inX7_X9_weigh rfl (by decide +kernel) ?_
          refine ms_iload_n C dX9_weigh_56 3 rfl ?_
          refine ms_zld C dX9_weigh_57 (zz27 (G := xg X) hq10) rfl (fun _ v11 => ?_)
          refine ms_if_eq (tgt := 64) C dX9_weigh_58 (by decide) (fun c12 => ?_) (fun c12 => ?_)
          · refine ms_aload_n C dX9_weigh_64 1 rfl ?_
            refine ms_getr C dX9_weigh_65 (zz0 (G := xg X) Nat.one_pos) (k := 0) (Nat.le_of_ble_eq_true rfl) (b := xad X 1 0) rfl (Cn := RX9) (T := TX9) rfl inX9_X9_weigh rfl (by decide +kernel) ?_
            refine ms_iload_n C dX9_weigh_68 3 rfl ?_
            refine ms_ald C dX9_weigh_69 (zz1 (G := xg X) Nat.one_pos) rfl rfl (fun q13 hq13 => ?_)
            refine ms_getr C dX9_weigh_70 (zz20 (G := xg X) hq13) (k := 5) (Nat.le_of_ble_eq_true rfl) (b := xad X 21 q13) rfl (Cn := RX4) (T := TX4) rfl inX4_X9_weigh rfl (by decide +kernel) ?_
            refine ms_iload_n C dX9_weigh_73 2 rfl ?_
            refine ms_ld C dX9_weigh_74 (zz21 (G := xg X) hq13) rfl (fun _ v14 => ?_)
            refine ms_aload_n C dX9_weigh_75 1 rfl ?_
            refine ms_getr C dX9_weigh_76 (zz0 (G := xg X) Nat.one_pos) (k := 0) (Nat.le_of_ble_eq_true rfl) (b := xad X 1 0) rfl (Cn := RX9) (T := TX9) rfl inX9_X9_weigh rfl (by decide +kernel) ?_
            refine ms_iload_n C dX9_weigh_79 3 rfl ?_
            refine ms_ald C dX9_weigh_80 (zz1 (G := xg X) Nat.one_pos) rfl rfl (fun q15 hq15 => ?_)
            refine ms_iload_n C dX9_weigh_81 4 rfl ?_
            refine ms_iload C dX9_weigh_82 5 rfl ?_
            refine ms_callVi (As := [.int a2, .int a3]) C dX9_weigh_84 (fun _ h => mtX4_found (xl X) (xg X) n M q15 a2 a3 hq15 h) (cwV 2 C.2.2.1 gX9_weigh_X4_found rfl rfl rfl (by decide +kernel) ⟨Nat.le_of_ble_eq_true rfl, Nat.le_of_ble_eq_true rfl⟩) (zz20 (G := xg X) hq15) (T := TX4) rfl rfl rfl (Nat.le_of_ble_eq_true rfl) (fun v16 => ?_)
            refine ms_isub C dX9_weigh_87 (fun v17 => ?_)
            refine ms_istore (L' := [(6, .int v17), (5, .ref (xad X 25 q10)), (0, .ref (xad X 0 0)), (1, .int a0), (2, .int a1), (3, .int a2), (4, .int a3)]) C dX9_weigh_88 (by decide) rfl ?_
            refine ms_aload C dX9_weigh_90 1 rfl ?_
            refine ms_getr C dX9_weigh_92 (zz25 (G := xg X) hq10) (k := 4) (Nat.le_of_ble_eq_true rfl) (b := xad X 29 q10) rfl (Cn := RX7) (T := TX7) rfl inX7_X9_weigh rfl (by decide +kernel) ?_
            refine ms_iload_n C dX9_weigh_95 4 rfl ?_
            refine ms_aload_n C dX9_weigh_96 2 rfl ?_
            refine ms_aload C dX9_weigh_97 1 rfl ?_
            refine ms_iload_n C dX9_weigh_99 4 rfl ?_
            refine ms_callVi (As := [.ref (xad X 25 q10), .int a1]) C dX9_weigh_100 (fun _ h => mtX9_spanNow (xl X) (xg X) n M q10 a1 hq10 h) (cwV 2 C.2.2.1 gX9_weigh_X9_spanNow rfl rfl rfl (by decide +kernel) ⟨Nat.le_of_ble_eq_true rfl, Nat.le_of_ble_eq_true rfl⟩) (zz0 (G := xg X) Nat.one_pos) (T := TX9) rfl rfl rfl (Nat.le_of_ble_eq_true rfl) (fun v18 => ?_)
            refine ms_st C dX9_weigh_103 (zz29 (G := xg X) hq10) rfl (fun _ M19 => ?_)
            refine ms_aload_n C dX9_weigh_104 2 rfl ?_
            refine ms_bipush C (6 : Int32) dX9_weigh_105 (by decide) ?_
            refine ms_iload_n C dX9_weigh_107 3 rfl ?_
            refine ms_iload_n C dX9_weigh_108 4 rfl ?_
            refine ms_iload C dX9_weigh_109 0 rfl ?_
            refine ms_iconst C (0 : Int32) dX9_weigh_111 (by decide) ?_
            refine ms_callVv (As := [.int (6 : Int32), .int a0, .int a1, .int v17, .int (0 : Int32)]) C dX9_weigh_112 (fun _ h => mtX9_carryOut (xl X) (xg X) n M19 (6 : Int32) a0 a1 v17 (0 : Int32) h) (cwV 5 C.2.2.1 gX9_weigh_X9_carryOut rfl rfl rfl (by decide +kernel) ⟨Nat.le_of_ble_eq_true rfl, Nat.le_of_ble_eq_true rfl⟩) (zz0 (G := xg X) Nat.one_pos) (T := TX9) rfl rfl rfl (Nat.le_of_ble_eq_true rfl) (fun M20 => ?_)
            refine ms_iload C dX9_weigh_115 0 rfl ?_
            exact ms_iretm C hR rfl dX9_weigh_117
          · refine ms_ldc C (-1000000002 : Int32) dX9_weigh_61 (by decide +kernel) ?_
            exact ms_iretm C hR rfl dX9_weigh_63
        · refine ms_ldc C (-1000000000 : Int32) dX9_weigh_37 (by decide +kernel) ?_
          exact ms_iretm C hR rfl dX9_weigh_39
def rmX9_undo : Room := { frames := 3, cells := 0, slots := 0, locals := 71 }
theorem inX0_X9_undo : ∀ w ∈ wsX00, w ∈ wsX9_undo := by decide +kernel
theorem inX1_X9_undo : ∀ w ∈ wsX10, w ∈ wsX9_undo := by decide +kernel
theorem inX9_X9_undo : ∀ w ∈ wsX90, w ∈ wsX9_undo := by decide +kernel
set_option maxRecDepth 100000 in
set_option maxHeartbeats 4000000 in
theorem mtX9_undo (l : Launch) (G : mh_G) (n : Nat) (M : mh_M) {z : mh_M × Int32} (ho : fX9_undo n M = some z) : Met l yX9_undo wsX9_undo rmX9_undo (mh_Pc G M [.ref (G.2.2 0 0)]) (mh_Q G z.1 (some (.int z.2))) 0 0 (mh_dom G) := by
  refine mh_met (cc := cX9_undo) (maxL := 2) (ret := (some .int)) (by decide) rfl (Nat.le_of_ble_eq_true rfl) ho ?_
  rintro X rfl rfl C hR
  show mh_W X rmX9_undo 2 _ z M 0 [(0, .ref (xad X 0 0))] []
  replace C : mh_C X rmX9_undo cX9_undo wsX9_undo RX9 2 := C
  unfold fX9_undo
  refine ms_aload_n C dX9_undo_0 0 rfl ?_
  refine ms_getr C dX9_undo_1 (zz0 (G := xg X) Nat.one_pos) (k := 7) (Nat.le_of_ble_eq_true rfl) (b := xad X 5 0) rfl (Cn := RX9) (T := TX9) rfl inX9_X9_undo rfl (by decide +kernel) ?_
  refine ms_geti C dX9_undo_4 (zz5 (G := xg X) Nat.one_pos) (k := 1) (Nat.le_of_ble_eq_true rfl) rfl (Cn := RX1) (T := TX1) rfl inX1_X9_undo rfl (by decide +kernel) (fun v1 => ?_)
  refine ms_if_ne (tgt := 13) C dX9_undo_7 (by decide) (fun c2 => ?_) (fun c2 => ?_)
  · refine ms_aload_n C dX9_undo_13 0 rfl ?_
    refine ms_getr C dX9_undo_14 (zz0 (G := xg X) Nat.one_pos) (k := 7) (Nat.le_of_ble_eq_true rfl) (b := xad X 5 0) rfl (Cn := RX9) (T := TX9) rfl inX9_X9_undo rfl (by decide +kernel) ?_
    refine ms_callVq (As := []) C dX9_undo_17 (fun _ h => mtX1_takeLatest (xl X) (xg X) n M h) (cwV 0 C.2.2.1 gX9_undo_X1_takeLatest rfl rfl rfl (by decide +kernel) ⟨Nat.le_of_ble_eq_true rfl, Nat.le_of_ble_eq_true rfl⟩) (zz5 (G := xg X) Nat.one_pos) (T := TX1) rfl rfl rfl (Nat.le_of_ble_eq_true rfl) (t2 := 30) (N2 := 40) (fun _ _ h => bX1_takeLatest h) (fun M3 q4 hq4 => ?_)
    refine ms_astore_n (L' := [(1, .ref (xad X 30 q4)), (0, .ref (xad X 0 0))]) C dX9_undo_20 rfl (by decide) rfl ?_
    refine ms_aload_n C dX9_undo_21 1 rfl ?_
    refine ms_aload_n C dX9_undo_22 0 rfl ?_
    refine ms_iconst C (-1 : Int32) dX9_undo_23 (by decide) ?_
    refine ms_callVv (As := [.ref (xad X 30 q4), .int (-1 : Int32)]) C dX9_undo_24 (fun _ h => mtX9_apply (xl X) (xg X) n M3 q4 (-1 : Int32) hq4 h) (cwV 2 C.2.2.1 gX9_undo_X9_apply rfl rfl rfl (by decide +kernel) ⟨Nat.le_of_ble_eq_true rfl, Nat.le_of_ble_eq_true rfl⟩) (zz0 (G := xg X) Nat.one_pos) (T := TX9) rfl rfl rfl (Nat.le_of_ble_eq_true rfl) (fun M5 => ?_)
    refine ms_aload_n C dX9_undo_27 0 rfl ?_
    refine ms_geti C dX9_undo_28 (zz30 (G := xg X) hq4) (k := 0) (Nat.le_of_ble_eq_true rfl) rfl (Cn := RX0) (T := TX0) rfl inX0_X9_undo rfl (by decide +kernel) (fun v6 => ?_)
    exact ms_iretm C hR rfl dX9_undo_31
  · refine ms_bipush C (-2 : Int32) dX9_undo_10 (by decide) ?_
    exact ms_iretm C hR rfl dX9_undo_12
def rmX9_isKeeper : Room := { frames := 1, cells := 0, slots := 0, locals := 22 }
set_option maxRecDepth 100000 in
set_option maxHeartbeats 4000000 in
theorem mtX9_isKeeper (l : Launch) (G : mh_G) (n : Nat) (M : mh_M) (a0 : Int32) {z : Int32} (ho : fX9_isKeeper n M a0 = some z) : Met l yX9_isKeeper wsX9_isKeeper rmX9_isKeeper (mh_Pc G M [.int a0]) (mh_Q G M (some (.int z))) 0 0 (mh_dom G) := by
  refine mh_met (cc := cX9_isKeeper) (maxL := 1) (ret := (some .boolean)) (by decide) rfl (Nat.le_of_ble_eq_true rfl) ho ?_
  rintro X rfl rfl C hR
  show mh_W X rmX9_isKeeper 1 _ z M 0 [(0, .int a0)] []
  replace C : mh_C X rmX9_isKeeper cX9_isKeeper wsX9_isKeeper RX9 1 := C
  unfold fX9_isKeeper
  refine ms_iload_n C dX9_isKeeper_0 0 rfl ?_
  refine ms_iconst C (0 : Int32) dX9_isKeeper_1 (by decide) ?_
  refine ms_iconst C (2 : Int32) dX9_isKeeper_2 (by decide) ?_
  refine ms_callSb (As := [.int a0, .int (0 : Int32), .int (2 : Int32)]) C dX9_isKeeper_3 (fun _ h => mtX9_isIn (xl X) (xg X) n M a0 (0 : Int32) (2 : Int32) h) (va_cwS 3 C.2.2.1 gX9_isKeeper_X9_isIn rfl rfl rfl (by decide +kernel) ⟨Nat.le_of_ble_eq_true rfl, Nat.le_of_ble_eq_true rfl⟩) rfl rfl (Nat.le_of_ble_eq_true rfl) (fun _ h => bX9_isIn h) (fun v1 hv1 => ?_)
  exact ms_ireti C hR rfl hv1 dX9_isKeeper_6
def rmX9_keeper : Room := { frames := 2, cells := 0, slots := 0, locals := 42 }
theorem inX7_X9_keeper : ∀ w ∈ wsX70, w ∈ wsX9_keeper := by decide +kernel
theorem inX9_X9_keeper : ∀ w ∈ wsX90, w ∈ wsX9_keeper := by decide +kernel
set_option maxRecDepth 100000 in
set_option maxHeartbeats 4000000 in
theorem mtX9_keeper (l : Launch) (G : mh_G) (n : Nat) (M : mh_M) (a0 : Int32) (a1 : Int32) {z : mh_M × Int32} (ho : fX9_keeper n M a0 a1 = some z) : Met l yX9_keeper wsX9_keeper rmX9_keeper (mh_Pc G M [.ref (G.2.2 0 0), .int a0, .int a1]) (mh_Q G z.1 (some (.int z.2))) 0 0 (mh_dom G) := by
  refine mh_met (cc := cX9_keeper) (maxL := 5) (ret := (some .int)) (by decide) rfl (Nat.le_of_ble_eq_true rfl) ho ?_
  rintro X rfl rfl C hR
  show mh_W X rmX9_keeper 5 _ z M 0 [(0, .ref (xad X 0 0)), (1, .int a0), (2, .int a1)] []
  replace C : mh_C X rmX9_keeper cX9_keeper wsX9_keeper RX9 5 := C
  unfold fX9_keeper
  refine ms_iload_n C dX9_keeper_0 1 rfl ?_
  refine ms_callSi (As := [.int a0]) C dX9_keeper_1 (fun _ h => mtX9_isBar (xl X) (xg X) n M a0 h) (va_cwS 1 C.2.2.1 gX9_keeper_X9_isBar rfl rfl rfl (by decide +kernel) ⟨Nat.le_of_ble_eq_true rfl, Nat.le_of_ble_eq_true rfl⟩) rfl rfl (Nat.le_of_ble_eq_true rfl) (fun v1 => ?_)
  refine ms_if_eq (tgt := 14) C dX9_keeper_4 (by decide) (fun c2 => ?_) (fun c2 => ?_)
  · refine ms_iconst C (-1 : Int32) dX9_keeper_14 (by decide) ?_
    exact ms_iretm C hR rfl dX9_keeper_15
  · refine ms_iload_n C dX9_keeper_7 2 rfl ?_
    refine ms_callSi (As := [.int a1]) C dX9_keeper_8 (fun _ h => mtX9_isKeeper (xl X) (xg X) n M a1 h) (va_cwS 1 C.2.2.1 gX9_keeper_X9_isKeeper rfl rfl rfl (by decide +kernel) ⟨Nat.le_of_ble_eq_true rfl, Nat.le_of_ble_eq_true rfl⟩) rfl rfl (Nat.le_of_ble_eq_true rfl) (fun v3 => ?_)
    refine ms_if_ne (tgt := 16) C dX9_keeper_11 (by decide) (fun c4 => ?_) (fun c4 => ?_)
    · refine ms_aload_n C dX9_keeper_16 0 rfl ?_
      refine ms_aload_n C dX9_keeper_17 0 rfl ?_
      refine ms_geti C dX9_keeper_18 (zz0 (G := xg X) Nat.one_pos) (k := 6) (Nat.le_of_ble_eq_true rfl) rfl (Cn := RX9) (T := TX9) rfl inX9_X9_keeper rfl (by decide +kernel) (fun v5 => ?_)
      refine ms_iload_n C dX9_keeper_21 1 rfl ?_
      refine ms_callVr (As := [.int v5, .int a0]) C dX9_keeper_22 (fun _ h => mtX9_sheetOf (xl X) (xg X) n M v5 a0 h) (cwV 2 C.2.2.1 gX9_keeper_X9_sheetOf rfl rfl rfl (by decide +kernel) ⟨Nat.le_of_ble_eq_true rfl, Nat.le_of_ble_eq_true rfl⟩) (zz0 (G := xg X) Nat.one_pos) (T := TX9) rfl rfl rfl (Nat.le_of_ble_eq_true rfl) (t2 := 25) (N2 := 40) (fun _ h => bX9_sheetOf h) (fun q6 hq6 => ?_)
      refine ms_astore_n (L' := [(3, .ref (xad X 25 q6)), (0, .ref (xad X 0 0)), (1, .int a0), (2, .int a1)]) C dX9_keeper_25 rfl (by decide) rfl ?_
      refine ms_aload_n C dX9_keeper_26 0 rfl ?_
      refine ms_geti C dX9_keeper_27 (zz25 (G := xg X) hq6) (k := 0) (Nat.le_of_ble_eq_true rfl) rfl (Cn := RX7) (T := TX7) rfl inX7_X9_keeper rfl (by decide +kernel) (fun v7 => ?_)
      refine ms_istore (L' := [(4, .int v7), (3, .ref (xad X 25 q6)), (0, .ref (xad X 0 0)), (1, .int a0), (2, .int a1)]) C dX9_keeper_30 (by decide) rfl ?_
      refine ms_aload_n C dX9_keeper_32 1 rfl ?_
      refine ms_iload_n C dX9_keeper_33 4 rfl ?_
      refine ms_puti C dX9_keeper_34 tyX7 tyX7_ok nmX7 (zz25 (G := xg X) hq6) (k := 0) (Nat.le_of_ble_eq_true rfl) rfl (Cn := RX7) (T := TX7) rfl inX7_X9_keeper rfl (by decide +kernel) rfl (by decide +kernel) (fun M8 => ?_)
      refine ms_iload C dX9_keeper_37 0 rfl ?_
      exact ms_iretm C hR rfl dX9_keeper_39
    · refine ms_iconst C (-1 : Int32) dX9_keeper_14 (by decide) ?_
      exact ms_iretm C hR rfl dX9_keeper_15
def rmX9_night : Room := { frames := 1, cells := 0, slots := 0, locals := 22 }
theorem inX1_X9_night : ∀ w ∈ wsX10, w ∈ wsX9_night := by decide +kernel
theorem inX7_X9_night : ∀ w ∈ wsX70, w ∈ wsX9_night := by decide +kernel
theorem inX9_X9_night : ∀ w ∈ wsX90, w ∈ wsX9_night := by decide +kernel
set_option maxRecDepth 100000 in
set_option maxHeartbeats 4000000 in
theorem mtX9_night_L14 {X : mh_X} {n : Nat} {z : mh_M × Int32} (C : mh_C X rmX9_night cX9_night wsX9_night RX9 2) (hR : mh_R X (some .int) z.1 (some (.int z.2))) : ∀ (k : Nat) (M : mh_M) (x1 : Int32), mh_W X rmX9_night 2 (itr2 (fX9_night_L14 n) k M x1) z M 14 [(0, .ref (xad X 0 0)), (1, .int x1)] [] := by
  intro k
  induction k with
  | zero =>
    intro M x1
    exact ms_none
  | succ k ih =>
    intro M x1
    show mh_W X rmX9_night 2 (fX9_night_L14 n (itr2 (fX9_night_L14 n) k) M x1) z M 14 [(0, .ref (xad X 0 0)), (1, .int x1)] []
    generalize itr2 (fX9_night_L14 n) k = rec at ih ⊢
    unfold fX9_night_L14
    refine ms_iload_n C dX9_night_14 1 rfl ?_
    refine ms_iconst C (2 : Int32) dX9_night_15 (by decide) ?_
    refine ms_icmp_ge (tgt := 51) C dX9_night_16 (by decide) (fun c3 => ?_) (fun c3 => ?_)
    · refine ms_aload_n C dX9_night_51 0 rfl ?_
      refine ms_dup C dX9_night_52 rfl ?_
      refine ms_geti C dX9_night_53 (zz0 (G := xg X) Nat.one_pos) (k := 6) (Nat.le_of_ble_eq_true rfl) rfl (Cn := RX9) (T := TX9) rfl inX9_X9_night rfl (by decide +kernel) (fun v4 => ?_)
      refine ms_iconst C (1 : Int32) dX9_night_56 (by decide) ?_
      refine ms_iadd C dX9_night_57 (fun v5 => ?_)
      refine ms_puti C dX9_night_58 tyX9 tyX9_ok nmX9 (zz0 (G := xg X) Nat.one_pos) (k := 6) (Nat.le_of_ble_eq_true rfl) rfl (Cn := RX9) (T := TX9) rfl inX9_X9_night rfl (by decide +kernel) rfl (by decide +kernel) (fun M6 => ?_)
      refine ms_aload_n C dX9_night_61 0 rfl ?_
      refine ms_getr C dX9_night_62 (zz0 (G := xg X) Nat.one_pos) (k := 7) (Nat.le_of_ble_eq_true rfl) (b := xad X 5 0) rfl (Cn := RX9) (T := TX9) rfl inX9_X9_night rfl (by decide +kernel) ?_
      refine ms_iconst C (0 : Int32) dX9_night_65 (by decide) ?_
      refine ms_puti C dX9_night_66 tyX1 tyX1_ok nmX1 (zz5 (G := xg X) Nat.one_pos) (k := 1) (Nat.le_of_ble_eq_true rfl) rfl (Cn := RX1) (T := TX1) rfl inX1_X9_night rfl (by decide +kernel) rfl (by decide +kernel) (fun M7 => ?_)
      refine ms_aload_n C dX9_night_69 0 rfl ?_
      refine ms_geti C dX9_night_70 (zz0 (G := xg X) Nat.one_pos) (k := 6) (Nat.le_of_ble_eq_true rfl) rfl (Cn := RX9) (T := TX9) rfl inX9_X9_night rfl (by decide +kernel) (fun v8 => ?_)
      exact ms_iretm C hR rfl dX9_night_73
    · refine ms_aload_n C dX9_night_19 0 rfl ?_
      refine ms_aload_n C dX9_night_20 0 rfl ?_
      refine ms_geti C dX9_night_21 (zz0 (G := xg X) Nat.one_pos) (k := 6) (Nat.le_of_ble_eq_true rfl) rfl (Cn := RX9) (T := TX9) rfl inX9_X9_night rfl (by decide +kernel) (fun v9 => ?_)
      refine ms_iconst C (1 : Int32) dX9_night_24 (by decide) ?_
      refine ms_iadd C dX9_night_25 (fun v10 => ?_)
      refine ms_iload_n C dX9_night_26 1 rfl ?_
      refine ms_callVr (As := [.int v10, .int x1]) C dX9_night_27 (fun _ h => mtX9_sheetOf (xl X) (xg X) n M v10 x1 h) (cwV 2 C.2.2.1 gX9_night_X9_sheetOf rfl rfl rfl (by decide +kernel) ⟨Nat.le_of_ble_eq_true rfl, Nat.le_of_ble_eq_true rfl⟩) (zz0 (G := xg X) Nat.one_pos) (T := TX9) rfl rfl rfl (Nat.le_of_ble_eq_true rfl) (t2 := 25) (N2 := 40) (fun _ h => bX9_sheetOf h) (fun q11 hq11 => ?_)
      refine ms_aload_n C dX9_night_30 0 rfl ?_
      refine ms_aload_n C dX9_night_31 0 rfl ?_
      refine ms_geti C dX9_night_32 (zz0 (G := xg X) Nat.one_pos) (k := 6) (Nat.le_of_ble_eq_true rfl) rfl (Cn := RX9) (T := TX9) rfl inX9_X9_night rfl (by decide +kernel) (fun v12 => ?_)
      refine ms_iload_n C dX9_night_35 1 rfl ?_
      refine ms_callVr (As := [.int v12, .int x1]) C dX9_night_36 (fun _ h => mtX9_sheetOf (xl X) (xg X) n M v12 x1 h) (cwV 2 C.2.2.1 gX9_night_X9_sheetOf rfl rfl rfl (by decide +kernel) ⟨Nat.le_of_ble_eq_true rfl, Nat.le_of_ble_eq_true rfl⟩) (zz0 (G := xg X) Nat.one_pos) (T := TX9) rfl rfl rfl (Nat.le_of_ble_eq_true rfl) (t2 := 25) (N2 := 40) (fun _ h => bX9_sheetOf h) (fun q13 hq13 => ?_)
      refine ms_geti C dX9_night_39 (zz25 (G := xg X) hq13) (k := 0) (Nat.le_of_ble_eq_true rfl) rfl (Cn := RX7) (T := TX7) rfl inX7_X9_night rfl (by decide +kernel) (fun v14 => ?_)
      refine ms_puti C dX9_night_42 tyX7 tyX7_ok nmX7 (zz25 (G := xg X) hq11) (k := 0) (Nat.le_of_ble_eq_true rfl) rfl (Cn := RX7) (T := TX7) rfl inX7_X9_night rfl (by decide +kernel) rfl (by decide +kernel) (fun M15 => ?_)
      refine ms_iinc (L' := fun v16 => [(1, .int v16), (0, .ref (xad X 0 0))]) C dX9_night_45 1 rfl (c := 1) (by decide) (by decide) (fun _ => rfl) (fun v16 => ?_)
      refine ms_goto (tgt := 14) C dX9_night_48 (by decide) ?_
      exact ms_sub [1, 0] rfl (ih M15 v16)
set_option maxRecDepth 100000 in
set_option maxHeartbeats 4000000 in
theorem mtX9_night (l : Launch) (G : mh_G) (n : Nat) (M : mh_M) {z : mh_M × Int32} (ho : fX9_night n M = some z) : Met l yX9_night wsX9_night rmX9_night (mh_Pc G M [.ref (G.2.2 0 0)]) (mh_Q G z.1 (some (.int z.2))) 0 0 (mh_dom G) := by
  refine mh_met (cc := cX9_night) (maxL := 2) (ret := (some .int)) (by decide) rfl (Nat.le_of_ble_eq_true rfl) ho ?_
  rintro X rfl rfl C hR
  show mh_W X rmX9_night 2 _ z M 0 [(0, .ref (xad X 0 0))] []
  replace C : mh_C X rmX9_night cX9_night wsX9_night RX9 2 := C
  unfold fX9_night
  refine ms_aload_n C dX9_night_0 0 rfl ?_
  refine ms_geti C dX9_night_1 (zz0 (G := xg X) Nat.one_pos) (k := 6) (Nat.le_of_ble_eq_true rfl) rfl (Cn := RX9) (T := TX9) rfl inX9_X9_night rfl (by decide +kernel) (fun v1 => ?_)
  refine ms_bipush C (19 : Int32) dX9_night_4 (by decide) ?_
  refine ms_icmp_lt (tgt := 12) C dX9_night_6 (by decide) (fun c2 => ?_) (fun c2 => ?_)
  · refine ms_iconst C (0 : Int32) dX9_night_12 (by decide) ?_
    refine ms_istore_n (L' := [(1, .int (0 : Int32)), (0, .ref (xad X 0 0))]) C dX9_night_13 rfl (by decide) rfl ?_
    exact ms_sub [1, 0] rfl (mtX9_night_L14 (n := n) C hR n M (0 : Int32))
  · refine ms_bipush C (-3 : Int32) dX9_night_9 (by decide) ?_
    exact ms_iretm C hR rfl dX9_night_11
def rmX9_has : Room := { frames := 2, cells := 0, slots := 0, locals := 43 }
theorem inX4_X9_has : ∀ w ∈ wsX40, w ∈ wsX9_has := by decide +kernel
theorem inX9_X9_has : ∀ w ∈ wsX90, w ∈ wsX9_has := by decide +kernel
set_option maxRecDepth 100000 in
set_option maxHeartbeats 4000000 in
theorem mtX9_has (l : Launch) (G : mh_G) (n : Nat) (M : mh_M) (a0 : Int32) (a1 : Int32) {z : Int32} (ho : fX9_has n M a0 a1 = some z) : Met l yX9_has wsX9_has rmX9_has (mh_Pc G M [.ref (G.2.2 0 0), .int a0, .int a1]) (mh_Q G M (some (.int z))) 0 0 (mh_dom G) := by
  refine mh_met (cc := cX9_has) (maxL := 3) (ret := (some .int)) (by decide) rfl (Nat.le_of_ble_eq_true rfl) ho ?_
  rintro X rfl rfl C hR
  show mh_W X rmX9_has 3 _ z M 0 [(0, .ref (xad X 0 0)), (1, .int a0), (2, .int a1)] []
  replace C : mh_C X rmX9_has cX9_has wsX9_has RX9 3 := C
  unfold fX9_has
  refine ms_iload_n C dX9_has_0 1 rfl ?_
  refine ms_iconst C (0 : Int32) dX9_has_1 (by decide) ?_
  refine ms_iconst C (2 : Int32) dX9_has_2 (by decide) ?_
  refine ms_callSi (As := [.int a0, .int (0 : Int32), .int (2 : Int32)]) C dX9_has_3 (fun _ h => mtX9_isIn (xl X) (xg X) n M a0 (0 : Int32) (2 : Int32) h) (va_cwS 3 C.2.2.1 gX9_has_X9_isIn rfl rfl rfl (by decide +kernel) ⟨Nat.le_of_ble_eq_true rfl, Nat.le_of_ble_eq_true rfl⟩) rfl rfl (Nat.le_of_ble_eq_true rfl) (fun v1 => ?_)
  refine ms_if_eq (tgt := 17) C dX9_has_6 (by decide) (fun c2 => ?_) (fun c2 => ?_)
  · refine ms_ldc C (-1000000000 : Int32) dX9_has_17 (by decide +kernel) ?_
    exact ms_ireti C hR rfl rfl dX9_has_19
  · refine ms_aload_n C dX9_has_9 0 rfl ?_
    refine ms_iload_n C dX9_has_10 2 rfl ?_
    refine ms_callVi (As := [.int a1]) C dX9_has_11 (fun _ h => mtX9_isKind (xl X) (xg X) n M a1 h) (cwV 1 C.2.2.1 gX9_has_X9_isKind rfl rfl rfl (by decide +kernel) ⟨Nat.le_of_ble_eq_true rfl, Nat.le_of_ble_eq_true rfl⟩) (zz0 (G := xg X) Nat.one_pos) (T := TX9) rfl rfl rfl (Nat.le_of_ble_eq_true rfl) (fun v3 => ?_)
    refine ms_if_ne (tgt := 20) C dX9_has_14 (by decide) (fun c4 => ?_) (fun c4 => ?_)
    · refine ms_iload_n C dX9_has_20 1 rfl ?_
      refine ms_iconst C (2 : Int32) dX9_has_21 (by decide) ?_
      refine ms_icmp_ne (tgt := 37) C dX9_has_22 (by decide) (fun c5 => ?_) (fun c5 => ?_)
      · refine ms_aload_n C dX9_has_37 0 rfl ?_
        refine ms_getr C dX9_has_38 (zz0 (G := xg X) Nat.one_pos) (k := 0) (Nat.le_of_ble_eq_true rfl) (b := xad X 1 0) rfl (Cn := RX9) (T := TX9) rfl inX9_X9_has rfl (by decide +kernel) ?_
        refine ms_iload_n C dX9_has_41 2 rfl ?_
        refine ms_ald C dX9_has_42 (zz1 (G := xg X) Nat.one_pos) rfl rfl (fun q6 hq6 => ?_)
        refine ms_getr C dX9_has_43 (zz20 (G := xg X) hq6) (k := 5) (Nat.le_of_ble_eq_true rfl) (b := xad X 21 q6) rfl (Cn := RX4) (T := TX4) rfl inX4_X9_has rfl (by decide +kernel) ?_
        refine ms_iload_n C dX9_has_46 1 rfl ?_
        refine ms_ld C dX9_has_47 (zz21 (G := xg X) hq6) rfl (fun _ v7 => ?_)
        exact ms_ireti C hR rfl rfl dX9_has_48
      · refine ms_aload_n C dX9_has_25 0 rfl ?_
        refine ms_getr C dX9_has_26 (zz0 (G := xg X) Nat.one_pos) (k := 0) (Nat.le_of_ble_eq_true rfl) (b := xad X 1 0) rfl (Cn := RX9) (T := TX9) rfl inX9_X9_has rfl (by decide +kernel) ?_
        refine ms_iload_n C dX9_has_29 2 rfl ?_
        refine ms_ald C dX9_has_30 (zz1 (G := xg X) Nat.one_pos) rfl rfl (fun q8 hq8 => ?_)
        refine ms_geti C dX9_has_31 (zz20 (G := xg X) hq8) (k := 3) (Nat.le_of_ble_eq_true rfl) rfl (Cn := RX4) (T := TX4) rfl inX4_X9_has rfl (by decide +kernel) (fun v9 => ?_)
        refine ms_goto (tgt := 48) C dX9_has_34 (by decide) ?_
        exact ms_ireti C hR rfl rfl dX9_has_48
    · refine ms_ldc C (-1000000000 : Int32) dX9_has_17 (by decide +kernel) ?_
      exact ms_ireti C hR rfl rfl dX9_has_19
def rmX9_all : Room := { frames := 2, cells := 0, slots := 0, locals := 43 }
theorem inX4_X9_all : ∀ w ∈ wsX40, w ∈ wsX9_all := by decide +kernel
theorem inX9_X9_all : ∀ w ∈ wsX90, w ∈ wsX9_all := by decide +kernel
set_option maxRecDepth 100000 in
set_option maxHeartbeats 4000000 in
theorem mtX9_all (l : Launch) (G : mh_G) (n : Nat) (M : mh_M) (a0 : Int32) (a1 : Int32) {z : Int32} (ho : fX9_all n M a0 a1 = some z) : Met l yX9_all wsX9_all rmX9_all (mh_Pc G M [.ref (G.2.2 0 0), .int a0, .int a1]) (mh_Q G M (some (.int z))) 0 0 (mh_dom G) := by
  refine mh_met (cc := cX9_all) (maxL := 3) (ret := (some .int)) (by decide) rfl (Nat.le_of_ble_eq_true rfl) ho ?_
  rintro X rfl rfl C hR
  show mh_W X rmX9_all 3 _ z M 0 [(0, .ref (xad X 0 0)), (1, .int a0), (2, .int a1)] []
  replace C : mh_C X rmX9_all cX9_all wsX9_all RX9 3 := C
  unfold fX9_all
  refine ms_aload_n C dX9_all_0 0 rfl ?_
  refine ms_iload_n C dX9_all_1 1 rfl ?_
  refine ms_callVi (As := [.int a0]) C dX9_all_2 (fun _ h => mtX9_isKind (xl X) (xg X) n M a0 h) (cwV 1 C.2.2.1 gX9_all_X9_isKind rfl rfl rfl (by decide +kernel) ⟨Nat.le_of_ble_eq_true rfl, Nat.le_of_ble_eq_true rfl⟩) (zz0 (G := xg X) Nat.one_pos) (T := TX9) rfl rfl rfl (Nat.le_of_ble_eq_true rfl) (fun v1 => ?_)
  refine ms_if_eq (tgt := 17) C dX9_all_5 (by decide) (fun c2 => ?_) (fun c2 => ?_)
  · refine ms_ldc C (-1000000000 : Int32) dX9_all_17 (by decide +kernel) ?_
    exact ms_ireti C hR rfl rfl dX9_all_19
  · refine ms_iload_n C dX9_all_8 2 rfl ?_
    refine ms_iconst C (0 : Int32) dX9_all_9 (by decide) ?_
    refine ms_iconst C (4 : Int32) dX9_all_10 (by decide) ?_
    refine ms_callSi (As := [.int a1, .int (0 : Int32), .int (4 : Int32)]) C dX9_all_11 (fun _ h => mtX9_isIn (xl X) (xg X) n M a1 (0 : Int32) (4 : Int32) h) (va_cwS 3 C.2.2.1 gX9_all_X9_isIn rfl rfl rfl (by decide +kernel) ⟨Nat.le_of_ble_eq_true rfl, Nat.le_of_ble_eq_true rfl⟩) rfl rfl (Nat.le_of_ble_eq_true rfl) (fun v3 => ?_)
    refine ms_if_ne (tgt := 20) C dX9_all_14 (by decide) (fun c4 => ?_) (fun c4 => ?_)
    · refine ms_iload_n C dX9_all_20 2 rfl ?_
      refine ms_iconst C (4 : Int32) dX9_all_21 (by decide) ?_
      refine ms_icmp_ne (tgt := 37) C dX9_all_22 (by decide) (fun c5 => ?_) (fun c5 => ?_)
      · refine ms_aload_n C dX9_all_37 0 rfl ?_
        refine ms_getr C dX9_all_38 (zz0 (G := xg X) Nat.one_pos) (k := 0) (Nat.le_of_ble_eq_true rfl) (b := xad X 1 0) rfl (Cn := RX9) (T := TX9) rfl inX9_X9_all rfl (by decide +kernel) ?_
        refine ms_iload_n C dX9_all_41 1 rfl ?_
        refine ms_ald C dX9_all_42 (zz1 (G := xg X) Nat.one_pos) rfl rfl (fun q6 hq6 => ?_)
        refine ms_getr C dX9_all_43 (zz20 (G := xg X) hq6) (k := 6) (Nat.le_of_ble_eq_true rfl) (b := xad X 22 q6) rfl (Cn := RX4) (T := TX4) rfl inX4_X9_all rfl (by decide +kernel) ?_
        refine ms_iload_n C dX9_all_46 2 rfl ?_
        refine ms_ld C dX9_all_47 (zz22 (G := xg X) hq6) rfl (fun _ v7 => ?_)
        exact ms_ireti C hR rfl rfl dX9_all_48
      · refine ms_aload_n C dX9_all_25 0 rfl ?_
        refine ms_getr C dX9_all_26 (zz0 (G := xg X) Nat.one_pos) (k := 0) (Nat.le_of_ble_eq_true rfl) (b := xad X 1 0) rfl (Cn := RX9) (T := TX9) rfl inX9_X9_all rfl (by decide +kernel) ?_
        refine ms_iload_n C dX9_all_29 1 rfl ?_
        refine ms_ald C dX9_all_30 (zz1 (G := xg X) Nat.one_pos) rfl rfl (fun q8 hq8 => ?_)
        refine ms_geti C dX9_all_31 (zz20 (G := xg X) hq8) (k := 4) (Nat.le_of_ble_eq_true rfl) rfl (Cn := RX4) (T := TX4) rfl inX4_X9_all rfl (by decide +kernel) (fun v9 => ?_)
        refine ms_goto (tgt := 48) C dX9_all_34 (by decide) ?_
        exact ms_ireti C hR rfl rfl dX9_all_48
    · refine ms_ldc C (-1000000000 : Int32) dX9_all_17 (by decide +kernel) ?_
      exact ms_ireti C hR rfl rfl dX9_all_19
