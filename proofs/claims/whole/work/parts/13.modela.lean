def rmX10_in : Room := { frames := 0, cells := 0, slots := 0, locals := 0 }
set_option maxRecDepth 100000 in
set_option maxHeartbeats 4000000 in
theorem mtX10_in (l : Launch) (G : mh_G) (n : Nat) (M : mh_M) (a0 : Int32) (a1 : Int32) (a2 : Int32) {z : Int32} (ho : fX10_in n M a0 a1 a2 = some z) : Met l yX10_in wsX10_in rmX10_in (mh_Pc G M [.int a0, .int a1, .int a2]) (mh_Q G M (some (.int z))) 0 0 (mh_dom G) := by
  refine mh_met (cc := cX10_in) (maxL := 3) (ret := (some .boolean)) (by decide) rfl (Nat.le_of_ble_eq_true rfl) ho ?_
  rintro X rfl rfl C hR
  show mh_W X rmX10_in 3 _ z M 0 [(0, .int a0), (1, .int a1), (2, .int a2)] []
  replace C : mh_C X rmX10_in cX10_in wsX10_in RX10 3 := C
  unfold fX10_in
  refine ms_iload_n C dX10_in_0 0 rfl ?_
  refine ms_iload_n C dX10_in_1 1 rfl ?_
  refine ms_icmp_lt (tgt := 14) C dX10_in_2 (by decide) (fun c1 => ?_) (fun c1 => ?_)
  · refine ms_iconst C (0 : Int32) dX10_in_14 (by decide) ?_
    exact ms_ireti C hR rfl rfl dX10_in_15
  · refine ms_iload_n C dX10_in_5 0 rfl ?_
    refine ms_iload_n C dX10_in_6 2 rfl ?_
    refine ms_icmp_gt (tgt := 14) C dX10_in_7 (by decide) (fun c2 => ?_) (fun c2 => ?_)
    · refine ms_iconst C (0 : Int32) dX10_in_14 (by decide) ?_
      exact ms_ireti C hR rfl rfl dX10_in_15
    · refine ms_iconst C (1 : Int32) dX10_in_10 (by decide) ?_
      refine ms_goto (tgt := 15) C dX10_in_11 (by decide) ?_
      exact ms_ireti C hR rfl rfl dX10_in_15
def rmX10_isKind : Room := { frames := 1, cells := 0, slots := 0, locals := 22 }
theorem inX10_X10_isKind : ∀ w ∈ wsX100, w ∈ wsX10_isKind := by decide +kernel
set_option maxRecDepth 100000 in
set_option maxHeartbeats 4000000 in
theorem mtX10_isKind (l : Launch) (G : mh_G) (n : Nat) (M : mh_M) (a0 : Int32) {z : Int32} (ho : fX10_isKind n M a0 = some z) : Met l yX10_isKind wsX10_isKind rmX10_isKind (mh_Pc G M [.ref (G.2.2 40 0), .int a0]) (mh_Q G M (some (.int z))) 0 0 (mh_dom G) := by
  refine mh_met (cc := cX10_isKind) (maxL := 2) (ret := (some .boolean)) (by decide) rfl (Nat.le_of_ble_eq_true rfl) ho ?_
  rintro X rfl rfl C hR
  show mh_W X rmX10_isKind 2 _ z M 0 [(0, .ref (xad X 40 0)), (1, .int a0)] []
  replace C : mh_C X rmX10_isKind cX10_isKind wsX10_isKind RX10 2 := C
  unfold fX10_isKind
  refine ms_iload_n C dX10_isKind_0 1 rfl ?_
  refine ms_iconst C (0 : Int32) dX10_isKind_1 (by decide) ?_
  refine ms_aload_n C dX10_isKind_2 0 rfl ?_
  refine ms_geti C dX10_isKind_3 (zz40 (G := xg X) Nat.one_pos) (k := 0) (Nat.le_of_ble_eq_true rfl) rfl (Cn := RX10) (T := TX10) rfl inX10_X10_isKind rfl (by decide +kernel) (fun v1 => ?_)
  refine ms_iconst C (1 : Int32) dX10_isKind_6 (by decide) ?_
  refine ms_isub C dX10_isKind_7 (fun v2 => ?_)
  refine ms_callSb (As := [.int a0, .int (0 : Int32), .int v2]) C dX10_isKind_8 (fun _ h => mtX10_in (xl X) (xg X) n M a0 (0 : Int32) v2 h) (va_cwS 3 C.2.2.1 gX10_isKind_X10_in rfl rfl rfl (by decide +kernel) ⟨Nat.le_of_ble_eq_true rfl, Nat.le_of_ble_eq_true rfl⟩) rfl rfl (Nat.le_of_ble_eq_true rfl) (fun _ h => bX10_in h) (fun v3 hv3 => ?_)
  exact ms_ireti C hR rfl hv3 dX10_isKind_11
def rmX10_isRecipe : Room := { frames := 1, cells := 0, slots := 0, locals := 22 }
theorem inX10_X10_isRecipe : ∀ w ∈ wsX100, w ∈ wsX10_isRecipe := by decide +kernel
set_option maxRecDepth 100000 in
set_option maxHeartbeats 4000000 in
theorem mtX10_isRecipe (l : Launch) (G : mh_G) (n : Nat) (M : mh_M) (a0 : Int32) {z : Int32} (ho : fX10_isRecipe n M a0 = some z) : Met l yX10_isRecipe wsX10_isRecipe rmX10_isRecipe (mh_Pc G M [.ref (G.2.2 40 0), .int a0]) (mh_Q G M (some (.int z))) 0 0 (mh_dom G) := by
  refine mh_met (cc := cX10_isRecipe) (maxL := 2) (ret := (some .boolean)) (by decide) rfl (Nat.le_of_ble_eq_true rfl) ho ?_
  rintro X rfl rfl C hR
  show mh_W X rmX10_isRecipe 2 _ z M 0 [(0, .ref (xad X 40 0)), (1, .int a0)] []
  replace C : mh_C X rmX10_isRecipe cX10_isRecipe wsX10_isRecipe RX10 2 := C
  unfold fX10_isRecipe
  refine ms_iload_n C dX10_isRecipe_0 1 rfl ?_
  refine ms_iconst C (0 : Int32) dX10_isRecipe_1 (by decide) ?_
  refine ms_aload_n C dX10_isRecipe_2 0 rfl ?_
  refine ms_geti C dX10_isRecipe_3 (zz40 (G := xg X) Nat.one_pos) (k := 4) (Nat.le_of_ble_eq_true rfl) rfl (Cn := RX10) (T := TX10) rfl inX10_X10_isRecipe rfl (by decide +kernel) (fun v1 => ?_)
  refine ms_iconst C (1 : Int32) dX10_isRecipe_6 (by decide) ?_
  refine ms_isub C dX10_isRecipe_7 (fun v2 => ?_)
  refine ms_callSb (As := [.int a0, .int (0 : Int32), .int v2]) C dX10_isRecipe_8 (fun _ h => mtX10_in (xl X) (xg X) n M a0 (0 : Int32) v2 h) (va_cwS 3 C.2.2.1 gX10_isRecipe_X10_in rfl rfl rfl (by decide +kernel) ⟨Nat.le_of_ble_eq_true rfl, Nat.le_of_ble_eq_true rfl⟩) rfl rfl (Nat.le_of_ble_eq_true rfl) (fun _ h => bX10_in h) (fun v3 hv3 => ?_)
  exact ms_ireti C hR rfl hv3 dX10_isRecipe_11
def rmX10_isBar : Room := { frames := 1, cells := 0, slots := 0, locals := 22 }
set_option maxRecDepth 100000 in
set_option maxHeartbeats 4000000 in
theorem mtX10_isBar (l : Launch) (G : mh_G) (n : Nat) (M : mh_M) (a0 : Int32) {z : Int32} (ho : fX10_isBar n M a0 = some z) : Met l yX10_isBar wsX10_isBar rmX10_isBar (mh_Pc G M [.int a0]) (mh_Q G M (some (.int z))) 0 0 (mh_dom G) := by
  refine mh_met (cc := cX10_isBar) (maxL := 1) (ret := (some .boolean)) (by decide) rfl (Nat.le_of_ble_eq_true rfl) ho ?_
  rintro X rfl rfl C hR
  show mh_W X rmX10_isBar 1 _ z M 0 [(0, .int a0)] []
  replace C : mh_C X rmX10_isBar cX10_isBar wsX10_isBar RX10 1 := C
  unfold fX10_isBar
  refine ms_iload_n C dX10_isBar_0 0 rfl ?_
  refine ms_iconst C (0 : Int32) dX10_isBar_1 (by decide) ?_
  refine ms_iconst C (1 : Int32) dX10_isBar_2 (by decide) ?_
  refine ms_callSb (As := [.int a0, .int (0 : Int32), .int (1 : Int32)]) C dX10_isBar_3 (fun _ h => mtX10_in (xl X) (xg X) n M a0 (0 : Int32) (1 : Int32) h) (va_cwS 3 C.2.2.1 gX10_isBar_X10_in rfl rfl rfl (by decide +kernel) ⟨Nat.le_of_ble_eq_true rfl, Nat.le_of_ble_eq_true rfl⟩) rfl rfl (Nat.le_of_ble_eq_true rfl) (fun _ h => bX10_in h) (fun v1 hv1 => ?_)
  exact ms_ireti C hR rfl hv1 dX10_isBar_6
def rmX10_kind : Room := { frames := 1, cells := 0, slots := 0, locals := 22 }
theorem inX10_X10_kind : ∀ w ∈ wsX100, w ∈ wsX10_kind := by decide +kernel
set_option maxRecDepth 100000 in
set_option maxHeartbeats 4000000 in
theorem mtX10_kind (l : Launch) (G : mh_G) (n : Nat) (M : mh_M) (a0 : Int32) (a1 : Int32) (a2 : Int32) {z : mh_M × Int32} (ho : fX10_kind n M a0 a1 a2 = some z) : Met l yX10_kind wsX10_kind rmX10_kind (mh_Pc G M [.ref (G.2.2 40 0), .int a0, .int a1, .int a2]) (mh_Q G z.1 (some (.int z.2))) 0 0 (mh_dom G) := by
  refine mh_met (cc := cX10_kind) (maxL := 4) (ret := (some .int)) (by decide) rfl (Nat.le_of_ble_eq_true rfl) ho ?_
  rintro X rfl rfl C hR
  show mh_W X rmX10_kind 4 _ z M 0 [(0, .ref (xad X 40 0)), (1, .int a0), (2, .int a1), (3, .int a2)] []
  replace C : mh_C X rmX10_kind cX10_kind wsX10_kind RX10 4 := C
  unfold fX10_kind
  refine ms_iload_n C dX10_kind_0 1 rfl ?_
  refine ms_iconst C (0 : Int32) dX10_kind_1 (by decide) ?_
  refine ms_sipush C (2000 : Int32) dX10_kind_2 (by decide) ?_
  refine ms_callSi (As := [.int a0, .int (0 : Int32), .int (2000 : Int32)]) C dX10_kind_5 (fun _ h => mtX10_in (xl X) (xg X) n M a0 (0 : Int32) (2000 : Int32) h) (va_cwS 3 C.2.2.1 gX10_kind_X10_in rfl rfl rfl (by decide +kernel) ⟨Nat.le_of_ble_eq_true rfl, Nat.le_of_ble_eq_true rfl⟩) rfl rfl (Nat.le_of_ble_eq_true rfl) (fun v1 => ?_)
  refine ms_if_eq (tgt := 35) C dX10_kind_8 (by decide) (fun c2 => ?_) (fun c2 => ?_)
  · refine ms_iconst C (-1 : Int32) dX10_kind_35 (by decide) ?_
    exact ms_iretm C hR rfl dX10_kind_36
  · refine ms_iload_n C dX10_kind_11 2 rfl ?_
    refine ms_bipush C (100 : Int32) dX10_kind_12 (by decide) ?_
    refine ms_sipush C (2000 : Int32) dX10_kind_14 (by decide) ?_
    refine ms_callSi (As := [.int a1, .int (100 : Int32), .int (2000 : Int32)]) C dX10_kind_17 (fun _ h => mtX10_in (xl X) (xg X) n M a1 (100 : Int32) (2000 : Int32) h) (va_cwS 3 C.2.2.1 gX10_kind_X10_in rfl rfl rfl (by decide +kernel) ⟨Nat.le_of_ble_eq_true rfl, Nat.le_of_ble_eq_true rfl⟩) rfl rfl (Nat.le_of_ble_eq_true rfl) (fun v3 => ?_)
    refine ms_if_eq (tgt := 35) C dX10_kind_20 (by decide) (fun c4 => ?_) (fun c4 => ?_)
    · refine ms_iconst C (-1 : Int32) dX10_kind_35 (by decide) ?_
      exact ms_iretm C hR rfl dX10_kind_36
    · refine ms_iload_n C dX10_kind_23 3 rfl ?_
      refine ms_bipush C (50 : Int32) dX10_kind_24 (by decide) ?_
      refine ms_sipush C (150 : Int32) dX10_kind_26 (by decide) ?_
      refine ms_callSi (As := [.int a2, .int (50 : Int32), .int (150 : Int32)]) C dX10_kind_29 (fun _ h => mtX10_in (xl X) (xg X) n M a2 (50 : Int32) (150 : Int32) h) (va_cwS 3 C.2.2.1 gX10_kind_X10_in rfl rfl rfl (by decide +kernel) ⟨Nat.le_of_ble_eq_true rfl, Nat.le_of_ble_eq_true rfl⟩) rfl rfl (Nat.le_of_ble_eq_true rfl) (fun v5 => ?_)
      refine ms_if_ne (tgt := 37) C dX10_kind_32 (by decide) (fun c6 => ?_) (fun c6 => ?_)
      · refine ms_aload_n C dX10_kind_37 0 rfl ?_
        refine ms_geti C dX10_kind_38 (zz40 (G := xg X) Nat.one_pos) (k := 0) (Nat.le_of_ble_eq_true rfl) rfl (Cn := RX10) (T := TX10) rfl inX10_X10_kind rfl (by decide +kernel) (fun v7 => ?_)
        refine ms_bipush C (10 : Int32) dX10_kind_41 (by decide) ?_
        refine ms_icmp_ne (tgt := 49) C dX10_kind_43 (by decide) (fun c8 => ?_) (fun c8 => ?_)
        · refine ms_aload_n C dX10_kind_49 0 rfl ?_
          refine ms_getr C dX10_kind_50 (zz40 (G := xg X) Nat.one_pos) (k := 1) (Nat.le_of_ble_eq_true rfl) (b := xad X 42 0) rfl (Cn := RX10) (T := TX10) rfl inX10_X10_kind rfl (by decide +kernel) ?_
          refine ms_aload_n C dX10_kind_53 0 rfl ?_
          refine ms_geti C dX10_kind_54 (zz40 (G := xg X) Nat.one_pos) (k := 0) (Nat.le_of_ble_eq_true rfl) rfl (Cn := RX10) (T := TX10) rfl inX10_X10_kind rfl (by decide +kernel) (fun v9 => ?_)
          refine ms_iload_n C dX10_kind_57 1 rfl ?_
          refine ms_st C dX10_kind_58 (zz42 (G := xg X) Nat.one_pos) rfl (fun _ M10 => ?_)
          refine ms_aload_n C dX10_kind_59 0 rfl ?_
          refine ms_getr C dX10_kind_60 (zz40 (G := xg X) Nat.one_pos) (k := 2) (Nat.le_of_ble_eq_true rfl) (b := xad X 43 0) rfl (Cn := RX10) (T := TX10) rfl inX10_X10_kind rfl (by decide +kernel) ?_
          refine ms_aload_n C dX10_kind_63 0 rfl ?_
          refine ms_geti C dX10_kind_64 (zz40 (G := xg X) Nat.one_pos) (k := 0) (Nat.le_of_ble_eq_true rfl) rfl (Cn := RX10) (T := TX10) rfl inX10_X10_kind rfl (by decide +kernel) (fun v11 => ?_)
          refine ms_iload_n C dX10_kind_67 2 rfl ?_
          refine ms_st C dX10_kind_68 (zz43 (G := xg X) Nat.one_pos) rfl (fun _ M12 => ?_)
          refine ms_aload_n C dX10_kind_69 0 rfl ?_
          refine ms_getr C dX10_kind_70 (zz40 (G := xg X) Nat.one_pos) (k := 3) (Nat.le_of_ble_eq_true rfl) (b := xad X 44 0) rfl (Cn := RX10) (T := TX10) rfl inX10_X10_kind rfl (by decide +kernel) ?_
          refine ms_aload_n C dX10_kind_73 0 rfl ?_
          refine ms_geti C dX10_kind_74 (zz40 (G := xg X) Nat.one_pos) (k := 0) (Nat.le_of_ble_eq_true rfl) rfl (Cn := RX10) (T := TX10) rfl inX10_X10_kind rfl (by decide +kernel) (fun v13 => ?_)
          refine ms_iload_n C dX10_kind_77 3 rfl ?_
          refine ms_st C dX10_kind_78 (zz44 (G := xg X) Nat.one_pos) rfl (fun _ M14 => ?_)
          refine ms_aload_n C dX10_kind_79 0 rfl ?_
          refine ms_dup C dX10_kind_80 rfl ?_
          refine ms_geti C dX10_kind_81 (zz40 (G := xg X) Nat.one_pos) (k := 0) (Nat.le_of_ble_eq_true rfl) rfl (Cn := RX10) (T := TX10) rfl inX10_X10_kind rfl (by decide +kernel) (fun v15 => ?_)
          refine ms_iconst C (1 : Int32) dX10_kind_84 (by decide) ?_
          refine ms_iadd C dX10_kind_85 (fun v16 => ?_)
          refine ms_puti C dX10_kind_86 tyX10 tyX10_ok nmX10 (zz40 (G := xg X) Nat.one_pos) (k := 0) (Nat.le_of_ble_eq_true rfl) rfl (Cn := RX10) (T := TX10) rfl inX10_X10_kind rfl (by decide +kernel) rfl (by decide +kernel) (fun M17 => ?_)
          refine ms_aload_n C dX10_kind_89 0 rfl ?_
          refine ms_geti C dX10_kind_90 (zz40 (G := xg X) Nat.one_pos) (k := 0) (Nat.le_of_ble_eq_true rfl) rfl (Cn := RX10) (T := TX10) rfl inX10_X10_kind rfl (by decide +kernel) (fun v18 => ?_)
          refine ms_iconst C (1 : Int32) dX10_kind_93 (by decide) ?_
          refine ms_isub C dX10_kind_94 (fun v19 => ?_)
          exact ms_iretm C hR rfl dX10_kind_95
        · refine ms_bipush C (-3 : Int32) dX10_kind_46 (by decide) ?_
          exact ms_iretm C hR rfl dX10_kind_48
      · refine ms_iconst C (-1 : Int32) dX10_kind_35 (by decide) ?_
        exact ms_iretm C hR rfl dX10_kind_36
def rmX10_recipe : Room := { frames := 1, cells := 0, slots := 0, locals := 22 }
theorem inX10_X10_recipe : ∀ w ∈ wsX100, w ∈ wsX10_recipe := by decide +kernel
set_option maxRecDepth 100000 in
set_option maxHeartbeats 4000000 in
theorem mtX10_recipe (l : Launch) (G : mh_G) (n : Nat) (M : mh_M) (a0 : Int32) {z : mh_M × Int32} (ho : fX10_recipe n M a0 = some z) : Met l yX10_recipe wsX10_recipe rmX10_recipe (mh_Pc G M [.ref (G.2.2 40 0), .int a0]) (mh_Q G z.1 (some (.int z.2))) 0 0 (mh_dom G) := by
  refine mh_met (cc := cX10_recipe) (maxL := 2) (ret := (some .int)) (by decide) rfl (Nat.le_of_ble_eq_true rfl) ho ?_
  rintro X rfl rfl C hR
  show mh_W X rmX10_recipe 2 _ z M 0 [(0, .ref (xad X 40 0)), (1, .int a0)] []
  replace C : mh_C X rmX10_recipe cX10_recipe wsX10_recipe RX10 2 := C
  unfold fX10_recipe
  refine ms_iload_n C dX10_recipe_0 1 rfl ?_
  refine ms_iconst C (0 : Int32) dX10_recipe_1 (by decide) ?_
  refine ms_sipush C (10000 : Int32) dX10_recipe_2 (by decide) ?_
  refine ms_callSi (As := [.int a0, .int (0 : Int32), .int (10000 : Int32)]) C dX10_recipe_5 (fun _ h => mtX10_in (xl X) (xg X) n M a0 (0 : Int32) (10000 : Int32) h) (va_cwS 3 C.2.2.1 gX10_recipe_X10_in rfl rfl rfl (by decide +kernel) ⟨Nat.le_of_ble_eq_true rfl, Nat.le_of_ble_eq_true rfl⟩) rfl rfl (Nat.le_of_ble_eq_true rfl) (fun v1 => ?_)
  refine ms_if_ne (tgt := 13) C dX10_recipe_8 (by decide) (fun c2 => ?_) (fun c2 => ?_)
  · refine ms_aload_n C dX10_recipe_13 0 rfl ?_
    refine ms_geti C dX10_recipe_14 (zz40 (G := xg X) Nat.one_pos) (k := 4) (Nat.le_of_ble_eq_true rfl) rfl (Cn := RX10) (T := TX10) rfl inX10_X10_recipe rfl (by decide +kernel) (fun v3 => ?_)
    refine ms_bipush C (12 : Int32) dX10_recipe_17 (by decide) ?_
    refine ms_icmp_ne (tgt := 25) C dX10_recipe_19 (by decide) (fun c4 => ?_) (fun c4 => ?_)
    · refine ms_aload_n C dX10_recipe_25 0 rfl ?_
      refine ms_getr C dX10_recipe_26 (zz40 (G := xg X) Nat.one_pos) (k := 5) (Nat.le_of_ble_eq_true rfl) (b := xad X 46 0) rfl (Cn := RX10) (T := TX10) rfl inX10_X10_recipe rfl (by decide +kernel) ?_
      refine ms_aload_n C dX10_recipe_29 0 rfl ?_
      refine ms_geti C dX10_recipe_30 (zz40 (G := xg X) Nat.one_pos) (k := 4) (Nat.le_of_ble_eq_true rfl) rfl (Cn := RX10) (T := TX10) rfl inX10_X10_recipe rfl (by decide +kernel) (fun v5 => ?_)
      refine ms_iload_n C dX10_recipe_33 1 rfl ?_
      refine ms_st C dX10_recipe_34 (zz46 (G := xg X) Nat.one_pos) rfl (fun _ M6 => ?_)
      refine ms_aload_n C dX10_recipe_35 0 rfl ?_
      refine ms_dup C dX10_recipe_36 rfl ?_
      refine ms_geti C dX10_recipe_37 (zz40 (G := xg X) Nat.one_pos) (k := 4) (Nat.le_of_ble_eq_true rfl) rfl (Cn := RX10) (T := TX10) rfl inX10_X10_recipe rfl (by decide +kernel) (fun v7 => ?_)
      refine ms_iconst C (1 : Int32) dX10_recipe_40 (by decide) ?_
      refine ms_iadd C dX10_recipe_41 (fun v8 => ?_)
      refine ms_puti C dX10_recipe_42 tyX10 tyX10_ok nmX10 (zz40 (G := xg X) Nat.one_pos) (k := 4) (Nat.le_of_ble_eq_true rfl) rfl (Cn := RX10) (T := TX10) rfl inX10_X10_recipe rfl (by decide +kernel) rfl (by decide +kernel) (fun M9 => ?_)
      refine ms_aload_n C dX10_recipe_45 0 rfl ?_
      refine ms_geti C dX10_recipe_46 (zz40 (G := xg X) Nat.one_pos) (k := 4) (Nat.le_of_ble_eq_true rfl) rfl (Cn := RX10) (T := TX10) rfl inX10_X10_recipe rfl (by decide +kernel) (fun v10 => ?_)
      refine ms_iconst C (1 : Int32) dX10_recipe_49 (by decide) ?_
      refine ms_isub C dX10_recipe_50 (fun v11 => ?_)
      exact ms_iretm C hR rfl dX10_recipe_51
    · refine ms_bipush C (-3 : Int32) dX10_recipe_22 (by decide) ?_
      exact ms_iretm C hR rfl dX10_recipe_24
  · refine ms_iconst C (-1 : Int32) dX10_recipe_11 (by decide) ?_
    exact ms_iretm C hR rfl dX10_recipe_12
def rmX10_part : Room := { frames := 2, cells := 0, slots := 0, locals := 43 }
theorem inX10_X10_part : ∀ w ∈ wsX100, w ∈ wsX10_part := by decide +kernel
set_option maxRecDepth 100000 in
set_option maxHeartbeats 4000000 in
theorem mtX10_part (l : Launch) (G : mh_G) (n : Nat) (M : mh_M) (a0 : Int32) (a1 : Int32) (a2 : Int32) {z : mh_M × Int32} (ho : fX10_part n M a0 a1 a2 = some z) : Met l yX10_part wsX10_part rmX10_part (mh_Pc G M [.ref (G.2.2 40 0), .int a0, .int a1, .int a2]) (mh_Q G z.1 (some (.int z.2))) 0 0 (mh_dom G) := by
  refine mh_met (cc := cX10_part) (maxL := 5) (ret := (some .int)) (by decide) rfl (Nat.le_of_ble_eq_true rfl) ho ?_
  rintro X rfl rfl C hR
  show mh_W X rmX10_part 5 _ z M 0 [(0, .ref (xad X 40 0)), (1, .int a0), (2, .int a1), (3, .int a2)] []
  replace C : mh_C X rmX10_part cX10_part wsX10_part RX10 5 := C
  unfold fX10_part
  refine ms_aload_n C dX10_part_0 0 rfl ?_
  refine ms_iload_n C dX10_part_1 1 rfl ?_
  refine ms_callVi (As := [.int a0]) C dX10_part_2 (fun _ h => mtX10_isRecipe (xl X) (xg X) n M a0 h) (cwV 1 C.2.2.1 gX10_part_X10_isRecipe rfl rfl rfl (by decide +kernel) ⟨Nat.le_of_ble_eq_true rfl, Nat.le_of_ble_eq_true rfl⟩) (zz40 (G := xg X) Nat.one_pos) (T := TX10) rfl rfl rfl (Nat.le_of_ble_eq_true rfl) (fun v1 => ?_)
  refine ms_if_eq (tgt := 26) C dX10_part_5 (by decide) (fun c2 => ?_) (fun c2 => ?_)
  · refine ms_iconst C (-1 : Int32) dX10_part_26 (by decide) ?_
    exact ms_iretm C hR rfl dX10_part_27
  · refine ms_aload_n C dX10_part_8 0 rfl ?_
    refine ms_iload_n C dX10_part_9 2 rfl ?_
    refine ms_callVi (As := [.int a1]) C dX10_part_10 (fun _ h => mtX10_isKind (xl X) (xg X) n M a1 h) (cwV 1 C.2.2.1 gX10_part_X10_isKind rfl rfl rfl (by decide +kernel) ⟨Nat.le_of_ble_eq_true rfl, Nat.le_of_ble_eq_true rfl⟩) (zz40 (G := xg X) Nat.one_pos) (T := TX10) rfl rfl rfl (Nat.le_of_ble_eq_true rfl) (fun v3 => ?_)
    refine ms_if_eq (tgt := 26) C dX10_part_13 (by decide) (fun c4 => ?_) (fun c4 => ?_)
    · refine ms_iconst C (-1 : Int32) dX10_part_26 (by decide) ?_
      exact ms_iretm C hR rfl dX10_part_27
    · refine ms_iload_n C dX10_part_16 3 rfl ?_
      refine ms_iconst C (0 : Int32) dX10_part_17 (by decide) ?_
      refine ms_bipush C (20 : Int32) dX10_part_18 (by decide) ?_
      refine ms_callSi (As := [.int a2, .int (0 : Int32), .int (20 : Int32)]) C dX10_part_20 (fun _ h => mtX10_in (xl X) (xg X) n M a2 (0 : Int32) (20 : Int32) h) (va_cwS 3 C.2.2.1 gX10_part_X10_in rfl rfl rfl (by decide +kernel) ⟨Nat.le_of_ble_eq_true rfl, Nat.le_of_ble_eq_true rfl⟩) rfl rfl (Nat.le_of_ble_eq_true rfl) (fun v5 => ?_)
      refine ms_if_ne (tgt := 28) C dX10_part_23 (by decide) (fun c6 => ?_) (fun c6 => ?_)
      · refine ms_aload_n C dX10_part_28 0 rfl ?_
        refine ms_getr C dX10_part_29 (zz40 (G := xg X) Nat.one_pos) (k := 7) (Nat.le_of_ble_eq_true rfl) (b := xad X 48 0) rfl (Cn := RX10) (T := TX10) rfl inX10_X10_part rfl (by decide +kernel) ?_
        refine ms_iload_n C dX10_part_32 1 rfl ?_
        refine ms_zld C dX10_part_33 (zz48 (G := xg X) Nat.one_pos) rfl (fun _ v7 => ?_)
        refine ms_if_eq (tgt := 40) C dX10_part_34 (by decide) (fun c8 => ?_) (fun c8 => ?_)
        · refine ms_aload_n C dX10_part_40 0 rfl ?_
          refine ms_getr C dX10_part_41 (zz40 (G := xg X) Nat.one_pos) (k := 6) (Nat.le_of_ble_eq_true rfl) (b := xad X 47 0) rfl (Cn := RX10) (T := TX10) rfl inX10_X10_part rfl (by decide +kernel) ?_
          refine ms_bipush C (10 : Int32) dX10_part_44 (by decide) ?_
          refine ms_iload_n C dX10_part_46 1 rfl ?_
          refine ms_imul C dX10_part_47 (fun v9 => ?_)
          refine ms_iload_n C dX10_part_48 2 rfl ?_
          refine ms_iadd C dX10_part_49 (fun v10 => ?_)
          refine ms_ld C dX10_part_50 (zz47 (G := xg X) Nat.one_pos) rfl (fun _ v11 => ?_)
          refine ms_istore (L' := [(4, .int v11), (0, .ref (xad X 40 0)), (1, .int a0), (2, .int a1), (3, .int a2)]) C dX10_part_51 (by decide) rfl ?_
          refine ms_aload_n C dX10_part_53 1 rfl ?_
          refine ms_getr C dX10_part_54 (zz40 (G := xg X) Nat.one_pos) (k := 6) (Nat.le_of_ble_eq_true rfl) (b := xad X 47 0) rfl (Cn := RX10) (T := TX10) rfl inX10_X10_part rfl (by decide +kernel) ?_
          refine ms_bipush C (10 : Int32) dX10_part_57 (by decide) ?_
          refine ms_iload_n C dX10_part_59 2 rfl ?_
          refine ms_imul C dX10_part_60 (fun v12 => ?_)
          refine ms_iload_n C dX10_part_61 3 rfl ?_
          refine ms_iadd C dX10_part_62 (fun v13 => ?_)
          refine ms_iload_n C dX10_part_63 4 rfl ?_
          refine ms_st C dX10_part_64 (zz47 (G := xg X) Nat.one_pos) rfl (fun _ M14 => ?_)
          refine ms_iload C dX10_part_65 0 rfl ?_
          exact ms_iretm C hR rfl dX10_part_67
        · refine ms_bipush C (-2 : Int32) dX10_part_37 (by decide) ?_
          exact ms_iretm C hR rfl dX10_part_39
      · refine ms_iconst C (-1 : Int32) dX10_part_26 (by decide) ?_
        exact ms_iretm C hR rfl dX10_part_27
def rmX10_top : Room := { frames := 0, cells := 0, slots := 0, locals := 0 }
set_option maxRecDepth 100000 in
set_option maxHeartbeats 4000000 in
theorem mtX10_top (l : Launch) (G : mh_G) (n : Nat) (M : mh_M) (a0 : Int32) {z : Int32} (ho : fX10_top n M a0 = some z) : Met l yX10_top wsX10_top rmX10_top (mh_Pc G M [.int a0]) (mh_Q G M (some (.int z))) 0 0 (mh_dom G) := by
  refine mh_met (cc := cX10_top) (maxL := 1) (ret := (some .int)) (by decide) rfl (Nat.le_of_ble_eq_true rfl) ho ?_
  rintro X rfl rfl C hR
  show mh_W X rmX10_top 1 _ z M 0 [(0, .int a0)] []
  replace C : mh_C X rmX10_top cX10_top wsX10_top RX10 1 := C
  unfold fX10_top
  refine ms_iload_n C dX10_top_0 0 rfl ?_
  refine ms_if_ne (tgt := 9) C dX10_top_1 (by decide) (fun c1 => ?_) (fun c1 => ?_)
  · refine ms_iload_n C dX10_top_9 0 rfl ?_
    refine ms_iconst C (1 : Int32) dX10_top_10 (by decide) ?_
    refine ms_icmp_ne (tgt := 19) C dX10_top_11 (by decide) (fun c2 => ?_) (fun c2 => ?_)
    · refine ms_iload_n C dX10_top_19 0 rfl ?_
      refine ms_iconst C (4 : Int32) dX10_top_20 (by decide) ?_
      refine ms_icmp_ge (tgt := 29) C dX10_top_21 (by decide) (fun c3 => ?_) (fun c3 => ?_)
      · refine ms_iload_n C dX10_top_29 0 rfl ?_
        refine ms_iconst C (4 : Int32) dX10_top_30 (by decide) ?_
        refine ms_icmp_ne (tgt := 40) C dX10_top_31 (by decide) (fun c4 => ?_) (fun c4 => ?_)
        · refine ms_iload_n C dX10_top_40 0 rfl ?_
          refine ms_iconst C (5 : Int32) dX10_top_41 (by decide) ?_
          refine ms_icmp_ne (tgt := 50) C dX10_top_42 (by decide) (fun c5 => ?_) (fun c5 => ?_)
          · refine ms_bipush C (10 : Int32) dX10_top_50 (by decide) ?_
            exact ms_ireti C hR rfl rfl dX10_top_52
          · refine ms_bipush C (50 : Int32) dX10_top_45 (by decide) ?_
            refine ms_goto (tgt := 52) C dX10_top_47 (by decide) ?_
            exact ms_ireti C hR rfl rfl dX10_top_52
        · refine ms_sipush C (10000 : Int32) dX10_top_34 (by decide) ?_
          refine ms_goto (tgt := 52) C dX10_top_37 (by decide) ?_
          exact ms_ireti C hR rfl rfl dX10_top_52
      · refine ms_bipush C (100 : Int32) dX10_top_24 (by decide) ?_
        refine ms_goto (tgt := 52) C dX10_top_26 (by decide) ?_
        exact ms_ireti C hR rfl rfl dX10_top_52
    · refine ms_bipush C (20 : Int32) dX10_top_14 (by decide) ?_
      refine ms_goto (tgt := 52) C dX10_top_16 (by decide) ?_
      exact ms_ireti C hR rfl rfl dX10_top_52
  · refine ms_bipush C (50 : Int32) dX10_top_4 (by decide) ?_
    refine ms_goto (tgt := 52) C dX10_top_6 (by decide) ?_
    exact ms_ireti C hR rfl rfl dX10_top_52
def rmX10_rule : Room := { frames := 1, cells := 0, slots := 0, locals := 22 }
theorem inX10_X10_rule : ∀ w ∈ wsX100, w ∈ wsX10_rule := by decide +kernel
set_option maxRecDepth 100000 in
set_option maxHeartbeats 4000000 in
theorem mtX10_rule (l : Launch) (G : mh_G) (n : Nat) (M : mh_M) (a0 : Int32) (a1 : Int32) {z : mh_M × Int32} (ho : fX10_rule n M a0 a1 = some z) : Met l yX10_rule wsX10_rule rmX10_rule (mh_Pc G M [.ref (G.2.2 40 0), .int a0, .int a1]) (mh_Q G z.1 (some (.int z.2))) 0 0 (mh_dom G) := by
  refine mh_met (cc := cX10_rule) (maxL := 4) (ret := (some .int)) (by decide) rfl (Nat.le_of_ble_eq_true rfl) ho ?_
  rintro X rfl rfl C hR
  show mh_W X rmX10_rule 4 _ z M 0 [(0, .ref (xad X 40 0)), (1, .int a0), (2, .int a1)] []
  replace C : mh_C X rmX10_rule cX10_rule wsX10_rule RX10 4 := C
  unfold fX10_rule
  refine ms_iload_n C dX10_rule_0 1 rfl ?_
  refine ms_iconst C (0 : Int32) dX10_rule_1 (by decide) ?_
  refine ms_bipush C (6 : Int32) dX10_rule_2 (by decide) ?_
  refine ms_callSi (As := [.int a0, .int (0 : Int32), .int (6 : Int32)]) C dX10_rule_4 (fun _ h => mtX10_in (xl X) (xg X) n M a0 (0 : Int32) (6 : Int32) h) (va_cwS 3 C.2.2.1 gX10_rule_X10_in rfl rfl rfl (by decide +kernel) ⟨Nat.le_of_ble_eq_true rfl, Nat.le_of_ble_eq_true rfl⟩) rfl rfl (Nat.le_of_ble_eq_true rfl) (fun v1 => ?_)
  refine ms_if_eq (tgt := 22) C dX10_rule_7 (by decide) (fun c2 => ?_) (fun c2 => ?_)
  · refine ms_iconst C (-1 : Int32) dX10_rule_22 (by decide) ?_
    exact ms_iretm C hR rfl dX10_rule_23
  · refine ms_iload_n C dX10_rule_10 2 rfl ?_
    refine ms_iconst C (0 : Int32) dX10_rule_11 (by decide) ?_
    refine ms_iload_n C dX10_rule_12 1 rfl ?_
    refine ms_callSi (As := [.int a0]) C dX10_rule_13 (fun _ h => mtX10_top (xl X) (xg X) n M a0 h) (va_cwS 1 C.2.2.1 gX10_rule_X10_top rfl rfl rfl (by decide +kernel) ⟨Nat.le_of_ble_eq_true rfl, Nat.le_of_ble_eq_true rfl⟩) rfl rfl (Nat.le_of_ble_eq_true rfl) (fun v3 => ?_)
    refine ms_callSi (As := [.int a1, .int (0 : Int32), .int v3]) C dX10_rule_16 (fun _ h => mtX10_in (xl X) (xg X) n M a1 (0 : Int32) v3 h) (va_cwS 3 C.2.2.1 gX10_rule_X10_in rfl rfl rfl (by decide +kernel) ⟨Nat.le_of_ble_eq_true rfl, Nat.le_of_ble_eq_true rfl⟩) rfl rfl (Nat.le_of_ble_eq_true rfl) (fun v4 => ?_)
    refine ms_if_ne (tgt := 24) C dX10_rule_19 (by decide) (fun c5 => ?_) (fun c5 => ?_)
    · refine ms_aload_n C dX10_rule_24 0 rfl ?_
      refine ms_getr C dX10_rule_25 (zz40 (G := xg X) Nat.one_pos) (k := 8) (Nat.le_of_ble_eq_true rfl) (b := xad X 49 0) rfl (Cn := RX10) (T := TX10) rfl inX10_X10_rule rfl (by decide +kernel) ?_
      refine ms_iload_n C dX10_rule_28 1 rfl ?_
      refine ms_ld C dX10_rule_29 (zz49 (G := xg X) Nat.one_pos) rfl (fun _ v6 => ?_)
      refine ms_istore_n (L' := [(3, .int v6), (0, .ref (xad X 40 0)), (1, .int a0), (2, .int a1)]) C dX10_rule_30 rfl (by decide) rfl ?_
      refine ms_aload_n C dX10_rule_31 1 rfl ?_
      refine ms_getr C dX10_rule_32 (zz40 (G := xg X) Nat.one_pos) (k := 8) (Nat.le_of_ble_eq_true rfl) (b := xad X 49 0) rfl (Cn := RX10) (T := TX10) rfl inX10_X10_rule rfl (by decide +kernel) ?_
      refine ms_iload_n C dX10_rule_35 2 rfl ?_
      refine ms_iload_n C dX10_rule_36 3 rfl ?_
      refine ms_st C dX10_rule_37 (zz49 (G := xg X) Nat.one_pos) rfl (fun _ M7 => ?_)
      refine ms_iload_n C dX10_rule_38 0 rfl ?_
      exact ms_iretm C hR rfl dX10_rule_39
    · refine ms_iconst C (-1 : Int32) dX10_rule_22 (by decide) ?_
      exact ms_iretm C hR rfl dX10_rule_23
def rmX10_keeps : Room := { frames := 0, cells := 0, slots := 0, locals := 0 }
theorem inX10_X10_keeps : ∀ w ∈ wsX100, w ∈ wsX10_keeps := by decide +kernel
set_option maxRecDepth 100000 in
set_option maxHeartbeats 4000000 in
theorem mtX10_keeps_L13 {X : mh_X} {n : Nat} {z : mh_M} (x1 : Int32) (x2 : Int32) (x3 : Int32) (x4 : Int32) (x5 : Int32) (x6 : Int32) (C : mh_C X rmX10_keeps cX10_keeps wsX10_keeps RX10 8) (hR : mh_R X none z none) : ∀ (k : Nat) (M : mh_M) (x7 : Int32), mh_W X rmX10_keeps 8 (itr2 (fX10_keeps_L13 n x1 x2 x3 x4 x5 x6) k M x7) z M 13 [(0, .ref (xad X 40 0)), (1, .int x1), (2, .int x2), (3, .int x3), (4, .int x4), (5, .int x5), (6, .int x6), (7, .int x7)] [] := by
  intro k
  induction k with
  | zero =>
    intro M x7
    exact ms_none
  | succ k ih =>
    intro M x7
    show mh_W X rmX10_keeps 8 (fX10_keeps_L13 n x1 x2 x3 x4 x5 x6 (itr2 (fX10_keeps_L13 n x1 x2 x3 x4 x5 x6) k) M x7) z M 13 [(0, .ref (xad X 40 0)), (1, .int x1), (2, .int x2), (3, .int x3), (4, .int x4), (5, .int x5), (6, .int x6), (7, .int x7)] []
    generalize itr2 (fX10_keeps_L13 n x1 x2 x3 x4 x5 x6) k = rec at ih ⊢
    unfold fX10_keeps_L13
    refine ms_iload C dX10_keeps_13 7 rfl ?_
    refine ms_sipush C (240 : Int32) dX10_keeps_15 (by decide) ?_
    refine ms_icmp_ge (tgt := 44) C dX10_keeps_18 (by decide) (fun c19 => ?_) (fun c19 => ?_)
    · refine ms_aload_n C dX10_keeps_44 0 rfl ?_
      refine ms_dup C dX10_keeps_45 rfl ?_
      refine ms_geti C dX10_keeps_46 (zz40 (G := xg X) Nat.one_pos) (k := 19) (Nat.le_of_ble_eq_true rfl) rfl (Cn := RX10) (T := TX10) rfl inX10_X10_keeps rfl (by decide +kernel) (fun v20 => ?_)
      refine ms_iconst C (1 : Int32) dX10_keeps_49 (by decide) ?_
      refine ms_isub C dX10_keeps_50 (fun v21 => ?_)
      refine ms_puti C dX10_keeps_51 tyX10 tyX10_ok nmX10 (zz40 (G := xg X) Nat.one_pos) (k := 19) (Nat.le_of_ble_eq_true rfl) rfl (Cn := RX10) (T := TX10) rfl inX10_X10_keeps rfl (by decide +kernel) rfl (by decide +kernel) (fun M22 => ?_)
      refine ms_bipush C (6 : Int32) dX10_keeps_54 (by decide) ?_
      refine ms_aload_n C dX10_keeps_56 0 rfl ?_
      refine ms_geti C dX10_keeps_57 (zz40 (G := xg X) Nat.one_pos) (k := 19) (Nat.le_of_ble_eq_true rfl) rfl (Cn := RX10) (T := TX10) rfl inX10_X10_keeps rfl (by decide +kernel) (fun v23 => ?_)
      refine ms_imul C dX10_keeps_60 (fun v24 => ?_)
      refine ms_istore (L' := [(7, .int v24), (0, .ref (xad X 40 0)), (1, .int x1), (2, .int x2), (3, .int x3), (4, .int x4), (5, .int x5), (6, .int x6)]) C dX10_keeps_61 (by decide) rfl ?_
      refine ms_aload_n C dX10_keeps_63 1 rfl ?_
      refine ms_getr C dX10_keeps_64 (zz40 (G := xg X) Nat.one_pos) (k := 20) (Nat.le_of_ble_eq_true rfl) (b := xad X 61 0) rfl (Cn := RX10) (T := TX10) rfl inX10_X10_keeps rfl (by decide +kernel) ?_
      refine ms_iload C dX10_keeps_67 0 rfl ?_
      refine ms_iload_n C dX10_keeps_69 2 rfl ?_
      refine ms_st C dX10_keeps_70 (zz61 (G := xg X) Nat.one_pos) rfl (fun _ M25 => ?_)
      refine ms_aload_n C dX10_keeps_71 1 rfl ?_
      refine ms_getr C dX10_keeps_72 (zz40 (G := xg X) Nat.one_pos) (k := 20) (Nat.le_of_ble_eq_true rfl) (b := xad X 61 0) rfl (Cn := RX10) (T := TX10) rfl inX10_X10_keeps rfl (by decide +kernel) ?_
      refine ms_iload C dX10_keeps_75 0 rfl ?_
      refine ms_iconst C (1 : Int32) dX10_keeps_77 (by decide) ?_
      refine ms_iadd C dX10_keeps_78 (fun v26 => ?_)
      refine ms_iload_n C dX10_keeps_79 3 rfl ?_
      refine ms_st C dX10_keeps_80 (zz61 (G := xg X) Nat.one_pos) rfl (fun _ M27 => ?_)
      refine ms_aload_n C dX10_keeps_81 1 rfl ?_
      refine ms_getr C dX10_keeps_82 (zz40 (G := xg X) Nat.one_pos) (k := 20) (Nat.le_of_ble_eq_true rfl) (b := xad X 61 0) rfl (Cn := RX10) (T := TX10) rfl inX10_X10_keeps rfl (by decide +kernel) ?_
      refine ms_iload C dX10_keeps_85 0 rfl ?_
      refine ms_iconst C (2 : Int32) dX10_keeps_87 (by decide) ?_
      refine ms_iadd C dX10_keeps_88 (fun v28 => ?_)
      refine ms_iload_n C dX10_keeps_89 4 rfl ?_
      refine ms_st C dX10_keeps_90 (zz61 (G := xg X) Nat.one_pos) rfl (fun _ M29 => ?_)
      refine ms_aload_n C dX10_keeps_91 1 rfl ?_
      refine ms_getr C dX10_keeps_92 (zz40 (G := xg X) Nat.one_pos) (k := 20) (Nat.le_of_ble_eq_true rfl) (b := xad X 61 0) rfl (Cn := RX10) (T := TX10) rfl inX10_X10_keeps rfl (by decide +kernel) ?_
      refine ms_iload C dX10_keeps_95 0 rfl ?_
      refine ms_iconst C (3 : Int32) dX10_keeps_97 (by decide) ?_
      refine ms_iadd C dX10_keeps_98 (fun v30 => ?_)
      refine ms_iload C dX10_keeps_99 5 rfl ?_
      refine ms_st C dX10_keeps_101 (zz61 (G := xg X) Nat.one_pos) rfl (fun _ M31 => ?_)
      refine ms_aload_n C dX10_keeps_102 1 rfl ?_
      refine ms_getr C dX10_keeps_103 (zz40 (G := xg X) Nat.one_pos) (k := 20) (Nat.le_of_ble_eq_true rfl) (b := xad X 61 0) rfl (Cn := RX10) (T := TX10) rfl inX10_X10_keeps rfl (by decide +kernel) ?_
      refine ms_iload C dX10_keeps_106 0 rfl ?_
      refine ms_iconst C (4 : Int32) dX10_keeps_108 (by decide) ?_
      refine ms_iadd C dX10_keeps_109 (fun v32 => ?_)
      refine ms_iload C dX10_keeps_110 6 rfl ?_
      refine ms_st C dX10_keeps_112 (zz61 (G := xg X) Nat.one_pos) rfl (fun _ M33 => ?_)
      refine ms_aload_n C dX10_keeps_113 1 rfl ?_
      refine ms_getr C dX10_keeps_114 (zz40 (G := xg X) Nat.one_pos) (k := 20) (Nat.le_of_ble_eq_true rfl) (b := xad X 61 0) rfl (Cn := RX10) (T := TX10) rfl inX10_X10_keeps rfl (by decide +kernel) ?_
      refine ms_iload C dX10_keeps_117 0 rfl ?_
      refine ms_iconst C (5 : Int32) dX10_keeps_119 (by decide) ?_
      refine ms_iadd C dX10_keeps_120 (fun v34 => ?_)
      refine ms_iload C dX10_keeps_121 7 rfl ?_
      refine ms_st C dX10_keeps_123 (zz61 (G := xg X) Nat.one_pos) rfl (fun _ M35 => ?_)
      refine ms_aload_n C dX10_keeps_124 1 rfl ?_
      refine ms_dup C dX10_keeps_125 rfl ?_
      refine ms_geti C dX10_keeps_126 (zz40 (G := xg X) Nat.one_pos) (k := 19) (Nat.le_of_ble_eq_true rfl) rfl (Cn := RX10) (T := TX10) rfl inX10_X10_keeps rfl (by decide +kernel) (fun v36 => ?_)
      refine ms_iconst C (1 : Int32) dX10_keeps_129 (by decide) ?_
      refine ms_iadd C dX10_keeps_130 (fun v37 => ?_)
      refine ms_puti C dX10_keeps_131 tyX10 tyX10_ok nmX10 (zz40 (G := xg X) Nat.one_pos) (k := 19) (Nat.le_of_ble_eq_true rfl) rfl (Cn := RX10) (T := TX10) rfl inX10_X10_keeps rfl (by decide +kernel) rfl (by decide +kernel) (fun M38 => ?_)
      exact ms_vretm C hR dX10_keeps_134
    · refine ms_aload_n C dX10_keeps_21 0 rfl ?_
      refine ms_getr C dX10_keeps_22 (zz40 (G := xg X) Nat.one_pos) (k := 20) (Nat.le_of_ble_eq_true rfl) (b := xad X 61 0) rfl (Cn := RX10) (T := TX10) rfl inX10_X10_keeps rfl (by decide +kernel) ?_
      refine ms_iload C dX10_keeps_25 7 rfl ?_
      refine ms_bipush C (6 : Int32) dX10_keeps_27 (by decide) ?_
      refine ms_isub C dX10_keeps_29 (fun v39 => ?_)
      refine ms_aload_n C dX10_keeps_30 0 rfl ?_
      refine ms_getr C dX10_keeps_31 (zz40 (G := xg X) Nat.one_pos) (k := 20) (Nat.le_of_ble_eq_true rfl) (b := xad X 61 0) rfl (Cn := RX10) (T := TX10) rfl inX10_X10_keeps rfl (by decide +kernel) ?_
      refine ms_iload C dX10_keeps_34 7 rfl ?_
      refine ms_ld C dX10_keeps_36 (zz61 (G := xg X) Nat.one_pos) rfl (fun _ v40 => ?_)
      refine ms_st C dX10_keeps_37 (zz61 (G := xg X) Nat.one_pos) rfl (fun _ M41 => ?_)
      refine ms_iinc (L' := fun v42 => [(7, .int v42), (0, .ref (xad X 40 0)), (1, .int x1), (2, .int x2), (3, .int x3), (4, .int x4), (5, .int x5), (6, .int x6)]) C dX10_keeps_38 7 rfl (c := 1) (by decide) (by decide) (fun _ => rfl) (fun v42 => ?_)
      refine ms_goto (tgt := 13) C dX10_keeps_41 (by decide) ?_
      exact ms_sub [1, 2, 3, 4, 5, 6, 7, 0] rfl (ih M41 v42)
set_option maxRecDepth 100000 in
set_option maxHeartbeats 4000000 in
theorem mtX10_keeps (l : Launch) (G : mh_G) (n : Nat) (M : mh_M) (a0 : Int32) (a1 : Int32) (a2 : Int32) (a3 : Int32) (a4 : Int32) (a5 : Int32) {z : mh_M} (ho : fX10_keeps n M a0 a1 a2 a3 a4 a5 = some z) : Met l yX10_keeps wsX10_keeps rmX10_keeps (mh_Pc G M [.ref (G.2.2 40 0), .int a0, .int a1, .int a2, .int a3, .int a4, .int a5]) (mh_Q G z none) 0 0 (mh_dom G) := by
  refine mh_met (cc := cX10_keeps) (maxL := 8) (ret := none) (by decide) rfl (Nat.le_of_ble_eq_true rfl) ho ?_
  rintro X rfl rfl C hR
  show mh_W X rmX10_keeps 8 _ z M 0 [(0, .ref (xad X 40 0)), (1, .int a0), (2, .int a1), (3, .int a2), (4, .int a3), (5, .int a4), (6, .int a5)] []
  replace C : mh_C X rmX10_keeps cX10_keeps wsX10_keeps RX10 8 := C
  unfold fX10_keeps
  refine ms_aload_n C dX10_keeps_0 0 rfl ?_
  refine ms_geti C dX10_keeps_1 (zz40 (G := xg X) Nat.one_pos) (k := 19) (Nat.le_of_ble_eq_true rfl) rfl (Cn := RX10) (T := TX10) rfl inX10_X10_keeps rfl (by decide +kernel) (fun v1 => ?_)
  refine ms_bipush C (40 : Int32) dX10_keeps_4 (by decide) ?_
  refine ms_icmp_ne (tgt := 54) C dX10_keeps_6 (by decide) (fun c2 => ?_) (fun c2 => ?_)
  · refine ms_bipush C (6 : Int32) dX10_keeps_54 (by decide) ?_
    refine ms_aload_n C dX10_keeps_56 0 rfl ?_
    refine ms_geti C dX10_keeps_57 (zz40 (G := xg X) Nat.one_pos) (k := 19) (Nat.le_of_ble_eq_true rfl) rfl (Cn := RX10) (T := TX10) rfl inX10_X10_keeps rfl (by decide +kernel) (fun v3 => ?_)
    refine ms_imul C dX10_keeps_60 (fun v4 => ?_)
    refine ms_istore (L' := [(7, .int v4), (0, .ref (xad X 40 0)), (1, .int a0), (2, .int a1), (3, .int a2), (4, .int a3), (5, .int a4), (6, .int a5)]) C dX10_keeps_61 (by decide) rfl ?_
    refine ms_aload_n C dX10_keeps_63 1 rfl ?_
    refine ms_getr C dX10_keeps_64 (zz40 (G := xg X) Nat.one_pos) (k := 20) (Nat.le_of_ble_eq_true rfl) (b := xad X 61 0) rfl (Cn := RX10) (T := TX10) rfl inX10_X10_keeps rfl (by decide +kernel) ?_
    refine ms_iload C dX10_keeps_67 0 rfl ?_
    refine ms_iload_n C dX10_keeps_69 2 rfl ?_
    refine ms_st C dX10_keeps_70 (zz61 (G := xg X) Nat.one_pos) rfl (fun _ M5 => ?_)
    refine ms_aload_n C dX10_keeps_71 1 rfl ?_
    refine ms_getr C dX10_keeps_72 (zz40 (G := xg X) Nat.one_pos) (k := 20) (Nat.le_of_ble_eq_true rfl) (b := xad X 61 0) rfl (Cn := RX10) (T := TX10) rfl inX10_X10_keeps rfl (by decide +kernel) ?_
    refine ms_iload C dX10_keeps_75 0 rfl ?_
    refine ms_iconst C (1 : Int32) dX10_keeps_77 (by decide) ?_
    refine ms_iadd C dX10_keeps_78 (fun v6 => ?_)
    refine ms_iload_n C dX10_keeps_79 3 rfl ?_
    refine ms_st C dX10_keeps_80 (zz61 (G := xg X) Nat.one_pos) rfl (fun _ M7 => ?_)
    refine ms_aload_n C dX10_keeps_81 1 rfl ?_
    refine ms_getr C dX10_keeps_82 (zz40 (G := xg X) Nat.one_pos) (k := 20) (Nat.le_of_ble_eq_true rfl) (b := xad X 61 0) rfl (Cn := RX10) (T := TX10) rfl inX10_X10_keeps rfl (by decide +kernel) ?_
    refine ms_iload C dX10_keeps_85 0 rfl ?_
    refine ms_iconst C (2 : Int32) dX10_keeps_87 (by decide) ?_
    refine ms_iadd C dX10_keeps_88 (fun v8 => ?_)
    refine ms_iload_n C dX10_keeps_89 4 rfl ?_
    refine ms_st C dX10_keeps_90 (zz61 (G := xg X) Nat.one_pos) rfl (fun _ M9 => ?_)
    refine ms_aload_n C dX10_keeps_91 1 rfl ?_
    refine ms_getr C dX10_keeps_92 (zz40 (G := xg X) Nat.one_pos) (k := 20) (Nat.le_of_ble_eq_true rfl) (b := xad X 61 0) rfl (Cn := RX10) (T := TX10) rfl inX10_X10_keeps rfl (by decide +kernel) ?_
    refine ms_iload C dX10_keeps_95 0 rfl ?_
    refine ms_iconst C (3 : Int32) dX10_keeps_97 (by decide) ?_
    refine ms_iadd C dX10_keeps_98 (fun v10 => ?_)
    refine ms_iload C dX10_keeps_99 5 rfl ?_
    refine ms_st C dX10_keeps_101 (zz61 (G := xg X) Nat.one_pos) rfl (fun _ M11 => ?_)
    refine ms_aload_n C dX10_keeps_102 1 rfl ?_
    refine ms_getr C dX10_keeps_103 (zz40 (G := xg X) Nat.one_pos) (k := 20) (Nat.le_of_ble_eq_true rfl) (b := xad X 61 0) rfl (Cn := RX10) (T := TX10) rfl inX10_X10_keeps rfl (by decide +kernel) ?_
    refine ms_iload C dX10_keeps_106 0 rfl ?_
    refine ms_iconst C (4 : Int32) dX10_keeps_108 (by decide) ?_
    refine ms_iadd C dX10_keeps_109 (fun v12 => ?_)
    refine ms_iload C dX10_keeps_110 6 rfl ?_
    refine ms_st C dX10_keeps_112 (zz61 (G := xg X) Nat.one_pos) rfl (fun _ M13 => ?_)
    refine ms_aload_n C dX10_keeps_113 1 rfl ?_
    refine ms_getr C dX10_keeps_114 (zz40 (G := xg X) Nat.one_pos) (k := 20) (Nat.le_of_ble_eq_true rfl) (b := xad X 61 0) rfl (Cn := RX10) (T := TX10) rfl inX10_X10_keeps rfl (by decide +kernel) ?_
    refine ms_iload C dX10_keeps_117 0 rfl ?_
    refine ms_iconst C (5 : Int32) dX10_keeps_119 (by decide) ?_
    refine ms_iadd C dX10_keeps_120 (fun v14 => ?_)
    refine ms_iload C dX10_keeps_121 7 rfl ?_
    refine ms_st C dX10_keeps_123 (zz61 (G := xg X) Nat.one_pos) rfl (fun _ M15 => ?_)
    refine ms_aload_n C dX10_keeps_124 1 rfl ?_
    refine ms_dup C dX10_keeps_125 rfl ?_
    refine ms_geti C dX10_keeps_126 (zz40 (G := xg X) Nat.one_pos) (k := 19) (Nat.le_of_ble_eq_true rfl) rfl (Cn := RX10) (T := TX10) rfl inX10_X10_keeps rfl (by decide +kernel) (fun v16 => ?_)
    refine ms_iconst C (1 : Int32) dX10_keeps_129 (by decide) ?_
    refine ms_iadd C dX10_keeps_130 (fun v17 => ?_)
    refine ms_puti C dX10_keeps_131 tyX10 tyX10_ok nmX10 (zz40 (G := xg X) Nat.one_pos) (k := 19) (Nat.le_of_ble_eq_true rfl) rfl (Cn := RX10) (T := TX10) rfl inX10_X10_keeps rfl (by decide +kernel) rfl (by decide +kernel) (fun M18 => ?_)
    exact ms_vretm C hR dX10_keeps_134
  · refine ms_bipush C (6 : Int32) dX10_keeps_9 (by decide) ?_
    refine ms_istore (L' := [(7, .int (6 : Int32)), (0, .ref (xad X 40 0)), (1, .int a0), (2, .int a1), (3, .int a2), (4, .int a3), (5, .int a4), (6, .int a5)]) C dX10_keeps_11 (by decide) rfl ?_
    exact ms_sub [1, 2, 3, 4, 5, 6, 7, 0] rfl (mtX10_keeps_L13 (n := n) a0 a1 a2 a3 a4 a5 C hR n M (6 : Int32))
def rmX10_at : Room := { frames := 0, cells := 0, slots := 0, locals := 0 }
set_option maxRecDepth 100000 in
set_option maxHeartbeats 4000000 in
theorem mtX10_at (l : Launch) (G : mh_G) (n : Nat) (M : mh_M) (a0 : Int32) (a1 : Int32) (a2 : Int32) {z : Int32} (ho : fX10_at n M a0 a1 a2 = some z) : Met l yX10_at wsX10_at rmX10_at (mh_Pc G M [.int a0, .int a1, .int a2]) (mh_Q G M (some (.int z))) 0 0 (mh_dom G) := by
  refine mh_met (cc := cX10_at) (maxL := 3) (ret := (some .int)) (by decide) rfl (Nat.le_of_ble_eq_true rfl) ho ?_
  rintro X rfl rfl C hR
  show mh_W X rmX10_at 3 _ z M 0 [(0, .int a0), (1, .int a1), (2, .int a2)] []
  replace C : mh_C X rmX10_at cX10_at wsX10_at RX10 3 := C
  unfold fX10_at
  refine ms_bipush C (20 : Int32) dX10_at_0 (by decide) ?_
  refine ms_iload_n C dX10_at_2 0 rfl ?_
  refine ms_imul C dX10_at_3 (fun v1 => ?_)
  refine ms_bipush C (10 : Int32) dX10_at_4 (by decide) ?_
  refine ms_iload_n C dX10_at_6 1 rfl ?_
  refine ms_imul C dX10_at_7 (fun v2 => ?_)
  refine ms_iadd C dX10_at_8 (fun v3 => ?_)
  refine ms_iload_n C dX10_at_9 2 rfl ?_
  refine ms_iadd C dX10_at_10 (fun v4 => ?_)
  exact ms_ireti C hR rfl rfl dX10_at_11
def rmX10_receives : Room := { frames := 0, cells := 0, slots := 0, locals := 0 }
theorem inX10_X10_receives : ∀ w ∈ wsX100, w ∈ wsX10_receives := by decide +kernel
set_option maxRecDepth 100000 in
set_option maxHeartbeats 4000000 in
theorem mtX10_receives (l : Launch) (G : mh_G) (n : Nat) (M : mh_M) (a0 : Int32) (a1 : Int32) {z : mh_M} (ho : fX10_receives n M a0 a1 = some z) : Met l yX10_receives wsX10_receives rmX10_receives (mh_Pc G M [.ref (G.2.2 40 0), .int a0, .int a1]) (mh_Q G z none) 0 0 (mh_dom G) := by
  refine mh_met (cc := cX10_receives) (maxL := 3) (ret := none) (by decide) rfl (Nat.le_of_ble_eq_true rfl) ho ?_
  rintro X rfl rfl C hR
  show mh_W X rmX10_receives 3 _ z M 0 [(0, .ref (xad X 40 0)), (1, .int a0), (2, .int a1)] []
  replace C : mh_C X rmX10_receives cX10_receives wsX10_receives RX10 3 := C
  unfold fX10_receives
  refine ms_aload_n C dX10_receives_0 0 rfl ?_
  refine ms_getr C dX10_receives_1 (zz40 (G := xg X) Nat.one_pos) (k := 9) (Nat.le_of_ble_eq_true rfl) (b := xad X 50 0) rfl (Cn := RX10) (T := TX10) rfl inX10_X10_receives rfl (by decide +kernel) ?_
  refine ms_iload_n C dX10_receives_4 1 rfl ?_
  refine ms_dup2 C dX10_receives_5 rfl rfl ?_
  refine ms_ld C dX10_receives_6 (zz50 (G := xg X) Nat.one_pos) rfl (fun _ v1 => ?_)
  refine ms_iload_n C dX10_receives_7 2 rfl ?_
  refine ms_iadd C dX10_receives_8 (fun v2 => ?_)
  refine ms_st C dX10_receives_9 (zz50 (G := xg X) Nat.one_pos) rfl (fun _ M3 => ?_)
  refine ms_aload_n C dX10_receives_10 0 rfl ?_
  refine ms_getr C dX10_receives_11 (zz40 (G := xg X) Nat.one_pos) (k := 17) (Nat.le_of_ble_eq_true rfl) (b := xad X 58 0) rfl (Cn := RX10) (T := TX10) rfl inX10_X10_receives rfl (by decide +kernel) ?_
  refine ms_iconst C (5 : Int32) dX10_receives_14 (by decide) ?_
  refine ms_iload_n C dX10_receives_15 1 rfl ?_
  refine ms_imul C dX10_receives_16 (fun v4 => ?_)
  refine ms_iconst C (4 : Int32) dX10_receives_17 (by decide) ?_
  refine ms_iadd C dX10_receives_18 (fun v5 => ?_)
  refine ms_dup2 C dX10_receives_19 rfl rfl ?_
  refine ms_ld C dX10_receives_20 (zz58 (G := xg X) Nat.one_pos) rfl (fun _ v6 => ?_)
  refine ms_iload_n C dX10_receives_21 2 rfl ?_
  refine ms_iadd C dX10_receives_22 (fun v7 => ?_)
  refine ms_st C dX10_receives_23 (zz58 (G := xg X) Nat.one_pos) rfl (fun _ M8 => ?_)
  exact ms_vretm C hR dX10_receives_24
def rmX10_issues : Room := { frames := 0, cells := 0, slots := 0, locals := 0 }
theorem inX10_X10_issues : ∀ w ∈ wsX100, w ∈ wsX10_issues := by decide +kernel
set_option maxRecDepth 100000 in
set_option maxHeartbeats 4000000 in
theorem mtX10_issues (l : Launch) (G : mh_G) (n : Nat) (M : mh_M) (a0 : Int32) (a1 : Int32) (a2 : Int32) {z : mh_M} (ho : fX10_issues n M a0 a1 a2 = some z) : Met l yX10_issues wsX10_issues rmX10_issues (mh_Pc G M [.ref (G.2.2 40 0), .int a0, .int a1, .int a2]) (mh_Q G z none) 0 0 (mh_dom G) := by
  refine mh_met (cc := cX10_issues) (maxL := 4) (ret := none) (by decide) rfl (Nat.le_of_ble_eq_true rfl) ho ?_
  rintro X rfl rfl C hR
  show mh_W X rmX10_issues 4 _ z M 0 [(0, .ref (xad X 40 0)), (1, .int a0), (2, .int a1), (3, .int a2)] []
  replace C : mh_C X rmX10_issues cX10_issues wsX10_issues RX10 4 := C
  unfold fX10_issues
  refine ms_aload_n C dX10_issues_0 0 rfl ?_
  refine ms_getr C dX10_issues_1 (zz40 (G := xg X) Nat.one_pos) (k := 9) (Nat.le_of_ble_eq_true rfl) (b := xad X 50 0) rfl (Cn := RX10) (T := TX10) rfl inX10_X10_issues rfl (by decide +kernel) ?_
  refine ms_iload_n C dX10_issues_4 2 rfl ?_
  refine ms_dup2 C dX10_issues_5 rfl rfl ?_
  refine ms_ld C dX10_issues_6 (zz50 (G := xg X) Nat.one_pos) rfl (fun _ v1 => ?_)
  refine ms_iload_n C dX10_issues_7 3 rfl ?_
  refine ms_isub C dX10_issues_8 (fun v2 => ?_)
  refine ms_st C dX10_issues_9 (zz50 (G := xg X) Nat.one_pos) rfl (fun _ M3 => ?_)
  refine ms_aload_n C dX10_issues_10 0 rfl ?_
  refine ms_getr C dX10_issues_11 (zz40 (G := xg X) Nat.one_pos) (k := 10) (Nat.le_of_ble_eq_true rfl) (b := xad X 51 0) rfl (Cn := RX10) (T := TX10) rfl inX10_X10_issues rfl (by decide +kernel) ?_
  refine ms_bipush C (10 : Int32) dX10_issues_14 (by decide) ?_
  refine ms_iload_n C dX10_issues_16 1 rfl ?_
  refine ms_imul C dX10_issues_17 (fun v4 => ?_)
  refine ms_iload_n C dX10_issues_18 2 rfl ?_
  refine ms_iadd C dX10_issues_19 (fun v5 => ?_)
  refine ms_dup2 C dX10_issues_20 rfl rfl ?_
  refine ms_ld C dX10_issues_21 (zz51 (G := xg X) Nat.one_pos) rfl (fun _ v6 => ?_)
  refine ms_iload_n C dX10_issues_22 3 rfl ?_
  refine ms_aload_n C dX10_issues_23 0 rfl ?_
  refine ms_getr C dX10_issues_24 (zz40 (G := xg X) Nat.one_pos) (k := 2) (Nat.le_of_ble_eq_true rfl) (b := xad X 43 0) rfl (Cn := RX10) (T := TX10) rfl inX10_X10_issues rfl (by decide +kernel) ?_
  refine ms_iload_n C dX10_issues_27 2 rfl ?_
  refine ms_ld C dX10_issues_28 (zz43 (G := xg X) Nat.one_pos) rfl (fun _ v7 => ?_)
  refine ms_imul C dX10_issues_29 (fun v8 => ?_)
  refine ms_iadd C dX10_issues_30 (fun v9 => ?_)
  refine ms_st C dX10_issues_31 (zz51 (G := xg X) Nat.one_pos) rfl (fun _ M10 => ?_)
  exact ms_vretm C hR dX10_issues_32
def rmX10_lends : Room := { frames := 0, cells := 0, slots := 0, locals := 0 }
theorem inX10_X10_lends : ∀ w ∈ wsX100, w ∈ wsX10_lends := by decide +kernel
set_option maxRecDepth 100000 in
set_option maxHeartbeats 4000000 in
theorem mtX10_lends (l : Launch) (G : mh_G) (n : Nat) (M : mh_M) (a0 : Int32) (a1 : Int32) (a2 : Int32) {z : mh_M} (ho : fX10_lends n M a0 a1 a2 = some z) : Met l yX10_lends wsX10_lends rmX10_lends (mh_Pc G M [.ref (G.2.2 40 0), .int a0, .int a1, .int a2]) (mh_Q G z none) 0 0 (mh_dom G) := by
  refine mh_met (cc := cX10_lends) (maxL := 4) (ret := none) (by decide) rfl (Nat.le_of_ble_eq_true rfl) ho ?_
  rintro X rfl rfl C hR
  show mh_W X rmX10_lends 4 _ z M 0 [(0, .ref (xad X 40 0)), (1, .int a0), (2, .int a1), (3, .int a2)] []
  replace C : mh_C X rmX10_lends cX10_lends wsX10_lends RX10 4 := C
  unfold fX10_lends
  refine ms_aload_n C dX10_lends_0 0 rfl ?_
  refine ms_getr C dX10_lends_1 (zz40 (G := xg X) Nat.one_pos) (k := 10) (Nat.le_of_ble_eq_true rfl) (b := xad X 51 0) rfl (Cn := RX10) (T := TX10) rfl inX10_X10_lends rfl (by decide +kernel) ?_
  refine ms_bipush C (10 : Int32) dX10_lends_4 (by decide) ?_
  refine ms_iload_n C dX10_lends_6 1 rfl ?_
  refine ms_imul C dX10_lends_7 (fun v1 => ?_)
  refine ms_iload_n C dX10_lends_8 2 rfl ?_
  refine ms_iadd C dX10_lends_9 (fun v2 => ?_)
  refine ms_dup2 C dX10_lends_10 rfl rfl ?_
  refine ms_ld C dX10_lends_11 (zz51 (G := xg X) Nat.one_pos) rfl (fun _ v3 => ?_)
  refine ms_iload_n C dX10_lends_12 3 rfl ?_
  refine ms_isub C dX10_lends_13 (fun v4 => ?_)
  refine ms_st C dX10_lends_14 (zz51 (G := xg X) Nat.one_pos) rfl (fun _ M5 => ?_)
  refine ms_aload_n C dX10_lends_15 0 rfl ?_
  refine ms_getr C dX10_lends_16 (zz40 (G := xg X) Nat.one_pos) (k := 10) (Nat.le_of_ble_eq_true rfl) (b := xad X 51 0) rfl (Cn := RX10) (T := TX10) rfl inX10_X10_lends rfl (by decide +kernel) ?_
  refine ms_bipush C (10 : Int32) dX10_lends_19 (by decide) ?_
  refine ms_iconst C (1 : Int32) dX10_lends_21 (by decide) ?_
  refine ms_iload_n C dX10_lends_22 1 rfl ?_
  refine ms_isub C dX10_lends_23 (fun v6 => ?_)
  refine ms_imul C dX10_lends_24 (fun v7 => ?_)
  refine ms_iload_n C dX10_lends_25 2 rfl ?_
  refine ms_iadd C dX10_lends_26 (fun v8 => ?_)
  refine ms_dup2 C dX10_lends_27 rfl rfl ?_
  refine ms_ld C dX10_lends_28 (zz51 (G := xg X) Nat.one_pos) rfl (fun _ v9 => ?_)
  refine ms_iload_n C dX10_lends_29 3 rfl ?_
  refine ms_iadd C dX10_lends_30 (fun v10 => ?_)
  refine ms_st C dX10_lends_31 (zz51 (G := xg X) Nat.one_pos) rfl (fun _ M11 => ?_)
  exact ms_vretm C hR dX10_lends_32
def rmX10_sells : Room := { frames := 1, cells := 0, slots := 0, locals := 22 }
theorem inX10_X10_sells : ∀ w ∈ wsX100, w ∈ wsX10_sells := by decide +kernel
set_option maxRecDepth 100000 in
set_option maxHeartbeats 4000000 in
theorem mtX10_sells_L3 {X : mh_X} {n : Nat} {z : mh_M} (x1 : Int32) (x2 : Int32) (x3 : Int32) (x4 : Int32) (C : mh_C X rmX10_sells cX10_sells wsX10_sells RX10 7) (hR : mh_R X none z none) : ∀ (k : Nat) (M : mh_M) (x5 : Int32), mh_W X rmX10_sells 7 (itr2 (fX10_sells_L3 n x1 x2 x3 x4) k M x5) z M 3 [(0, .ref (xad X 40 0)), (1, .int x1), (2, .int x2), (3, .int x3), (4, .int x4), (5, .int x5)] [] := by
  intro k
  induction k with
  | zero =>
    intro M x5
    exact ms_none
  | succ k ih =>
    intro M x5
    show mh_W X rmX10_sells 7 (fX10_sells_L3 n x1 x2 x3 x4 (itr2 (fX10_sells_L3 n x1 x2 x3 x4) k) M x5) z M 3 [(0, .ref (xad X 40 0)), (1, .int x1), (2, .int x2), (3, .int x3), (4, .int x4), (5, .int x5)] []
    generalize itr2 (fX10_sells_L3 n x1 x2 x3 x4) k = rec at ih ⊢
    unfold fX10_sells_L3
    refine ms_iload C dX10_sells_3 5 rfl ?_
    refine ms_aload_n C dX10_sells_5 0 rfl ?_
    refine ms_geti C dX10_sells_6 (zz40 (G := xg X) Nat.one_pos) (k := 0) (Nat.le_of_ble_eq_true rfl) rfl (Cn := RX10) (T := TX10) rfl inX10_X10_sells rfl (by decide +kernel) (fun v1 => ?_)
    refine ms_icmp_ge (tgt := 101) C dX10_sells_9 (by decide) (fun c2 => ?_) (fun c2 => ?_)
    · refine ms_aload_n C dX10_sells_101 0 rfl ?_
      refine ms_getr C dX10_sells_102 (zz40 (G := xg X) Nat.one_pos) (k := 18) (Nat.le_of_ble_eq_true rfl) (b := xad X 59 0) rfl (Cn := RX10) (T := TX10) rfl inX10_X10_sells rfl (by decide +kernel) ?_
      refine ms_iload_n C dX10_sells_105 1 rfl ?_
      refine ms_dup2 C dX10_sells_106 rfl rfl ?_
      refine ms_ld C dX10_sells_107 (zz59 (G := xg X) Nat.one_pos) rfl (fun _ v3 => ?_)
      refine ms_iload C dX10_sells_108 4 rfl ?_
      refine ms_iadd C dX10_sells_110 (fun v4 => ?_)
      refine ms_st C dX10_sells_111 (zz59 (G := xg X) Nat.one_pos) rfl (fun _ M5 => ?_)
      exact ms_vretm C hR dX10_sells_112
    · refine ms_aload_n C dX10_sells_12 0 rfl ?_
      refine ms_getr C dX10_sells_13 (zz40 (G := xg X) Nat.one_pos) (k := 6) (Nat.le_of_ble_eq_true rfl) (b := xad X 47 0) rfl (Cn := RX10) (T := TX10) rfl inX10_X10_sells rfl (by decide +kernel) ?_
      refine ms_bipush C (10 : Int32) dX10_sells_16 (by decide) ?_
      refine ms_iload_n C dX10_sells_18 2 rfl ?_
      refine ms_imul C dX10_sells_19 (fun v6 => ?_)
      refine ms_iload C dX10_sells_20 5 rfl ?_
      refine ms_iadd C dX10_sells_22 (fun v7 => ?_)
      refine ms_ld C dX10_sells_23 (zz47 (G := xg X) Nat.one_pos) rfl (fun _ v8 => ?_)
      refine ms_istore (L' := [(6, .int v8), (0, .ref (xad X 40 0)), (1, .int x1), (2, .int x2), (3, .int x3), (4, .int x4), (5, .int x5)]) C dX10_sells_24 (by decide) rfl ?_
      refine ms_aload_n C dX10_sells_26 1 rfl ?_
      refine ms_getr C dX10_sells_27 (zz40 (G := xg X) Nat.one_pos) (k := 10) (Nat.le_of_ble_eq_true rfl) (b := xad X 51 0) rfl (Cn := RX10) (T := TX10) rfl inX10_X10_sells rfl (by decide +kernel) ?_
      refine ms_bipush C (10 : Int32) dX10_sells_30 (by decide) ?_
      refine ms_iload_n C dX10_sells_32 2 rfl ?_
      refine ms_imul C dX10_sells_33 (fun v9 => ?_)
      refine ms_iload C dX10_sells_34 6 rfl ?_
      refine ms_iadd C dX10_sells_36 (fun v10 => ?_)
      refine ms_dup2 C dX10_sells_37 rfl rfl ?_
      refine ms_ld C dX10_sells_38 (zz51 (G := xg X) Nat.one_pos) rfl (fun _ v11 => ?_)
      refine ms_bipush C (6 : Int32) dX10_sells_39 (by decide) ?_
      refine ms_iload C dX10_sells_41 0 rfl ?_
      refine ms_imul C dX10_sells_43 (fun v12 => ?_)
      refine ms_iload_n C dX10_sells_44 4 rfl ?_
      refine ms_imul C dX10_sells_45 (fun v13 => ?_)
      refine ms_isub C dX10_sells_46 (fun v14 => ?_)
      refine ms_st C dX10_sells_47 (zz51 (G := xg X) Nat.one_pos) rfl (fun _ M15 => ?_)
      refine ms_aload_n C dX10_sells_48 1 rfl ?_
      refine ms_getr C dX10_sells_49 (zz40 (G := xg X) Nat.one_pos) (k := 17) (Nat.le_of_ble_eq_true rfl) (b := xad X 58 0) rfl (Cn := RX10) (T := TX10) rfl inX10_X10_sells rfl (by decide +kernel) ?_
      refine ms_iconst C (5 : Int32) dX10_sells_52 (by decide) ?_
      refine ms_iload C dX10_sells_53 6 rfl ?_
      refine ms_imul C dX10_sells_55 (fun v16 => ?_)
      refine ms_dup2 C dX10_sells_56 rfl rfl ?_
      refine ms_ld C dX10_sells_57 (zz58 (G := xg X) Nat.one_pos) rfl (fun _ v17 => ?_)
      refine ms_bipush C (6 : Int32) dX10_sells_58 (by decide) ?_
      refine ms_iload C dX10_sells_60 0 rfl ?_
      refine ms_imul C dX10_sells_62 (fun v18 => ?_)
      refine ms_iload_n C dX10_sells_63 4 rfl ?_
      refine ms_imul C dX10_sells_64 (fun v19 => ?_)
      refine ms_iadd C dX10_sells_65 (fun v20 => ?_)
      refine ms_st C dX10_sells_66 (zz58 (G := xg X) Nat.one_pos) rfl (fun _ M21 => ?_)
      refine ms_aload_n C dX10_sells_67 1 rfl ?_
      refine ms_getr C dX10_sells_68 (zz40 (G := xg X) Nat.one_pos) (k := 14) (Nat.le_of_ble_eq_true rfl) (b := xad X 55 0) rfl (Cn := RX10) (T := TX10) rfl inX10_X10_sells rfl (by decide +kernel) ?_
      refine ms_aload_n C dX10_sells_71 1 rfl ?_
      refine ms_geti C dX10_sells_72 (zz40 (G := xg X) Nat.one_pos) (k := 11) (Nat.le_of_ble_eq_true rfl) rfl (Cn := RX10) (T := TX10) rfl inX10_X10_sells rfl (by decide +kernel) (fun v22 => ?_)
      refine ms_iload_n C dX10_sells_75 2 rfl ?_
      refine ms_iload C dX10_sells_76 6 rfl ?_
      refine ms_callSi (As := [.int v22, .int x1, .int x5]) C dX10_sells_78 (fun _ h => mtX10_at (xl X) (xg X) n M21 v22 x1 x5 h) (va_cwS 3 C.2.2.1 gX10_sells_X10_at rfl rfl rfl (by decide +kernel) ⟨Nat.le_of_ble_eq_true rfl, Nat.le_of_ble_eq_true rfl⟩) rfl rfl (Nat.le_of_ble_eq_true rfl) (fun v23 => ?_)
      refine ms_dup2 C dX10_sells_81 rfl rfl ?_
      refine ms_ld C dX10_sells_82 (zz55 (G := xg X) Nat.one_pos) rfl (fun _ v24 => ?_)
      refine ms_iload C dX10_sells_83 0 rfl ?_
      refine ms_if_le (tgt := 92) C dX10_sells_85 (by decide) (fun c25 => ?_) (fun c25 => ?_)
      · refine ms_iconst C (0 : Int32) dX10_sells_92 (by decide) ?_
        refine ms_iadd C dX10_sells_93 (fun v26 => ?_)
        refine ms_st C dX10_sells_94 (zz55 (G := xg X) Nat.one_pos) rfl (fun _ M27 => ?_)
        refine ms_iinc (L' := fun v28 => [(5, .int v28), (6, .int v8), (0, .ref (xad X 40 0)), (1, .int x1), (2, .int x2), (3, .int x3), (4, .int x4)]) C dX10_sells_95 6 rfl (c := 1) (by decide) (by decide) (fun _ => rfl) (fun v28 => ?_)
        refine ms_goto (tgt := 3) C dX10_sells_98 (by decide) ?_
        exact ms_sub [2, 3, 4, 5, 6, 0] rfl (ih M27 v28)
      · refine ms_iload_n C dX10_sells_88 4 rfl ?_
        refine ms_goto (tgt := 93) C dX10_sells_89 (by decide) ?_
        refine ms_iadd C dX10_sells_93 (fun v29 => ?_)
        refine ms_st C dX10_sells_94 (zz55 (G := xg X) Nat.one_pos) rfl (fun _ M30 => ?_)
        refine ms_iinc (L' := fun v31 => [(5, .int v31), (6, .int v8), (0, .ref (xad X 40 0)), (1, .int x1), (2, .int x2), (3, .int x3), (4, .int x4)]) C dX10_sells_95 6 rfl (c := 1) (by decide) (by decide) (fun _ => rfl) (fun v31 => ?_)
        refine ms_goto (tgt := 3) C dX10_sells_98 (by decide) ?_
        exact ms_sub [2, 3, 4, 5, 6, 0] rfl (ih M30 v31)
set_option maxRecDepth 100000 in
set_option maxHeartbeats 4000000 in
theorem mtX10_sells (l : Launch) (G : mh_G) (n : Nat) (M : mh_M) (a0 : Int32) (a1 : Int32) (a2 : Int32) (a3 : Int32) {z : mh_M} (ho : fX10_sells n M a0 a1 a2 a3 = some z) : Met l yX10_sells wsX10_sells rmX10_sells (mh_Pc G M [.ref (G.2.2 40 0), .int a0, .int a1, .int a2, .int a3]) (mh_Q G z none) 0 0 (mh_dom G) := by
  refine mh_met (cc := cX10_sells) (maxL := 7) (ret := none) (by decide) rfl (Nat.le_of_ble_eq_true rfl) ho ?_
  rintro X rfl rfl C hR
  show mh_W X rmX10_sells 7 _ z M 0 [(0, .ref (xad X 40 0)), (1, .int a0), (2, .int a1), (3, .int a2), (4, .int a3)] []
  replace C : mh_C X rmX10_sells cX10_sells wsX10_sells RX10 7 := C
  unfold fX10_sells
  refine ms_iconst C (0 : Int32) dX10_sells_0 (by decide) ?_
  refine ms_istore (L' := [(5, .int (0 : Int32)), (0, .ref (xad X 40 0)), (1, .int a0), (2, .int a1), (3, .int a2), (4, .int a3)]) C dX10_sells_1 (by decide) rfl ?_
  exact ms_sub [1, 2, 3, 4, 5, 0] rfl (mtX10_sells_L3 (n := n) a0 a1 a2 a3 C hR n M (0 : Int32))
def rmX10_loses : Room := { frames := 0, cells := 0, slots := 0, locals := 0 }
theorem inX10_X10_loses : ∀ w ∈ wsX100, w ∈ wsX10_loses := by decide +kernel
set_option maxRecDepth 100000 in
set_option maxHeartbeats 4000000 in
theorem mtX10_loses (l : Launch) (G : mh_G) (n : Nat) (M : mh_M) (a0 : Int32) (a1 : Int32) (a2 : Int32) (a3 : Int32) {z : mh_M} (ho : fX10_loses n M a0 a1 a2 a3 = some z) : Met l yX10_loses wsX10_loses rmX10_loses (mh_Pc G M [.ref (G.2.2 40 0), .int a0, .int a1, .int a2, .int a3]) (mh_Q G z none) 0 0 (mh_dom G) := by
  refine mh_met (cc := cX10_loses) (maxL := 5) (ret := none) (by decide) rfl (Nat.le_of_ble_eq_true rfl) ho ?_
  rintro X rfl rfl C hR
  show mh_W X rmX10_loses 5 _ z M 0 [(0, .ref (xad X 40 0)), (1, .int a0), (2, .int a1), (3, .int a2), (4, .int a3)] []
  replace C : mh_C X rmX10_loses cX10_loses wsX10_loses RX10 5 := C
  unfold fX10_loses
  refine ms_aload_n C dX10_loses_0 0 rfl ?_
  refine ms_getr C dX10_loses_1 (zz40 (G := xg X) Nat.one_pos) (k := 10) (Nat.le_of_ble_eq_true rfl) (b := xad X 51 0) rfl (Cn := RX10) (T := TX10) rfl inX10_X10_loses rfl (by decide +kernel) ?_
  refine ms_bipush C (10 : Int32) dX10_loses_4 (by decide) ?_
  refine ms_iload_n C dX10_loses_6 1 rfl ?_
  refine ms_imul C dX10_loses_7 (fun v1 => ?_)
  refine ms_iload_n C dX10_loses_8 2 rfl ?_
  refine ms_iadd C dX10_loses_9 (fun v2 => ?_)
  refine ms_dup2 C dX10_loses_10 rfl rfl ?_
  refine ms_ld C dX10_loses_11 (zz51 (G := xg X) Nat.one_pos) rfl (fun _ v3 => ?_)
  refine ms_iload C dX10_loses_12 4 rfl ?_
  refine ms_isub C dX10_loses_14 (fun v4 => ?_)
  refine ms_st C dX10_loses_15 (zz51 (G := xg X) Nat.one_pos) rfl (fun _ M5 => ?_)
  refine ms_aload_n C dX10_loses_16 0 rfl ?_
  refine ms_getr C dX10_loses_17 (zz40 (G := xg X) Nat.one_pos) (k := 17) (Nat.le_of_ble_eq_true rfl) (b := xad X 58 0) rfl (Cn := RX10) (T := TX10) rfl inX10_X10_loses rfl (by decide +kernel) ?_
  refine ms_iconst C (5 : Int32) dX10_loses_20 (by decide) ?_
  refine ms_iload_n C dX10_loses_21 2 rfl ?_
  refine ms_imul C dX10_loses_22 (fun v6 => ?_)
  refine ms_iconst C (1 : Int32) dX10_loses_23 (by decide) ?_
  refine ms_iadd C dX10_loses_24 (fun v7 => ?_)
  refine ms_iload_n C dX10_loses_25 3 rfl ?_
  refine ms_iadd C dX10_loses_26 (fun v8 => ?_)
  refine ms_dup2 C dX10_loses_27 rfl rfl ?_
  refine ms_ld C dX10_loses_28 (zz58 (G := xg X) Nat.one_pos) rfl (fun _ v9 => ?_)
  refine ms_iload C dX10_loses_29 4 rfl ?_
  refine ms_iadd C dX10_loses_31 (fun v10 => ?_)
  refine ms_st C dX10_loses_32 (zz58 (G := xg X) Nat.one_pos) rfl (fun _ M11 => ?_)
  exact ms_vretm C hR dX10_loses_33
def rmX10_receive : Room := { frames := 2, cells := 0, slots := 0, locals := 43 }
theorem inX10_X10_receive : ∀ w ∈ wsX100, w ∈ wsX10_receive := by decide +kernel
set_option maxRecDepth 100000 in
set_option maxHeartbeats 4000000 in
theorem mtX10_receive (l : Launch) (G : mh_G) (n : Nat) (M : mh_M) (a0 : Int32) (a1 : Int32) {z : mh_M × Int32} (ho : fX10_receive n M a0 a1 = some z) : Met l yX10_receive wsX10_receive rmX10_receive (mh_Pc G M [.ref (G.2.2 40 0), .int a0, .int a1]) (mh_Q G z.1 (some (.int z.2))) 0 0 (mh_dom G) := by
  refine mh_met (cc := cX10_receive) (maxL := 3) (ret := (some .int)) (by decide) rfl (Nat.le_of_ble_eq_true rfl) ho ?_
  rintro X rfl rfl C hR
  show mh_W X rmX10_receive 3 _ z M 0 [(0, .ref (xad X 40 0)), (1, .int a0), (2, .int a1)] []
  replace C : mh_C X rmX10_receive cX10_receive wsX10_receive RX10 3 := C
  unfold fX10_receive
  refine ms_aload_n C dX10_receive_0 0 rfl ?_
  refine ms_iload_n C dX10_receive_1 1 rfl ?_
  refine ms_callVi (As := [.int a0]) C dX10_receive_2 (fun _ h => mtX10_isKind (xl X) (xg X) n M a0 h) (cwV 1 C.2.2.1 gX10_receive_X10_isKind rfl rfl rfl (by decide +kernel) ⟨Nat.le_of_ble_eq_true rfl, Nat.le_of_ble_eq_true rfl⟩) (zz40 (G := xg X) Nat.one_pos) (T := TX10) rfl rfl rfl (Nat.le_of_ble_eq_true rfl) (fun v1 => ?_)
  refine ms_if_eq (tgt := 18) C dX10_receive_5 (by decide) (fun c2 => ?_) (fun c2 => ?_)
  · refine ms_iconst C (-1 : Int32) dX10_receive_18 (by decide) ?_
    exact ms_iretm C hR rfl dX10_receive_19
  · refine ms_iload_n C dX10_receive_8 2 rfl ?_
    refine ms_iconst C (1 : Int32) dX10_receive_9 (by decide) ?_
    refine ms_bipush C (100 : Int32) dX10_receive_10 (by decide) ?_
    refine ms_callSi (As := [.int a1, .int (1 : Int32), .int (100 : Int32)]) C dX10_receive_12 (fun _ h => mtX10_in (xl X) (xg X) n M a1 (1 : Int32) (100 : Int32) h) (va_cwS 3 C.2.2.1 gX10_receive_X10_in rfl rfl rfl (by decide +kernel) ⟨Nat.le_of_ble_eq_true rfl, Nat.le_of_ble_eq_true rfl⟩) rfl rfl (Nat.le_of_ble_eq_true rfl) (fun v3 => ?_)
    refine ms_if_ne (tgt := 20) C dX10_receive_15 (by decide) (fun c4 => ?_) (fun c4 => ?_)
    · refine ms_aload_n C dX10_receive_20 0 rfl ?_
      refine ms_getr C dX10_receive_21 (zz40 (G := xg X) Nat.one_pos) (k := 9) (Nat.le_of_ble_eq_true rfl) (b := xad X 50 0) rfl (Cn := RX10) (T := TX10) rfl inX10_X10_receive rfl (by decide +kernel) ?_
      refine ms_iload_n C dX10_receive_24 1 rfl ?_
      refine ms_ld C dX10_receive_25 (zz50 (G := xg X) Nat.one_pos) rfl (fun _ v5 => ?_)
      refine ms_iload_n C dX10_receive_26 2 rfl ?_
      refine ms_iadd C dX10_receive_27 (fun v6 => ?_)
      refine ms_sipush C (1000 : Int32) dX10_receive_28 (by decide) ?_
      refine ms_icmp_le (tgt := 37) C dX10_receive_31 (by decide) (fun c7 => ?_) (fun c7 => ?_)
      · refine ms_aload_n C dX10_receive_37 0 rfl ?_
        refine ms_iload_n C dX10_receive_38 1 rfl ?_
        refine ms_iload_n C dX10_receive_39 2 rfl ?_
        refine ms_callVv (As := [.int a0, .int a1]) C dX10_receive_40 (fun _ h => mtX10_receives (xl X) (xg X) n M a0 a1 h) (cwV 2 C.2.2.1 gX10_receive_X10_receives rfl rfl rfl (by decide +kernel) ⟨Nat.le_of_ble_eq_true rfl, Nat.le_of_ble_eq_true rfl⟩) (zz40 (G := xg X) Nat.one_pos) (T := TX10) rfl rfl rfl (Nat.le_of_ble_eq_true rfl) (fun M8 => ?_)
        refine ms_aload_n C dX10_receive_43 0 rfl ?_
        refine ms_iconst C (0 : Int32) dX10_receive_44 (by decide) ?_
        refine ms_iconst C (0 : Int32) dX10_receive_45 (by decide) ?_
        refine ms_iload_n C dX10_receive_46 1 rfl ?_
        refine ms_iload_n C dX10_receive_47 2 rfl ?_
        refine ms_iconst C (0 : Int32) dX10_receive_48 (by decide) ?_
        refine ms_iconst C (0 : Int32) dX10_receive_49 (by decide) ?_
        refine ms_callVv (As := [.int (0 : Int32), .int (0 : Int32), .int a0, .int a1, .int (0 : Int32), .int (0 : Int32)]) C dX10_receive_50 (fun _ h => mtX10_keeps (xl X) (xg X) n M8 (0 : Int32) (0 : Int32) a0 a1 (0 : Int32) (0 : Int32) h) (cwV 6 C.2.2.1 gX10_receive_X10_keeps rfl rfl rfl (by decide +kernel) ⟨Nat.le_of_ble_eq_true rfl, Nat.le_of_ble_eq_true rfl⟩) (zz40 (G := xg X) Nat.one_pos) (T := TX10) rfl rfl rfl (Nat.le_of_ble_eq_true rfl) (fun M9 => ?_)
        refine ms_aload_n C dX10_receive_53 0 rfl ?_
        refine ms_getr C dX10_receive_54 (zz40 (G := xg X) Nat.one_pos) (k := 9) (Nat.le_of_ble_eq_true rfl) (b := xad X 50 0) rfl (Cn := RX10) (T := TX10) rfl inX10_X10_receive rfl (by decide +kernel) ?_
        refine ms_iload_n C dX10_receive_57 1 rfl ?_
        refine ms_ld C dX10_receive_58 (zz50 (G := xg X) Nat.one_pos) rfl (fun _ v10 => ?_)
        exact ms_iretm C hR rfl dX10_receive_59
      · refine ms_bipush C (-3 : Int32) dX10_receive_34 (by decide) ?_
        exact ms_iretm C hR rfl dX10_receive_36
    · refine ms_iconst C (-1 : Int32) dX10_receive_18 (by decide) ?_
      exact ms_iretm C hR rfl dX10_receive_19
def rmX10_issue : Room := { frames := 2, cells := 0, slots := 0, locals := 43 }
theorem inX10_X10_issue : ∀ w ∈ wsX100, w ∈ wsX10_issue := by decide +kernel
set_option maxRecDepth 100000 in
set_option maxHeartbeats 4000000 in
theorem mtX10_issue (l : Launch) (G : mh_G) (n : Nat) (M : mh_M) (a0 : Int32) (a1 : Int32) (a2 : Int32) {z : mh_M × Int32} (ho : fX10_issue n M a0 a1 a2 = some z) : Met l yX10_issue wsX10_issue rmX10_issue (mh_Pc G M [.ref (G.2.2 40 0), .int a0, .int a1, .int a2]) (mh_Q G z.1 (some (.int z.2))) 0 0 (mh_dom G) := by
  refine mh_met (cc := cX10_issue) (maxL := 4) (ret := (some .int)) (by decide) rfl (Nat.le_of_ble_eq_true rfl) ho ?_
  rintro X rfl rfl C hR
  show mh_W X rmX10_issue 4 _ z M 0 [(0, .ref (xad X 40 0)), (1, .int a0), (2, .int a1), (3, .int a2)] []
  replace C : mh_C X rmX10_issue cX10_issue wsX10_issue RX10 4 := C
  unfold fX10_issue
  refine ms_iload_n C dX10_issue_0 1 rfl ?_
  refine ms_callSi (As := [.int a0]) C dX10_issue_1 (fun _ h => mtX10_isBar (xl X) (xg X) n M a0 h) (va_cwS 1 C.2.2.1 gX10_issue_X10_isBar rfl rfl rfl (by decide +kernel) ⟨Nat.le_of_ble_eq_true rfl, Nat.le_of_ble_eq_true rfl⟩) rfl rfl (Nat.le_of_ble_eq_true rfl) (fun v1 => ?_)
  refine ms_if_eq (tgt := 25) C dX10_issue_4 (by decide) (fun c2 => ?_) (fun c2 => ?_)
  · refine ms_ldc C (-1000000000 : Int32) dX10_issue_25 (by decide +kernel) ?_
    exact ms_iretm C hR rfl dX10_issue_27
  · refine ms_aload_n C dX10_issue_7 0 rfl ?_
    refine ms_iload_n C dX10_issue_8 2 rfl ?_
    refine ms_callVi (As := [.int a1]) C dX10_issue_9 (fun _ h => mtX10_isKind (xl X) (xg X) n M a1 h) (cwV 1 C.2.2.1 gX10_issue_X10_isKind rfl rfl rfl (by decide +kernel) ⟨Nat.le_of_ble_eq_true rfl, Nat.le_of_ble_eq_true rfl⟩) (zz40 (G := xg X) Nat.one_pos) (T := TX10) rfl rfl rfl (Nat.le_of_ble_eq_true rfl) (fun v3 => ?_)
    refine ms_if_eq (tgt := 25) C dX10_issue_12 (by decide) (fun c4 => ?_) (fun c4 => ?_)
    · refine ms_ldc C (-1000000000 : Int32) dX10_issue_25 (by decide +kernel) ?_
      exact ms_iretm C hR rfl dX10_issue_27
    · refine ms_iload_n C dX10_issue_15 3 rfl ?_
      refine ms_iconst C (1 : Int32) dX10_issue_16 (by decide) ?_
      refine ms_bipush C (100 : Int32) dX10_issue_17 (by decide) ?_
      refine ms_callSi (As := [.int a2, .int (1 : Int32), .int (100 : Int32)]) C dX10_issue_19 (fun _ h => mtX10_in (xl X) (xg X) n M a2 (1 : Int32) (100 : Int32) h) (va_cwS 3 C.2.2.1 gX10_issue_X10_in rfl rfl rfl (by decide +kernel) ⟨Nat.le_of_ble_eq_true rfl, Nat.le_of_ble_eq_true rfl⟩) rfl rfl (Nat.le_of_ble_eq_true rfl) (fun v5 => ?_)
      refine ms_if_ne (tgt := 28) C dX10_issue_22 (by decide) (fun c6 => ?_) (fun c6 => ?_)
      · refine ms_aload_n C dX10_issue_28 0 rfl ?_
        refine ms_getr C dX10_issue_29 (zz40 (G := xg X) Nat.one_pos) (k := 9) (Nat.le_of_ble_eq_true rfl) (b := xad X 50 0) rfl (Cn := RX10) (T := TX10) rfl inX10_X10_issue rfl (by decide +kernel) ?_
        refine ms_iload_n C dX10_issue_32 2 rfl ?_
        refine ms_ld C dX10_issue_33 (zz50 (G := xg X) Nat.one_pos) rfl (fun _ v7 => ?_)
        refine ms_iload_n C dX10_issue_34 3 rfl ?_
        refine ms_icmp_ge (tgt := 41) C dX10_issue_35 (by decide) (fun c8 => ?_) (fun c8 => ?_)
        · refine ms_aload_n C dX10_issue_41 0 rfl ?_
          refine ms_iload_n C dX10_issue_42 1 rfl ?_
          refine ms_iload_n C dX10_issue_43 2 rfl ?_
          refine ms_iload_n C dX10_issue_44 3 rfl ?_
          refine ms_callVv (As := [.int a0, .int a1, .int a2]) C dX10_issue_45 (fun _ h => mtX10_issues (xl X) (xg X) n M a0 a1 a2 h) (cwV 3 C.2.2.1 gX10_issue_X10_issues rfl rfl rfl (by decide +kernel) ⟨Nat.le_of_ble_eq_true rfl, Nat.le_of_ble_eq_true rfl⟩) (zz40 (G := xg X) Nat.one_pos) (T := TX10) rfl rfl rfl (Nat.le_of_ble_eq_true rfl) (fun M9 => ?_)
          refine ms_aload_n C dX10_issue_48 0 rfl ?_
          refine ms_iconst C (1 : Int32) dX10_issue_49 (by decide) ?_
          refine ms_iload_n C dX10_issue_50 1 rfl ?_
          refine ms_iload_n C dX10_issue_51 2 rfl ?_
          refine ms_iload_n C dX10_issue_52 3 rfl ?_
          refine ms_iconst C (0 : Int32) dX10_issue_53 (by decide) ?_
          refine ms_iconst C (0 : Int32) dX10_issue_54 (by decide) ?_
          refine ms_callVv (As := [.int (1 : Int32), .int a0, .int a1, .int a2, .int (0 : Int32), .int (0 : Int32)]) C dX10_issue_55 (fun _ h => mtX10_keeps (xl X) (xg X) n M9 (1 : Int32) a0 a1 a2 (0 : Int32) (0 : Int32) h) (cwV 6 C.2.2.1 gX10_issue_X10_keeps rfl rfl rfl (by decide +kernel) ⟨Nat.le_of_ble_eq_true rfl, Nat.le_of_ble_eq_true rfl⟩) (zz40 (G := xg X) Nat.one_pos) (T := TX10) rfl rfl rfl (Nat.le_of_ble_eq_true rfl) (fun M10 => ?_)
          refine ms_aload_n C dX10_issue_58 0 rfl ?_
          refine ms_getr C dX10_issue_59 (zz40 (G := xg X) Nat.one_pos) (k := 10) (Nat.le_of_ble_eq_true rfl) (b := xad X 51 0) rfl (Cn := RX10) (T := TX10) rfl inX10_X10_issue rfl (by decide +kernel) ?_
          refine ms_bipush C (10 : Int32) dX10_issue_62 (by decide) ?_
          refine ms_iload_n C dX10_issue_64 1 rfl ?_
          refine ms_imul C dX10_issue_65 (fun v11 => ?_)
          refine ms_iload_n C dX10_issue_66 2 rfl ?_
          refine ms_iadd C dX10_issue_67 (fun v12 => ?_)
          refine ms_ld C dX10_issue_68 (zz51 (G := xg X) Nat.one_pos) rfl (fun _ v13 => ?_)
          exact ms_iretm C hR rfl dX10_issue_69
        · refine ms_ldc C (-1000000002 : Int32) dX10_issue_38 (by decide +kernel) ?_
          exact ms_iretm C hR rfl dX10_issue_40
      · refine ms_ldc C (-1000000000 : Int32) dX10_issue_25 (by decide +kernel) ?_
        exact ms_iretm C hR rfl dX10_issue_27
def rmX10_lend : Room := { frames := 2, cells := 0, slots := 0, locals := 43 }
theorem inX10_X10_lend : ∀ w ∈ wsX100, w ∈ wsX10_lend := by decide +kernel
set_option maxRecDepth 100000 in
set_option maxHeartbeats 4000000 in
theorem mtX10_lend (l : Launch) (G : mh_G) (n : Nat) (M : mh_M) (a0 : Int32) (a1 : Int32) (a2 : Int32) {z : mh_M × Int32} (ho : fX10_lend n M a0 a1 a2 = some z) : Met l yX10_lend wsX10_lend rmX10_lend (mh_Pc G M [.ref (G.2.2 40 0), .int a0, .int a1, .int a2]) (mh_Q G z.1 (some (.int z.2))) 0 0 (mh_dom G) := by
  refine mh_met (cc := cX10_lend) (maxL := 4) (ret := (some .int)) (by decide) rfl (Nat.le_of_ble_eq_true rfl) ho ?_
  rintro X rfl rfl C hR
  show mh_W X rmX10_lend 4 _ z M 0 [(0, .ref (xad X 40 0)), (1, .int a0), (2, .int a1), (3, .int a2)] []
  replace C : mh_C X rmX10_lend cX10_lend wsX10_lend RX10 4 := C
  unfold fX10_lend
  refine ms_iload_n C dX10_lend_0 1 rfl ?_
  refine ms_callSi (As := [.int a0]) C dX10_lend_1 (fun _ h => mtX10_isBar (xl X) (xg X) n M a0 h) (va_cwS 1 C.2.2.1 gX10_lend_X10_isBar rfl rfl rfl (by decide +kernel) ⟨Nat.le_of_ble_eq_true rfl, Nat.le_of_ble_eq_true rfl⟩) rfl rfl (Nat.le_of_ble_eq_true rfl) (fun v1 => ?_)
  refine ms_if_eq (tgt := 26) C dX10_lend_4 (by decide) (fun c2 => ?_) (fun c2 => ?_)
  · refine ms_ldc C (-1000000000 : Int32) dX10_lend_26 (by decide +kernel) ?_
    exact ms_iretm C hR rfl dX10_lend_28
  · refine ms_aload_n C dX10_lend_7 0 rfl ?_
    refine ms_iload_n C dX10_lend_8 2 rfl ?_
    refine ms_callVi (As := [.int a1]) C dX10_lend_9 (fun _ h => mtX10_isKind (xl X) (xg X) n M a1 h) (cwV 1 C.2.2.1 gX10_lend_X10_isKind rfl rfl rfl (by decide +kernel) ⟨Nat.le_of_ble_eq_true rfl, Nat.le_of_ble_eq_true rfl⟩) (zz40 (G := xg X) Nat.one_pos) (T := TX10) rfl rfl rfl (Nat.le_of_ble_eq_true rfl) (fun v3 => ?_)
    refine ms_if_eq (tgt := 26) C dX10_lend_12 (by decide) (fun c4 => ?_) (fun c4 => ?_)
    · refine ms_ldc C (-1000000000 : Int32) dX10_lend_26 (by decide +kernel) ?_
      exact ms_iretm C hR rfl dX10_lend_28
    · refine ms_iload_n C dX10_lend_15 3 rfl ?_
      refine ms_iconst C (1 : Int32) dX10_lend_16 (by decide) ?_
      refine ms_sipush C (10000 : Int32) dX10_lend_17 (by decide) ?_
      refine ms_callSi (As := [.int a2, .int (1 : Int32), .int (10000 : Int32)]) C dX10_lend_20 (fun _ h => mtX10_in (xl X) (xg X) n M a2 (1 : Int32) (10000 : Int32) h) (va_cwS 3 C.2.2.1 gX10_lend_X10_in rfl rfl rfl (by decide +kernel) ⟨Nat.le_of_ble_eq_true rfl, Nat.le_of_ble_eq_true rfl⟩) rfl rfl (Nat.le_of_ble_eq_true rfl) (fun v5 => ?_)
      refine ms_if_ne (tgt := 29) C dX10_lend_23 (by decide) (fun c6 => ?_) (fun c6 => ?_)
      · refine ms_aload_n C dX10_lend_29 0 rfl ?_
        refine ms_getr C dX10_lend_30 (zz40 (G := xg X) Nat.one_pos) (k := 10) (Nat.le_of_ble_eq_true rfl) (b := xad X 51 0) rfl (Cn := RX10) (T := TX10) rfl inX10_X10_lend rfl (by decide +kernel) ?_
        refine ms_bipush C (10 : Int32) dX10_lend_33 (by decide) ?_
        refine ms_iload_n C dX10_lend_35 1 rfl ?_
        refine ms_imul C dX10_lend_36 (fun v7 => ?_)
        refine ms_iload_n C dX10_lend_37 2 rfl ?_
        refine ms_iadd C dX10_lend_38 (fun v8 => ?_)
        refine ms_ld C dX10_lend_39 (zz51 (G := xg X) Nat.one_pos) rfl (fun _ v9 => ?_)
        refine ms_iload_n C dX10_lend_40 3 rfl ?_
        refine ms_icmp_ge (tgt := 47) C dX10_lend_41 (by decide) (fun c10 => ?_) (fun c10 => ?_)
        · refine ms_aload_n C dX10_lend_47 0 rfl ?_
          refine ms_iload_n C dX10_lend_48 1 rfl ?_
          refine ms_iload_n C dX10_lend_49 2 rfl ?_
          refine ms_iload_n C dX10_lend_50 3 rfl ?_
          refine ms_callVv (As := [.int a0, .int a1, .int a2]) C dX10_lend_51 (fun _ h => mtX10_lends (xl X) (xg X) n M a0 a1 a2 h) (cwV 3 C.2.2.1 gX10_lend_X10_lends rfl rfl rfl (by decide +kernel) ⟨Nat.le_of_ble_eq_true rfl, Nat.le_of_ble_eq_true rfl⟩) (zz40 (G := xg X) Nat.one_pos) (T := TX10) rfl rfl rfl (Nat.le_of_ble_eq_true rfl) (fun M11 => ?_)
          refine ms_aload_n C dX10_lend_54 0 rfl ?_
          refine ms_iconst C (2 : Int32) dX10_lend_55 (by decide) ?_
          refine ms_iload_n C dX10_lend_56 1 rfl ?_
          refine ms_iload_n C dX10_lend_57 2 rfl ?_
          refine ms_iload_n C dX10_lend_58 3 rfl ?_
          refine ms_iconst C (0 : Int32) dX10_lend_59 (by decide) ?_
          refine ms_iconst C (0 : Int32) dX10_lend_60 (by decide) ?_
          refine ms_callVv (As := [.int (2 : Int32), .int a0, .int a1, .int a2, .int (0 : Int32), .int (0 : Int32)]) C dX10_lend_61 (fun _ h => mtX10_keeps (xl X) (xg X) n M11 (2 : Int32) a0 a1 a2 (0 : Int32) (0 : Int32) h) (cwV 6 C.2.2.1 gX10_lend_X10_keeps rfl rfl rfl (by decide +kernel) ⟨Nat.le_of_ble_eq_true rfl, Nat.le_of_ble_eq_true rfl⟩) (zz40 (G := xg X) Nat.one_pos) (T := TX10) rfl rfl rfl (Nat.le_of_ble_eq_true rfl) (fun M12 => ?_)
          refine ms_aload_n C dX10_lend_64 0 rfl ?_
          refine ms_getr C dX10_lend_65 (zz40 (G := xg X) Nat.one_pos) (k := 10) (Nat.le_of_ble_eq_true rfl) (b := xad X 51 0) rfl (Cn := RX10) (T := TX10) rfl inX10_X10_lend rfl (by decide +kernel) ?_
          refine ms_bipush C (10 : Int32) dX10_lend_68 (by decide) ?_
          refine ms_iconst C (1 : Int32) dX10_lend_70 (by decide) ?_
          refine ms_iload_n C dX10_lend_71 1 rfl ?_
          refine ms_isub C dX10_lend_72 (fun v13 => ?_)
          refine ms_imul C dX10_lend_73 (fun v14 => ?_)
          refine ms_iload_n C dX10_lend_74 2 rfl ?_
          refine ms_iadd C dX10_lend_75 (fun v15 => ?_)
          refine ms_ld C dX10_lend_76 (zz51 (G := xg X) Nat.one_pos) rfl (fun _ v16 => ?_)
          exact ms_iretm C hR rfl dX10_lend_77
        · refine ms_ldc C (-1000000002 : Int32) dX10_lend_44 (by decide +kernel) ?_
          exact ms_iretm C hR rfl dX10_lend_46
      · refine ms_ldc C (-1000000000 : Int32) dX10_lend_26 (by decide +kernel) ?_
        exact ms_iretm C hR rfl dX10_lend_28
def rmX10_holds : Room := { frames := 1, cells := 0, slots := 0, locals := 22 }
theorem inX10_X10_holds : ∀ w ∈ wsX100, w ∈ wsX10_holds := by decide +kernel
set_option maxRecDepth 100000 in
set_option maxHeartbeats 4000000 in
theorem mtX10_holds (l : Launch) (G : mh_G) (n : Nat) (M : mh_M) (a0 : Int32) (a1 : Int32) (a2 : Int32) {z : Int32} (ho : fX10_holds n M a0 a1 a2 = some z) : Met l yX10_holds wsX10_holds rmX10_holds (mh_Pc G M [.ref (G.2.2 40 0), .int a0, .int a1, .int a2]) (mh_Q G M (some (.int z))) 0 0 (mh_dom G) := by
  refine mh_met (cc := cX10_holds) (maxL := 6) (ret := (some .boolean)) (by decide) rfl (Nat.le_of_ble_eq_true rfl) ho ?_
  rintro X rfl rfl C hR
  show mh_W X rmX10_holds 6 _ z M 0 [(0, .ref (xad X 40 0)), (1, .int a0), (2, .int a1), (3, .int a2)] []
  replace C : mh_C X rmX10_holds cX10_holds wsX10_holds RX10 6 := C
  unfold fX10_holds
  refine ms_aload_n C dX10_holds_0 0 rfl ?_
  refine ms_getr C dX10_holds_1 (zz40 (G := xg X) Nat.one_pos) (k := 25) (Nat.le_of_ble_eq_true rfl) (b := xad X 66 0) rfl (Cn := RX10) (T := TX10) rfl inX10_X10_holds rfl (by decide +kernel) ?_
  refine ms_iload_n C dX10_holds_4 1 rfl ?_
  refine ms_ld C dX10_holds_5 (zz66 (G := xg X) Nat.one_pos) rfl (fun _ v1 => ?_)
  refine ms_iload_n C dX10_holds_6 2 rfl ?_
  refine ms_ishr C dX10_holds_7 (fun v2 => ?_)
  refine ms_iconst C (1 : Int32) dX10_holds_8 (by decide) ?_
  refine ms_iand C dX10_holds_9 (fun v3 => ?_)
  refine ms_iconst C (1 : Int32) dX10_holds_10 (by decide) ?_
  refine ms_icmp_ne (tgt := 18) C dX10_holds_11 (by decide) (fun c4 => ?_) (fun c4 => ?_)
  · refine ms_iconst C (0 : Int32) dX10_holds_18 (by decide) ?_
    refine ms_istore (L' := [(4, .int (0 : Int32)), (0, .ref (xad X 40 0)), (1, .int a0), (2, .int a1), (3, .int a2)]) C dX10_holds_19 (by decide) rfl ?_
    refine ms_aload_n C dX10_holds_21 1 rfl ?_
    refine ms_getr C dX10_holds_22 (zz40 (G := xg X) Nat.one_pos) (k := 25) (Nat.le_of_ble_eq_true rfl) (b := xad X 66 0) rfl (Cn := RX10) (T := TX10) rfl inX10_X10_holds rfl (by decide +kernel) ?_
    refine ms_iload_n C dX10_holds_25 2 rfl ?_
    refine ms_ld C dX10_holds_26 (zz66 (G := xg X) Nat.one_pos) rfl (fun _ v5 => ?_)
    refine ms_iload_n C dX10_holds_27 3 rfl ?_
    refine ms_bipush C (6 : Int32) dX10_holds_28 (by decide) ?_
    refine ms_iadd C dX10_holds_30 (fun v6 => ?_)
    refine ms_bipush C (7 : Int32) dX10_holds_31 (by decide) ?_
    refine ms_irem C dX10_holds_33 (fun v7 => ?_)
    refine ms_ishr C dX10_holds_34 (fun v8 => ?_)
    refine ms_iconst C (1 : Int32) dX10_holds_35 (by decide) ?_
    refine ms_iand C dX10_holds_36 (fun v9 => ?_)
    refine ms_iconst C (1 : Int32) dX10_holds_37 (by decide) ?_
    refine ms_icmp_ne (tgt := 45) C dX10_holds_38 (by decide) (fun c10 => ?_) (fun c10 => ?_)
    · refine ms_iconst C (0 : Int32) dX10_holds_45 (by decide) ?_
      refine ms_istore (L' := [(5, .int (0 : Int32)), (4, .int (0 : Int32)), (0, .ref (xad X 40 0)), (1, .int a0), (2, .int a1), (3, .int a2)]) C dX10_holds_46 (by decide) rfl ?_
      refine ms_aload_n C dX10_holds_48 2 rfl ?_
      refine ms_getr C dX10_holds_49 (zz40 (G := xg X) Nat.one_pos) (k := 27) (Nat.le_of_ble_eq_true rfl) (b := xad X 68 0) rfl (Cn := RX10) (T := TX10) rfl inX10_X10_holds rfl (by decide +kernel) ?_
      refine ms_iload_n C dX10_holds_52 3 rfl ?_
      refine ms_ld C dX10_holds_53 (zz68 (G := xg X) Nat.one_pos) rfl (fun _ v11 => ?_)
      refine ms_aload_n C dX10_holds_54 2 rfl ?_
      refine ms_getr C dX10_holds_55 (zz40 (G := xg X) Nat.one_pos) (k := 26) (Nat.le_of_ble_eq_true rfl) (b := xad X 67 0) rfl (Cn := RX10) (T := TX10) rfl inX10_X10_holds rfl (by decide +kernel) ?_
      refine ms_iload_n C dX10_holds_58 3 rfl ?_
      refine ms_ld C dX10_holds_59 (zz67 (G := xg X) Nat.one_pos) rfl (fun _ v12 => ?_)
      refine ms_icmp_le (tgt := 95) C dX10_holds_60 (by decide) (fun c13 => ?_) (fun c13 => ?_)
      · refine ms_iload_n C dX10_holds_95 5 rfl ?_
        refine ms_aload_n C dX10_holds_96 2 rfl ?_
        refine ms_getr C dX10_holds_97 (zz40 (G := xg X) Nat.one_pos) (k := 26) (Nat.le_of_ble_eq_true rfl) (b := xad X 67 0) rfl (Cn := RX10) (T := TX10) rfl inX10_X10_holds rfl (by decide +kernel) ?_
        refine ms_iload_n C dX10_holds_100 3 rfl ?_
        refine ms_ld C dX10_holds_101 (zz67 (G := xg X) Nat.one_pos) rfl (fun _ v14 => ?_)
        refine ms_icmp_lt (tgt := 110) C dX10_holds_102 (by decide) (fun c15 => ?_) (fun c15 => ?_)
        · refine ms_iload_n C dX10_holds_110 5 rfl ?_
          refine ms_aload_n C dX10_holds_111 2 rfl ?_
          refine ms_getr C dX10_holds_112 (zz40 (G := xg X) Nat.one_pos) (k := 27) (Nat.le_of_ble_eq_true rfl) (b := xad X 68 0) rfl (Cn := RX10) (T := TX10) rfl inX10_X10_holds rfl (by decide +kernel) ?_
          refine ms_iload_n C dX10_holds_115 3 rfl ?_
          refine ms_ld C dX10_holds_116 (zz68 (G := xg X) Nat.one_pos) rfl (fun _ v16 => ?_)
          refine ms_icmp_ge (tgt := 129) C dX10_holds_117 (by decide) (fun c17 => ?_) (fun c17 => ?_)
          · refine ms_iconst C (0 : Int32) dX10_holds_129 (by decide) ?_
            exact ms_ireti C hR rfl rfl dX10_holds_130
          · refine ms_iload C dX10_holds_120 0 rfl ?_
            refine ms_if_eq (tgt := 129) C dX10_holds_122 (by decide) (fun c18 => ?_) (fun c18 => ?_)
            · refine ms_iconst C (0 : Int32) dX10_holds_129 (by decide) ?_
              exact ms_ireti C hR rfl rfl dX10_holds_130
            · refine ms_iconst C (1 : Int32) dX10_holds_125 (by decide) ?_
              refine ms_goto (tgt := 130) C dX10_holds_126 (by decide) ?_
              exact ms_ireti C hR rfl rfl dX10_holds_130
        · refine ms_iload C dX10_holds_105 1 rfl ?_
          refine ms_goto (tgt := 130) C dX10_holds_107 (by decide) ?_
          exact ms_ireti C hR rfl rfl dX10_holds_130
      · refine ms_iload C dX10_holds_63 1 rfl ?_
        refine ms_if_eq (tgt := 93) C dX10_holds_65 (by decide) (fun c19 => ?_) (fun c19 => ?_)
        · refine ms_iconst C (0 : Int32) dX10_holds_93 (by decide) ?_
          exact ms_ireti C hR rfl rfl dX10_holds_94
        · refine ms_iload_n C dX10_holds_68 5 rfl ?_
          refine ms_aload_n C dX10_holds_69 2 rfl ?_
          refine ms_getr C dX10_holds_70 (zz40 (G := xg X) Nat.one_pos) (k := 26) (Nat.le_of_ble_eq_true rfl) (b := xad X 67 0) rfl (Cn := RX10) (T := TX10) rfl inX10_X10_holds rfl (by decide +kernel) ?_
          refine ms_iload_n C dX10_holds_73 3 rfl ?_
          refine ms_ld C dX10_holds_74 (zz67 (G := xg X) Nat.one_pos) rfl (fun _ v20 => ?_)
          refine ms_aload_n C dX10_holds_75 2 rfl ?_
          refine ms_getr C dX10_holds_76 (zz40 (G := xg X) Nat.one_pos) (k := 27) (Nat.le_of_ble_eq_true rfl) (b := xad X 68 0) rfl (Cn := RX10) (T := TX10) rfl inX10_X10_holds rfl (by decide +kernel) ?_
          refine ms_iload_n C dX10_holds_79 3 rfl ?_
          refine ms_ld C dX10_holds_80 (zz68 (G := xg X) Nat.one_pos) rfl (fun _ v21 => ?_)
          refine ms_iconst C (1 : Int32) dX10_holds_81 (by decide) ?_
          refine ms_isub C dX10_holds_82 (fun v22 => ?_)
          refine ms_callSb (As := [.int a2, .int v20, .int v22]) C dX10_holds_83 (fun _ h => mtX10_in (xl X) (xg X) n M a2 v20 v22 h) (va_cwS 3 C.2.2.1 gX10_holds_X10_in rfl rfl rfl (by decide +kernel) ⟨Nat.le_of_ble_eq_true rfl, Nat.le_of_ble_eq_true rfl⟩) rfl rfl (Nat.le_of_ble_eq_true rfl) (fun _ h => bX10_in h) (fun v23 hv23 => ?_)
          refine ms_if_eq (tgt := 93) C dX10_holds_86 (by decide) (fun c24 => ?_) (fun c24 => ?_)
          · refine ms_iconst C (0 : Int32) dX10_holds_93 (by decide) ?_
            exact ms_ireti C hR rfl rfl dX10_holds_94
          · refine ms_iconst C (1 : Int32) dX10_holds_89 (by decide) ?_
            refine ms_goto (tgt := 94) C dX10_holds_90 (by decide) ?_
            exact ms_ireti C hR rfl rfl dX10_holds_94
    · refine ms_iconst C (1 : Int32) dX10_holds_41 (by decide) ?_
      refine ms_goto (tgt := 46) C dX10_holds_42 (by decide) ?_
      refine ms_istore (L' := [(5, .int (1 : Int32)), (4, .int (0 : Int32)), (0, .ref (xad X 40 0)), (1, .int a0), (2, .int a1), (3, .int a2)]) C dX10_holds_46 (by decide) rfl ?_
      refine ms_aload_n C dX10_holds_48 2 rfl ?_
      refine ms_getr C dX10_holds_49 (zz40 (G := xg X) Nat.one_pos) (k := 27) (Nat.le_of_ble_eq_true rfl) (b := xad X 68 0) rfl (Cn := RX10) (T := TX10) rfl inX10_X10_holds rfl (by decide +kernel) ?_
      refine ms_iload_n C dX10_holds_52 3 rfl ?_
      refine ms_ld C dX10_holds_53 (zz68 (G := xg X) Nat.one_pos) rfl (fun _ v25 => ?_)
      refine ms_aload_n C dX10_holds_54 2 rfl ?_
      refine ms_getr C dX10_holds_55 (zz40 (G := xg X) Nat.one_pos) (k := 26) (Nat.le_of_ble_eq_true rfl) (b := xad X 67 0) rfl (Cn := RX10) (T := TX10) rfl inX10_X10_holds rfl (by decide +kernel) ?_
      refine ms_iload_n C dX10_holds_58 3 rfl ?_
      refine ms_ld C dX10_holds_59 (zz67 (G := xg X) Nat.one_pos) rfl (fun _ v26 => ?_)
      refine ms_icmp_le (tgt := 95) C dX10_holds_60 (by decide) (fun c27 => ?_) (fun c27 => ?_)
      · refine ms_iload_n C dX10_holds_95 5 rfl ?_
        refine ms_aload_n C dX10_holds_96 2 rfl ?_
        refine ms_getr C dX10_holds_97 (zz40 (G := xg X) Nat.one_pos) (k := 26) (Nat.le_of_ble_eq_true rfl) (b := xad X 67 0) rfl (Cn := RX10) (T := TX10) rfl inX10_X10_holds rfl (by decide +kernel) ?_
        refine ms_iload_n C dX10_holds_100 3 rfl ?_
        refine ms_ld C dX10_holds_101 (zz67 (G := xg X) Nat.one_pos) rfl (fun _ v28 => ?_)
        refine ms_icmp_lt (tgt := 110) C dX10_holds_102 (by decide) (fun c29 => ?_) (fun c29 => ?_)
        · refine ms_iload_n C dX10_holds_110 5 rfl ?_
          refine ms_aload_n C dX10_holds_111 2 rfl ?_
          refine ms_getr C dX10_holds_112 (zz40 (G := xg X) Nat.one_pos) (k := 27) (Nat.le_of_ble_eq_true rfl) (b := xad X 68 0) rfl (Cn := RX10) (T := TX10) rfl inX10_X10_holds rfl (by decide +kernel) ?_
          refine ms_iload_n C dX10_holds_115 3 rfl ?_
          refine ms_ld C dX10_holds_116 (zz68 (G := xg X) Nat.one_pos) rfl (fun _ v30 => ?_)
          refine ms_icmp_ge (tgt := 129) C dX10_holds_117 (by decide) (fun c31 => ?_) (fun c31 => ?_)
          · refine ms_iconst C (0 : Int32) dX10_holds_129 (by decide) ?_
            exact ms_ireti C hR rfl rfl dX10_holds_130
          · refine ms_iload C dX10_holds_120 0 rfl ?_
            refine ms_if_eq (tgt := 129) C dX10_holds_122 (by decide) (fun c32 => ?_) (fun c32 => ?_)
            · refine ms_iconst C (0 : Int32) dX10_holds_129 (by decide) ?_
              exact ms_ireti C hR rfl rfl dX10_holds_130
            · refine ms_iconst C (1 : Int32) dX10_holds_125 (by decide) ?_
              refine ms_goto (tgt := 130) C dX10_holds_126 (by decide) ?_
              exact ms_ireti C hR rfl rfl dX10_holds_130
        · refine ms_iload C dX10_holds_105 1 rfl ?_
          refine ms_goto (tgt := 130) C dX10_holds_107 (by decide) ?_
          exact ms_ireti C hR rfl rfl dX10_holds_130
      · refine ms_iload C dX10_holds_63 1 rfl ?_
        refine ms_if_eq (tgt := 93) C dX10_holds_65 (by decide) (fun c33 => ?_) (fun c33 => ?_)
        · refine ms_iconst C (0 : Int32) dX10_holds_93 (by decide) ?_
          exact ms_ireti C hR rfl rfl dX10_holds_94
        · refine ms_iload_n C dX10_holds_68 5 rfl ?_
          refine ms_aload_n C dX10_holds_69 2 rfl ?_
          refine ms_getr C dX10_holds_70 (zz40 (G := xg X) Nat.one_pos) (k := 26) (Nat.le_of_ble_eq_true rfl) (b := xad X 67 0) rfl (Cn := RX10) (T := TX10) rfl inX10_X10_holds rfl (by decide +kernel) ?_
          refine ms_iload_n C dX10_holds_73 3 rfl ?_
          refine ms_ld C dX10_holds_74 (zz67 (G := xg X) Nat.one_pos) rfl (fun _ v34 => ?_)
          refine ms_aload_n C dX10_holds_75 2 rfl ?_
          refine ms_getr C dX10_holds_76 (zz40 (G := xg X) Nat.one_pos) (k := 27) (Nat.le_of_ble_eq_true rfl) (b := xad X 68 0) rfl (Cn := RX10) (T := TX10) rfl inX10_X10_holds rfl (by decide +kernel) ?_
          refine ms_iload_n C dX10_holds_79 3 rfl ?_
          refine ms_ld C dX10_holds_80 (zz68 (G := xg X) Nat.one_pos) rfl (fun _ v35 => ?_)
          refine ms_iconst C (1 : Int32) dX10_holds_81 (by decide) ?_
          refine ms_isub C dX10_holds_82 (fun v36 => ?_)
          refine ms_callSb (As := [.int a2, .int v34, .int v36]) C dX10_holds_83 (fun _ h => mtX10_in (xl X) (xg X) n M a2 v34 v36 h) (va_cwS 3 C.2.2.1 gX10_holds_X10_in rfl rfl rfl (by decide +kernel) ⟨Nat.le_of_ble_eq_true rfl, Nat.le_of_ble_eq_true rfl⟩) rfl rfl (Nat.le_of_ble_eq_true rfl) (fun _ h => bX10_in h) (fun v37 hv37 => ?_)
          refine ms_if_eq (tgt := 93) C dX10_holds_86 (by decide) (fun c38 => ?_) (fun c38 => ?_)
          · refine ms_iconst C (0 : Int32) dX10_holds_93 (by decide) ?_
            exact ms_ireti C hR rfl rfl dX10_holds_94
          · refine ms_iconst C (1 : Int32) dX10_holds_89 (by decide) ?_
            refine ms_goto (tgt := 94) C dX10_holds_90 (by decide) ?_
            exact ms_ireti C hR rfl rfl dX10_holds_94
  · refine ms_iconst C (1 : Int32) dX10_holds_14 (by decide) ?_
    refine ms_goto (tgt := 19) C dX10_holds_15 (by decide) ?_
    refine ms_istore (L' := [(4, .int (1 : Int32)), (0, .ref (xad X 40 0)), (1, .int a0), (2, .int a1), (3, .int a2)]) C dX10_holds_19 (by decide) rfl ?_
    refine ms_aload_n C dX10_holds_21 1 rfl ?_
    refine ms_getr C dX10_holds_22 (zz40 (G := xg X) Nat.one_pos) (k := 25) (Nat.le_of_ble_eq_true rfl) (b := xad X 66 0) rfl (Cn := RX10) (T := TX10) rfl inX10_X10_holds rfl (by decide +kernel) ?_
    refine ms_iload_n C dX10_holds_25 2 rfl ?_
    refine ms_ld C dX10_holds_26 (zz66 (G := xg X) Nat.one_pos) rfl (fun _ v39 => ?_)
    refine ms_iload_n C dX10_holds_27 3 rfl ?_
    refine ms_bipush C (6 : Int32) dX10_holds_28 (by decide) ?_
    refine ms_iadd C dX10_holds_30 (fun v40 => ?_)
    refine ms_bipush C (7 : Int32) dX10_holds_31 (by decide) ?_
    refine ms_irem C dX10_holds_33 (fun v41 => ?_)
    refine ms_ishr C dX10_holds_34 (fun v42 => ?_)
    refine ms_iconst C (1 : Int32) dX10_holds_35 (by decide) ?_
    refine ms_iand C dX10_holds_36 (fun v43 => ?_)
    refine ms_iconst C (1 : Int32) dX10_holds_37 (by decide) ?_
    refine ms_icmp_ne (tgt := 45) C dX10_holds_38 (by decide) (fun c44 => ?_) (fun c44 => ?_)
    · refine ms_iconst C (0 : Int32) dX10_holds_45 (by decide) ?_
      refine ms_istore (L' := [(5, .int (0 : Int32)), (4, .int (1 : Int32)), (0, .ref (xad X 40 0)), (1, .int a0), (2, .int a1), (3, .int a2)]) C dX10_holds_46 (by decide) rfl ?_
      refine ms_aload_n C dX10_holds_48 2 rfl ?_
      refine ms_getr C dX10_holds_49 (zz40 (G := xg X) Nat.one_pos) (k := 27) (Nat.le_of_ble_eq_true rfl) (b := xad X 68 0) rfl (Cn := RX10) (T := TX10) rfl inX10_X10_holds rfl (by decide +kernel) ?_
      refine ms_iload_n C dX10_holds_52 3 rfl ?_
      refine ms_ld C dX10_holds_53 (zz68 (G := xg X) Nat.one_pos) rfl (fun _ v45 => ?_)
      refine ms_aload_n C dX10_holds_54 2 rfl ?_
      refine ms_getr C dX10_holds_55 (zz40 (G := xg X) Nat.one_pos) (k := 26) (Nat.le_of_ble_eq_true rfl) (b := xad X 67 0) rfl (Cn := RX10) (T := TX10) rfl inX10_X10_holds rfl (by decide +kernel) ?_
      refine ms_iload_n C dX10_holds_58 3 rfl ?_
      refine ms_ld C dX10_holds_59 (zz67 (G := xg X) Nat.one_pos) rfl (fun _ v46 => ?_)
      refine ms_icmp_le (tgt := 95) C dX10_holds_60 (by decide) (fun c47 => ?_) (fun c47 => ?_)
      · refine ms_iload_n C dX10_holds_95 5 rfl ?_
        refine ms_aload_n C dX10_holds_96 2 rfl ?_
        refine ms_getr C dX10_holds_97 (zz40 (G := xg X) Nat.one_pos) (k := 26) (Nat.le_of_ble_eq_true rfl) (b := xad X 67 0) rfl (Cn := RX10) (T := TX10) rfl inX10_X10_holds rfl (by decide +kernel) ?_
        refine ms_iload_n C dX10_holds_100 3 rfl ?_
        refine ms_ld C dX10_holds_101 (zz67 (G := xg X) Nat.one_pos) rfl (fun _ v48 => ?_)
        refine ms_icmp_lt (tgt := 110) C dX10_holds_102 (by decide) (fun c49 => ?_) (fun c49 => ?_)
        · refine ms_iload_n C dX10_holds_110 5 rfl ?_
          refine ms_aload_n C dX10_holds_111 2 rfl ?_
          refine ms_getr C dX10_holds_112 (zz40 (G := xg X) Nat.one_pos) (k := 27) (Nat.le_of_ble_eq_true rfl) (b := xad X 68 0) rfl (Cn := RX10) (T := TX10) rfl inX10_X10_holds rfl (by decide +kernel) ?_
          refine ms_iload_n C dX10_holds_115 3 rfl ?_
          refine ms_ld C dX10_holds_116 (zz68 (G := xg X) Nat.one_pos) rfl (fun _ v50 => ?_)
          refine ms_icmp_ge (tgt := 129) C dX10_holds_117 (by decide) (fun c51 => ?_) (fun c51 => ?_)
          · refine ms_iconst C (0 : Int32) dX10_holds_129 (by decide) ?_
            exact ms_ireti C hR rfl rfl dX10_holds_130
          · refine ms_iload C dX10_holds_120 0 rfl ?_
            refine ms_if_eq (tgt := 129) C dX10_holds_122 (by decide) (fun c52 => ?_) (fun c52 => ?_)
            · refine ms_iconst C (0 : Int32) dX10_holds_129 (by decide) ?_
              exact ms_ireti C hR rfl rfl dX10_holds_130
            · refine ms_iconst C (1 : Int32) dX10_holds_125 (by decide) ?_
              refine ms_goto (tgt := 130) C dX10_holds_126 (by decide) ?_
              exact ms_ireti C hR rfl rfl dX10_holds_130
        · refine ms_iload C dX10_holds_105 1 rfl ?_
          refine ms_goto (tgt := 130) C dX10_holds_107 (by decide) ?_
          exact ms_ireti C hR rfl rfl dX10_holds_130
      · refine ms_iload C dX10_holds_63 1 rfl ?_
        refine ms_if_eq (tgt := 93) C dX10_holds_65 (by decide) (fun c53 => ?_) (fun c53 => ?_)
        · refine ms_iconst C (0 : Int32) dX10_holds_93 (by decide) ?_
          exact ms_ireti C hR rfl rfl dX10_holds_94
        · refine ms_iload_n C dX10_holds_68 5 rfl ?_
          refine ms_aload_n C dX10_holds_69 2 rfl ?_
          refine ms_getr C dX10_holds_70 (zz40 (G := xg X) Nat.one_pos) (k := 26) (Nat.le_of_ble_eq_true rfl) (b := xad X 67 0) rfl (Cn := RX10) (T := TX10) rfl inX10_X10_holds rfl (by decide +kernel) ?_
          refine ms_iload_n C dX10_holds_73 3 rfl ?_
          refine ms_ld C dX10_holds_74 (zz67 (G := xg X) Nat.one_pos) rfl (fun _ v54 => ?_)
          refine ms_aload_n C dX10_holds_75 2 rfl ?_
          refine ms_getr C dX10_holds_76 (zz40 (G := xg X) Nat.one_pos) (k := 27) (Nat.le_of_ble_eq_true rfl) (b := xad X 68 0) rfl (Cn := RX10) (T := TX10) rfl inX10_X10_holds rfl (by decide +kernel) ?_
          refine ms_iload_n C dX10_holds_79 3 rfl ?_
          refine ms_ld C dX10_holds_80 (zz68 (G := xg X) Nat.one_pos) rfl (fun _ v55 => ?_)
          refine ms_iconst C (1 : Int32) dX10_holds_81 (by decide) ?_
          refine ms_isub C dX10_holds_82 (fun v56 => ?_)
          refine ms_callSb (As := [.int a2, .int v54, .int v56]) C dX10_holds_83 (fun _ h => mtX10_in (xl X) (xg X) n M a2 v54 v56 h) (va_cwS 3 C.2.2.1 gX10_holds_X10_in rfl rfl rfl (by decide +kernel) ⟨Nat.le_of_ble_eq_true rfl, Nat.le_of_ble_eq_true rfl⟩) rfl rfl (Nat.le_of_ble_eq_true rfl) (fun _ h => bX10_in h) (fun v57 hv57 => ?_)
          refine ms_if_eq (tgt := 93) C dX10_holds_86 (by decide) (fun c58 => ?_) (fun c58 => ?_)
          · refine ms_iconst C (0 : Int32) dX10_holds_93 (by decide) ?_
            exact ms_ireti C hR rfl rfl dX10_holds_94
          · refine ms_iconst C (1 : Int32) dX10_holds_89 (by decide) ?_
            refine ms_goto (tgt := 94) C dX10_holds_90 (by decide) ?_
            exact ms_ireti C hR rfl rfl dX10_holds_94
    · refine ms_iconst C (1 : Int32) dX10_holds_41 (by decide) ?_
      refine ms_goto (tgt := 46) C dX10_holds_42 (by decide) ?_
      refine ms_istore (L' := [(5, .int (1 : Int32)), (4, .int (1 : Int32)), (0, .ref (xad X 40 0)), (1, .int a0), (2, .int a1), (3, .int a2)]) C dX10_holds_46 (by decide) rfl ?_
      refine ms_aload_n C dX10_holds_48 2 rfl ?_
      refine ms_getr C dX10_holds_49 (zz40 (G := xg X) Nat.one_pos) (k := 27) (Nat.le_of_ble_eq_true rfl) (b := xad X 68 0) rfl (Cn := RX10) (T := TX10) rfl inX10_X10_holds rfl (by decide +kernel) ?_
      refine ms_iload_n C dX10_holds_52 3 rfl ?_
      refine ms_ld C dX10_holds_53 (zz68 (G := xg X) Nat.one_pos) rfl (fun _ v59 => ?_)
      refine ms_aload_n C dX10_holds_54 2 rfl ?_
      refine ms_getr C dX10_holds_55 (zz40 (G := xg X) Nat.one_pos) (k := 26) (Nat.le_of_ble_eq_true rfl) (b := xad X 67 0) rfl (Cn := RX10) (T := TX10) rfl inX10_X10_holds rfl (by decide +kernel) ?_
      refine ms_iload_n C dX10_holds_58 3 rfl ?_
      refine ms_ld C dX10_holds_59 (zz67 (G := xg X) Nat.one_pos) rfl (fun _ v60 => ?_)
      refine ms_icmp_le (tgt := 95) C dX10_holds_60 (by decide) (fun c61 => ?_) (fun c61 => ?_)
      · refine ms_iload_n C dX10_holds_95 5 rfl ?_
        refine ms_aload_n C dX10_holds_96 2 rfl ?_
        refine ms_getr C dX10_holds_97 (zz40 (G := xg X) Nat.one_pos) (k := 26) (Nat.le_of_ble_eq_true rfl) (b := xad X 67 0) rfl (Cn := RX10) (T := TX10) rfl inX10_X10_holds rfl (by decide +kernel) ?_
        refine ms_iload_n C dX10_holds_100 3 rfl ?_
        refine ms_ld C dX10_holds_101 (zz67 (G := xg X) Nat.one_pos) rfl (fun _ v62 => ?_)
        refine ms_icmp_lt (tgt := 110) C dX10_holds_102 (by decide) (fun c63 => ?_) (fun c63 => ?_)
        · refine ms_iload_n C dX10_holds_110 5 rfl ?_
          refine ms_aload_n C dX10_holds_111 2 rfl ?_
          refine ms_getr C dX10_holds_112 (zz40 (G := xg X) Nat.one_pos) (k := 27) (Nat.le_of_ble_eq_true rfl) (b := xad X 68 0) rfl (Cn := RX10) (T := TX10) rfl inX10_X10_holds rfl (by decide +kernel) ?_
          refine ms_iload_n C dX10_holds_115 3 rfl ?_
          refine ms_ld C dX10_holds_116 (zz68 (G := xg X) Nat.one_pos) rfl (fun _ v64 => ?_)
          refine ms_icmp_ge (tgt := 129) C dX10_holds_117 (by decide) (fun c65 => ?_) (fun c65 => ?_)
          · refine ms_iconst C (0 : Int32) dX10_holds_129 (by decide) ?_
            exact ms_ireti C hR rfl rfl dX10_holds_130
          · refine ms_iload C dX10_holds_120 0 rfl ?_
            refine ms_if_eq (tgt := 129) C dX10_holds_122 (by decide) (fun c66 => ?_) (fun c66 => ?_)
            · refine ms_iconst C (0 : Int32) dX10_holds_129 (by decide) ?_
              exact ms_ireti C hR rfl rfl dX10_holds_130
            · refine ms_iconst C (1 : Int32) dX10_holds_125 (by decide) ?_
              refine ms_goto (tgt := 130) C dX10_holds_126 (by decide) ?_
              exact ms_ireti C hR rfl rfl dX10_holds_130
        · refine ms_iload C dX10_holds_105 1 rfl ?_
          refine ms_goto (tgt := 130) C dX10_holds_107 (by decide) ?_
          exact ms_ireti C hR rfl rfl dX10_holds_130
      · refine ms_iload C dX10_holds_63 1 rfl ?_
        refine ms_if_eq (tgt := 93) C dX10_holds_65 (by decide) (fun c67 => ?_) (fun c67 => ?_)
        · refine ms_iconst C (0 : Int32) dX10_holds_93 (by decide) ?_
          exact ms_ireti C hR rfl rfl dX10_holds_94
        · refine ms_iload_n C dX10_holds_68 5 rfl ?_
          refine ms_aload_n C dX10_holds_69 2 rfl ?_
          refine ms_getr C dX10_holds_70 (zz40 (G := xg X) Nat.one_pos) (k := 26) (Nat.le_of_ble_eq_true rfl) (b := xad X 67 0) rfl (Cn := RX10) (T := TX10) rfl inX10_X10_holds rfl (by decide +kernel) ?_
          refine ms_iload_n C dX10_holds_73 3 rfl ?_
          refine ms_ld C dX10_holds_74 (zz67 (G := xg X) Nat.one_pos) rfl (fun _ v68 => ?_)
          refine ms_aload_n C dX10_holds_75 2 rfl ?_
          refine ms_getr C dX10_holds_76 (zz40 (G := xg X) Nat.one_pos) (k := 27) (Nat.le_of_ble_eq_true rfl) (b := xad X 68 0) rfl (Cn := RX10) (T := TX10) rfl inX10_X10_holds rfl (by decide +kernel) ?_
          refine ms_iload_n C dX10_holds_79 3 rfl ?_
          refine ms_ld C dX10_holds_80 (zz68 (G := xg X) Nat.one_pos) rfl (fun _ v69 => ?_)
          refine ms_iconst C (1 : Int32) dX10_holds_81 (by decide) ?_
          refine ms_isub C dX10_holds_82 (fun v70 => ?_)
          refine ms_callSb (As := [.int a2, .int v68, .int v70]) C dX10_holds_83 (fun _ h => mtX10_in (xl X) (xg X) n M a2 v68 v70 h) (va_cwS 3 C.2.2.1 gX10_holds_X10_in rfl rfl rfl (by decide +kernel) ⟨Nat.le_of_ble_eq_true rfl, Nat.le_of_ble_eq_true rfl⟩) rfl rfl (Nat.le_of_ble_eq_true rfl) (fun _ h => bX10_in h) (fun v71 hv71 => ?_)
          refine ms_if_eq (tgt := 93) C dX10_holds_86 (by decide) (fun c72 => ?_) (fun c72 => ?_)
          · refine ms_iconst C (0 : Int32) dX10_holds_93 (by decide) ?_
            exact ms_ireti C hR rfl rfl dX10_holds_94
          · refine ms_iconst C (1 : Int32) dX10_holds_89 (by decide) ?_
            refine ms_goto (tgt := 94) C dX10_holds_90 (by decide) ?_
            exact ms_ireti C hR rfl rfl dX10_holds_94
