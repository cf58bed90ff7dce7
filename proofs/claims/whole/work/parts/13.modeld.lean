def rmX10_buy : Room := { frames := 1, cells := 0, slots := 0, locals := 22 }
theorem inX10_X10_buy : ∀ w ∈ wsX100, w ∈ wsX10_buy := by decide +kernel
set_option maxRecDepth 100000 in
set_option maxHeartbeats 4000000 in
theorem mtX10_buy_L279 {X : mh_X} {n : Nat} {z : mh_M × Int32} (M : mh_M) (x2 : Int32) (x4 : Int32) (x6 : Int32) (C : mh_C X rmX10_buy cX10_buy wsX10_buy RX10 7) (hR : mh_R X (some .int) z.1 (some (.int z.2))) (k259 : Int32 → Int32 → Int32 → Option (mh_M × Int32)) (hk259 : ∀ (x4 : Int32) (x5 : Int32) (x6 : Int32), mh_W X rmX10_buy 7 (k259 x4 x5 x6) z M 259 [(0, .ref (xad X 40 0)), (2, .int x2), (4, .int x4), (5, .int x5), (6, .int x6)] []) : ∀ (k : Nat) (x5 : Int32), mh_W X rmX10_buy 7 (itr1 (fX10_buy_L279 n M x2 x4 x6 k259) k x5) z M 279 [(0, .ref (xad X 40 0)), (2, .int x2), (4, .int x4), (5, .int x5), (6, .int x6)] [] := by
  intro k
  induction k with
  | zero =>
    intro x5
    exact ms_none
  | succ k ih =>
    intro x5
    show mh_W X rmX10_buy 7 (fX10_buy_L279 n M x2 x4 x6 k259 (itr1 (fX10_buy_L279 n M x2 x4 x6 k259) k) x5) z M 279 [(0, .ref (xad X 40 0)), (2, .int x2), (4, .int x4), (5, .int x5), (6, .int x6)] []
    generalize itr1 (fX10_buy_L279 n M x2 x4 x6 k259) k = rec at ih ⊢
    unfold fX10_buy_L279
    refine ms_aload_n C dX10_buy_279 0 rfl ?_
    refine ms_getr C dX10_buy_280 (zz40 (G := xg X) Nat.one_pos) (k := 33) (Nat.le_of_ble_eq_true rfl) (b := xad X 74 0) rfl (Cn := RX10) (T := TX10) rfl inX10_X10_buy rfl (by decide +kernel) ?_
    refine ms_sipush C (150 : Int32) dX10_buy_283 (by decide) ?_
    refine ms_iload C dX10_buy_286 4 rfl ?_
    refine ms_imul C dX10_buy_288 (fun v17 => ?_)
    refine ms_sipush C (150 : Int32) dX10_buy_289 (by decide) ?_
    refine ms_iadd C dX10_buy_292 (fun v18 => ?_)
    refine ms_iload C dX10_buy_293 2 rfl ?_
    refine ms_iadd C dX10_buy_295 (fun v19 => ?_)
    refine ms_iload C dX10_buy_296 3 rfl ?_
    refine ms_aload_n C dX10_buy_298 0 rfl ?_
    refine ms_getr C dX10_buy_299 (zz40 (G := xg X) Nat.one_pos) (k := 31) (Nat.le_of_ble_eq_true rfl) (b := xad X 72 0) rfl (Cn := RX10) (T := TX10) rfl inX10_X10_buy rfl (by decide +kernel) ?_
    refine ms_iload C dX10_buy_302 4 rfl ?_
    refine ms_ld C dX10_buy_304 (zz72 (G := xg X) Nat.one_pos) rfl (fun _ v20 => ?_)
    refine ms_imul C dX10_buy_305 (fun v21 => ?_)
    refine ms_isub C dX10_buy_306 (fun v22 => ?_)
    refine ms_ld C dX10_buy_307 (zz74 (G := xg X) Nat.one_pos) rfl (fun _ v23 => ?_)
    refine ms_iload C dX10_buy_308 3 rfl ?_
    refine ms_aload_n C dX10_buy_310 0 rfl ?_
    refine ms_getr C dX10_buy_311 (zz40 (G := xg X) Nat.one_pos) (k := 32) (Nat.le_of_ble_eq_true rfl) (b := xad X 73 0) rfl (Cn := RX10) (T := TX10) rfl inX10_X10_buy rfl (by decide +kernel) ?_
    refine ms_iload C dX10_buy_314 4 rfl ?_
    refine ms_ld C dX10_buy_316 (zz73 (G := xg X) Nat.one_pos) rfl (fun _ v24 => ?_)
    refine ms_imul C dX10_buy_317 (fun v25 => ?_)
    refine ms_iadd C dX10_buy_318 (fun v26 => ?_)
    refine ms_aload_n C dX10_buy_319 0 rfl ?_
    refine ms_getr C dX10_buy_320 (zz40 (G := xg X) Nat.one_pos) (k := 33) (Nat.le_of_ble_eq_true rfl) (b := xad X 74 0) rfl (Cn := RX10) (T := TX10) rfl inX10_X10_buy rfl (by decide +kernel) ?_
    refine ms_sipush C (150 : Int32) dX10_buy_323 (by decide) ?_
    refine ms_iload C dX10_buy_326 4 rfl ?_
    refine ms_imul C dX10_buy_328 (fun v27 => ?_)
    refine ms_iload C dX10_buy_329 2 rfl ?_
    refine ms_iadd C dX10_buy_331 (fun v28 => ?_)
    refine ms_ld C dX10_buy_332 (zz74 (G := xg X) Nat.one_pos) rfl (fun _ v29 => ?_)
    refine ms_icmp_eq (tgt := 342) C dX10_buy_333 (by decide) (fun c30 => ?_) (fun c30 => ?_)
    · refine ms_iload C dX10_buy_342 2 rfl ?_
      refine ms_iload C dX10_buy_344 3 rfl ?_
      refine ms_aload_n C dX10_buy_346 0 rfl ?_
      refine ms_getr C dX10_buy_347 (zz40 (G := xg X) Nat.one_pos) (k := 31) (Nat.le_of_ble_eq_true rfl) (b := xad X 72 0) rfl (Cn := RX10) (T := TX10) rfl inX10_X10_buy rfl (by decide +kernel) ?_
      refine ms_iload C dX10_buy_350 4 rfl ?_
      refine ms_ld C dX10_buy_352 (zz72 (G := xg X) Nat.one_pos) rfl (fun _ v31 => ?_)
      refine ms_imul C dX10_buy_353 (fun v32 => ?_)
      refine ms_isub C dX10_buy_354 (fun v33 => ?_)
      refine ms_istore (L' := [(4, .int v33), (0, .ref (xad X 40 0)), (2, .int x2), (5, .int x5), (6, .int x6)]) C dX10_buy_355 (by decide) rfl ?_
      refine ms_iinc (L' := fun v34 => [(6, .int v34), (4, .int v33), (0, .ref (xad X 40 0)), (2, .int x2), (5, .int x5)]) C dX10_buy_357 4 rfl (c := 1) (by decide) (by decide) (fun _ => rfl) (fun v34 => ?_)
      refine ms_goto (tgt := 259) C dX10_buy_360 (by decide) ?_
      exact ms_sub [2, 3, 1, 4, 0] rfl (hk259 v33 x5 v34)
    · refine ms_iinc (L' := fun v35 => [(5, .int v35), (0, .ref (xad X 40 0)), (2, .int x2), (4, .int x4), (6, .int x6)]) C dX10_buy_336 3 rfl (c := -1) (by decide) (by decide) (fun _ => rfl) (fun v35 => ?_)
      refine ms_goto (tgt := 279) C dX10_buy_339 (by decide) ?_
      exact ms_sub [1, 2, 3, 0, 4] rfl (ih v35)
set_option maxRecDepth 100000 in
set_option maxHeartbeats 4000000 in
theorem mtX10_buy_L259 {X : mh_X} {n : Nat} {z : mh_M × Int32} (M : mh_M) (x2 : Int32) (C : mh_C X rmX10_buy cX10_buy wsX10_buy RX10 7) (hR : mh_R X (some .int) z.1 (some (.int z.2))) : ∀ (k : Nat) (x4 : Int32) (x5 : Int32) (x6 : Int32), mh_W X rmX10_buy 7 (itr3 (fX10_buy_L259 n M x2) k x4 x5 x6) z M 259 [(0, .ref (xad X 40 0)), (2, .int x2), (4, .int x4), (5, .int x5), (6, .int x6)] [] := by
  intro k
  induction k with
  | zero =>
    intro x4 x5 x6
    exact ms_none
  | succ k ih =>
    intro x4 x5 x6
    show mh_W X rmX10_buy 7 (fX10_buy_L259 n M x2 (itr3 (fX10_buy_L259 n M x2) k) x4 x5 x6) z M 259 [(0, .ref (xad X 40 0)), (2, .int x2), (4, .int x4), (5, .int x5), (6, .int x6)] []
    generalize itr3 (fX10_buy_L259 n M x2) k = rec at ih ⊢
    unfold fX10_buy_L259
    refine ms_iload C dX10_buy_259 4 rfl ?_
    refine ms_iload_n C dX10_buy_261 1 rfl ?_
    refine ms_iconst C (2 : Int32) dX10_buy_262 (by decide) ?_
    refine ms_isub C dX10_buy_263 (fun v13 => ?_)
    refine ms_icmp_gt (tgt := 363) C dX10_buy_264 (by decide) (fun c14 => ?_) (fun c14 => ?_)
    · refine ms_iload C dX10_buy_363 3 rfl ?_
      exact ms_iretm C hR rfl dX10_buy_365
    · refine ms_iload C dX10_buy_267 2 rfl ?_
      refine ms_aload_n C dX10_buy_269 0 rfl ?_
      refine ms_getr C dX10_buy_270 (zz40 (G := xg X) Nat.one_pos) (k := 31) (Nat.le_of_ble_eq_true rfl) (b := xad X 72 0) rfl (Cn := RX10) (T := TX10) rfl inX10_X10_buy rfl (by decide +kernel) ?_
      refine ms_iload C dX10_buy_273 4 rfl ?_
      refine ms_ld C dX10_buy_275 (zz72 (G := xg X) Nat.one_pos) rfl (fun _ v15 => ?_)
      refine ms_idiv C dX10_buy_276 (fun v16 => ?_)
      refine ms_istore (L' := [(5, .int v16), (0, .ref (xad X 40 0)), (2, .int x2), (4, .int x4), (6, .int x6)]) C dX10_buy_277 (by decide) rfl ?_
      exact ms_sub [1, 2, 3, 0, 4] rfl (mtX10_buy_L279 (n := n) M x2 x4 x6 C hR rec ih n v16)
set_option maxRecDepth 100000 in
set_option maxHeartbeats 4000000 in
theorem mtX10_buy_L193 {X : mh_X} {n : Nat} {z : mh_M × Int32} (M : mh_M) (x2 : Int32) (C : mh_C X rmX10_buy cX10_buy wsX10_buy RX10 7) (hR : mh_R X (some .int) z.1 (some (.int z.2))) : ∀ (k : Nat) (x3 : Int32) (x4 : Int32), mh_W X rmX10_buy 7 (itr2 (fX10_buy_L193 n M x2) k x3 x4) z M 193 [(0, .ref (xad X 40 0)), (2, .int x2), (3, .int x3), (4, .int x4)] [] := by
  intro k
  induction k with
  | zero =>
    intro x3 x4
    exact ms_none
  | succ k ih =>
    intro x3 x4
    show mh_W X rmX10_buy 7 (fX10_buy_L193 n M x2 (itr2 (fX10_buy_L193 n M x2) k) x3 x4) z M 193 [(0, .ref (xad X 40 0)), (2, .int x2), (3, .int x3), (4, .int x4)] []
    generalize itr2 (fX10_buy_L193 n M x2) k = rec at ih ⊢
    unfold fX10_buy_L193
    refine ms_iload C dX10_buy_193 3 rfl ?_
    refine ms_sipush C (150 : Int32) dX10_buy_195 (by decide) ?_
    refine ms_icmp_ge (tgt := 230) C dX10_buy_198 (by decide) (fun c11 => ?_) (fun c11 => ?_)
    · refine ms_iload_n C dX10_buy_230 1 rfl ?_
      refine ms_iconst C (2 : Int32) dX10_buy_231 (by decide) ?_
      refine ms_icmp_ge (tgt := 250) C dX10_buy_232 (by decide) (fun c12 => ?_) (fun c12 => ?_)
      · refine ms_iload_n C dX10_buy_250 2 rfl ?_
        refine ms_istore (L' := [(4, .int x3), (0, .ref (xad X 40 0)), (2, .int x2), (3, .int x3)]) C dX10_buy_251 (by decide) rfl ?_
        refine ms_iconst C (0 : Int32) dX10_buy_253 (by decide) ?_
        refine ms_istore (L' := [(5, .int (0 : Int32)), (4, .int x3), (0, .ref (xad X 40 0)), (2, .int x2), (3, .int x3)]) C dX10_buy_254 (by decide) rfl ?_
        refine ms_iconst C (0 : Int32) dX10_buy_256 (by decide) ?_
        refine ms_istore (L' := [(6, .int (0 : Int32)), (5, .int (0 : Int32)), (4, .int x3), (0, .ref (xad X 40 0)), (2, .int x2), (3, .int x3)]) C dX10_buy_257 (by decide) rfl ?_
        exact ms_sub [3, 4, 2, 1, 0] rfl (mtX10_buy_L259 (n := n) M x2 C hR n x3 (0 : Int32) (0 : Int32))
      · refine ms_iload_n C dX10_buy_235 1 rfl ?_
        refine ms_if_ne (tgt := 248) C dX10_buy_236 (by decide) (fun c36 => ?_) (fun c36 => ?_)
        · refine ms_iload_n C dX10_buy_248 2 rfl ?_
          exact ms_iretm C hR rfl dX10_buy_249
        · refine ms_aload_n C dX10_buy_239 0 rfl ?_
          refine ms_getr C dX10_buy_240 (zz40 (G := xg X) Nat.one_pos) (k := 33) (Nat.le_of_ble_eq_true rfl) (b := xad X 74 0) rfl (Cn := RX10) (T := TX10) rfl inX10_X10_buy rfl (by decide +kernel) ?_
          refine ms_iload_n C dX10_buy_243 2 rfl ?_
          refine ms_ld C dX10_buy_244 (zz74 (G := xg X) Nat.one_pos) rfl (fun _ v37 => ?_)
          refine ms_goto (tgt := 249) C dX10_buy_245 (by decide) ?_
          exact ms_iretm C hR rfl dX10_buy_249
    · refine ms_aload_n C dX10_buy_201 0 rfl ?_
      refine ms_getr C dX10_buy_202 (zz40 (G := xg X) Nat.one_pos) (k := 33) (Nat.le_of_ble_eq_true rfl) (b := xad X 74 0) rfl (Cn := RX10) (T := TX10) rfl inX10_X10_buy rfl (by decide +kernel) ?_
      refine ms_iload C dX10_buy_205 3 rfl ?_
      refine ms_ld C dX10_buy_207 (zz74 (G := xg X) Nat.one_pos) rfl (fun _ v38 => ?_)
      refine ms_aload_n C dX10_buy_208 0 rfl ?_
      refine ms_getr C dX10_buy_209 (zz40 (G := xg X) Nat.one_pos) (k := 33) (Nat.le_of_ble_eq_true rfl) (b := xad X 74 0) rfl (Cn := RX10) (T := TX10) rfl inX10_X10_buy rfl (by decide +kernel) ?_
      refine ms_iload_n C dX10_buy_212 2 rfl ?_
      refine ms_ld C dX10_buy_213 (zz74 (G := xg X) Nat.one_pos) rfl (fun _ v39 => ?_)
      refine ms_icmp_ge (tgt := 222) C dX10_buy_214 (by decide) (fun c40 => ?_) (fun c40 => ?_)
      · refine ms_iload_n C dX10_buy_222 2 rfl ?_
        refine ms_istore_n (L' := [(3, .int x3), (0, .ref (xad X 40 0)), (2, .int x2), (4, .int x4)]) C dX10_buy_223 rfl (by decide) rfl ?_
        refine ms_iinc (L' := fun v41 => [(4, .int v41), (3, .int x3), (0, .ref (xad X 40 0)), (2, .int x2)]) C dX10_buy_224 3 rfl (c := 1) (by decide) (by decide) (fun _ => rfl) (fun v41 => ?_)
        refine ms_goto (tgt := 193) C dX10_buy_227 (by decide) ?_
        exact ms_sub [2, 3, 1, 0] rfl (ih x3 v41)
      · refine ms_iload C dX10_buy_217 3 rfl ?_
        refine ms_goto (tgt := 223) C dX10_buy_219 (by decide) ?_
        refine ms_istore_n (L' := [(3, .int x4), (0, .ref (xad X 40 0)), (2, .int x2), (4, .int x4)]) C dX10_buy_223 rfl (by decide) rfl ?_
        refine ms_iinc (L' := fun v42 => [(4, .int v42), (3, .int x4), (0, .ref (xad X 40 0)), (2, .int x2)]) C dX10_buy_224 3 rfl (c := 1) (by decide) (by decide) (fun _ => rfl) (fun v42 => ?_)
        refine ms_goto (tgt := 193) C dX10_buy_227 (by decide) ?_
        exact ms_sub [2, 3, 1, 0] rfl (ih x4 v42)
set_option maxRecDepth 100000 in
set_option maxHeartbeats 4000000 in
theorem mtX10_buy_L48 {X : mh_X} {n : Nat} {z : mh_M × Int32} (x1 : Int32) (x2 : Int32) (x3 : Int32) (C : mh_C X rmX10_buy cX10_buy wsX10_buy RX10 7) (hR : mh_R X (some .int) z.1 (some (.int z.2))) (k41 : mh_M → Int32 → Option (mh_M × Int32)) (hk41 : ∀ (M : mh_M) (x3 : Int32), mh_W X rmX10_buy 7 (k41 M x3) z M 41 [(0, .ref (xad X 40 0)), (1, .int x1), (2, .int x2), (3, .int x3)] []) : ∀ (k : Nat) (M : mh_M) (x4 : Int32), mh_W X rmX10_buy 7 (itr2 (fX10_buy_L48 n x1 x2 x3 k41) k M x4) z M 48 [(0, .ref (xad X 40 0)), (1, .int x1), (2, .int x2), (3, .int x3), (4, .int x4)] [] := by
  intro k
  induction k with
  | zero =>
    intro M x4
    exact ms_none
  | succ k ih =>
    intro M x4
    show mh_W X rmX10_buy 7 (fX10_buy_L48 n x1 x2 x3 k41 (itr2 (fX10_buy_L48 n x1 x2 x3 k41) k) M x4) z M 48 [(0, .ref (xad X 40 0)), (1, .int x1), (2, .int x2), (3, .int x3), (4, .int x4)] []
    generalize itr2 (fX10_buy_L48 n x1 x2 x3 k41) k = rec at ih ⊢
    unfold fX10_buy_L48
    refine ms_iload C dX10_buy_48 4 rfl ?_
    refine ms_sipush C (150 : Int32) dX10_buy_50 (by decide) ?_
    refine ms_icmp_ge (tgt := 182) C dX10_buy_53 (by decide) (fun c43 => ?_) (fun c43 => ?_)
    · refine ms_iinc (L' := fun v44 => [(3, .int v44), (0, .ref (xad X 40 0)), (1, .int x1), (2, .int x2), (4, .int x4)]) C dX10_buy_182 3 rfl (c := -1) (by decide) (by decide) (fun _ => rfl) (fun v44 => ?_)
      refine ms_goto (tgt := 41) C dX10_buy_185 (by decide) ?_
      exact ms_sub [1, 2, 3, 0] rfl (hk41 M v44)
    · refine ms_iload_n C dX10_buy_56 3 rfl ?_
      refine ms_aload_n C dX10_buy_57 0 rfl ?_
      refine ms_geti C dX10_buy_58 (zz40 (G := xg X) Nat.one_pos) (k := 30) (Nat.le_of_ble_eq_true rfl) rfl (Cn := RX10) (T := TX10) rfl inX10_X10_buy rfl (by decide +kernel) (fun v45 => ?_)
      refine ms_icmp_ne (tgt := 78) C dX10_buy_61 (by decide) (fun c46 => ?_) (fun c46 => ?_)
      · refine ms_aload_n C dX10_buy_78 0 rfl ?_
        refine ms_getr C dX10_buy_79 (zz40 (G := xg X) Nat.one_pos) (k := 33) (Nat.le_of_ble_eq_true rfl) (b := xad X 74 0) rfl (Cn := RX10) (T := TX10) rfl inX10_X10_buy rfl (by decide +kernel) ?_
        refine ms_sipush C (150 : Int32) dX10_buy_82 (by decide) ?_
        refine ms_iload_n C dX10_buy_85 3 rfl ?_
        refine ms_imul C dX10_buy_86 (fun v47 => ?_)
        refine ms_sipush C (150 : Int32) dX10_buy_87 (by decide) ?_
        refine ms_iadd C dX10_buy_90 (fun v48 => ?_)
        refine ms_iload C dX10_buy_91 4 rfl ?_
        refine ms_iadd C dX10_buy_93 (fun v49 => ?_)
        refine ms_ld C dX10_buy_94 (zz74 (G := xg X) Nat.one_pos) rfl (fun _ v50 => ?_)
        refine ms_istore (L' := [(5, .int v50), (0, .ref (xad X 40 0)), (1, .int x1), (2, .int x2), (3, .int x3), (4, .int x4)]) C dX10_buy_95 (by decide) rfl ?_
        refine ms_iload_n C dX10_buy_97 4 rfl ?_
        refine ms_aload_n C dX10_buy_98 1 rfl ?_
        refine ms_geti C dX10_buy_99 (zz40 (G := xg X) Nat.one_pos) (k := 30) (Nat.le_of_ble_eq_true rfl) rfl (Cn := RX10) (T := TX10) rfl inX10_X10_buy rfl (by decide +kernel) (fun v51 => ?_)
        refine ms_icmp_ge (tgt := 161) C dX10_buy_102 (by decide) (fun c52 => ?_) (fun c52 => ?_)
        · refine ms_aload_n C dX10_buy_161 1 rfl ?_
          refine ms_getr C dX10_buy_162 (zz40 (G := xg X) Nat.one_pos) (k := 33) (Nat.le_of_ble_eq_true rfl) (b := xad X 74 0) rfl (Cn := RX10) (T := TX10) rfl inX10_X10_buy rfl (by decide +kernel) ?_
          refine ms_sipush C (150 : Int32) dX10_buy_165 (by decide) ?_
          refine ms_iload_n C dX10_buy_168 4 rfl ?_
          refine ms_imul C dX10_buy_169 (fun v53 => ?_)
          refine ms_iload C dX10_buy_170 5 rfl ?_
          refine ms_iadd C dX10_buy_172 (fun v54 => ?_)
          refine ms_iload C dX10_buy_173 0 rfl ?_
          refine ms_st C dX10_buy_175 (zz74 (G := xg X) Nat.one_pos) rfl (fun _ M55 => ?_)
          refine ms_iinc (L' := fun v56 => [(4, .int v56), (5, .int v50), (0, .ref (xad X 40 0)), (1, .int x1), (2, .int x2), (3, .int x3)]) C dX10_buy_176 5 rfl (c := 1) (by decide) (by decide) (fun _ => rfl) (fun v56 => ?_)
          refine ms_goto (tgt := 48) C dX10_buy_179 (by decide) ?_
          exact ms_sub [2, 3, 4, 5, 0] rfl (ih M55 v56)
        · refine ms_iload C dX10_buy_105 5 rfl ?_
          refine ms_aload_n C dX10_buy_107 1 rfl ?_
          refine ms_getr C dX10_buy_108 (zz40 (G := xg X) Nat.one_pos) (k := 31) (Nat.le_of_ble_eq_true rfl) (b := xad X 72 0) rfl (Cn := RX10) (T := TX10) rfl inX10_X10_buy rfl (by decide +kernel) ?_
          refine ms_iload_n C dX10_buy_111 4 rfl ?_
          refine ms_ld C dX10_buy_112 (zz72 (G := xg X) Nat.one_pos) rfl (fun _ v57 => ?_)
          refine ms_icmp_lt (tgt := 161) C dX10_buy_113 (by decide) (fun c58 => ?_) (fun c58 => ?_)
          · refine ms_aload_n C dX10_buy_161 1 rfl ?_
            refine ms_getr C dX10_buy_162 (zz40 (G := xg X) Nat.one_pos) (k := 33) (Nat.le_of_ble_eq_true rfl) (b := xad X 74 0) rfl (Cn := RX10) (T := TX10) rfl inX10_X10_buy rfl (by decide +kernel) ?_
            refine ms_sipush C (150 : Int32) dX10_buy_165 (by decide) ?_
            refine ms_iload_n C dX10_buy_168 4 rfl ?_
            refine ms_imul C dX10_buy_169 (fun v59 => ?_)
            refine ms_iload C dX10_buy_170 5 rfl ?_
            refine ms_iadd C dX10_buy_172 (fun v60 => ?_)
            refine ms_iload C dX10_buy_173 0 rfl ?_
            refine ms_st C dX10_buy_175 (zz74 (G := xg X) Nat.one_pos) rfl (fun _ M61 => ?_)
            refine ms_iinc (L' := fun v62 => [(4, .int v62), (5, .int v50), (0, .ref (xad X 40 0)), (1, .int x1), (2, .int x2), (3, .int x3)]) C dX10_buy_176 5 rfl (c := 1) (by decide) (by decide) (fun _ => rfl) (fun v62 => ?_)
            refine ms_goto (tgt := 48) C dX10_buy_179 (by decide) ?_
            exact ms_sub [2, 3, 4, 5, 0] rfl (ih M61 v62)
          · refine ms_aload_n C dX10_buy_116 1 rfl ?_
            refine ms_getr C dX10_buy_117 (zz40 (G := xg X) Nat.one_pos) (k := 33) (Nat.le_of_ble_eq_true rfl) (b := xad X 74 0) rfl (Cn := RX10) (T := TX10) rfl inX10_X10_buy rfl (by decide +kernel) ?_
            refine ms_sipush C (150 : Int32) dX10_buy_120 (by decide) ?_
            refine ms_iload_n C dX10_buy_123 4 rfl ?_
            refine ms_imul C dX10_buy_124 (fun v63 => ?_)
            refine ms_iload C dX10_buy_125 5 rfl ?_
            refine ms_iadd C dX10_buy_127 (fun v64 => ?_)
            refine ms_aload_n C dX10_buy_128 1 rfl ?_
            refine ms_getr C dX10_buy_129 (zz40 (G := xg X) Nat.one_pos) (k := 31) (Nat.le_of_ble_eq_true rfl) (b := xad X 72 0) rfl (Cn := RX10) (T := TX10) rfl inX10_X10_buy rfl (by decide +kernel) ?_
            refine ms_iload_n C dX10_buy_132 4 rfl ?_
            refine ms_ld C dX10_buy_133 (zz72 (G := xg X) Nat.one_pos) rfl (fun _ v65 => ?_)
            refine ms_isub C dX10_buy_134 (fun v66 => ?_)
            refine ms_ld C dX10_buy_135 (zz74 (G := xg X) Nat.one_pos) rfl (fun _ v67 => ?_)
            refine ms_aload_n C dX10_buy_136 1 rfl ?_
            refine ms_getr C dX10_buy_137 (zz40 (G := xg X) Nat.one_pos) (k := 32) (Nat.le_of_ble_eq_true rfl) (b := xad X 73 0) rfl (Cn := RX10) (T := TX10) rfl inX10_X10_buy rfl (by decide +kernel) ?_
            refine ms_iload_n C dX10_buy_140 4 rfl ?_
            refine ms_ld C dX10_buy_141 (zz73 (G := xg X) Nat.one_pos) rfl (fun _ v68 => ?_)
            refine ms_iadd C dX10_buy_142 (fun v69 => ?_)
            refine ms_istore (L' := [(6, .int v69), (5, .int v50), (0, .ref (xad X 40 0)), (1, .int x1), (2, .int x2), (3, .int x3), (4, .int x4)]) C dX10_buy_143 (by decide) rfl ?_
            refine ms_iload C dX10_buy_145 0 rfl ?_
            refine ms_iload C dX10_buy_147 1 rfl ?_
            refine ms_icmp_ge (tgt := 157) C dX10_buy_149 (by decide) (fun c70 => ?_) (fun c70 => ?_)
            · refine ms_iload C dX10_buy_157 1 rfl ?_
              refine ms_istore (L' := [(5, .int v50), (6, .int v69), (0, .ref (xad X 40 0)), (1, .int x1), (2, .int x2), (3, .int x3), (4, .int x4)]) C dX10_buy_159 (by decide) rfl ?_
              refine ms_aload_n C dX10_buy_161 2 rfl ?_
              refine ms_getr C dX10_buy_162 (zz40 (G := xg X) Nat.one_pos) (k := 33) (Nat.le_of_ble_eq_true rfl) (b := xad X 74 0) rfl (Cn := RX10) (T := TX10) rfl inX10_X10_buy rfl (by decide +kernel) ?_
              refine ms_sipush C (150 : Int32) dX10_buy_165 (by decide) ?_
              refine ms_iload_n C dX10_buy_168 5 rfl ?_
              refine ms_imul C dX10_buy_169 (fun v71 => ?_)
              refine ms_iload C dX10_buy_170 6 rfl ?_
              refine ms_iadd C dX10_buy_172 (fun v72 => ?_)
              refine ms_iload C dX10_buy_173 0 rfl ?_
              refine ms_st C dX10_buy_175 (zz74 (G := xg X) Nat.one_pos) rfl (fun _ M73 => ?_)
              refine ms_iinc (L' := fun v74 => [(4, .int v74), (5, .int v50), (6, .int v69), (0, .ref (xad X 40 0)), (1, .int x1), (2, .int x2), (3, .int x3)]) C dX10_buy_176 6 rfl (c := 1) (by decide) (by decide) (fun _ => rfl) (fun v74 => ?_)
              refine ms_goto (tgt := 48) C dX10_buy_179 (by decide) ?_
              exact ms_sub [3, 4, 5, 6, 0] rfl (ih M73 v74)
            · refine ms_iload C dX10_buy_152 0 rfl ?_
              refine ms_goto (tgt := 159) C dX10_buy_154 (by decide) ?_
              refine ms_istore (L' := [(5, .int v69), (6, .int v69), (0, .ref (xad X 40 0)), (1, .int x1), (2, .int x2), (3, .int x3), (4, .int x4)]) C dX10_buy_159 (by decide) rfl ?_
              refine ms_aload_n C dX10_buy_161 2 rfl ?_
              refine ms_getr C dX10_buy_162 (zz40 (G := xg X) Nat.one_pos) (k := 33) (Nat.le_of_ble_eq_true rfl) (b := xad X 74 0) rfl (Cn := RX10) (T := TX10) rfl inX10_X10_buy rfl (by decide +kernel) ?_
              refine ms_sipush C (150 : Int32) dX10_buy_165 (by decide) ?_
              refine ms_iload_n C dX10_buy_168 5 rfl ?_
              refine ms_imul C dX10_buy_169 (fun v75 => ?_)
              refine ms_iload C dX10_buy_170 6 rfl ?_
              refine ms_iadd C dX10_buy_172 (fun v76 => ?_)
              refine ms_iload C dX10_buy_173 0 rfl ?_
              refine ms_st C dX10_buy_175 (zz74 (G := xg X) Nat.one_pos) rfl (fun _ M77 => ?_)
              refine ms_iinc (L' := fun v78 => [(4, .int v78), (5, .int v69), (6, .int v69), (0, .ref (xad X 40 0)), (1, .int x1), (2, .int x2), (3, .int x3)]) C dX10_buy_176 6 rfl (c := 1) (by decide) (by decide) (fun _ => rfl) (fun v78 => ?_)
              refine ms_goto (tgt := 48) C dX10_buy_179 (by decide) ?_
              exact ms_sub [3, 4, 5, 6, 0] rfl (ih M77 v78)
      · refine ms_iload C dX10_buy_64 4 rfl ?_
        refine ms_if_ne (tgt := 73) C dX10_buy_66 (by decide) (fun c79 => ?_) (fun c79 => ?_)
        · refine ms_ldc C (100000000 : Int32) dX10_buy_73 (by decide +kernel) ?_
          refine ms_goto (tgt := 95) C dX10_buy_75 (by decide) ?_
          refine ms_istore (L' := [(5, .int (100000000 : Int32)), (0, .ref (xad X 40 0)), (1, .int x1), (2, .int x2), (3, .int x3), (4, .int x4)]) C dX10_buy_95 (by decide) rfl ?_
          refine ms_iload_n C dX10_buy_97 4 rfl ?_
          refine ms_aload_n C dX10_buy_98 1 rfl ?_
          refine ms_geti C dX10_buy_99 (zz40 (G := xg X) Nat.one_pos) (k := 30) (Nat.le_of_ble_eq_true rfl) rfl (Cn := RX10) (T := TX10) rfl inX10_X10_buy rfl (by decide +kernel) (fun v80 => ?_)
          refine ms_icmp_ge (tgt := 161) C dX10_buy_102 (by decide) (fun c81 => ?_) (fun c81 => ?_)
          · refine ms_aload_n C dX10_buy_161 1 rfl ?_
            refine ms_getr C dX10_buy_162 (zz40 (G := xg X) Nat.one_pos) (k := 33) (Nat.le_of_ble_eq_true rfl) (b := xad X 74 0) rfl (Cn := RX10) (T := TX10) rfl inX10_X10_buy rfl (by decide +kernel) ?_
            refine ms_sipush C (150 : Int32) dX10_buy_165 (by decide) ?_
            refine ms_iload_n C dX10_buy_168 4 rfl ?_
            refine ms_imul C dX10_buy_169 (fun v82 => ?_)
            refine ms_iload C dX10_buy_170 5 rfl ?_
            refine ms_iadd C dX10_buy_172 (fun v83 => ?_)
            refine ms_iload C dX10_buy_173 0 rfl ?_
            refine ms_st C dX10_buy_175 (zz74 (G := xg X) Nat.one_pos) rfl (fun _ M84 => ?_)
            refine ms_iinc (L' := fun v85 => [(4, .int v85), (5, .int (100000000 : Int32)), (0, .ref (xad X 40 0)), (1, .int x1), (2, .int x2), (3, .int x3)]) C dX10_buy_176 5 rfl (c := 1) (by decide) (by decide) (fun _ => rfl) (fun v85 => ?_)
            refine ms_goto (tgt := 48) C dX10_buy_179 (by decide) ?_
            exact ms_sub [2, 3, 4, 5, 0] rfl (ih M84 v85)
          · refine ms_iload C dX10_buy_105 5 rfl ?_
            refine ms_aload_n C dX10_buy_107 1 rfl ?_
            refine ms_getr C dX10_buy_108 (zz40 (G := xg X) Nat.one_pos) (k := 31) (Nat.le_of_ble_eq_true rfl) (b := xad X 72 0) rfl (Cn := RX10) (T := TX10) rfl inX10_X10_buy rfl (by decide +kernel) ?_
            refine ms_iload_n C dX10_buy_111 4 rfl ?_
            refine ms_ld C dX10_buy_112 (zz72 (G := xg X) Nat.one_pos) rfl (fun _ v86 => ?_)
            refine ms_icmp_lt (tgt := 161) C dX10_buy_113 (by decide) (fun c87 => ?_) (fun c87 => ?_)
            · refine ms_aload_n C dX10_buy_161 1 rfl ?_
              refine ms_getr C dX10_buy_162 (zz40 (G := xg X) Nat.one_pos) (k := 33) (Nat.le_of_ble_eq_true rfl) (b := xad X 74 0) rfl (Cn := RX10) (T := TX10) rfl inX10_X10_buy rfl (by decide +kernel) ?_
              refine ms_sipush C (150 : Int32) dX10_buy_165 (by decide) ?_
              refine ms_iload_n C dX10_buy_168 4 rfl ?_
              refine ms_imul C dX10_buy_169 (fun v88 => ?_)
              refine ms_iload C dX10_buy_170 5 rfl ?_
              refine ms_iadd C dX10_buy_172 (fun v89 => ?_)
              refine ms_iload C dX10_buy_173 0 rfl ?_
              refine ms_st C dX10_buy_175 (zz74 (G := xg X) Nat.one_pos) rfl (fun _ M90 => ?_)
              refine ms_iinc (L' := fun v91 => [(4, .int v91), (5, .int (100000000 : Int32)), (0, .ref (xad X 40 0)), (1, .int x1), (2, .int x2), (3, .int x3)]) C dX10_buy_176 5 rfl (c := 1) (by decide) (by decide) (fun _ => rfl) (fun v91 => ?_)
              refine ms_goto (tgt := 48) C dX10_buy_179 (by decide) ?_
              exact ms_sub [2, 3, 4, 5, 0] rfl (ih M90 v91)
            · refine ms_aload_n C dX10_buy_116 1 rfl ?_
              refine ms_getr C dX10_buy_117 (zz40 (G := xg X) Nat.one_pos) (k := 33) (Nat.le_of_ble_eq_true rfl) (b := xad X 74 0) rfl (Cn := RX10) (T := TX10) rfl inX10_X10_buy rfl (by decide +kernel) ?_
              refine ms_sipush C (150 : Int32) dX10_buy_120 (by decide) ?_
              refine ms_iload_n C dX10_buy_123 4 rfl ?_
              refine ms_imul C dX10_buy_124 (fun v92 => ?_)
              refine ms_iload C dX10_buy_125 5 rfl ?_
              refine ms_iadd C dX10_buy_127 (fun v93 => ?_)
              refine ms_aload_n C dX10_buy_128 1 rfl ?_
              refine ms_getr C dX10_buy_129 (zz40 (G := xg X) Nat.one_pos) (k := 31) (Nat.le_of_ble_eq_true rfl) (b := xad X 72 0) rfl (Cn := RX10) (T := TX10) rfl inX10_X10_buy rfl (by decide +kernel) ?_
              refine ms_iload_n C dX10_buy_132 4 rfl ?_
              refine ms_ld C dX10_buy_133 (zz72 (G := xg X) Nat.one_pos) rfl (fun _ v94 => ?_)
              refine ms_isub C dX10_buy_134 (fun v95 => ?_)
              refine ms_ld C dX10_buy_135 (zz74 (G := xg X) Nat.one_pos) rfl (fun _ v96 => ?_)
              refine ms_aload_n C dX10_buy_136 1 rfl ?_
              refine ms_getr C dX10_buy_137 (zz40 (G := xg X) Nat.one_pos) (k := 32) (Nat.le_of_ble_eq_true rfl) (b := xad X 73 0) rfl (Cn := RX10) (T := TX10) rfl inX10_X10_buy rfl (by decide +kernel) ?_
              refine ms_iload_n C dX10_buy_140 4 rfl ?_
              refine ms_ld C dX10_buy_141 (zz73 (G := xg X) Nat.one_pos) rfl (fun _ v97 => ?_)
              refine ms_iadd C dX10_buy_142 (fun v98 => ?_)
              refine ms_istore (L' := [(6, .int v98), (5, .int (100000000 : Int32)), (0, .ref (xad X 40 0)), (1, .int x1), (2, .int x2), (3, .int x3), (4, .int x4)]) C dX10_buy_143 (by decide) rfl ?_
              refine ms_iload C dX10_buy_145 0 rfl ?_
              refine ms_iload C dX10_buy_147 1 rfl ?_
              refine ms_icmp_ge (tgt := 157) C dX10_buy_149 (by decide) (fun c99 => ?_) (fun c99 => ?_)
              · refine ms_iload C dX10_buy_157 1 rfl ?_
                refine ms_istore (L' := [(5, .int (100000000 : Int32)), (6, .int v98), (0, .ref (xad X 40 0)), (1, .int x1), (2, .int x2), (3, .int x3), (4, .int x4)]) C dX10_buy_159 (by decide) rfl ?_
                refine ms_aload_n C dX10_buy_161 2 rfl ?_
                refine ms_getr C dX10_buy_162 (zz40 (G := xg X) Nat.one_pos) (k := 33) (Nat.le_of_ble_eq_true rfl) (b := xad X 74 0) rfl (Cn := RX10) (T := TX10) rfl inX10_X10_buy rfl (by decide +kernel) ?_
                refine ms_sipush C (150 : Int32) dX10_buy_165 (by decide) ?_
                refine ms_iload_n C dX10_buy_168 5 rfl ?_
                refine ms_imul C dX10_buy_169 (fun v100 => ?_)
                refine ms_iload C dX10_buy_170 6 rfl ?_
                refine ms_iadd C dX10_buy_172 (fun v101 => ?_)
                refine ms_iload C dX10_buy_173 0 rfl ?_
                refine ms_st C dX10_buy_175 (zz74 (G := xg X) Nat.one_pos) rfl (fun _ M102 => ?_)
                refine ms_iinc (L' := fun v103 => [(4, .int v103), (5, .int (100000000 : Int32)), (6, .int v98), (0, .ref (xad X 40 0)), (1, .int x1), (2, .int x2), (3, .int x3)]) C dX10_buy_176 6 rfl (c := 1) (by decide) (by decide) (fun _ => rfl) (fun v103 => ?_)
                refine ms_goto (tgt := 48) C dX10_buy_179 (by decide) ?_
                exact ms_sub [3, 4, 5, 6, 0] rfl (ih M102 v103)
              · refine ms_iload C dX10_buy_152 0 rfl ?_
                refine ms_goto (tgt := 159) C dX10_buy_154 (by decide) ?_
                refine ms_istore (L' := [(5, .int v98), (6, .int v98), (0, .ref (xad X 40 0)), (1, .int x1), (2, .int x2), (3, .int x3), (4, .int x4)]) C dX10_buy_159 (by decide) rfl ?_
                refine ms_aload_n C dX10_buy_161 2 rfl ?_
                refine ms_getr C dX10_buy_162 (zz40 (G := xg X) Nat.one_pos) (k := 33) (Nat.le_of_ble_eq_true rfl) (b := xad X 74 0) rfl (Cn := RX10) (T := TX10) rfl inX10_X10_buy rfl (by decide +kernel) ?_
                refine ms_sipush C (150 : Int32) dX10_buy_165 (by decide) ?_
                refine ms_iload_n C dX10_buy_168 5 rfl ?_
                refine ms_imul C dX10_buy_169 (fun v104 => ?_)
                refine ms_iload C dX10_buy_170 6 rfl ?_
                refine ms_iadd C dX10_buy_172 (fun v105 => ?_)
                refine ms_iload C dX10_buy_173 0 rfl ?_
                refine ms_st C dX10_buy_175 (zz74 (G := xg X) Nat.one_pos) rfl (fun _ M106 => ?_)
                refine ms_iinc (L' := fun v107 => [(4, .int v107), (5, .int v98), (6, .int v98), (0, .ref (xad X 40 0)), (1, .int x1), (2, .int x2), (3, .int x3)]) C dX10_buy_176 6 rfl (c := 1) (by decide) (by decide) (fun _ => rfl) (fun v107 => ?_)
                refine ms_goto (tgt := 48) C dX10_buy_179 (by decide) ?_
                exact ms_sub [3, 4, 5, 6, 0] rfl (ih M106 v107)
        · refine ms_iconst C (0 : Int32) dX10_buy_69 (by decide) ?_
          refine ms_goto (tgt := 95) C dX10_buy_70 (by decide) ?_
          refine ms_istore (L' := [(5, .int (0 : Int32)), (0, .ref (xad X 40 0)), (1, .int x1), (2, .int x2), (3, .int x3), (4, .int x4)]) C dX10_buy_95 (by decide) rfl ?_
          refine ms_iload_n C dX10_buy_97 4 rfl ?_
          refine ms_aload_n C dX10_buy_98 1 rfl ?_
          refine ms_geti C dX10_buy_99 (zz40 (G := xg X) Nat.one_pos) (k := 30) (Nat.le_of_ble_eq_true rfl) rfl (Cn := RX10) (T := TX10) rfl inX10_X10_buy rfl (by decide +kernel) (fun v108 => ?_)
          refine ms_icmp_ge (tgt := 161) C dX10_buy_102 (by decide) (fun c109 => ?_) (fun c109 => ?_)
          · refine ms_aload_n C dX10_buy_161 1 rfl ?_
            refine ms_getr C dX10_buy_162 (zz40 (G := xg X) Nat.one_pos) (k := 33) (Nat.le_of_ble_eq_true rfl) (b := xad X 74 0) rfl (Cn := RX10) (T := TX10) rfl inX10_X10_buy rfl (by decide +kernel) ?_
            refine ms_sipush C (150 : Int32) dX10_buy_165 (by decide) ?_
            refine ms_iload_n C dX10_buy_168 4 rfl ?_
            refine ms_imul C dX10_buy_169 (fun v110 => ?_)
            refine ms_iload C dX10_buy_170 5 rfl ?_
            refine ms_iadd C dX10_buy_172 (fun v111 => ?_)
            refine ms_iload C dX10_buy_173 0 rfl ?_
            refine ms_st C dX10_buy_175 (zz74 (G := xg X) Nat.one_pos) rfl (fun _ M112 => ?_)
            refine ms_iinc (L' := fun v113 => [(4, .int v113), (5, .int (0 : Int32)), (0, .ref (xad X 40 0)), (1, .int x1), (2, .int x2), (3, .int x3)]) C dX10_buy_176 5 rfl (c := 1) (by decide) (by decide) (fun _ => rfl) (fun v113 => ?_)
            refine ms_goto (tgt := 48) C dX10_buy_179 (by decide) ?_
            exact ms_sub [2, 3, 4, 5, 0] rfl (ih M112 v113)
          · refine ms_iload C dX10_buy_105 5 rfl ?_
            refine ms_aload_n C dX10_buy_107 1 rfl ?_
            refine ms_getr C dX10_buy_108 (zz40 (G := xg X) Nat.one_pos) (k := 31) (Nat.le_of_ble_eq_true rfl) (b := xad X 72 0) rfl (Cn := RX10) (T := TX10) rfl inX10_X10_buy rfl (by decide +kernel) ?_
            refine ms_iload_n C dX10_buy_111 4 rfl ?_
            refine ms_ld C dX10_buy_112 (zz72 (G := xg X) Nat.one_pos) rfl (fun _ v114 => ?_)
            refine ms_icmp_lt (tgt := 161) C dX10_buy_113 (by decide) (fun c115 => ?_) (fun c115 => ?_)
            · refine ms_aload_n C dX10_buy_161 1 rfl ?_
              refine ms_getr C dX10_buy_162 (zz40 (G := xg X) Nat.one_pos) (k := 33) (Nat.le_of_ble_eq_true rfl) (b := xad X 74 0) rfl (Cn := RX10) (T := TX10) rfl inX10_X10_buy rfl (by decide +kernel) ?_
              refine ms_sipush C (150 : Int32) dX10_buy_165 (by decide) ?_
              refine ms_iload_n C dX10_buy_168 4 rfl ?_
              refine ms_imul C dX10_buy_169 (fun v116 => ?_)
              refine ms_iload C dX10_buy_170 5 rfl ?_
              refine ms_iadd C dX10_buy_172 (fun v117 => ?_)
              refine ms_iload C dX10_buy_173 0 rfl ?_
              refine ms_st C dX10_buy_175 (zz74 (G := xg X) Nat.one_pos) rfl (fun _ M118 => ?_)
              refine ms_iinc (L' := fun v119 => [(4, .int v119), (5, .int (0 : Int32)), (0, .ref (xad X 40 0)), (1, .int x1), (2, .int x2), (3, .int x3)]) C dX10_buy_176 5 rfl (c := 1) (by decide) (by decide) (fun _ => rfl) (fun v119 => ?_)
              refine ms_goto (tgt := 48) C dX10_buy_179 (by decide) ?_
              exact ms_sub [2, 3, 4, 5, 0] rfl (ih M118 v119)
            · refine ms_aload_n C dX10_buy_116 1 rfl ?_
              refine ms_getr C dX10_buy_117 (zz40 (G := xg X) Nat.one_pos) (k := 33) (Nat.le_of_ble_eq_true rfl) (b := xad X 74 0) rfl (Cn := RX10) (T := TX10) rfl inX10_X10_buy rfl (by decide +kernel) ?_
              refine ms_sipush C (150 : Int32) dX10_buy_120 (by decide) ?_
              refine ms_iload_n C dX10_buy_123 4 rfl ?_
              refine ms_imul C dX10_buy_124 (fun v120 => ?_)
              refine ms_iload C dX10_buy_125 5 rfl ?_
              refine ms_iadd C dX10_buy_127 (fun v121 => ?_)
              refine ms_aload_n C dX10_buy_128 1 rfl ?_
              refine ms_getr C dX10_buy_129 (zz40 (G := xg X) Nat.one_pos) (k := 31) (Nat.le_of_ble_eq_true rfl) (b := xad X 72 0) rfl (Cn := RX10) (T := TX10) rfl inX10_X10_buy rfl (by decide +kernel) ?_
              refine ms_iload_n C dX10_buy_132 4 rfl ?_
              refine ms_ld C dX10_buy_133 (zz72 (G := xg X) Nat.one_pos) rfl (fun _ v122 => ?_)
              refine ms_isub C dX10_buy_134 (fun v123 => ?_)
              refine ms_ld C dX10_buy_135 (zz74 (G := xg X) Nat.one_pos) rfl (fun _ v124 => ?_)
              refine ms_aload_n C dX10_buy_136 1 rfl ?_
              refine ms_getr C dX10_buy_137 (zz40 (G := xg X) Nat.one_pos) (k := 32) (Nat.le_of_ble_eq_true rfl) (b := xad X 73 0) rfl (Cn := RX10) (T := TX10) rfl inX10_X10_buy rfl (by decide +kernel) ?_
              refine ms_iload_n C dX10_buy_140 4 rfl ?_
              refine ms_ld C dX10_buy_141 (zz73 (G := xg X) Nat.one_pos) rfl (fun _ v125 => ?_)
              refine ms_iadd C dX10_buy_142 (fun v126 => ?_)
              refine ms_istore (L' := [(6, .int v126), (5, .int (0 : Int32)), (0, .ref (xad X 40 0)), (1, .int x1), (2, .int x2), (3, .int x3), (4, .int x4)]) C dX10_buy_143 (by decide) rfl ?_
              refine ms_iload C dX10_buy_145 0 rfl ?_
              refine ms_iload C dX10_buy_147 1 rfl ?_
              refine ms_icmp_ge (tgt := 157) C dX10_buy_149 (by decide) (fun c127 => ?_) (fun c127 => ?_)
              · refine ms_iload C dX10_buy_157 1 rfl ?_
                refine ms_istore (L' := [(5, .int (0 : Int32)), (6, .int v126), (0, .ref (xad X 40 0)), (1, .int x1), (2, .int x2), (3, .int x3), (4, .int x4)]) C dX10_buy_159 (by decide) rfl ?_
                refine ms_aload_n C dX10_buy_161 2 rfl ?_
                refine ms_getr C dX10_buy_162 (zz40 (G := xg X) Nat.one_pos) (k := 33) (Nat.le_of_ble_eq_true rfl) (b := xad X 74 0) rfl (Cn := RX10) (T := TX10) rfl inX10_X10_buy rfl (by decide +kernel) ?_
                refine ms_sipush C (150 : Int32) dX10_buy_165 (by decide) ?_
                refine ms_iload_n C dX10_buy_168 5 rfl ?_
                refine ms_imul C dX10_buy_169 (fun v128 => ?_)
                refine ms_iload C dX10_buy_170 6 rfl ?_
                refine ms_iadd C dX10_buy_172 (fun v129 => ?_)
                refine ms_iload C dX10_buy_173 0 rfl ?_
                refine ms_st C dX10_buy_175 (zz74 (G := xg X) Nat.one_pos) rfl (fun _ M130 => ?_)
                refine ms_iinc (L' := fun v131 => [(4, .int v131), (5, .int (0 : Int32)), (6, .int v126), (0, .ref (xad X 40 0)), (1, .int x1), (2, .int x2), (3, .int x3)]) C dX10_buy_176 6 rfl (c := 1) (by decide) (by decide) (fun _ => rfl) (fun v131 => ?_)
                refine ms_goto (tgt := 48) C dX10_buy_179 (by decide) ?_
                exact ms_sub [3, 4, 5, 6, 0] rfl (ih M130 v131)
              · refine ms_iload C dX10_buy_152 0 rfl ?_
                refine ms_goto (tgt := 159) C dX10_buy_154 (by decide) ?_
                refine ms_istore (L' := [(5, .int v126), (6, .int v126), (0, .ref (xad X 40 0)), (1, .int x1), (2, .int x2), (3, .int x3), (4, .int x4)]) C dX10_buy_159 (by decide) rfl ?_
                refine ms_aload_n C dX10_buy_161 2 rfl ?_
                refine ms_getr C dX10_buy_162 (zz40 (G := xg X) Nat.one_pos) (k := 33) (Nat.le_of_ble_eq_true rfl) (b := xad X 74 0) rfl (Cn := RX10) (T := TX10) rfl inX10_X10_buy rfl (by decide +kernel) ?_
                refine ms_sipush C (150 : Int32) dX10_buy_165 (by decide) ?_
                refine ms_iload_n C dX10_buy_168 5 rfl ?_
                refine ms_imul C dX10_buy_169 (fun v132 => ?_)
                refine ms_iload C dX10_buy_170 6 rfl ?_
                refine ms_iadd C dX10_buy_172 (fun v133 => ?_)
                refine ms_iload C dX10_buy_173 0 rfl ?_
                refine ms_st C dX10_buy_175 (zz74 (G := xg X) Nat.one_pos) rfl (fun _ M134 => ?_)
                refine ms_iinc (L' := fun v135 => [(4, .int v135), (5, .int v126), (6, .int v126), (0, .ref (xad X 40 0)), (1, .int x1), (2, .int x2), (3, .int x3)]) C dX10_buy_176 6 rfl (c := 1) (by decide) (by decide) (fun _ => rfl) (fun v135 => ?_)
                refine ms_goto (tgt := 48) C dX10_buy_179 (by decide) ?_
                exact ms_sub [3, 4, 5, 6, 0] rfl (ih M134 v135)
set_option maxRecDepth 100000 in
set_option maxHeartbeats 4000000 in
theorem mtX10_buy_L41 {X : mh_X} {n : Nat} {z : mh_M × Int32} (x1 : Int32) (x2 : Int32) (C : mh_C X rmX10_buy cX10_buy wsX10_buy RX10 7) (hR : mh_R X (some .int) z.1 (some (.int z.2))) : ∀ (k : Nat) (M : mh_M) (x3 : Int32), mh_W X rmX10_buy 7 (itr2 (fX10_buy_L41 n x1 x2) k M x3) z M 41 [(0, .ref (xad X 40 0)), (1, .int x1), (2, .int x2), (3, .int x3)] [] := by
  intro k
  induction k with
  | zero =>
    intro M x3
    exact ms_none
  | succ k ih =>
    intro M x3
    show mh_W X rmX10_buy 7 (fX10_buy_L41 n x1 x2 (itr2 (fX10_buy_L41 n x1 x2) k) M x3) z M 41 [(0, .ref (xad X 40 0)), (1, .int x1), (2, .int x2), (3, .int x3)] []
    generalize itr2 (fX10_buy_L41 n x1 x2) k = rec at ih ⊢
    unfold fX10_buy_L41
    refine ms_iload_n C dX10_buy_41 3 rfl ?_
    refine ms_if_lt (tgt := 188) C dX10_buy_42 (by decide) (fun c10 => ?_) (fun c10 => ?_)
    · refine ms_iload_n C dX10_buy_188 1 rfl ?_
      refine ms_istore_n (L' := [(3, .int x1), (0, .ref (xad X 40 0)), (1, .int x1), (2, .int x2)]) C dX10_buy_189 rfl (by decide) rfl ?_
      refine ms_iload_n C dX10_buy_190 2 rfl ?_
      refine ms_istore (L' := [(4, .int x1), (3, .int x1), (0, .ref (xad X 40 0)), (1, .int x1), (2, .int x2)]) C dX10_buy_191 (by decide) rfl ?_
      exact ms_sub [2, 4, 1, 0] rfl (mtX10_buy_L193 (n := n) M x2 C hR n x1 x1)
    · refine ms_iconst C (0 : Int32) dX10_buy_45 (by decide) ?_
      refine ms_istore (L' := [(4, .int (0 : Int32)), (0, .ref (xad X 40 0)), (1, .int x1), (2, .int x2), (3, .int x3)]) C dX10_buy_46 (by decide) rfl ?_
      exact ms_sub [1, 2, 3, 4, 0] rfl (mtX10_buy_L48 (n := n) x1 x2 x3 C hR rec ih n M (0 : Int32))
set_option maxRecDepth 100000 in
set_option maxHeartbeats 4000000 in
theorem mtX10_buy (l : Launch) (G : mh_G) (n : Nat) (M : mh_M) (a0 : Int32) (a1 : Int32) {z : mh_M × Int32} (ho : fX10_buy n M a0 a1 = some z) : Met l yX10_buy wsX10_buy rmX10_buy (mh_Pc G M [.ref (G.2.2 40 0), .int a0, .int a1]) (mh_Q G z.1 (some (.int z.2))) 0 0 (mh_dom G) := by
  refine mh_met (cc := cX10_buy) (maxL := 7) (ret := (some .int)) (by decide) rfl (Nat.le_of_ble_eq_true rfl) ho ?_
  rintro X rfl rfl C hR
  show mh_W X rmX10_buy 7 _ z M 0 [(0, .ref (xad X 40 0)), (1, .int a0), (2, .int a1)] []
  replace C : mh_C X rmX10_buy cX10_buy wsX10_buy RX10 7 := C
  unfold fX10_buy
  refine ms_iload_n C dX10_buy_0 1 rfl ?_
  refine ms_iconst C (1 : Int32) dX10_buy_1 (by decide) ?_
  refine ms_bipush C (120 : Int32) dX10_buy_2 (by decide) ?_
  refine ms_callSi (As := [.int a0, .int (1 : Int32), .int (120 : Int32)]) C dX10_buy_4 (fun _ h => mtX10_in (xl X) (xg X) n M a0 (1 : Int32) (120 : Int32) h) (va_cwS 3 C.2.2.1 gX10_buy_X10_in rfl rfl rfl (by decide +kernel) ⟨Nat.le_of_ble_eq_true rfl, Nat.le_of_ble_eq_true rfl⟩) rfl rfl (Nat.le_of_ble_eq_true rfl) (fun v1 => ?_)
  refine ms_if_eq (tgt := 24) C dX10_buy_7 (by decide) (fun c2 => ?_) (fun c2 => ?_)
  · refine ms_iconst C (-1 : Int32) dX10_buy_24 (by decide) ?_
    exact ms_iretm C hR rfl dX10_buy_25
  · refine ms_iload_n C dX10_buy_10 2 rfl ?_
    refine ms_iconst C (0 : Int32) dX10_buy_11 (by decide) ?_
    refine ms_iconst C (1 : Int32) dX10_buy_12 (by decide) ?_
    refine ms_aload_n C dX10_buy_13 0 rfl ?_
    refine ms_geti C dX10_buy_14 (zz40 (G := xg X) Nat.one_pos) (k := 30) (Nat.le_of_ble_eq_true rfl) rfl (Cn := RX10) (T := TX10) rfl inX10_X10_buy rfl (by decide +kernel) (fun v3 => ?_)
    refine ms_iadd C dX10_buy_17 (fun v4 => ?_)
    refine ms_callSi (As := [.int a1, .int (0 : Int32), .int v4]) C dX10_buy_18 (fun _ h => mtX10_in (xl X) (xg X) n M a1 (0 : Int32) v4 h) (va_cwS 3 C.2.2.1 gX10_buy_X10_in rfl rfl rfl (by decide +kernel) ⟨Nat.le_of_ble_eq_true rfl, Nat.le_of_ble_eq_true rfl⟩) rfl rfl (Nat.le_of_ble_eq_true rfl) (fun v5 => ?_)
    refine ms_if_ne (tgt := 26) C dX10_buy_21 (by decide) (fun c6 => ?_) (fun c6 => ?_)
    · refine ms_aload_n C dX10_buy_26 0 rfl ?_
      refine ms_geti C dX10_buy_27 (zz40 (G := xg X) Nat.one_pos) (k := 30) (Nat.le_of_ble_eq_true rfl) rfl (Cn := RX10) (T := TX10) rfl inX10_X10_buy rfl (by decide +kernel) (fun v7 => ?_)
      refine ms_if_ne (tgt := 36) C dX10_buy_30 (by decide) (fun c8 => ?_) (fun c8 => ?_)
      · refine ms_aload_n C dX10_buy_36 0 rfl ?_
        refine ms_geti C dX10_buy_37 (zz40 (G := xg X) Nat.one_pos) (k := 30) (Nat.le_of_ble_eq_true rfl) rfl (Cn := RX10) (T := TX10) rfl inX10_X10_buy rfl (by decide +kernel) (fun v9 => ?_)
        refine ms_istore_n (L' := [(3, .int v9), (0, .ref (xad X 40 0)), (1, .int a0), (2, .int a1)]) C dX10_buy_40 rfl (by decide) rfl ?_
        exact ms_sub [1, 2, 3, 0] rfl (mtX10_buy_L41 (n := n) a0 a1 C hR n M v9)
      · refine ms_bipush C (-2 : Int32) dX10_buy_33 (by decide) ?_
        exact ms_iretm C hR rfl dX10_buy_35
    · refine ms_iconst C (-1 : Int32) dX10_buy_24 (by decide) ?_
      exact ms_iretm C hR rfl dX10_buy_25
def rmX10_count : Room := { frames := 0, cells := 0, slots := 0, locals := 0 }
theorem inX10_X10_count : ∀ w ∈ wsX100, w ∈ wsX10_count := by decide +kernel
set_option maxRecDepth 100000 in
set_option maxHeartbeats 4000000 in
theorem mtX10_count (l : Launch) (G : mh_G) (n : Nat) (M : mh_M) (a0 : Int32) {z : Int32} (ho : fX10_count n M a0 = some z) : Met l yX10_count wsX10_count rmX10_count (mh_Pc G M [.ref (G.2.2 40 0), .int a0]) (mh_Q G M (some (.int z))) 0 0 (mh_dom G) := by
  refine mh_met (cc := cX10_count) (maxL := 2) (ret := (some .int)) (by decide) rfl (Nat.le_of_ble_eq_true rfl) ho ?_
  rintro X rfl rfl C hR
  show mh_W X rmX10_count 2 _ z M 0 [(0, .ref (xad X 40 0)), (1, .int a0)] []
  replace C : mh_C X rmX10_count cX10_count wsX10_count RX10 2 := C
  unfold fX10_count
  refine ms_iload_n C dX10_count_0 1 rfl ?_
  refine ms_split (fun c1 => ?_) (fun c1 => ?_)
  · refine ms_tableIn (tgt := 44) C dX10_count_1 (by rw [c1]; decide) (by rw [c1]; decide) (by rw [c1]; rfl) (by decide) ?_
    refine ms_aload_n C dX10_count_44 0 rfl ?_
    refine ms_geti C dX10_count_45 (zz40 (G := xg X) Nat.one_pos) (k := 0) (Nat.le_of_ble_eq_true rfl) rfl (Cn := RX10) (T := TX10) rfl inX10_X10_count rfl (by decide +kernel) (fun v2 => ?_)
    exact ms_ireti C hR rfl rfl dX10_count_48
  refine ms_split (fun c3 => ?_) (fun c3 => ?_)
  · refine ms_tableIn (tgt := 49) C dX10_count_1 (by rw [c3]; decide) (by rw [c3]; decide) (by rw [c3]; rfl) (by decide) ?_
    refine ms_aload_n C dX10_count_49 0 rfl ?_
    refine ms_geti C dX10_count_50 (zz40 (G := xg X) Nat.one_pos) (k := 4) (Nat.le_of_ble_eq_true rfl) rfl (Cn := RX10) (T := TX10) rfl inX10_X10_count rfl (by decide +kernel) (fun v4 => ?_)
    exact ms_ireti C hR rfl rfl dX10_count_53
  refine ms_split (fun c5 => ?_) (fun c5 => ?_)
  · refine ms_tableIn (tgt := 54) C dX10_count_1 (by rw [c5]; decide) (by rw [c5]; decide) (by rw [c5]; rfl) (by decide) ?_
    refine ms_aload_n C dX10_count_54 0 rfl ?_
    refine ms_geti C dX10_count_55 (zz40 (G := xg X) Nat.one_pos) (k := 11) (Nat.le_of_ble_eq_true rfl) rfl (Cn := RX10) (T := TX10) rfl inX10_X10_count rfl (by decide +kernel) (fun v6 => ?_)
    exact ms_ireti C hR rfl rfl dX10_count_58
  refine ms_split (fun c7 => ?_) (fun c7 => ?_)
  · refine ms_tableIn (tgt := 59) C dX10_count_1 (by rw [c7]; decide) (by rw [c7]; decide) (by rw [c7]; rfl) (by decide) ?_
    refine ms_aload_n C dX10_count_59 0 rfl ?_
    refine ms_geti C dX10_count_60 (zz40 (G := xg X) Nat.one_pos) (k := 19) (Nat.le_of_ble_eq_true rfl) rfl (Cn := RX10) (T := TX10) rfl inX10_X10_count rfl (by decide +kernel) (fun v8 => ?_)
    exact ms_ireti C hR rfl rfl dX10_count_63
  refine ms_split (fun c9 => ?_) (fun c9 => ?_)
  · refine ms_tableIn (tgt := 64) C dX10_count_1 (by rw [c9]; decide) (by rw [c9]; decide) (by rw [c9]; rfl) (by decide) ?_
    refine ms_aload_n C dX10_count_64 0 rfl ?_
    refine ms_geti C dX10_count_65 (zz40 (G := xg X) Nat.one_pos) (k := 24) (Nat.le_of_ble_eq_true rfl) rfl (Cn := RX10) (T := TX10) rfl inX10_X10_count rfl (by decide +kernel) (fun v10 => ?_)
    exact ms_ireti C hR rfl rfl dX10_count_68
  refine ms_split (fun c11 => ?_) (fun c11 => ?_)
  · refine ms_tableIn (tgt := 69) C dX10_count_1 (by rw [c11]; decide) (by rw [c11]; decide) (by rw [c11]; rfl) (by decide) ?_
    refine ms_aload_n C dX10_count_69 0 rfl ?_
    refine ms_geti C dX10_count_70 (zz40 (G := xg X) Nat.one_pos) (k := 30) (Nat.le_of_ble_eq_true rfl) rfl (Cn := RX10) (T := TX10) rfl inX10_X10_count rfl (by decide +kernel) (fun v12 => ?_)
    exact ms_ireti C hR rfl rfl dX10_count_73
  refine ms_split (fun c13 => ?_) (fun c13 => ?_)
  · refine ms_tableIn (tgt := 74) C dX10_count_1 (by rw [c13]; decide) (by rw [c13]; decide) (by rw [c13]; rfl) (by decide) ?_
    refine ms_aload_n C dX10_count_74 0 rfl ?_
    refine ms_geti C dX10_count_75 (zz40 (G := xg X) Nat.one_pos) (k := 21) (Nat.le_of_ble_eq_true rfl) rfl (Cn := RX10) (T := TX10) rfl inX10_X10_count rfl (by decide +kernel) (fun v14 => ?_)
    exact ms_ireti C hR rfl rfl dX10_count_78
  refine ms_tableOut (tgt := 79) C dX10_count_1 (by have ec1 : ¬ a0.toInt = 0 := fun q => c1 (Int32.toInt_inj.mp q); have ec3 : ¬ a0.toInt = 1 := fun q => c3 (Int32.toInt_inj.mp q); have ec5 : ¬ a0.toInt = 2 := fun q => c5 (Int32.toInt_inj.mp q); have ec7 : ¬ a0.toInt = 3 := fun q => c7 (Int32.toInt_inj.mp q); have ec9 : ¬ a0.toInt = 4 := fun q => c9 (Int32.toInt_inj.mp q); have ec11 : ¬ a0.toInt = 5 := fun q => c11 (Int32.toInt_inj.mp q); have ec13 : ¬ a0.toInt = 6 := fun q => c13 (Int32.toInt_inj.mp q); omega) (by decide) ?_
  refine ms_iconst C (-1 : Int32) dX10_count_79 (by decide) ?_
  exact ms_ireti C hR rfl rfl dX10_count_80
