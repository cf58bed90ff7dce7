/-! ===== the makers ===== -/
def nAOA (U : State) : Prop := (Cond.arrayOver (.array .int)).before #[] U = true
theorem nAOA.moved {u U : State} (hvm : u.vm.Alike U.vm) (h : nAOA u) : nAOA U := by
  obtain ⟨comp, c, k, h1, h2, h3, h4, h5⟩ := arrayOverA_spec h
  obtain ⟨k', hk', he⟩ := hvm.2.2 _ _ h3
  have hi : (U.vm.classes.findIdx? fun (x : Class) => match x.kind with | .array component _ => component == comp | _ => false) = some c := by
    refine (va_idx_bare U.vm comp).symm.trans ?_
    first | rw [hvm.bare_eq] | rw [← hvm.bare_eq]
    exact (va_idx_bare u.vm comp).trans h2
  have hkind : k'.kind = .array comp (.array .int) := by rw [he]; exact h4
  have f1 : U.vm.findClass (FieldType.array .int).toString = some comp := by rw [hvm.findClass]; exact h1
  have f2 : U.vm.findClass ("[" ++ (FieldType.array .int).toString) = some c := by rw [hvm.findClass]; exact h5
  unfold nAOA Cond.before Cond.holds
  simp only [Cond.value]
  rw [f1, Option.bind_some]
  refine (congrArg (fun o : Option Nat => (o.bind (fun c => (U.vm.classes[c]?).map fun (k : Class) => match k.kind with | .array _ ty => decide (ty = FieldType.array .int) && decide (U.vm.findClass ("[" ++ (FieldType.array .int).toString) = some c) | _ => false) == some true)) hi).trans ?_
  simp [hk', hkind, f2]
abbrev nNs (own : String) (i : Nat) (y : MethodName) (U : State) : Prop := va_Nw (.methodLinkNest own i y "BarMeasure") U
theorem nVm {u U : State} (h : u.vm = U.vm) : u.vm.Alike U.vm := by
  rw [h]
  exact Vm.Alike.refl U.vm
def nZ1 (U : State) : Prop := va_AO RX0 U ∧ nNs RX1 24 yX0_init U
theorem nZ_1 : nZm nZ1 := fun _ _ h _ hz => ⟨va_AO.moved (nVm h) hz.1, va_Nw.same rfl h hz.2⟩
theorem nZ_AOA : nZm nAOA := fun _ _ h _ hz => nAOA.moved (nVm h) hz
/-- new int[6][144]: the outer row, and six behind it -/
def mnF (G : mh_G) (N : Nat) : nH := fun q => if q = N then some (.inl (G.2.1 7, 6, .inr (.inr (.inr (.inr (fun j => if j < 6 then some (N + 1 + j) else none)))))) else if N + 1 ≤ q ∧ q < N + 7 then some (.inl (G.2.1 0, 144, .inl (fun _ => 0))) else none
theorem mnF_lo {G : mh_G} {N q : Nat} (h : q < N) : mnF G N q = none := by
  unfold mnF
  rw [if_neg (by omega), if_neg (by omega)]
def mna_row : Prop := ∀ (X : mh_X) (R : Room) (nL : Nat) (A : Nat → Prop) (N : Nat) (f : nH) (k n pc : Nat) (L : List (Nat × Value)) (st : List Value) (cc : ByteArray) (ws : List Cond) (own : String), nC X A cc ws own nL → ∀ index : Nat, decode cc pc = .ok (.multianewarray index 2, 4) → Cond.classLink own index "[[I" ∈ ws → nAOA (xs X) → Cond.arrayClass .int ∈ ws → k + 7 ≤ R.cells → n + 870 ≤ R.slots →
  nw X R nL A (N + 7) (nov (mnF (xg X) N) f) (k + 7) (n + 870) (pc + 4) L (.ref N :: st) → nw X R nL A N f k n pc L (.int 144 :: .int 6 :: st)
/-! the settings at first -/
def mh_first : Nat → Int32 := fun j => match j with | 0 => 2 | 1 => 1 | 2 => 1 | 3 => 1 | 4 => 0 | 5 => 5 | _ => 2
def nT (G : mh_G) (t : Nat) (U : State) : Prop := ∃ cell : Cell, U.heap[t]? = some cell ∧ (∀ k, cell.vm ≠ .statics k) ∧ cell.vm ≠ .unknown ∧ cell.cls = G.2.1 0 ∧ cell.slots = (vp_cell (G.2.1 0) (7, .inl mh_first)).slots
def nCast (U : State) : Prop := ∃ c t, U.vm.findClass "[I" = some c ∧ U.vm.findClass "java/lang/Cloneable" = some t ∧ U.vm.assignable c t = true
theorem nCast.moved {u U : State} (hvm : u.vm.Alike U.vm) (h : nCast u) : nCast U := by
  obtain ⟨c, t, h1, h2, h3⟩ := h
  exact ⟨c, t, by rw [hvm.findClass]; exact h1, by rw [hvm.findClass]; exact h2, by rw [hvm.assignable]; exact h3⟩
section NCL
variable {X : mh_X} {R : Room} {nL N k n pc : Nat} {A : Nat → Prop} {f : nH} {L : List (Nat × Value)} {st : List Value} {cc : ByteArray} {ws : List Cond} {own : String}
theorem ns_gets (C : nC X A cc ws own nL) {index t : Nat} (hdg : decode cc pc = .ok (.getstatic index, 3)) (hZ : va_Z "BarMeasure" "SETTING_AT_FIRST" "[I" (.ref t) A (xs X) (xs X).heap) (hl : Cond.fieldLink own index "BarMeasure" "SETTING_AT_FIRST" "[I" ∈ ws) (kk : nw X R nL A N f k n (pc + 3) L (.ref t :: st)) : nw X R nL A N f k n pc L st := fun H locs hz hP hS ls h =>
  va_gets (ref := "BarMeasure") C.1 C.2.1 hZ hS C.2.2.2.1 (C.2.2.1 _ hl) (fun _ q => q) hdg (kk H locs hz hP hS ls h)
theorem ns_castA (C : nC X A cc ws own nL) {index a : Nat} {nm : String} {cA : ClassId} {x : vp_A} (hdg : decode cc pc = .ok (.checkcast index, 3)) (hl : Cond.classLink own index nm ∈ ws) (he : f a = some (.inl (cA, x))) (hnm : (xs X).vm.findClass nm = some cA) (kk : nw X R nL A N f k n (pc + 3) L (.ref a :: st)) : nw X R nL A N f k n pc L (.ref a :: st) := fun H locs hz hP hS ls h =>
  va_castA C.1 C.2.1 C.2.2.2.1 (C.2.2.1 _ hl) (nAt_one hP he) 0 rfl hnm hdg (kk H locs hz hP hS ls h)
theorem ns_clone (C : nC X A cc ws own nL) {index t : Nat} (hdg : decode cc pc = .ok (.invokevirtual index, 3)) (hlink : Cond.methodLink own index ⟨"[I", "clone", "()Ljava/lang/Object;"⟩ ∈ ws) (hsame : Cond.sameMethod "[I" "java/lang/Object" "clone" "()Ljava/lang/Object;" ∈ ws) (hnat : Cond.native ⟨"java/lang/Object", "clone", "()Ljava/lang/Object;"⟩ ∈ ws) (hinst : Cond.instanceMethod ⟨"java/lang/Object", "clone", "()Ljava/lang/Object;"⟩ ∈ ws) (hsel : Cond.selects "[I" ⟨"[I", "clone", "()Ljava/lang/Object;"⟩ ⟨"java/lang/Object", "clone", "()Ljava/lang/Object;"⟩ ∈ ws) (hcl : nCast (xs X)) (hT : nT (xg X) t (xs X)) (hA : ¬ A t) (hf : 1 ≤ R.frames) (hlo : 24 ≤ R.locals) (hst : (st.map fun v => v.category).sum ≤ 8) (hk : k + 1 ≤ R.cells) (hn : n + 7 ≤ R.slots)
    (kk : nw X R nL A (N + 1) (nu f N (.inl ((xg X).2.1 0, 7, .inl mh_first))) (k + 1) (n + 7) (pc + 3) L (.ref N :: st)) : nw X R nL A N f k n pc L (.ref t :: st) := by
  intro H locs hz hP hS ls h T hTT XX
  obtain ⟨cell, c1, c2, c3, c4, c5⟩ := hT
  obtain ⟨q1, q2, f1, f2, f3⟩ := hcl
  have hra : (xs X).vm.findClass "[I" = some ((xg X).2.1 0) := (C.2.2.2.2.1.2 0 _ rfl).2
  have hq1 : q1 = (xg X).2.1 0 := Option.some.inj (f1.symm.trans hra)
  subst hq1
  have hsz : cell.slots.size = 7 := by rw [c5]; exact arrV_size _ _ _
  have hcellT : T.heap[t]? = some cell := by
    rw [hTT, hS.2.1 t (Array.getElem?_eq_some_iff.mp c1).1 hA]
    exact c1
  obtain ⟨-, kA, hkA, comp, hkind⟩ := State.isArrayOf_alike XX.warmed.alike ((C.2.2.2.2.1.2 0 _ rfl).1 0 (fun _ => .null))
  obtain ⟨-, kS, hkS, compS, hkindS⟩ := (C.2.2.2.2.1.2 0 _ rfl).1 0 (fun _ => .null)
  obtain ⟨vm', X', stp⟩ := XX.cloneArray C.1 C.2.2.2.1 (C.2.2.1 _ hlink) (C.2.2.1 _ hsame) (C.2.2.1 _ hnat) (C.2.2.1 _ hinst) (C.2.2.1 _ hsel) (a := t) (cell := cell) hcellT c2 c3 (by rw [c4]; exact f1) f2 (by rw [c4]; exact f3)
    (fun i v hv => by
      rw [c4]
      have hk' : T.vm.classes[(xg X).2.1 0]? = some kA := hkA
      have hi : i < 7 := by
        have := (Array.getElem?_eq_some_iff.mp hv).1
        omega
      rw [c5] at hv
      have hv2 : (arrV ((xg X).2.1 0) 7 (fun j => .int (mh_first j))).slots[i]? = some v := hv
      rw [arrV_read _ _ hi] at hv2
      cases hv2
      simp [State.fitsSlot, State.slotType?, hk', hkind, fits])
    (g := F0 (xm X) pc ls (.ref t :: st)) rfl (by show ls.size = _; rw [C.2.2.2.2.2.1]; exact h.1) rfl (by rw [C.2.1]; exact hdg) hf (by show 2 * 0 + (st.map fun v => v.category).sum + 14 ≤ _; omega) hk (by rw [hsz]; exact hn) (hloader := by rw [c4]; exact Vm.clonesLoader_of_array hkS hkindS)
  have hcellE : ({ cls := cell.cls, slots := cell.slots } : Cell) = vp_cell ((xg X).2.1 0) (7, .inl mh_first) := by
    rw [c4, c5]
    rfl
  rw [hcellE, hsz] at X'
  generalize hH1 : H.push (vp_cell ((xg X).2.1 0) (7, .inl mh_first)) = H1
  have z1 : H1.size = H.size + 1 := by rw [← hH1, Array.size_push]
  have e1 : H1[H.size]? = some (vp_cell ((xg X).2.1 0) (7, .inl mh_first)) := by rw [← hH1, Array.getElem?_push_size]
  have o1 : ∀ q : Nat, q < H.size → H1[q]? = H[q]? := fun q hq => by rw [← hH1, Array.getElem?_push, if_neg (Nat.ne_of_lt hq)]
  subst hz
  obtain ⟨t2, b1, b2⟩ := kk H1 locs z1 (nAt_put hP (fun q _ h2 => o1 q h2) e1) (nS_new hS rfl (by omega) o1) ls h ((T.setVm vm').pushCell (vp_cell ((xg X).2.1 0) (7, .inl mh_first))) (by rw [← hH1, ← hTT]; rfl) X'
  refine ⟨t2, stp t2 ?_, b2⟩
  rw [hcellE, hTT]
  exact b1
end NCL
def nN9 (U : State) : Prop := nNs RX1 24 yX0_init U ∧ nNs RX9 61 yX3_init U ∧ nNs RX9 77 yX8_init U ∧ nNs RX9 84 yX2_init U ∧ nNs RX9 89 yX4_init U ∧ nNs RX9 90 yX6_init U ∧ nNs RX9 91 yX7_init U ∧ nNs RX9 92 yX5_init U
def nZ9 (G : mh_G) (o : Nat) (U : State) : Prop := va_AO RX4 U ∧ va_AO RX6 U ∧ va_AO RX7 U ∧ va_AO RX5 U ∧ va_AO RX0 U ∧ nAOA U ∧ nCast U ∧ nN9 U ∧ ∃ t, va_Z "BarMeasure" "SETTING_AT_FIRST" "[I" (.ref t) (nA o (o + 1)) U U.heap ∧ nT G t U ∧ ¬ nA o (o + 1) t
theorem nZ_9 {G : mh_G} {o : Nat} : nZm (nZ9 G o) := by
  intro U u he hh h
  have hvm := nVm he
  obtain ⟨h1, h2, h3, h4, h5, h6, h7, ⟨n1, n2, n3, n4, n5, n6, n7, n8⟩, t, h8, h9, h10⟩ := h
  refine ⟨va_AO.moved hvm h1, va_AO.moved hvm h2, va_AO.moved hvm h3, va_AO.moved hvm h4, va_AO.moved hvm h5, nAOA.moved hvm h6, nCast.moved hvm h7, ⟨va_Nw.same rfl he n1, va_Nw.same rfl he n2, va_Nw.same rfl he n3, va_Nw.same rfl he n4, va_Nw.same rfl he n5, va_Nw.same rfl he n6, va_Nw.same rfl he n7, va_Nw.same rfl he n8⟩, t, ?_, ?_, h10⟩
  · rw [hh]
    exact va_Z.moved hvm h8
  · obtain ⟨cell, c1, c2⟩ := h9
    exact ⟨cell, by rw [hh]; exact c1, c2⟩
/-! X0 -/
def FX0 (G : mh_G) (o : Nat) : nH := nu (nu (nu (nu (nu (nu (n0) (o) (.inr (0, [.int 0, .int 0, .int 0, .int 0, .int 0]))) (o) (.inr (0, [.int 0, .int 0, .int 0, .int 0, .int 0]))) (o) (.inr (0, [.int 0, .int 0, .int 0, .int 0, .int 0]))) (o) (.inr (0, [.int 0, .int 0, .int 0, .int 0, .int 0]))) (o) (.inr (0, [.int 0, .int 0, .int 0, .int 0, .int 0]))) (o) (.inr (0, [.int 0, .int 0, .int 0, .int 0, .int 0]))
theorem FX0_lo {G : mh_G} {o q : Nat} (h : q < o) : FX0 G o q = none := by
  unfold FX0
  exact nu_n (by omega) (nu_n (by omega) (nu_n (by omega) (nu_n (by omega) (nu_n (by omega) (nu_n (by omega) (rfl))))))
theorem FX0_obj (G : mh_G) (o : Nat) : ∃ vs, FX0 G o o = some (.inr (0, vs)) := by
  unfold FX0
  exact ⟨_, nu_s⟩
theorem FX0_own (G : mh_G) (o : Nat) : ∃ e, FX0 G o o = some e := by
  obtain ⟨vs, h⟩ := FX0_obj G o
  exact ⟨_, h⟩
def rmX0_init : Room := { frames := 1, cells := 0, slots := 0, locals := 20 }
theorem inX0_X0_init : ∀ w ∈ wsX00, w ∈ wsX0_init := by decide +kernel
set_option maxRecDepth 100000 in
set_option maxHeartbeats 8000000 in
theorem mtX0_init (l : Launch) (G : mh_G) (o : Nat) : Met l yX0_init wsX0_init rmX0_init (nPc G o (o + 1) (.inr (0, [.int 0, .int 0, .int 0, .int 0, .int 0])) (fun _ => True)) (nQc G o (o + 1) 0 (FX0 G o)) 0 0 (nA o (o + 1)) := by
  refine n_met (cc := cX0_init) (maxL := 1) (by decide) rfl rfl (Nat.le_of_ble_eq_true rfl) ?_
  rintro X rfl rfl C hnm hR - ha hsz
  replace C : nC X (nA o (o + 1)) cX0_init wsX0_init RX0 1 := C
  refine ns_aload_n C dX0_init_0 0 rfl ?_
  refine ns_obj C dX0_init_1 (by decide +kernel) (by decide +kernel) (by decide +kernel) (Nat.le_of_ble_eq_true rfl) (Nat.le_of_ble_eq_true rfl) (Nat.le_of_ble_eq_true rfl) ?_
  refine ns_aload_n C dX0_init_4 0 rfl ?_
  refine ns_iconst C (0 : Int32) dX0_init_5 (by decide) ?_
  refine ns_puti C [.int 0, .int 0, .int 0, .int 0, .int 0] dX0_init_6 (nu_s) (Cn := RX0) (T := TX0) rfl tyX0 tyX0_ok nmX0 inX0_X0_init (kf := 0) (Nat.le_of_ble_eq_true rfl) rfl (by decide +kernel) rfl (by decide +kernel) (Nat.le_of_ble_eq_true rfl) (Or.inl rfl) rfl ?_
  refine ns_aload_n C dX0_init_9 0 rfl ?_
  refine ns_iconst C (0 : Int32) dX0_init_10 (by decide) ?_
  refine ns_puti C [.int 0, .int 0, .int 0, .int 0, .int 0] dX0_init_11 (nu_s) (Cn := RX0) (T := TX0) rfl tyX0 tyX0_ok nmX0 inX0_X0_init (kf := 1) (Nat.le_of_ble_eq_true rfl) rfl (by decide +kernel) rfl (by decide +kernel) (Nat.le_of_ble_eq_true rfl) (Or.inl rfl) rfl ?_
  refine ns_aload_n C dX0_init_14 0 rfl ?_
  refine ns_iconst C (0 : Int32) dX0_init_15 (by decide) ?_
  refine ns_puti C [.int 0, .int 0, .int 0, .int 0, .int 0] dX0_init_16 (nu_s) (Cn := RX0) (T := TX0) rfl tyX0 tyX0_ok nmX0 inX0_X0_init (kf := 2) (Nat.le_of_ble_eq_true rfl) rfl (by decide +kernel) rfl (by decide +kernel) (Nat.le_of_ble_eq_true rfl) (Or.inl rfl) rfl ?_
  refine ns_aload_n C dX0_init_19 0 rfl ?_
  refine ns_iconst C (0 : Int32) dX0_init_20 (by decide) ?_
  refine ns_puti C [.int 0, .int 0, .int 0, .int 0, .int 0] dX0_init_21 (nu_s) (Cn := RX0) (T := TX0) rfl tyX0 tyX0_ok nmX0 inX0_X0_init (kf := 3) (Nat.le_of_ble_eq_true rfl) rfl (by decide +kernel) rfl (by decide +kernel) (Nat.le_of_ble_eq_true rfl) (Or.inl rfl) rfl ?_
  refine ns_aload_n C dX0_init_24 0 rfl ?_
  refine ns_iconst C (0 : Int32) dX0_init_25 (by decide) ?_
  refine ns_puti C [.int 0, .int 0, .int 0, .int 0, .int 0] dX0_init_26 (nu_s) (Cn := RX0) (T := TX0) rfl tyX0 tyX0_ok nmX0 inX0_X0_init (kf := 4) (Nat.le_of_ble_eq_true rfl) rfl (by decide +kernel) rfl (by decide +kernel) (Nat.le_of_ble_eq_true rfl) (Or.inl rfl) rfl ?_
  exact ns_ret C hR rfl rfl rfl dX0_init_29
/-! X3 -/
def FX3 (G : mh_G) (o : Nat) : nH := nu (nu (nu (nu (nu (nu (n0) (o) (.inr (3, [.null, .null, .int 0]))) (o + 1) (.inl (G.2.1 0, 8, .inl (fun _ => 0)))) (o) (.inr (3, [.ref (o + 1), .null, .int 0]))) (o + 2) (.inl (G.2.1 0, 8, .inl (fun _ => 0)))) (o) (.inr (3, [.ref (o + 1), .ref (o + 2), .int 0]))) (o) (.inr (3, [.ref (o + 1), .ref (o + 2), .int 0]))
theorem FX3_lo {G : mh_G} {o q : Nat} (h : q < o) : FX3 G o q = none := by
  unfold FX3
  exact nu_n (by omega) (nu_n (by omega) (nu_n (by omega) (nu_n (by omega) (nu_n (by omega) (nu_n (by omega) (rfl))))))
theorem FX3_obj (G : mh_G) (o : Nat) : ∃ vs, FX3 G o o = some (.inr (3, vs)) := by
  unfold FX3
  exact ⟨_, nu_s⟩
theorem FX3_own (G : mh_G) (o : Nat) : ∃ e, FX3 G o o = some e := by
  obtain ⟨vs, h⟩ := FX3_obj G o
  exact ⟨_, h⟩
def rmX3_init : Room := { frames := 1, cells := 2, slots := 16, locals := 20 }
theorem inX3_X3_init : ∀ w ∈ wsX30, w ∈ wsX3_init := by decide +kernel
set_option maxRecDepth 100000 in
set_option maxHeartbeats 8000000 in
theorem mtX3_init (l : Launch) (G : mh_G) (o : Nat) : Met l yX3_init wsX3_init rmX3_init (nPc G o (o + 1) (.inr (3, [.null, .null, .int 0])) (fun _ => True)) (nQc G o (o + 1) 2 (FX3 G o)) 2 16 (nA o (o + 1)) := by
  refine n_met (cc := cX3_init) (maxL := 1) (by decide) rfl rfl (Nat.le_of_ble_eq_true rfl) ?_
  rintro X rfl rfl C hnm hR - ha hsz
  replace C : nC X (nA o (o + 1)) cX3_init wsX3_init RX3 1 := C
  refine ns_aload_n C dX3_init_0 0 rfl ?_
  refine ns_obj C dX3_init_1 (by decide +kernel) (by decide +kernel) (by decide +kernel) (Nat.le_of_ble_eq_true rfl) (Nat.le_of_ble_eq_true rfl) (Nat.le_of_ble_eq_true rfl) ?_
  refine ns_aload_n C dX3_init_4 0 rfl ?_
  refine ns_bipush C (8 : Int32) dX3_init_5 (by decide) ?_
  refine ns_newi C dX3_init_7 (m := 8) (by decide +kernel) (by decide) (by decide) (Nat.le_of_ble_eq_true rfl) (Nat.le_of_ble_eq_true rfl) (Nat.le_of_ble_eq_true rfl) ?_
  refine ns_putF C hnm [.ref (o + 1), .null, .int 0] dX3_init_9 (nu_n (by omega) (nu_s)) (Cn := RX3) (T := TX3) rfl tyX3 tyX3_ok nmX3 inX3_X3_init (kf := 0) (Nat.le_of_ble_eq_true rfl) rfl (by decide +kernel) rfl rfl (tyX3_ok 0 (Nat.le_of_ble_eq_true rfl)) rfl rfl (Nat.le_of_ble_eq_true rfl) (Or.inl rfl) rfl ?_
  refine ns_aload_n C dX3_init_12 0 rfl ?_
  refine ns_bipush C (8 : Int32) dX3_init_13 (by decide) ?_
  refine ns_newi C dX3_init_15 (m := 8) (by decide +kernel) (by decide) (by decide) (Nat.le_of_ble_eq_true rfl) (Nat.le_of_ble_eq_true rfl) (Nat.le_of_ble_eq_true rfl) ?_
  refine ns_putF C hnm [.ref (o + 1), .ref (o + 2), .int 0] dX3_init_17 (nu_n (by omega) (nu_s)) (Cn := RX3) (T := TX3) rfl tyX3 tyX3_ok nmX3 inX3_X3_init (kf := 1) (Nat.le_of_ble_eq_true rfl) rfl (by decide +kernel) rfl rfl (tyX3_ok 1 (Nat.le_of_ble_eq_true rfl)) rfl rfl (Nat.le_of_ble_eq_true rfl) (Or.inl rfl) rfl ?_
  refine ns_aload_n C dX3_init_20 0 rfl ?_
  refine ns_iconst C (0 : Int32) dX3_init_21 (by decide) ?_
  refine ns_puti C [.ref (o + 1), .ref (o + 2), .int 0] dX3_init_22 (nu_s) (Cn := RX3) (T := TX3) rfl tyX3 tyX3_ok nmX3 inX3_X3_init (kf := 2) (Nat.le_of_ble_eq_true rfl) rfl (by decide +kernel) rfl (by decide +kernel) (Nat.le_of_ble_eq_true rfl) (Or.inl rfl) rfl ?_
  exact ns_ret C hR rfl rfl rfl dX3_init_25
/-! X4 -/
def FX4 (G : mh_G) (o : Nat) : nH := nu (nu (nu (nu (nu (nu (nu (nu (nu (nu (n0) (o) (.inr (4, [.int 0, .int 0, .int 0, .int 0, .int 0, .null, .null]))) (o) (.inr (4, [.int 0, .int 0, .int 0, .int 0, .int 0, .null, .null]))) (o) (.inr (4, [.int 0, .int 0, .int 0, .int 0, .int 0, .null, .null]))) (o) (.inr (4, [.int 0, .int 0, .int 1, .int 0, .int 0, .null, .null]))) (o) (.inr (4, [.int 0, .int 0, .int 1, .int 0, .int 0, .null, .null]))) (o) (.inr (4, [.int 0, .int 0, .int 1, .int 0, .int 0, .null, .null]))) (o + 1) (.inl (G.2.1 0, 2, .inl (fun _ => 0)))) (o) (.inr (4, [.int 0, .int 0, .int 1, .int 0, .int 0, .ref (o + 1), .null]))) (o + 2) (.inl (G.2.1 0, 4, .inl (fun _ => 0)))) (o) (.inr (4, [.int 0, .int 0, .int 1, .int 0, .int 0, .ref (o + 1), .ref (o + 2)]))
theorem FX4_lo {G : mh_G} {o q : Nat} (h : q < o) : FX4 G o q = none := by
  unfold FX4
  exact nu_n (by omega) (nu_n (by omega) (nu_n (by omega) (nu_n (by omega) (nu_n (by omega) (nu_n (by omega) (nu_n (by omega) (nu_n (by omega) (nu_n (by omega) (nu_n (by omega) (rfl))))))))))
theorem FX4_obj (G : mh_G) (o : Nat) : ∃ vs, FX4 G o o = some (.inr (4, vs)) := by
  unfold FX4
  exact ⟨_, nu_s⟩
theorem FX4_own (G : mh_G) (o : Nat) : ∃ e, FX4 G o o = some e := by
  obtain ⟨vs, h⟩ := FX4_obj G o
  exact ⟨_, h⟩
def rmX4_init : Room := { frames := 1, cells := 2, slots := 6, locals := 20 }
theorem inX4_X4_init : ∀ w ∈ wsX40, w ∈ wsX4_init := by decide +kernel
set_option maxRecDepth 100000 in
set_option maxHeartbeats 8000000 in
theorem mtX4_init (l : Launch) (G : mh_G) (o : Nat) : Met l yX4_init wsX4_init rmX4_init (nPc G o (o + 1) (.inr (4, [.int 0, .int 0, .int 0, .int 0, .int 0, .null, .null])) (fun _ => True)) (nQc G o (o + 1) 2 (FX4 G o)) 2 6 (nA o (o + 1)) := by
  refine n_met (cc := cX4_init) (maxL := 1) (by decide) rfl rfl (Nat.le_of_ble_eq_true rfl) ?_
  rintro X rfl rfl C hnm hR - ha hsz
  replace C : nC X (nA o (o + 1)) cX4_init wsX4_init RX4 1 := C
  refine ns_aload_n C dX4_init_0 0 rfl ?_
  refine ns_obj C dX4_init_1 (by decide +kernel) (by decide +kernel) (by decide +kernel) (Nat.le_of_ble_eq_true rfl) (Nat.le_of_ble_eq_true rfl) (Nat.le_of_ble_eq_true rfl) ?_
  refine ns_aload_n C dX4_init_4 0 rfl ?_
  refine ns_iconst C (0 : Int32) dX4_init_5 (by decide) ?_
  refine ns_puti C [.int 0, .int 0, .int 0, .int 0, .int 0, .null, .null] dX4_init_6 (nu_s) (Cn := RX4) (T := TX4) rfl tyX4 tyX4_ok nmX4 inX4_X4_init (kf := 0) (Nat.le_of_ble_eq_true rfl) rfl (by decide +kernel) rfl (by decide +kernel) (Nat.le_of_ble_eq_true rfl) (Or.inl rfl) rfl ?_
  refine ns_aload_n C dX4_init_9 0 rfl ?_
  refine ns_iconst C (0 : Int32) dX4_init_10 (by decide) ?_
  refine ns_puti C [.int 0, .int 0, .int 0, .int 0, .int 0, .null, .null] dX4_init_11 (nu_s) (Cn := RX4) (T := TX4) rfl tyX4 tyX4_ok nmX4 inX4_X4_init (kf := 1) (Nat.le_of_ble_eq_true rfl) rfl (by decide +kernel) rfl (by decide +kernel) (Nat.le_of_ble_eq_true rfl) (Or.inl rfl) rfl ?_
  refine ns_aload_n C dX4_init_14 0 rfl ?_
  refine ns_iconst C (1 : Int32) dX4_init_15 (by decide) ?_
  refine ns_puti C [.int 0, .int 0, .int 1, .int 0, .int 0, .null, .null] dX4_init_16 (nu_s) (Cn := RX4) (T := TX4) rfl tyX4 tyX4_ok nmX4 inX4_X4_init (kf := 2) (Nat.le_of_ble_eq_true rfl) rfl (by decide +kernel) rfl (by decide +kernel) (Nat.le_of_ble_eq_true rfl) (Or.inl rfl) rfl ?_
  refine ns_aload_n C dX4_init_19 0 rfl ?_
  refine ns_iconst C (0 : Int32) dX4_init_20 (by decide) ?_
  refine ns_puti C [.int 0, .int 0, .int 1, .int 0, .int 0, .null, .null] dX4_init_21 (nu_s) (Cn := RX4) (T := TX4) rfl tyX4 tyX4_ok nmX4 inX4_X4_init (kf := 3) (Nat.le_of_ble_eq_true rfl) rfl (by decide +kernel) rfl (by decide +kernel) (Nat.le_of_ble_eq_true rfl) (Or.inl rfl) rfl ?_
  refine ns_aload_n C dX4_init_24 0 rfl ?_
  refine ns_iconst C (0 : Int32) dX4_init_25 (by decide) ?_
  refine ns_puti C [.int 0, .int 0, .int 1, .int 0, .int 0, .null, .null] dX4_init_26 (nu_s) (Cn := RX4) (T := TX4) rfl tyX4 tyX4_ok nmX4 inX4_X4_init (kf := 4) (Nat.le_of_ble_eq_true rfl) rfl (by decide +kernel) rfl (by decide +kernel) (Nat.le_of_ble_eq_true rfl) (Or.inl rfl) rfl ?_
  refine ns_aload_n C dX4_init_29 0 rfl ?_
  refine ns_iconst C (2 : Int32) dX4_init_30 (by decide) ?_
  refine ns_newi C dX4_init_31 (m := 2) (by decide +kernel) (by decide) (by decide) (Nat.le_of_ble_eq_true rfl) (Nat.le_of_ble_eq_true rfl) (Nat.le_of_ble_eq_true rfl) ?_
  refine ns_putF C hnm [.int 0, .int 0, .int 1, .int 0, .int 0, .ref (o + 1), .null] dX4_init_33 (nu_n (by omega) (nu_s)) (Cn := RX4) (T := TX4) rfl tyX4 tyX4_ok nmX4 inX4_X4_init (kf := 5) (Nat.le_of_ble_eq_true rfl) rfl (by decide +kernel) rfl rfl (tyX4_ok 5 (Nat.le_of_ble_eq_true rfl)) rfl rfl (Nat.le_of_ble_eq_true rfl) (Or.inl rfl) rfl ?_
  refine ns_aload_n C dX4_init_36 0 rfl ?_
  refine ns_iconst C (4 : Int32) dX4_init_37 (by decide) ?_
  refine ns_newi C dX4_init_38 (m := 4) (by decide +kernel) (by decide) (by decide) (Nat.le_of_ble_eq_true rfl) (Nat.le_of_ble_eq_true rfl) (Nat.le_of_ble_eq_true rfl) ?_
  refine ns_putF C hnm [.int 0, .int 0, .int 1, .int 0, .int 0, .ref (o + 1), .ref (o + 2)] dX4_init_40 (nu_n (by omega) (nu_s)) (Cn := RX4) (T := TX4) rfl tyX4 tyX4_ok nmX4 inX4_X4_init (kf := 6) (Nat.le_of_ble_eq_true rfl) rfl (by decide +kernel) rfl rfl (tyX4_ok 6 (Nat.le_of_ble_eq_true rfl)) rfl rfl (Nat.le_of_ble_eq_true rfl) (Or.inl rfl) rfl ?_
  exact ns_ret C hR rfl rfl rfl dX4_init_43
/-! X5 -/
def FX5 (G : mh_G) (o : Nat) : nH := nu (nu (nu (nu (nu (n0) (o) (.inr (5, [.int 0, .int 0, .int 0, .int 0]))) (o) (.inr (5, [.int 0, .int 0, .int 0, .int 0]))) (o) (.inr (5, [.int 0, .int 0, .int 0, .int 0]))) (o) (.inr (5, [.int 0, .int 0, .int 0, .int 0]))) (o) (.inr (5, [.int 0, .int 0, .int 0, .int 0]))
theorem FX5_lo {G : mh_G} {o q : Nat} (h : q < o) : FX5 G o q = none := by
  unfold FX5
  exact nu_n (by omega) (nu_n (by omega) (nu_n (by omega) (nu_n (by omega) (nu_n (by omega) (rfl)))))
theorem FX5_obj (G : mh_G) (o : Nat) : ∃ vs, FX5 G o o = some (.inr (5, vs)) := by
  unfold FX5
  exact ⟨_, nu_s⟩
theorem FX5_own (G : mh_G) (o : Nat) : ∃ e, FX5 G o o = some e := by
  obtain ⟨vs, h⟩ := FX5_obj G o
  exact ⟨_, h⟩
def rmX5_init : Room := { frames := 1, cells := 0, slots := 0, locals := 20 }
theorem inX5_X5_init : ∀ w ∈ wsX50, w ∈ wsX5_init := by decide +kernel
set_option maxRecDepth 100000 in
set_option maxHeartbeats 8000000 in
theorem mtX5_init (l : Launch) (G : mh_G) (o : Nat) : Met l yX5_init wsX5_init rmX5_init (nPc G o (o + 1) (.inr (5, [.int 0, .int 0, .int 0, .int 0])) (fun _ => True)) (nQc G o (o + 1) 0 (FX5 G o)) 0 0 (nA o (o + 1)) := by
  refine n_met (cc := cX5_init) (maxL := 1) (by decide) rfl rfl (Nat.le_of_ble_eq_true rfl) ?_
  rintro X rfl rfl C hnm hR - ha hsz
  replace C : nC X (nA o (o + 1)) cX5_init wsX5_init RX5 1 := C
  refine ns_aload_n C dX5_init_0 0 rfl ?_
  refine ns_obj C dX5_init_1 (by decide +kernel) (by decide +kernel) (by decide +kernel) (Nat.le_of_ble_eq_true rfl) (Nat.le_of_ble_eq_true rfl) (Nat.le_of_ble_eq_true rfl) ?_
  refine ns_aload_n C dX5_init_4 0 rfl ?_
  refine ns_iconst C (0 : Int32) dX5_init_5 (by decide) ?_
  refine ns_puti C [.int 0, .int 0, .int 0, .int 0] dX5_init_6 (nu_s) (Cn := RX5) (T := TX5) rfl tyX5 tyX5_ok nmX5 inX5_X5_init (kf := 0) (Nat.le_of_ble_eq_true rfl) rfl (by decide +kernel) rfl (by decide +kernel) (Nat.le_of_ble_eq_true rfl) (Or.inl rfl) rfl ?_
  refine ns_aload_n C dX5_init_9 0 rfl ?_
  refine ns_iconst C (0 : Int32) dX5_init_10 (by decide) ?_
  refine ns_puti C [.int 0, .int 0, .int 0, .int 0] dX5_init_11 (nu_s) (Cn := RX5) (T := TX5) rfl tyX5 tyX5_ok nmX5 inX5_X5_init (kf := 1) (Nat.le_of_ble_eq_true rfl) rfl (by decide +kernel) rfl (by decide +kernel) (Nat.le_of_ble_eq_true rfl) (Or.inl rfl) rfl ?_
  refine ns_aload_n C dX5_init_14 0 rfl ?_
  refine ns_iconst C (0 : Int32) dX5_init_15 (by decide) ?_
  refine ns_puti C [.int 0, .int 0, .int 0, .int 0] dX5_init_16 (nu_s) (Cn := RX5) (T := TX5) rfl tyX5 tyX5_ok nmX5 inX5_X5_init (kf := 2) (Nat.le_of_ble_eq_true rfl) rfl (by decide +kernel) rfl (by decide +kernel) (Nat.le_of_ble_eq_true rfl) (Or.inl rfl) rfl ?_
  refine ns_aload_n C dX5_init_19 0 rfl ?_
  refine ns_iconst C (0 : Int32) dX5_init_20 (by decide) ?_
  refine ns_puti C [.int 0, .int 0, .int 0, .int 0] dX5_init_21 (nu_s) (Cn := RX5) (T := TX5) rfl tyX5 tyX5_ok nmX5 inX5_X5_init (kf := 3) (Nat.le_of_ble_eq_true rfl) rfl (by decide +kernel) rfl (by decide +kernel) (Nat.le_of_ble_eq_true rfl) (Or.inl rfl) rfl ?_
  exact ns_ret C hR rfl rfl rfl dX5_init_24
/-! X6 -/
def FX6 (G : mh_G) (o : Nat) : nH := nu (nu (nu (nu (nu (nu (n0) (o) (.inr (6, [.int 0, .int 0, .int 0, .null]))) (o) (.inr (6, [.int 0, .int 0, .int 0, .null]))) (o) (.inr (6, [.int 0, .int (-1), .int 0, .null]))) (o) (.inr (6, [.int 0, .int (-1), .int 0, .null]))) (o + 1) (.inl (G.2.1 0, 10, .inl (fun _ => 0)))) (o) (.inr (6, [.int 0, .int (-1), .int 0, .ref (o + 1)]))
theorem FX6_lo {G : mh_G} {o q : Nat} (h : q < o) : FX6 G o q = none := by
  unfold FX6
  exact nu_n (by omega) (nu_n (by omega) (nu_n (by omega) (nu_n (by omega) (nu_n (by omega) (nu_n (by omega) (rfl))))))
theorem FX6_obj (G : mh_G) (o : Nat) : ∃ vs, FX6 G o o = some (.inr (6, vs)) := by
  unfold FX6
  exact ⟨_, nu_s⟩
theorem FX6_own (G : mh_G) (o : Nat) : ∃ e, FX6 G o o = some e := by
  obtain ⟨vs, h⟩ := FX6_obj G o
  exact ⟨_, h⟩
def rmX6_init : Room := { frames := 1, cells := 1, slots := 10, locals := 20 }
theorem inX6_X6_init : ∀ w ∈ wsX60, w ∈ wsX6_init := by decide +kernel
set_option maxRecDepth 100000 in
set_option maxHeartbeats 8000000 in
theorem mtX6_init (l : Launch) (G : mh_G) (o : Nat) : Met l yX6_init wsX6_init rmX6_init (nPc G o (o + 1) (.inr (6, [.int 0, .int 0, .int 0, .null])) (fun _ => True)) (nQc G o (o + 1) 1 (FX6 G o)) 1 10 (nA o (o + 1)) := by
  refine n_met (cc := cX6_init) (maxL := 1) (by decide) rfl rfl (Nat.le_of_ble_eq_true rfl) ?_
  rintro X rfl rfl C hnm hR - ha hsz
  replace C : nC X (nA o (o + 1)) cX6_init wsX6_init RX6 1 := C
  refine ns_aload_n C dX6_init_0 0 rfl ?_
  refine ns_obj C dX6_init_1 (by decide +kernel) (by decide +kernel) (by decide +kernel) (Nat.le_of_ble_eq_true rfl) (Nat.le_of_ble_eq_true rfl) (Nat.le_of_ble_eq_true rfl) ?_
  refine ns_aload_n C dX6_init_4 0 rfl ?_
  refine ns_iconst C (0 : Int32) dX6_init_5 (by decide) ?_
  refine ns_puti C [.int 0, .int 0, .int 0, .null] dX6_init_6 (nu_s) (Cn := RX6) (T := TX6) rfl tyX6 tyX6_ok nmX6 inX6_X6_init (kf := 0) (Nat.le_of_ble_eq_true rfl) rfl (by decide +kernel) rfl (by decide +kernel) (Nat.le_of_ble_eq_true rfl) (Or.inl rfl) rfl ?_
  refine ns_aload_n C dX6_init_9 0 rfl ?_
  refine ns_iconst C (-1 : Int32) dX6_init_10 (by decide) ?_
  refine ns_puti C [.int 0, .int (-1), .int 0, .null] dX6_init_11 (nu_s) (Cn := RX6) (T := TX6) rfl tyX6 tyX6_ok nmX6 inX6_X6_init (kf := 1) (Nat.le_of_ble_eq_true rfl) rfl (by decide +kernel) rfl (by decide +kernel) (Nat.le_of_ble_eq_true rfl) (Or.inl rfl) rfl ?_
  refine ns_aload_n C dX6_init_14 0 rfl ?_
  refine ns_iconst C (0 : Int32) dX6_init_15 (by decide) ?_
  refine ns_puti C [.int 0, .int (-1), .int 0, .null] dX6_init_16 (nu_s) (Cn := RX6) (T := TX6) rfl tyX6 tyX6_ok nmX6 inX6_X6_init (kf := 2) (Nat.le_of_ble_eq_true rfl) rfl (by decide +kernel) rfl (by decide +kernel) (Nat.le_of_ble_eq_true rfl) (Or.inl rfl) rfl ?_
  refine ns_aload_n C dX6_init_19 0 rfl ?_
  refine ns_bipush C (10 : Int32) dX6_init_20 (by decide) ?_
  refine ns_newi C dX6_init_22 (m := 10) (by decide +kernel) (by decide) (by decide) (Nat.le_of_ble_eq_true rfl) (Nat.le_of_ble_eq_true rfl) (Nat.le_of_ble_eq_true rfl) ?_
  refine ns_putF C hnm [.int 0, .int (-1), .int 0, .ref (o + 1)] dX6_init_24 (nu_n (by omega) (nu_s)) (Cn := RX6) (T := TX6) rfl tyX6 tyX6_ok nmX6 inX6_X6_init (kf := 3) (Nat.le_of_ble_eq_true rfl) rfl (by decide +kernel) rfl rfl (tyX6_ok 3 (Nat.le_of_ble_eq_true rfl)) rfl rfl (Nat.le_of_ble_eq_true rfl) (Or.inl rfl) rfl ?_
  exact ns_ret C hR rfl rfl rfl dX6_init_27
/-! X7 -/
def FX7 (G : mh_G) (o : Nat) : nH := nu (nu (nu (nu (nu (nu (nu (nu (nu (nu (n0) (o) (.inr (7, [.int 0, .null, .null, .null, .null]))) (o) (.inr (7, [.int 0, .null, .null, .null, .null]))) (o + 1) (.inl (G.2.1 0, 10, .inl (fun _ => 0)))) (o) (.inr (7, [.int 0, .ref (o + 1), .null, .null, .null]))) (o + 2) (.inl (G.2.1 1, 10, .inl (fun _ => 0)))) (o) (.inr (7, [.int 0, .ref (o + 1), .ref (o + 2), .null, .null]))) (o + 3) (.inl (G.2.1 0, 10, .inl (fun _ => 0)))) (o) (.inr (7, [.int 0, .ref (o + 1), .ref (o + 2), .ref (o + 3), .null]))) (o + 4) (.inl (G.2.1 0, 10, .inl (fun _ => 0)))) (o) (.inr (7, [.int 0, .ref (o + 1), .ref (o + 2), .ref (o + 3), .ref (o + 4)]))
theorem FX7_lo {G : mh_G} {o q : Nat} (h : q < o) : FX7 G o q = none := by
  unfold FX7
  exact nu_n (by omega) (nu_n (by omega) (nu_n (by omega) (nu_n (by omega) (nu_n (by omega) (nu_n (by omega) (nu_n (by omega) (nu_n (by omega) (nu_n (by omega) (nu_n (by omega) (rfl))))))))))
theorem FX7_obj (G : mh_G) (o : Nat) : ∃ vs, FX7 G o o = some (.inr (7, vs)) := by
  unfold FX7
  exact ⟨_, nu_s⟩
theorem FX7_own (G : mh_G) (o : Nat) : ∃ e, FX7 G o o = some e := by
  obtain ⟨vs, h⟩ := FX7_obj G o
  exact ⟨_, h⟩
def rmX7_init : Room := { frames := 1, cells := 4, slots := 40, locals := 20 }
theorem inX7_X7_init : ∀ w ∈ wsX70, w ∈ wsX7_init := by decide +kernel
set_option maxRecDepth 100000 in
set_option maxHeartbeats 8000000 in
theorem mtX7_init (l : Launch) (G : mh_G) (o : Nat) : Met l yX7_init wsX7_init rmX7_init (nPc G o (o + 1) (.inr (7, [.int 0, .null, .null, .null, .null])) (fun _ => True)) (nQc G o (o + 1) 4 (FX7 G o)) 4 40 (nA o (o + 1)) := by
  refine n_met (cc := cX7_init) (maxL := 1) (by decide) rfl rfl (Nat.le_of_ble_eq_true rfl) ?_
  rintro X rfl rfl C hnm hR - ha hsz
  replace C : nC X (nA o (o + 1)) cX7_init wsX7_init RX7 1 := C
  refine ns_aload_n C dX7_init_0 0 rfl ?_
  refine ns_obj C dX7_init_1 (by decide +kernel) (by decide +kernel) (by decide +kernel) (Nat.le_of_ble_eq_true rfl) (Nat.le_of_ble_eq_true rfl) (Nat.le_of_ble_eq_true rfl) ?_
  refine ns_aload_n C dX7_init_4 0 rfl ?_
  refine ns_iconst C (0 : Int32) dX7_init_5 (by decide) ?_
  refine ns_puti C [.int 0, .null, .null, .null, .null] dX7_init_6 (nu_s) (Cn := RX7) (T := TX7) rfl tyX7 tyX7_ok nmX7 inX7_X7_init (kf := 0) (Nat.le_of_ble_eq_true rfl) rfl (by decide +kernel) rfl (by decide +kernel) (Nat.le_of_ble_eq_true rfl) (Or.inl rfl) rfl ?_
  refine ns_aload_n C dX7_init_9 0 rfl ?_
  refine ns_bipush C (10 : Int32) dX7_init_10 (by decide) ?_
  refine ns_newi C dX7_init_12 (m := 10) (by decide +kernel) (by decide) (by decide) (Nat.le_of_ble_eq_true rfl) (Nat.le_of_ble_eq_true rfl) (Nat.le_of_ble_eq_true rfl) ?_
  refine ns_putF C hnm [.int 0, .ref (o + 1), .null, .null, .null] dX7_init_14 (nu_n (by omega) (nu_s)) (Cn := RX7) (T := TX7) rfl tyX7 tyX7_ok nmX7 inX7_X7_init (kf := 1) (Nat.le_of_ble_eq_true rfl) rfl (by decide +kernel) rfl rfl (tyX7_ok 1 (Nat.le_of_ble_eq_true rfl)) rfl rfl (Nat.le_of_ble_eq_true rfl) (Or.inl rfl) rfl ?_
  refine ns_aload_n C dX7_init_17 0 rfl ?_
  refine ns_bipush C (10 : Int32) dX7_init_18 (by decide) ?_
  refine ns_newz C dX7_init_20 (m := 10) (by decide +kernel) (by decide) (by decide) (Nat.le_of_ble_eq_true rfl) (Nat.le_of_ble_eq_true rfl) (Nat.le_of_ble_eq_true rfl) ?_
  refine ns_putF C hnm [.int 0, .ref (o + 1), .ref (o + 2), .null, .null] dX7_init_22 (nu_n (by omega) (nu_s)) (Cn := RX7) (T := TX7) rfl tyX7 tyX7_ok nmX7 inX7_X7_init (kf := 2) (Nat.le_of_ble_eq_true rfl) rfl (by decide +kernel) rfl rfl (tyX7_ok 2 (Nat.le_of_ble_eq_true rfl)) rfl rfl (Nat.le_of_ble_eq_true rfl) (Or.inl rfl) rfl ?_
  refine ns_aload_n C dX7_init_25 0 rfl ?_
  refine ns_bipush C (10 : Int32) dX7_init_26 (by decide) ?_
  refine ns_newi C dX7_init_28 (m := 10) (by decide +kernel) (by decide) (by decide) (Nat.le_of_ble_eq_true rfl) (Nat.le_of_ble_eq_true rfl) (Nat.le_of_ble_eq_true rfl) ?_
  refine ns_putF C hnm [.int 0, .ref (o + 1), .ref (o + 2), .ref (o + 3), .null] dX7_init_30 (nu_n (by omega) (nu_s)) (Cn := RX7) (T := TX7) rfl tyX7 tyX7_ok nmX7 inX7_X7_init (kf := 3) (Nat.le_of_ble_eq_true rfl) rfl (by decide +kernel) rfl rfl (tyX7_ok 3 (Nat.le_of_ble_eq_true rfl)) rfl rfl (Nat.le_of_ble_eq_true rfl) (Or.inl rfl) rfl ?_
  refine ns_aload_n C dX7_init_33 0 rfl ?_
  refine ns_bipush C (10 : Int32) dX7_init_34 (by decide) ?_
  refine ns_newi C dX7_init_36 (m := 10) (by decide +kernel) (by decide) (by decide) (Nat.le_of_ble_eq_true rfl) (Nat.le_of_ble_eq_true rfl) (Nat.le_of_ble_eq_true rfl) ?_
  refine ns_putF C hnm [.int 0, .ref (o + 1), .ref (o + 2), .ref (o + 3), .ref (o + 4)] dX7_init_38 (nu_n (by omega) (nu_s)) (Cn := RX7) (T := TX7) rfl tyX7 tyX7_ok nmX7 inX7_X7_init (kf := 4) (Nat.le_of_ble_eq_true rfl) rfl (by decide +kernel) rfl rfl (tyX7_ok 4 (Nat.le_of_ble_eq_true rfl)) rfl rfl (Nat.le_of_ble_eq_true rfl) (Or.inl rfl) rfl ?_
  exact ns_ret C hR rfl rfl rfl dX7_init_41
/-! X8 -/
def FX8 (G : mh_G) (o : Nat) : nH := nu (nu (nu (n0) (o) (.inr (8, [.null]))) (o + 1) (.inl (G.2.1 0, 6, .inl (fun _ => 0)))) (o) (.inr (8, [.ref (o + 1)]))
theorem FX8_lo {G : mh_G} {o q : Nat} (h : q < o) : FX8 G o q = none := by
  unfold FX8
  exact nu_n (by omega) (nu_n (by omega) (nu_n (by omega) (rfl)))
theorem FX8_obj (G : mh_G) (o : Nat) : ∃ vs, FX8 G o o = some (.inr (8, vs)) := by
  unfold FX8
  exact ⟨_, nu_s⟩
theorem FX8_own (G : mh_G) (o : Nat) : ∃ e, FX8 G o o = some e := by
  obtain ⟨vs, h⟩ := FX8_obj G o
  exact ⟨_, h⟩
def rmX8_init : Room := { frames := 1, cells := 1, slots := 6, locals := 20 }
theorem inX8_X8_init : ∀ w ∈ wsX80, w ∈ wsX8_init := by decide +kernel
set_option maxRecDepth 100000 in
set_option maxHeartbeats 8000000 in
theorem mtX8_init (l : Launch) (G : mh_G) (o : Nat) : Met l yX8_init wsX8_init rmX8_init (nPc G o (o + 1) (.inr (8, [.null])) (fun _ => True)) (nQc G o (o + 1) 1 (FX8 G o)) 1 6 (nA o (o + 1)) := by
  refine n_met (cc := cX8_init) (maxL := 1) (by decide) rfl rfl (Nat.le_of_ble_eq_true rfl) ?_
  rintro X rfl rfl C hnm hR - ha hsz
  replace C : nC X (nA o (o + 1)) cX8_init wsX8_init RX8 1 := C
  refine ns_aload_n C dX8_init_0 0 rfl ?_
  refine ns_obj C dX8_init_1 (by decide +kernel) (by decide +kernel) (by decide +kernel) (Nat.le_of_ble_eq_true rfl) (Nat.le_of_ble_eq_true rfl) (Nat.le_of_ble_eq_true rfl) ?_
  refine ns_aload_n C dX8_init_4 0 rfl ?_
  refine ns_bipush C (6 : Int32) dX8_init_5 (by decide) ?_
  refine ns_newi C dX8_init_7 (m := 6) (by decide +kernel) (by decide) (by decide) (Nat.le_of_ble_eq_true rfl) (Nat.le_of_ble_eq_true rfl) (Nat.le_of_ble_eq_true rfl) ?_
  refine ns_putF C hnm [.ref (o + 1)] dX8_init_9 (nu_n (by omega) (nu_s)) (Cn := RX8) (T := TX8) rfl tyX8 tyX8_ok nmX8 inX8_X8_init (kf := 0) (Nat.le_of_ble_eq_true rfl) rfl (by decide +kernel) rfl rfl (tyX8_ok 0 (Nat.le_of_ble_eq_true rfl)) rfl rfl (Nat.le_of_ble_eq_true rfl) (Or.inl rfl) rfl ?_
  exact ns_ret C hR rfl rfl rfl dX8_init_12
/-! X2 -/
def FX2 (G : mh_G) (o : Nat) : nH := nu (nov (mnF G (o + 3)) (nu (nu (nu (nu (nu (nu (n0) (o) (.inr (2, [.null, .null, .int 0, .null]))) (o + 1) (.inl (G.2.1 0, 5, .inl (fun _ => 0)))) (o) (.inr (2, [.ref (o + 1), .null, .int 0, .null]))) (o + 2) (.inl (G.2.1 0, 5, .inl (fun _ => 0)))) (o) (.inr (2, [.ref (o + 1), .ref (o + 2), .int 0, .null]))) (o) (.inr (2, [.ref (o + 1), .ref (o + 2), .int 0, .null])))) (o) (.inr (2, [.ref (o + 1), .ref (o + 2), .int 0, .ref (o + 3)]))
theorem FX2_lo {G : mh_G} {o q : Nat} (h : q < o) : FX2 G o q = none := by
  unfold FX2
  exact nu_n (by omega) (nov_n (mnF_lo (by omega)) (nu_n (by omega) (nu_n (by omega) (nu_n (by omega) (nu_n (by omega) (nu_n (by omega) (nu_n (by omega) (rfl))))))))
theorem FX2_obj (G : mh_G) (o : Nat) : ∃ vs, FX2 G o o = some (.inr (2, vs)) := by
  unfold FX2
  exact ⟨_, nu_s⟩
theorem FX2_own (G : mh_G) (o : Nat) : ∃ e, FX2 G o o = some e := by
  obtain ⟨vs, h⟩ := FX2_obj G o
  exact ⟨_, h⟩
def rmX2_init : Room := { frames := 1, cells := 9, slots := 880, locals := 20 }
theorem inX2_X2_init : ∀ w ∈ wsX20, w ∈ wsX2_init := by decide +kernel
set_option maxRecDepth 100000 in
set_option maxHeartbeats 8000000 in
theorem mtX2_init (hMN : mna_row) (l : Launch) (G : mh_G) (o : Nat) : Met l yX2_init wsX2_init rmX2_init (nPc G o (o + 1) (.inr (2, [.null, .null, .int 0, .null])) nAOA) (nQc G o (o + 1) 9 (FX2 G o)) 9 880 (nA o (o + 1)) := by
  refine n_met (cc := cX2_init) (maxL := 1) (by decide) rfl rfl (Nat.le_of_ble_eq_true rfl) ?_
  rintro X rfl rfl C hnm hR hZA ha hsz
  replace C : nC X (nA o (o + 1)) cX2_init wsX2_init RX2 1 := C
  refine ns_aload_n C dX2_init_0 0 rfl ?_
  refine ns_obj C dX2_init_1 (by decide +kernel) (by decide +kernel) (by decide +kernel) (Nat.le_of_ble_eq_true rfl) (Nat.le_of_ble_eq_true rfl) (Nat.le_of_ble_eq_true rfl) ?_
  refine ns_aload_n C dX2_init_4 0 rfl ?_
  refine ns_iconst C (5 : Int32) dX2_init_5 (by decide) ?_
  refine ns_newi C dX2_init_6 (m := 5) (by decide +kernel) (by decide) (by decide) (Nat.le_of_ble_eq_true rfl) (Nat.le_of_ble_eq_true rfl) (Nat.le_of_ble_eq_true rfl) ?_
  refine ns_putF C hnm [.ref (o + 1), .null, .int 0, .null] dX2_init_8 (nu_n (by omega) (nu_s)) (Cn := RX2) (T := TX2) rfl tyX2 tyX2_ok nmX2 inX2_X2_init (kf := 0) (Nat.le_of_ble_eq_true rfl) rfl (by decide +kernel) rfl rfl (tyX2_ok 0 (Nat.le_of_ble_eq_true rfl)) rfl rfl (Nat.le_of_ble_eq_true rfl) (Or.inl rfl) rfl ?_
  refine ns_aload_n C dX2_init_11 0 rfl ?_
  refine ns_iconst C (5 : Int32) dX2_init_12 (by decide) ?_
  refine ns_newi C dX2_init_13 (m := 5) (by decide +kernel) (by decide) (by decide) (Nat.le_of_ble_eq_true rfl) (Nat.le_of_ble_eq_true rfl) (Nat.le_of_ble_eq_true rfl) ?_
  refine ns_putF C hnm [.ref (o + 1), .ref (o + 2), .int 0, .null] dX2_init_15 (nu_n (by omega) (nu_s)) (Cn := RX2) (T := TX2) rfl tyX2 tyX2_ok nmX2 inX2_X2_init (kf := 1) (Nat.le_of_ble_eq_true rfl) rfl (by decide +kernel) rfl rfl (tyX2_ok 1 (Nat.le_of_ble_eq_true rfl)) rfl rfl (Nat.le_of_ble_eq_true rfl) (Or.inl rfl) rfl ?_
  refine ns_aload_n C dX2_init_18 0 rfl ?_
  refine ns_iconst C (0 : Int32) dX2_init_19 (by decide) ?_
  refine ns_puti C [.ref (o + 1), .ref (o + 2), .int 0, .null] dX2_init_20 (nu_s) (Cn := RX2) (T := TX2) rfl tyX2 tyX2_ok nmX2 inX2_X2_init (kf := 2) (Nat.le_of_ble_eq_true rfl) rfl (by decide +kernel) rfl (by decide +kernel) (Nat.le_of_ble_eq_true rfl) (Or.inl rfl) rfl ?_
  refine ns_aload_n C dX2_init_23 0 rfl ?_
  refine ns_bipush C (6 : Int32) dX2_init_24 (by decide) ?_
  refine ns_sipush C (144 : Int32) dX2_init_26 (by decide) ?_
  refine hMN X rmX2_init 1 _ _ _ _ _ _ _ _ _ _ _ C 22 dX2_init_29 (by decide +kernel) hZA (by decide +kernel) (Nat.le_of_ble_eq_true rfl) (Nat.le_of_ble_eq_true rfl) ?_
  refine ns_putF C hnm [.ref (o + 1), .ref (o + 2), .int 0, .ref (o + 3)] dX2_init_33 (nov_n (mnF_lo (by omega)) (nu_s)) (Cn := RX2) (T := TX2) rfl tyX2 tyX2_ok nmX2 inX2_X2_init (kf := 3) (Nat.le_of_ble_eq_true rfl) rfl (by decide +kernel) rfl rfl (tyX2_ok 3 (Nat.le_of_ble_eq_true rfl)) rfl rfl (Nat.le_of_ble_eq_true rfl) (Or.inl rfl) rfl ?_
  exact ns_ret C hR rfl rfl rfl dX2_init_36
/-! X1 -/
def FX1 (G : mh_G) (o : Nat) : nH := lpF G (o + 1) 5 40 (o + 2) (1 + 0) (FX0 G) (nu (nu (nu (nu (nu (n0) (o) (.inr (1, [.null, .int 0, .int 0]))) (o + 1) (.inl (G.2.1 5, 40, .inr (.inr (.inr (.inr (fun _ => none))))))) (o) (.inr (1, [.ref (o + 1), .int 0, .int 0]))) (o) (.inr (1, [.ref (o + 1), .int 0, .int 0]))) (o) (.inr (1, [.ref (o + 1), .int 0, .int 0]))) 40
theorem FX1_lo {G : mh_G} {o q : Nat} (h : q < o) : FX1 G o q = none := by
  unfold FX1
  exact lpF_lo (by omega) (by omega) (nu_n (by omega) (nu_n (by omega) (nu_n (by omega) (nu_n (by omega) (nu_n (by omega) (rfl))))))
theorem FX1_obj (G : mh_G) (o : Nat) : ∃ vs, FX1 G o o = some (.inr (1, vs)) := by
  unfold FX1
  exact ⟨_, lpF_lo (by omega) (by omega) (nu_s)⟩
theorem FX1_own (G : mh_G) (o : Nat) : ∃ e, FX1 G o o = some e := by
  obtain ⟨vs, h⟩ := FX1_obj G o
  exact ⟨_, h⟩
def rmX1_init : Room := { frames := 2, cells := 41, slots := 240, locals := 40 }
theorem inX0_X1_init : ∀ w ∈ wsX00, w ∈ wsX1_init := by decide +kernel
theorem inX1_X1_init : ∀ w ∈ wsX10, w ∈ wsX1_init := by decide +kernel
set_option maxRecDepth 100000 in
set_option maxHeartbeats 8000000 in
theorem mtX1_init (l : Launch) (G : mh_G) (o : Nat) : Met l yX1_init wsX1_init rmX1_init (nPc G o (o + 1) (.inr (1, [.null, .int 0, .int 0])) nZ1) (nQc G o (o + 1) 41 (FX1 G o)) 41 240 (nA o (o + 1)) := by
  refine n_met (cc := cX1_init) (maxL := 2) (by decide) rfl rfl (Nat.le_of_ble_eq_true rfl) ?_
  rintro X rfl rfl C hnm hR ⟨hZ0, hN24⟩ ha hsz
  replace C : nC X (nA o (o + 1)) cX1_init wsX1_init RX1 2 := C
  refine ns_aload_n C dX1_init_0 0 rfl ?_
  refine ns_obj C dX1_init_1 (by decide +kernel) (by decide +kernel) (by decide +kernel) (Nat.le_of_ble_eq_true rfl) (Nat.le_of_ble_eq_true rfl) (Nat.le_of_ble_eq_true rfl) ?_
  refine ns_aload_n C dX1_init_4 0 rfl ?_
  refine ns_bipush C (40 : Int32) dX1_init_5 (by decide) ?_
  refine ns_newq C dX1_init_7 (q0 := 5) (m := 40) (Cn := RX0) (by decide +kernel) hZ0 rfl (by decide) (by decide) (Nat.le_of_ble_eq_true rfl) (Nat.le_of_ble_eq_true rfl) (Nat.le_of_ble_eq_true rfl) ?_
  refine ns_putF C hnm [.ref (o + 1), .int 0, .int 0] dX1_init_10 (nu_n (by omega) (nu_s)) (Cn := RX1) (T := TX1) rfl tyX1 tyX1_ok nmX1 inX1_X1_init (kf := 0) (Nat.le_of_ble_eq_true rfl) rfl (by decide +kernel) rfl rfl (tyX1_ok 0 (Nat.le_of_ble_eq_true rfl)) rfl rfl (Nat.le_of_ble_eq_true rfl) (Or.inl rfl) rfl ?_
  refine ns_aload_n C dX1_init_13 0 rfl ?_
  refine ns_iconst C (0 : Int32) dX1_init_14 (by decide) ?_
  refine ns_puti C [.ref (o + 1), .int 0, .int 0] dX1_init_15 (nu_s) (Cn := RX1) (T := TX1) rfl tyX1 tyX1_ok nmX1 inX1_X1_init (kf := 1) (Nat.le_of_ble_eq_true rfl) rfl (by decide +kernel) rfl (by decide +kernel) (Nat.le_of_ble_eq_true rfl) (Or.inl rfl) rfl ?_
  refine ns_aload_n C dX1_init_18 0 rfl ?_
  refine ns_iconst C (0 : Int32) dX1_init_19 (by decide) ?_
  refine ns_puti C [.ref (o + 1), .int 0, .int 0] dX1_init_20 (nu_s) (Cn := RX1) (T := TX1) rfl tyX1 tyX1_ok nmX1 inX1_X1_init (kf := 2) (Nat.le_of_ble_eq_true rfl) rfl (by decide +kernel) rfl (by decide +kernel) (Nat.le_of_ble_eq_true rfl) (Or.inl rfl) rfl ?_
  refine ns_iconst C (0 : Int32) dX1_init_23 (by decide) ?_
  refine ns_istore_n C dX1_init_24 rfl (Nat.le_of_ble_eq_true rfl) rfl ?_
  refine ns_sub (lpF_zero (arr := o + 1) (q0 := 5) (m := 40) (B := o + 2) (s := 1 + 0) (Fc := FX0 (xg X)) (nu_n (by omega) (nu_n (by omega) (nu_n (by omega) (nu_s))))) ?_
  refine n_loop C (arr := o + 1) (q0 := 5) (m := 40) (B := o + 2) (mc := 0) (ms := 0) (Fc := FX0 (xg X)) (cx := 1) (kf := 0) (ci := 0) (CX := RX1) (TX := TX1) (fsx := [.ref (o + 1), .int 0, .int 0]) (Cn := RX0) (T := TX0) (fs := [.int 0, .int 0, .int 0, .int 0, .int 0]) dX1_init_25 dX1_init_26 dX1_init_27 dX1_init_30 dX1_init_31 dX1_init_34 dX1_init_35 dX1_init_38 dX1_init_39 dX1_init_42 dX1_init_43 dX1_init_46 dX1_init_47 dX1_init_50 (NX := 3) (NN := 5) rfl inX1_X1_init (Nat.le_of_ble_eq_true rfl) rfl (by decide +kernel) rfl (nu_s) (by omega) (by omega) (by omega) rfl tyX0 tyX0_ok inX0_X1_init (by decide +kernel) (by decide +kernel) (by decide +kernel) (by decide) rfl (Nat.le_of_ble_eq_true rfl) (Nat.le_of_ble_eq_true rfl) (fun o => mtX0_init (xl X) (xg X) o) (Or.inr ⟨"BarMeasure", va_cnB 0 C.2.2.1 ggX1_init_X0_init rfl rfl rfl hN24 (C.2.2.1 (Cond.initialized RX0) (by decide +kernel)) (by decide +kernel) ⟨(Nat.le_of_ble_eq_true rfl), (Nat.le_of_ble_eq_true rfl)⟩, rfl, C.2.2.1 (Cond.instanceMethod yX0_init) (by decide +kernel)⟩) (fun _ _ h => FX0_lo h) (fun _ => FX0_obj _ _) (Or.inr (by omega)) (by omega) (Nat.le_of_ble_eq_true rfl) (Nat.le_of_ble_eq_true rfl) ?_ 40 0 rfl
  exact ns_ret C hR rfl rfl rfl dX1_init_53
