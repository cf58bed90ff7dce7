/-! ===== the tables, and the walk to the loop ===== -/
theorem memL_1 {w : Cond} (h : w ∈ wsL_law_r1) : w ∈ wsL_law := List.mem_append_left _ (List.mem_append_left _ (List.mem_append_left _ (List.mem_append_left _ (List.mem_append_left _ (List.mem_append_left _ (List.mem_append_left _ (List.mem_append_left _ (List.mem_append_left _ (List.mem_append_left _ (List.mem_append_left _ (List.mem_append_left _ (List.mem_append_left _ h))))))))))))
theorem memL_2 {w : Cond} (h : w ∈ wsL_law_r2) : w ∈ wsL_law := List.mem_append_left _ (List.mem_append_left _ (List.mem_append_left _ (List.mem_append_left _ (List.mem_append_left _ (List.mem_append_left _ (List.mem_append_left _ (List.mem_append_left _ (List.mem_append_left _ (List.mem_append_left _ (List.mem_append_left _ (List.mem_append_left _ (List.mem_append_right _ (List.mem_append_left _ h)))))))))))))
theorem memL_3 {w : Cond} (h : w ∈ wsL_law_r3) : w ∈ wsL_law := List.mem_append_left _ (List.mem_append_left _ (List.mem_append_left _ (List.mem_append_left _ (List.mem_append_left _ (List.mem_append_left _ (List.mem_append_left _ (List.mem_append_left _ (List.mem_append_left _ (List.mem_append_left _ (List.mem_append_left _ (List.mem_append_left _ (List.mem_append_right _ (List.mem_append_right _ (List.mem_append_left _ h))))))))))))))
theorem memL_6 {w : Cond} (h : w ∈ wsL_law_r6) : w ∈ wsL_law := List.mem_append_left _ (List.mem_append_left _ (List.mem_append_left _ (List.mem_append_left _ (List.mem_append_left _ (List.mem_append_left _ (List.mem_append_left _ (List.mem_append_left _ (List.mem_append_left _ (List.mem_append_left _ (List.mem_append_left _ (List.mem_append_left _ (List.mem_append_right _ (List.mem_append_right _ (List.mem_append_right _ (List.mem_append_right _ (List.mem_append_right _ (List.mem_append_left _ h)))))))))))))))))
theorem lw_Kn {s : State} {args : Array Value} (hts : ∀ w ∈ lw_tbl, w.before args s = true) : ∃ D : va_G, ∀ (c : Nat) (q : vw_C), vwCl[c]? = some q → u_Kn s q.1 q.2.1 q.2.2 (D.1 c) (D.2 c) := by
  obtain ⟨c0, i0, k0⟩ := u_known (C := RX0) (T := TX0) (N := 5) (n := 5) hts inX0 (hts (Cond.instantiable RX0 5) (lin_t1 (List.mem_of_getElem? (i := 45) (by decide +kernel))))
  obtain ⟨c1, i1, k1⟩ := u_known (C := RX1) (T := TX1) (N := 3) (n := 3) hts inX1 (hts (Cond.instantiable RX1 3) (lin_t1 (List.mem_of_getElem? (i := 38) (by decide +kernel))))
  obtain ⟨c2, i2, k2⟩ := u_known (C := RX2) (T := TX2) (N := 4) (n := 4) hts inX2 (hts (Cond.instantiable RX2 4) (lin_t1 (List.mem_of_getElem? (i := 114) (by decide +kernel))))
  obtain ⟨c3, i3, k3⟩ := u_known (C := RX3) (T := TX3) (N := 3) (n := 3) hts inX3 (hts (Cond.instantiable RX3 3) (lin_t1 (List.mem_of_getElem? (i := 84) (by decide +kernel))))
  obtain ⟨c4, i4, k4⟩ := u_known (C := RX4) (T := TX4) (N := 7) (n := 7) hts inX4 (hts (Cond.instantiable RX4 7) (lin_t1 (List.mem_of_getElem? (i := 135) (by decide +kernel))))
  obtain ⟨c5, i5, k5⟩ := u_known (C := RX5) (T := TX5) (N := 4) (n := 4) hts inX5 (hts (Cond.instantiable RX5 4) (lin_t1 (List.mem_of_getElem? (i := 217) (by decide +kernel))))
  obtain ⟨c6, i6, k6⟩ := u_known (C := RX6) (T := TX6) (N := 4) (n := 4) hts inX6 (hts (Cond.instantiable RX6 4) (lin_t1 (List.mem_of_getElem? (i := 169) (by decide +kernel))))
  obtain ⟨c7, i7, k7⟩ := u_known (C := RX7) (T := TX7) (N := 5) (n := 5) hts inX7 (hts (Cond.instantiable RX7 5) (lin_t1 (List.mem_of_getElem? (i := 190) (by decide +kernel))))
  obtain ⟨c8, i8, k8⟩ := u_known (C := RX8) (T := TX8) (N := 1) (n := 1) hts inX8 (hts (Cond.instantiable RX8 1) (lin_t1 (List.mem_of_getElem? (i := 103) (by decide +kernel))))
  obtain ⟨c9, i9, k9⟩ := u_known (C := RX9) (T := TX9) (N := 14) (n := 14) hts inX9 (hts (Cond.instantiable RX9 14) (lin_t1 (List.mem_of_getElem? (i := 15) (by decide +kernel))))
  obtain ⟨c10, i10, k10⟩ := u_known (C := RX10) (T := TX10) (N := 34) (n := 34) hts inX10 (hts (Cond.instantiable RX10 34) (lin_t3 (List.mem_of_getElem? (i := 128) (by decide +kernel))))
  refine ⟨(fun k => match k with | 0 => c0 | 1 => c1 | 2 => c2 | 3 => c3 | 4 => c4 | 5 => c5 | 6 => c6 | 7 => c7 | 8 => c8 | 9 => c9 | _ => c10, fun k => match k with | 0 => i0 | 1 => i1 | 2 => i2 | 3 => i3 | 4 => i4 | 5 => i5 | 6 => i6 | 7 => i7 | 8 => i8 | 9 => i9 | _ => i10), ?_⟩
  intro c q hq
  match c, hq with
  | 0, hq => cases hq; exact k0
  | 1, hq => cases hq; exact k1
  | 2, hq => cases hq; exact k2
  | 3, hq => cases hq; exact k3
  | 4, hq => cases hq; exact k4
  | 5, hq => cases hq; exact k5
  | 6, hq => cases hq; exact k6
  | 7, hq => cases hq; exact k7
  | 8, hq => cases hq; exact k8
  | 9, hq => cases hq; exact k9
  | 10, hq => cases hq; exact k10
  | c + 11, hq => cases hq
theorem lw_AO {s : State} {args : Array Value} (hts : ∀ w ∈ lw_tbl, w.before args s = true) : (va_AO RX4 s ∧ va_AO RX6 s ∧ va_AO RX7 s ∧ va_AO RX0 s ∧ va_AO RX5 s) ∧ nAOA s ∧ nCast s ∧ nN9 s := by
  refine ⟨⟨va_AO.of (hts (Cond.arrayOver (.object RX4)) (lin_t1 (List.mem_of_getElem? (i := 23) (by decide +kernel)))), va_AO.of (hts (Cond.arrayOver (.object RX6)) (lin_t1 (List.mem_of_getElem? (i := 25) (by decide +kernel)))), va_AO.of (hts (Cond.arrayOver (.object RX7)) (lin_t1 (List.mem_of_getElem? (i := 36) (by decide +kernel)))), va_AO.of (hts (Cond.arrayOver (.object RX0)) (lin_t1 (List.mem_of_getElem? (i := 44) (by decide +kernel)))), va_AO.of (hts (Cond.arrayOver (.object RX5)) (lin_t1 (List.mem_of_getElem? (i := 101) (by decide +kernel))))⟩, hts (Cond.arrayOver (.array .int)) (lin_t1 (List.mem_of_getElem? (i := 120) (by decide +kernel))), Cond.castable_spec (hts (Cond.castable "[I" "java/lang/Cloneable") (lin_t1 (List.mem_of_getElem? (i := 33) (by decide +kernel)))), ?_⟩
  exact ⟨va_Nw.of rfl (hts (Cond.methodLinkNest RX1 24 yX0_init "BarMeasure") (lin_t1 (List.mem_of_getElem? (i := 46) (by decide +kernel)))), va_Nw.of rfl (hts (Cond.methodLinkNest RX9 61 yX3_init "BarMeasure") (lin_t1 (List.mem_of_getElem? (i := 85) (by decide +kernel)))), va_Nw.of rfl (hts (Cond.methodLinkNest RX9 77 yX8_init "BarMeasure") (lin_t1 (List.mem_of_getElem? (i := 104) (by decide +kernel)))), va_Nw.of rfl (hts (Cond.methodLinkNest RX9 84 yX2_init "BarMeasure") (lin_t1 (List.mem_of_getElem? (i := 115) (by decide +kernel)))), va_Nw.of rfl (hts (Cond.methodLinkNest RX9 89 yX4_init "BarMeasure") (lin_t1 (List.mem_of_getElem? (i := 136) (by decide +kernel)))), va_Nw.of rfl (hts (Cond.methodLinkNest RX9 90 yX6_init "BarMeasure") (lin_t1 (List.mem_of_getElem? (i := 170) (by decide +kernel)))), va_Nw.of rfl (hts (Cond.methodLinkNest RX9 91 yX7_init "BarMeasure") (lin_t1 (List.mem_of_getElem? (i := 191) (by decide +kernel)))), va_Nw.of rfl (hts (Cond.methodLinkNest RX9 92 yX5_init "BarMeasure") (lin_t1 (List.mem_of_getElem? (i := 218) (by decide +kernel))))⟩
theorem lw_K {s : State} {args : Array Value} (hts : ∀ w ∈ lw_tbl, w.before args s = true) : ∃ (D : va_G) (cls : Nat → ClassId), ∀ b, va_K D vwCl (mh_tys (nG D cls b)) s := by
  obtain ⟨D, hD⟩ := lw_Kn hts
  obtain ⟨⟨h4, h6, h7, h0, h5⟩, hA, -, -⟩ := lw_AO hts
  obtain ⟨a0, k0, p0, x1, x2, x3⟩ := Cond.arrayClass_spec (hts (Cond.arrayClass .int) (lin_t1 (List.mem_of_getElem? (i := 71) (by decide +kernel))))
  obtain ⟨a1, k1, p1, y1, y2, y3⟩ := Cond.arrayClass_spec (hts (Cond.arrayClass .boolean) (lin_t1 (List.mem_of_getElem? (i := 216) (by decide +kernel))))
  obtain ⟨p2, a2, k2, e1, e2, e3, e4, e5⟩ := Cond.arrayOver_spec h4
  obtain ⟨p3, a3, k3, f1, f2, f3, f4, f5⟩ := Cond.arrayOver_spec h6
  obtain ⟨p4, a4, k4, g1, g2, g3, g4, g5⟩ := Cond.arrayOver_spec h7
  obtain ⟨p5, a5, k5, i1, i2, i3, i4, i5⟩ := Cond.arrayOver_spec h0
  obtain ⟨p6, a6, k6, j1, j2, j3, j4, j5⟩ := Cond.arrayOver_spec h5
  obtain ⟨p7, a7, k7, l1, l2, l3, l4, l5⟩ := arrayOverA_spec hA
  refine ⟨D, fun k => match k with | 0 => a0 | 1 => a1 | 2 => a2 | 3 => a3 | 4 => a4 | 5 => a5 | 6 => a6 | _ => a7, fun b => ⟨hD, fun k q hq => ?_⟩⟩
  match k, hq with
  | 0, hq => cases hq; exact ⟨fun n z => ⟨fun k h => (by cases h), k0, x2, p0, x3⟩, x1⟩
  | 1, hq => cases hq; exact ⟨fun n z => ⟨fun k h => (by cases h), k1, y2, p1, y3⟩, y1⟩
  | 2, hq => cases hq; exact ⟨fun n z => ⟨fun k h => (by cases h), k2, e3, p2, e4⟩, k2, p2, e3, e4, e1, e5⟩
  | 3, hq => cases hq; exact ⟨fun n z => ⟨fun k h => (by cases h), k3, f3, p3, f4⟩, k3, p3, f3, f4, f1, f5⟩
  | 4, hq => cases hq; exact ⟨fun n z => ⟨fun k h => (by cases h), k4, g3, p4, g4⟩, k4, p4, g3, g4, g1, g5⟩
  | 5, hq => cases hq; exact ⟨fun n z => ⟨fun k h => (by cases h), k5, i3, p5, i4⟩, k5, p5, i3, i4, i1, i5⟩
  | 6, hq => cases hq; exact ⟨fun n z => ⟨fun k h => (by cases h), k6, j3, p6, j4⟩, k6, p6, j3, j4, j1, j5⟩
  | 7, hq => cases hq; exact ⟨fun n z => ⟨fun k h => (by cases h), k7, l3, p7, l4⟩, l5⟩
  | k + 8, hq => cases hq
theorem len_small {tm : Term} {s : State} {args : Array Value} {v : Value} {b : Nat} {cell : Cell} (hv : (Term.length tm).eval args s none [] s = some v) (ht : tm.eval args s none [] s = some (.ref b)) (harr : s.arrayAt? b = some cell) : cell.slots.size < 2 ^ 31 := by
  simp only [Term.eval, ht, harr, Option.bind_eq_bind, Option.bind_some] at hv
  by_cases hlt : cell.slots.size < 2147483648
  · exact hlt
  · simp [hlt] at hv
/-- a table that the class keeps, and nobody writes: where it lies, and what it holds -/
theorem lw_tab {s : State} {args : Array Value} {nm : String} {fn : Nat → Int32} {A : Nat → Prop} (hs : ∀ w ∈ lw_tbl, w.before args s = true) (hl : Cond.laysStatic "BarMeasure" nm "[I" ∈ lw_tbl) (h0 : (Cond.arrayOf (.static "BarMeasure" nm "[I") .int).before args s = true) (h1 : (Cond.eq (.length (.static "BarMeasure" nm "[I")) (.int 7)).before args s = true)
    (h2 : ∀ j : Nat, j < 7 → (Cond.eq (.elem (.static "BarMeasure" nm "[I") (.int (Int32.ofNat j))) (.int (fn j))).before args s = true) (hA : ∀ a : Nat, a < s.heap.size → ¬ A a) :
    ∃ t : Nat, va_Z "BarMeasure" nm "[I" (.ref t) A s s.heap ∧ va_T .int t 7 (fun j => .int (fn j)) A s s.heap ∧ (Term.static "BarMeasure" nm "[I").eval args s none [] s = some (.ref t) ∧ ∀ cell : Cell, s.heap[t]? = some cell → cell.slots.size = 7 := by
  have hlen : (Term.length (.static "BarMeasure" nm "[I")).eval args s none [] s = some (.int 7) := va_eqv h1 rfl
  obtain ⟨t, ht, hT⟩ := va_Tof (tm := .static "BarMeasure" nm "[I") (ty := .int) (N := 7) (f := fun j => .int (fn j)) (A := A) (by decide) h0 hlen (fun j hj => va_eqv (h2 j hj) rfl) hA
  refine ⟨t, va_Zof (hs _ hl) (hs (Cond.initialized RX9) (lin_t1 (List.mem_of_getElem? (i := 1) (by decide +kernel)))) ht hA, hT, ht, fun cell hcell => ?_⟩
  obtain ⟨t', cell', ht', hat, hv⟩ := Term.length_spec hlen
  cases ht.symm.trans ht'
  obtain ⟨hcell', -, -, -⟩ := State.arrayAt?_spec hat
  cases hcell.symm.trans hcell'
  have hsz : cell.slots.size < 2 ^ 31 := len_small hlen ht hat
  have h7 : (7 : Int32) = cell.slots.size.toInt32 := Value.int.inj hv
  have e : (Int32.ofNat cell.slots.size).toInt = (cell.slots.size : Int) := Int32.toInt_ofNat_small hsz
  have e2 : (7 : Int32).toInt = (cell.slots.size : Int) := by
    rw [h7]
    exact e
  have e3 : (7 : Int32).toInt = 7 := by decide
  omega
theorem lw_sett {s : State} {args : Array Value} {A : Nat → Prop} (hgv : (Jvm.Cond.and given_1 narrow_1).before args s = true) (hts : ∀ w ∈ lw_tbl, w.before args s = true) (hA : ∀ a : Nat, a < s.heap.size → ¬ A a) {D : va_G} {cls : Nat → ClassId} {b : Nat} (hK : va_K D vwCl (mh_tys (nG D cls b)) s) : ∃ t : Nat, va_Z "BarMeasure" "SETTING_AT_FIRST" "[I" (.ref t) A s s.heap ∧ nT (nG D cls b) t s ∧ t < s.heap.size := by
  have hs := flat_of_before _ hgv
  obtain ⟨t, hZ, ⟨cell, c1, c2, c3, c4, c5, c6, c7⟩, hev, hsz⟩ := lw_tab (nm := "SETTING_AT_FIRST") (fn := mh_first) (A := A) hts (lin_t1 (List.mem_of_getElem? (i := 27) (by decide +kernel))) (hs _ (by decide +kernel)) (hs _ (by decide +kernel)) (fun j hj => by
    rcases (show j = 0 ∨ j = 1 ∨ j = 2 ∨ j = 3 ∨ j = 4 ∨ j = 5 ∨ j = 6 by omega) with rfl | rfl | rfl | rfl | rfl | rfl | rfl <;> exact hs _ (by decide +kernel)) hA
  refine ⟨t, hZ, ⟨cell, c1, c2.1, c3, ?_, ?_⟩, (Array.getElem?_eq_some_iff.mp c1).1⟩
  · obtain ⟨t2, cc, cell2, k2, ht2, hfc, hcell2, -, -, hcls, -⟩ := Cond.exactly_spec (hs (Cond.exactly (.static "BarMeasure" "SETTING_AT_FIRST" "[I") "[I") (by decide +kernel))
    cases hev.symm.trans ht2
    cases c1.symm.trans hcell2
    have hra : s.vm.findClass "[I" = some (cls 0) := (hK.2 0 _ rfl).2
    rw [hcls]
    exact Option.some.inj (hfc.symm.trans hra)
  · have h7 := hsz cell c1
    have hcells : (vp_cell (cls 0) (7, .inl mh_first)).slots.size = 7 := arrV_size _ _ _
    show cell.slots = (vp_cell (cls 0) (7, .inl mh_first)).slots
    apply Array.ext_getElem?
    intro j
    by_cases hj : j < 7
    · rw [c6 j hj]
      exact (arrV_read (cls 0) (fun j => .int (mh_first j)) hj).symm
    · rw [Array.getElem?_eq_none (by omega), Array.getElem?_eq_none (by omega)]
theorem lw_limits {s : State} {args : Array Value} {G : mh_G} (hgv : (Jvm.Cond.and given_1 narrow_1).before args s = true) (hts : ∀ w ∈ lw_tbl, w.before args s = true) (hA : ∀ a : Nat, a < s.heap.size → ¬ mh_dom G a) : ∃ t, mh_S G t s := by
  have hs := flat_of_before _ hgv
  obtain ⟨t, hZ, hT, -, -⟩ := lw_tab (nm := "MOST_OF_SETTING") (fn := mh_most) (A := mh_dom G) hts (lin_t2 (List.mem_of_getElem? (i := 74) (by decide +kernel))) (hs _ (by decide +kernel)) (hs _ (by decide +kernel)) (fun j hj => by
    rcases (show j = 0 ∨ j = 1 ∨ j = 2 ∨ j = 3 ∨ j = 4 ∨ j = 5 ∨ j = 6 by omega) with rfl | rfl | rfl | rfl | rfl | rfl | rfl <;> exact hs _ (by decide +kernel)) hA
  exact ⟨t, hZ, hT⟩
set_option maxRecDepth 100000 in
set_option maxHeartbeats 8000000 in
theorem start_open (hMN : mna_row) {p : Program} {e : Env} {s : State} {m : MethodId} {below : List Frame} {meth : Method} {c : Code} (l : Launch) {b L : Nat} {xs : Nat → Int32} (hL : L ≤ 3072) (C0 : lw_At p s m meth c b L xs) : W p l e room_1 s m #[Value.ref b] below meth c s.heap [] 0 0 (lw_Z below #[Value.ref b] s) (entryFrame m ([Value.ref b] : List Value).toArray 4) := by
  obtain ⟨hx, hb, hr, hml, hown, hts, hX, hbl, hlocks, hgv⟩ := id C0
  obtain ⟨D, cls, hKall⟩ := lw_K hts
  obtain ⟨⟨h4, h6, h7, h0, h5⟩, hAO, hCa, n1, n2, n3, n4, n5, n6, n7, n8⟩ := lw_AO hts
  have hK := hKall s.heap.size
  obtain ⟨t, hZs, hTs, htl⟩ := lw_sett (A := nA s.heap.size (s.heap.size + 1)) hgv hts (fun a ha z => by rcases z with z | z <;> omega) hK
  obtain ⟨tM, hSM⟩ := lw_limits (G := nG D cls s.heap.size) hgv hts (fun a ha z => by have := nG_dom z; omega)
  have C : nC (p, l, e, s, m, #[Value.ref b], below, meth, c, 0, 0, lw_Z below #[Value.ref b] s, nG D cls s.heap.size) (fun q => s.heap.size ≤ q) cL_law wsL_law RL 4 := ⟨hx, hb, fun w hw => hts w (wsL_law_in w hw), hown, hK, hml, fun q hq => hq⟩
  have hl := lv_entry ([Value.ref b]) (n := 4) (Nat.le_of_ble_eq_true rfl)
  rw [lg_entry_eq]
  suffices hgo : nw (p, l, e, s, m, #[Value.ref b], below, meth, c, 0, 0, lw_Z below #[Value.ref b] s, nG D cls s.heap.size) room_1 4 (fun q => s.heap.size ≤ q) s.heap.size n0 0 0 0 [(0, .ref b)] [] from hgo s.heap [] rfl (fun q e h => by cases h) va_S.rf _ hl
  refine ns_new C dL_law_0 (ci := 9) (Cn := RX9) (T := TX9) (NN := 14) (fs := [.null, .int 0, .null, .int 0, .null, .null, .int 0, .null, .null, .null, .null, .int 0, .null, .null]) rfl tyX9 tyX9_ok inlX9 (memL_1 (List.mem_of_getElem? (i := 0) rfl)) (memL_1 (List.mem_of_getElem? (i := 1) rfl)) (memL_1 (List.mem_of_getElem? (i := 2) rfl)) (by decide) (Nat.le_of_ble_eq_true rfl) (Nat.le_of_ble_eq_true rfl) ?_
  refine ns_dup C dL_law_3 rfl ?_
  refine ns_call (Z := nZ9 (nG D cls s.heap.size) s.heap.size) C dL_law_4 (mtX9_init hMN l (nG D cls s.heap.size) s.heap.size) (Or.inl (cwI 0 C.2.2.1 gL_law_X9_init rfl rfl rfl (C.2.2.1 (Cond.initialized RX9) (memL_1 (List.mem_of_getElem? (i := 2) rfl))) (C.2.2.1 (Cond.methodLink RL 9 yX9_init) (memL_1 (List.mem_of_getElem? (i := 6) rfl))) (C.2.2.1 (Cond.instanceMethod yX9_init) (memL_1 (List.mem_of_getElem? (i := 7) rfl))) rfl (by decide +kernel) ⟨Nat.le_of_ble_eq_true rfl, Nat.le_of_ble_eq_true rfl⟩)) nu_s (Nat.le_refl _) nZ_9 (fun U hUs hUS hW => ?_) (Nat.le_of_ble_eq_true rfl) (Nat.le_of_ble_eq_true rfl) (Nat.le_of_ble_eq_true rfl) (FX9_own _ _) ?_
  · have hq : ∀ a : Nat, a < s.heap.size → ¬ nA s.heap.size (s.heap.size + 1) a → U.heap[a]? = s.heap[a]? := fun a h1 _ => hUS.2.1 a h1 (Nat.not_le.mpr h1)
    refine ⟨va_AO.moved hW.alike h4, va_AO.moved hW.alike h6, va_AO.moved hW.alike h7, va_AO.moved hW.alike h5, va_AO.moved hW.alike h0, nAOA.moved hW.alike hAO, nCast.moved hW.alike hCa, ⟨va_Nw.warmM hW n1, va_Nw.warmM hW n2, va_Nw.warmM hW n3, va_Nw.warmM hW n4, va_Nw.warmM hW n5, va_Nw.warmM hW n6, va_Nw.warmM hW n7, va_Nw.warmM hW n8⟩, t, va_Z.moved hW.alike (hZs.kept hq), ?_, fun z => by rcases z with z | z <;> omega⟩
    obtain ⟨cell, d1, d2⟩ := hTs
    exact ⟨cell, by rw [hUS.2.1 t htl (Nat.not_le.mpr htl)]; exact d1, d2⟩
  refine ns_astore_n C dL_law_7 rfl (by decide) rfl ?_
  refine ns_new C dL_law_8 (ci := 10) (Cn := RX10) (T := TX10) (NN := 34) (fs := [.int 0, .null, .null, .null, .int 0, .null, .null, .null, .null, .null, .null, .int 0, .null, .null, .null, .null, .null, .null, .null, .int 0, .null, .int 0, .null, .null, .int 0, .null, .null, .null, .null, .null, .int 0, .null, .null, .null]) rfl tyX10 tyX10_ok inlX10 (memL_1 (List.mem_of_getElem? (i := 3) rfl)) (memL_1 (List.mem_of_getElem? (i := 4) rfl)) (memL_1 (List.mem_of_getElem? (i := 5) rfl)) (by decide) (Nat.le_of_ble_eq_true rfl) (Nat.le_of_ble_eq_true rfl) ?_
  refine ns_dup C dL_law_11 rfl ?_
  refine ns_call (Z := fun _ => True) C dL_law_12 (mtX10_init l (nG D cls s.heap.size) _) (Or.inl (cwI 0 C.2.2.1 gL_law_X10_init rfl rfl rfl (C.2.2.1 (Cond.initialized RX10) (memL_1 (List.mem_of_getElem? (i := 5) rfl))) (C.2.2.1 (Cond.methodLink RL 12 yX10_init) (memL_6 (List.mem_of_getElem? (i := 7) rfl))) (C.2.2.1 (Cond.instanceMethod yX10_init) (memL_6 (List.mem_of_getElem? (i := 8) rfl))) rfl (by decide +kernel) ⟨Nat.le_of_ble_eq_true rfl, Nat.le_of_ble_eq_true rfl⟩)) nu_s (by show s.heap.size ≤ _; omega) (fun _ _ _ _ _ => trivial) (fun _ _ _ _ => trivial) (Nat.le_of_ble_eq_true rfl) (Nat.le_of_ble_eq_true rfl) (Nat.le_of_ble_eq_true rfl) (FX10_own _ _) ?_
  refine ns_astore_n C dL_law_15 rfl (by decide) rfl ?_
  refine ns_iconst C (0 : Int32) dL_law_16 (by decide) ?_
  refine ns_istore_n C dL_law_17 rfl (by decide) rfl ?_
  intro H locs hz hP hS ls h
  refine va_forget (fun q hq => hS.2.2 q hq) ?_
  refine W.widen (k := 600000) (n := 7302250) (Nat.le_of_ble_eq_true rfl) (Nat.le_of_ble_eq_true rfl) ?_
  have C1 : lzC (p, l, e, s, m, #[Value.ref b], below, meth, c, 600000, 7302250, lw_Z below #[Value.ref b] s, nG D cls s.heap.size) b L xs := ⟨⟨hx, hb, fun w hw => hts w (wsL_law_in w hw), hown, nG_inj D cls s.heap.size, hK, hml, Nat.le_refl _, Nat.le_refl _⟩, hX, hbl, fun z => by have := nG_dom z; exact absurd hbl (by show ¬ b < s.heap.size; omega), hL, ⟨tM, hSM⟩, fun H locs hS ls => va_forget (fun q hq => nG_dom (hS.2.2 q hq)) (lw_ret hx hb hr hlocks dL_law_1327)⟩
  exact lw_loop C1 513 0 nM0 (by omega) rel_0 H [] (pw_all hP) ⟨hS.1, fun q h1 h2 => hS.2.1 q h1 (Nat.not_le.mpr h1), fun q hq => by cases hq⟩ ls h
