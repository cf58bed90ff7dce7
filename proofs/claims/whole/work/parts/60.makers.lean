/-! ===== the layer of the makers: a heap known in part, by addresses ===== -/
abbrev nH : Type := Nat → Option va_E
def n0 : nH := fun _ => none
def nu (f : nH) (a : Nat) (e : va_E) : nH := fun q => if q = a then some e else f q
def nov (F f : nH) : nH := fun q => match F q with
  | some e => some e
  | none => f q
theorem nu_s {f : nH} {a : Nat} {e : va_E} : nu f a e a = some e := if_pos rfl
theorem nu_p {f : nH} {a q : Nat} {e : va_E} (h : q = a) : nu f a e q = some e := if_pos h
theorem nu_n {f : nH} {a q : Nat} {e : va_E} {r : Option va_E} (h : q ≠ a) (k : f q = r) : nu f a e q = r := (if_neg h).trans k
theorem nov_s {F f : nH} {q : Nat} {e : va_E} (h : F q = some e) : nov F f q = some e := by
  unfold nov
  rw [h]
theorem nov_n {F f : nH} {q : Nat} {r : Option va_E} (h : F q = none) (k : f q = r) : nov F f q = r := by
  unfold nov
  rw [h]
  exact k
def nAt (G : mh_G) (f : nH) (H : Heap) : Prop := ∀ (q : Nat) (e : va_E), f q = some e → va_at G.1 vwCl (q, e) H
theorem nAt_put {G : mh_G} {f : nH} {H H1 : Heap} {a : Nat} {e : va_E} (h : nAt G f H) (oq : ∀ q : Nat, q ≠ a → q < H.size → H1[q]? = H[q]?) (he : va_at G.1 vwCl (a, e) H1) : nAt G (nu f a e) H1 := by
  intro q e' hq
  by_cases h1 : q = a
  · subst h1
    rw [nu_s] at hq
    cases hq
    exact he
  · have hq' : f q = some e' := (if_neg h1).symm.trans hq
    exact (h q e' hq').kept (oq q h1 (h q e' hq').lt)
theorem nAt_one {G : mh_G} {f : nH} {H : Heap} (h : nAt G f H) {a : Nat} {e : va_E} (he : f a = some e) : va_P G.1 vwCl [(a, e)] H := fun k q hk => by
  have hz : k < 1 := (List.getElem?_eq_some_iff.mp hk).1
  rw [show k = 0 by omega] at hk
  cases hk
  exact h a e he
theorem nS_new {A : Nat → Prop} {H0 H H1 : Heap} {locs : List Loc} {N : Nat} (h : va_S A H0 H locs) (hz : H.size = N) (z1 : N ≤ H1.size) (o1 : ∀ q : Nat, q < N → H1[q]? = H[q]?) : va_S A H0 H1 locs :=
  ⟨by have := h.1; omega, fun x h1 h2 => (o1 x (by have := h.1; omega)).trans (h.2.1 x h1 h2), h.2.2⟩
/-- a maker's machine: what all its rows need -/
def nC (X : mh_X) (A : Nat → Prop) (cc : ByteArray) (ws : List Cond) (own : String) (nL : Nat) : Prop :=
  (xp X).tables.exec = Jvm.exec ∧ (xc X).code = cc ∧ (∀ w ∈ ws, w.before (xa X) (xs X) = true) ∧ (xs X).vm.findClass own = some (xm X).cls ∧ va_K (xg X).1 vwCl (mh_tys (xg X)) (xs X) ∧ (xc X).maxLocals = nL ∧ (∀ q, (xs X).heap.size ≤ q → A q)
/-- from here on the machine comes to its end, from every heap of size N that holds f; k cells and n slots are made -/
def nw (X : mh_X) (R : Room) (nL : Nat) (A : Nat → Prop) (N : Nat) (f : nH) (k n pc : Nat) (L : List (Nat × Value)) (st : List Value) : Prop :=
  ∀ (H : Heap) (locs : List Loc), H.size = N → nAt (xg X) f H → va_S A (xs X).heap H locs → ∀ ls : Array Slot, lv_has ls nL L →
    W (xp X) (xl X) (xe X) R (xs X) (xm X) (xa X) (xb X) (xt X) (xc X) H locs k n (xq X) (F0 (xm X) pc ls st)
section NW
variable {X : mh_X} {R : Room} {nL N k n pc : Nat} {A : Nat → Prop} {f : nH} {L : List (Nat × Value)} {st : List Value} {cc : ByteArray} {ws : List Cond} {own : String}
theorem ns_sub {f' : nH} (h : ∀ q e, f' q = some e → f q = some e) (kk : nw X R nL A N f' k n pc L st) : nw X R nL A N f k n pc L st := fun H locs hz hP hS ls hl => kk H locs hz (fun q e hq => hP q e (h q e hq)) hS ls hl
theorem ns_lsub (is : List Nat) {L' : List (Nat × Value)} (hs : lv_pick L is = L') (kk : nw X R nL A N f k n pc L' st) : nw X R nL A N f k n pc L st := fun H locs hz hP hS ls h => kk H locs hz hP hS ls (lv_sub h is hs)
theorem ns_iload_n (C : nC X A cc ws own nL) {j0 : Fin 4} {x : Int32} (hdg : decode cc pc = .ok (.iload_n j0, 1)) (j : Nat) (hl : L[j]? = some (j0.val, .int x)) (kk : nw X R nL A N f k n (pc + 1) L (.int x :: st)) : nw X R nL A N f k n pc L st := fun H locs hz hP hS ls h => lv_iload_n C.1 C.2.1 hdg rfl (lv_at h j hl) (kk H locs hz hP hS ls h)
theorem ns_aload_n (C : nC X A cc ws own nL) {j0 : Fin 4} {x : Nat} (hdg : decode cc pc = .ok (.aload_n j0, 1)) (j : Nat) (hl : L[j]? = some (j0.val, .ref x)) (kk : nw X R nL A N f k n (pc + 1) L (.ref x :: st)) : nw X R nL A N f k n pc L st := fun H locs hz hP hS ls h => lv_aload_n C.1 C.2.1 hdg rfl (lv_at h j hl) (kk H locs hz hP hS ls h)
theorem ns_istore_n (C : nC X A cc ws own nL) {j0 : Fin 4} {i : Nat} {x : Int32} {L' : List (Nat × Value)} (hdg : decode cc pc = .ok (.istore_n j0, 1)) (hi : j0.val = i) (hn : i < nL) (hl : (i, Value.int x) :: L.filter (fun q => !(q.1 == i) && !(q.1 + 1 == i && q.2.category == 2)) = L') (kk : nw X R nL A N f k n (pc + 1) L' st) : nw X R nL A N f k n pc L (.int x :: st) := fun H locs hz hP hS ls h => lv_istore_n C.1 C.2.1 hdg hi h hn hl (fun ls' h' => kk H locs hz hP hS ls' h')
theorem ns_astore_n (C : nC X A cc ws own nL) {j0 : Fin 4} {i : Nat} {x : Nat} {L' : List (Nat × Value)} (hdg : decode cc pc = .ok (.astore_n j0, 1)) (hi : j0.val = i) (hn : i < nL) (hl : (i, Value.ref x) :: L.filter (fun q => !(q.1 == i) && !(q.1 + 1 == i && q.2.category == 2)) = L') (kk : nw X R nL A N f k n (pc + 1) L' st) : nw X R nL A N f k n pc L (.ref x :: st) := fun H locs hz hP hS ls h => lv_astore_n C.1 C.2.1 hdg hi h hn hl (fun ls' h' => kk H locs hz hP hS ls' h')
theorem ns_iinc (C : nC X A cc ws own nL) {i : Nat} {d : Int} {x v : Int32} {L' : List (Nat × Value)} (hdg : decode cc pc = .ok (.iinc i d, 3)) (j : Nat) (hj : L[j]? = some (i, .int x)) (hv : x + Int32.ofInt d = v) (hn : i < nL) (hl : (i, Value.int v) :: L.filter (fun q => !(q.1 == i) && !(q.1 + 1 == i && q.2.category == 2)) = L') (kk : nw X R nL A N f k n (pc + 3) L' st) : nw X R nL A N f k n pc L st := fun H locs hz hP hS ls h => lv_iinc C.1 C.2.1 hdg h hj (v := v) hv hn hl (fun ls' h' => kk H locs hz hP hS ls' h')
theorem ns_iconst (C : nC X A cc ws own nL) {d : Int} (v : Int32) (hdg : decode cc pc = .ok (.iconst d, 1)) (hv : Int32.ofInt d = v) (kk : nw X R nL A N f k n (pc + 1) L (.int v :: st)) : nw X R nL A N f k n pc L st := fun H locs hz hP hS ls h => lv_iconst C.1 C.2.1 hdg hv (kk H locs hz hP hS ls h)
theorem ns_bipush (C : nC X A cc ws own nL) {d : Int} (v : Int32) (hdg : decode cc pc = .ok (.bipush d, 2)) (hv : (Int8.ofInt d).toInt32 = v) (kk : nw X R nL A N f k n (pc + 2) L (.int v :: st)) : nw X R nL A N f k n pc L st := fun H locs hz hP hS ls h => lv_bipush C.1 C.2.1 hdg hv (kk H locs hz hP hS ls h)
theorem ns_sipush (C : nC X A cc ws own nL) {d : Int} (v : Int32) (hdg : decode cc pc = .ok (.sipush d, 3)) (hv : (Int16.ofInt d).toInt32 = v) (kk : nw X R nL A N f k n (pc + 3) L (.int v :: st)) : nw X R nL A N f k n pc L st := fun H locs hz hP hS ls h => lv_sipush C.1 C.2.1 hdg hv (kk H locs hz hP hS ls h)
theorem ns_dup (C : nC X A cc ws own nL) {v : Value} (hdg : decode cc pc = .ok (.dup, 1)) (hv : v.category = 1) (kk : nw X R nL A N f k n (pc + 1) L (v :: v :: st)) : nw X R nL A N f k n pc L (v :: st) := fun H locs hz hP hS ls h => lv_dup C.1 C.2.1 hdg hv (kk H locs hz hP hS ls h)
theorem ns_goto (C : nC X A cc ws own nL) {off : Int} {tgt : Nat} (hdg : decode cc pc = .ok (.goto off, 3)) (ht : (pc : Int) + off = (tgt : Int)) (kk : nw X R nL A N f k n tgt L st) : nw X R nL A N f k n pc L st := fun H locs hz hP hS ls h => lv_goto C.1 C.2.1 hdg ht (kk H locs hz hP hS ls h)
theorem ns_ge_t (C : nC X A cc ws own nL) {x y : Int32} {off : Int} {tgt : Nat} (hdg : decode cc pc = .ok (.if_icmp .ge off, 3)) (ht : (pc : Int) + off = (tgt : Int)) (hc : y ≤ x) (kk : nw X R nL A N f k n tgt L st) : nw X R nL A N f k n pc L (.int y :: .int x :: st) := fun H locs hz hP hS ls h => lv_icmp_ge C.1 C.2.1 hdg ht (fun _ => kk H locs hz hP hS ls h) (fun q => absurd hc q)
theorem ns_ge_f (C : nC X A cc ws own nL) {x y : Int32} {off : Int} {tgt : Nat} (hdg : decode cc pc = .ok (.if_icmp .ge off, 3)) (ht : (pc : Int) + off = (tgt : Int)) (hc : ¬ y ≤ x) (kk : nw X R nL A N f k n (pc + 3) L st) : nw X R nL A N f k n pc L (.int y :: .int x :: st) := fun H locs hz hP hS ls h => lv_icmp_ge C.1 C.2.1 hdg ht (fun q => absurd q hc) (fun _ => kk H locs hz hP hS ls h)
theorem ns_obj (C : nC X A cc ws own nL) {index a : Nat} (hdg : decode cc pc = .ok (.invokespecial index, 3)) (h1 : Cond.methodLink own index objectInit ∈ ws) (h2 : Cond.instanceMethod objectInit ∈ ws) (h3 : Cond.code objectInit ⟨#[0xb1]⟩ 1 none ∈ ws) (hf : 1 ≤ R.frames) (hlo : 20 ≤ R.locals) (hst : (st.map fun v => v.category).sum ≤ 8) (kk : nw X R nL A N f k n (pc + 3) L st) : nw X R nL A N f k n pc L (.ref a :: st) := fun H locs hz hP hS ls h =>
  W.objInit C.1 C.2.1 C.2.2.2.1 (C.2.2.1 _ h1) (C.2.2.1 _ h2) (C.2.2.1 _ h3) rfl (by rw [C.2.2.2.2.2.1]; exact h.1) rfl hdg hf (by show 2 * 0 + (st.map fun v => v.category).sum + 12 ≤ _; omega) (W.eq (g2 := F0 (xm X) (pc + 3) ls st) rfl (kk H locs hz hP hS ls h))
theorem ns_new (C : nC X A cc ws own nL) {index ci NN : Nat} {Cn : String} {T : u_T} {fs : List Value} (hdg : decode cc pc = .ok (.new index, 3)) (hc : vwCl[ci]? = some (Cn, T, NN)) (ty : Nat → FieldType) (hty : ∀ j, j < NN → parseFieldDescriptor (T j).2.2.1 = some (ty j)) (hin : ∀ w ∈ u_ws Cn T NN, w ∈ ws) (hcl : Cond.classLink own index Cn ∈ ws) (hinst : Cond.instantiable Cn NN ∈ ws) (hini : Cond.initialized Cn ∈ ws) (hfs : ∀ j, j < NN → defaultValue (ty j) = vp_V fs j) (hk : k + 1 ≤ R.cells) (hn : n + NN ≤ R.slots)
    (kk : nw X R nL A (N + 1) (nu f N (.inr (ci, fs))) (k + 1) (n + NN) (pc + 3) L (.ref N :: st)) : nw X R nL A N f k n pc L st := by
  intro H locs hz hP hS ls h
  have hKn := C.2.2.2.2.1.1 ci _ hc
  refine W.newcK C.1 C.2.1 C.2.2.2.1 (C.2.2.1 _ hcl) (C.2.2.1 _ hinst) (C.2.2.1 _ hini) rfl hdg hk hn hKn.2.1 hz fun H1 kC hkC e1 z1 o1 => ?_
  exact kk H1 locs z1 (nAt_put hP (fun q _ h2 => o1 q (by omega)) ⟨_, hc, (u_born ty C.2.2.1 hin hKn hkC e1 hty).to hfs⟩) (nS_new hS hz (by omega) o1) ls h
theorem ns_newi (C : nC X A cc ws own nL) {v : Int32} {m : Nat} (hdg : decode cc pc = .ok (.newarray .int, 2)) (harr : Cond.arrayClass .int ∈ ws) (hv0 : ¬ v < 0) (hv : v.toNatClampNeg = m) (hm : m ≤ 1000) (hk : k + 1 ≤ R.cells) (hn : n + m ≤ R.slots)
    (kk : nw X R nL A (N + 1) (nu f N (.inl ((xg X).2.1 0, m, .inl (fun _ => 0)))) (k + 1) (n + m) (pc + 2) L (.ref N :: st)) : nw X R nL A N f k n pc L (.int v :: st) := by
  intro H locs hz hP hS ls h
  refine va_newaK (atype := .int) C.1 C.2.1 (C.2.2.1 _ harr) rfl hdg rfl hv0 hv (by show m * 4 ≤ _; omega) hk hn hz fun H1 cA e1 z1 o1 hAr hNm => ?_
  have hra : (xs X).vm.findClass ("[" ++ FieldType.int.toString) = some ((xg X).2.1 0) := (C.2.2.2.2.1.2 0 _ rfl).2
  have hcA : cA = (xg X).2.1 0 := Option.some.inj (hNm.symm.trans hra)
  subst hcA
  exact kk H1 locs z1 (nAt_put hP (fun q _ h2 => o1 q (by omega)) e1) (nS_new hS hz (by omega) o1) ls h
theorem ns_newz (C : nC X A cc ws own nL) {v : Int32} {m : Nat} (hdg : decode cc pc = .ok (.newarray .boolean, 2)) (harr : Cond.arrayClass .boolean ∈ ws) (hv0 : ¬ v < 0) (hv : v.toNatClampNeg = m) (hm : m ≤ 1000) (hk : k + 1 ≤ R.cells) (hn : n + m ≤ R.slots)
    (kk : nw X R nL A (N + 1) (nu f N (.inl ((xg X).2.1 1, m, .inl (fun _ => 0)))) (k + 1) (n + m) (pc + 2) L (.ref N :: st)) : nw X R nL A N f k n pc L (.int v :: st) := by
  intro H locs hz hP hS ls h
  refine va_newaK (atype := .boolean) C.1 C.2.1 (C.2.2.1 _ harr) rfl hdg rfl hv0 hv (by show m * 1 ≤ _; omega) hk hn hz fun H1 cA e1 z1 o1 hAr hNm => ?_
  have hra : (xs X).vm.findClass ("[" ++ FieldType.boolean.toString) = some ((xg X).2.1 1) := (C.2.2.2.2.1.2 1 _ rfl).2
  have hcA : cA = (xg X).2.1 1 := Option.some.inj (hNm.symm.trans hra)
  subst hcA
  exact kk H1 locs z1 (nAt_put hP (fun q _ h2 => o1 q (by omega)) e1) (nS_new hS hz (by omega) o1) ls h
theorem ns_newq (C : nC X A cc ws own nL) {index q0 m : Nat} {v : Int32} {Cn : String} (hdg : decode cc pc = .ok (.anewarray index, 3)) (hcl : Cond.classLink own index Cn ∈ ws) (hover : va_AO Cn (xs X)) (ht : (mh_tys (xg X))[q0]? = some ((xg X).2.1 q0, .object Cn)) (hv0 : ¬ v < 0) (hv : v.toNatClampNeg = m) (hm : m ≤ 1000) (hk : k + 1 ≤ R.cells) (hn : n + m ≤ R.slots)
    (kk : nw X R nL A (N + 1) (nu f N (.inl ((xg X).2.1 q0, m, .inr (.inr (.inr (.inr (fun _ => none))))))) (k + 1) (n + m) (pc + 3) L (.ref N :: st)) : nw X R nL A N f k n pc L (.int v :: st) := by
  intro H locs hz hP hS ls h
  subst hv
  refine W.anew C.1 C.2.1 C.2.2.2.1 (C.2.2.1 _ hcl) (va_AO.use hover) rfl hdg rfl hv0 (by omega) hk hn fun cA kA comp f1 f2 f3 f4 => ?_
  obtain ⟨kA', comp', -, -, -, g1⟩ := (C.2.2.2.2.1.2 q0 _ ht).2
  have hcA : cA = (xg X).2.1 q0 := Option.some.inj (f1.symm.trans g1)
  subst hcA
  generalize hH1 : H.push ({ cls := (xg X).2.1 q0, slots := Array.replicate v.toNatClampNeg .null, vm := .none } : Cell) = H1
  have z1 : H1.size = H.size + 1 := by rw [← hH1, Array.size_push]
  have e1 : H1[H.size]? = some (arrV ((xg X).2.1 q0) v.toNatClampNeg (fun _ => .null)) := by rw [← hH1, Array.getElem?_push_size, ← arrV_new]
  have o1 : ∀ q : Nat, q < H.size → H1[q]? = H[q]? := fun q hq => by rw [← hH1, Array.getElem?_push, if_neg (Nat.ne_of_lt hq)]
  subst hz
  exact kk H1 locs z1 (nAt_put hP (fun q _ h2 => o1 q h2) (by show H1[H.size]? = some (vp_cell _ _); rw [vp_cell_q]; exact e1)) (nS_new hS rfl (by omega) o1) ls h
theorem ns_putF (C : nC X A cc ws own nL) (hin2 : (xt X).name = "<init>") {a ci kf index NN : Nat} {fs : List Value} (fs' : List Value) {T : u_T} {Cn : String} {v : Value} {ty : FieldType} (hdg : decode cc pc = .ok (.putfield index, 3)) (he : f a = some (.inr (ci, fs))) (hc : vwCl[ci]? = some (Cn, T, NN)) (ty0 : Nat → FieldType) (hty : ∀ j, j < NN → parseFieldDescriptor (T j).2.2.1 = some (ty0 j)) (hnm : ∀ a, a < NN → ∀ b, b < NN → a ≠ b → (T a).2.1 ≠ (T b).2.1) (hin : ∀ w ∈ u_ws Cn T NN, w ∈ ws) (hk : kf < NN) (href : (T kf).1 = Cn) (hlink : Cond.fieldLink own index Cn (T kf).2.1 (T kf).2.2.1 ∈ ws) (hfin : (T kf).2.2.2 = true) (hdecl : (T kf).1 = own) (hd : parseFieldDescriptor (T kf).2.2.1 = some ty) (hn1 : narrow ty v = v) (hfit : fits ty v = true) (hl : kf < fs.length) (hA : A a) (hset : fs.set kf v = fs')
    (kk : nw X R nL A N (nu f a (.inr (ci, fs'))) k n (pc + 3) L st) : nw X R nL A N f k n pc L (v :: .ref a :: st) := by
  intro H locs hz hP hS ls h
  subst hset
  have hts := C.2.2.1
  have hown := C.2.2.2.1
  have hK := C.2.2.2.2.1
  have hap := va_apart (own := own) hts hin ty0 hty hnm hK hc
  obtain ⟨rr, h1, cell, q1, q2, q3, q4⟩ := hP a _ he
  have hrr : rr = (Cn, T, NN) := Option.some.inj (h1.symm.trans hc)
  subst hrr
  obtain ⟨hSl, hfc, kC, hkC, hkind⟩ := hK.1 ci _ hc
  obtain ⟨cf, kf', fi, fd, hi, hsl⟩ := hSl kf hk
  have hlay := hts _ (hin _ (u_in_lay hk))
  unfold u_lay at hlay
  rw [if_pos hfin] at hlay
  have hst := (u_facts hfc hkC (u_lays hts hin hk) hi).1
  have hcf : (xm X).cls = cf := by
    obtain ⟨_, _, c', _, _, _, -, -, hf', -, -, -, hown2, -⟩ := Cond.laysFinal_spec hlay
    have e1 : c' = cf := by have := hi.symm.trans hf'; simp at this; exact this.1.symm
    rw [hdecl] at hown2
    rw [← e1]; exact Option.some.inj (hown.symm.trans hown2)
  have h6 := u_fits hfc hkC hkind (Or.inr hlay) hi hd hn1 hfit
  have hsame : ∀ x, (xs X).fieldFound? (T kf).1 (T kf).2.1 (T kf).2.2.1 = some x → (xs X).fieldFound? Cn (T kf).2.1 (T kf).2.2.1 = some x := fun x q => by rw [href] at q; exact q
  refine W.putFinK C.1 C.2.1 hown (hts _ hlink) (hsame _ hi) hst hcf hin2 (by rw [q2]; exact h6) q1 q3 (by rw [hsl]; exact k2_hasslot (q4 kf hk)) rfl rfl hdg fun H' e1 e2 e3 => ?_
  rw [hsl] at e1 ⊢
  exact kk H' _ (e2.trans hz) (nAt_put hP (fun q h1 _ => e3 q h1) ⟨_, hc, t_OB.to (V := updV (vp_V fs) kf v) ⟨_, e1, q2, q3, t_set q4 hap hk v⟩ (fun j _ => vp_updV_set hl v j)⟩) (hS.put e2 e3 hA) ls h
theorem ns_puti (C : nC X A cc ws own nL) {a ci kf index NN : Nat} {fs : List Value} (fs' : List Value) {T : u_T} {Cn : String} {v : Int32} (hdg : decode cc pc = .ok (.putfield index, 3)) (he : f a = some (.inr (ci, fs))) (hc : vwCl[ci]? = some (Cn, T, NN)) (ty0 : Nat → FieldType) (hty : ∀ j, j < NN → parseFieldDescriptor (T j).2.2.1 = some (ty0 j)) (hnm : ∀ a, a < NN → ∀ b, b < NN → a ≠ b → (T a).2.1 ≠ (T b).2.1) (hin : ∀ w ∈ u_ws Cn T NN, w ∈ ws) (hk : kf < NN) (href : (T kf).1 = Cn) (hlink : Cond.fieldLink own index Cn (T kf).2.1 (T kf).2.2.1 ∈ ws) (hfin : (T kf).2.2.2 = false) (hd : parseFieldDescriptor (T kf).2.2.1 = some .int) (hl : kf < fs.length) (hA : A a) (hset : fs.set kf (.int v) = fs')
    (kk : nw X R nL A N (nu f a (.inr (ci, fs'))) k n (pc + 3) L st) : nw X R nL A N f k n pc L (.int v :: .ref a :: st) := by
  intro H locs hz hP hS ls h
  subst hset
  have hts := C.2.2.1
  have hown := C.2.2.2.1
  have hK := C.2.2.2.2.1
  have hap := va_apart (own := own) hts hin ty0 hty hnm hK hc
  obtain ⟨rr, h1, cell, q1, q2, q3, q4⟩ := hP a _ he
  have hrr : rr = (Cn, T, NN) := Option.some.inj (h1.symm.trans hc)
  subst hrr
  obtain ⟨hSl, hfc, kC, hkC, hkind⟩ := hK.1 ci _ hc
  obtain ⟨cf, kf', fi, fd, hi, hsl⟩ := hSl kf hk
  have hlay := hts _ (hin _ (u_in_lay hk))
  unfold u_lay at hlay
  rw [if_neg (by rw [hfin]; decide)] at hlay
  have hst := (u_facts hfc hkC (u_lays hts hin hk) hi).1
  have h6 := u_store hfc hkC hkind hlay hi hd (show narrow .int (.int v) = .int v from rfl) (show fits .int (.int v) = true from rfl)
  have hsame : ∀ x, (xs X).fieldFound? (T kf).1 (T kf).2.1 (T kf).2.2.1 = some x → (xs X).fieldFound? Cn (T kf).2.1 (T kf).2.2.1 = some x := fun x q => by rw [href] at q; exact q
  refine W.putK C.1 C.2.1 (f := fd) ⟨hown, hts _ hlink, ⟨_, _, _, hsame _ hi⟩, hst⟩ (by rw [q2]; exact h6) q1 q3 (by rw [hsl]; exact k2_hasslot (q4 kf hk)) rfl rfl hdg fun H' e1 e2 e3 => ?_
  rw [hsl] at e1 ⊢
  exact kk H' _ (e2.trans hz) (nAt_put hP (fun q h1 _ => e3 q h1) ⟨_, hc, t_OB.to (V := updV (vp_V fs) kf (.int v)) ⟨_, e1, q2, q3, t_set q4 hap hk (.int v)⟩ (fun j _ => vp_updV_set hl (.int v) j)⟩) (hS.put e2 e3 hA) ls h
theorem ns_get (C : nC X A cc ws own nL) {a ci kf index NN : Nat} {fs : List Value} {T : u_T} {Cn : String} {v : Value} (hdg : decode cc pc = .ok (.getfield index, 3)) (he : f a = some (.inr (ci, fs))) (hc : vwCl[ci]? = some (Cn, T, NN)) (hin : ∀ w ∈ u_ws Cn T NN, w ∈ ws) (hk : kf < NN) (href : (T kf).1 = Cn) (hlink : Cond.fieldLink own index Cn (T kf).2.1 (T kf).2.2.1 ∈ ws) (hv : fs[kf]? = some v) (kk : nw X R nL A N f k n (pc + 3) L (v :: st)) : nw X R nL A N f k n pc L (.ref a :: st) := fun H locs hz hP hS ls h =>
  va_get (ref := Cn) C.1 C.2.1 C.2.2.1 hin C.2.2.2.1 C.2.2.2.2.1 (nAt_one hP he) 0 rfl hc kf hk (C.2.2.1 _ hlink) (fun x q => by rw [href] at q; exact q) hv hdg (kk H locs hz hP hS ls h)
theorem ns_alen (C : nC X A cc ws own nL) {a q0 : Nat} {x : vp_A} {ty : FieldType} {v : Int32} (hdg : decode cc pc = .ok (.arraylength, 1)) (he : f a = some (.inl ((xg X).2.1 q0, x))) (ht : (mh_tys (xg X))[q0]? = some ((xg X).2.1 q0, ty)) (hv : Int32.ofNat x.1 = v) (kk : nw X R nL A N f k n (pc + 1) L (.int v :: st)) : nw X R nL A N f k n pc L (.ref a :: st) := fun H locs hz hP hS ls h =>
  va_alen C.1 C.2.1 C.2.2.2.2.1 (nAt_one hP he) 0 q0 rfl ht hv hdg (kk H locs hz hP hS ls h)
theorem ns_aast (C : nC X A cc ws own nL) {a q0 v ci m : Nat} {i : Int32} {r : vw_C} {vs : List Value} {g : Nat → Option Nat} (hdg : decode cc pc = .ok (.aastore, 1)) (he : f a = some (.inl ((xg X).2.1 q0, m, .inr (.inr (.inr (.inr g)))))) (ht : (mh_tys (xg X))[q0]? = some ((xg X).2.1 q0, .object r.1)) (hv : f v = some (.inr (ci, vs))) (hc : vwCl[ci]? = some r) (hin : vp_in i m) (hA : A a)
    (kk : nw X R nL A N (nu f a (.inl ((xg X).2.1 q0, m, .inr (.inr (.inr (.inr (va_up g i.toNatClampNeg (some v)))))))) k n (pc + 1) L st) : nw X R nL A N f k n pc L (.ref v :: .int i :: .ref a :: st) := by
  intro H locs hz hP hS ls h
  have hK := C.2.2.2.2.1
  have hlt : i.toNatClampNeg < m := Nat.not_le.mp fun q => hin (Or.inr q)
  have h0 : ¬ i < 0 := fun q => hin (Or.inl q)
  obtain ⟨r', hr', cellV, g1, g2, g3, -⟩ := hP v _ hv
  have hcls := (hK.1 ci r hc).2
  obtain ⟨kA, comp, k1, k2, k3, -⟩ := (hK.2 q0 _ ht).2
  have hcomp : comp = (xg X).1.1 ci := Option.some.inj (k3.symm.trans hcls.1)
  subst hcomp
  obtain ⟨kC, hkC, -⟩ := hcls.2
  refine W.aast C.1 C.2.1 (hP a _ he) (fun q h => by cases h) (fun h => by cases h) k1 k2 rfl hkC ⟨h0, by show _ < (arrV _ _ _).slots.size; rw [arrV_size]; exact hlt⟩ g1 (fun q h => by rw [g3] at h; cases h) (by rw [g2]; exact hkC) (by rw [g2]; exact va_assign hcls) rfl rfl hdg fun H1 e z oq => ?_
  refine kk H1 _ (z.trans hz) (nAt_put hP (fun q h1 _ => oq q h1) ?_) (hS.put z oq hA) ls h
  show H1[a]? = some (vp_cell _ _)
  rw [e]
  show some ((vp_cell ((xg X).2.1 q0) (m, .inr (.inr (.inr (.inr g))))).setSlot _ _) = _
  rw [vp_cell_q, vp_cell_q, arrV_store]
  congr 2
  funext q
  by_cases hq : q = i.toNatClampNeg
  · subst hq
    simp [updV, va_up, va_rf]
  · simp [updV, va_up, hq]
theorem ns_iast (C : nC X A cc ws own nL) {a m : Nat} {i x : Int32} {g : Nat → Int32} (hdg : decode cc pc = .ok (.iastore, 1)) (he : f a = some (.inl ((xg X).2.1 0, m, .inl g))) (hin : vp_in i m) (hA : A a)
    (kk : nw X R nL A N (nu f a (.inl ((xg X).2.1 0, m, .inl (upd g i.toNatClampNeg x)))) k n (pc + 1) L st) : nw X R nL A N f k n pc L (.int x :: .int i :: .ref a :: st) := by
  intro H locs hz hP hS ls h
  refine W.iast C.1 C.2.1 (hP a _ he) ((C.2.2.2.2.1.2 0 _ rfl).1 m (fun j => .int (g j))) (fun q => by cases q) (by show ¬ (i < 0 ∨ (arrV _ _ _).slots.size ≤ _); rw [arrV_size]; exact hin) rfl rfl hdg fun H1 e zz oq => ?_
  refine kk H1 _ (zz.trans hz) (nAt_put hP (fun q h1 _ => oq q h1) ?_) (hS.put zz oq hA) ls h
  show H1[a]? = some (vp_cell _ _)
  rw [e]
  show some ((vp_cell ((xg X).2.1 0) (m, .inl g)).setSlot _ _) = some (vp_cell ((xg X).2.1 0) (m, .inl (upd g i.toNatClampNeg x)))
  rw [vp_cell_i, vp_cell_i, arrV_store]
  congr 2
  funext q
  by_cases hq : q = i.toNatClampNeg
  · subst hq
    simp [updV, upd]
  · simp [updV, upd, hq]
end NW
/-! a maker's contract -/
def nA (a N : Nat) : Nat → Prop := fun q => q = a ∨ N ≤ q
def nPc (G : mh_G) (a N : Nat) (e0 : va_E) (Z : State → Prop) : Array Value → State → Prop := va_Pc [.ref a] (fun U => U.heap.size = N ∧ va_at G.1 vwCl (a, e0) U.heap ∧ va_K G.1 vwCl (mh_tys G) U ∧ Z U)
def nQc (G : mh_G) (a N mc : Nat) (F : nH) : Array Value → State → Outcome → State → Prop := fun _ st oc t => oc = .returned none ∧ t.heap.size = N + mc ∧ nAt G F t.heap ∧ va_F (nA a N) st t
def nZm (Z : State → Prop) : Prop := ∀ (U : State) (u : State), u.vm = U.vm → U.heap = u.heap → Z u → Z U
theorem nPc_blind {G : mh_G} {a N : Nat} {e0 : va_E} {Z : State → Prop} (hZ : nZm Z) : FrameBlind (nPc G a N e0 Z) := fun ar U g mk q => by
  obtain ⟨q0, q1, q2, q3, q4⟩ := q
  exact ⟨q0, q1, q2, va_K.moved (u := U) (U := U.calling g mk ar) (Vm.Alike.refl U.vm) q3, hZ (U.calling g mk ar) U rfl rfl q4⟩
def nR (X : mh_X) (a N mc ms : Nat) (F : nH) : Prop := (xt X).sig.returnType = none ∧ (xt X).locks = false ∧ xq X = MQ (xb X) (nQc (xg X) a N mc F) (xa X) (xs X) mc ms (nA a N)
theorem n_met {l : Launch} {y : MethodName} {ws ws' : List Cond} {rm : Room} {cc : ByteArray} {maxL : Nat} {G : mh_G} {a N mc ms : Nat} {e0 : va_E} {F : nH} {Z : State → Prop} (hy : plainName y.cls = true) (hyn : y.name = "<init>") (hw : ws = Cond.code y cc maxL none :: ws') (hlen : 1 ≤ maxL)
    (body : ∀ X : mh_X, xl X = l → xg X = G → nC X (nA a N) cc ws y.cls maxL → (xt X).name = "<init>" → nR X a N mc ms F → Z (xs X) → a < N → (xs X).heap.size = N → nw X rm maxL (nA a N) N (nu n0 a e0) 0 0 0 [(0, .ref a)] []) : Met l y ws rm (nPc G a N e0 Z) (nQc G a N mc F) mc ms (nA a N) := by
  refine Met.ofW (cc := cc) (maxL := maxL) (ret := none) hy hw ?_
  intro p e s m args0 below meth c s₁ B hml hv
  obtain ⟨rfl, hz, hat, hK, hZ⟩ := hv
  have hts := atoms_spec (ws := ws) B.pre
  rw [lg_entry_eq]
  have hln : (lg_sl [Value.ref a]).length ≤ maxL := hlen
  have hnm : meth.name = "<init>" := (name_of_methodNamed B.named B.method).1.trans hyn
  exact body (p, l, e, s, m, [Value.ref a].toArray, below, meth, c, 0, 0, MQ below (nQc G a N mc F) [Value.ref a].toArray s mc ms (nA a N), G) rfl rfl ⟨B.exec, B.bytes, hts, findClass_of_methodNamed B.named, hK, hml, fun q hq => Or.inr (by rw [← hz]; exact hq)⟩ hnm ⟨B.returns, B.notSynchronized, rfl⟩ hZ (by rw [← hz]; exact hat.lt) hz s.heap [] hz (nAt_put (f := n0) (fun q e h => by cases h) (fun q _ _ => rfl) hat) va_S.rf _ (lv_entry [Value.ref a] hln)
section NW2
variable {X : mh_X} {R : Room} {nL N k n pc : Nat} {A : Nat → Prop} {f : nH} {L : List (Nat × Value)} {st : List Value} {cc : ByteArray} {ws : List Cond} {own : String}
theorem ns_ret {a N0 mc ms : Nat} (C : nC X (nA a N0) cc ws own nL) (hR : nR X a N0 mc ms f) (hN : N = N0 + mc) (hk : k = mc) (hn : n = ms) (hdg : decode cc pc = .ok (.return_, 1)) : nw X R nL (nA a N0) N f k n pc L [] := by
  intro H locs hz hP hS ls h
  subst hk
  subst hn
  rw [hR.2.2]
  exact W.vret C.1 C.2.1 hR.1 (fun t ht hW => ⟨rfl, by rw [ht, hz, hN], by rw [ht]; exact hP, hS.F ht⟩) hS.2.2 hdg hR.2.1
def nCw (X : mh_X) (R : Room) (own : String) (index : Nat) (y : MethodName) (bytes : ByteArray) (maxL : Nat) (wsy : List Cond) (rm : Room) (mc ms : Nat) : Prop :=
  (CallB R (xs X) (xa X) own index y bytes maxL none wsy rm mc ms 0 ∧ y.name = "<init>" ∧ (Cond.instanceMethod y).before (xa X) (xs X) = true) ∨ ∃ host : String, va_CN R (xs X) (xa X) own index y host bytes maxL none wsy rm mc ms 0 ∧ y.name = "<init>" ∧ (Cond.instanceMethod y).before (xa X) (xs X) = true
theorem ns_call (C : nC X A cc ws own nL) {a index maxL mc ms : Nat} {y : MethodName} {wsy : List Cond} {rm : Room} {bytes : ByteArray} {e0 : va_E} {F : nH} {Z : State → Prop} (hdg : decode cc pc = .ok (.invokespecial index, 3)) (hM : Met (xl X) y wsy rm (nPc (xg X) a N e0 Z) (nQc (xg X) a N mc F) mc ms (nA a N)) (cw : nCw X R own index y bytes maxL wsy rm mc ms) (he : f a = some e0) (hA : A a) (hZm : nZm Z) (hZ : ∀ U : State, U.heap.size = N → va_S A (xs X).heap U.heap [] → (xs X).WarmedH U.vm → Z U) (hst : (st.map fun v => v.category).sum ≤ 8) (hk : k + mc ≤ R.cells) (hn : n + ms ≤ R.slots) (hFa : ∃ e1, F a = some e1)
    (kk : nw X R nL A (N + mc) (nov F f) (k + mc) (n + ms) (pc + 3) L st) : nw X R nL A N f k n pc L (.ref a :: st) := by
  intro H locs hz hP hS ls h T hT XX
  have hpre : PreS (xs X) H (nPc (xg X) a N e0 Z) [.ref a] := ⟨nPc_blind hZm, fun U hU hW => ⟨rfl, by rw [hU]; exact hz, by rw [hU]; exact hP a _ he, va_K.moved hW.alike C.2.2.2.2.1, hZ U (by rw [hU]; exact hz) (by rw [hU]; exact ⟨hS.1, hS.2.1, fun l hl => by cases hl⟩) hW⟩⟩
  have hr : va_Run (xp X) (xl X) (xe X) R (xs X) (xm X) (xa X) (xb X) (xt X) (xc X) H locs k n mc ms (F0 (xm X) pc ls (.ref a :: st)) st (nQc (xg X) a N mc F (Value.ref a :: []).toArray) (nA a N) := by
    rcases cw with cw | ⟨host, cw⟩
    · exact va_runI (As := []) (rest := st) (b := a) ⟨C.1, C.2.1, C.2.2.2.2.2.1, C.2.2.2.1, C.2.2.1⟩ hM cw hpre rfl rfl h.1 rfl (lv_room hst) hdg ⟨hk, hn⟩
    · exact va_runIN (As := []) (rest := st) (b := a) ⟨C.1, C.2.1, C.2.2.2.2.2.1, C.2.2.2.1, C.2.2.1⟩ hM cw hpre rfl rfl h.1 rfl (lv_room hst) hdg ⟨hk, hn⟩
  obtain ⟨v, st₀, t, T', L2, h0, X', hL, e1, e2, ⟨hv, hsz, hF, hfr⟩, stp⟩ := hr T hT XX
  cases hv
  have hfr2 : ∀ q : Nat, q < H.size → ¬ nA a N q → T'.heap[q]? = H[q]? := fun q h1 h2 => by
    have := hfr.2 q (by rw [h0]; exact h1) h2
    rw [h0, ← e1] at this
    exact this
  have hgr := hfr.1
  rw [h0, ← e1] at hgr
  rw [← e1] at hsz hF
  have hN0 := hS.1
  obtain ⟨t2, a1, b1⟩ := kk T'.heap (locs ++ L2) hsz (by
    intro q e hq
    cases hFq : F q with
    | some e' =>
      unfold nov at hq
      rw [hFq] at hq
      cases hq
      exact hF q _ hFq
    | none =>
      unfold nov at hq
      rw [hFq] at hq
      have hq' : f q = some e := hq
      have hlt := (hP q e hq').lt
      refine (hP q e hq').kept (hfr2 q hlt ?_)
      rintro (z | z)
      · obtain ⟨e1, he1⟩ := hFa
        rw [z, he1] at hFq
        cases hFq
      · have : q < H.size := hlt
        omega) ⟨Nat.le_trans hS.1 hgr, fun q h1 h2 => by
      rw [hfr2 q (Nat.lt_of_lt_of_le h1 hS.1) (fun z => by
        rcases z with z | z
        · subst z; exact h2 hA
        · omega)]
      exact hS.2.1 q h1 h2, fun q hq => by
      rcases List.mem_append.mp hq with g | g
      · exact hS.2.2 q g
      · rcases hL q g with z | z
        · rw [z]; exact hA
        · exact C.2.2.2.2.2.2 _ (by omega)⟩ ls h T' rfl X'
  exact ⟨t2, stp t2 a1, b1⟩
end NW2
/-! the makers' loops: a place of the row after the other is filled with a new object -/
def lpF (G : mh_G) (arr q0 m B s : Nat) (Fc : Nat → nH) (fb : nH) (i : Nat) : nH := fun q =>
  if q = arr then some (.inl (G.2.1 q0, m, .inr (.inr (.inr (.inr (fun j => if j < i then some (B + s * j) else none)))))) else if B ≤ q then (if q < B + s * i then Fc (B + s * ((q - B) / s)) q else none) else fb q
theorem lpF_arr {G : mh_G} {arr q0 m B s i : Nat} {Fc : Nat → nH} {fb : nH} : lpF G arr q0 m B s Fc fb i arr = some (.inl (G.2.1 q0, m, .inr (.inr (.inr (.inr (fun j => if j < i then some (B + s * j) else none)))))) := if_pos rfl
theorem lpF_lo {G : mh_G} {arr q0 m B s i q : Nat} {Fc : Nat → nH} {fb : nH} {r : Option va_E} (h1 : q ≠ arr) (h2 : q < B) (h : fb q = r) : lpF G arr q0 m B s Fc fb i q = r := (if_neg h1).trans ((if_neg (by omega)).trans h)
theorem lpF_mid {G : mh_G} {arr q0 m B s i q : Nat} {Fc : Nat → nH} {fb : nH} (h1 : q ≠ arr) (h2 : B ≤ q) (h3 : q < B + s * i) : lpF G arr q0 m B s Fc fb i q = Fc (B + s * ((q - B) / s)) q := (if_neg h1).trans ((if_pos h2).trans (if_pos h3))
theorem lpF_zero {G : mh_G} {arr q0 m B s : Nat} {Fc : Nat → nH} {fb : nH} (ha : fb arr = some (.inl (G.2.1 q0, m, .inr (.inr (.inr (.inr (fun _ => none))))))) : ∀ q e, lpF G arr q0 m B s Fc fb 0 q = some e → fb q = some e := by
  intro q e h
  unfold lpF at h
  by_cases h1 : q = arr
  · subst h1
    rw [if_pos rfl] at h
    rw [ha]
    have e1 : (fun j => if j < 0 then some (B + s * j) else (none : Option Nat)) = fun _ => none := funext fun j => if_neg (by omega)
    rw [e1] at h
    exact h
  · rw [if_neg h1] at h
    by_cases h2 : B ≤ q
    · rw [if_pos h2, if_neg (by omega)] at h
      cases h
    · rw [if_neg h2] at h
      exact h
theorem lpF_step {G : mh_G} {arr q0 m B s i : Nat} {Fc : Nat → nH} {fb : nH} {e0 : va_E} (hs : 0 < s) (haB : arr < B) (hd : ∀ o q, q < o → Fc o q = none) :
    ∀ q e, lpF G arr q0 m B s Fc fb (i + 1) q = some e → nu (nov (Fc (B + s * i)) (nu (lpF G arr q0 m B s Fc fb i) (B + s * i) e0)) arr (.inl (G.2.1 q0, m, .inr (.inr (.inr (.inr (va_up (fun j => if j < i then some (B + s * j) else none) i (some (B + s * i)))))))) q = some e := by
  intro q e h
  by_cases h1 : q = arr
  · subst h1
    rw [lpF_arr] at h
    rw [nu_s, ← h]
    congr 8
    funext j
    unfold va_up
    by_cases hj : j = i
    · subst hj
      simp
    · by_cases hj2 : j < i
      · simp [hj, hj2, show j < i + 1 by omega]
      · simp [hj, hj2, show ¬ j < i + 1 by omega]
  · refine nu_n h1 ?_
    by_cases h2 : B ≤ q
    · have h3 : q < B + s * (i + 1) := by
        rcases Nat.lt_or_ge q (B + s * (i + 1)) with z | z
        · exact z
        · unfold lpF at h
          rw [if_neg h1, if_pos h2, if_neg (by omega)] at h
          cases h
      rw [lpF_mid h1 h2 h3] at h
      have hm : s * (i + 1) = s * i + s := Nat.mul_succ s i
      by_cases h4 : q < B + s * i
      · exact nov_n (hd _ _ h4) (nu_n (by omega) ((lpF_mid h1 h2 h4).trans h))
      · have hdiv : (q - B) / s = i := by
          rw [Nat.div_eq_iff hs]
          have : i * s = s * i := Nat.mul_comm i s
          omega
        rw [hdiv] at h
        exact nov_s h
    · have h5 : lpF G arr q0 m B s Fc fb i q = some e := by
        unfold lpF at h ⊢
        rw [if_neg h1, if_neg h2] at h ⊢
        exact h
      have hp : 0 ≤ s * i := Nat.zero_le _
      exact nov_n (hd _ _ (by omega)) (nu_n (by omega) h5)
theorem n_loop {X : mh_X} {R : Room} {nL k n p a : Nat} {A : Nat → Prop} {cc : ByteArray} {ws : List Cond} {own : String} (C : nC X A cc ws own nL) {arr q0 m B mc ms : Nat} {Fc : Nat → nH} {fb : nH}
    {ix ixn ixc cx kf NX ci NN maxL : Nat} {CX Cn : String} {TX T : u_T} {fsx fs : List Value} {y : MethodName} {wsy : List Cond} {rm : Room} {bytes : ByteArray}
    (d0 : decode cc p = .ok (.iload_n 1, 1)) (d1 : decode cc (p + 1) = .ok (.aload_n 0, 1)) (d2 : decode cc (p + 2) = .ok (.getfield ix, 3)) (d5 : decode cc (p + 5) = .ok (.arraylength, 1)) (d6 : decode cc (p + 6) = .ok (.if_icmp .ge 22, 3)) (d9 : decode cc (p + 9) = .ok (.aload_n 0, 1)) (d10 : decode cc (p + 10) = .ok (.getfield ix, 3)) (d13 : decode cc (p + 13) = .ok (.iload_n 1, 1)) (d14 : decode cc (p + 14) = .ok (.new ixn, 3)) (d17 : decode cc (p + 17) = .ok (.dup, 1)) (d18 : decode cc (p + 18) = .ok (.invokespecial ixc, 3)) (d21 : decode cc (p + 21) = .ok (.aastore, 1)) (d22 : decode cc (p + 22) = .ok (.iinc 1 1, 3)) (d25 : decode cc (p + 25) = .ok (.goto (-25), 3))
    (hcx : vwCl[cx]? = some (CX, TX, NX)) (hinx : ∀ w ∈ u_ws CX TX NX, w ∈ ws) (hkf : kf < NX) (hrefx : (TX kf).1 = CX) (hlinkx : Cond.fieldLink own ix CX (TX kf).2.1 (TX kf).2.2.1 ∈ ws) (hfx : fsx[kf]? = some (.ref arr)) (hax : fb a = some (.inr (cx, fsx))) (hane : a ≠ arr) (haB : a < B) (harB : arr < B)
    (hc : vwCl[ci]? = some (Cn, T, NN)) (ty : Nat → FieldType) (hty : ∀ j, j < NN → parseFieldDescriptor (T j).2.2.1 = some (ty j)) (hin : ∀ w ∈ u_ws Cn T NN, w ∈ ws) (hcl : Cond.classLink own ixn Cn ∈ ws) (hinst : Cond.instantiable Cn NN ∈ ws) (hini : Cond.initialized Cn ∈ ws) (hfs : ∀ j, j < NN → defaultValue (ty j) = vp_V fs j)
    (ht : (mh_tys (xg X))[q0]? = some ((xg X).2.1 q0, .object Cn)) (hm : m ≤ 1000) (hnL : 1 < nL)
    (hM : ∀ o, Met (xl X) y wsy rm (nPc (xg X) o (o + 1) (.inr (ci, fs)) (fun _ => True)) (nQc (xg X) o (o + 1) mc (Fc o)) mc ms (nA o (o + 1))) (cw : nCw X R own ixc y bytes maxL wsy rm mc ms)
    (hd : ∀ o q, q < o → Fc o q = none) (hFo : ∀ o, ∃ vs, Fc o o = some (.inr (ci, vs))) (hAa : A arr) (hsz : (xs X).heap.size ≤ B)
    (hk : k + (1 + mc) * m ≤ R.cells) (hn : n + (NN + ms) * m ≤ R.slots)
    (kk : nw X R nL A (B + (1 + mc) * m) (lpF (xg X) arr q0 m B (1 + mc) Fc fb m) (k + (1 + mc) * m) (n + (NN + ms) * m) (p + 28) [(1, .int (nI m)), (0, .ref a)] []) :
    ∀ (d i : Nat), i + d = m → nw X R nL A (B + (1 + mc) * i) (lpF (xg X) arr q0 m B (1 + mc) Fc fb i) (k + (1 + mc) * i) (n + (NN + ms) * i) p [(1, .int (nI i)), (0, .ref a)] [] := by
  intro d
  induction d with
  | zero =>
    intro i hi
    obtain rfl : i = m := by omega
    refine ns_iload_n C d0 0 rfl ?_
    refine ns_aload_n C d1 1 rfl ?_
    refine ns_get C d2 (lpF_lo hane haB hax) hcx hinx hkf hrefx hlinkx hfx ?_
    refine ns_alen C d5 lpF_arr ht (v := nI i) rfl ?_
    exact ns_ge_t C d6 (tgt := p + 28) (by omega) (Int32.le_refl _) kk
  | succ d ih =>
    intro i hi
    have hI := ih (i + 1) (by omega)
    have e1 : (1 + mc) * (i + 1) = (1 + mc) * i + (1 + mc) := Nat.mul_succ _ _
    have e2 : (NN + ms) * (i + 1) = (NN + ms) * i + (NN + ms) := Nat.mul_succ _ _
    have e3 : (1 + mc) * (i + 1) ≤ (1 + mc) * m := Nat.mul_le_mul_left _ (by omega)
    have e4 : (NN + ms) * (i + 1) ≤ (NN + ms) * m := Nat.mul_le_mul_left _ (by omega)
    refine ns_iload_n C d0 0 rfl ?_
    refine ns_aload_n C d1 1 rfl ?_
    refine ns_get C d2 (lpF_lo hane haB hax) hcx hinx hkf hrefx hlinkx hfx ?_
    refine ns_alen C d5 lpF_arr ht (v := nI m) rfl ?_
    refine ns_ge_f C d6 (tgt := p + 28) (by omega) (nI_ge (by omega) (by omega)) ?_
    refine ns_aload_n C d9 1 rfl ?_
    refine ns_get C d10 (lpF_lo hane haB hax) hcx hinx hkf hrefx hlinkx hfx ?_
    refine ns_iload_n C d13 0 rfl ?_
    refine ns_new C d14 hc ty hty hin hcl hinst hini hfs (by omega) (by omega) ?_
    refine ns_dup C d17 rfl ?_
    have hp : 0 ≤ (1 + mc) * i := Nat.zero_le _
    refine ns_call C d18 (hM (B + (1 + mc) * i)) cw nu_s (C.2.2.2.2.2.2 _ (by omega)) (fun _ _ _ _ _ => trivial) (fun _ _ _ _ => trivial) (Nat.le_of_ble_eq_true rfl) (by omega) (by omega) (by obtain ⟨vs, h⟩ := hFo (B + (1 + mc) * i); exact ⟨_, h⟩) ?_
    obtain ⟨vs, hvs⟩ := hFo (B + (1 + mc) * i)
    refine ns_aast C d21 (nov_n (hd _ _ (by omega)) (nu_n (by omega) lpF_arr)) (r := (Cn, T, NN)) ht (nov_s hvs) hc (nI_in (by omega) (by omega)) hAa ?_
    rw [nI_clamp (show i < 2 ^ 31 by omega)]
    refine ns_iinc C d22 0 rfl (v := nI (i + 1)) (nI_1 i) hnL rfl ?_
    refine ns_goto C d25 (tgt := p) (by omega) ?_
    refine ns_sub (lpF_step (by omega) harB hd) ?_
    rw [show B + (1 + mc) * i + 1 + mc = B + (1 + mc) * (i + 1) by omega, show k + (1 + mc) * i + 1 + mc = k + (1 + mc) * (i + 1) by omega, show n + (NN + ms) * i + NN + ms = n + (NN + ms) * (i + 1) by omega]
    exact hI
