/-! ===== the law's loop ===== -/
/-- both sides hold one state, behind c calls -/
def Rel (c : Nat) (M : mh_M) : Prop := ∃ q : St, XS q M ∧ MS q M ∧ Inv c q
theorem rel_both {c : Nat} {M : mh_M} (hR : Rel c M) {fx : Option (mh_M × Int32)} {fm : mh_M → Option (mh_M × Int32)} (h : ∀ (q : St) (M' : mh_M), XS q M → MS q M' → Inv c q → Both c M M' fx (fm M')) : ∃ (M1 M2 : mh_M) (r : Int32), fx = some (M1, r) ∧ fm M1 = some (M2, r) ∧ Rel (c + 1) M2 := by
  obtain ⟨q, h1, h2, h3⟩ := hR
  obtain ⟨q1, r, M1, M2, e1, x1, f1, -, -, -, -⟩ := h q M h1 h2 h3
  obtain ⟨q2, r', M1', M2', e1', x1', -, e2', m2', f2', i2'⟩ := h q M1 h1 (MS_congr f1 h2) h3
  have e : (M1', r') = (M1, r) := Option.some.inj (e1'.symm.trans e1)
  have ea : M1' = M1 := congrArg Prod.fst e
  have eb : r' = r := congrArg Prod.snd e
  subst ea
  subst eb
  exact ⟨M1', M2', r', e1, e2', q2, XS_congr f2' x1', m2', i2'⟩
theorem rel_pure {c : Nat} {M : mh_M} (hR : Rel c M) (hc : c < 512) {α : Type} {fx fm : Option α} (h : ∀ q : St, XS q M → MS q M → Inv c q → BothP fx fm) : ∃ r : α, fx = some r ∧ fm = some r ∧ Rel (c + 1) M := by
  obtain ⟨q, h1, h2, h3⟩ := hR
  obtain ⟨r, e1, e2⟩ := h q h1 h2 h3
  exact ⟨r, e1, e2, q, h1, h2, Inv_up h3 hc⟩
def lz (X : mh_X) (M : mh_M) (pc : Nat) (L : List (Nat × Value)) (st : List Value) : Prop :=
  ∀ (H : Heap) (locs : List Loc), mh_Pw (xg X) M H → va_S (mh_dom (xg X)) (xs X).heap H locs → ∀ ls : Array Slot, lv_has ls 4 L →
    W (xp X) (xl X) (xe X) room_1 (xs X) (xm X) (xa X) (xb X) (xt X) (xc X) H locs (xk X) (xn X) (xq X) (F0 (xm X) pc ls st)
/-- the law's machine: all that its rows need; tS: where the limits lie -/
def lzC (X : mh_X) (b Ln : Nat) (xv : Nat → Int32) : Prop := mh_C X room_1 cL_law wsL_law RL 4 ∧ va_X b Ln xv (xs X) (xs X).heap ∧ b < (xs X).heap.size ∧ ¬ mh_dom (xg X) b ∧ Ln ≤ 3072 ∧ (∃ tS, mh_S (xg X) tS (xs X)) ∧
  (∀ (H : Heap) (locs : List Loc), va_S (mh_dom (xg X)) (xs X).heap H locs → ∀ ls : Array Slot, W (xp X) (xl X) (xe X) room_1 (xs X) (xm X) (xa X) (xb X) (xt X) (xc X) H locs (xk X) (xn X) (xq X) (F0 (xm X) 1327 ls [.int 1]))
section LZ
variable {X : mh_X} {b Ln : Nat} {xv : Nat → Int32} {M : mh_M} {pc : Nat} {L : List (Nat × Value)} {st : List Value}
theorem lz_aload (C : lzC X b Ln xv) {k : Fin 4} {x : Nat} (hdg : decode cL_law pc = .ok (.aload_n k, 1)) (j : Nat) (hl : L[j]? = some (k.val, .ref x)) (kk : lz X M (pc + 1) L (.ref x :: st)) : lz X M pc L st := fun H locs hP hS ls h => lv_aload_n C.1.1 C.1.2.1 hdg rfl (lv_at h j hl) (kk H locs hP hS ls h)
theorem lz_iload (C : lzC X b Ln xv) {k : Fin 4} {x : Int32} (hdg : decode cL_law pc = .ok (.iload_n k, 1)) (j : Nat) (hl : L[j]? = some (k.val, .int x)) (kk : lz X M (pc + 1) L (.int x :: st)) : lz X M pc L st := fun H locs hP hS ls h => lv_iload_n C.1.1 C.1.2.1 hdg rfl (lv_at h j hl) (kk H locs hP hS ls h)
theorem lz_iconst (C : lzC X b Ln xv) {n : Int} (v : Int32) (hdg : decode cL_law pc = .ok (.iconst n, 1)) (hv : Int32.ofInt n = v) (kk : lz X M (pc + 1) L (.int v :: st)) : lz X M pc L st := fun H locs hP hS ls h => lv_iconst C.1.1 C.1.2.1 hdg hv (kk H locs hP hS ls h)
theorem lz_bipush (C : lzC X b Ln xv) {n : Int} (v : Int32) (hdg : decode cL_law pc = .ok (.bipush n, 2)) (hv : (Int8.ofInt n).toInt32 = v) (kk : lz X M (pc + 2) L (.int v :: st)) : lz X M pc L st := fun H locs hP hS ls h => lv_bipush C.1.1 C.1.2.1 hdg hv (kk H locs hP hS ls h)
theorem lz_iadd (C : lzC X b Ln xv) {x y : Int32} (v : Int32) (hv : x + y = v) (hdg : decode cL_law pc = .ok (.iadd, 1)) (kk : lz X M (pc + 1) L (.int v :: st)) : lz X M pc L (.int y :: .int x :: st) := by
  subst hv
  exact fun H locs hP hS ls h => lv_iadd C.1.1 C.1.2.1 hdg (kk H locs hP hS ls h)
theorem lz_isub (C : lzC X b Ln xv) {x y : Int32} (hdg : decode cL_law pc = .ok (.isub, 1)) (kk : lz X M (pc + 1) L (.int (x - y) :: st)) : lz X M pc L (.int y :: .int x :: st) := fun H locs hP hS ls h => lv_isub C.1.1 C.1.2.1 hdg (kk H locs hP hS ls h)
theorem lz_iand (C : lzC X b Ln xv) {x y : Int32} (hdg : decode cL_law pc = .ok (.iand, 1)) (kk : lz X M (pc + 1) L (.int (x &&& y) :: st)) : lz X M pc L (.int y :: .int x :: st) := fun H locs hP hS ls h => lv_iand C.1.1 C.1.2.1 hdg (kk H locs hP hS ls h)
theorem lz_sld (C : lzC X b Ln xv) {j : Nat} (hj : j < Ln) (hdg : decode cL_law pc = .ok (.iaload, 1)) (kk : lz X M (pc + 1) L (.int (xv j) :: st)) : lz X M pc L (.int (nI j) :: .ref b :: st) := by
  intro H locs hP hS ls h
  obtain ⟨c1, c2, c3, c4, c5, -⟩ := C
  refine va_sld c1.1 c1.2.1 c2 c3 c4 hS (nI_in hj (by omega)) hdg ?_
  rw [nI_clamp (by omega)]
  exact kk H locs hP hS ls h
theorem lz_slen (C : lzC X b Ln xv) (hdg : decode cL_law pc = .ok (.arraylength, 1)) (kk : lz X M (pc + 1) L (.int (nI Ln) :: st)) : lz X M pc L (.ref b :: st) := fun H locs hP hS ls h =>
  va_slen C.1.1 C.1.2.1 C.2.1 C.2.2.1 C.2.2.2.1 hS hdg (kk H locs hP hS ls h)
theorem lz_eq_t (C : lzC X b Ln xv) {x : Int32} {off : Int} {tgt : Nat} (hdg : decode cL_law pc = .ok (.if_icmp .eq off, 3)) (ht : (pc : Int) + off = (tgt : Int)) (kk : lz X M tgt L st) : lz X M pc L (.int x :: .int x :: st) := fun H locs hP hS ls h => lv_icmp_eq C.1.1 C.1.2.1 hdg ht (fun _ => kk H locs hP hS ls h) (fun q => absurd rfl q)
theorem lz_gt_t (C : lzC X b Ln xv) {x y : Int32} {off : Int} {tgt : Nat} (hdg : decode cL_law pc = .ok (.if_icmp .gt off, 3)) (ht : (pc : Int) + off = (tgt : Int)) (hc : y < x) (kk : lz X M tgt L st) : lz X M pc L (.int y :: .int x :: st) := fun H locs hP hS ls h => lv_icmp_gt C.1.1 C.1.2.1 hdg ht (fun _ => kk H locs hP hS ls h) (fun q => absurd hc q)
theorem lz_gt_f (C : lzC X b Ln xv) {x y : Int32} {off : Int} {tgt : Nat} (hdg : decode cL_law pc = .ok (.if_icmp .gt off, 3)) (ht : (pc : Int) + off = (tgt : Int)) (hc : ¬ y < x) (kk : lz X M (pc + 3) L st) : lz X M pc L (.int y :: .int x :: st) := fun H locs hP hS ls h => lv_icmp_gt C.1.1 C.1.2.1 hdg ht (fun q => absurd q hc) (fun _ => kk H locs hP hS ls h)
theorem lz_ifeq_t (C : lzC X b Ln xv) {x : Int32} {off : Int} {tgt : Nat} (hdg : decode cL_law pc = .ok (.ifCond .eq off, 3)) (ht : (pc : Int) + off = (tgt : Int)) (hc : x = 0) (kk : lz X M tgt L st) : lz X M pc L (.int x :: st) := fun H locs hP hS ls h => lv_if_eq C.1.1 C.1.2.1 hdg ht (fun _ => kk H locs hP hS ls h) (fun q => absurd hc q)
theorem lz_lcmp (C : lzC X b Ln xv) {x y : Int64} (hdg : decode cL_law pc = .ok (.lcmp, 1)) (kk : lz X M (pc + 1) L (.int (lg_cmp x y) :: st)) : lz X M pc L (.long y :: .long x :: st) := fun H locs hP hS ls h => W.lcmp C.1.1 C.1.2.1 hdg (kk H locs hP hS ls h)
theorem lz_iinc (C : lzC X b Ln xv) {i : Nat} {d : Int} {x v : Int32} {L' : List (Nat × Value)} (hdg : decode cL_law pc = .ok (.iinc i d, 3)) (j : Nat) (hj : L[j]? = some (i, .int x)) (hv : x + Int32.ofInt d = v) (hn : i < 4) (hl : (i, Value.int v) :: L.filter (fun q => !(q.1 == i) && !(q.1 + 1 == i && q.2.category == 2)) = L') (kk : lz X M (pc + 3) L' st) : lz X M pc L st := fun H locs hP hS ls h => lv_iinc C.1.1 C.1.2.1 hdg h hj (v := v) hv hn hl (fun ls' h' => kk H locs hP hS ls' h')
theorem lz_goto (C : lzC X b Ln xv) {off : Int} {tgt : Nat} (hdg : decode cL_law pc = .ok (.goto off, 3)) (ht : (pc : Int) + off = (tgt : Int)) (kk : lz X M tgt L st) : lz X M pc L st := fun H locs hP hS ls h => lv_goto C.1.1 C.1.2.1 hdg ht (kk H locs hP hS ls h)
theorem lz_tin (C : lzC X b Ln xv) {dflt lo hi : Int} {offs : Array Int} {len : Nat} {x : Int32} {off : Int} {tgt : Nat} (hdg : decode cL_law pc = .ok (.tableswitch dflt lo hi offs, len)) (h1 : ¬ x.toInt < lo) (h2 : ¬ hi < x.toInt) (hof : offs[(x.toInt - lo).toNat]? = some off) (ht : (pc : Int) + off = (tgt : Int)) (kk : lz X M tgt L st) : lz X M pc L (.int x :: st) := fun H locs hP hS ls h => lv_tableIn C.1.1 C.1.2.1 hdg h1 h2 hof ht (kk H locs hP hS ls h)
theorem lz_tout (C : lzC X b Ln xv) {dflt lo hi : Int} {offs : Array Int} {len : Nat} {x : Int32} {tgt : Nat} (hdg : decode cL_law pc = .ok (.tableswitch dflt lo hi offs, len)) (hx : x.toInt < lo ∨ hi < x.toInt) (ht : (pc : Int) + dflt = (tgt : Int)) (kk : lz X M tgt L st) : lz X M pc L (.int x :: st) := fun H locs hP hS ls h => lv_tableOut C.1.1 C.1.2.1 hdg hx ht (kk H locs hP hS ls h)
/-- an argument of a call out of the script -/
theorem lz_arg (C : lzC X b Ln xv) {n : Int} {i j : Nat} (hL : L = [(3, .int (nI i)), (2, .ref (xad X 40 0)), (1, .ref (xad X 0 0)), (0, .ref b)]) (d0 : decode cL_law pc = .ok (.aload_n 0, 1)) (d1 : decode cL_law (pc + 1) = .ok (.iload_n 3, 1)) (d2 : decode cL_law (pc + 2) = .ok (.iconst n, 1)) (hn : Int32.ofInt n = nI j) (d3 : decode cL_law (pc + 3) = .ok (.iadd, 1)) (d4 : decode cL_law (pc + 4) = .ok (.iaload, 1)) (hij : i + j < Ln) (kk : lz X M (pc + 5) L (.int (xv (i + j)) :: st)) : lz X M pc L st := by
  subst hL
  refine lz_aload C d0 3 rfl ?_
  refine lz_iload C d1 0 rfl ?_
  refine lz_iconst C (nI j) d2 hn ?_
  refine lz_iadd C (nI (i + j)) (nI_add i j) d3 ?_
  exact lz_sld C hij d4 kk
theorem lz_call0 {M1 : mh_M} {v : Value} {rest st0 : List Value} {a : Array Value}
    (hr : ∀ (H : Heap) (locs : List Loc), mh_Pw (xg X) M H → va_S (mh_dom (xg X)) (xs X).heap H locs → ∀ ls : Array Slot, lv_has ls 4 L → va_Run (xp X) (xl X) (xe X) room_1 (xs X) (xm X) (xa X) (xb X) (xt X) (xc X) H locs (xk X) (xn X) 0 0 (F0 (xm X) pc ls st0) rest (mh_Q (xg X) M1 (some v) a) (mh_dom (xg X)))
    (kk : lz X M1 (pc + 3) L (v :: rest)) : lz X M pc L st0 := by
  intro H locs hP hS ls h T hT XX
  obtain ⟨v', st₀, t, T', L', h0, X', hL, e1, e2, ⟨hv, hp, hz, hk⟩, stp⟩ := hr H locs hP hS ls h T hT XX
  cases hv
  rw [h0] at hz hk
  obtain ⟨t2, a1, b1⟩ := kk T'.heap (locs ++ L') (by rw [e1]; exact hp) ⟨Nat.le_trans hS.1 (by rw [e1]; exact hz), fun q h1 h2 => by rw [e1, hk q (Nat.lt_of_lt_of_le h1 hS.1) h2]; exact hS.2.1 q h1 h2, fun q hq => by
      rcases List.mem_append.mp hq with g | g
      · exact hS.2.2 q g
      · exact hL q g⟩ ls h T' rfl X'
  exact ⟨t2, stp t2 a1, b1⟩
theorem lz_call (C : lzC X b Ln xv) {M1 : mh_M} {v : Value} {rest As : List Value} {y : MethodName} {wsy : List Cond} {rm : Room} {Cn : String} {index maxL n t i ci N : Nat} {bytes : ByteArray} {ret : Option FieldType} {r : Nat → Option Nat} {T : u_T}
    (hdg : decode cL_law pc = .ok (.invokevirtual index, 3)) (hM : Met (xl X) y wsy rm (mh_Pc (xg X) M (.ref (xad X t i) :: As)) (mh_Q (xg X) M1 (some v)) 0 0 (mh_dom (xg X)))
    (cw : CallW room_1 (xs X) (xa X) RL Cn index y bytes maxL ret wsy rm 0 0 n) (hz : mh_Z (xg X) t i = some (.inl (ci, N, r))) (hc : vwCl[ci]? = some (Cn, T, N)) (hn : As.length = n) (hst : (rest.map fun v => v.category).sum ≤ 8) (hs0 : st = As.reverse ++ .ref (xad X t i) :: rest)
    (kk : lz X M1 (pc + 3) L (v :: rest)) : lz X M pc L st := by
  refine lz_call0 (a := (Value.ref (xad X t i) :: As).toArray) (fun H locs hP hS ls h => ?_) kk
  have C := C.1
  exact va_runV (As := As) (rest := rest) (b := xad X t i) ⟨C.1, C.2.1, C.2.2.2.2.2.2.1, C.2.2.2.1, C.2.2.1⟩ hM cw ⟨mh_Pc_blind _ _ _, va_recv C.2.2.2.2.2.1 (mh_one hP hz) (ci := ci) (q0 := 0) hc rfl, fun U hU hW => ⟨rfl, C.2.2.2.2.1, by rw [hU]; exact hP, va_K.moved hW.alike C.2.2.2.2.2.1⟩⟩ rfl hn h.1 hs0 (lv_room hst) hdg ⟨C.2.2.2.2.2.2.2.1, C.2.2.2.2.2.2.2.2⟩
theorem mh_S_at {G : mh_G} {t : Nat} {s U : State} {H : Heap} {locs : List Loc} (h : mh_S G t s) (hS : va_S (mh_dom G) s.heap H locs) (hU : U.heap = H) (hW : s.vm.Alike U.vm) : mh_S G t U := by
  have hq : ∀ a : Nat, a < s.heap.size → ¬ mh_dom G a → U.heap[a]? = s.heap[a]? := fun a h1 h2 => by rw [hU]; exact hS.2.1 a h1 h2
  exact ⟨va_Z.moved hW (h.1.kept hq), va_T.moved hW (h.2.kept hq)⟩
theorem mh_PcS_blind (G : mh_G) (M : mh_M) (As : List Value) (t : Nat) : FrameBlind (mh_PcS G M As t) := fun a U g mk q => by
  obtain ⟨q0, ⟨q1, q2, q3⟩, q4, q5⟩ := q
  exact ⟨q0, ⟨q1, q2, va_K.moved (u := U) (U := U.calling g mk a) (Vm.Alike.refl U.vm) q3⟩, va_Z.moved (u := U) (U := U.calling g mk a) (Vm.Alike.refl U.vm) q4, va_T.moved (u := U) (U := U.calling g mk a) (Vm.Alike.refl U.vm) q5⟩
theorem lz_callS (C : lzC X b Ln xv) {tS : Nat} (hS0 : mh_S (xg X) tS (xs X)) {M1 : mh_M} {v : Value} {rest As : List Value} {y : MethodName} {wsy : List Cond} {rm : Room} {Cn : String} {index maxL n t i ci N : Nat} {bytes : ByteArray} {ret : Option FieldType} {r : Nat → Option Nat} {T : u_T}
    (hdg : decode cL_law pc = .ok (.invokevirtual index, 3)) (hM : Met (xl X) y wsy rm (mh_PcS (xg X) M (.ref (xad X t i) :: As) tS) (mh_Q (xg X) M1 (some v)) 0 0 (mh_dom (xg X)))
    (cw : CallW room_1 (xs X) (xa X) RL Cn index y bytes maxL ret wsy rm 0 0 n) (hz : mh_Z (xg X) t i = some (.inl (ci, N, r))) (hc : vwCl[ci]? = some (Cn, T, N)) (hn : As.length = n) (hst : (rest.map fun v => v.category).sum ≤ 8) (hs0 : st = As.reverse ++ .ref (xad X t i) :: rest)
    (kk : lz X M1 (pc + 3) L (v :: rest)) : lz X M pc L st := by
  refine lz_call0 (a := (Value.ref (xad X t i) :: As).toArray) (fun H locs hP hS ls h => ?_) kk
  have C := C.1
  exact va_runV (As := As) (rest := rest) (b := xad X t i) ⟨C.1, C.2.1, C.2.2.2.2.2.2.1, C.2.2.2.1, C.2.2.1⟩ hM cw ⟨mh_PcS_blind _ _ _ _, va_recv C.2.2.2.2.2.1 (mh_one hP hz) (ci := ci) (q0 := 0) hc rfl, fun U hU hW => ⟨rfl, ⟨C.2.2.2.2.1, by rw [hU]; exact hP, va_K.moved hW.alike C.2.2.2.2.2.1⟩, mh_S_at hS0 hS hU hW.alike⟩⟩ rfl hn h.1 hs0 (lv_room hst) hdg ⟨C.2.2.2.2.2.2.2.1, C.2.2.2.2.2.2.2.2⟩
end LZ
abbrev lzL (X : mh_X) (b i : Nat) : List (Nat × Value) := [(3, .int (nI i)), (2, .ref (xad X 40 0)), (1, .ref (xad X 0 0)), (0, .ref b)]
/-- what every turn of the loop needs of the next one -/
def lzK (X : mh_X) (b i c : Nat) : Prop := ∀ M : mh_M, Rel (c + 1) M → lz X M 1320 (lzL X b i) []
set_option maxRecDepth 100000 in
set_option maxHeartbeats 4000000 in
theorem lw_kind {X : mh_X} {b Ln i c : Nat} {xv : Nat → Int32} {M : mh_M} (C : lzC X b Ln xv) (hi : i + 6 ≤ Ln) (hc : c < 512) (hR : Rel c M) (kk : lzK X b i c) : lz X M 180 (lzL X b i) [] := by
  obtain ⟨M1, M2, r, e1, e2, hR2⟩ := rel_both hR (fx := fX9_kind 2000 M (xv (i + 1)) (xv (i + 2)) (xv (i + 3))) (fm := fun M' => fX10_kind 2000 M' (xv (i + 1)) (xv (i + 2)) (xv (i + 3))) (fun q M' h1 h2 h3 => s_kind h1 h2 h3 hc 2000 (xv (i + 1)) (xv (i + 2)) (xv (i + 3)))
  refine lz_aload C dL_law_180 2 rfl ?_
  refine lz_arg C rfl dL_law_181 dL_law_182 dL_law_183 (j := 1) (by decide) dL_law_184 dL_law_185 (by omega) ?_
  refine lz_arg C rfl dL_law_186 dL_law_187 dL_law_188 (j := 2) (by decide) dL_law_189 dL_law_190 (by omega) ?_
  refine lz_arg C rfl dL_law_191 dL_law_192 dL_law_193 (j := 3) (by decide) dL_law_194 dL_law_195 (by omega) ?_
  refine lz_call C (M1 := M1) (v := .int r) (rest := []) (As := [.int (xv (i + 1)), .int (xv (i + 2)), .int (xv (i + 3))]) dL_law_196 (mtX9_kind (xl X) (xg X) 2000 M (xv (i + 1)) (xv (i + 2)) (xv (i + 3)) e1) (cwV 3 C.1.2.2.1 gL_law_X9_kind rfl rfl rfl (by decide +kernel) ⟨(Nat.le_of_ble_eq_true rfl), (Nat.le_of_ble_eq_true rfl)⟩) (zz0 (G := xg X) (i := 0) (by omega)) (T := TX9) rfl rfl (Nat.le_of_ble_eq_true rfl) rfl ?_
  refine lz_aload C dL_law_199 1 rfl ?_
  refine lz_arg C rfl dL_law_200 dL_law_201 dL_law_202 (j := 1) (by decide) dL_law_203 dL_law_204 (by omega) ?_
  refine lz_arg C rfl dL_law_205 dL_law_206 dL_law_207 (j := 2) (by decide) dL_law_208 dL_law_209 (by omega) ?_
  refine lz_arg C rfl dL_law_210 dL_law_211 dL_law_212 (j := 3) (by decide) dL_law_213 dL_law_214 (by omega) ?_
  refine lz_call C (M1 := M2) (v := .int r) (rest := [.int r]) (As := [.int (xv (i + 1)), .int (xv (i + 2)), .int (xv (i + 3))]) dL_law_215 (mtX10_kind (xl X) (xg X) 2000 M1 (xv (i + 1)) (xv (i + 2)) (xv (i + 3)) e2) (cwV 3 C.1.2.2.1 gL_law_X10_kind rfl rfl rfl (by decide +kernel) ⟨(Nat.le_of_ble_eq_true rfl), (Nat.le_of_ble_eq_true rfl)⟩) (zz40 (G := xg X) (i := 0) (by omega)) (T := TX10) rfl rfl (Nat.le_of_ble_eq_true rfl) rfl ?_
  exact lz_eq_t C dL_law_218 (tgt := 1320) (by decide) (kk _ hR2)
set_option maxRecDepth 100000 in
set_option maxHeartbeats 4000000 in
theorem lw_recipe {X : mh_X} {b Ln i c : Nat} {xv : Nat → Int32} {M : mh_M} (C : lzC X b Ln xv) (hi : i + 6 ≤ Ln) (hc : c < 512) (hR : Rel c M) (kk : lzK X b i c) : lz X M 223 (lzL X b i) [] := by
  obtain ⟨M1, M2, r, e1, e2, hR2⟩ := rel_both hR (fx := fX9_recipe 2000 M (xv (i + 1))) (fm := fun M' => fX10_recipe 2000 M' (xv (i + 1))) (fun q M' h1 h2 h3 => s_recipe h1 h2 h3 hc 2000 (xv (i + 1)))
  refine lz_aload C dL_law_223 2 rfl ?_
  refine lz_arg C rfl dL_law_224 dL_law_225 dL_law_226 (j := 1) (by decide) dL_law_227 dL_law_228 (by omega) ?_
  refine lz_call C (M1 := M1) (v := .int r) (rest := []) (As := [.int (xv (i + 1))]) dL_law_229 (mtX9_recipe (xl X) (xg X) 2000 M (xv (i + 1)) e1) (cwV 1 C.1.2.2.1 gL_law_X9_recipe rfl rfl rfl (by decide +kernel) ⟨(Nat.le_of_ble_eq_true rfl), (Nat.le_of_ble_eq_true rfl)⟩) (zz0 (G := xg X) (i := 0) (by omega)) (T := TX9) rfl rfl (Nat.le_of_ble_eq_true rfl) rfl ?_
  refine lz_aload C dL_law_232 1 rfl ?_
  refine lz_arg C rfl dL_law_233 dL_law_234 dL_law_235 (j := 1) (by decide) dL_law_236 dL_law_237 (by omega) ?_
  refine lz_call C (M1 := M2) (v := .int r) (rest := [.int r]) (As := [.int (xv (i + 1))]) dL_law_238 (mtX10_recipe (xl X) (xg X) 2000 M1 (xv (i + 1)) e2) (cwV 1 C.1.2.2.1 gL_law_X10_recipe rfl rfl rfl (by decide +kernel) ⟨(Nat.le_of_ble_eq_true rfl), (Nat.le_of_ble_eq_true rfl)⟩) (zz40 (G := xg X) (i := 0) (by omega)) (T := TX10) rfl rfl (Nat.le_of_ble_eq_true rfl) rfl ?_
  exact lz_eq_t C dL_law_241 (tgt := 1320) (by decide) (kk _ hR2)
set_option maxRecDepth 100000 in
set_option maxHeartbeats 4000000 in
theorem lw_part {X : mh_X} {b Ln i c : Nat} {xv : Nat → Int32} {M : mh_M} (C : lzC X b Ln xv) (hi : i + 6 ≤ Ln) (hc : c < 512) (hR : Rel c M) (kk : lzK X b i c) : lz X M 246 (lzL X b i) [] := by
  obtain ⟨M1, M2, r, e1, e2, hR2⟩ := rel_both hR (fx := fX9_part 2000 M (xv (i + 1)) (xv (i + 2)) (xv (i + 3))) (fm := fun M' => fX10_part 2000 M' (xv (i + 1)) (xv (i + 2)) (xv (i + 3))) (fun q M' h1 h2 h3 => s_part h1 h2 h3 hc 2000 (xv (i + 1)) (xv (i + 2)) (xv (i + 3)))
  refine lz_aload C dL_law_246 2 rfl ?_
  refine lz_arg C rfl dL_law_247 dL_law_248 dL_law_249 (j := 1) (by decide) dL_law_250 dL_law_251 (by omega) ?_
  refine lz_arg C rfl dL_law_252 dL_law_253 dL_law_254 (j := 2) (by decide) dL_law_255 dL_law_256 (by omega) ?_
  refine lz_arg C rfl dL_law_257 dL_law_258 dL_law_259 (j := 3) (by decide) dL_law_260 dL_law_261 (by omega) ?_
  refine lz_call C (M1 := M1) (v := .int r) (rest := []) (As := [.int (xv (i + 1)), .int (xv (i + 2)), .int (xv (i + 3))]) dL_law_262 (mtX9_part (xl X) (xg X) 2000 M (xv (i + 1)) (xv (i + 2)) (xv (i + 3)) e1) (cwV 3 C.1.2.2.1 gL_law_X9_part rfl rfl rfl (by decide +kernel) ⟨(Nat.le_of_ble_eq_true rfl), (Nat.le_of_ble_eq_true rfl)⟩) (zz0 (G := xg X) (i := 0) (by omega)) (T := TX9) rfl rfl (Nat.le_of_ble_eq_true rfl) rfl ?_
  refine lz_aload C dL_law_265 1 rfl ?_
  refine lz_arg C rfl dL_law_266 dL_law_267 dL_law_268 (j := 1) (by decide) dL_law_269 dL_law_270 (by omega) ?_
  refine lz_arg C rfl dL_law_271 dL_law_272 dL_law_273 (j := 2) (by decide) dL_law_274 dL_law_275 (by omega) ?_
  refine lz_arg C rfl dL_law_276 dL_law_277 dL_law_278 (j := 3) (by decide) dL_law_279 dL_law_280 (by omega) ?_
  refine lz_call C (M1 := M2) (v := .int r) (rest := [.int r]) (As := [.int (xv (i + 1)), .int (xv (i + 2)), .int (xv (i + 3))]) dL_law_281 (mtX10_part (xl X) (xg X) 2000 M1 (xv (i + 1)) (xv (i + 2)) (xv (i + 3)) e2) (cwV 3 C.1.2.2.1 gL_law_X10_part rfl rfl rfl (by decide +kernel) ⟨(Nat.le_of_ble_eq_true rfl), (Nat.le_of_ble_eq_true rfl)⟩) (zz40 (G := xg X) (i := 0) (by omega)) (T := TX10) rfl rfl (Nat.le_of_ble_eq_true rfl) rfl ?_
  exact lz_eq_t C dL_law_284 (tgt := 1320) (by decide) (kk _ hR2)
set_option maxRecDepth 100000 in
set_option maxHeartbeats 4000000 in
theorem lw_rule {X : mh_X} {b Ln i c : Nat} {xv : Nat → Int32} {M : mh_M} (C : lzC X b Ln xv) {tS : Nat} (hS0 : mh_S (xg X) tS (xs X)) (hi : i + 6 ≤ Ln) (hc : c < 512) (hR : Rel c M) (kk : lzK X b i c) : lz X M 289 (lzL X b i) [] := by
  obtain ⟨M1, M2, r, e1, e2, hR2⟩ := rel_both hR (fx := fX9_rule 2000 M (xv (i + 1)) (xv (i + 2))) (fm := fun M' => fX10_rule 2000 M' (xv (i + 1)) (xv (i + 2))) (fun q M' h1 h2 h3 => s_rule h1 h2 h3 hc 2000 (xv (i + 1)) (xv (i + 2)))
  refine lz_aload C dL_law_289 2 rfl ?_
  refine lz_arg C rfl dL_law_290 dL_law_291 dL_law_292 (j := 1) (by decide) dL_law_293 dL_law_294 (by omega) ?_
  refine lz_arg C rfl dL_law_295 dL_law_296 dL_law_297 (j := 2) (by decide) dL_law_298 dL_law_299 (by omega) ?_
  refine lz_callS C hS0 (M1 := M1) (v := .int r) (rest := []) (As := [.int (xv (i + 1)), .int (xv (i + 2))]) dL_law_300 (mtX9_rule (xl X) (xg X) 2000 M (xv (i + 1)) (xv (i + 2)) e1) (cwV 2 C.1.2.2.1 gL_law_X9_rule rfl rfl rfl (by decide +kernel) ⟨(Nat.le_of_ble_eq_true rfl), (Nat.le_of_ble_eq_true rfl)⟩) (zz0 (G := xg X) (i := 0) (by omega)) (T := TX9) rfl rfl (Nat.le_of_ble_eq_true rfl) rfl ?_
  refine lz_aload C dL_law_303 1 rfl ?_
  refine lz_arg C rfl dL_law_304 dL_law_305 dL_law_306 (j := 1) (by decide) dL_law_307 dL_law_308 (by omega) ?_
  refine lz_arg C rfl dL_law_309 dL_law_310 dL_law_311 (j := 2) (by decide) dL_law_312 dL_law_313 (by omega) ?_
  refine lz_call C (M1 := M2) (v := .int r) (rest := [.int r]) (As := [.int (xv (i + 1)), .int (xv (i + 2))]) dL_law_314 (mtX10_rule (xl X) (xg X) 2000 M1 (xv (i + 1)) (xv (i + 2)) e2) (cwV 2 C.1.2.2.1 gL_law_X10_rule rfl rfl rfl (by decide +kernel) ⟨(Nat.le_of_ble_eq_true rfl), (Nat.le_of_ble_eq_true rfl)⟩) (zz40 (G := xg X) (i := 0) (by omega)) (T := TX10) rfl rfl (Nat.le_of_ble_eq_true rfl) rfl ?_
  exact lz_eq_t C dL_law_317 (tgt := 1320) (by decide) (kk _ hR2)
set_option maxRecDepth 100000 in
set_option maxHeartbeats 4000000 in
theorem lw_receive {X : mh_X} {b Ln i c : Nat} {xv : Nat → Int32} {M : mh_M} (C : lzC X b Ln xv) (hi : i + 6 ≤ Ln) (hc : c < 512) (hR : Rel c M) (kk : lzK X b i c) : lz X M 322 (lzL X b i) [] := by
  obtain ⟨M1, M2, r, e1, e2, hR2⟩ := rel_both hR (fx := fX9_receive 2000 M (xv (i + 1)) (xv (i + 2))) (fm := fun M' => fX10_receive 2000 M' (xv (i + 1)) (xv (i + 2))) (fun q M' h1 h2 h3 => s_receive h1 h2 h3 hc 2000 (Nat.le_of_ble_eq_true rfl) (xv (i + 1)) (xv (i + 2)))
  refine lz_aload C dL_law_322 2 rfl ?_
  refine lz_arg C rfl dL_law_323 dL_law_324 dL_law_325 (j := 1) (by decide) dL_law_326 dL_law_327 (by omega) ?_
  refine lz_arg C rfl dL_law_328 dL_law_329 dL_law_330 (j := 2) (by decide) dL_law_331 dL_law_332 (by omega) ?_
  refine lz_call C (M1 := M1) (v := .int r) (rest := []) (As := [.int (xv (i + 1)), .int (xv (i + 2))]) dL_law_333 (mtX9_receive (xl X) (xg X) 2000 M (xv (i + 1)) (xv (i + 2)) e1) (cwV 2 C.1.2.2.1 gL_law_X9_receive rfl rfl rfl (by decide +kernel) ⟨(Nat.le_of_ble_eq_true rfl), (Nat.le_of_ble_eq_true rfl)⟩) (zz0 (G := xg X) (i := 0) (by omega)) (T := TX9) rfl rfl (Nat.le_of_ble_eq_true rfl) rfl ?_
  refine lz_aload C dL_law_336 1 rfl ?_
  refine lz_arg C rfl dL_law_337 dL_law_338 dL_law_339 (j := 1) (by decide) dL_law_340 dL_law_341 (by omega) ?_
  refine lz_arg C rfl dL_law_342 dL_law_343 dL_law_344 (j := 2) (by decide) dL_law_345 dL_law_346 (by omega) ?_
  refine lz_call C (M1 := M2) (v := .int r) (rest := [.int r]) (As := [.int (xv (i + 1)), .int (xv (i + 2))]) dL_law_347 (mtX10_receive (xl X) (xg X) 2000 M1 (xv (i + 1)) (xv (i + 2)) e2) (cwV 2 C.1.2.2.1 gL_law_X10_receive rfl rfl rfl (by decide +kernel) ⟨(Nat.le_of_ble_eq_true rfl), (Nat.le_of_ble_eq_true rfl)⟩) (zz40 (G := xg X) (i := 0) (by omega)) (T := TX10) rfl rfl (Nat.le_of_ble_eq_true rfl) rfl ?_
  exact lz_eq_t C dL_law_350 (tgt := 1320) (by decide) (kk _ hR2)
set_option maxRecDepth 100000 in
set_option maxHeartbeats 4000000 in
theorem lw_issue {X : mh_X} {b Ln i c : Nat} {xv : Nat → Int32} {M : mh_M} (C : lzC X b Ln xv) (hi : i + 6 ≤ Ln) (hc : c < 512) (hR : Rel c M) (kk : lzK X b i c) : lz X M 355 (lzL X b i) [] := by
  obtain ⟨M1, M2, r, e1, e2, hR2⟩ := rel_both hR (fx := fX9_issue 2000 M (xv (i + 1)) (xv (i + 2)) (xv (i + 3))) (fm := fun M' => fX10_issue 2000 M' (xv (i + 1)) (xv (i + 2)) (xv (i + 3))) (fun q M' h1 h2 h3 => s_issue h1 h2 h3 hc 2000 (Nat.le_of_ble_eq_true rfl) (xv (i + 1)) (xv (i + 2)) (xv (i + 3)))
  refine lz_aload C dL_law_355 2 rfl ?_
  refine lz_arg C rfl dL_law_356 dL_law_357 dL_law_358 (j := 1) (by decide) dL_law_359 dL_law_360 (by omega) ?_
  refine lz_arg C rfl dL_law_361 dL_law_362 dL_law_363 (j := 2) (by decide) dL_law_364 dL_law_365 (by omega) ?_
  refine lz_arg C rfl dL_law_366 dL_law_367 dL_law_368 (j := 3) (by decide) dL_law_369 dL_law_370 (by omega) ?_
  refine lz_call C (M1 := M1) (v := .int r) (rest := []) (As := [.int (xv (i + 1)), .int (xv (i + 2)), .int (xv (i + 3))]) dL_law_371 (mtX9_issue (xl X) (xg X) 2000 M (xv (i + 1)) (xv (i + 2)) (xv (i + 3)) e1) (cwV 3 C.1.2.2.1 gL_law_X9_issue rfl rfl rfl (by decide +kernel) ⟨(Nat.le_of_ble_eq_true rfl), (Nat.le_of_ble_eq_true rfl)⟩) (zz0 (G := xg X) (i := 0) (by omega)) (T := TX9) rfl rfl (Nat.le_of_ble_eq_true rfl) rfl ?_
  refine lz_aload C dL_law_374 1 rfl ?_
  refine lz_arg C rfl dL_law_375 dL_law_376 dL_law_377 (j := 1) (by decide) dL_law_378 dL_law_379 (by omega) ?_
  refine lz_arg C rfl dL_law_380 dL_law_381 dL_law_382 (j := 2) (by decide) dL_law_383 dL_law_384 (by omega) ?_
  refine lz_arg C rfl dL_law_385 dL_law_386 dL_law_387 (j := 3) (by decide) dL_law_388 dL_law_389 (by omega) ?_
  refine lz_call C (M1 := M2) (v := .int r) (rest := [.int r]) (As := [.int (xv (i + 1)), .int (xv (i + 2)), .int (xv (i + 3))]) dL_law_390 (mtX10_issue (xl X) (xg X) 2000 M1 (xv (i + 1)) (xv (i + 2)) (xv (i + 3)) e2) (cwV 3 C.1.2.2.1 gL_law_X10_issue rfl rfl rfl (by decide +kernel) ⟨(Nat.le_of_ble_eq_true rfl), (Nat.le_of_ble_eq_true rfl)⟩) (zz40 (G := xg X) (i := 0) (by omega)) (T := TX10) rfl rfl (Nat.le_of_ble_eq_true rfl) rfl ?_
  exact lz_eq_t C dL_law_393 (tgt := 1320) (by decide) (kk _ hR2)
set_option maxRecDepth 100000 in
set_option maxHeartbeats 4000000 in
theorem lw_lend {X : mh_X} {b Ln i c : Nat} {xv : Nat → Int32} {M : mh_M} (C : lzC X b Ln xv) (hi : i + 6 ≤ Ln) (hc : c < 512) (hR : Rel c M) (kk : lzK X b i c) : lz X M 398 (lzL X b i) [] := by
  obtain ⟨M1, M2, r, e1, e2, hR2⟩ := rel_both hR (fx := fX9_lend 2000 M (xv (i + 1)) (xv (i + 2)) (xv (i + 3))) (fm := fun M' => fX10_lend 2000 M' (xv (i + 1)) (xv (i + 2)) (xv (i + 3))) (fun q M' h1 h2 h3 => s_lend h1 h2 h3 hc 2000 (Nat.le_of_ble_eq_true rfl) (xv (i + 1)) (xv (i + 2)) (xv (i + 3)))
  refine lz_aload C dL_law_398 2 rfl ?_
  refine lz_arg C rfl dL_law_399 dL_law_400 dL_law_401 (j := 1) (by decide) dL_law_402 dL_law_403 (by omega) ?_
  refine lz_arg C rfl dL_law_404 dL_law_405 dL_law_406 (j := 2) (by decide) dL_law_407 dL_law_408 (by omega) ?_
  refine lz_arg C rfl dL_law_409 dL_law_410 dL_law_411 (j := 3) (by decide) dL_law_412 dL_law_413 (by omega) ?_
  refine lz_call C (M1 := M1) (v := .int r) (rest := []) (As := [.int (xv (i + 1)), .int (xv (i + 2)), .int (xv (i + 3))]) dL_law_414 (mtX9_lend (xl X) (xg X) 2000 M (xv (i + 1)) (xv (i + 2)) (xv (i + 3)) e1) (cwV 3 C.1.2.2.1 gL_law_X9_lend rfl rfl rfl (by decide +kernel) ⟨(Nat.le_of_ble_eq_true rfl), (Nat.le_of_ble_eq_true rfl)⟩) (zz0 (G := xg X) (i := 0) (by omega)) (T := TX9) rfl rfl (Nat.le_of_ble_eq_true rfl) rfl ?_
  refine lz_aload C dL_law_417 1 rfl ?_
  refine lz_arg C rfl dL_law_418 dL_law_419 dL_law_420 (j := 1) (by decide) dL_law_421 dL_law_422 (by omega) ?_
  refine lz_arg C rfl dL_law_423 dL_law_424 dL_law_425 (j := 2) (by decide) dL_law_426 dL_law_427 (by omega) ?_
  refine lz_arg C rfl dL_law_428 dL_law_429 dL_law_430 (j := 3) (by decide) dL_law_431 dL_law_432 (by omega) ?_
  refine lz_call C (M1 := M2) (v := .int r) (rest := [.int r]) (As := [.int (xv (i + 1)), .int (xv (i + 2)), .int (xv (i + 3))]) dL_law_433 (mtX10_lend (xl X) (xg X) 2000 M1 (xv (i + 1)) (xv (i + 2)) (xv (i + 3)) e2) (cwV 3 C.1.2.2.1 gL_law_X10_lend rfl rfl rfl (by decide +kernel) ⟨(Nat.le_of_ble_eq_true rfl), (Nat.le_of_ble_eq_true rfl)⟩) (zz40 (G := xg X) (i := 0) (by omega)) (T := TX10) rfl rfl (Nat.le_of_ble_eq_true rfl) rfl ?_
  exact lz_eq_t C dL_law_436 (tgt := 1320) (by decide) (kk _ hR2)
set_option maxRecDepth 100000 in
set_option maxHeartbeats 4000000 in
theorem lw_sell {X : mh_X} {b Ln i c : Nat} {xv : Nat → Int32} {M : mh_M} (C : lzC X b Ln xv) (hi : i + 6 ≤ Ln) (hc : c < 512) (hR : Rel c M) (kk : lzK X b i c) : lz X M 441 (lzL X b i) [] := by
  obtain ⟨M1, M2, r, e1, e2, hR2⟩ := rel_both hR (fx := fX9_sell 2000 M (xv (i + 1)) (xv (i + 2)) (xv (i + 3)) (xv (i + 4)) (xv (i + 5))) (fm := fun M' => fX10_sell 2000 M' (xv (i + 1)) (xv (i + 2)) (xv (i + 3)) (xv (i + 4)) (xv (i + 5))) (fun q M' h1 h2 h3 => s_sell h1 h2 h3 hc 2000 (Nat.le_of_ble_eq_true rfl) (xv (i + 1)) (xv (i + 2)) (xv (i + 3)) (xv (i + 4)) (xv (i + 5)))
  refine lz_aload C dL_law_441 2 rfl ?_
  refine lz_arg C rfl dL_law_442 dL_law_443 dL_law_444 (j := 1) (by decide) dL_law_445 dL_law_446 (by omega) ?_
  refine lz_arg C rfl dL_law_447 dL_law_448 dL_law_449 (j := 2) (by decide) dL_law_450 dL_law_451 (by omega) ?_
  refine lz_arg C rfl dL_law_452 dL_law_453 dL_law_454 (j := 3) (by decide) dL_law_455 dL_law_456 (by omega) ?_
  refine lz_arg C rfl dL_law_457 dL_law_458 dL_law_459 (j := 4) (by decide) dL_law_460 dL_law_461 (by omega) ?_
  refine lz_arg C rfl dL_law_462 dL_law_463 dL_law_464 (j := 5) (by decide) dL_law_465 dL_law_466 (by omega) ?_
  refine lz_call C (M1 := M1) (v := .int r) (rest := []) (As := [.int (xv (i + 1)), .int (xv (i + 2)), .int (xv (i + 3)), .int (xv (i + 4)), .int (xv (i + 5))]) dL_law_467 (mtX9_sell (xl X) (xg X) 2000 M (xv (i + 1)) (xv (i + 2)) (xv (i + 3)) (xv (i + 4)) (xv (i + 5)) e1) (cwV 5 C.1.2.2.1 gL_law_X9_sell rfl rfl rfl (by decide +kernel) ⟨(Nat.le_of_ble_eq_true rfl), (Nat.le_of_ble_eq_true rfl)⟩) (zz0 (G := xg X) (i := 0) (by omega)) (T := TX9) rfl rfl (Nat.le_of_ble_eq_true rfl) rfl ?_
  refine lz_aload C dL_law_470 1 rfl ?_
  refine lz_arg C rfl dL_law_471 dL_law_472 dL_law_473 (j := 1) (by decide) dL_law_474 dL_law_475 (by omega) ?_
  refine lz_arg C rfl dL_law_476 dL_law_477 dL_law_478 (j := 2) (by decide) dL_law_479 dL_law_480 (by omega) ?_
  refine lz_arg C rfl dL_law_481 dL_law_482 dL_law_483 (j := 3) (by decide) dL_law_484 dL_law_485 (by omega) ?_
  refine lz_arg C rfl dL_law_486 dL_law_487 dL_law_488 (j := 4) (by decide) dL_law_489 dL_law_490 (by omega) ?_
  refine lz_arg C rfl dL_law_491 dL_law_492 dL_law_493 (j := 5) (by decide) dL_law_494 dL_law_495 (by omega) ?_
  refine lz_call C (M1 := M2) (v := .int r) (rest := [.int r]) (As := [.int (xv (i + 1)), .int (xv (i + 2)), .int (xv (i + 3)), .int (xv (i + 4)), .int (xv (i + 5))]) dL_law_496 (mtX10_sell (xl X) (xg X) 2000 M1 (xv (i + 1)) (xv (i + 2)) (xv (i + 3)) (xv (i + 4)) (xv (i + 5)) e2) (cwV 5 C.1.2.2.1 gL_law_X10_sell rfl rfl rfl (by decide +kernel) ⟨(Nat.le_of_ble_eq_true rfl), (Nat.le_of_ble_eq_true rfl)⟩) (zz40 (G := xg X) (i := 0) (by omega)) (T := TX10) rfl rfl (Nat.le_of_ble_eq_true rfl) rfl ?_
  exact lz_eq_t C dL_law_499 (tgt := 1320) (by decide) (kk _ hR2)
set_option maxRecDepth 100000 in
set_option maxHeartbeats 4000000 in
theorem lw_lose {X : mh_X} {b Ln i c : Nat} {xv : Nat → Int32} {M : mh_M} (C : lzC X b Ln xv) (hi : i + 6 ≤ Ln) (hc : c < 512) (hR : Rel c M) (kk : lzK X b i c) : lz X M 504 (lzL X b i) [] := by
  obtain ⟨M1, M2, r, e1, e2, hR2⟩ := rel_both hR (fx := fX9_lose 2000 M (xv (i + 1)) (xv (i + 2)) (xv (i + 3)) (xv (i + 4))) (fm := fun M' => fX10_lose 2000 M' (xv (i + 1)) (xv (i + 2)) (xv (i + 3)) (xv (i + 4))) (fun q M' h1 h2 h3 => s_lose h1 h2 h3 hc 2000 (Nat.le_of_ble_eq_true rfl) (xv (i + 1)) (xv (i + 2)) (xv (i + 3)) (xv (i + 4)))
  refine lz_aload C dL_law_504 2 rfl ?_
  refine lz_arg C rfl dL_law_505 dL_law_506 dL_law_507 (j := 1) (by decide) dL_law_508 dL_law_509 (by omega) ?_
  refine lz_arg C rfl dL_law_510 dL_law_511 dL_law_512 (j := 2) (by decide) dL_law_513 dL_law_514 (by omega) ?_
  refine lz_arg C rfl dL_law_515 dL_law_516 dL_law_517 (j := 3) (by decide) dL_law_518 dL_law_519 (by omega) ?_
  refine lz_arg C rfl dL_law_520 dL_law_521 dL_law_522 (j := 4) (by decide) dL_law_523 dL_law_524 (by omega) ?_
  refine lz_call C (M1 := M1) (v := .int r) (rest := []) (As := [.int (xv (i + 1)), .int (xv (i + 2)), .int (xv (i + 3)), .int (xv (i + 4))]) dL_law_525 (mtX9_lose (xl X) (xg X) 2000 M (xv (i + 1)) (xv (i + 2)) (xv (i + 3)) (xv (i + 4)) e1) (cwV 4 C.1.2.2.1 gL_law_X9_lose rfl rfl rfl (by decide +kernel) ⟨(Nat.le_of_ble_eq_true rfl), (Nat.le_of_ble_eq_true rfl)⟩) (zz0 (G := xg X) (i := 0) (by omega)) (T := TX9) rfl rfl (Nat.le_of_ble_eq_true rfl) rfl ?_
  refine lz_aload C dL_law_528 1 rfl ?_
  refine lz_arg C rfl dL_law_529 dL_law_530 dL_law_531 (j := 1) (by decide) dL_law_532 dL_law_533 (by omega) ?_
  refine lz_arg C rfl dL_law_534 dL_law_535 dL_law_536 (j := 2) (by decide) dL_law_537 dL_law_538 (by omega) ?_
  refine lz_arg C rfl dL_law_539 dL_law_540 dL_law_541 (j := 3) (by decide) dL_law_542 dL_law_543 (by omega) ?_
  refine lz_arg C rfl dL_law_544 dL_law_545 dL_law_546 (j := 4) (by decide) dL_law_547 dL_law_548 (by omega) ?_
  refine lz_call C (M1 := M2) (v := .int r) (rest := [.int r]) (As := [.int (xv (i + 1)), .int (xv (i + 2)), .int (xv (i + 3)), .int (xv (i + 4))]) dL_law_549 (mtX10_lose (xl X) (xg X) 2000 M1 (xv (i + 1)) (xv (i + 2)) (xv (i + 3)) (xv (i + 4)) e2) (cwV 4 C.1.2.2.1 gL_law_X10_lose rfl rfl rfl (by decide +kernel) ⟨(Nat.le_of_ble_eq_true rfl), (Nat.le_of_ble_eq_true rfl)⟩) (zz40 (G := xg X) (i := 0) (by omega)) (T := TX10) rfl rfl (Nat.le_of_ble_eq_true rfl) rfl ?_
  exact lz_eq_t C dL_law_552 (tgt := 1320) (by decide) (kk _ hR2)
set_option maxRecDepth 100000 in
set_option maxHeartbeats 4000000 in
theorem lw_weigh {X : mh_X} {b Ln i c : Nat} {xv : Nat → Int32} {M : mh_M} (C : lzC X b Ln xv) (hi : i + 6 ≤ Ln) (hc : c < 512) (hR : Rel c M) (kk : lzK X b i c) : lz X M 557 (lzL X b i) [] := by
  obtain ⟨M1, M2, r, e1, e2, hR2⟩ := rel_both hR (fx := fX9_weigh 2000 M (xv (i + 1)) (xv (i + 2)) (xv (i + 3)) (xv (i + 4))) (fm := fun M' => fX10_weigh 2000 M' (xv (i + 1)) (xv (i + 2)) (xv (i + 3)) (xv (i + 4))) (fun q M' h1 h2 h3 => s_weigh h1 h2 h3 hc 2000 (Nat.le_of_ble_eq_true rfl) (xv (i + 1)) (xv (i + 2)) (xv (i + 3)) (xv (i + 4)))
  refine lz_aload C dL_law_557 2 rfl ?_
  refine lz_arg C rfl dL_law_558 dL_law_559 dL_law_560 (j := 1) (by decide) dL_law_561 dL_law_562 (by omega) ?_
  refine lz_arg C rfl dL_law_563 dL_law_564 dL_law_565 (j := 2) (by decide) dL_law_566 dL_law_567 (by omega) ?_
  refine lz_arg C rfl dL_law_568 dL_law_569 dL_law_570 (j := 3) (by decide) dL_law_571 dL_law_572 (by omega) ?_
  refine lz_arg C rfl dL_law_573 dL_law_574 dL_law_575 (j := 4) (by decide) dL_law_576 dL_law_577 (by omega) ?_
  refine lz_call C (M1 := M1) (v := .int r) (rest := []) (As := [.int (xv (i + 1)), .int (xv (i + 2)), .int (xv (i + 3)), .int (xv (i + 4))]) dL_law_578 (mtX9_weigh (xl X) (xg X) 2000 M (xv (i + 1)) (xv (i + 2)) (xv (i + 3)) (xv (i + 4)) e1) (cwV 4 C.1.2.2.1 gL_law_X9_weigh rfl rfl rfl (by decide +kernel) ⟨(Nat.le_of_ble_eq_true rfl), (Nat.le_of_ble_eq_true rfl)⟩) (zz0 (G := xg X) (i := 0) (by omega)) (T := TX9) rfl rfl (Nat.le_of_ble_eq_true rfl) rfl ?_
  refine lz_aload C dL_law_581 1 rfl ?_
  refine lz_arg C rfl dL_law_582 dL_law_583 dL_law_584 (j := 1) (by decide) dL_law_585 dL_law_586 (by omega) ?_
  refine lz_arg C rfl dL_law_587 dL_law_588 dL_law_589 (j := 2) (by decide) dL_law_590 dL_law_591 (by omega) ?_
  refine lz_arg C rfl dL_law_592 dL_law_593 dL_law_594 (j := 3) (by decide) dL_law_595 dL_law_596 (by omega) ?_
  refine lz_arg C rfl dL_law_597 dL_law_598 dL_law_599 (j := 4) (by decide) dL_law_600 dL_law_601 (by omega) ?_
  refine lz_call C (M1 := M2) (v := .int r) (rest := [.int r]) (As := [.int (xv (i + 1)), .int (xv (i + 2)), .int (xv (i + 3)), .int (xv (i + 4))]) dL_law_602 (mtX10_weigh (xl X) (xg X) 2000 M1 (xv (i + 1)) (xv (i + 2)) (xv (i + 3)) (xv (i + 4)) e2) (cwV 4 C.1.2.2.1 gL_law_X10_weigh rfl rfl rfl (by decide +kernel) ⟨(Nat.le_of_ble_eq_true rfl), (Nat.le_of_ble_eq_true rfl)⟩) (zz40 (G := xg X) (i := 0) (by omega)) (T := TX10) rfl rfl (Nat.le_of_ble_eq_true rfl) rfl ?_
  exact lz_eq_t C dL_law_605 (tgt := 1320) (by decide) (kk _ hR2)
set_option maxRecDepth 100000 in
set_option maxHeartbeats 4000000 in
theorem lw_undo {X : mh_X} {b Ln i c : Nat} {xv : Nat → Int32} {M : mh_M} (C : lzC X b Ln xv) (hi : i + 6 ≤ Ln) (hc : c < 512) (hR : Rel c M) (kk : lzK X b i c) : lz X M 610 (lzL X b i) [] := by
  obtain ⟨M1, M2, r, e1, e2, hR2⟩ := rel_both hR (fx := fX9_undo 2000 M ) (fm := fun M' => fX10_undo 2000 M' ) (fun q M' h1 h2 h3 => s_undo h1 h2 h3 hc 2000 (Nat.le_of_ble_eq_true rfl))
  refine lz_aload C dL_law_610 2 rfl ?_
  refine lz_call C (M1 := M1) (v := .int r) (rest := []) (As := []) dL_law_611 (mtX9_undo (xl X) (xg X) 2000 M e1) (cwV 0 C.1.2.2.1 gL_law_X9_undo rfl rfl rfl (by decide +kernel) ⟨(Nat.le_of_ble_eq_true rfl), (Nat.le_of_ble_eq_true rfl)⟩) (zz0 (G := xg X) (i := 0) (by omega)) (T := TX9) rfl rfl (Nat.le_of_ble_eq_true rfl) rfl ?_
  refine lz_aload C dL_law_614 1 rfl ?_
  refine lz_call C (M1 := M2) (v := .int r) (rest := [.int r]) (As := []) dL_law_615 (mtX10_undo (xl X) (xg X) 2000 M1 e2) (cwV 0 C.1.2.2.1 gL_law_X10_undo rfl rfl rfl (by decide +kernel) ⟨(Nat.le_of_ble_eq_true rfl), (Nat.le_of_ble_eq_true rfl)⟩) (zz40 (G := xg X) (i := 0) (by omega)) (T := TX10) rfl rfl (Nat.le_of_ble_eq_true rfl) rfl ?_
  exact lz_eq_t C dL_law_618 (tgt := 1320) (by decide) (kk _ hR2)
set_option maxRecDepth 100000 in
set_option maxHeartbeats 4000000 in
theorem lw_keeper {X : mh_X} {b Ln i c : Nat} {xv : Nat → Int32} {M : mh_M} (C : lzC X b Ln xv) (hi : i + 6 ≤ Ln) (hc : c < 512) (hR : Rel c M) (kk : lzK X b i c) : lz X M 623 (lzL X b i) [] := by
  obtain ⟨M1, M2, r, e1, e2, hR2⟩ := rel_both hR (fx := fX9_keeper 2000 M (xv (i + 1)) (xv (i + 2))) (fm := fun M' => fX10_keeper 2000 M' (xv (i + 1)) (xv (i + 2))) (fun q M' h1 h2 h3 => s_keeper h1 h2 h3 hc 2000 (xv (i + 1)) (xv (i + 2)))
  refine lz_aload C dL_law_623 2 rfl ?_
  refine lz_arg C rfl dL_law_624 dL_law_625 dL_law_626 (j := 1) (by decide) dL_law_627 dL_law_628 (by omega) ?_
  refine lz_arg C rfl dL_law_629 dL_law_630 dL_law_631 (j := 2) (by decide) dL_law_632 dL_law_633 (by omega) ?_
  refine lz_call C (M1 := M1) (v := .int r) (rest := []) (As := [.int (xv (i + 1)), .int (xv (i + 2))]) dL_law_634 (mtX9_keeper (xl X) (xg X) 2000 M (xv (i + 1)) (xv (i + 2)) e1) (cwV 2 C.1.2.2.1 gL_law_X9_keeper rfl rfl rfl (by decide +kernel) ⟨(Nat.le_of_ble_eq_true rfl), (Nat.le_of_ble_eq_true rfl)⟩) (zz0 (G := xg X) (i := 0) (by omega)) (T := TX9) rfl rfl (Nat.le_of_ble_eq_true rfl) rfl ?_
  refine lz_aload C dL_law_637 1 rfl ?_
  refine lz_arg C rfl dL_law_638 dL_law_639 dL_law_640 (j := 1) (by decide) dL_law_641 dL_law_642 (by omega) ?_
  refine lz_arg C rfl dL_law_643 dL_law_644 dL_law_645 (j := 2) (by decide) dL_law_646 dL_law_647 (by omega) ?_
  refine lz_call C (M1 := M2) (v := .int r) (rest := [.int r]) (As := [.int (xv (i + 1)), .int (xv (i + 2))]) dL_law_648 (mtX10_keeper (xl X) (xg X) 2000 M1 (xv (i + 1)) (xv (i + 2)) e2) (cwV 2 C.1.2.2.1 gL_law_X10_keeper rfl rfl rfl (by decide +kernel) ⟨(Nat.le_of_ble_eq_true rfl), (Nat.le_of_ble_eq_true rfl)⟩) (zz40 (G := xg X) (i := 0) (by omega)) (T := TX10) rfl rfl (Nat.le_of_ble_eq_true rfl) rfl ?_
  exact lz_eq_t C dL_law_651 (tgt := 1320) (by decide) (kk _ hR2)
set_option maxRecDepth 100000 in
set_option maxHeartbeats 4000000 in
theorem lw_night {X : mh_X} {b Ln i c : Nat} {xv : Nat → Int32} {M : mh_M} (C : lzC X b Ln xv) (hi : i + 6 ≤ Ln) (hc : c < 512) (hR : Rel c M) (kk : lzK X b i c) : lz X M 656 (lzL X b i) [] := by
  obtain ⟨M1, M2, r, e1, e2, hR2⟩ := rel_both hR (fx := fX9_night 2000 M ) (fm := fun M' => fX10_night 2000 M' ) (fun q M' h1 h2 h3 => s_night h1 h2 h3 hc 2000 (Nat.le_of_ble_eq_true rfl))
  refine lz_aload C dL_law_656 2 rfl ?_
  refine lz_call C (M1 := M1) (v := .int r) (rest := []) (As := []) dL_law_657 (mtX9_night (xl X) (xg X) 2000 M e1) (cwV 0 C.1.2.2.1 gL_law_X9_night rfl rfl rfl (by decide +kernel) ⟨(Nat.le_of_ble_eq_true rfl), (Nat.le_of_ble_eq_true rfl)⟩) (zz0 (G := xg X) (i := 0) (by omega)) (T := TX9) rfl rfl (Nat.le_of_ble_eq_true rfl) rfl ?_
  refine lz_aload C dL_law_660 1 rfl ?_
  refine lz_call C (M1 := M2) (v := .int r) (rest := [.int r]) (As := []) dL_law_661 (mtX10_night (xl X) (xg X) 2000 M1 e2) (cwV 0 C.1.2.2.1 gL_law_X10_night rfl rfl rfl (by decide +kernel) ⟨(Nat.le_of_ble_eq_true rfl), (Nat.le_of_ble_eq_true rfl)⟩) (zz40 (G := xg X) (i := 0) (by omega)) (T := TX10) rfl rfl (Nat.le_of_ble_eq_true rfl) rfl ?_
  exact lz_eq_t C dL_law_664 (tgt := 1320) (by decide) (kk _ hR2)
set_option maxRecDepth 100000 in
set_option maxHeartbeats 4000000 in
theorem lw_has {X : mh_X} {b Ln i c : Nat} {xv : Nat → Int32} {M : mh_M} (C : lzC X b Ln xv) (hi : i + 6 ≤ Ln) (hc : c < 512) (hR : Rel c M) (kk : lzK X b i c) : lz X M 669 (lzL X b i) [] := by
  obtain ⟨r, e1, e2, hR2⟩ := rel_pure hR hc (fun q h1 h2 h3 => s_has h1 h2 h3 2000 (xv (i + 1)) (xv (i + 2)))
  refine lz_aload C dL_law_669 2 rfl ?_
  refine lz_arg C rfl dL_law_670 dL_law_671 dL_law_672 (j := 1) (by decide) dL_law_673 dL_law_674 (by omega) ?_
  refine lz_arg C rfl dL_law_675 dL_law_676 dL_law_677 (j := 2) (by decide) dL_law_678 dL_law_679 (by omega) ?_
  refine lz_call C (M1 := M) (v := .int r) (rest := []) (As := [.int (xv (i + 1)), .int (xv (i + 2))]) dL_law_680 (mtX9_has (xl X) (xg X) 2000 M (xv (i + 1)) (xv (i + 2)) e1) (cwV 2 C.1.2.2.1 gL_law_X9_has rfl rfl rfl (by decide +kernel) ⟨(Nat.le_of_ble_eq_true rfl), (Nat.le_of_ble_eq_true rfl)⟩) (zz0 (G := xg X) (i := 0) (by omega)) (T := TX9) rfl rfl (Nat.le_of_ble_eq_true rfl) rfl ?_
  refine lz_aload C dL_law_683 1 rfl ?_
  refine lz_arg C rfl dL_law_684 dL_law_685 dL_law_686 (j := 1) (by decide) dL_law_687 dL_law_688 (by omega) ?_
  refine lz_arg C rfl dL_law_689 dL_law_690 dL_law_691 (j := 2) (by decide) dL_law_692 dL_law_693 (by omega) ?_
  refine lz_call C (M1 := M) (v := .int r) (rest := [.int r]) (As := [.int (xv (i + 1)), .int (xv (i + 2))]) dL_law_694 (mtX10_has (xl X) (xg X) 2000 M (xv (i + 1)) (xv (i + 2)) e2) (cwV 2 C.1.2.2.1 gL_law_X10_has rfl rfl rfl (by decide +kernel) ⟨(Nat.le_of_ble_eq_true rfl), (Nat.le_of_ble_eq_true rfl)⟩) (zz40 (G := xg X) (i := 0) (by omega)) (T := TX10) rfl rfl (Nat.le_of_ble_eq_true rfl) rfl ?_
  exact lz_eq_t C dL_law_697 (tgt := 1320) (by decide) (kk _ hR2)
set_option maxRecDepth 100000 in
set_option maxHeartbeats 4000000 in
theorem lw_all {X : mh_X} {b Ln i c : Nat} {xv : Nat → Int32} {M : mh_M} (C : lzC X b Ln xv) (hi : i + 6 ≤ Ln) (hc : c < 512) (hR : Rel c M) (kk : lzK X b i c) : lz X M 702 (lzL X b i) [] := by
  obtain ⟨r, e1, e2, hR2⟩ := rel_pure hR hc (fun q h1 h2 h3 => s_all h1 h2 h3 2000 (xv (i + 1)) (xv (i + 2)))
  refine lz_aload C dL_law_702 2 rfl ?_
  refine lz_arg C rfl dL_law_703 dL_law_704 dL_law_705 (j := 1) (by decide) dL_law_706 dL_law_707 (by omega) ?_
  refine lz_arg C rfl dL_law_708 dL_law_709 dL_law_710 (j := 2) (by decide) dL_law_711 dL_law_712 (by omega) ?_
  refine lz_call C (M1 := M) (v := .int r) (rest := []) (As := [.int (xv (i + 1)), .int (xv (i + 2))]) dL_law_713 (mtX9_all (xl X) (xg X) 2000 M (xv (i + 1)) (xv (i + 2)) e1) (cwV 2 C.1.2.2.1 gL_law_X9_all rfl rfl rfl (by decide +kernel) ⟨(Nat.le_of_ble_eq_true rfl), (Nat.le_of_ble_eq_true rfl)⟩) (zz0 (G := xg X) (i := 0) (by omega)) (T := TX9) rfl rfl (Nat.le_of_ble_eq_true rfl) rfl ?_
  refine lz_aload C dL_law_716 1 rfl ?_
  refine lz_arg C rfl dL_law_717 dL_law_718 dL_law_719 (j := 1) (by decide) dL_law_720 dL_law_721 (by omega) ?_
  refine lz_arg C rfl dL_law_722 dL_law_723 dL_law_724 (j := 2) (by decide) dL_law_725 dL_law_726 (by omega) ?_
  refine lz_call C (M1 := M) (v := .int r) (rest := [.int r]) (As := [.int (xv (i + 1)), .int (xv (i + 2))]) dL_law_727 (mtX10_all (xl X) (xg X) 2000 M (xv (i + 1)) (xv (i + 2)) e2) (cwV 2 C.1.2.2.1 gL_law_X10_all rfl rfl rfl (by decide +kernel) ⟨(Nat.le_of_ble_eq_true rfl), (Nat.le_of_ble_eq_true rfl)⟩) (zz40 (G := xg X) (i := 0) (by omega)) (T := TX10) rfl rfl (Nat.le_of_ble_eq_true rfl) rfl ?_
  exact lz_eq_t C dL_law_730 (tgt := 1320) (by decide) (kk _ hR2)
set_option maxRecDepth 100000 in
set_option maxHeartbeats 4000000 in
theorem lw_gap {X : mh_X} {b Ln i c : Nat} {xv : Nat → Int32} {M : mh_M} (C : lzC X b Ln xv) (hi : i + 6 ≤ Ln) (hc : c < 512) (hR : Rel c M) (kk : lzK X b i c) : lz X M 735 (lzL X b i) [] := by
  obtain ⟨r, e1, e2, hR2⟩ := rel_pure hR hc (fun q h1 h2 h3 => s_gap h1 h2 h3 2000 (xv (i + 1)) (xv (i + 2)) (xv (i + 3)) (xv (i + 4)))
  refine lz_aload C dL_law_735 2 rfl ?_
  refine lz_arg C rfl dL_law_736 dL_law_737 dL_law_738 (j := 1) (by decide) dL_law_739 dL_law_740 (by omega) ?_
  refine lz_arg C rfl dL_law_741 dL_law_742 dL_law_743 (j := 2) (by decide) dL_law_744 dL_law_745 (by omega) ?_
  refine lz_arg C rfl dL_law_746 dL_law_747 dL_law_748 (j := 3) (by decide) dL_law_749 dL_law_750 (by omega) ?_
  refine lz_arg C rfl dL_law_751 dL_law_752 dL_law_753 (j := 4) (by decide) dL_law_754 dL_law_755 (by omega) ?_
  refine lz_call C (M1 := M) (v := .int r) (rest := []) (As := [.int (xv (i + 1)), .int (xv (i + 2)), .int (xv (i + 3)), .int (xv (i + 4))]) dL_law_756 (mtX9_gap (xl X) (xg X) 2000 M (xv (i + 1)) (xv (i + 2)) (xv (i + 3)) (xv (i + 4)) e1) (cwV 4 C.1.2.2.1 gL_law_X9_gap rfl rfl rfl (by decide +kernel) ⟨(Nat.le_of_ble_eq_true rfl), (Nat.le_of_ble_eq_true rfl)⟩) (zz0 (G := xg X) (i := 0) (by omega)) (T := TX9) rfl rfl (Nat.le_of_ble_eq_true rfl) rfl ?_
  refine lz_aload C dL_law_759 1 rfl ?_
  refine lz_arg C rfl dL_law_760 dL_law_761 dL_law_762 (j := 1) (by decide) dL_law_763 dL_law_764 (by omega) ?_
  refine lz_arg C rfl dL_law_765 dL_law_766 dL_law_767 (j := 2) (by decide) dL_law_768 dL_law_769 (by omega) ?_
  refine lz_arg C rfl dL_law_770 dL_law_771 dL_law_772 (j := 3) (by decide) dL_law_773 dL_law_774 (by omega) ?_
  refine lz_arg C rfl dL_law_775 dL_law_776 dL_law_777 (j := 4) (by decide) dL_law_778 dL_law_779 (by omega) ?_
  refine lz_call C (M1 := M) (v := .int r) (rest := [.int r]) (As := [.int (xv (i + 1)), .int (xv (i + 2)), .int (xv (i + 3)), .int (xv (i + 4))]) dL_law_780 (mtX10_gap (xl X) (xg X) 2000 M (xv (i + 1)) (xv (i + 2)) (xv (i + 3)) (xv (i + 4)) e2) (cwV 4 C.1.2.2.1 gL_law_X10_gap rfl rfl rfl (by decide +kernel) ⟨(Nat.le_of_ble_eq_true rfl), (Nat.le_of_ble_eq_true rfl)⟩) (zz40 (G := xg X) (i := 0) (by omega)) (T := TX10) rfl rfl (Nat.le_of_ble_eq_true rfl) rfl ?_
  exact lz_eq_t C dL_law_783 (tgt := 1320) (by decide) (kk _ hR2)
theorem lg_cmp_same (r : Int64) : lg_cmp r r = 0 := by
  simp [lg_cmp]
set_option maxRecDepth 100000 in
set_option maxHeartbeats 4000000 in
theorem lw_over {X : mh_X} {b Ln i c : Nat} {xv : Nat → Int32} {M : mh_M} (C : lzC X b Ln xv) (hi : i + 6 ≤ Ln) (hc : c < 512) (hR : Rel c M) (kk : lzK X b i c) : lz X M 788 (lzL X b i) [] := by
  obtain ⟨r, e1, e2, hR2⟩ := rel_pure hR hc (fun q h1 h2 h3 => s_over h1 h2 h3 hc 2000 (Nat.le_of_ble_eq_true rfl) (xv (i + 1)) (xv (i + 2)) (xv (i + 3)))
  refine lz_aload C dL_law_788 2 rfl ?_
  refine lz_arg C rfl dL_law_789 dL_law_790 dL_law_791 (j := 1) (by decide) dL_law_792 dL_law_793 (by omega) ?_
  refine lz_arg C rfl dL_law_794 dL_law_795 dL_law_796 (j := 2) (by decide) dL_law_797 dL_law_798 (by omega) ?_
  refine lz_arg C rfl dL_law_799 dL_law_800 dL_law_801 (j := 3) (by decide) dL_law_802 dL_law_803 (by omega) ?_
  refine lz_call C (M1 := M) (v := .long r) (rest := []) (As := [.int (xv (i + 1)), .int (xv (i + 2)), .int (xv (i + 3))]) dL_law_804 (mtX9_over (xl X) (xg X) 2000 M (xv (i + 1)) (xv (i + 2)) (xv (i + 3)) e1) (cwV 3 C.1.2.2.1 gL_law_X9_over rfl rfl rfl (by decide +kernel) ⟨(Nat.le_of_ble_eq_true rfl), (Nat.le_of_ble_eq_true rfl)⟩) (zz0 (G := xg X) (i := 0) (by omega)) (T := TX9) rfl rfl (Nat.le_of_ble_eq_true rfl) rfl ?_
  refine lz_aload C dL_law_807 1 rfl ?_
  refine lz_arg C rfl dL_law_808 dL_law_809 dL_law_810 (j := 1) (by decide) dL_law_811 dL_law_812 (by omega) ?_
  refine lz_arg C rfl dL_law_813 dL_law_814 dL_law_815 (j := 2) (by decide) dL_law_816 dL_law_817 (by omega) ?_
  refine lz_arg C rfl dL_law_818 dL_law_819 dL_law_820 (j := 3) (by decide) dL_law_821 dL_law_822 (by omega) ?_
  refine lz_call C (M1 := M) (v := .long r) (rest := [.long r]) (As := [.int (xv (i + 1)), .int (xv (i + 2)), .int (xv (i + 3))]) dL_law_823 (mtX10_over (xl X) (xg X) 2000 M (xv (i + 1)) (xv (i + 2)) (xv (i + 3)) e2) (cwV 3 C.1.2.2.1 gL_law_X10_over rfl rfl rfl (by decide +kernel) ⟨(Nat.le_of_ble_eq_true rfl), (Nat.le_of_ble_eq_true rfl)⟩) (zz40 (G := xg X) (i := 0) (by omega)) (T := TX10) rfl rfl (Nat.le_of_ble_eq_true rfl) rfl ?_
  refine lz_lcmp C dL_law_826 ?_
  exact lz_ifeq_t C dL_law_827 (tgt := 1320) (by decide) (lg_cmp_same r) (kk _ hR2)
set_option maxRecDepth 100000 in
set_option maxHeartbeats 4000000 in
theorem lw_leans {X : mh_X} {b Ln i c : Nat} {xv : Nat → Int32} {M : mh_M} (C : lzC X b Ln xv) (hi : i + 6 ≤ Ln) (hc : c < 512) (hR : Rel c M) (kk : lzK X b i c) : lz X M 832 (lzL X b i) [] := by
  obtain ⟨r, e1, e2, hR2⟩ := rel_pure hR hc (fun q h1 h2 h3 => s_leans h1 h2 h3 2000 (Nat.le_of_ble_eq_true rfl) (xv (i + 1)) (xv (i + 2)))
  refine lz_aload C dL_law_832 2 rfl ?_
  refine lz_arg C rfl dL_law_833 dL_law_834 dL_law_835 (j := 1) (by decide) dL_law_836 dL_law_837 (by omega) ?_
  refine lz_arg C rfl dL_law_838 dL_law_839 dL_law_840 (j := 2) (by decide) dL_law_841 dL_law_842 (by omega) ?_
  refine lz_call C (M1 := M) (v := .int r) (rest := []) (As := [.int (xv (i + 1)), .int (xv (i + 2))]) dL_law_843 (mtX9_leans (xl X) (xg X) 2000 M (xv (i + 1)) (xv (i + 2)) e1) (cwV 2 C.1.2.2.1 gL_law_X9_leans rfl rfl rfl (by decide +kernel) ⟨(Nat.le_of_ble_eq_true rfl), (Nat.le_of_ble_eq_true rfl)⟩) (zz0 (G := xg X) (i := 0) (by omega)) (T := TX9) rfl rfl (Nat.le_of_ble_eq_true rfl) rfl ?_
  refine lz_aload C dL_law_846 1 rfl ?_
  refine lz_arg C rfl dL_law_847 dL_law_848 dL_law_849 (j := 1) (by decide) dL_law_850 dL_law_851 (by omega) ?_
  refine lz_arg C rfl dL_law_852 dL_law_853 dL_law_854 (j := 2) (by decide) dL_law_855 dL_law_856 (by omega) ?_
  refine lz_call C (M1 := M) (v := .int r) (rest := [.int r]) (As := [.int (xv (i + 1)), .int (xv (i + 2))]) dL_law_857 (mtX10_leans (xl X) (xg X) 2000 M (xv (i + 1)) (xv (i + 2)) e2) (cwV 2 C.1.2.2.1 gL_law_X10_leans rfl rfl rfl (by decide +kernel) ⟨(Nat.le_of_ble_eq_true rfl), (Nat.le_of_ble_eq_true rfl)⟩) (zz40 (G := xg X) (i := 0) (by omega)) (T := TX10) rfl rfl (Nat.le_of_ble_eq_true rfl) rfl ?_
  exact lz_eq_t C dL_law_860 (tgt := 1320) (by decide) (kk _ hR2)
set_option maxRecDepth 100000 in
set_option maxHeartbeats 4000000 in
theorem lw_takings {X : mh_X} {b Ln i c : Nat} {xv : Nat → Int32} {M : mh_M} (C : lzC X b Ln xv) (hi : i + 6 ≤ Ln) (hc : c < 512) (hR : Rel c M) (kk : lzK X b i c) : lz X M 865 (lzL X b i) [] := by
  obtain ⟨r, e1, e2, hR2⟩ := rel_pure hR hc (fun q h1 h2 h3 => s_takings h1 h2 h3 2000 (xv (i + 1)))
  refine lz_aload C dL_law_865 2 rfl ?_
  refine lz_arg C rfl dL_law_866 dL_law_867 dL_law_868 (j := 1) (by decide) dL_law_869 dL_law_870 (by omega) ?_
  refine lz_call C (M1 := M) (v := .int r) (rest := []) (As := [.int (xv (i + 1))]) dL_law_871 (mtX9_takings (xl X) (xg X) 2000 M (xv (i + 1)) e1) (cwV 1 C.1.2.2.1 gL_law_X9_takings rfl rfl rfl (by decide +kernel) ⟨(Nat.le_of_ble_eq_true rfl), (Nat.le_of_ble_eq_true rfl)⟩) (zz0 (G := xg X) (i := 0) (by omega)) (T := TX9) rfl rfl (Nat.le_of_ble_eq_true rfl) rfl ?_
  refine lz_aload C dL_law_874 1 rfl ?_
  refine lz_arg C rfl dL_law_875 dL_law_876 dL_law_877 (j := 1) (by decide) dL_law_878 dL_law_879 (by omega) ?_
  refine lz_call C (M1 := M) (v := .int r) (rest := [.int r]) (As := [.int (xv (i + 1))]) dL_law_880 (mtX10_takings (xl X) (xg X) 2000 M (xv (i + 1)) e2) (cwV 1 C.1.2.2.1 gL_law_X10_takings rfl rfl rfl (by decide +kernel) ⟨(Nat.le_of_ble_eq_true rfl), (Nat.le_of_ble_eq_true rfl)⟩) (zz40 (G := xg X) (i := 0) (by omega)) (T := TX10) rfl rfl (Nat.le_of_ble_eq_true rfl) rfl ?_
  exact lz_eq_t C dL_law_883 (tgt := 1320) (by decide) (kk _ hR2)
set_option maxRecDepth 100000 in
set_option maxHeartbeats 4000000 in
theorem lw_foretell {X : mh_X} {b Ln i c : Nat} {xv : Nat → Int32} {M : mh_M} (C : lzC X b Ln xv) (hi : i + 6 ≤ Ln) (hc : c < 512) (hR : Rel c M) (kk : lzK X b i c) : lz X M 888 (lzL X b i) [] := by
  obtain ⟨M1, M2, r, e1, e2, hR2⟩ := rel_both hR (fx := fX9_foretell 2000 M (xv (i + 1)) (xv (i + 2))) (fm := fun M' => fX10_foretell 2000 M' (xv (i + 1)) (xv (i + 2))) (fun q M' h1 h2 h3 => s_foretell h1 h2 h3 hc 2000 (xv (i + 1)) (xv (i + 2)))
  refine lz_aload C dL_law_888 2 rfl ?_
  refine lz_arg C rfl dL_law_889 dL_law_890 dL_law_891 (j := 1) (by decide) dL_law_892 dL_law_893 (by omega) ?_
  refine lz_arg C rfl dL_law_894 dL_law_895 dL_law_896 (j := 2) (by decide) dL_law_897 dL_law_898 (by omega) ?_
  refine lz_call C (M1 := M1) (v := .int r) (rest := []) (As := [.int (xv (i + 1)), .int (xv (i + 2))]) dL_law_899 (mtX9_foretell (xl X) (xg X) 2000 M (xv (i + 1)) (xv (i + 2)) e1) (cwV 2 C.1.2.2.1 gL_law_X9_foretell rfl rfl rfl (by decide +kernel) ⟨(Nat.le_of_ble_eq_true rfl), (Nat.le_of_ble_eq_true rfl)⟩) (zz0 (G := xg X) (i := 0) (by omega)) (T := TX9) rfl rfl (Nat.le_of_ble_eq_true rfl) rfl ?_
  refine lz_aload C dL_law_902 1 rfl ?_
  refine lz_arg C rfl dL_law_903 dL_law_904 dL_law_905 (j := 1) (by decide) dL_law_906 dL_law_907 (by omega) ?_
  refine lz_arg C rfl dL_law_908 dL_law_909 dL_law_910 (j := 2) (by decide) dL_law_911 dL_law_912 (by omega) ?_
  refine lz_call C (M1 := M2) (v := .int r) (rest := [.int r]) (As := [.int (xv (i + 1)), .int (xv (i + 2))]) dL_law_913 (mtX10_foretell (xl X) (xg X) 2000 M1 (xv (i + 1)) (xv (i + 2)) e2) (cwV 2 C.1.2.2.1 gL_law_X10_foretell rfl rfl rfl (by decide +kernel) ⟨(Nat.le_of_ble_eq_true rfl), (Nat.le_of_ble_eq_true rfl)⟩) (zz40 (G := xg X) (i := 0) (by omega)) (T := TX10) rfl rfl (Nat.le_of_ble_eq_true rfl) rfl ?_
  exact lz_eq_t C dL_law_916 (tgt := 1320) (by decide) (kk _ hR2)
set_option maxRecDepth 100000 in
set_option maxHeartbeats 4000000 in
theorem lw_forget {X : mh_X} {b Ln i c : Nat} {xv : Nat → Int32} {M : mh_M} (C : lzC X b Ln xv) (hi : i + 6 ≤ Ln) (hc : c < 512) (hR : Rel c M) (kk : lzK X b i c) : lz X M 921 (lzL X b i) [] := by
  obtain ⟨M1, M2, r, e1, e2, hR2⟩ := rel_both hR (fx := fX9_forget 2000 M ) (fm := fun M' => fX10_forget 2000 M' ) (fun q M' h1 h2 h3 => s_forget h1 h2 h3 hc 2000)
  refine lz_aload C dL_law_921 2 rfl ?_
  refine lz_call C (M1 := M1) (v := .int r) (rest := []) (As := []) dL_law_922 (mtX9_forget (xl X) (xg X) 2000 M e1) (cwV 0 C.1.2.2.1 gL_law_X9_forget rfl rfl rfl (by decide +kernel) ⟨(Nat.le_of_ble_eq_true rfl), (Nat.le_of_ble_eq_true rfl)⟩) (zz0 (G := xg X) (i := 0) (by omega)) (T := TX9) rfl rfl (Nat.le_of_ble_eq_true rfl) rfl ?_
  refine lz_aload C dL_law_925 1 rfl ?_
  refine lz_call C (M1 := M2) (v := .int r) (rest := [.int r]) (As := []) dL_law_926 (mtX10_forget (xl X) (xg X) 2000 M1 e2) (cwV 0 C.1.2.2.1 gL_law_X10_forget rfl rfl rfl (by decide +kernel) ⟨(Nat.le_of_ble_eq_true rfl), (Nat.le_of_ble_eq_true rfl)⟩) (zz40 (G := xg X) (i := 0) (by omega)) (T := TX10) rfl rfl (Nat.le_of_ble_eq_true rfl) rfl ?_
  exact lz_eq_t C dL_law_929 (tgt := 1320) (by decide) (kk _ hR2)
set_option maxRecDepth 100000 in
set_option maxHeartbeats 4000000 in
theorem lw_press {X : mh_X} {b Ln i c : Nat} {xv : Nat → Int32} {M : mh_M} (C : lzC X b Ln xv) (hi : i + 6 ≤ Ln) (hc : c < 512) (hR : Rel c M) (kk : lzK X b i c) : lz X M 934 (lzL X b i) [] := by
  obtain ⟨r, e1, e2, hR2⟩ := rel_pure hR hc (fun q h1 h2 h3 => s_press h1 h2 h3 2000 (Nat.le_of_ble_eq_true rfl) (xv (i + 1)))
  refine lz_aload C dL_law_934 2 rfl ?_
  refine lz_arg C rfl dL_law_935 dL_law_936 dL_law_937 (j := 1) (by decide) dL_law_938 dL_law_939 (by omega) ?_
  refine lz_call C (M1 := M) (v := .int r) (rest := []) (As := [.int (xv (i + 1))]) dL_law_940 (mtX9_press (xl X) (xg X) 2000 M (xv (i + 1)) e1) (cwV 1 C.1.2.2.1 gL_law_X9_press rfl rfl rfl (by decide +kernel) ⟨(Nat.le_of_ble_eq_true rfl), (Nat.le_of_ble_eq_true rfl)⟩) (zz0 (G := xg X) (i := 0) (by omega)) (T := TX9) rfl rfl (Nat.le_of_ble_eq_true rfl) rfl ?_
  refine lz_aload C dL_law_943 1 rfl ?_
  refine lz_arg C rfl dL_law_944 dL_law_945 dL_law_946 (j := 1) (by decide) dL_law_947 dL_law_948 (by omega) ?_
  refine lz_call C (M1 := M) (v := .int r) (rest := [.int r]) (As := [.int (xv (i + 1))]) dL_law_949 (mtX10_press (xl X) (xg X) 2000 M (xv (i + 1)) e2) (cwV 1 C.1.2.2.1 gL_law_X10_press rfl rfl rfl (by decide +kernel) ⟨(Nat.le_of_ble_eq_true rfl), (Nat.le_of_ble_eq_true rfl)⟩) (zz40 (G := xg X) (i := 0) (by omega)) (T := TX10) rfl rfl (Nat.le_of_ble_eq_true rfl) rfl ?_
  exact lz_eq_t C dL_law_952 (tgt := 1320) (by decide) (kk _ hR2)
set_option maxRecDepth 100000 in
set_option maxHeartbeats 4000000 in
theorem lw_makes {X : mh_X} {b Ln i c : Nat} {xv : Nat → Int32} {M : mh_M} (C : lzC X b Ln xv) (hi : i + 6 ≤ Ln) (hc : c < 512) (hR : Rel c M) (kk : lzK X b i c) : lz X M 957 (lzL X b i) [] := by
  obtain ⟨r, e1, e2, hR2⟩ := rel_pure hR hc (fun q h1 h2 h3 => s_makes h1 h2 h3 2000 (Nat.le_of_ble_eq_true rfl) (xv (i + 1)))
  refine lz_aload C dL_law_957 2 rfl ?_
  refine lz_arg C rfl dL_law_958 dL_law_959 dL_law_960 (j := 1) (by decide) dL_law_961 dL_law_962 (by omega) ?_
  refine lz_call C (M1 := M) (v := .int r) (rest := []) (As := [.int (xv (i + 1))]) dL_law_963 (mtX9_makes (xl X) (xg X) 2000 M (xv (i + 1)) e1) (cwV 1 C.1.2.2.1 gL_law_X9_makes rfl rfl rfl (by decide +kernel) ⟨(Nat.le_of_ble_eq_true rfl), (Nat.le_of_ble_eq_true rfl)⟩) (zz0 (G := xg X) (i := 0) (by omega)) (T := TX9) rfl rfl (Nat.le_of_ble_eq_true rfl) rfl ?_
  refine lz_aload C dL_law_966 1 rfl ?_
  refine lz_arg C rfl dL_law_967 dL_law_968 dL_law_969 (j := 1) (by decide) dL_law_970 dL_law_971 (by omega) ?_
  refine lz_call C (M1 := M) (v := .int r) (rest := [.int r]) (As := [.int (xv (i + 1))]) dL_law_972 (mtX10_makes (xl X) (xg X) 2000 M (xv (i + 1)) e2) (cwV 1 C.1.2.2.1 gL_law_X10_makes rfl rfl rfl (by decide +kernel) ⟨(Nat.le_of_ble_eq_true rfl), (Nat.le_of_ble_eq_true rfl)⟩) (zz40 (G := xg X) (i := 0) (by omega)) (T := TX10) rfl rfl (Nat.le_of_ble_eq_true rfl) rfl ?_
  exact lz_eq_t C dL_law_975 (tgt := 1320) (by decide) (kk _ hR2)
set_option maxRecDepth 100000 in
set_option maxHeartbeats 4000000 in
theorem lw_fewest {X : mh_X} {b Ln i c : Nat} {xv : Nat → Int32} {M : mh_M} (C : lzC X b Ln xv) (hi : i + 6 ≤ Ln) (hc : c < 512) (hR : Rel c M) (kk : lzK X b i c) : lz X M 980 (lzL X b i) [] := by
  obtain ⟨r, e1, e2, hR2⟩ := rel_pure hR hc (fun q h1 h2 h3 => s_fewest h1 h2 h3 2000 (Nat.le_of_ble_eq_true rfl) (xv (i + 1)))
  refine lz_aload C dL_law_980 2 rfl ?_
  refine lz_arg C rfl dL_law_981 dL_law_982 dL_law_983 (j := 1) (by decide) dL_law_984 dL_law_985 (by omega) ?_
  refine lz_call C (M1 := M) (v := .int r) (rest := []) (As := [.int (xv (i + 1))]) dL_law_986 (mtX9_fewest (xl X) (xg X) 2000 M (xv (i + 1)) e1) (cwV 1 C.1.2.2.1 gL_law_X9_fewest rfl rfl rfl (by decide +kernel) ⟨(Nat.le_of_ble_eq_true rfl), (Nat.le_of_ble_eq_true rfl)⟩) (zz0 (G := xg X) (i := 0) (by omega)) (T := TX9) rfl rfl (Nat.le_of_ble_eq_true rfl) rfl ?_
  refine lz_aload C dL_law_989 1 rfl ?_
  refine lz_arg C rfl dL_law_990 dL_law_991 dL_law_992 (j := 1) (by decide) dL_law_993 dL_law_994 (by omega) ?_
  refine lz_call C (M1 := M) (v := .int r) (rest := [.int r]) (As := [.int (xv (i + 1))]) dL_law_995 (mtX10_fewest (xl X) (xg X) 2000 M (xv (i + 1)) e2) (cwV 1 C.1.2.2.1 gL_law_X10_fewest rfl rfl rfl (by decide +kernel) ⟨(Nat.le_of_ble_eq_true rfl), (Nat.le_of_ble_eq_true rfl)⟩) (zz40 (G := xg X) (i := 0) (by omega)) (T := TX10) rfl rfl (Nat.le_of_ble_eq_true rfl) rfl ?_
  exact lz_eq_t C dL_law_998 (tgt := 1320) (by decide) (kk _ hR2)
set_option maxRecDepth 100000 in
set_option maxHeartbeats 4000000 in
theorem lw_most {X : mh_X} {b Ln i c : Nat} {xv : Nat → Int32} {M : mh_M} (C : lzC X b Ln xv) (hi : i + 6 ≤ Ln) (hc : c < 512) (hR : Rel c M) (kk : lzK X b i c) : lz X M 1003 (lzL X b i) [] := by
  obtain ⟨r, e1, e2, hR2⟩ := rel_pure hR hc (fun q h1 h2 h3 => s_most h1 h2 h3 2000 (Nat.le_of_ble_eq_true rfl) (xv (i + 1)))
  refine lz_aload C dL_law_1003 2 rfl ?_
  refine lz_arg C rfl dL_law_1004 dL_law_1005 dL_law_1006 (j := 1) (by decide) dL_law_1007 dL_law_1008 (by omega) ?_
  refine lz_call C (M1 := M) (v := .int r) (rest := []) (As := [.int (xv (i + 1))]) dL_law_1009 (mtX9_most (xl X) (xg X) 2000 M (xv (i + 1)) e1) (cwV 1 C.1.2.2.1 gL_law_X9_most rfl rfl rfl (by decide +kernel) ⟨(Nat.le_of_ble_eq_true rfl), (Nat.le_of_ble_eq_true rfl)⟩) (zz0 (G := xg X) (i := 0) (by omega)) (T := TX9) rfl rfl (Nat.le_of_ble_eq_true rfl) rfl ?_
  refine lz_aload C dL_law_1012 1 rfl ?_
  refine lz_arg C rfl dL_law_1013 dL_law_1014 dL_law_1015 (j := 1) (by decide) dL_law_1016 dL_law_1017 (by omega) ?_
  refine lz_call C (M1 := M) (v := .int r) (rest := [.int r]) (As := [.int (xv (i + 1))]) dL_law_1018 (mtX10_most (xl X) (xg X) 2000 M (xv (i + 1)) e2) (cwV 1 C.1.2.2.1 gL_law_X10_most rfl rfl rfl (by decide +kernel) ⟨(Nat.le_of_ble_eq_true rfl), (Nat.le_of_ble_eq_true rfl)⟩) (zz40 (G := xg X) (i := 0) (by omega)) (T := TX10) rfl rfl (Nat.le_of_ble_eq_true rfl) rfl ?_
  exact lz_eq_t C dL_law_1021 (tgt := 1320) (by decide) (kk _ hR2)
set_option maxRecDepth 100000 in
set_option maxHeartbeats 4000000 in
theorem lw_priceRule {X : mh_X} {b Ln i c : Nat} {xv : Nat → Int32} {M : mh_M} (C : lzC X b Ln xv) (hi : i + 6 ≤ Ln) (hc : c < 512) (hR : Rel c M) (kk : lzK X b i c) : lz X M 1026 (lzL X b i) [] := by
  obtain ⟨M1, M2, r, e1, e2, hR2⟩ := rel_both hR (fx := fX9_priceRule 2000 M (xv (i + 1)) (xv (i + 2)) (xv (i + 3)) (xv (i + 4))) (fm := fun M' => fX10_priceRule 2000 M' (xv (i + 1)) (xv (i + 2)) (xv (i + 3)) (xv (i + 4))) (fun q M' h1 h2 h3 => s_priceRule h1 h2 h3 hc 2000 (xv (i + 1)) (xv (i + 2)) (xv (i + 3)) (xv (i + 4)))
  refine lz_aload C dL_law_1026 2 rfl ?_
  refine lz_arg C rfl dL_law_1027 dL_law_1028 dL_law_1029 (j := 1) (by decide) dL_law_1030 dL_law_1031 (by omega) ?_
  refine lz_arg C rfl dL_law_1032 dL_law_1033 dL_law_1034 (j := 2) (by decide) dL_law_1035 dL_law_1036 (by omega) ?_
  refine lz_arg C rfl dL_law_1037 dL_law_1038 dL_law_1039 (j := 3) (by decide) dL_law_1040 dL_law_1041 (by omega) ?_
  refine lz_arg C rfl dL_law_1042 dL_law_1043 dL_law_1044 (j := 4) (by decide) dL_law_1045 dL_law_1046 (by omega) ?_
  refine lz_call C (M1 := M1) (v := .int r) (rest := []) (As := [.int (xv (i + 1)), .int (xv (i + 2)), .int (xv (i + 3)), .int (xv (i + 4))]) dL_law_1047 (mtX9_priceRule (xl X) (xg X) 2000 M (xv (i + 1)) (xv (i + 2)) (xv (i + 3)) (xv (i + 4)) e1) (cwV 4 C.1.2.2.1 gL_law_X9_priceRule rfl rfl rfl (by decide +kernel) ⟨(Nat.le_of_ble_eq_true rfl), (Nat.le_of_ble_eq_true rfl)⟩) (zz0 (G := xg X) (i := 0) (by omega)) (T := TX9) rfl rfl (Nat.le_of_ble_eq_true rfl) rfl ?_
  refine lz_aload C dL_law_1050 1 rfl ?_
  refine lz_arg C rfl dL_law_1051 dL_law_1052 dL_law_1053 (j := 1) (by decide) dL_law_1054 dL_law_1055 (by omega) ?_
  refine lz_arg C rfl dL_law_1056 dL_law_1057 dL_law_1058 (j := 2) (by decide) dL_law_1059 dL_law_1060 (by omega) ?_
  refine lz_arg C rfl dL_law_1061 dL_law_1062 dL_law_1063 (j := 3) (by decide) dL_law_1064 dL_law_1065 (by omega) ?_
  refine lz_arg C rfl dL_law_1066 dL_law_1067 dL_law_1068 (j := 4) (by decide) dL_law_1069 dL_law_1070 (by omega) ?_
  refine lz_call C (M1 := M2) (v := .int r) (rest := [.int r]) (As := [.int (xv (i + 1)), .int (xv (i + 2)), .int (xv (i + 3)), .int (xv (i + 4))]) dL_law_1071 (mtX10_priceRule (xl X) (xg X) 2000 M1 (xv (i + 1)) (xv (i + 2)) (xv (i + 3)) (xv (i + 4)) e2) (cwV 4 C.1.2.2.1 gL_law_X10_priceRule rfl rfl rfl (by decide +kernel) ⟨(Nat.le_of_ble_eq_true rfl), (Nat.le_of_ble_eq_true rfl)⟩) (zz40 (G := xg X) (i := 0) (by omega)) (T := TX10) rfl rfl (Nat.le_of_ble_eq_true rfl) rfl ?_
  exact lz_eq_t C dL_law_1074 (tgt := 1320) (by decide) (kk _ hR2)
set_option maxRecDepth 100000 in
set_option maxHeartbeats 4000000 in
theorem lw_price {X : mh_X} {b Ln i c : Nat} {xv : Nat → Int32} {M : mh_M} (C : lzC X b Ln xv) (hi : i + 6 ≤ Ln) (hc : c < 512) (hR : Rel c M) (kk : lzK X b i c) : lz X M 1079 (lzL X b i) [] := by
  obtain ⟨r, e1, e2, hR2⟩ := rel_pure hR hc (fun q h1 h2 h3 => s_price h1 h2 h3 2000 (Nat.le_of_ble_eq_true rfl) (xv (i + 1)) (xv (i + 2)) (xv (i + 3)))
  refine lz_aload C dL_law_1079 2 rfl ?_
  refine lz_arg C rfl dL_law_1080 dL_law_1081 dL_law_1082 (j := 1) (by decide) dL_law_1083 dL_law_1084 (by omega) ?_
  refine lz_arg C rfl dL_law_1085 dL_law_1086 dL_law_1087 (j := 2) (by decide) dL_law_1088 dL_law_1089 (by omega) ?_
  refine lz_arg C rfl dL_law_1090 dL_law_1091 dL_law_1092 (j := 3) (by decide) dL_law_1093 dL_law_1094 (by omega) ?_
  refine lz_call C (M1 := M) (v := .int r) (rest := []) (As := [.int (xv (i + 1)), .int (xv (i + 2)), .int (xv (i + 3))]) dL_law_1095 (mtX9_price (xl X) (xg X) 2000 M (xv (i + 1)) (xv (i + 2)) (xv (i + 3)) e1) (cwV 3 C.1.2.2.1 gL_law_X9_price rfl rfl rfl (by decide +kernel) ⟨(Nat.le_of_ble_eq_true rfl), (Nat.le_of_ble_eq_true rfl)⟩) (zz0 (G := xg X) (i := 0) (by omega)) (T := TX9) rfl rfl (Nat.le_of_ble_eq_true rfl) rfl ?_
  refine lz_aload C dL_law_1098 1 rfl ?_
  refine lz_arg C rfl dL_law_1099 dL_law_1100 dL_law_1101 (j := 1) (by decide) dL_law_1102 dL_law_1103 (by omega) ?_
  refine lz_arg C rfl dL_law_1104 dL_law_1105 dL_law_1106 (j := 2) (by decide) dL_law_1107 dL_law_1108 (by omega) ?_
  refine lz_arg C rfl dL_law_1109 dL_law_1110 dL_law_1111 (j := 3) (by decide) dL_law_1112 dL_law_1113 (by omega) ?_
  refine lz_call C (M1 := M) (v := .int r) (rest := [.int r]) (As := [.int (xv (i + 1)), .int (xv (i + 2)), .int (xv (i + 3))]) dL_law_1114 (mtX10_price (xl X) (xg X) 2000 M (xv (i + 1)) (xv (i + 2)) (xv (i + 3)) e2) (cwV 3 C.1.2.2.1 gL_law_X10_price rfl rfl rfl (by decide +kernel) ⟨(Nat.le_of_ble_eq_true rfl), (Nat.le_of_ble_eq_true rfl)⟩) (zz40 (G := xg X) (i := 0) (by omega)) (T := TX10) rfl rfl (Nat.le_of_ble_eq_true rfl) rfl ?_
  exact lz_eq_t C dL_law_1117 (tgt := 1320) (by decide) (kk _ hR2)
set_option maxRecDepth 100000 in
set_option maxHeartbeats 4000000 in
theorem lw_person {X : mh_X} {b Ln i c : Nat} {xv : Nat → Int32} {M : mh_M} (C : lzC X b Ln xv) (hi : i + 6 ≤ Ln) (hc : c < 512) (hR : Rel c M) (kk : lzK X b i c) : lz X M 1122 (lzL X b i) [] := by
  obtain ⟨M1, M2, r, e1, e2, hR2⟩ := rel_both hR (fx := fX9_person 2000 M (xv (i + 1)) (xv (i + 2)) (xv (i + 3))) (fm := fun M' => fX10_person 2000 M' (xv (i + 1)) (xv (i + 2)) (xv (i + 3))) (fun q M' h1 h2 h3 => s_person h1 h2 h3 hc 2000 (xv (i + 1)) (xv (i + 2)) (xv (i + 3)))
  refine lz_aload C dL_law_1122 2 rfl ?_
  refine lz_arg C rfl dL_law_1123 dL_law_1124 dL_law_1125 (j := 1) (by decide) dL_law_1126 dL_law_1127 (by omega) ?_
  refine lz_arg C rfl dL_law_1128 dL_law_1129 dL_law_1130 (j := 2) (by decide) dL_law_1131 dL_law_1132 (by omega) ?_
  refine lz_arg C rfl dL_law_1133 dL_law_1134 dL_law_1135 (j := 3) (by decide) dL_law_1136 dL_law_1137 (by omega) ?_
  refine lz_call C (M1 := M1) (v := .int r) (rest := []) (As := [.int (xv (i + 1)), .int (xv (i + 2)), .int (xv (i + 3))]) dL_law_1138 (mtX9_person (xl X) (xg X) 2000 M (xv (i + 1)) (xv (i + 2)) (xv (i + 3)) e1) (cwV 3 C.1.2.2.1 gL_law_X9_person rfl rfl rfl (by decide +kernel) ⟨(Nat.le_of_ble_eq_true rfl), (Nat.le_of_ble_eq_true rfl)⟩) (zz0 (G := xg X) (i := 0) (by omega)) (T := TX9) rfl rfl (Nat.le_of_ble_eq_true rfl) rfl ?_
  refine lz_aload C dL_law_1141 1 rfl ?_
  refine lz_arg C rfl dL_law_1142 dL_law_1143 dL_law_1144 (j := 1) (by decide) dL_law_1145 dL_law_1146 (by omega) ?_
  refine lz_arg C rfl dL_law_1147 dL_law_1148 dL_law_1149 (j := 2) (by decide) dL_law_1150 dL_law_1151 (by omega) ?_
  refine lz_arg C rfl dL_law_1152 dL_law_1153 dL_law_1154 (j := 3) (by decide) dL_law_1155 dL_law_1156 (by omega) ?_
  refine lz_call C (M1 := M2) (v := .int r) (rest := [.int r]) (As := [.int (xv (i + 1)), .int (xv (i + 2)), .int (xv (i + 3))]) dL_law_1157 (mtX10_person (xl X) (xg X) 2000 M1 (xv (i + 1)) (xv (i + 2)) (xv (i + 3)) e2) (cwV 3 C.1.2.2.1 gL_law_X10_person rfl rfl rfl (by decide +kernel) ⟨(Nat.le_of_ble_eq_true rfl), (Nat.le_of_ble_eq_true rfl)⟩) (zz40 (G := xg X) (i := 0) (by omega)) (T := TX10) rfl rfl (Nat.le_of_ble_eq_true rfl) rfl ?_
  exact lz_eq_t C dL_law_1160 (tgt := 1320) (by decide) (kk _ hR2)
set_option maxRecDepth 100000 in
set_option maxHeartbeats 4000000 in
theorem lw_tips {X : mh_X} {b Ln i c : Nat} {xv : Nat → Int32} {M : mh_M} (C : lzC X b Ln xv) (hi : i + 6 ≤ Ln) (hc : c < 512) (hR : Rel c M) (kk : lzK X b i c) : lz X M 1165 (lzL X b i) [] := by
  obtain ⟨r, e1, e2, hR2⟩ := rel_pure hR hc (fun q h1 h2 h3 => s_tips h1 h2 h3 2000 (Nat.le_of_ble_eq_true rfl) (xv (i + 1)) (xv (i + 2)))
  refine lz_aload C dL_law_1165 2 rfl ?_
  refine lz_arg C rfl dL_law_1166 dL_law_1167 dL_law_1168 (j := 1) (by decide) dL_law_1169 dL_law_1170 (by omega) ?_
  refine lz_arg C rfl dL_law_1171 dL_law_1172 dL_law_1173 (j := 2) (by decide) dL_law_1174 dL_law_1175 (by omega) ?_
  refine lz_call C (M1 := M) (v := .int r) (rest := []) (As := [.int (xv (i + 1)), .int (xv (i + 2))]) dL_law_1176 (mtX9_tips (xl X) (xg X) 2000 M (xv (i + 1)) (xv (i + 2)) e1) (cwV 2 C.1.2.2.1 gL_law_X9_tips rfl rfl rfl (by decide +kernel) ⟨(Nat.le_of_ble_eq_true rfl), (Nat.le_of_ble_eq_true rfl)⟩) (zz0 (G := xg X) (i := 0) (by omega)) (T := TX9) rfl rfl (Nat.le_of_ble_eq_true rfl) rfl ?_
  refine lz_aload C dL_law_1179 1 rfl ?_
  refine lz_arg C rfl dL_law_1180 dL_law_1181 dL_law_1182 (j := 1) (by decide) dL_law_1183 dL_law_1184 (by omega) ?_
  refine lz_arg C rfl dL_law_1185 dL_law_1186 dL_law_1187 (j := 2) (by decide) dL_law_1188 dL_law_1189 (by omega) ?_
  refine lz_call C (M1 := M) (v := .int r) (rest := [.int r]) (As := [.int (xv (i + 1)), .int (xv (i + 2))]) dL_law_1190 (mtX10_tips (xl X) (xg X) 2000 M (xv (i + 1)) (xv (i + 2)) e2) (cwV 2 C.1.2.2.1 gL_law_X10_tips rfl rfl rfl (by decide +kernel) ⟨(Nat.le_of_ble_eq_true rfl), (Nat.le_of_ble_eq_true rfl)⟩) (zz40 (G := xg X) (i := 0) (by omega)) (T := TX10) rfl rfl (Nat.le_of_ble_eq_true rfl) rfl ?_
  exact lz_eq_t C dL_law_1193 (tgt := 1320) (by decide) (kk _ hR2)
set_option maxRecDepth 100000 in
set_option maxHeartbeats 4000000 in
theorem lw_keg {X : mh_X} {b Ln i c : Nat} {xv : Nat → Int32} {M : mh_M} (C : lzC X b Ln xv) (hi : i + 6 ≤ Ln) (hc : c < 512) (hR : Rel c M) (kk : lzK X b i c) : lz X M 1198 (lzL X b i) [] := by
  obtain ⟨r, e1, e2, hR2⟩ := rel_pure hR hc (fun q h1 h2 h3 => s_keg h1 h2 h3 2000 (xv (i + 1)) (xv (i + 2)))
  refine lz_aload C dL_law_1198 2 rfl ?_
  refine lz_arg C rfl dL_law_1199 dL_law_1200 dL_law_1201 (j := 1) (by decide) dL_law_1202 dL_law_1203 (by omega) ?_
  refine lz_arg C rfl dL_law_1204 dL_law_1205 dL_law_1206 (j := 2) (by decide) dL_law_1207 dL_law_1208 (by omega) ?_
  refine lz_call C (M1 := M) (v := .int r) (rest := []) (As := [.int (xv (i + 1)), .int (xv (i + 2))]) dL_law_1209 (mtX9_keg (xl X) (xg X) 2000 M (xv (i + 1)) (xv (i + 2)) e1) (cwV 2 C.1.2.2.1 gL_law_X9_keg rfl rfl rfl (by decide +kernel) ⟨(Nat.le_of_ble_eq_true rfl), (Nat.le_of_ble_eq_true rfl)⟩) (zz0 (G := xg X) (i := 0) (by omega)) (T := TX9) rfl rfl (Nat.le_of_ble_eq_true rfl) rfl ?_
  refine lz_aload C dL_law_1212 1 rfl ?_
  refine lz_arg C rfl dL_law_1213 dL_law_1214 dL_law_1215 (j := 1) (by decide) dL_law_1216 dL_law_1217 (by omega) ?_
  refine lz_arg C rfl dL_law_1218 dL_law_1219 dL_law_1220 (j := 2) (by decide) dL_law_1221 dL_law_1222 (by omega) ?_
  refine lz_call C (M1 := M) (v := .int r) (rest := [.int r]) (As := [.int (xv (i + 1)), .int (xv (i + 2))]) dL_law_1223 (mtX10_keg (xl X) (xg X) 2000 M (xv (i + 1)) (xv (i + 2)) e2) (cwV 2 C.1.2.2.1 gL_law_X10_keg rfl rfl rfl (by decide +kernel) ⟨(Nat.le_of_ble_eq_true rfl), (Nat.le_of_ble_eq_true rfl)⟩) (zz40 (G := xg X) (i := 0) (by omega)) (T := TX10) rfl rfl (Nat.le_of_ble_eq_true rfl) rfl ?_
  exact lz_eq_t C dL_law_1226 (tgt := 1320) (by decide) (kk _ hR2)
set_option maxRecDepth 100000 in
set_option maxHeartbeats 4000000 in
theorem lw_deal {X : mh_X} {b Ln i c : Nat} {xv : Nat → Int32} {M : mh_M} (C : lzC X b Ln xv) (hi : i + 6 ≤ Ln) (hc : c < 512) (hR : Rel c M) (kk : lzK X b i c) : lz X M 1231 (lzL X b i) [] := by
  obtain ⟨M1, M2, r, e1, e2, hR2⟩ := rel_both hR (fx := fX9_deal 2000 M (xv (i + 1)) (xv (i + 2))) (fm := fun M' => fX10_deal 2000 M' (xv (i + 1)) (xv (i + 2))) (fun q M' h1 h2 h3 => s_deal h1 h2 h3 hc 2000 (xv (i + 1)) (xv (i + 2)))
  refine lz_aload C dL_law_1231 2 rfl ?_
  refine lz_arg C rfl dL_law_1232 dL_law_1233 dL_law_1234 (j := 1) (by decide) dL_law_1235 dL_law_1236 (by omega) ?_
  refine lz_arg C rfl dL_law_1237 dL_law_1238 dL_law_1239 (j := 2) (by decide) dL_law_1240 dL_law_1241 (by omega) ?_
  refine lz_call C (M1 := M1) (v := .int r) (rest := []) (As := [.int (xv (i + 1)), .int (xv (i + 2))]) dL_law_1242 (mtX9_deal (xl X) (xg X) 2000 M (xv (i + 1)) (xv (i + 2)) e1) (cwV 2 C.1.2.2.1 gL_law_X9_deal rfl rfl rfl (by decide +kernel) ⟨(Nat.le_of_ble_eq_true rfl), (Nat.le_of_ble_eq_true rfl)⟩) (zz0 (G := xg X) (i := 0) (by omega)) (T := TX9) rfl rfl (Nat.le_of_ble_eq_true rfl) rfl ?_
  refine lz_aload C dL_law_1245 1 rfl ?_
  refine lz_arg C rfl dL_law_1246 dL_law_1247 dL_law_1248 (j := 1) (by decide) dL_law_1249 dL_law_1250 (by omega) ?_
  refine lz_arg C rfl dL_law_1251 dL_law_1252 dL_law_1253 (j := 2) (by decide) dL_law_1254 dL_law_1255 (by omega) ?_
  refine lz_call C (M1 := M2) (v := .int r) (rest := [.int r]) (As := [.int (xv (i + 1)), .int (xv (i + 2))]) dL_law_1256 (mtX10_deal (xl X) (xg X) 2000 M1 (xv (i + 1)) (xv (i + 2)) e2) (cwV 2 C.1.2.2.1 gL_law_X10_deal rfl rfl rfl (by decide +kernel) ⟨(Nat.le_of_ble_eq_true rfl), (Nat.le_of_ble_eq_true rfl)⟩) (zz40 (G := xg X) (i := 0) (by omega)) (T := TX10) rfl rfl (Nat.le_of_ble_eq_true rfl) rfl ?_
  exact lz_eq_t C dL_law_1259 (tgt := 1320) (by decide) (kk _ hR2)
set_option maxRecDepth 100000 in
set_option maxHeartbeats 4000000 in
theorem lw_buy {X : mh_X} {b Ln i c : Nat} {xv : Nat → Int32} {M : mh_M} (C : lzC X b Ln xv) (hi : i + 6 ≤ Ln) (hc : c < 512) (hR : Rel c M) (kk : lzK X b i c) : lz X M 1264 (lzL X b i) [] := by
  obtain ⟨M1, M2, r, e1, e2, hR2⟩ := rel_both hR (fx := fX9_buy 2000 M (xv (i + 1)) (xv (i + 2))) (fm := fun M' => fX10_buy 2000 M' (xv (i + 1)) (xv (i + 2))) (fun q M' h1 h2 h3 => s_buy h1 h2 h3 hc 2000 (Nat.le_of_ble_eq_true rfl) (xv (i + 1)) (xv (i + 2)))
  refine lz_aload C dL_law_1264 2 rfl ?_
  refine lz_arg C rfl dL_law_1265 dL_law_1266 dL_law_1267 (j := 1) (by decide) dL_law_1268 dL_law_1269 (by omega) ?_
  refine lz_arg C rfl dL_law_1270 dL_law_1271 dL_law_1272 (j := 2) (by decide) dL_law_1273 dL_law_1274 (by omega) ?_
  refine lz_call C (M1 := M1) (v := .int r) (rest := []) (As := [.int (xv (i + 1)), .int (xv (i + 2))]) dL_law_1275 (mtX9_buy (xl X) (xg X) 2000 M (xv (i + 1)) (xv (i + 2)) e1) (cwV 2 C.1.2.2.1 gL_law_X9_buy rfl rfl rfl (by decide +kernel) ⟨(Nat.le_of_ble_eq_true rfl), (Nat.le_of_ble_eq_true rfl)⟩) (zz0 (G := xg X) (i := 0) (by omega)) (T := TX9) rfl rfl (Nat.le_of_ble_eq_true rfl) rfl ?_
  refine lz_aload C dL_law_1278 1 rfl ?_
  refine lz_arg C rfl dL_law_1279 dL_law_1280 dL_law_1281 (j := 1) (by decide) dL_law_1282 dL_law_1283 (by omega) ?_
  refine lz_arg C rfl dL_law_1284 dL_law_1285 dL_law_1286 (j := 2) (by decide) dL_law_1287 dL_law_1288 (by omega) ?_
  refine lz_call C (M1 := M2) (v := .int r) (rest := [.int r]) (As := [.int (xv (i + 1)), .int (xv (i + 2))]) dL_law_1289 (mtX10_buy (xl X) (xg X) 2000 M1 (xv (i + 1)) (xv (i + 2)) e2) (cwV 2 C.1.2.2.1 gL_law_X10_buy rfl rfl rfl (by decide +kernel) ⟨(Nat.le_of_ble_eq_true rfl), (Nat.le_of_ble_eq_true rfl)⟩) (zz40 (G := xg X) (i := 0) (by omega)) (T := TX10) rfl rfl (Nat.le_of_ble_eq_true rfl) rfl ?_
  exact lz_eq_t C dL_law_1292 (tgt := 1320) (by decide) (kk _ hR2)
set_option maxRecDepth 100000 in
set_option maxHeartbeats 4000000 in
theorem lw_count {X : mh_X} {b Ln i c : Nat} {xv : Nat → Int32} {M : mh_M} (C : lzC X b Ln xv) (hi : i + 6 ≤ Ln) (hc : c < 512) (hR : Rel c M) (kk : lzK X b i c) : lz X M 1297 (lzL X b i) [] := by
  obtain ⟨r, e1, e2, hR2⟩ := rel_pure hR hc (fun q h1 h2 h3 => s_count h1 h2 h3 2000 (xv (i + 1)))
  refine lz_aload C dL_law_1297 2 rfl ?_
  refine lz_arg C rfl dL_law_1298 dL_law_1299 dL_law_1300 (j := 1) (by decide) dL_law_1301 dL_law_1302 (by omega) ?_
  refine lz_call C (M1 := M) (v := .int r) (rest := []) (As := [.int (xv (i + 1))]) dL_law_1303 (mtX9_count (xl X) (xg X) 2000 M (xv (i + 1)) e1) (cwV 1 C.1.2.2.1 gL_law_X9_count rfl rfl rfl (by decide +kernel) ⟨(Nat.le_of_ble_eq_true rfl), (Nat.le_of_ble_eq_true rfl)⟩) (zz0 (G := xg X) (i := 0) (by omega)) (T := TX9) rfl rfl (Nat.le_of_ble_eq_true rfl) rfl ?_
  refine lz_aload C dL_law_1306 1 rfl ?_
  refine lz_arg C rfl dL_law_1307 dL_law_1308 dL_law_1309 (j := 1) (by decide) dL_law_1310 dL_law_1311 (by omega) ?_
  refine lz_call C (M1 := M) (v := .int r) (rest := [.int r]) (As := [.int (xv (i + 1))]) dL_law_1312 (mtX10_count (xl X) (xg X) 2000 M (xv (i + 1)) e2) (cwV 1 C.1.2.2.1 gL_law_X10_count rfl rfl rfl (by decide +kernel) ⟨(Nat.le_of_ble_eq_true rfl), (Nat.le_of_ble_eq_true rfl)⟩) (zz40 (G := xg X) (i := 0) (by omega)) (T := TX10) rfl rfl (Nat.le_of_ble_eq_true rfl) rfl ?_
  exact lz_eq_t C dL_law_1315 (tgt := 1320) (by decide) (kk _ hR2)
set_option maxRecDepth 100000 in
set_option maxHeartbeats 4000000 in
theorem lw_turn {X : mh_X} {b Ln i c : Nat} {xv : Nat → Int32} {M : mh_M} (C : lzC X b Ln xv) (hi : i + 6 ≤ Ln) (hc : c < 512) (hR : Rel c M) (kk : lzK X b i c) : lz X M 27 (lzL X b i) [] := by
  obtain ⟨tS, hS0⟩ := C.2.2.2.2.2.1
  refine lz_aload C dL_law_27 3 rfl ?_
  refine lz_iload C dL_law_28 0 rfl ?_
  refine lz_sld C (by omega) dL_law_29 ?_
  refine lz_bipush C (63 : Int32) dL_law_30 (by decide) ?_
  refine lz_iand C dL_law_32 ?_
  obtain ⟨j, hj, e⟩ := pk_andE (xv i) (m := 63) 6 (by decide)
  rw [e]
  have hj' : (nI j).toInt = (j : Int) := nI_toInt (by omega)
  by_cases h33 : 33 ≤ j
  · refine lz_tout C dL_law_33 (tgt := 1320) (Or.inr (by rw [hj']; omega)) (by decide) ?_
    obtain ⟨q, h1, h2, h3⟩ := hR
    exact kk _ ⟨q, h1, h2, Inv_up h3 hc⟩
  have hlt : j < 33 := by omega
  by_cases h100 : j = 0
  · subst h100
    exact lz_tin C dL_law_33 (tgt := 180) (by decide) (by decide) rfl (by decide) (lw_kind C hi hc hR kk)
  by_cases h101 : j = 1
  · subst h101
    exact lz_tin C dL_law_33 (tgt := 223) (by decide) (by decide) rfl (by decide) (lw_recipe C hi hc hR kk)
  by_cases h102 : j = 2
  · subst h102
    exact lz_tin C dL_law_33 (tgt := 246) (by decide) (by decide) rfl (by decide) (lw_part C hi hc hR kk)
  by_cases h103 : j = 3
  · subst h103
    exact lz_tin C dL_law_33 (tgt := 289) (by decide) (by decide) rfl (by decide) (lw_rule C hS0 hi hc hR kk)
  by_cases h104 : j = 4
  · subst h104
    exact lz_tin C dL_law_33 (tgt := 322) (by decide) (by decide) rfl (by decide) (lw_receive C hi hc hR kk)
  by_cases h105 : j = 5
  · subst h105
    exact lz_tin C dL_law_33 (tgt := 355) (by decide) (by decide) rfl (by decide) (lw_issue C hi hc hR kk)
  by_cases h106 : j = 6
  · subst h106
    exact lz_tin C dL_law_33 (tgt := 398) (by decide) (by decide) rfl (by decide) (lw_lend C hi hc hR kk)
  by_cases h107 : j = 7
  · subst h107
    exact lz_tin C dL_law_33 (tgt := 441) (by decide) (by decide) rfl (by decide) (lw_sell C hi hc hR kk)
  by_cases h108 : j = 8
  · subst h108
    exact lz_tin C dL_law_33 (tgt := 504) (by decide) (by decide) rfl (by decide) (lw_lose C hi hc hR kk)
  by_cases h109 : j = 9
  · subst h109
    exact lz_tin C dL_law_33 (tgt := 557) (by decide) (by decide) rfl (by decide) (lw_weigh C hi hc hR kk)
  by_cases h110 : j = 10
  · subst h110
    exact lz_tin C dL_law_33 (tgt := 610) (by decide) (by decide) rfl (by decide) (lw_undo C hi hc hR kk)
  by_cases h111 : j = 11
  · subst h111
    exact lz_tin C dL_law_33 (tgt := 623) (by decide) (by decide) rfl (by decide) (lw_keeper C hi hc hR kk)
  by_cases h112 : j = 12
  · subst h112
    exact lz_tin C dL_law_33 (tgt := 656) (by decide) (by decide) rfl (by decide) (lw_night C hi hc hR kk)
  by_cases h113 : j = 13
  · subst h113
    exact lz_tin C dL_law_33 (tgt := 669) (by decide) (by decide) rfl (by decide) (lw_has C hi hc hR kk)
  by_cases h114 : j = 14
  · subst h114
    exact lz_tin C dL_law_33 (tgt := 702) (by decide) (by decide) rfl (by decide) (lw_all C hi hc hR kk)
  by_cases h115 : j = 15
  · subst h115
    exact lz_tin C dL_law_33 (tgt := 735) (by decide) (by decide) rfl (by decide) (lw_gap C hi hc hR kk)
  by_cases h116 : j = 16
  · subst h116
    exact lz_tin C dL_law_33 (tgt := 788) (by decide) (by decide) rfl (by decide) (lw_over C hi hc hR kk)
  by_cases h117 : j = 17
  · subst h117
    exact lz_tin C dL_law_33 (tgt := 832) (by decide) (by decide) rfl (by decide) (lw_leans C hi hc hR kk)
  by_cases h118 : j = 18
  · subst h118
    exact lz_tin C dL_law_33 (tgt := 865) (by decide) (by decide) rfl (by decide) (lw_takings C hi hc hR kk)
  by_cases h119 : j = 19
  · subst h119
    exact lz_tin C dL_law_33 (tgt := 888) (by decide) (by decide) rfl (by decide) (lw_foretell C hi hc hR kk)
  by_cases h120 : j = 20
  · subst h120
    exact lz_tin C dL_law_33 (tgt := 921) (by decide) (by decide) rfl (by decide) (lw_forget C hi hc hR kk)
  by_cases h121 : j = 21
  · subst h121
    exact lz_tin C dL_law_33 (tgt := 934) (by decide) (by decide) rfl (by decide) (lw_press C hi hc hR kk)
  by_cases h122 : j = 22
  · subst h122
    exact lz_tin C dL_law_33 (tgt := 957) (by decide) (by decide) rfl (by decide) (lw_makes C hi hc hR kk)
  by_cases h123 : j = 23
  · subst h123
    exact lz_tin C dL_law_33 (tgt := 980) (by decide) (by decide) rfl (by decide) (lw_fewest C hi hc hR kk)
  by_cases h124 : j = 24
  · subst h124
    exact lz_tin C dL_law_33 (tgt := 1003) (by decide) (by decide) rfl (by decide) (lw_most C hi hc hR kk)
  by_cases h125 : j = 25
  · subst h125
    exact lz_tin C dL_law_33 (tgt := 1026) (by decide) (by decide) rfl (by decide) (lw_priceRule C hi hc hR kk)
  by_cases h126 : j = 26
  · subst h126
    exact lz_tin C dL_law_33 (tgt := 1079) (by decide) (by decide) rfl (by decide) (lw_price C hi hc hR kk)
  by_cases h127 : j = 27
  · subst h127
    exact lz_tin C dL_law_33 (tgt := 1122) (by decide) (by decide) rfl (by decide) (lw_person C hi hc hR kk)
  by_cases h128 : j = 28
  · subst h128
    exact lz_tin C dL_law_33 (tgt := 1165) (by decide) (by decide) rfl (by decide) (lw_tips C hi hc hR kk)
  by_cases h129 : j = 29
  · subst h129
    exact lz_tin C dL_law_33 (tgt := 1198) (by decide) (by decide) rfl (by decide) (lw_keg C hi hc hR kk)
  by_cases h130 : j = 30
  · subst h130
    exact lz_tin C dL_law_33 (tgt := 1231) (by decide) (by decide) rfl (by decide) (lw_deal C hi hc hR kk)
  by_cases h131 : j = 31
  · subst h131
    exact lz_tin C dL_law_33 (tgt := 1264) (by decide) (by decide) rfl (by decide) (lw_buy C hi hc hR kk)
  by_cases h132 : j = 32
  · subst h132
    exact lz_tin C dL_law_33 (tgt := 1297) (by decide) (by decide) rfl (by decide) (lw_count C hi hc hR kk)
  omega
theorem lw_loop {X : mh_X} {b Ln : Nat} {xv : Nat → Int32} (C : lzC X b Ln xv) : ∀ (d c : Nat) (M : mh_M), c + d = 513 → Rel c M → lz X M 18 (lzL X b (6 * c)) [] := by
  intro d
  have hLn := C.2.2.2.2.1
  induction d with
  | zero =>
    intro c M hd hR
    exfalso
    obtain ⟨q, -, -, K, Rc, T, A, FT, PR, DL, hn, hb, -⟩ := hR
    omega
  | succ d ih =>
    intro c M hd hR
    have hc512 : c ≤ 512 := by
      obtain ⟨q, -, -, K, Rc, T, A, FT, PR, DL, hn, hb, -⟩ := hR
      omega
    refine lz_iload C dL_law_18 0 rfl ?_
    refine lz_aload C dL_law_19 3 rfl ?_
    refine lz_slen C dL_law_20 ?_
    refine lz_bipush C (6 : Int32) dL_law_21 (by decide) ?_
    refine lz_isub C dL_law_23 ?_
    have hs : (nI Ln - (6 : Int32)).toInt = (Ln : Int) - 6 := pk_sub_toInt (a := Ln) (b := 6) (by omega) (by omega)
    have hi : (nI (6 * c)).toInt = ((6 * c : Nat) : Int) := nI_toInt (by omega)
    by_cases hl : 6 * c + 6 ≤ Ln
    · refine lz_gt_f C dL_law_24 (tgt := 1326) (by decide) (by rw [Int32.lt_iff_toInt_lt, hs, hi]; omega) ?_
      refine lw_turn C hl (by omega) hR (fun M1 hR1 => ?_)
      refine lz_iinc C dL_law_1320 0 rfl (v := nI (6 * c + 6)) (nI_add (6 * c) 6) (by decide) rfl ?_
      refine lz_goto C dL_law_1323 (tgt := 18) (by decide) ?_
      have := ih (c + 1) M1 (by omega) hR1
      rw [show 6 * (c + 1) = 6 * c + 6 by omega] at this
      exact this
    · refine lz_gt_t C dL_law_24 (tgt := 1326) (by decide) (by rw [Int32.lt_iff_toInt_lt, hs, hi]; omega) ?_
      refine lz_iconst C (1 : Int32) dL_law_1326 (by decide) ?_
      exact fun H locs hP hS ls h => C.2.2.2.2.2.2 H locs hS ls
