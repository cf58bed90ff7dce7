/-! ===== the rows of the layer: an instruction each ===== -/
section MS
variable {ρ : Type} {X : mh_X} {R : Room} {nL : Nat} {o : Option ρ} {z : ρ} {M : mh_M} {Wd : Heap → List Loc → Prop} {pc : Nat} {L : List (Nat × Value)} {st : List Value} {cc : ByteArray} {ws : List Cond} {own : String}
theorem ms_none : mw_W X R nL (none : Option ρ) z Wd pc L st := fun h => by cases h
theorem ms_split {c : Prop} [Decidable c] {A B : Option ρ} (kt : c → mw_W X R nL A z Wd pc L st) (kf : ¬ c → mw_W X R nL B z Wd pc L st) : mw_W X R nL (if c then A else B) z Wd pc L st := by
  by_cases h : c
  · rw [if_pos h]; exact kt h
  · rw [if_neg h]; exact kf h
theorem ms_sub (is : List Nat) {L' : List (Nat × Value)} (hs : lv_pick L is = L') (kk : mw_W X R nL o z Wd pc L' st) : mw_W X R nL o z Wd pc L st := fun ho H locs hw ls h => kk ho H locs hw ls (lv_sub h is hs)
theorem ms_iload_n (C : mh_C X R cc ws own nL) {k : Fin 4} {x : Int32} (hdg : decode cc pc = .ok (.iload_n k, 1)) (j : Nat) (hl : L[j]? = some (k.val, .int x)) (kk : mw_W X R nL o z Wd (pc + 1) L (.int x :: st)) : mw_W X R nL o z Wd pc L st := fun ho H locs hw ls h => lv_iload_n C.1 C.2.1 hdg rfl (lv_at h j hl) (kk ho H locs hw ls h)
theorem ms_iload (C : mh_C X R cc ws own nL) {i : Nat} {x : Int32} (hdg : decode cc pc = .ok (.iload i, 2)) (j : Nat) (hl : L[j]? = some (i, .int x)) (kk : mw_W X R nL o z Wd (pc + 2) L (.int x :: st)) : mw_W X R nL o z Wd pc L st := fun ho H locs hw ls h => lv_iload C.1 C.2.1 hdg (lv_at h j hl) (kk ho H locs hw ls h)
theorem ms_lload_n (C : mh_C X R cc ws own nL) {k : Fin 4} {x : Int64} (hdg : decode cc pc = .ok (.lload_n k, 1)) (j : Nat) (hl : L[j]? = some (k.val, .long x)) (kk : mw_W X R nL o z Wd (pc + 1) L (.long x :: st)) : mw_W X R nL o z Wd pc L st := fun ho H locs hw ls h => lv_lload_n C.1 C.2.1 hdg rfl (lv_at h j hl) (kk ho H locs hw ls h)
theorem ms_lload (C : mh_C X R cc ws own nL) {i : Nat} {x : Int64} (hdg : decode cc pc = .ok (.lload i, 2)) (j : Nat) (hl : L[j]? = some (i, .long x)) (kk : mw_W X R nL o z Wd (pc + 2) L (.long x :: st)) : mw_W X R nL o z Wd pc L st := fun ho H locs hw ls h => lv_lload C.1 C.2.1 hdg (lv_at h j hl) (kk ho H locs hw ls h)
theorem ms_aload_n (C : mh_C X R cc ws own nL) {k : Fin 4} {x : Nat} (hdg : decode cc pc = .ok (.aload_n k, 1)) (j : Nat) (hl : L[j]? = some (k.val, .ref x)) (kk : mw_W X R nL o z Wd (pc + 1) L (.ref x :: st)) : mw_W X R nL o z Wd pc L st := fun ho H locs hw ls h => lv_aload_n C.1 C.2.1 hdg rfl (lv_at h j hl) (kk ho H locs hw ls h)
theorem ms_aload (C : mh_C X R cc ws own nL) {i : Nat} {x : Nat} (hdg : decode cc pc = .ok (.aload i, 2)) (j : Nat) (hl : L[j]? = some (i, .ref x)) (kk : mw_W X R nL o z Wd (pc + 2) L (.ref x :: st)) : mw_W X R nL o z Wd pc L st := fun ho H locs hw ls h => lv_aload C.1 C.2.1 hdg (lv_at h j hl) (kk ho H locs hw ls h)
theorem ms_istore_n (C : mh_C X R cc ws own nL) {k : Fin 4} {i : Nat} {x : Int32} {L' : List (Nat × Value)} (hdg : decode cc pc = .ok (.istore_n k, 1)) (hi : k.val = i) (hn : i < nL) (hl : (i, Value.int x) :: L.filter (fun q => !(q.1 == i) && !(q.1 + 1 == i && q.2.category == 2)) = L') (kk : mw_W X R nL o z Wd (pc + 1) L' st) : mw_W X R nL o z Wd pc L (.int x :: st) := fun ho H locs hw ls h => lv_istore_n C.1 C.2.1 hdg hi h hn hl (fun ls' h' => kk ho H locs hw ls' h')
theorem ms_istore (C : mh_C X R cc ws own nL) {i : Nat} {x : Int32} {L' : List (Nat × Value)} (hdg : decode cc pc = .ok (.istore i, 2)) (hn : i < nL) (hl : (i, Value.int x) :: L.filter (fun q => !(q.1 == i) && !(q.1 + 1 == i && q.2.category == 2)) = L') (kk : mw_W X R nL o z Wd (pc + 2) L' st) : mw_W X R nL o z Wd pc L (.int x :: st) := fun ho H locs hw ls h => lv_istore C.1 C.2.1 hdg h hn hl (fun ls' h' => kk ho H locs hw ls' h')
theorem ms_lstore_n (C : mh_C X R cc ws own nL) {k : Fin 4} {i : Nat} {x : Int64} {L' : List (Nat × Value)} (hdg : decode cc pc = .ok (.lstore_n k, 1)) (hi : k.val = i) (hn : i + 1 < nL) (hl : (i, Value.long x) :: L.filter (fun q => !(q.1 == i) && (!(q.1 == i + 1) && !(q.1 + 1 == i && q.2.category == 2))) = L') (kk : mw_W X R nL o z Wd (pc + 1) L' st) : mw_W X R nL o z Wd pc L (.long x :: st) := fun ho H locs hw ls h => lv_lstore_n C.1 C.2.1 hdg hi h hn hl (fun ls' h' => kk ho H locs hw ls' h')
theorem ms_lstore (C : mh_C X R cc ws own nL) {i : Nat} {x : Int64} {L' : List (Nat × Value)} (hdg : decode cc pc = .ok (.lstore i, 2)) (hn : i + 1 < nL) (hl : (i, Value.long x) :: L.filter (fun q => !(q.1 == i) && (!(q.1 == i + 1) && !(q.1 + 1 == i && q.2.category == 2))) = L') (kk : mw_W X R nL o z Wd (pc + 2) L' st) : mw_W X R nL o z Wd pc L (.long x :: st) := fun ho H locs hw ls h => lv_lstore C.1 C.2.1 hdg h hn hl (fun ls' h' => kk ho H locs hw ls' h')
theorem ms_astore_n (C : mh_C X R cc ws own nL) {k : Fin 4} {i : Nat} {x : Nat} {L' : List (Nat × Value)} (hdg : decode cc pc = .ok (.astore_n k, 1)) (hi : k.val = i) (hn : i < nL) (hl : (i, Value.ref x) :: L.filter (fun q => !(q.1 == i) && !(q.1 + 1 == i && q.2.category == 2)) = L') (kk : mw_W X R nL o z Wd (pc + 1) L' st) : mw_W X R nL o z Wd pc L (.ref x :: st) := fun ho H locs hw ls h => lv_astore_n C.1 C.2.1 hdg hi h hn hl (fun ls' h' => kk ho H locs hw ls' h')
theorem ms_astore (C : mh_C X R cc ws own nL) {i : Nat} {x : Nat} {L' : List (Nat × Value)} (hdg : decode cc pc = .ok (.astore i, 2)) (hn : i < nL) (hl : (i, Value.ref x) :: L.filter (fun q => !(q.1 == i) && !(q.1 + 1 == i && q.2.category == 2)) = L') (kk : mw_W X R nL o z Wd (pc + 2) L' st) : mw_W X R nL o z Wd pc L (.ref x :: st) := fun ho H locs hw ls h => lv_astore C.1 C.2.1 hdg h hn hl (fun ls' h' => kk ho H locs hw ls' h')
theorem ms_iinc (C : mh_C X R cc ws own nL) {i : Nat} {n : Int} {x c : Int32} {K : Int32 → Option ρ} {L' : Int32 → List (Nat × Value)} (hdg : decode cc pc = .ok (.iinc i n, 3)) (j : Nat) (hj : L[j]? = some (i, .int x)) (hc : Int32.ofInt n = c) (hn : i < nL) (hl : ∀ v : Int32, (i, Value.int v) :: L.filter (fun q => !(q.1 == i) && !(q.1 + 1 == i && q.2.category == 2)) = L' v) (kk : ∀ v : Int32, mw_W X R nL (K v) z Wd (pc + 3) (L' v) st) : mw_W X R nL (pl (x + c) K) z Wd pc L st := fun ho H locs hw ls h => lv_iinc C.1 C.2.1 hdg h hj (v := x + c) (by rw [hc]) hn (hl _) (fun ls' h' => kk (x + c) ho H locs hw ls' h')
theorem ms_iconst (C : mh_C X R cc ws own nL) {n : Int} (v : Int32) (hdg : decode cc pc = .ok (.iconst n, 1)) (hv : Int32.ofInt n = v) (kk : mw_W X R nL o z Wd (pc + 1) L (.int v :: st)) : mw_W X R nL o z Wd pc L st := fun ho H locs hw ls h => lv_iconst C.1 C.2.1 hdg hv (kk ho H locs hw ls h)
theorem ms_bipush (C : mh_C X R cc ws own nL) {n : Int} (v : Int32) (hdg : decode cc pc = .ok (.bipush n, 2)) (hv : (Int8.ofInt n).toInt32 = v) (kk : mw_W X R nL o z Wd (pc + 2) L (.int v :: st)) : mw_W X R nL o z Wd pc L st := fun ho H locs hw ls h => lv_bipush C.1 C.2.1 hdg hv (kk ho H locs hw ls h)
theorem ms_sipush (C : mh_C X R cc ws own nL) {n : Int} (v : Int32) (hdg : decode cc pc = .ok (.sipush n, 3)) (hv : (Int16.ofInt n).toInt32 = v) (kk : mw_W X R nL o z Wd (pc + 3) L (.int v :: st)) : mw_W X R nL o z Wd pc L st := fun ho H locs hw ls h => lv_sipush C.1 C.2.1 hdg hv (kk ho H locs hw ls h)
theorem ms_lconst (C : mh_C X R cc ws own nL) {n : Fin 2} (v : Int64) (hdg : decode cc pc = .ok (.lconst n, 1)) (hv : Int64.ofNat (n : Nat) = v) (kk : mw_W X R nL o z Wd (pc + 1) L (.long v :: st)) : mw_W X R nL o z Wd pc L st := fun ho H locs hw ls h => lv_lconst C.1 C.2.1 hdg hv (kk ho H locs hw ls h)
theorem ms_ldc (C : mh_C X R cc ws own nL) {index : Nat} (v : Int32) (hdg : decode cc pc = .ok (.ldc index, 2)) (hc : Cond.constant own index v ∈ ws) (kk : mw_W X R nL o z Wd (pc + 2) L (.int v :: st)) : mw_W X R nL o z Wd pc L st := fun ho H locs hw ls h => lv_ldc C.1 C.2.1 C.2.2.2.1 (C.2.2.1 _ hc) hdg (kk ho H locs hw ls h)
theorem ms_ldcw (C : mh_C X R cc ws own nL) {index : Nat} (v : Int32) (hdg : decode cc pc = .ok (.ldc_w index, 3)) (hc : Cond.constant own index v ∈ ws) (kk : mw_W X R nL o z Wd (pc + 3) L (.int v :: st)) : mw_W X R nL o z Wd pc L st := fun ho H locs hw ls h => lv_ldcw C.1 C.2.1 C.2.2.2.1 (C.2.2.1 _ hc) hdg (kk ho H locs hw ls h)
theorem ms_ldc2 (C : mh_C X R cc ws own nL) {index : Nat} (v : Int64) (hdg : decode cc pc = .ok (.ldc2_w index, 3)) (hc : Cond.constantLong own index v ∈ ws) (kk : mw_W X R nL o z Wd (pc + 3) L (.long v :: st)) : mw_W X R nL o z Wd pc L st := fun ho H locs hw ls h => lv_ldc2 C.1 C.2.1 C.2.2.2.1 (C.2.2.1 _ hc) hdg (kk ho H locs hw ls h)
theorem ms_iadd (C : mh_C X R cc ws own nL) {x y : Int32} {K : Int32 → Option ρ} (hdg : decode cc pc = .ok (.iadd, 1)) (kk : ∀ v : Int32, mw_W X R nL (K v) z Wd (pc + 1) L (.int v :: st)) : mw_W X R nL (pl (x + y) K) z Wd pc L (.int y :: .int x :: st) := fun ho H locs hw ls h => lv_iadd C.1 C.2.1 hdg (kk _ ho H locs hw ls h)
theorem ms_isub (C : mh_C X R cc ws own nL) {x y : Int32} {K : Int32 → Option ρ} (hdg : decode cc pc = .ok (.isub, 1)) (kk : ∀ v : Int32, mw_W X R nL (K v) z Wd (pc + 1) L (.int v :: st)) : mw_W X R nL (pl (x - y) K) z Wd pc L (.int y :: .int x :: st) := fun ho H locs hw ls h => lv_isub C.1 C.2.1 hdg (kk _ ho H locs hw ls h)
theorem ms_imul (C : mh_C X R cc ws own nL) {x y : Int32} {K : Int32 → Option ρ} (hdg : decode cc pc = .ok (.imul, 1)) (kk : ∀ v : Int32, mw_W X R nL (K v) z Wd (pc + 1) L (.int v :: st)) : mw_W X R nL (pl (x * y) K) z Wd pc L (.int y :: .int x :: st) := fun ho H locs hw ls h => lv_imul C.1 C.2.1 hdg (kk _ ho H locs hw ls h)
theorem ms_iand (C : mh_C X R cc ws own nL) {x y : Int32} {K : Int32 → Option ρ} (hdg : decode cc pc = .ok (.iand, 1)) (kk : ∀ v : Int32, mw_W X R nL (K v) z Wd (pc + 1) L (.int v :: st)) : mw_W X R nL (pl (x &&& y) K) z Wd pc L (.int y :: .int x :: st) := fun ho H locs hw ls h => lv_iand C.1 C.2.1 hdg (kk _ ho H locs hw ls h)
theorem ms_ior (C : mh_C X R cc ws own nL) {x y : Int32} {K : Int32 → Option ρ} (hdg : decode cc pc = .ok (.ior, 1)) (kk : ∀ v : Int32, mw_W X R nL (K v) z Wd (pc + 1) L (.int v :: st)) : mw_W X R nL (pl (x ||| y) K) z Wd pc L (.int y :: .int x :: st) := fun ho H locs hw ls h => lv_ior C.1 C.2.1 hdg (kk _ ho H locs hw ls h)
theorem ms_ixor (C : mh_C X R cc ws own nL) {x y : Int32} {K : Int32 → Option ρ} (hdg : decode cc pc = .ok (.ixor, 1)) (kk : ∀ v : Int32, mw_W X R nL (K v) z Wd (pc + 1) L (.int v :: st)) : mw_W X R nL (pl (x ^^^ y) K) z Wd pc L (.int y :: .int x :: st) := fun ho H locs hw ls h => lv_ixor C.1 C.2.1 hdg (kk _ ho H locs hw ls h)
theorem ms_ishl (C : mh_C X R cc ws own nL) {x y : Int32} {K : Int32 → Option ρ} (hdg : decode cc pc = .ok (.ishl, 1)) (kk : ∀ v : Int32, mw_W X R nL (K v) z Wd (pc + 1) L (.int v :: st)) : mw_W X R nL (pl (x <<< (y &&& 31)) K) z Wd pc L (.int y :: .int x :: st) := fun ho H locs hw ls h => lv_ishl C.1 C.2.1 hdg (kk _ ho H locs hw ls h)
theorem ms_ishr (C : mh_C X R cc ws own nL) {x y : Int32} {K : Int32 → Option ρ} (hdg : decode cc pc = .ok (.ishr, 1)) (kk : ∀ v : Int32, mw_W X R nL (K v) z Wd (pc + 1) L (.int v :: st)) : mw_W X R nL (pl (x >>> (y &&& 31)) K) z Wd pc L (.int y :: .int x :: st) := fun ho H locs hw ls h => lv_ishr C.1 C.2.1 hdg (kk _ ho H locs hw ls h)
theorem ms_iushr (C : mh_C X R cc ws own nL) {x y : Int32} {K : Int32 → Option ρ} (hdg : decode cc pc = .ok (.iushr, 1)) (kk : ∀ v : Int32, mw_W X R nL (K v) z Wd (pc + 1) L (.int v :: st)) : mw_W X R nL (pl ((x.toUInt32 >>> (y.toUInt32 &&& Int32.toUInt32 31)).toInt32) K) z Wd pc L (.int y :: .int x :: st) := fun ho H locs hw ls h => lv_iushr C.1 C.2.1 hdg rfl (kk _ ho H locs hw ls h)
theorem ms_ineg (C : mh_C X R cc ws own nL) {x : Int32} {K : Int32 → Option ρ} (hdg : decode cc pc = .ok (.ineg, 1)) (kk : ∀ v : Int32, mw_W X R nL (K v) z Wd (pc + 1) L (.int v :: st)) : mw_W X R nL (pl (-x) K) z Wd pc L (.int x :: st) := fun ho H locs hw ls h => lv_ineg C.1 C.2.1 hdg (kk _ ho H locs hw ls h)
theorem ms_idiv (C : mh_C X R cc ws own nL) {x y : Int32} {K : Int32 → Option ρ} (hdg : decode cc pc = .ok (.idiv, 1)) (kk : ∀ v : Int32, mw_W X R nL (K v) z Wd (pc + 1) L (.int v :: st)) : mw_W X R nL (ck (!decide (y = 0)) (pl (x / y) K)) z Wd pc L (.int y :: .int x :: st) := by
  by_cases hy : y = 0
  · rw [show (!decide (y = 0)) = false by simp [hy]]; exact ms_none
  · rw [show (!decide (y = 0)) = true by simp [hy]]; exact fun ho H locs hw ls h => lv_idiv C.1 C.2.1 hdg hy (kk _ ho H locs hw ls h)
theorem ms_irem (C : mh_C X R cc ws own nL) {x y : Int32} {K : Int32 → Option ρ} (hdg : decode cc pc = .ok (.irem, 1)) (kk : ∀ v : Int32, mw_W X R nL (K v) z Wd (pc + 1) L (.int v :: st)) : mw_W X R nL (ck (!decide (y = 0)) (pl (x - x / y * y) K)) z Wd pc L (.int y :: .int x :: st) := by
  by_cases hy : y = 0
  · rw [show (!decide (y = 0)) = false by simp [hy]]; exact ms_none
  · rw [show (!decide (y = 0)) = true by simp [hy]]; exact fun ho H locs hw ls h => lv_irem C.1 C.2.1 hdg hy (kk _ ho H locs hw ls h)
theorem ms_ladd (C : mh_C X R cc ws own nL) {x y : Int64} {K : Int64 → Option ρ} (hdg : decode cc pc = .ok (.ladd, 1)) (kk : ∀ v : Int64, mw_W X R nL (K v) z Wd (pc + 1) L (.long v :: st)) : mw_W X R nL (pl (x + y) K) z Wd pc L (.long y :: .long x :: st) := fun ho H locs hw ls h => lv_ladd C.1 C.2.1 hdg (kk _ ho H locs hw ls h)
theorem ms_lsub (C : mh_C X R cc ws own nL) {x y : Int64} {K : Int64 → Option ρ} (hdg : decode cc pc = .ok (.lsub, 1)) (kk : ∀ v : Int64, mw_W X R nL (K v) z Wd (pc + 1) L (.long v :: st)) : mw_W X R nL (pl (x - y) K) z Wd pc L (.long y :: .long x :: st) := fun ho H locs hw ls h => lv_lsub C.1 C.2.1 hdg (kk _ ho H locs hw ls h)
theorem ms_lmul (C : mh_C X R cc ws own nL) {x y : Int64} {K : Int64 → Option ρ} (hdg : decode cc pc = .ok (.lmul, 1)) (kk : ∀ v : Int64, mw_W X R nL (K v) z Wd (pc + 1) L (.long v :: st)) : mw_W X R nL (pl (x * y) K) z Wd pc L (.long y :: .long x :: st) := fun ho H locs hw ls h => lv_lmul C.1 C.2.1 hdg (kk _ ho H locs hw ls h)
theorem ms_lneg (C : mh_C X R cc ws own nL) {x : Int64} {K : Int64 → Option ρ} (hdg : decode cc pc = .ok (.lneg, 1)) (kk : ∀ v : Int64, mw_W X R nL (K v) z Wd (pc + 1) L (.long v :: st)) : mw_W X R nL (pl (-x) K) z Wd pc L (.long x :: st) := fun ho H locs hw ls h => lv_lneg C.1 C.2.1 hdg (kk _ ho H locs hw ls h)
theorem ms_ldiv (C : mh_C X R cc ws own nL) {x y : Int64} {K : Int64 → Option ρ} (hdg : decode cc pc = .ok (.ldiv, 1)) (kk : ∀ v : Int64, mw_W X R nL (K v) z Wd (pc + 1) L (.long v :: st)) : mw_W X R nL (ck (!decide (y = 0)) (pl (x / y) K)) z Wd pc L (.long y :: .long x :: st) := by
  by_cases hy : y = 0
  · rw [show (!decide (y = 0)) = false by simp [hy]]; exact ms_none
  · rw [show (!decide (y = 0)) = true by simp [hy]]; exact fun ho H locs hw ls h => lv_ldiv C.1 C.2.1 hdg hy (kk _ ho H locs hw ls h)
theorem ms_lrem (C : mh_C X R cc ws own nL) {x y : Int64} {K : Int64 → Option ρ} (hdg : decode cc pc = .ok (.lrem, 1)) (kk : ∀ v : Int64, mw_W X R nL (K v) z Wd (pc + 1) L (.long v :: st)) : mw_W X R nL (ck (!decide (y = 0)) (pl (x - x / y * y) K)) z Wd pc L (.long y :: .long x :: st) := by
  by_cases hy : y = 0
  · rw [show (!decide (y = 0)) = false by simp [hy]]; exact ms_none
  · rw [show (!decide (y = 0)) = true by simp [hy]]; exact fun ho H locs hw ls h => lv_lrem C.1 C.2.1 hdg hy (kk _ ho H locs hw ls h)
theorem ms_lcmp (C : mh_C X R cc ws own nL) {x y : Int64} {K : Int32 → Option ρ} (hdg : decode cc pc = .ok (.lcmp, 1)) (kk : ∀ v : Int32, mw_W X R nL (K v) z Wd (pc + 1) L (.int v :: st)) : mw_W X R nL (pl (lg_cmp x y) K) z Wd pc L (.long y :: .long x :: st) := fun ho H locs hw ls h => W.lcmp C.1 C.2.1 hdg (kk _ ho H locs hw ls h)
theorem ms_i2l (C : mh_C X R cc ws own nL) {x : Int32} {K : Int64 → Option ρ} (hdg : decode cc pc = .ok (.i2l, 1)) (kk : ∀ v : Int64, mw_W X R nL (K v) z Wd (pc + 1) L (.long v :: st)) : mw_W X R nL (pl (x.toInt64) K) z Wd pc L (.int x :: st) := fun ho H locs hw ls h => lv_i2l C.1 C.2.1 hdg rfl (kk _ ho H locs hw ls h)
theorem ms_l2i (C : mh_C X R cc ws own nL) {x : Int64} {K : Int32 → Option ρ} (hdg : decode cc pc = .ok (.l2i, 1)) (kk : ∀ v : Int32, mw_W X R nL (K v) z Wd (pc + 1) L (.int v :: st)) : mw_W X R nL (pl (x.toInt32) K) z Wd pc L (.long x :: st) := fun ho H locs hw ls h => lv_l2i C.1 C.2.1 hdg rfl (kk _ ho H locs hw ls h)
theorem ms_dup (C : mh_C X R cc ws own nL) {v : Value} (hdg : decode cc pc = .ok (.dup, 1)) (hv : v.category = 1) (kk : mw_W X R nL o z Wd (pc + 1) L (v :: v :: st)) : mw_W X R nL o z Wd pc L (v :: st) := fun ho H locs hw ls h => lv_dup C.1 C.2.1 hdg hv (kk ho H locs hw ls h)
theorem ms_dup2 (C : mh_C X R cc ws own nL) {v w : Value} (hdg : decode cc pc = .ok (.dup2, 1)) (hv : v.category = 1) (hv2 : w.category = 1) (kk : mw_W X R nL o z Wd (pc + 1) L (v :: w :: v :: w :: st)) : mw_W X R nL o z Wd pc L (v :: w :: st) := fun ho H locs hw ls h => lv_dup2_11 C.1 C.2.1 hdg hv hv2 (kk ho H locs hw ls h)
theorem ms_icmp_eq (C : mh_C X R cc ws own nL) {x y : Int32} {off : Int} {tgt : Nat} {A B : Option ρ} (hdg : decode cc pc = .ok (.if_icmp .eq off, 3)) (ht : (pc : Int) + off = (tgt : Int)) (kt : x = y → mw_W X R nL A z Wd tgt L st) (kf : ¬ x = y → mw_W X R nL B z Wd (pc + 3) L st) : mw_W X R nL (if x = y then A else B) z Wd pc L (.int y :: .int x :: st) := fun ho H locs hw ls h => lv_icmp_eq C.1 C.2.1 hdg ht (fun q => kt q (by rw [if_pos q] at ho; exact ho) H locs hw ls h) (fun q => kf q (by rw [if_neg q] at ho; exact ho) H locs hw ls h)
theorem ms_if_eq (C : mh_C X R cc ws own nL) {x : Int32} {off : Int} {tgt : Nat} {A B : Option ρ} (hdg : decode cc pc = .ok (.ifCond .eq off, 3)) (ht : (pc : Int) + off = (tgt : Int)) (kt : x = 0 → mw_W X R nL A z Wd tgt L st) (kf : ¬ x = 0 → mw_W X R nL B z Wd (pc + 3) L st) : mw_W X R nL (if x = 0 then A else B) z Wd pc L (.int x :: st) := fun ho H locs hw ls h => lv_if_eq C.1 C.2.1 hdg ht (fun q => kt q (by rw [if_pos q] at ho; exact ho) H locs hw ls h) (fun q => kf q (by rw [if_neg q] at ho; exact ho) H locs hw ls h)
theorem ms_icmp_ne (C : mh_C X R cc ws own nL) {x y : Int32} {off : Int} {tgt : Nat} {A B : Option ρ} (hdg : decode cc pc = .ok (.if_icmp .ne off, 3)) (ht : (pc : Int) + off = (tgt : Int)) (kt : ¬ x = y → mw_W X R nL A z Wd tgt L st) (kf : x = y → mw_W X R nL B z Wd (pc + 3) L st) : mw_W X R nL (if x = y then B else A) z Wd pc L (.int y :: .int x :: st) := fun ho H locs hw ls h => lv_icmp_ne C.1 C.2.1 hdg ht (fun q => kt q (by rw [if_neg q] at ho; exact ho) H locs hw ls h) (fun q => kf q (by rw [if_pos q] at ho; exact ho) H locs hw ls h)
theorem ms_if_ne (C : mh_C X R cc ws own nL) {x : Int32} {off : Int} {tgt : Nat} {A B : Option ρ} (hdg : decode cc pc = .ok (.ifCond .ne off, 3)) (ht : (pc : Int) + off = (tgt : Int)) (kt : ¬ x = 0 → mw_W X R nL A z Wd tgt L st) (kf : x = 0 → mw_W X R nL B z Wd (pc + 3) L st) : mw_W X R nL (if x = 0 then B else A) z Wd pc L (.int x :: st) := fun ho H locs hw ls h => lv_if_ne C.1 C.2.1 hdg ht (fun q => kt q (by rw [if_neg q] at ho; exact ho) H locs hw ls h) (fun q => kf q (by rw [if_pos q] at ho; exact ho) H locs hw ls h)
theorem ms_icmp_lt (C : mh_C X R cc ws own nL) {x y : Int32} {off : Int} {tgt : Nat} {A B : Option ρ} (hdg : decode cc pc = .ok (.if_icmp .lt off, 3)) (ht : (pc : Int) + off = (tgt : Int)) (kt : x < y → mw_W X R nL A z Wd tgt L st) (kf : ¬ x < y → mw_W X R nL B z Wd (pc + 3) L st) : mw_W X R nL (if x < y then A else B) z Wd pc L (.int y :: .int x :: st) := fun ho H locs hw ls h => lv_icmp_lt C.1 C.2.1 hdg ht (fun q => kt q (by rw [if_pos q] at ho; exact ho) H locs hw ls h) (fun q => kf q (by rw [if_neg q] at ho; exact ho) H locs hw ls h)
theorem ms_if_lt (C : mh_C X R cc ws own nL) {x : Int32} {off : Int} {tgt : Nat} {A B : Option ρ} (hdg : decode cc pc = .ok (.ifCond .lt off, 3)) (ht : (pc : Int) + off = (tgt : Int)) (kt : x < 0 → mw_W X R nL A z Wd tgt L st) (kf : ¬ x < 0 → mw_W X R nL B z Wd (pc + 3) L st) : mw_W X R nL (if x < 0 then A else B) z Wd pc L (.int x :: st) := fun ho H locs hw ls h => lv_if_lt C.1 C.2.1 hdg ht (fun q => kt q (by rw [if_pos q] at ho; exact ho) H locs hw ls h) (fun q => kf q (by rw [if_neg q] at ho; exact ho) H locs hw ls h)
theorem ms_icmp_ge (C : mh_C X R cc ws own nL) {x y : Int32} {off : Int} {tgt : Nat} {A B : Option ρ} (hdg : decode cc pc = .ok (.if_icmp .ge off, 3)) (ht : (pc : Int) + off = (tgt : Int)) (kt : y ≤ x → mw_W X R nL A z Wd tgt L st) (kf : ¬ y ≤ x → mw_W X R nL B z Wd (pc + 3) L st) : mw_W X R nL (if y ≤ x then A else B) z Wd pc L (.int y :: .int x :: st) := fun ho H locs hw ls h => lv_icmp_ge C.1 C.2.1 hdg ht (fun q => kt q (by rw [if_pos q] at ho; exact ho) H locs hw ls h) (fun q => kf q (by rw [if_neg q] at ho; exact ho) H locs hw ls h)
theorem ms_if_ge (C : mh_C X R cc ws own nL) {x : Int32} {off : Int} {tgt : Nat} {A B : Option ρ} (hdg : decode cc pc = .ok (.ifCond .ge off, 3)) (ht : (pc : Int) + off = (tgt : Int)) (kt : 0 ≤ x → mw_W X R nL A z Wd tgt L st) (kf : ¬ 0 ≤ x → mw_W X R nL B z Wd (pc + 3) L st) : mw_W X R nL (if 0 ≤ x then A else B) z Wd pc L (.int x :: st) := fun ho H locs hw ls h => lv_if_ge C.1 C.2.1 hdg ht (fun q => kt q (by rw [if_pos q] at ho; exact ho) H locs hw ls h) (fun q => kf q (by rw [if_neg q] at ho; exact ho) H locs hw ls h)
theorem ms_icmp_gt (C : mh_C X R cc ws own nL) {x y : Int32} {off : Int} {tgt : Nat} {A B : Option ρ} (hdg : decode cc pc = .ok (.if_icmp .gt off, 3)) (ht : (pc : Int) + off = (tgt : Int)) (kt : y < x → mw_W X R nL A z Wd tgt L st) (kf : ¬ y < x → mw_W X R nL B z Wd (pc + 3) L st) : mw_W X R nL (if y < x then A else B) z Wd pc L (.int y :: .int x :: st) := fun ho H locs hw ls h => lv_icmp_gt C.1 C.2.1 hdg ht (fun q => kt q (by rw [if_pos q] at ho; exact ho) H locs hw ls h) (fun q => kf q (by rw [if_neg q] at ho; exact ho) H locs hw ls h)
theorem ms_if_gt (C : mh_C X R cc ws own nL) {x : Int32} {off : Int} {tgt : Nat} {A B : Option ρ} (hdg : decode cc pc = .ok (.ifCond .gt off, 3)) (ht : (pc : Int) + off = (tgt : Int)) (kt : 0 < x → mw_W X R nL A z Wd tgt L st) (kf : ¬ 0 < x → mw_W X R nL B z Wd (pc + 3) L st) : mw_W X R nL (if 0 < x then A else B) z Wd pc L (.int x :: st) := fun ho H locs hw ls h => lv_if_gt C.1 C.2.1 hdg ht (fun q => kt q (by rw [if_pos q] at ho; exact ho) H locs hw ls h) (fun q => kf q (by rw [if_neg q] at ho; exact ho) H locs hw ls h)
theorem ms_icmp_le (C : mh_C X R cc ws own nL) {x y : Int32} {off : Int} {tgt : Nat} {A B : Option ρ} (hdg : decode cc pc = .ok (.if_icmp .le off, 3)) (ht : (pc : Int) + off = (tgt : Int)) (kt : x ≤ y → mw_W X R nL A z Wd tgt L st) (kf : ¬ x ≤ y → mw_W X R nL B z Wd (pc + 3) L st) : mw_W X R nL (if x ≤ y then A else B) z Wd pc L (.int y :: .int x :: st) := fun ho H locs hw ls h => lv_icmp_le C.1 C.2.1 hdg ht (fun q => kt q (by rw [if_pos q] at ho; exact ho) H locs hw ls h) (fun q => kf q (by rw [if_neg q] at ho; exact ho) H locs hw ls h)
theorem ms_if_le (C : mh_C X R cc ws own nL) {x : Int32} {off : Int} {tgt : Nat} {A B : Option ρ} (hdg : decode cc pc = .ok (.ifCond .le off, 3)) (ht : (pc : Int) + off = (tgt : Int)) (kt : x ≤ 0 → mw_W X R nL A z Wd tgt L st) (kf : ¬ x ≤ 0 → mw_W X R nL B z Wd (pc + 3) L st) : mw_W X R nL (if x ≤ 0 then A else B) z Wd pc L (.int x :: st) := fun ho H locs hw ls h => lv_if_le C.1 C.2.1 hdg ht (fun q => kt q (by rw [if_pos q] at ho; exact ho) H locs hw ls h) (fun q => kf q (by rw [if_neg q] at ho; exact ho) H locs hw ls h)
theorem ms_goto (C : mh_C X R cc ws own nL) {off : Int} {tgt : Nat} (hdg : decode cc pc = .ok (.goto off, 3)) (ht : (pc : Int) + off = (tgt : Int)) (kk : mw_W X R nL o z Wd tgt L st) : mw_W X R nL o z Wd pc L st := fun ho H locs hw ls h => lv_goto C.1 C.2.1 hdg ht (kk ho H locs hw ls h)
theorem ms_tableIn (C : mh_C X R cc ws own nL) {dflt lo hi : Int} {offs : Array Int} {len : Nat} {x : Int32} {off : Int} {tgt : Nat} (hdg : decode cc pc = .ok (.tableswitch dflt lo hi offs, len)) (h1 : ¬ x.toInt < lo) (h2 : ¬ hi < x.toInt) (hof : offs[(x.toInt - lo).toNat]? = some off) (ht : (pc : Int) + off = (tgt : Int)) (kk : mw_W X R nL o z Wd tgt L st) : mw_W X R nL o z Wd pc L (.int x :: st) := fun ho H locs hw ls h => lv_tableIn C.1 C.2.1 hdg h1 h2 hof ht (kk ho H locs hw ls h)
theorem ms_tableOut (C : mh_C X R cc ws own nL) {dflt lo hi : Int} {offs : Array Int} {len : Nat} {x : Int32} {tgt : Nat} (hdg : decode cc pc = .ok (.tableswitch dflt lo hi offs, len)) (hx : x.toInt < lo ∨ hi < x.toInt) (ht : (pc : Int) + dflt = (tgt : Int)) (kk : mw_W X R nL o z Wd tgt L st) : mw_W X R nL o z Wd pc L (.int x :: st) := fun ho H locs hw ls h => lv_tableOut C.1 C.2.1 hdg hx ht (kk ho H locs hw ls h)
theorem ms_lookup (C : mh_C X R cc ws own nL) {dflt : Int} {ps : Array (Int × Int)} {len : Nat} {x : Int32} {off : Int} {tgt : Nat} (hdg : decode cc pc = .ok (.lookupswitch dflt ps, len)) (hp : (ps.toList.zip (ps.toList.drop 1)).all (fun (a, next) => a.1 < next.1) = true) (hof : Op.lookupswitch.offset ps.toList dflt x.toInt = off) (ht : (pc : Int) + off = (tgt : Int)) (kk : mw_W X R nL o z Wd tgt L st) : mw_W X R nL o z Wd pc L (.int x :: st) := fun ho H locs hw ls h => lv_lookup C.1 C.2.1 hdg hp hof ht (kk ho H locs hw ls h)
theorem mh_one {G : mh_G} {M : mh_M} {H : Heap} (hP : mh_Pw G M H) {t i : Nat} {sh : mh_E} (hz : mh_Z G t i = some sh) : va_P G.1 vwCl [(G.2.2 t i, mh_e sh (M t i))] H := fun k q hk => by
  have hz0 : k < 1 := (List.getElem?_eq_some_iff.mp hk).1
  rw [show k = 0 by omega] at hk
  cases hk
  exact hP t i sh hz
theorem ms_getr (C : mh_C X R cc ws own nL) {t i ci N k index b : Nat} {r : Nat → Option Nat} {Cn : String} {T : u_T} (hdg : decode cc pc = .ok (.getfield index, 3)) (hz : mh_Z (xg X) t i = some (.inl (ci, N, r))) (hk : k < N) (hr : r k = some b) (hc : vwCl[ci]? = some (Cn, T, N)) (hin : ∀ w ∈ u_ws Cn T N, w ∈ ws) (href : (T k).1 = Cn) (hlink : Cond.fieldLink own index Cn (T k).2.1 (T k).2.2.1 ∈ ws) (kk : mh_W X R nL o z M (pc + 3) L (.ref b :: st)) : mh_W X R nL o z M pc L (.ref (xad X t i) :: st) := fun ho H locs ⟨hP, hS⟩ ls h =>
  va_get (ref := Cn) C.1 C.2.1 C.2.2.1 hin C.2.2.2.1 C.2.2.2.2.2.1 (mh_one hP hz) 0 rfl hc k hk (C.2.2.1 _ hlink) (fun x q => by rw [href] at q; exact q) (v := .ref b) (by rw [mh_e_get (ci := 0) hk]; simp only [mh_f, hr]) hdg (kk ho H locs ⟨hP, hS⟩ ls h)
theorem ms_geti (C : mh_C X R cc ws own nL) {t i ci N k index : Nat} {r : Nat → Option Nat} {Cn : String} {T : u_T} {K : Int32 → Option ρ} (hdg : decode cc pc = .ok (.getfield index, 3)) (hz : mh_Z (xg X) t i = some (.inl (ci, N, r))) (hk : k < N) (hr : r k = none) (hc : vwCl[ci]? = some (Cn, T, N)) (hin : ∀ w ∈ u_ws Cn T N, w ∈ ws) (href : (T k).1 = Cn) (hlink : Cond.fieldLink own index Cn (T k).2.1 (T k).2.2.1 ∈ ws) (kk : ∀ v : Int32, mh_W X R nL (K v) z M (pc + 3) L (.int v :: st)) : mh_W X R nL (pl (M t i k) K) z M pc L (.ref (xad X t i) :: st) := fun ho H locs ⟨hP, hS⟩ ls h =>
  va_get (ref := Cn) C.1 C.2.1 C.2.2.1 hin C.2.2.2.1 C.2.2.2.2.2.1 (mh_one hP hz) 0 rfl hc k hk (C.2.2.1 _ hlink) (fun x q => by rw [href] at q; exact q) (v := .int (M t i k)) (by rw [mh_e_get (ci := 0) hk]; simp only [mh_f, hr]) hdg (kk _ ho H locs ⟨hP, hS⟩ ls h)
theorem ms_puti (C : mh_C X R cc ws own nL) {t i ci N k index : Nat} {r : Nat → Option Nat} {Cn : String} {T : u_T} {v : Int32} {K : mh_M → Option ρ} (hdg : decode cc pc = .ok (.putfield index, 3)) (ty0 : Nat → FieldType) (hty : ∀ k, k < N → parseFieldDescriptor (T k).2.2.1 = some (ty0 k)) (hnm : ∀ a, a < N → ∀ b, b < N → a ≠ b → (T a).2.1 ≠ (T b).2.1) (hz : mh_Z (xg X) t i = some (.inl (ci, N, r))) (hk : k < N) (hr : r k = none) (hc : vwCl[ci]? = some (Cn, T, N)) (hin : ∀ w ∈ u_ws Cn T N, w ∈ ws) (href : (T k).1 = Cn) (hlink : Cond.fieldLink own index Cn (T k).2.1 (T k).2.2.1 ∈ ws) (hfin : (T k).2.2.2 = false) (hd : parseFieldDescriptor (T k).2.2.1 = some .int) (kk : ∀ M1 : mh_M, mh_W X R nL (K M1) z M1 (pc + 3) L st) : mh_W X R nL (pl (mh_up M t i k v) K) z M pc L (.int v :: .ref (xad X t i) :: st) := fun ho H locs ⟨hP, hS⟩ ls h => by
  have hex := C.1
  have hb := C.2.1
  have hts := C.2.2.1
  have hown := C.2.2.2.1
  have hG := C.2.2.2.2.1
  have hK := C.2.2.2.2.2.1
  have hap := va_apart (own := own) hts hin ty0 hty hnm hK hc
  obtain ⟨rr, h1, cell, q1, q2, q3, q4⟩ := hP t i _ hz
  have hrr : rr = (Cn, T, N) := Option.some.inj (h1.symm.trans hc)
  subst hrr
  obtain ⟨hSl, hfc, kC, hkC, hkind⟩ := hK.1 ci _ hc
  obtain ⟨cf, kf, fi, f, hi, hsl⟩ := hSl k hk
  have hlay := hts _ (hin _ (u_in_lay hk))
  unfold u_lay at hlay
  rw [if_neg (by rw [hfin]; decide)] at hlay
  have hst := (u_facts hfc hkC (u_lays hts hin hk) hi).1
  have h6 := u_store hfc hkC hkind hlay hi hd (show narrow .int (.int v) = .int v from rfl) (show fits .int (.int v) = true from rfl)
  have hsame : ∀ x, (xs X).fieldFound? (T k).1 (T k).2.1 (T k).2.2.1 = some x → (xs X).fieldFound? Cn (T k).2.1 (T k).2.2.1 = some x := fun x q => by rw [href] at q; exact q
  refine W.putK hex hb (f := f) ⟨hown, hts _ hlink, ⟨_, _, _, hsame _ hi⟩, hst⟩ (by rw [q2]; exact h6) q1 q3 (by rw [hsl]; exact k2_hasslot (q4 k hk)) rfl rfl hdg fun H' e1 e2 e3 => ?_
  rw [hsl] at e1 ⊢
  have hl9 : k < ((List.range N).map (mh_f r (M t i))).length := by simpa using hk
  refine kk _ ho H' _ ⟨mh_Pw_put hG hP hz ?_ e3, hS.put e2 e3 ⟨t, i, _, hz, rfl⟩⟩ ls h
  show va_at (xg X).1 vwCl ((xg X).2.2 t i, .inr (ci, (List.range N).map (mh_f r (upd (M t i) k v)))) H'
  rw [← mh_e_set hk hr]
  exact ⟨_, hc, t_OB.to (V := updV (vp_V ((List.range N).map (mh_f r (M t i)))) k (.int v)) ⟨_, e1, q2, q3, t_set q4 hap hk (.int v)⟩ (fun j _ => vp_updV_set hl9 (.int v) j)⟩
theorem ms_ld (C : mh_C X R cc ws own nL) {t i n q0 : Nat} {j : Int32} {K : Int32 → Option ρ} (hdg : decode cc pc = .ok (.iaload, 1)) (hz : mh_Z (xg X) t i = some (.inr (.inl ((xg X).2.1 q0, n)))) (ht : (mh_tys (xg X))[q0]? = some ((xg X).2.1 q0, .int)) (kk : inb j n = true → ∀ v : Int32, mh_W X R nL (K v) z M (pc + 1) L (.int v :: st)) : mh_W X R nL (ck (inb j n) (pl (M t i j.toNatClampNeg) K)) z M pc L (.int j :: .ref (xad X t i) :: st) := by
  cases hb : inb j n with
  | false => exact ms_none
  | true => exact fun ho H locs ⟨hP, hS⟩ ls h => va_iald C.1 C.2.1 C.2.2.2.2.2.1 (mh_one hP hz) 0 q0 rfl ht (inb_in hb) hdg (kk hb _ ho H locs ⟨hP, hS⟩ ls h)
theorem ms_zld (C : mh_C X R cc ws own nL) {t i n q0 : Nat} {j : Int32} {K : Int32 → Option ρ} (hdg : decode cc pc = .ok (.baload, 1)) (hz : mh_Z (xg X) t i = some (.inr (.inl ((xg X).2.1 q0, n)))) (ht : (mh_tys (xg X))[q0]? = some ((xg X).2.1 q0, .boolean)) (kk : inb j n = true → ∀ v : Int32, mh_W X R nL (K v) z M (pc + 1) L (.int v :: st)) : mh_W X R nL (ck (inb j n) (pl (M t i j.toNatClampNeg) K)) z M pc L (.int j :: .ref (xad X t i) :: st) := by
  cases hb : inb j n with
  | false => exact ms_none
  | true => exact fun ho H locs ⟨hP, hS⟩ ls h => va_zald C.1 C.2.1 C.2.2.2.2.2.1 (mh_one hP hz) 0 q0 rfl ht (inb_in hb) hdg (kk hb _ ho H locs ⟨hP, hS⟩ ls h)
theorem ms_st (C : mh_C X R cc ws own nL) {t i n q0 : Nat} {j x : Int32} {K : mh_M → Option ρ} (hdg : decode cc pc = .ok (.iastore, 1)) (hz : mh_Z (xg X) t i = some (.inr (.inl ((xg X).2.1 q0, n)))) (ht : (mh_tys (xg X))[q0]? = some ((xg X).2.1 q0, .int)) (kk : inb j n = true → ∀ M1 : mh_M, mh_W X R nL (K M1) z M1 (pc + 1) L st) : mh_W X R nL (ck (inb j n) (pl (mh_up M t i j.toNatClampNeg x) K)) z M pc L (.int x :: .int j :: .ref (xad X t i) :: st) := by
  cases hb : inb j n with
  | false => exact ms_none
  | true =>
    intro ho H locs ⟨hP, hS⟩ ls h
    refine W.iast C.1 C.2.1 (hP t i _ hz) ((C.2.2.2.2.2.1.2 q0 _ ht).1 n (fun j => .int (M t i j))) (fun q => by cases q) (by show ¬ (j < 0 ∨ (arrV _ _ _).slots.size ≤ _); rw [arrV_size]; exact inb_in hb) rfl rfl hdg fun H1 e zz oq => ?_
    refine kk hb _ ho H1 _ ⟨mh_Pw_put C.2.2.2.2.1 hP hz ?_ oq, hS.put zz oq ⟨t, i, _, hz, rfl⟩⟩ ls h
    show H1[(xg X).2.2 t i]? = some (vp_cell _ _)
    rw [e]
    show some ((vp_cell ((xg X).2.1 q0) (n, .inl (M t i))).setSlot _ _) = some (vp_cell ((xg X).2.1 q0) (n, .inl (upd (M t i) j.toNatClampNeg x)))
    rw [vp_cell_i, vp_cell_i, arrV_store]
    congr 2
    funext q
    by_cases hq : q = j.toNatClampNeg
    · subst hq
      simp [updV, upd]
    · simp [updV, upd, hq]
theorem ms_zst (C : mh_C X R cc ws own nL) {t i n q0 : Nat} {j x : Int32} {K : mh_M → Option ρ} (hdg : decode cc pc = .ok (.bastore, 1)) (hz : mh_Z (xg X) t i = some (.inr (.inl ((xg X).2.1 q0, n)))) (ht : (mh_tys (xg X))[q0]? = some ((xg X).2.1 q0, .boolean)) (kk : inb j n = true → ∀ M1 : mh_M, mh_W X R nL (K M1) z M1 (pc + 1) L st) : mh_W X R nL (ck (inb j n) (pl (mh_up M t i j.toNatClampNeg (vp_nar .boolean x)) K)) z M pc L (.int x :: .int j :: .ref (xad X t i) :: st) := by
  cases hb : inb j n with
  | false => exact ms_none
  | true =>
    intro ho H locs ⟨hP, hS⟩ ls h
    refine W.zast C.1 C.2.1 (hP t i _ hz) ((C.2.2.2.2.2.1.2 q0 _ ht).1 n (fun j => .int (M t i j))) (fun q => by cases q) (by show ¬ (j < 0 ∨ (arrV _ _ _).slots.size ≤ _); rw [arrV_size]; exact inb_in hb) rfl rfl hdg fun H1 e zz oq => ?_
    refine kk hb _ ho H1 _ ⟨mh_Pw_put C.2.2.2.2.1 hP hz ?_ oq, hS.put zz oq ⟨t, i, _, hz, rfl⟩⟩ ls h
    show H1[(xg X).2.2 t i]? = some (vp_cell _ _)
    rw [e]
    show some ((vp_cell ((xg X).2.1 q0) (n, .inl (M t i))).setSlot _ _) = some (vp_cell ((xg X).2.1 q0) (n, .inl (upd (M t i) j.toNatClampNeg (vp_nar .boolean x))))
    rw [vp_cell_i, vp_cell_i, arrV_store]
    congr 2
    funext q
    by_cases hq : q = j.toNatClampNeg
    · subst hq
      simp [updV, upd, vp_nar]
      try rfl
    · simp [updV, upd, hq]
theorem ms_ald (C : mh_C X R cc ws own nL) {t t2 i n q0 : Nat} {ty : FieldType} {j : Int32} {K : Nat → Option ρ} (hdg : decode cc pc = .ok (.aaload, 1)) (hz : mh_Z (xg X) t i = some (.inr (.inr ((xg X).2.1 q0, n, (xg X).2.2 t2)))) (ht : (mh_tys (xg X))[q0]? = some ((xg X).2.1 q0, ty)) (hty : ty.isReference = true) (kk : ∀ q : Nat, q < n → mh_W X R nL (K q) z M (pc + 1) L (.ref (xad X t2 q) :: st)) : mh_W X R nL (ck (inb j n) (pl j.toNatClampNeg K)) z M pc L (.int j :: .ref (xad X t i) :: st) := by
  cases hb : inb j n with
  | false => exact ms_none
  | true =>
    intro ho H locs ⟨hP, hS⟩ ls h
    have hlt := inb_lt hb
    exact W.aald (v := .ref ((xg X).2.2 t2 j.toNatClampNeg)) (ty := ty) C.1 C.2.1 (hP t i _ hz) ((C.2.2.2.2.2.1.2 q0 _ ht).1 n (fun j => va_rf (some ((xg X).2.2 t2 j)))) hty (fun q => by cases q) (by show ¬ (j < 0 ∨ (arrV _ _ _).slots.size ≤ _); rw [arrV_size]; exact inb_in hb) (by show (arrV _ _ _).slots[_]? = _; rw [arrV_read _ _ hlt]; rfl) rfl rfl hdg (kk _ hlt ho H locs ⟨hP, hS⟩ ls h)
theorem ms_alen (C : mh_C X R cc ws own nL) {t i n q0 : Nat} {ty : FieldType} {v : Int32} (hdg : decode cc pc = .ok (.arraylength, 1)) (hz : mh_Z (xg X) t i = some (.inr (.inl ((xg X).2.1 q0, n)))) (ht : (mh_tys (xg X))[q0]? = some ((xg X).2.1 q0, ty)) (hv : Int32.ofNat n = v) (kk : mh_W X R nL o z M (pc + 1) L (.int v :: st)) : mh_W X R nL o z M pc L (.ref (xad X t i) :: st) := fun ho H locs ⟨hP, hS⟩ ls h =>
  va_alen C.1 C.2.1 C.2.2.2.2.2.1 (mh_one hP hz) 0 q0 rfl ht hv hdg (kk ho H locs ⟨hP, hS⟩ ls h)
theorem ms_mmax (C : mh_C X R cc ws own nL) {x y : Int32} {index : Nat} {K : Int32 → Option ρ} (hdg : decode cc pc = .ok (.invokestatic index, 3)) (h1 : Cond.methodLink own index Lib.Math.max.name ∈ ws) (h2 : Cond.static Lib.Math.max.name ∈ ws) (h3 : Cond.initialized "java/lang/Math" ∈ ws) (h4 : Cond.code Lib.Math.max.name Lib.Math.max.code 2 (some .int) ∈ ws) (h5 : 1 ≤ R.frames) (h6 : (st.map fun v => v.category).sum + 13 ≤ R.locals) (kk : ∀ v : Int32, mh_W X R nL (K v) z M (pc + 3) L (.int v :: st)) : mh_W X R nL (pl (if x < y then y else x) K) z M pc L (.int y :: .int x :: st) := fun ho H locs ⟨hP, hS⟩ ls h => va_mmax C.1 C.2.1 (by rw [C.2.2.2.2.2.2.1, h.1]) C.2.2.2.1 (C.2.2.1 _ h1) (C.2.2.1 _ h2) (C.2.2.1 _ h3) (C.2.2.1 _ h4) h5 h6 C.2.2.2.2.2.2.2.1 C.2.2.2.2.2.2.2.2 hdg (kk _ ho H locs ⟨hP, hS⟩ ls h)
theorem ms_mmin (C : mh_C X R cc ws own nL) {x y : Int32} {index : Nat} {K : Int32 → Option ρ} (hdg : decode cc pc = .ok (.invokestatic index, 3)) (h1 : Cond.methodLink own index Lib.Math.min.name ∈ ws) (h2 : Cond.static Lib.Math.min.name ∈ ws) (h3 : Cond.initialized "java/lang/Math" ∈ ws) (h4 : Cond.code Lib.Math.min.name Lib.Math.min.code 2 (some .int) ∈ ws) (h5 : 1 ≤ R.frames) (h6 : (st.map fun v => v.category).sum + 13 ≤ R.locals) (kk : ∀ v : Int32, mh_W X R nL (K v) z M (pc + 3) L (.int v :: st)) : mh_W X R nL (pl (if y < x then y else x) K) z M pc L (.int y :: .int x :: st) := fun ho H locs ⟨hP, hS⟩ ls h => va_mmin C.1 C.2.1 (by rw [C.2.2.2.2.2.2.1, h.1]) C.2.2.2.1 (C.2.2.1 _ h1) (C.2.2.1 _ h2) (C.2.2.1 _ h3) (C.2.2.1 _ h4) h5 h6 C.2.2.2.2.2.2.2.1 C.2.2.2.2.2.2.2.2 hdg (kk _ ho H locs ⟨hP, hS⟩ ls h)
theorem ms_mabs (C : mh_C X R cc ws own nL) {x : Int32} {index : Nat} {K : Int32 → Option ρ} (hdg : decode cc pc = .ok (.invokestatic index, 3)) (h1 : Cond.methodLink own index Lib.Math.abs.name ∈ ws) (h2 : Cond.static Lib.Math.abs.name ∈ ws) (h3 : Cond.initialized "java/lang/Math" ∈ ws) (h4 : Cond.code Lib.Math.abs.name Lib.Math.abs.code 1 (some .int) ∈ ws) (h5 : 1 ≤ R.frames) (h6 : (st.map fun v => v.category).sum + 13 ≤ R.locals) (kk : ∀ v : Int32, mh_W X R nL (K v) z M (pc + 3) L (.int v :: st)) : mh_W X R nL (pl (if 0 ≤ x then x else 0 - x) K) z M pc L (.int x :: st) := fun ho H locs ⟨hP, hS⟩ ls h => va_mabs C.1 C.2.1 (by rw [C.2.2.2.2.2.2.1, h.1]) C.2.2.2.1 (C.2.2.1 _ h1) (C.2.2.1 _ h2) (C.2.2.1 _ h3) (C.2.2.1 _ h4) h5 h6 C.2.2.2.2.2.2.2.1 C.2.2.2.2.2.2.2.2 hdg (kk _ ho H locs ⟨hP, hS⟩ ls h)
theorem ms_mabsl (C : mh_C X R cc ws own nL) {x : Int64} {index : Nat} {K : Int64 → Option ρ} (hdg : decode cc pc = .ok (.invokestatic index, 3)) (h1 : Cond.methodLink own index Lib.MathLoose.abs_long.x ∈ ws) (h2 : Cond.static Lib.MathLoose.abs_long.x ∈ ws) (h3 : Cond.initialized "java/lang/Math" ∈ ws) (h4 : Cond.code Lib.MathLoose.abs_long.x Lib.MathLoose.abs_long.code 2 (some .long) ∈ ws) (h5 : 1 ≤ R.frames) (h6 : (st.map fun v => v.category).sum + 13 ≤ R.locals) (kk : ∀ v : Int64, mh_W X R nL (K v) z M (pc + 3) L (.long v :: st)) : mh_W X R nL (pl (if 0 < x then x else -x) K) z M pc L (.long x :: st) := fun ho H locs ⟨hP, hS⟩ ls h => va_mabs_long C.1 C.2.1 (by rw [C.2.2.2.2.2.2.1, h.1]) C.2.2.2.1 (C.2.2.1 _ h1) (C.2.2.1 _ h2) (C.2.2.1 _ h3) (C.2.2.1 _ h4) h5 h6 C.2.2.2.2.2.2.2.1 C.2.2.2.2.2.2.2.2 hdg (kk _ ho H locs ⟨hP, hS⟩ ls h)
/-- a contract: from a world with memory M and these arguments; to a world with memory M1 and this answer -/
def mh_Pc (G : mh_G) (M : mh_M) (As : List Value) : Array Value → State → Prop := va_Pc As (mh_B G M)
def mh_Q (G : mh_G) (M1 : mh_M) (v : Option Value) : Array Value → State → Outcome → State → Prop := fun _ st oc t => oc = .returned v ∧ mh_Pw G M1 t.heap ∧ va_F (mh_dom G) st t
theorem mh_Pc_blind (G : mh_G) (M : mh_M) (As : List Value) : FrameBlind (mh_Pc G M As) := fun a U g mk q => by
  obtain ⟨q0, q1, q2, q3⟩ := q
  exact ⟨q0, q1, q2, va_K.moved (u := U) (U := U.calling g mk a) (Vm.Alike.refl U.vm) q3⟩
/-- what a method's end needs -/
def mh_R (X : mh_X) (ret : Option FieldType) (Mz : mh_M) (vz : Option Value) : Prop := (xt X).sig.returnType = ret ∧ (xt X).locks = false ∧ xq X = MQ (xb X) (mh_Q (xg X) Mz vz) (xa X) (xs X) (xk X) (xn X) (mh_dom (xg X))
theorem mh_F {G : mh_G} {s t : State} {H : Heap} {locs : List Loc} (h : va_S (mh_dom G) s.heap H locs) (ht : t.heap = H) : va_F (mh_dom G) s t := h.F ht
theorem ms_ireti (C : mh_C X R cc ws own nL) {M1 : mh_M} {v : Int32} {ty : FieldType} {z : Int32} (hR : mh_R X (some ty) M1 (some (.int z))) (hM : M = M1) (hn : narrow ty (.int v) = .int v) (hdg : decode cc pc = .ok (.ireturn, 1)) : mh_W X R nL (some v) z M pc L [.int v] := by
  intro ho H locs ⟨hP, hS⟩ ls h
  cases ho
  subst hM
  rw [hR.2.2]
  exact W.zret C.1 C.2.1 hR.1 hn (fun t ht hW => ⟨rfl, by rw [ht]; exact hP, hS.F ht⟩) hS.2.2 hdg hR.2.1
theorem ms_iretm (C : mh_C X R cc ws own nL) {v : Int32} {ty : FieldType} {z : mh_M × Int32} (hR : mh_R X (some ty) z.1 (some (.int z.2))) (hn : narrow ty (.int v) = .int v) (hdg : decode cc pc = .ok (.ireturn, 1)) : mh_W X R nL (some (M, v)) z M pc L [.int v] := by
  intro ho H locs ⟨hP, hS⟩ ls h
  cases ho
  rw [hR.2.2]
  exact W.zret C.1 C.2.1 hR.1 hn (fun t ht hW => ⟨rfl, by rw [ht]; exact hP, hS.F ht⟩) hS.2.2 hdg hR.2.1
theorem ms_lreti (C : mh_C X R cc ws own nL) {M1 : mh_M} {v : Int64} {z : Int64} (hR : mh_R X (some .long) M1 (some (.long z))) (hM : M = M1) (hdg : decode cc pc = .ok (.lreturn, 1)) : mh_W X R nL (some v) z M pc L [.long v] := by
  intro ho H locs ⟨hP, hS⟩ ls h
  cases ho
  subst hM
  rw [hR.2.2]
  exact W.lret C.1 C.2.1 hR.1 (fun t ht hW => ⟨rfl, by rw [ht]; exact hP, hS.F ht⟩) hS.2.2 hdg hR.2.1
theorem ms_vretm (C : mh_C X R cc ws own nL) {z : mh_M} (hR : mh_R X none z none) (hdg : decode cc pc = .ok (.return_, 1)) : mh_W X R nL (some M) z M pc L [] := by
  intro ho H locs ⟨hP, hS⟩ ls h
  cases ho
  rw [hR.2.2]
  exact W.vret C.1 C.2.1 hR.1 (fun t ht hW => ⟨rfl, by rw [ht]; exact hP, hS.F ht⟩) hS.2.2 hdg hR.2.1
theorem ms_areti (C : mh_C X R cc ws own nL) {M1 : mh_M} {t v : Nat} {cn : String} {z : Nat} (hR : mh_R X (some (.object cn)) M1 (some (.ref (xad X t z)))) (hM : M = M1) (hdg : decode cc pc = .ok (.areturn, 1)) : mh_W X R nL (some v) z M pc L [.ref (xad X t v)] := by
  intro ho H locs ⟨hP, hS⟩ ls h
  cases ho
  subst hM
  rw [hR.2.2]
  exact W.aret C.1 C.2.1 hR.1 (Or.inl ⟨_, rfl⟩) (Or.inr ⟨_, rfl⟩) (fun t ht hW => ⟨rfl, by rw [ht]; exact hP, hS.F ht⟩) hS.2.2 hdg hR.2.1
theorem ms_aretm (C : mh_C X R cc ws own nL) {t v : Nat} {cn : String} {z : mh_M × Nat} (hR : mh_R X (some (.object cn)) z.1 (some (.ref (xad X t z.2)))) (hdg : decode cc pc = .ok (.areturn, 1)) : mh_W X R nL (some (M, v)) z M pc L [.ref (xad X t v)] := by
  intro ho H locs ⟨hP, hS⟩ ls h
  cases ho
  rw [hR.2.2]
  exact W.aret C.1 C.2.1 hR.1 (Or.inl ⟨_, rfl⟩) (Or.inr ⟨_, rfl⟩) (fun t ht hW => ⟨rfl, by rw [ht]; exact hP, hS.F ht⟩) hS.2.2 hdg hR.2.1
/-- a method's contract out of its walk -/
theorem mh_met {l : Launch} {y : MethodName} {ws ws' : List Cond} {rm : Room} {cc : ByteArray} {maxL : Nat} {ret : Option FieldType} {G : mh_G} {M Mz : mh_M} {vz : Option Value} {args : List Value} {o : Option ρ} {z : ρ} (hy : plainName y.cls = true) (hw : ws = Cond.code y cc maxL ret :: ws') (hlen : (lg_sl args).length ≤ maxL) (ho : o = some z)
    (body : ∀ X : mh_X, xl X = l → xg X = G → mh_C X rm cc ws y.cls maxL → mh_R X ret Mz vz → mh_W X rm maxL o z M 0 (lv_args 0 args) []) : Met l y ws rm (mh_Pc G M args) (mh_Q G Mz vz) 0 0 (mh_dom G) := by
  refine Met.ofW (cc := cc) (maxL := maxL) (ret := ret) hy hw ?_
  intro p e s m args0 below meth c s₁ B hml hv
  obtain ⟨rfl, hG, hP, hK⟩ := hv
  have hts := atoms_spec (ws := ws) B.pre
  rw [lg_entry_eq]
  exact body (p, l, e, s, m, args.toArray, below, meth, c, 0, 0, MQ below (mh_Q G Mz vz) args.toArray s 0 0 (mh_dom G), G) rfl rfl ⟨B.exec, B.bytes, hts, findClass_of_methodNamed B.named, hG, hK, hml, Nat.zero_le _, Nat.zero_le _⟩ ⟨B.returns, B.notSynchronized, rfl⟩ ho s.heap [] ⟨hP, va_S.rf⟩ _ (lv_entry args hlen)
/-- behind a call -/
theorem ms_call {ρ1 : Type} {fo : Option ρ1} {K : ρ1 → Option ρ} {mo : ρ1 → mh_M} {vo : ρ1 → Option Value} {rest st0 : List Value} {a : Array Value}
    (hr : ∀ z1, fo = some z1 → ∀ (H : Heap) (locs : List Loc), mh_Pw (xg X) M H → va_S (mh_dom (xg X)) (xs X).heap H locs → ∀ ls : Array Slot, lv_has ls nL L → va_Run (xp X) (xl X) (xe X) R (xs X) (xm X) (xa X) (xb X) (xt X) (xc X) H locs (xk X) (xn X) 0 0 (F0 (xm X) pc ls st0) rest (mh_Q (xg X) (mo z1) (vo z1) a) (mh_dom (xg X)))
    (kk : ∀ z1 : ρ1, mh_W X R nL (K z1) z (mo z1) (pc + 3) L ((vo z1).toList ++ rest)) : mh_W X R nL (bd fo K) z M pc L st0 := by
  cases hfo : fo with
  | none => exact ms_none
  | some z1 =>
    intro ho H locs ⟨hP, hS⟩ ls h T hT XX
    obtain ⟨v, st₀, t, T', L', h0, X', hL, e1, e2, ⟨hv, hp, hz, hk⟩, stp⟩ := hr z1 hfo H locs hP hS ls h T hT XX
    cases hv
    rw [h0] at hz hk
    obtain ⟨t2, a1, b1⟩ := kk z1 ho T'.heap (locs ++ L') ⟨by rw [e1]; exact hp, ⟨Nat.le_trans hS.1 (by rw [e1]; exact hz), fun q h1 h2 => by rw [e1, hk q (Nat.lt_of_lt_of_le h1 hS.1) h2]; exact hS.2.1 q h1 h2, fun q hq => by
      rcases List.mem_append.mp hq with g | g
      · exact hS.2.2 q g
      · exact hL q g⟩⟩ ls h T' rfl X'
    exact ⟨t2, stp t2 a1, b1⟩
theorem ms_callV (C : mh_C X R cc ws own nL) {ρ1 : Type} {fo : Option ρ1} {K : ρ1 → Option ρ} {mo : ρ1 → mh_M} {vo : ρ1 → Option Value} {rest As : List Value} {y : MethodName} {wsy : List Cond} {rm : Room} {Cn : String} {index maxL n t i ci N : Nat} {bytes : ByteArray} {ret : Option FieldType} {r : Nat → Option Nat} {T : u_T}
    (hdg : decode cc pc = .ok (.invokevirtual index, 3)) (hM : ∀ z1, fo = some z1 → Met (xl X) y wsy rm (mh_Pc (xg X) M (.ref (xad X t i) :: As)) (mh_Q (xg X) (mo z1) (vo z1)) 0 0 (mh_dom (xg X)))
    (cw : CallW R (xs X) (xa X) own Cn index y bytes maxL ret wsy rm 0 0 n) (hz : mh_Z (xg X) t i = some (.inl (ci, N, r))) (hc : vwCl[ci]? = some (Cn, T, N)) (hn : As.length = n) (hst : (rest.map fun v => v.category).sum ≤ 8) (hs0 : st = As.reverse ++ .ref (xad X t i) :: rest)
    (kk : ∀ z1 : ρ1, mh_W X R nL (K z1) z (mo z1) (pc + 3) L ((vo z1).toList ++ rest)) : mh_W X R nL (bd fo K) z M pc L st := by
  refine ms_call (a := (Value.ref (xad X t i) :: As).toArray) (fun z1 hf H locs hP hS ls h => ?_) kk
  exact va_runV (As := As) (rest := rest) (b := xad X t i) ⟨C.1, C.2.1, C.2.2.2.2.2.2.1, C.2.2.2.1, C.2.2.1⟩ (hM z1 hf) cw ⟨mh_Pc_blind _ _ _, va_recv C.2.2.2.2.2.1 (mh_one hP hz) (ci := ci) (q0 := 0) hc rfl, fun U hU hW => ⟨rfl, C.2.2.2.2.1, by rw [hU]; exact hP, va_K.moved hW.alike C.2.2.2.2.2.1⟩⟩ rfl hn h.1 hs0 (lv_room hst) hdg ⟨C.2.2.2.2.2.2.2.1, C.2.2.2.2.2.2.2.2⟩
theorem ms_callS (C : mh_C X R cc ws own nL) {ρ1 : Type} {fo : Option ρ1} {K : ρ1 → Option ρ} {mo : ρ1 → mh_M} {vo : ρ1 → Option Value} {rest As : List Value} {y : MethodName} {wsy : List Cond} {rm : Room} {index maxL n : Nat} {bytes : ByteArray} {ret : Option FieldType}
    (hdg : decode cc pc = .ok (.invokestatic index, 3)) (hM : ∀ z1, fo = some z1 → Met (xl X) y wsy rm (mh_Pc (xg X) M As) (mh_Q (xg X) (mo z1) (vo z1)) 0 0 (mh_dom (xg X)))
    (cw : CallB R (xs X) (xa X) own index y bytes maxL ret wsy rm 0 0 n ∧ (Cond.static y).before (xa X) (xs X) = true) (hn : As.length = n) (hst : (rest.map fun v => v.category).sum ≤ 8) (hs0 : st = As.reverse ++ rest)
    (kk : ∀ z1 : ρ1, mh_W X R nL (K z1) z (mo z1) (pc + 3) L ((vo z1).toList ++ rest)) : mh_W X R nL (bd fo K) z M pc L st := by
  refine ms_call (a := As.toArray) (fun z1 hf H locs hP hS ls h => ?_) kk
  exact va_runS (As := As) (rest := rest) ⟨C.1, C.2.1, C.2.2.2.2.2.2.1, C.2.2.2.1, C.2.2.1⟩ (hM z1 hf) cw ⟨mh_Pc_blind _ _ _, fun U hU hW => ⟨rfl, C.2.2.2.2.1, by rw [hU]; exact hP, va_K.moved hW.alike C.2.2.2.2.2.1⟩⟩ rfl hn h.1 hs0 (lv_room hst) hdg ⟨C.2.2.2.2.2.2.2.1, C.2.2.2.2.2.2.2.2⟩
end MS
def itr1 {A1 α : Type} (f : (A1 → Option α) → A1 → Option α) : Nat → A1 → Option α
  | 0 => fun _ => none
  | k + 1 => f (itr1 f k)
def itr2 {A1 A2 α : Type} (f : (A1 → A2 → Option α) → A1 → A2 → Option α) : Nat → A1 → A2 → Option α
  | 0 => fun _ _ => none
  | k + 1 => f (itr2 f k)
def itr3 {A1 A2 A3 α : Type} (f : (A1 → A2 → A3 → Option α) → A1 → A2 → A3 → Option α) : Nat → A1 → A2 → A3 → Option α
  | 0 => fun _ _ _ => none
  | k + 1 => f (itr3 f k)
def itr4 {A1 A2 A3 A4 α : Type} (f : (A1 → A2 → A3 → A4 → Option α) → A1 → A2 → A3 → A4 → Option α) : Nat → A1 → A2 → A3 → A4 → Option α
  | 0 => fun _ _ _ _ => none
  | k + 1 => f (itr4 f k)
def itr5 {A1 A2 A3 A4 A5 α : Type} (f : (A1 → A2 → A3 → A4 → A5 → Option α) → A1 → A2 → A3 → A4 → A5 → Option α) : Nat → A1 → A2 → A3 → A4 → A5 → Option α
  | 0 => fun _ _ _ _ _ => none
  | k + 1 => f (itr5 f k)
def itr6 {A1 A2 A3 A4 A5 A6 α : Type} (f : (A1 → A2 → A3 → A4 → A5 → A6 → Option α) → A1 → A2 → A3 → A4 → A5 → A6 → Option α) : Nat → A1 → A2 → A3 → A4 → A5 → A6 → Option α
  | 0 => fun _ _ _ _ _ _ => none
  | k + 1 => f (itr6 f k)
def itr7 {A1 A2 A3 A4 A5 A6 A7 α : Type} (f : (A1 → A2 → A3 → A4 → A5 → A6 → A7 → Option α) → A1 → A2 → A3 → A4 → A5 → A6 → A7 → Option α) : Nat → A1 → A2 → A3 → A4 → A5 → A6 → A7 → Option α
  | 0 => fun _ _ _ _ _ _ _ => none
  | k + 1 => f (itr7 f k)
def itr8 {A1 A2 A3 A4 A5 A6 A7 A8 α : Type} (f : (A1 → A2 → A3 → A4 → A5 → A6 → A7 → A8 → Option α) → A1 → A2 → A3 → A4 → A5 → A6 → A7 → A8 → Option α) : Nat → A1 → A2 → A3 → A4 → A5 → A6 → A7 → A8 → Option α
  | 0 => fun _ _ _ _ _ _ _ _ => none
  | k + 1 => f (itr8 f k)
def itr9 {A1 A2 A3 A4 A5 A6 A7 A8 A9 α : Type} (f : (A1 → A2 → A3 → A4 → A5 → A6 → A7 → A8 → A9 → Option α) → A1 → A2 → A3 → A4 → A5 → A6 → A7 → A8 → A9 → Option α) : Nat → A1 → A2 → A3 → A4 → A5 → A6 → A7 → A8 → A9 → Option α
  | 0 => fun _ _ _ _ _ _ _ _ _ => none
  | k + 1 => f (itr9 f k)
def itr10 {A1 A2 A3 A4 A5 A6 A7 A8 A9 A10 α : Type} (f : (A1 → A2 → A3 → A4 → A5 → A6 → A7 → A8 → A9 → A10 → Option α) → A1 → A2 → A3 → A4 → A5 → A6 → A7 → A8 → A9 → A10 → Option α) : Nat → A1 → A2 → A3 → A4 → A5 → A6 → A7 → A8 → A9 → A10 → Option α
  | 0 => fun _ _ _ _ _ _ _ _ _ _ => none
  | k + 1 => f (itr10 f k)
def bd2 {α β γ : Type} (o : Option (α × β)) (k : α → β → Option γ) : Option γ := bd o (fun a => k a.1 a.2)
section MC
variable {ρ : Type} {X : mh_X} {R : Room} {nL : Nat} {o : Option ρ} {z : ρ} {M : mh_M} {pc : Nat} {L : List (Nat × Value)} {st : List Value} {cc : ByteArray} {ws : List Cond} {own : String}
theorem ms_callVi (C : mh_C X R cc ws own nL) {fo : Option Int32} {K : Int32 → Option ρ} {rest As : List Value} {y : MethodName} {wsy : List Cond} {rm : Room} {Cn : String} {index maxL n t i ci N : Nat} {bytes : ByteArray} {ret : Option FieldType} {r : Nat → Option Nat} {T : u_T} (hdg : decode cc pc = .ok (.invokevirtual index, 3)) (hM : ∀ z1, fo = some z1 → Met (xl X) y wsy rm (mh_Pc (xg X) M (.ref (xad X t i) :: As)) (mh_Q (xg X) M (some (.int z1))) 0 0 (mh_dom (xg X))) (cw : CallW R (xs X) (xa X) own Cn index y bytes maxL ret wsy rm 0 0 n) (hz : mh_Z (xg X) t i = some (.inl (ci, N, r))) (hc : vwCl[ci]? = some (Cn, T, N)) (hn : As.length = n) (hs0 : st = As.reverse ++ .ref (xad X t i) :: rest) (hst : (rest.map fun v => v.category).sum ≤ 8) (kk : ∀ r : Int32, mh_W X R nL (K r) z M (pc + 3) L (.int r :: rest)) : mh_W X R nL (bd fo K) z M pc L st := ms_callV C (mo := fun _ => M) (vo := fun r => some (.int r)) hdg hM cw hz hc hn hst hs0 kk
theorem ms_callSi (C : mh_C X R cc ws own nL) {fo : Option Int32} {K : Int32 → Option ρ} {rest As : List Value} {y : MethodName} {wsy : List Cond} {rm : Room} {index maxL n : Nat} {bytes : ByteArray} {ret : Option FieldType} (hdg : decode cc pc = .ok (.invokestatic index, 3)) (hM : ∀ z1, fo = some z1 → Met (xl X) y wsy rm (mh_Pc (xg X) M As) (mh_Q (xg X) M (some (.int z1))) 0 0 (mh_dom (xg X))) (cw : CallB R (xs X) (xa X) own index y bytes maxL ret wsy rm 0 0 n ∧ (Cond.static y).before (xa X) (xs X) = true) (hn : As.length = n) (hs0 : st = As.reverse ++ rest) (hst : (rest.map fun v => v.category).sum ≤ 8) (kk : ∀ r : Int32, mh_W X R nL (K r) z M (pc + 3) L (.int r :: rest)) : mh_W X R nL (bd fo K) z M pc L st := ms_callS C (mo := fun _ => M) (vo := fun r => some (.int r)) hdg hM cw hn hst hs0 kk
theorem ms_callVl (C : mh_C X R cc ws own nL) {fo : Option Int64} {K : Int64 → Option ρ} {rest As : List Value} {y : MethodName} {wsy : List Cond} {rm : Room} {Cn : String} {index maxL n t i ci N : Nat} {bytes : ByteArray} {ret : Option FieldType} {r : Nat → Option Nat} {T : u_T} (hdg : decode cc pc = .ok (.invokevirtual index, 3)) (hM : ∀ z1, fo = some z1 → Met (xl X) y wsy rm (mh_Pc (xg X) M (.ref (xad X t i) :: As)) (mh_Q (xg X) M (some (.long z1))) 0 0 (mh_dom (xg X))) (cw : CallW R (xs X) (xa X) own Cn index y bytes maxL ret wsy rm 0 0 n) (hz : mh_Z (xg X) t i = some (.inl (ci, N, r))) (hc : vwCl[ci]? = some (Cn, T, N)) (hn : As.length = n) (hs0 : st = As.reverse ++ .ref (xad X t i) :: rest) (hst : (rest.map fun v => v.category).sum ≤ 8) (kk : ∀ r : Int64, mh_W X R nL (K r) z M (pc + 3) L (.long r :: rest)) : mh_W X R nL (bd fo K) z M pc L st := ms_callV C (mo := fun _ => M) (vo := fun r => some (.long r)) hdg hM cw hz hc hn hst hs0 kk
theorem ms_callSl (C : mh_C X R cc ws own nL) {fo : Option Int64} {K : Int64 → Option ρ} {rest As : List Value} {y : MethodName} {wsy : List Cond} {rm : Room} {index maxL n : Nat} {bytes : ByteArray} {ret : Option FieldType} (hdg : decode cc pc = .ok (.invokestatic index, 3)) (hM : ∀ z1, fo = some z1 → Met (xl X) y wsy rm (mh_Pc (xg X) M As) (mh_Q (xg X) M (some (.long z1))) 0 0 (mh_dom (xg X))) (cw : CallB R (xs X) (xa X) own index y bytes maxL ret wsy rm 0 0 n ∧ (Cond.static y).before (xa X) (xs X) = true) (hn : As.length = n) (hs0 : st = As.reverse ++ rest) (hst : (rest.map fun v => v.category).sum ≤ 8) (kk : ∀ r : Int64, mh_W X R nL (K r) z M (pc + 3) L (.long r :: rest)) : mh_W X R nL (bd fo K) z M pc L st := ms_callS C (mo := fun _ => M) (vo := fun r => some (.long r)) hdg hM cw hn hst hs0 kk
theorem ms_callVv (C : mh_C X R cc ws own nL) {fo : Option mh_M} {K : mh_M → Option ρ} {rest As : List Value} {y : MethodName} {wsy : List Cond} {rm : Room} {Cn : String} {index maxL n t i ci N : Nat} {bytes : ByteArray} {ret : Option FieldType} {r : Nat → Option Nat} {T : u_T} (hdg : decode cc pc = .ok (.invokevirtual index, 3)) (hM : ∀ z1, fo = some z1 → Met (xl X) y wsy rm (mh_Pc (xg X) M (.ref (xad X t i) :: As)) (mh_Q (xg X) z1 none) 0 0 (mh_dom (xg X))) (cw : CallW R (xs X) (xa X) own Cn index y bytes maxL ret wsy rm 0 0 n) (hz : mh_Z (xg X) t i = some (.inl (ci, N, r))) (hc : vwCl[ci]? = some (Cn, T, N)) (hn : As.length = n) (hs0 : st = As.reverse ++ .ref (xad X t i) :: rest) (hst : (rest.map fun v => v.category).sum ≤ 8) (kk : ∀ M1 : mh_M, mh_W X R nL (K M1) z M1 (pc + 3) L rest) : mh_W X R nL (bd fo K) z M pc L st := ms_callV C (mo := fun m => m) (vo := fun _ => none) hdg hM cw hz hc hn hst hs0 kk
theorem ms_callSv (C : mh_C X R cc ws own nL) {fo : Option mh_M} {K : mh_M → Option ρ} {rest As : List Value} {y : MethodName} {wsy : List Cond} {rm : Room} {index maxL n : Nat} {bytes : ByteArray} {ret : Option FieldType} (hdg : decode cc pc = .ok (.invokestatic index, 3)) (hM : ∀ z1, fo = some z1 → Met (xl X) y wsy rm (mh_Pc (xg X) M As) (mh_Q (xg X) z1 none) 0 0 (mh_dom (xg X))) (cw : CallB R (xs X) (xa X) own index y bytes maxL ret wsy rm 0 0 n ∧ (Cond.static y).before (xa X) (xs X) = true) (hn : As.length = n) (hs0 : st = As.reverse ++ rest) (hst : (rest.map fun v => v.category).sum ≤ 8) (kk : ∀ M1 : mh_M, mh_W X R nL (K M1) z M1 (pc + 3) L rest) : mh_W X R nL (bd fo K) z M pc L st := ms_callS C (mo := fun m => m) (vo := fun _ => none) hdg hM cw hn hst hs0 kk
theorem ms_callVm (C : mh_C X R cc ws own nL) {fo : Option (mh_M × Int32)} {K : mh_M → Int32 → Option ρ} {rest As : List Value} {y : MethodName} {wsy : List Cond} {rm : Room} {Cn : String} {index maxL n t i ci N : Nat} {bytes : ByteArray} {ret : Option FieldType} {r : Nat → Option Nat} {T : u_T} (hdg : decode cc pc = .ok (.invokevirtual index, 3)) (hM : ∀ z1, fo = some z1 → Met (xl X) y wsy rm (mh_Pc (xg X) M (.ref (xad X t i) :: As)) (mh_Q (xg X) z1.1 (some (.int z1.2))) 0 0 (mh_dom (xg X))) (cw : CallW R (xs X) (xa X) own Cn index y bytes maxL ret wsy rm 0 0 n) (hz : mh_Z (xg X) t i = some (.inl (ci, N, r))) (hc : vwCl[ci]? = some (Cn, T, N)) (hn : As.length = n) (hs0 : st = As.reverse ++ .ref (xad X t i) :: rest) (hst : (rest.map fun v => v.category).sum ≤ 8) (kk : ∀ (M1 : mh_M) (r : Int32), mh_W X R nL (K M1 r) z M1 (pc + 3) L (.int r :: rest)) : mh_W X R nL (bd2 fo K) z M pc L st := ms_callV C (mo := fun a => a.1) (vo := fun a => some (.int a.2)) hdg hM cw hz hc hn hst hs0 (fun a => kk a.1 a.2)
theorem ms_callSm (C : mh_C X R cc ws own nL) {fo : Option (mh_M × Int32)} {K : mh_M → Int32 → Option ρ} {rest As : List Value} {y : MethodName} {wsy : List Cond} {rm : Room} {index maxL n : Nat} {bytes : ByteArray} {ret : Option FieldType} (hdg : decode cc pc = .ok (.invokestatic index, 3)) (hM : ∀ z1, fo = some z1 → Met (xl X) y wsy rm (mh_Pc (xg X) M As) (mh_Q (xg X) z1.1 (some (.int z1.2))) 0 0 (mh_dom (xg X))) (cw : CallB R (xs X) (xa X) own index y bytes maxL ret wsy rm 0 0 n ∧ (Cond.static y).before (xa X) (xs X) = true) (hn : As.length = n) (hs0 : st = As.reverse ++ rest) (hst : (rest.map fun v => v.category).sum ≤ 8) (kk : ∀ (M1 : mh_M) (r : Int32), mh_W X R nL (K M1 r) z M1 (pc + 3) L (.int r :: rest)) : mh_W X R nL (bd2 fo K) z M pc L st := ms_callS C (mo := fun a => a.1) (vo := fun a => some (.int a.2)) hdg hM cw hn hst hs0 (fun a => kk a.1 a.2)
theorem ms_callSb (C : mh_C X R cc ws own nL) {fo : Option Int32} {K : Int32 → Option ρ} {rest As : List Value} {y : MethodName} {wsy : List Cond} {rm : Room} {index maxL n : Nat} {bytes : ByteArray} {ret : Option FieldType} (hdg : decode cc pc = .ok (.invokestatic index, 3)) (hM : ∀ z1, fo = some z1 → Met (xl X) y wsy rm (mh_Pc (xg X) M As) (mh_Q (xg X) M (some (.int z1))) 0 0 (mh_dom (xg X))) (cw : CallB R (xs X) (xa X) own index y bytes maxL ret wsy rm 0 0 n ∧ (Cond.static y).before (xa X) (xs X) = true) (hn : As.length = n) (hs0 : st = As.reverse ++ rest) (hst : (rest.map fun v => v.category).sum ≤ 8) (hb : ∀ q, fo = some q → narrow .boolean (.int q) = .int q) (kk : ∀ q : Int32, narrow .boolean (.int q) = .int q → mh_W X R nL (K q) z M (pc + 3) L (.int q :: rest)) : mh_W X R nL (bd fo K) z M pc L st := by
  cases hfo : fo with
  | none => exact ms_none
  | some q0 =>
    have h0 := hb q0 hfo
    subst hfo
    exact ms_callS (fo := some q0) (K := fun q => if q = q0 then K q else none) C (mo := fun _ => M) (vo := fun q => some (.int q)) hdg hM cw hn hst hs0 (fun q => by
      by_cases hq : q = q0
      · subst hq; rw [if_pos rfl]; exact kk q h0
      · rw [if_neg hq]; exact ms_none) |> fun h => by
        have e : bd (some q0) (fun q => if q = q0 then K q else none) = bd (some q0) K := if_pos rfl
        rw [e] at h
        exact h
theorem ms_callVr (C : mh_C X R cc ws own nL) {fo : Option Nat} {K : Nat → Option ρ} {rest As : List Value} {y : MethodName} {wsy : List Cond} {rm : Room} {Cn : String} {index maxL n t i ci N : Nat} {bytes : ByteArray} {ret : Option FieldType} {r : Nat → Option Nat} {T : u_T} (hdg : decode cc pc = .ok (.invokevirtual index, 3)) {t2 N2 : Nat} (hM : ∀ z1, fo = some z1 → Met (xl X) y wsy rm (mh_Pc (xg X) M (.ref (xad X t i) :: As)) (mh_Q (xg X) M (some (.ref (xad X t2 z1)))) 0 0 (mh_dom (xg X))) (cw : CallW R (xs X) (xa X) own Cn index y bytes maxL ret wsy rm 0 0 n) (hz : mh_Z (xg X) t i = some (.inl (ci, N, r))) (hc : vwCl[ci]? = some (Cn, T, N)) (hn : As.length = n) (hs0 : st = As.reverse ++ .ref (xad X t i) :: rest) (hst : (rest.map fun v => v.category).sum ≤ 8) (hb : ∀ q, fo = some q → q < N2) (kk : ∀ q : Nat, q < N2 → mh_W X R nL (K q) z M (pc + 3) L (.ref (xad X t2 q) :: rest)) : mh_W X R nL (bd fo K) z M pc L st := by
  cases hfo : fo with
  | none => exact ms_none
  | some q0 =>
    have h0 := hb q0 hfo
    subst hfo
    exact ms_callV (fo := some q0) (K := fun q => if q < N2 then K q else none) C (mo := fun _ => M) (vo := fun q => some (.ref (xad X t2 q))) hdg hM cw hz hc hn hst hs0 (fun q => by
      by_cases hq : q < N2
      · rw [if_pos hq]; exact kk q hq
      · rw [if_neg hq]; exact ms_none) |> fun h => by
        have e : bd (some q0) (fun q => if q < N2 then K q else none) = bd (some q0) K := if_pos h0
        rw [e] at h
        exact h
theorem ms_callVq (C : mh_C X R cc ws own nL) {fo : Option (mh_M × Nat)} {K : mh_M → Nat → Option ρ} {rest As : List Value} {y : MethodName} {wsy : List Cond} {rm : Room} {Cn : String} {index maxL n t i ci N : Nat} {bytes : ByteArray} {ret : Option FieldType} {r : Nat → Option Nat} {T : u_T} (hdg : decode cc pc = .ok (.invokevirtual index, 3)) {t2 N2 : Nat} (hM : ∀ z1, fo = some z1 → Met (xl X) y wsy rm (mh_Pc (xg X) M (.ref (xad X t i) :: As)) (mh_Q (xg X) z1.1 (some (.ref (xad X t2 z1.2)))) 0 0 (mh_dom (xg X))) (cw : CallW R (xs X) (xa X) own Cn index y bytes maxL ret wsy rm 0 0 n) (hz : mh_Z (xg X) t i = some (.inl (ci, N, r))) (hc : vwCl[ci]? = some (Cn, T, N)) (hn : As.length = n) (hs0 : st = As.reverse ++ .ref (xad X t i) :: rest) (hst : (rest.map fun v => v.category).sum ≤ 8) (hb : ∀ m q, fo = some (m, q) → q < N2) (kk : ∀ (M1 : mh_M) (q : Nat), q < N2 → mh_W X R nL (K M1 q) z M1 (pc + 3) L (.ref (xad X t2 q) :: rest)) : mh_W X R nL (bd2 fo K) z M pc L st := by
  cases hfo : fo with
  | none => exact ms_none
  | some q0 =>
    have h0 : q0.2 < N2 := hb q0.1 q0.2 hfo
    subst hfo
    exact ms_callV (fo := some q0) (K := fun q => if q.2 < N2 then K q.1 q.2 else none) C (mo := fun q => q.1) (vo := fun q => some (.ref (xad X t2 q.2))) hdg hM cw hz hc hn hst hs0 (fun q => by
      by_cases hq : q.2 < N2
      · rw [if_pos hq]; exact kk q.1 q.2 hq
      · rw [if_neg hq]; exact ms_none) |> fun h => by
        have e : bd (some q0) (fun q => if q.2 < N2 then K q.1 q.2 else none) = bd2 (some q0) K := if_pos h0
        rw [e] at h
        exact h
/-- the class's own table of limits, which nobody writes -/
def mh_most : Nat → Int32 := fun j => match j with | 0 => 50 | 1 => 20 | 2 => 100 | 3 => 100 | 4 => 10000 | 5 => 50 | _ => 10
def mh_S (G : mh_G) (t : Nat) (U : State) : Prop := va_Z "BarMeasure" "MOST_OF_SETTING" "[I" (.ref t) (mh_dom G) U U.heap ∧ va_T .int t 7 (fun j => .int (mh_most j)) (mh_dom G) U U.heap
theorem ms_getst (C : mh_C X R cc ws own nL) {index t : Nat} (hdg : decode cc pc = .ok (.getstatic index, 3)) (hZ : va_Z "BarMeasure" "MOST_OF_SETTING" "[I" (.ref t) (mh_dom (xg X)) (xs X) (xs X).heap) (hl : Cond.fieldLink own index "BarMeasure" "MOST_OF_SETTING" "[I" ∈ ws) (kk : mh_W X R nL o z M (pc + 3) L (.ref t :: st)) : mh_W X R nL o z M pc L st := fun ho H locs ⟨hP, hS⟩ ls h =>
  va_gets (ref := "BarMeasure") C.1 C.2.1 hZ hS C.2.2.2.1 (C.2.2.1 _ hl) (fun _ q => q) hdg (kk ho H locs ⟨hP, hS⟩ ls h)
theorem ms_ldst (C : mh_C X R cc ws own nL) {t : Nat} {j : Int32} {K : Int32 → Option ρ} (hdg : decode cc pc = .ok (.iaload, 1)) (hT : va_T .int t 7 (fun j => .int (mh_most j)) (mh_dom (xg X)) (xs X) (xs X).heap) (kk : inb j 7 = true → ∀ v : Int32, mh_W X R nL (K v) z M (pc + 1) L (.int v :: st)) : mh_W X R nL (ck (inb j 7) (pl (mh_most j.toNatClampNeg) K)) z M pc L (.int j :: .ref t :: st) := by
  cases hb : inb j 7 with
  | false => exact ms_none
  | true => exact fun ho H locs ⟨hP, hS⟩ ls h => va_ti C.1 C.2.1 hT hS (inb_in hb) rfl hdg (kk hb _ ho H locs ⟨hP, hS⟩ ls h)
def mh_PcS (G : mh_G) (M : mh_M) (As : List Value) (t : Nat) : Array Value → State → Prop := va_Pc As (fun U => mh_B G M U ∧ mh_S G t U)
theorem mh_metS {l : Launch} {y : MethodName} {ws ws' : List Cond} {rm : Room} {cc : ByteArray} {maxL : Nat} {ret : Option FieldType} {G : mh_G} {M Mz : mh_M} {vz : Option Value} {args : List Value} {o : Option ρ} {z : ρ} {t : Nat} (hy : plainName y.cls = true) (hw : ws = Cond.code y cc maxL ret :: ws') (hlen : (lg_sl args).length ≤ maxL) (ho : o = some z)
    (body : ∀ X : mh_X, xl X = l → xg X = G → mh_C X rm cc ws y.cls maxL → mh_R X ret Mz vz → va_Z "BarMeasure" "MOST_OF_SETTING" "[I" (.ref t) (mh_dom (xg X)) (xs X) (xs X).heap → va_T .int t 7 (fun j => .int (mh_most j)) (mh_dom (xg X)) (xs X) (xs X).heap → mh_W X rm maxL o z M 0 (lv_args 0 args) []) : Met l y ws rm (mh_PcS G M args t) (mh_Q G Mz vz) 0 0 (mh_dom G) := by
  refine Met.ofW (cc := cc) (maxL := maxL) (ret := ret) hy hw ?_
  intro p e s m args0 below meth c s₁ B hml hv
  obtain ⟨rfl, ⟨hG, hP, hK⟩, hZ, hT⟩ := hv
  have hts := atoms_spec (ws := ws) B.pre
  rw [lg_entry_eq]
  exact body (p, l, e, s, m, args.toArray, below, meth, c, 0, 0, MQ below (mh_Q G Mz vz) args.toArray s 0 0 (mh_dom G), G) rfl rfl ⟨B.exec, B.bytes, hts, findClass_of_methodNamed B.named, hG, hK, hml, Nat.zero_le _, Nat.zero_le _⟩ ⟨B.returns, B.notSynchronized, rfl⟩ hZ hT ho s.heap [] ⟨hP, va_S.rf⟩ _ (lv_entry args hlen)
end MC
