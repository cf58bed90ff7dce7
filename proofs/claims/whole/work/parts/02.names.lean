/-! ===== BEGIN words of one list among another's, by their places ===== -/
theorem goodIn_r {big : List Cond} (ws : List Cond) (ps : List Nat) (hp : ws = ps.filterMap (fun i => big[i]?)) (h : ws.all goodWord = true) : GoodIn big ws := by
  intro w hw
  have h1 := List.all_eq_true.mp h w hw
  rw [hp] at hw
  obtain ⟨i, -, hi⟩ := List.mem_filterMap.mp hw
  have hm : w ∈ big := by first | exact List.mem_of_getElem? hi | exact List.getElem?_mem hi
  exact ⟨hm, good_of_word h1⟩
theorem goodIn_app {big a b : List Cond} (ha : GoodIn big a) (hb : GoodIn big b) : GoodIn big (a ++ b) := fun w h => (List.mem_append.mp h).elim (ha w) (hb w)
theorem goodIn_ca {big a b : List Cond} {c : Cond} (ha : GoodIn big (c :: a)) (hb : GoodIn big b) : GoodIn big (c :: (a ++ b)) := fun w h => (List.mem_cons.mp h).elim (fun e => ha w (List.mem_cons.mpr (Or.inl e))) (fun h => (List.mem_append.mp h).elim (fun h => ha w (List.mem_cons.mpr (Or.inr h))) (hb w))
theorem goodIn_sub {big ws : List Cond} (hm : ∀ w ∈ ws, w ∈ big) (h : ws.all goodWord = true) : GoodIn big ws := fun w hw => ⟨hm w hw, good_of_word (List.all_eq_true.mp h w hw)⟩
/-! ===== END ===== -/

/-! ===== BEGIN new T[n][m]: the outer array a place, the inner ones among the pooled ===== -/
/-- f, but v at every address of l -/
def vr_up {α : Type} (f : Nat → α) (l : List Nat) (v : α) : Nat → α := fun a => if a ∈ l then v else f a
theorem vr_up_in {α : Type} {f : Nat → α} {l : List Nat} {v : α} {a : Nat} (h : a ∈ l) : vr_up f l v a = v := if_pos h
theorem vr_up_ne {α : Type} {f : Nat → α} {l : List Nat} {v : α} {a : Nat} (h : a ∉ l) : vr_up f l v a = f a := if_neg h
theorem vr_rows {L l : List Nat} {f : Nat → va_E} {e : va_E} (h : ∀ a, a ∈ l → a ∉ L) : va_pl L f ++ l.map (fun a => (a, e)) = va_pl (L ++ l) (vr_up f l e) := by
  unfold va_pl
  rw [List.map_append]
  congr 1
  · apply List.map_congr_left
    intro a ha
    rw [vr_up_ne (fun q => h a q ha)]
  · apply List.map_congr_left
    intro a ha
    rw [vr_up_in ha]
theorem vr_lay {X rows : va_W} {x : Nat × va_E} {pl : va_W} {D : va_G} {cl : List vw_C} {H : Heap} (hP : va_P D cl (((X ++ pl) ++ [x]) ++ rows) H) : va_P D cl ((X ++ [x]) ++ (pl ++ rows)) H := by
  rw [List.append_assoc (X ++ pl)] at hP
  have h := va_P.swap hP
  rw [← List.append_assoc X] at h
  have h2 := va_P.swap h
  rw [List.append_assoc (X ++ [x])] at h2
  exact h2
theorem vr_layD {X rows : va_W} {x : Nat × va_E} {pl : va_W} {A : Nat → Prop} (hD : va_D A (((X ++ pl) ++ [x]) ++ rows)) : va_D A ((X ++ [x]) ++ (pl ++ rows)) := by
  rw [List.append_assoc (X ++ pl)] at hD
  have h := va_D.swap hD
  rw [← List.append_assoc X] at h
  have h2 := va_D.swap h
  rw [List.append_assoc (X ++ [x])] at h2
  exact h2
theorem vr_outer (c : ClassId) (N h0 : Nat) : ∀ i : Nat, Jvm.Free.Multi.outerC c N h0 i = arrV c N (fun j => va_rf (if j < i then some (h0 + 1 + j) else none))
  | 0 => by
    show ({ cls := c, slots := Array.replicate N .null, vm := .none } : Cell) = _
    rw [arrV_new]
    refine congrArg (arrV c N) (funext fun j => ?_)
    simp [va_rf]
  | i + 1 => by
    show (Jvm.Free.Multi.outerC c N h0 i).setSlot i (.ref (h0 + 1 + i)) = _
    rw [vr_outer c N h0 i, arrV_store]
    refine congrArg (arrV c N) (funext fun j => ?_)
    by_cases e : j = i
    · subst e
      simp [updV, va_rf]
    · by_cases h : j < i
      · simp [updV, e, h, Nat.lt_succ_of_lt h]
      · simp [updV, e, h, show ¬ j < i + 1 by omega]
section VGM
variable {p : Program} {l : Launch} {e : Env} {R : Room} {s : State} {m : MethodId} {args : Array Value} {below : List Frame} {meth : Method} {c : Code} {H : Heap} {locs : List Loc} {cells slots : Nat} {Q : State → Prop}
variable {cc : ByteArray} {pc : Nat} {ls : Array Slot} {rest : List Value} {D : va_G} {cl : List vw_C} {A : Nat → Prop} {a : Nat} {tys : List (ClassId × FieldType)} {ws : va_W} {H0 : Heap}
theorem va_mna {X : va_W} {L : List Nat} {f : Nat → va_E} {cc : ByteArray} (hexec : p.tables.exec = Jvm.exec) (hb : c.code = cc) {own : String} {index : Nat} {ty : FieldType} {cy : ClassId} (hown : s.vm.findClass own = some m.cls) (hclink : (Cond.classLink own index ("[" ++ (FieldType.array ty).toString)).before args s = true) (hover : va_AOA ty s) (harr : (Cond.arrayClass ty).before args s = true) (hcy : s.vm.findClass (FieldType.array ty).toString = some cy)
    (hK : va_K D cl tys s) (hP : va_P D cl (X ++ va_pl L f) H) (hD : va_D A (X ++ va_pl L f)) (hS : va_S A H0 H locs) (hA : ∀ q, H0.size ≤ q → A q) {n k : Int32} {N' K' : Nat} {z : vp_A} (hn : ¬ n < 0) (hk : ¬ k < 0) (hN : n.toNatClampNeg = N') (hM : k.toNatClampNeg = K')
    (hb1 : N' * 4 ≤ 536870912) (hb2 : K' * componentBytes ty ≤ 536870912) (hb3 : K' ≤ 536870912) (hdf : fits ty (defaultValue ty) = true) (hdd : (defaultValue ty).isDefault = true) (hcells : cells + (1 + N') ≤ R.cells) (hslots : slots + (N' + N' * K') ≤ R.slots) (hz : ∀ c : ClassId, Jvm.Free.Multi.innerC c K' (defaultValue ty) = vp_cell c z) (hdg : decode cc pc = .ok (.multianewarray index 2, 4))
    (kk : ∀ (q : Nat) (r : Nat → Nat) (cA : ClassId) (H1 : Heap), (∀ i j : Nat, i < N' → j < N' → r i = r j → i = j) → (∀ i : Nat, i < N' → r i ∉ L) → va_K D cl (tys ++ [(cA, .array ty)]) s →
      va_P D cl ((X ++ [(q, .inl (cA, N', .inr (.inr (.inr (.inr (fun i => if i < N' then some (r i) else none))))))]) ++ va_pl (L ++ (List.range N').map r) (vr_up f ((List.range N').map r) (.inl (cy, z)))) H1 → va_D A ((X ++ [(q, .inl (cA, N', .inr (.inr (.inr (.inr (fun i => if i < N' then some (r i) else none))))))]) ++ va_pl (L ++ (List.range N').map r) (vr_up f ((List.range N').map r) (.inl (cy, z)))) → va_S A H0 H1 locs →
      W p l e R s m args below meth c H1 locs (cells + 1 + N') (slots + N' + N' * K') Q (F0 m (pc + 4) ls (.ref q :: rest))) : W p l e R s m args below meth c H locs cells slots Q (F0 m pc ls (.int k :: .int n :: rest)) := by
  subst hN
  subst hM
  intro T hT Xs
  obtain ⟨vm₁, cA, comp, -, fA, fC, hO, -, X', step⟩ := Xs.multianewarray2F hexec hown hclink (va_AOA.use hover) harr (g := F0 m pc ls (.int k :: .int n :: rest)) rfl (by rw [hb]; exact hdg) rfl hn hk hb1 hb2 hb3 hdf hdd hcells hslots
  have ec : some cy = some comp := hcy.symm.trans fC
  cases ec
  generalize hF : Jvm.Free.Multi.fill (T.setVm vm₁) cA cy n.toNatClampNeg k.toNatClampNeg (defaultValue ty) n.toNatClampNeg = F at X' step
  have hTh : (T.setVm vm₁).heap = H := hT
  obtain ⟨f1, f2, -, -⟩ := Jvm.Free.Multi.fill_facts (T.setVm vm₁) cA cy n.toNatClampNeg k.toNatClampNeg (defaultValue ty) n.toNatClampNeg
  rw [hF, hTh] at f1 f2
  have hold : ∀ x : Nat, x < H.size → F.heap[x]? = H[x]? := fun x hx => by
    have := Jvm.Free.Multi.fill_old (T.setVm vm₁) cA cy n.toNatClampNeg k.toNatClampNeg (defaultValue ty) (a := x) (by rw [hTh]; exact hx) n.toNatClampNeg
    rw [hF, hTh] at this
    exact this
  have hrow : ∀ j : Nat, j < n.toNatClampNeg → F.heap[H.size + 1 + j]? = some (vp_cell cy z) := fun j hj => by
    have := Jvm.Free.Multi.fill_inner (T.setVm vm₁) cA cy n.toNatClampNeg k.toNatClampNeg (defaultValue ty) n.toNatClampNeg j hj
    rw [hF, hTh, hz] at this
    exact this
  have hout : Jvm.Free.Multi.outerC cA n.toNatClampNeg H.size n.toNatClampNeg = vp_cell cA (n.toNatClampNeg, .inr (.inr (.inr (.inr (fun i => if i < n.toNatClampNeg then some (H.size + 1 + i) else none))))) := by
    rw [vp_cell_q]
    exact vr_outer cA n.toNatClampNeg H.size n.toNatClampNeg
  rw [hout] at f2
  have hlt : ∀ a, a ∈ L → a < H.size := fun a ha => by
    obtain ⟨k9, hk9⟩ := va_pl_get (X := X) (f := f) ha
    exact (hP k9 _ hk9).lt
  have hnl : ∀ i : Nat, i < n.toNatClampNeg → H.size + 1 + i ∉ L := fun i _ h => by
    have := hlt _ h
    omega
  have hnm : ∀ a, a ∈ (List.range n.toNatClampNeg).map (fun i => H.size + 1 + i) → a ∉ L := fun a ha h => by
    obtain ⟨i, -, rfl⟩ := List.mem_map.mp ha
    have := hlt _ h
    omega
  have hP0 : va_P D cl (X ++ va_pl L f) F.heap := hP.kept (fun k9 x hx => hold x.1 ((hP k9 x hx).lt))
  have hP1 : va_P D cl ((X ++ va_pl L f) ++ [(H.size, .inl (cA, n.toNatClampNeg, .inr (.inr (.inr (.inr (fun i => if i < n.toNatClampNeg then some (H.size + 1 + i) else none))))))]) F.heap := hP0.app (fun k9 x hx => by
    have h0 : k9 < 1 := (List.getElem?_eq_some_iff.mp hx).1
    rw [show k9 = 0 by omega] at hx
    cases hx
    exact f2)
  have hP2 : va_P D cl (((X ++ va_pl L f) ++ [(H.size, .inl (cA, n.toNatClampNeg, .inr (.inr (.inr (.inr (fun i => if i < n.toNatClampNeg then some (H.size + 1 + i) else none))))))]) ++ ((List.range n.toNatClampNeg).map (fun i => H.size + 1 + i)).map (fun a => (a, .inl (cy, z)))) F.heap := hP1.app (fun k9 x hx => by
    obtain ⟨a, ha, rfl⟩ := List.mem_map.mp (List.mem_of_getElem? hx)
    obtain ⟨i, hi, rfl⟩ := List.mem_map.mp ha
    exact hrow i (List.mem_range.mp hi))
  have hD2 : va_D A (((X ++ va_pl L f) ++ [(H.size, .inl (cA, n.toNatClampNeg, .inr (.inr (.inr (.inr (fun i => if i < n.toNatClampNeg then some (H.size + 1 + i) else none))))))]) ++ ((List.range n.toNatClampNeg).map (fun i => H.size + 1 + i)).map (fun a => (a, .inl (cy, z)))) := by
    have hD1 := hD.push (e := .inl (cA, n.toNatClampNeg, .inr (.inr (.inr (.inr (fun i => if i < n.toNatClampNeg then some (H.size + 1 + i) else none)))))) hP rfl (hA _ hS.1)
    generalize hW1 : (X ++ va_pl L f) ++ [(H.size, .inl (cA, n.toNatClampNeg, .inr (.inr (.inr (.inr (fun i => if i < n.toNatClampNeg then some (H.size + 1 + i) else none))))))] = W1 at hD1 hP1 ⊢
    have hle : ∀ (k9 : Nat) (x : Nat × va_E), W1[k9]? = some x → x.1 ≤ H.size := fun k9 x hx => by
      rw [← hW1] at hx
      by_cases hl : k9 < (X ++ va_pl L f).length
      · rw [List.getElem?_append_left hl] at hx
        exact Nat.le_of_lt ((hP k9 x hx).lt)
      · rw [List.getElem?_append_right (by omega)] at hx
        have h0 : k9 - (X ++ va_pl L f).length < 1 := (List.getElem?_eq_some_iff.mp hx).1
        rw [show k9 - (X ++ va_pl L f).length = 0 by omega] at hx
        cases hx
        exact Nat.le_refl _
    have hr : ∀ (k9 : Nat) (x : Nat × va_E), (((List.range n.toNatClampNeg).map (fun i => H.size + 1 + i)).map (fun a => ((a, .inl (cy, z)) : Nat × va_E)))[k9]? = some x → x.1 = H.size + 1 + k9 := fun k9 x hx => by
      rw [List.getElem?_map, List.getElem?_map] at hx
      by_cases h9 : k9 < n.toNatClampNeg
      · rw [List.getElem?_range h9] at hx
        cases hx
        rfl
      · have hn0 : (List.range n.toNatClampNeg)[k9]? = none := List.getElem?_eq_none (by rw [List.length_range]; omega)
        rw [hn0] at hx
        cases hx
    refine ⟨fun i j x y hi hj hxy => ?_, fun k9 x hx => ?_⟩
    · by_cases h1 : i < W1.length <;> by_cases h2 : j < W1.length
      · rw [List.getElem?_append_left h1] at hi
        rw [List.getElem?_append_left h2] at hj
        exact hD1.1 i j x y hi hj hxy
      · rw [List.getElem?_append_left h1] at hi
        rw [List.getElem?_append_right (by omega)] at hj
        have := hle _ _ hi
        have := hr _ _ hj
        omega
      · rw [List.getElem?_append_right (by omega)] at hi
        rw [List.getElem?_append_left h2] at hj
        have := hle _ _ hj
        have := hr _ _ hi
        omega
      · rw [List.getElem?_append_right (by omega)] at hi hj
        have := hr _ _ hi
        have := hr _ _ hj
        omega
    · by_cases h1 : k9 < W1.length
      · rw [List.getElem?_append_left h1] at hx
        exact hD1.2 k9 x hx
      · rw [List.getElem?_append_right (by omega)] at hx
        have := hr _ _ hx
        exact hA _ (by have := hS.1; omega)
  have hAr : ArrOfT s cA (.array ty) := fun N9 z9 => by
    obtain ⟨-, k9, hk9, cm9, hkk9⟩ := (hO 0 0 0).1
    exact ⟨(fun q hq => by cases hq), k9, hk9, cm9, hkk9⟩
  have hK2 : va_K D cl (tys ++ [(cA, .array ty)]) s := ⟨hK.1, fun k9 x hx => by
    by_cases hl : k9 < tys.length
    · rw [List.getElem?_append_left hl] at hx
      exact hK.2 k9 x hx
    · rw [List.getElem?_append_right (by omega)] at hx
      have h0 : k9 - tys.length < 1 := (List.getElem?_eq_some_iff.mp hx).1
      rw [show k9 - tys.length = 0 by omega] at hx
      cases hx
      exact ⟨hAr, fA⟩⟩
  obtain ⟨t, a1, b1⟩ := kk H.size (fun i => H.size + 1 + i) cA F.heap (fun i j _ _ h => by have h9 : H.size + 1 + i = H.size + 1 + j := h; omega) hnl hK2 (by rw [← vr_rows hnm]; exact vr_lay hP2) (by rw [← vr_rows hnm]; exact vr_layD hD2) ⟨by rw [f1]; have := hS.1; omega, fun x h1 h2 => (hold x (Nat.lt_of_lt_of_le h1 hS.1)).trans (hS.2.1 x h1 h2), hS.2.2⟩ F rfl X'
  refine ⟨t, step t ?_, b1⟩
  have e : T.heap.size = H.size := by rw [hT]
  rw [e]
  exact a1
end VGM
/-! ===== END ===== -/

/-! ===== BEGIN printed: names, fields, word lists, decode rows ===== -/
def RX0 : String := "BarMeasure$Act"
def TX0 : u_T := fun k => match k with
  | 0 => ("BarMeasure$Act", "what", "I", false)
  | 1 => ("BarMeasure$Act", "bar", "I", false)
  | 2 => ("BarMeasure$Act", "thing", "I", false)
  | 3 => ("BarMeasure$Act", "amount", "I", false)
  | _ => ("BarMeasure$Act", "cost", "I", false)
def tyX0 : Nat → FieldType := fun k => match k with
  | 0 => .int
  | 1 => .int
  | 2 => .int
  | 3 => .int
  | _ => .int
abbrev wsX00 : List Cond := u_ws RX0 TX0 5
theorem nmX0 : ∀ a, a < 5 → ∀ b, b < 5 → a ≠ b → (TX0 a).2.1 ≠ (TX0 b).2.1 := by decide +kernel
theorem tyX0_ok : ∀ k, k < 5 → parseFieldDescriptor (TX0 k).2.2.1 = some (tyX0 k) := by decide +kernel
abbrev cX0_init : ByteArray := prog_2_method_1_code
def yX0_init : MethodName := ⟨RX0, "<init>", "()V"⟩
def RX1 : String := "BarMeasure$ActLog"
def TX1 : u_T := fun k => match k with
  | 0 => ("BarMeasure$ActLog", "rows", "[LBarMeasure$Act;", true)
  | 1 => ("BarMeasure$ActLog", "kept", "I", false)
  | _ => ("BarMeasure$ActLog", "next", "I", false)
def tyX1 : Nat → FieldType := fun k => match k with
  | 0 => .array (.object "BarMeasure$Act")
  | 1 => .int
  | _ => .int
abbrev wsX10 : List Cond := u_ws RX1 TX1 3
theorem nmX1 : ∀ a, a < 3 → ∀ b, b < 3 → a ≠ b → (TX1 a).2.1 ≠ (TX1 b).2.1 := by decide +kernel
theorem tyX1_ok : ∀ k, k < 3 → parseFieldDescriptor (TX1 k).2.2.1 = some (tyX1 k) := by decide +kernel
abbrev cX1_init : ByteArray := prog_3_method_1_code
def yX1_init : MethodName := ⟨RX1, "<init>", "()V"⟩
abbrev cX1_nextRow : ByteArray := prog_3_method_2_code
def yX1_nextRow : MethodName := ⟨RX1, "nextRow", "()LBarMeasure$Act;"⟩
abbrev cX1_takeLatest : ByteArray := prog_3_method_3_code
def yX1_takeLatest : MethodName := ⟨RX1, "takeLatest", "()LBarMeasure$Act;"⟩
def RX2 : String := "BarMeasure$DealBook"
def TX2 : u_T := fun k => match k with
  | 0 => ("BarMeasure$DealBook", "bottles", "[I", true)
  | 1 => ("BarMeasure$DealBook", "prices", "[I", true)
  | 2 => ("BarMeasure$DealBook", "told", "I", false)
  | _ => ("BarMeasure$DealBook", "least", "[[I", true)
def tyX2 : Nat → FieldType := fun k => match k with
  | 0 => .array .int
  | 1 => .array .int
  | 2 => .int
  | _ => .array (.array .int)
abbrev wsX20 : List Cond := u_ws RX2 TX2 4
theorem nmX2 : ∀ a, a < 4 → ∀ b, b < 4 → a ≠ b → (TX2 a).2.1 ≠ (TX2 b).2.1 := by decide +kernel
theorem tyX2_ok : ∀ k, k < 4 → parseFieldDescriptor (TX2 k).2.2.1 = some (tyX2 k) := by decide +kernel
abbrev cX2_init : ByteArray := prog_4_method_1_code
def yX2_init : MethodName := ⟨RX2, "<init>", "()V"⟩
abbrev cX2_add : ByteArray := prog_4_method_2_code
def yX2_add : MethodName := ⟨RX2, "add", "(II)V"⟩
abbrev cX2_weighUp : ByteArray := prog_4_method_3_code
def yX2_weighUp : MethodName := ⟨RX2, "weighUp", "()V"⟩
abbrev cX2_priceWithOneMore : ByteArray := prog_4_method_4_code
def yX2_priceWithOneMore : MethodName := ⟨RX2, "priceWithOneMore", "(II)I"⟩
abbrev cX2_leastFor : ByteArray := prog_4_method_5_code
def yX2_leastFor : MethodName := ⟨RX2, "leastFor", "(I)I"⟩
abbrev cX2_bestBottles : ByteArray := prog_4_method_6_code
def yX2_bestBottles : MethodName := ⟨RX2, "bestBottles", "(I)I"⟩
abbrev cX2_timesOf : ByteArray := prog_4_method_7_code
def yX2_timesOf : MethodName := ⟨RX2, "timesOf", "(II)I"⟩
abbrev cX2_mostTimes : ByteArray := prog_4_method_8_code
def yX2_mostTimes : MethodName := ⟨RX2, "mostTimes", "(II)I"⟩
def RX3 : String := "BarMeasure$Forecast"
def TX3 : u_T := fun k => match k with
  | 0 => ("BarMeasure$Forecast", "amounts", "[I", true)
  | 1 => ("BarMeasure$Forecast", "weights", "[I", true)
  | _ => ("BarMeasure$Forecast", "told", "I", false)
def tyX3 : Nat → FieldType := fun k => match k with
  | 0 => .array .int
  | 1 => .array .int
  | _ => .int
abbrev wsX30 : List Cond := u_ws RX3 TX3 3
theorem nmX3 : ∀ a, a < 3 → ∀ b, b < 3 → a ≠ b → (TX3 a).2.1 ≠ (TX3 b).2.1 := by decide +kernel
theorem tyX3_ok : ∀ k, k < 3 → parseFieldDescriptor (TX3 k).2.2.1 = some (tyX3 k) := by decide +kernel
abbrev cX3_init : ByteArray := prog_5_method_1_code
def yX3_init : MethodName := ⟨RX3, "<init>", "()V"⟩
abbrev cX3_add : ByteArray := prog_5_method_2_code
def yX3_add : MethodName := ⟨RX3, "add", "(II)V"⟩
abbrev cX3_costOf : ByteArray := prog_5_method_3_code
def yX3_costOf : MethodName := ⟨RX3, "costOf", "(III)I"⟩
abbrev cX3_par : ByteArray := prog_5_method_4_code
def yX3_par : MethodName := ⟨RX3, "par", "(II)I"⟩
def RX4 : String := "BarMeasure$Kind"
def TX4 : u_T := fun k => match k with
  | 0 => ("BarMeasure$Kind", "tare", "I", false)
  | 1 => ("BarMeasure$Kind", "size", "I", false)
  | 2 => ("BarMeasure$Kind", "dense", "I", false)
  | 3 => ("BarMeasure$Kind", "stored", "I", false)
  | 4 => ("BarMeasure$Kind", "received", "I", false)
  | 5 => ("BarMeasure$Kind", "books", "[I", true)
  | _ => ("BarMeasure$Kind", "gone", "[I", true)
def tyX4 : Nat → FieldType := fun k => match k with
  | 0 => .int
  | 1 => .int
  | 2 => .int
  | 3 => .int
  | 4 => .int
  | 5 => .array .int
  | _ => .array .int
abbrev wsX40 : List Cond := u_ws RX4 TX4 7
theorem nmX4 : ∀ a, a < 7 → ∀ b, b < 7 → a ≠ b → (TX4 a).2.1 ≠ (TX4 b).2.1 := by decide +kernel
theorem tyX4_ok : ∀ k, k < 7 → parseFieldDescriptor (TX4 k).2.2.1 = some (tyX4 k) := by decide +kernel
abbrev cX4_init : ByteArray := prog_6_method_1_code
def yX4_init : MethodName := ⟨RX4, "<init>", "()V"⟩
abbrev cX4_found : ByteArray := prog_6_method_2_code
def yX4_found : MethodName := ⟨RX4, "found", "(II)I"⟩
abbrev cX4_mlOfScale : ByteArray := prog_6_method_3_code
def yX4_mlOfScale : MethodName := ⟨RX4, "mlOfScale", "(I)I"⟩
abbrev cX4_move : ByteArray := prog_6_method_4_code
def yX4_move : MethodName := ⟨RX4, "move", "(III)V"⟩
def RX5 : String := "BarMeasure$PriceRule"
def TX5 : u_T := fun k => match k with
  | 0 => ("BarMeasure$PriceRule", "days", "I", false)
  | 1 => ("BarMeasure$PriceRule", "from", "I", false)
  | 2 => ("BarMeasure$PriceRule", "to", "I", false)
  | _ => ("BarMeasure$PriceRule", "hundredths", "I", false)
def tyX5 : Nat → FieldType := fun k => match k with
  | 0 => .int
  | 1 => .int
  | 2 => .int
  | _ => .int
abbrev wsX50 : List Cond := u_ws RX5 TX5 4
theorem nmX5 : ∀ a, a < 4 → ∀ b, b < 4 → a ≠ b → (TX5 a).2.1 ≠ (TX5 b).2.1 := by decide +kernel
theorem tyX5_ok : ∀ k, k < 4 → parseFieldDescriptor (TX5 k).2.2.1 = some (tyX5 k) := by decide +kernel
abbrev cX5_init : ByteArray := prog_7_method_1_code
def yX5_init : MethodName := ⟨RX5, "<init>", "()V"⟩
abbrev cX5_holds : ByteArray := prog_7_method_2_code
def yX5_holds : MethodName := ⟨RX5, "holds", "(II)Z"⟩
abbrev cX5_hasDay : ByteArray := prog_7_method_3_code
def yX5_hasDay : MethodName := ⟨RX5, "hasDay", "(I)Z"⟩
def RX6 : String := "BarMeasure$Recipe"
def TX6 : u_T := fun k => match k with
  | 0 => ("BarMeasure$Recipe", "listPrice", "I", false)
  | 1 => ("BarMeasure$Recipe", "lastSold", "I", false)
  | 2 => ("BarMeasure$Recipe", "needed", "I", false)
  | _ => ("BarMeasure$Recipe", "parts", "[I", true)
def tyX6 : Nat → FieldType := fun k => match k with
  | 0 => .int
  | 1 => .int
  | 2 => .int
  | _ => .array .int
abbrev wsX60 : List Cond := u_ws RX6 TX6 4
theorem nmX6 : ∀ a, a < 4 → ∀ b, b < 4 → a ≠ b → (TX6 a).2.1 ≠ (TX6 b).2.1 := by decide +kernel
theorem tyX6_ok : ∀ k, k < 4 → parseFieldDescriptor (TX6 k).2.2.1 = some (tyX6 k) := by decide +kernel
abbrev cX6_init : ByteArray := prog_8_method_1_code
def yX6_init : MethodName := ⟨RX6, "<init>", "()V"⟩
abbrev cX6_putParts : ByteArray := prog_8_method_2_code
def yX6_putParts : MethodName := ⟨RX6, "putParts", "(II)I"⟩
abbrev cX6_canBeMadeBy : ByteArray := prog_8_method_3_code
def yX6_canBeMadeBy : MethodName := ⟨RX6, "canBeMadeBy", "(I)Z"⟩
def RX7 : String := "BarMeasure$Sheet"
def TX7 : u_T := fun k => match k with
  | 0 => ("BarMeasure$Sheet", "keptBy", "I", false)
  | 1 => ("BarMeasure$Sheet", "drinks", "[I", true)
  | 2 => ("BarMeasure$Sheet", "weighed", "[Z", true)
  | 3 => ("BarMeasure$Sheet", "gaps", "[I", true)
  | _ => ("BarMeasure$Sheet", "spans", "[I", true)
def tyX7 : Nat → FieldType := fun k => match k with
  | 0 => .int
  | 1 => .array .int
  | 2 => .array .boolean
  | 3 => .array .int
  | _ => .array .int
abbrev wsX70 : List Cond := u_ws RX7 TX7 5
theorem nmX7 : ∀ a, a < 5 → ∀ b, b < 5 → a ≠ b → (TX7 a).2.1 ≠ (TX7 b).2.1 := by decide +kernel
theorem tyX7_ok : ∀ k, k < 5 → parseFieldDescriptor (TX7 k).2.2.1 = some (tyX7 k) := by decide +kernel
abbrev cX7_init : ByteArray := prog_9_method_1_code
def yX7_init : MethodName := ⟨RX7, "<init>", "()V"⟩
abbrev cX7_isTold : ByteArray := prog_9_method_2_code
def yX7_isTold : MethodName := ⟨RX7, "isTold", "(I)Z"⟩
abbrev cX7_judges : ByteArray := prog_9_method_3_code
def yX7_judges : MethodName := ⟨RX7, "judges", "(II)Z"⟩
def RX8 : String := "BarMeasure$TipJar"
def TX8 : u_T := fun k => match k with
  | _ => ("BarMeasure$TipJar", "weights", "[I", true)
def tyX8 : Nat → FieldType := fun k => match k with
  | _ => .array .int
abbrev wsX80 : List Cond := u_ws RX8 TX8 1
theorem nmX8 : ∀ a, a < 1 → ∀ b, b < 1 → a ≠ b → (TX8 a).2.1 ≠ (TX8 b).2.1 := by decide +kernel
theorem tyX8_ok : ∀ k, k < 1 → parseFieldDescriptor (TX8 k).2.2.1 = some (tyX8 k) := by decide +kernel
abbrev cX8_init : ByteArray := prog_10_method_1_code
def yX8_init : MethodName := ⟨RX8, "<init>", "()V"⟩
abbrev cX8_shareOf : ByteArray := prog_10_method_2_code
def yX8_shareOf : MethodName := ⟨RX8, "shareOf", "(II)I"⟩
abbrev cX8_cutShare : ByteArray := prog_10_method_3_code
def yX8_cutShare : MethodName := ⟨RX8, "cutShare", "(IIJ)J"⟩
abbrev cX8_rest : ByteArray := prog_10_method_4_code
def yX8_rest : MethodName := ⟨RX8, "rest", "(IIJ)J"⟩
abbrev cX8_aheadOf : ByteArray := prog_10_method_5_code
def yX8_aheadOf : MethodName := ⟨RX8, "aheadOf", "(IIJ)I"⟩
def RX9 : String := "BarMeasure"
def TX9 : u_T := fun k => match k with
  | 0 => ("BarMeasure", "kinds", "[LBarMeasure$Kind;", true)
  | 1 => ("BarMeasure", "kindCount", "I", false)
  | 2 => ("BarMeasure", "recipes", "[LBarMeasure$Recipe;", true)
  | 3 => ("BarMeasure", "recipeCount", "I", false)
  | 4 => ("BarMeasure", "settings", "[I", true)
  | 5 => ("BarMeasure", "sheets", "[LBarMeasure$Sheet;", true)
  | 6 => ("BarMeasure", "tonight", "I", false)
  | 7 => ("BarMeasure", "acts", "LBarMeasure$ActLog;", true)
  | 8 => ("BarMeasure", "takenIn", "[I", true)
  | 9 => ("BarMeasure", "forecast", "LBarMeasure$Forecast;", true)
  | 10 => ("BarMeasure", "priceRules", "[LBarMeasure$PriceRule;", true)
  | 11 => ("BarMeasure", "priceRuleCount", "I", false)
  | 12 => ("BarMeasure", "tipJar", "LBarMeasure$TipJar;", true)
  | _ => ("BarMeasure", "deals", "LBarMeasure$DealBook;", true)
def tyX9 : Nat → FieldType := fun k => match k with
  | 0 => .array (.object "BarMeasure$Kind")
  | 1 => .int
  | 2 => .array (.object "BarMeasure$Recipe")
  | 3 => .int
  | 4 => .array .int
  | 5 => .array (.object "BarMeasure$Sheet")
  | 6 => .int
  | 7 => .object "BarMeasure$ActLog"
  | 8 => .array .int
  | 9 => .object "BarMeasure$Forecast"
  | 10 => .array (.object "BarMeasure$PriceRule")
  | 11 => .int
  | 12 => .object "BarMeasure$TipJar"
  | _ => .object "BarMeasure$DealBook"
abbrev wsX90 : List Cond := u_ws RX9 TX9 14
theorem nmX9 : ∀ a, a < 14 → ∀ b, b < 14 → a ≠ b → (TX9 a).2.1 ≠ (TX9 b).2.1 := by decide +kernel
theorem tyX9_ok : ∀ k, k < 14 → parseFieldDescriptor (TX9 k).2.2.1 = some (tyX9 k) := by decide +kernel
abbrev cX9_init : ByteArray := prog_1_method_1_code
def yX9_init : MethodName := ⟨RX9, "<init>", "()V"⟩
abbrev cX9_kind : ByteArray := prog_1_method_2_code
def yX9_kind : MethodName := ⟨RX9, "kind", "(III)I"⟩
abbrev cX9_recipe : ByteArray := prog_1_method_3_code
def yX9_recipe : MethodName := ⟨RX9, "recipe", "(I)I"⟩
abbrev cX9_part : ByteArray := prog_1_method_4_code
def yX9_part : MethodName := ⟨RX9, "part", "(III)I"⟩
abbrev cX9_rule : ByteArray := prog_1_method_5_code
def yX9_rule : MethodName := ⟨RX9, "rule", "(II)I"⟩
abbrev cX9_receive : ByteArray := prog_1_method_6_code
def yX9_receive : MethodName := ⟨RX9, "receive", "(II)I"⟩
abbrev cX9_issue : ByteArray := prog_1_method_7_code
def yX9_issue : MethodName := ⟨RX9, "issue", "(III)I"⟩
abbrev cX9_lend : ByteArray := prog_1_method_8_code
def yX9_lend : MethodName := ⟨RX9, "lend", "(III)I"⟩
abbrev cX9_sell : ByteArray := prog_1_method_9_code
def yX9_sell : MethodName := ⟨RX9, "sell", "(IIIII)I"⟩
abbrev cX9_lose : ByteArray := prog_1_method_10_code
def yX9_lose : MethodName := ⟨RX9, "lose", "(IIII)I"⟩
abbrev cX9_weigh : ByteArray := prog_1_method_11_code
def yX9_weigh : MethodName := ⟨RX9, "weigh", "(IIII)I"⟩
abbrev cX9_undo : ByteArray := prog_1_method_12_code
def yX9_undo : MethodName := ⟨RX9, "undo", "()I"⟩
abbrev cX9_keeper : ByteArray := prog_1_method_13_code
def yX9_keeper : MethodName := ⟨RX9, "keeper", "(II)I"⟩
abbrev cX9_night : ByteArray := prog_1_method_14_code
def yX9_night : MethodName := ⟨RX9, "night", "()I"⟩
abbrev cX9_has : ByteArray := prog_1_method_15_code
def yX9_has : MethodName := ⟨RX9, "has", "(II)I"⟩
abbrev cX9_all : ByteArray := prog_1_method_16_code
def yX9_all : MethodName := ⟨RX9, "all", "(II)I"⟩
abbrev cX9_gap : ByteArray := prog_1_method_17_code
def yX9_gap : MethodName := ⟨RX9, "gap", "(IIII)I"⟩
abbrev cX9_over : ByteArray := prog_1_method_18_code
def yX9_over : MethodName := ⟨RX9, "over", "(III)J"⟩
abbrev cX9_leans : ByteArray := prog_1_method_19_code
def yX9_leans : MethodName := ⟨RX9, "leans", "(II)I"⟩
abbrev cX9_takings : ByteArray := prog_1_method_20_code
def yX9_takings : MethodName := ⟨RX9, "takings", "(I)I"⟩
abbrev cX9_foretell : ByteArray := prog_1_method_21_code
def yX9_foretell : MethodName := ⟨RX9, "foretell", "(II)I"⟩
abbrev cX9_forget : ByteArray := prog_1_method_22_code
def yX9_forget : MethodName := ⟨RX9, "forget", "()I"⟩
abbrev cX9_press : ByteArray := prog_1_method_23_code
def yX9_press : MethodName := ⟨RX9, "press", "(I)I"⟩
abbrev cX9_makes : ByteArray := prog_1_method_24_code
def yX9_makes : MethodName := ⟨RX9, "makes", "(I)I"⟩
abbrev cX9_fewest : ByteArray := prog_1_method_25_code
def yX9_fewest : MethodName := ⟨RX9, "fewest", "(I)I"⟩
abbrev cX9_most : ByteArray := prog_1_method_26_code
def yX9_most : MethodName := ⟨RX9, "most", "(I)I"⟩
abbrev cX9_priceRule : ByteArray := prog_1_method_27_code
def yX9_priceRule : MethodName := ⟨RX9, "priceRule", "(IIII)I"⟩
abbrev cX9_price : ByteArray := prog_1_method_28_code
def yX9_price : MethodName := ⟨RX9, "price", "(III)I"⟩
abbrev cX9_person : ByteArray := prog_1_method_29_code
def yX9_person : MethodName := ⟨RX9, "person", "(III)I"⟩
abbrev cX9_tips : ByteArray := prog_1_method_30_code
def yX9_tips : MethodName := ⟨RX9, "tips", "(II)I"⟩
abbrev cX9_keg : ByteArray := prog_1_method_31_code
def yX9_keg : MethodName := ⟨RX9, "keg", "(II)I"⟩
abbrev cX9_deal : ByteArray := prog_1_method_32_code
def yX9_deal : MethodName := ⟨RX9, "deal", "(II)I"⟩
abbrev cX9_buy : ByteArray := prog_1_method_33_code
def yX9_buy : MethodName := ⟨RX9, "buy", "(II)I"⟩
abbrev cX9_count : ByteArray := prog_1_method_34_code
def yX9_count : MethodName := ⟨RX9, "count", "(I)I"⟩
abbrev cX9_isIn : ByteArray := prog_1_method_35_code
def yX9_isIn : MethodName := ⟨RX9, "isIn", "(III)Z"⟩
abbrev cX9_isBar : ByteArray := prog_1_method_36_code
def yX9_isBar : MethodName := ⟨RX9, "isBar", "(I)Z"⟩
abbrev cX9_isKeeper : ByteArray := prog_1_method_37_code
def yX9_isKeeper : MethodName := ⟨RX9, "isKeeper", "(I)Z"⟩
abbrev cX9_isTime : ByteArray := prog_1_method_38_code
def yX9_isTime : MethodName := ⟨RX9, "isTime", "(II)Z"⟩
abbrev cX9_isKind : ByteArray := prog_1_method_39_code
def yX9_isKind : MethodName := ⟨RX9, "isKind", "(I)Z"⟩
abbrev cX9_isRecipe : ByteArray := prog_1_method_40_code
def yX9_isRecipe : MethodName := ⟨RX9, "isRecipe", "(I)Z"⟩
abbrev cX9_allKinds : ByteArray := prog_1_method_41_code
def yX9_allKinds : MethodName := ⟨RX9, "allKinds", "()I"⟩
abbrev cX9_sheetOf : ByteArray := prog_1_method_42_code
def yX9_sheetOf : MethodName := ⟨RX9, "sheetOf", "(II)LBarMeasure$Sheet;"⟩
abbrev cX9_sheetsSoFar : ByteArray := prog_1_method_43_code
def yX9_sheetsSoFar : MethodName := ⟨RX9, "sheetsSoFar", "()I"⟩
abbrev cX9_carryOut : ByteArray := prog_1_method_44_code
def yX9_carryOut : MethodName := ⟨RX9, "carryOut", "(IIIII)V"⟩
abbrev cX9_apply : ByteArray := prog_1_method_45_code
def yX9_apply : MethodName := ⟨RX9, "apply", "(LBarMeasure$Act;I)V"⟩
abbrev cX9_applySale : ByteArray := prog_1_method_46_code
def yX9_applySale : MethodName := ⟨RX9, "applySale", "(LBarMeasure$Act;LBarMeasure$Sheet;I)V"⟩
abbrev cX9_spanNow : ByteArray := prog_1_method_47_code
def yX9_spanNow : MethodName := ⟨RX9, "spanNow", "(LBarMeasure$Sheet;I)I"⟩
abbrev cX9_priceAt : ByteArray := prog_1_method_48_code
def yX9_priceAt : MethodName := ⟨RX9, "priceAt", "(III)I"⟩
abbrev cX9_madeBy : ByteArray := prog_1_method_49_code
def yX9_madeBy : MethodName := ⟨RX9, "madeBy", "(I)I"⟩
abbrev cX9_commonDivisor : ByteArray := prog_1_method_50_code
def yX9_commonDivisor : MethodName := ⟨RX9, "commonDivisor", "(JJ)J"⟩
def RX10 : String := "BarMeasureModel"
def TX10 : u_T := fun k => match k with
  | 0 => ("BarMeasureModel", "kinds", "I", false)
  | 1 => ("BarMeasureModel", "tare", "[I", true)
  | 2 => ("BarMeasureModel", "size", "[I", true)
  | 3 => ("BarMeasureModel", "dense", "[I", true)
  | 4 => ("BarMeasureModel", "recipes", "I", false)
  | 5 => ("BarMeasureModel", "price", "[I", true)
  | 6 => ("BarMeasureModel", "parts", "[I", true)
  | 7 => ("BarMeasureModel", "wasSold", "[Z", true)
  | 8 => ("BarMeasureModel", "rules", "[I", true)
  | 9 => ("BarMeasureModel", "store", "[I", true)
  | 10 => ("BarMeasureModel", "book", "[I", true)
  | 11 => ("BarMeasureModel", "nightNow", "I", false)
  | 12 => ("BarMeasureModel", "gaps", "[I", true)
  | 13 => ("BarMeasureModel", "isWeighed", "[Z", true)
  | 14 => ("BarMeasureModel", "drinks", "[I", true)
  | 15 => ("BarMeasureModel", "spans", "[I", true)
  | 16 => ("BarMeasureModel", "keepers", "[I", true)
  | 17 => ("BarMeasureModel", "alls", "[I", true)
  | 18 => ("BarMeasureModel", "takings", "[I", true)
  | 19 => ("BarMeasureModel", "acts", "I", false)
  | 20 => ("BarMeasureModel", "act", "[I", true)
  | 21 => ("BarMeasureModel", "tellings", "I", false)
  | 22 => ("BarMeasureModel", "amounts", "[I", true)
  | 23 => ("BarMeasureModel", "weights", "[I", true)
  | 24 => ("BarMeasureModel", "priceRules", "I", false)
  | 25 => ("BarMeasureModel", "days", "[I", true)
  | 26 => ("BarMeasureModel", "from", "[I", true)
  | 27 => ("BarMeasureModel", "to", "[I", true)
  | 28 => ("BarMeasureModel", "hundredths", "[I", true)
  | 29 => ("BarMeasureModel", "worth", "[I", true)
  | 30 => ("BarMeasureModel", "deals", "I", false)
  | 31 => ("BarMeasureModel", "dealBottles", "[I", true)
  | 32 => ("BarMeasureModel", "dealPrice", "[I", true)
  | _ => ("BarMeasureModel", "least", "[I", true)
def tyX10 : Nat → FieldType := fun k => match k with
  | 0 => .int
  | 1 => .array .int
  | 2 => .array .int
  | 3 => .array .int
  | 4 => .int
  | 5 => .array .int
  | 6 => .array .int
  | 7 => .array .boolean
  | 8 => .array .int
  | 9 => .array .int
  | 10 => .array .int
  | 11 => .int
  | 12 => .array .int
  | 13 => .array .boolean
  | 14 => .array .int
  | 15 => .array .int
  | 16 => .array .int
  | 17 => .array .int
  | 18 => .array .int
  | 19 => .int
  | 20 => .array .int
  | 21 => .int
  | 22 => .array .int
  | 23 => .array .int
  | 24 => .int
  | 25 => .array .int
  | 26 => .array .int
  | 27 => .array .int
  | 28 => .array .int
  | 29 => .array .int
  | 30 => .int
  | 31 => .array .int
  | 32 => .array .int
  | _ => .array .int
abbrev wsX100 : List Cond := u_ws RX10 TX10 34
theorem nmX10 : ∀ a, a < 34 → ∀ b, b < 34 → a ≠ b → (TX10 a).2.1 ≠ (TX10 b).2.1 := by decide +kernel
theorem tyX10_ok : ∀ k, k < 34 → parseFieldDescriptor (TX10 k).2.2.1 = some (tyX10 k) := by decide +kernel
abbrev cX10_init : ByteArray := prog_12_method_1_code
def yX10_init : MethodName := ⟨RX10, "<init>", "()V"⟩
abbrev cX10_in : ByteArray := prog_12_method_2_code
def yX10_in : MethodName := ⟨RX10, "in", "(III)Z"⟩
abbrev cX10_isKind : ByteArray := prog_12_method_3_code
def yX10_isKind : MethodName := ⟨RX10, "isKind", "(I)Z"⟩
abbrev cX10_isRecipe : ByteArray := prog_12_method_4_code
def yX10_isRecipe : MethodName := ⟨RX10, "isRecipe", "(I)Z"⟩
abbrev cX10_isBar : ByteArray := prog_12_method_5_code
def yX10_isBar : MethodName := ⟨RX10, "isBar", "(I)Z"⟩
abbrev cX10_kind : ByteArray := prog_12_method_6_code
def yX10_kind : MethodName := ⟨RX10, "kind", "(III)I"⟩
abbrev cX10_recipe : ByteArray := prog_12_method_7_code
def yX10_recipe : MethodName := ⟨RX10, "recipe", "(I)I"⟩
abbrev cX10_part : ByteArray := prog_12_method_8_code
def yX10_part : MethodName := ⟨RX10, "part", "(III)I"⟩
abbrev cX10_top : ByteArray := prog_12_method_9_code
def yX10_top : MethodName := ⟨RX10, "top", "(I)I"⟩
abbrev cX10_rule : ByteArray := prog_12_method_10_code
def yX10_rule : MethodName := ⟨RX10, "rule", "(II)I"⟩
abbrev cX10_keeps : ByteArray := prog_12_method_11_code
def yX10_keeps : MethodName := ⟨RX10, "keeps", "(IIIIII)V"⟩
abbrev cX10_at : ByteArray := prog_12_method_12_code
def yX10_at : MethodName := ⟨RX10, "at", "(III)I"⟩
abbrev cX10_receives : ByteArray := prog_12_method_13_code
def yX10_receives : MethodName := ⟨RX10, "receives", "(II)V"⟩
abbrev cX10_issues : ByteArray := prog_12_method_14_code
def yX10_issues : MethodName := ⟨RX10, "issues", "(III)V"⟩
abbrev cX10_lends : ByteArray := prog_12_method_15_code
def yX10_lends : MethodName := ⟨RX10, "lends", "(III)V"⟩
abbrev cX10_sells : ByteArray := prog_12_method_16_code
def yX10_sells : MethodName := ⟨RX10, "sells", "(IIII)V"⟩
abbrev cX10_loses : ByteArray := prog_12_method_17_code
def yX10_loses : MethodName := ⟨RX10, "loses", "(IIII)V"⟩
abbrev cX10_receive : ByteArray := prog_12_method_18_code
def yX10_receive : MethodName := ⟨RX10, "receive", "(II)I"⟩
abbrev cX10_issue : ByteArray := prog_12_method_19_code
def yX10_issue : MethodName := ⟨RX10, "issue", "(III)I"⟩
abbrev cX10_lend : ByteArray := prog_12_method_20_code
def yX10_lend : MethodName := ⟨RX10, "lend", "(III)I"⟩
abbrev cX10_sell : ByteArray := prog_12_method_21_code
def yX10_sell : MethodName := ⟨RX10, "sell", "(IIIII)I"⟩
abbrev cX10_lose : ByteArray := prog_12_method_22_code
def yX10_lose : MethodName := ⟨RX10, "lose", "(IIII)I"⟩
abbrev cX10_weigh : ByteArray := prog_12_method_23_code
def yX10_weigh : MethodName := ⟨RX10, "weigh", "(IIII)I"⟩
abbrev cX10_undo : ByteArray := prog_12_method_24_code
def yX10_undo : MethodName := ⟨RX10, "undo", "()I"⟩
abbrev cX10_keeper : ByteArray := prog_12_method_25_code
def yX10_keeper : MethodName := ⟨RX10, "keeper", "(II)I"⟩
abbrev cX10_night : ByteArray := prog_12_method_26_code
def yX10_night : MethodName := ⟨RX10, "night", "()I"⟩
abbrev cX10_has : ByteArray := prog_12_method_27_code
def yX10_has : MethodName := ⟨RX10, "has", "(II)I"⟩
abbrev cX10_all : ByteArray := prog_12_method_28_code
def yX10_all : MethodName := ⟨RX10, "all", "(II)I"⟩
abbrev cX10_spanOf : ByteArray := prog_12_method_29_code
def yX10_spanOf : MethodName := ⟨RX10, "spanOf", "(I)I"⟩
abbrev cX10_spanNow : ByteArray := prog_12_method_30_code
def yX10_spanNow : MethodName := ⟨RX10, "spanNow", "(I)I"⟩
abbrev cX10_isTold : ByteArray := prog_12_method_31_code
def yX10_isTold : MethodName := ⟨RX10, "isTold", "(I)Z"⟩
abbrev cX10_gap : ByteArray := prog_12_method_32_code
def yX10_gap : MethodName := ⟨RX10, "gap", "(IIII)I"⟩
abbrev cX10_counts : ByteArray := prog_12_method_33_code
def yX10_counts : MethodName := ⟨RX10, "counts", "(IIII)Z"⟩
abbrev cX10_common : ByteArray := prog_12_method_34_code
def yX10_common : MethodName := ⟨RX10, "common", "(JJ)J"⟩
abbrev cX10_over : ByteArray := prog_12_method_35_code
def yX10_over : MethodName := ⟨RX10, "over", "(III)J"⟩
abbrev cX10_leans : ByteArray := prog_12_method_36_code
def yX10_leans : MethodName := ⟨RX10, "leans", "(II)I"⟩
abbrev cX10_takings : ByteArray := prog_12_method_37_code
def yX10_takings : MethodName := ⟨RX10, "takings", "(I)I"⟩
abbrev cX10_foretell : ByteArray := prog_12_method_38_code
def yX10_foretell : MethodName := ⟨RX10, "foretell", "(II)I"⟩
abbrev cX10_forget : ByteArray := prog_12_method_39_code
def yX10_forget : MethodName := ⟨RX10, "forget", "()I"⟩
abbrev cX10_costOf : ByteArray := prog_12_method_40_code
def yX10_costOf : MethodName := ⟨RX10, "costOf", "(I)I"⟩
abbrev cX10_press : ByteArray := prog_12_method_41_code
def yX10_press : MethodName := ⟨RX10, "press", "(I)I"⟩
abbrev cX10_madeBy : ByteArray := prog_12_method_42_code
def yX10_madeBy : MethodName := ⟨RX10, "madeBy", "(I)I"⟩
abbrev cX10_bits : ByteArray := prog_12_method_43_code
def yX10_bits : MethodName := ⟨RX10, "bits", "(I)I"⟩
abbrev cX10_makes : ByteArray := prog_12_method_44_code
def yX10_makes : MethodName := ⟨RX10, "makes", "(I)I"⟩
abbrev cX10_fewest : ByteArray := prog_12_method_45_code
def yX10_fewest : MethodName := ⟨RX10, "fewest", "(I)I"⟩
abbrev cX10_most : ByteArray := prog_12_method_46_code
def yX10_most : MethodName := ⟨RX10, "most", "(I)I"⟩
abbrev cX10_priceRule : ByteArray := prog_12_method_47_code
def yX10_priceRule : MethodName := ⟨RX10, "priceRule", "(IIII)I"⟩
abbrev cX10_holds : ByteArray := prog_12_method_48_code
def yX10_holds : MethodName := ⟨RX10, "holds", "(III)Z"⟩
abbrev cX10_priceOf : ByteArray := prog_12_method_49_code
def yX10_priceOf : MethodName := ⟨RX10, "priceOf", "(III)I"⟩
abbrev cX10_price : ByteArray := prog_12_method_50_code
def yX10_price : MethodName := ⟨RX10, "price", "(III)I"⟩
abbrev cX10_person : ByteArray := prog_12_method_51_code
def yX10_person : MethodName := ⟨RX10, "person", "(III)I"⟩
abbrev cX10_tips : ByteArray := prog_12_method_52_code
def yX10_tips : MethodName := ⟨RX10, "tips", "(II)I"⟩
abbrev cX10_keg : ByteArray := prog_12_method_53_code
def yX10_keg : MethodName := ⟨RX10, "keg", "(II)I"⟩
abbrev cX10_deal : ByteArray := prog_12_method_54_code
def yX10_deal : MethodName := ⟨RX10, "deal", "(II)I"⟩
abbrev cX10_buy : ByteArray := prog_12_method_55_code
def yX10_buy : MethodName := ⟨RX10, "buy", "(II)I"⟩
abbrev cX10_count : ByteArray := prog_12_method_56_code
def yX10_count : MethodName := ⟨RX10, "count", "(I)I"⟩
def RJx8e188 : String := "java/lang/Cloneable"
def TJx8e188 : u_T := fun k => match k with
  | _ => ("", "", "", false)
def tyJx8e188 : Nat → FieldType := fun k => match k with
  | _ => .int
abbrev wsJx8e1880 : List Cond := u_ws RJx8e188 TJx8e188 0
theorem nmJx8e188 : ∀ a, a < 0 → ∀ b, b < 0 → a ≠ b → (TJx8e188 a).2.1 ≠ (TJx8e188 b).2.1 := by decide +kernel
theorem tyJx8e188_ok : ∀ k, k < 0 → parseFieldDescriptor (TJx8e188 k).2.2.1 = some (tyJx8e188 k) := by decide +kernel
def RJ6 : String := "java/lang/Integer"
def TJ6 : u_T := fun k => match k with
  | _ => ("", "", "", false)
def tyJ6 : Nat → FieldType := fun k => match k with
  | _ => .int
abbrev wsJ60 : List Cond := u_ws RJ6 TJ6 0
theorem nmJ6 : ∀ a, a < 0 → ∀ b, b < 0 → a ≠ b → (TJ6 a).2.1 ≠ (TJ6 b).2.1 := by decide +kernel
theorem tyJ6_ok : ∀ k, k < 0 → parseFieldDescriptor (TJ6 k).2.2.1 = some (tyJ6 k) := by decide +kernel
abbrev cJ6_bitCount_0f7a4 : ByteArray := prog_14_method_49_code
def yJ6_bitCount_0f7a4 : MethodName := ⟨RJ6, "bitCount", "(I)I"⟩
def RJ9 : String := "java/lang/Math"
def TJ9 : u_T := fun k => match k with
  | _ => ("", "", "", false)
def tyJ9 : Nat → FieldType := fun k => match k with
  | _ => .int
abbrev wsJ90 : List Cond := u_ws RJ9 TJ9 0
theorem nmJ9 : ∀ a, a < 0 → ∀ b, b < 0 → a ≠ b → (TJ9 a).2.1 ≠ (TJ9 b).2.1 := by decide +kernel
theorem tyJ9_ok : ∀ k, k < 0 → parseFieldDescriptor (TJ9 k).2.2.1 = some (tyJ9 k) := by decide +kernel
abbrev cJ9_abs_0f7a4 : ByteArray := prog_15_method_59_code
def yJ9_abs_0f7a4 : MethodName := ⟨RJ9, "abs", "(I)I"⟩
abbrev cJ9_abs_067f4 : ByteArray := prog_15_method_61_code
def yJ9_abs_067f4 : MethodName := ⟨RJ9, "abs", "(J)J"⟩
abbrev cJ9_max_7cf53 : ByteArray := prog_15_method_65_code
def yJ9_max_7cf53 : MethodName := ⟨RJ9, "max", "(II)I"⟩
abbrev cJ9_min_7cf53 : ByteArray := prog_15_method_69_code
def yJ9_min_7cf53 : MethodName := ⟨RJ9, "min", "(II)I"⟩
def RL : String := "BarMeasureLaw"
abbrev cL_law : ByteArray := code
def yL_law : MethodName := ⟨RL, "law", "([I)Z"⟩
def wsX0_init : List Cond := .code yX0_init cX0_init 1 none :: ([.methodLink RX0 1 objectInit, .instanceMethod objectInit, .code objectInit ⟨#[0xb1]⟩ 1 none, .fieldLink RX0 7 "BarMeasure$Act" "what" "I", .fieldLink RX0 13 "BarMeasure$Act" "bar" "I", .fieldLink RX0 16 "BarMeasure$Act" "thing" "I", .fieldLink RX0 19 "BarMeasure$Act" "amount" "I", .fieldLink RX0 22 "BarMeasure$Act" "cost" "I"] ++ wsX00)
def wsX1_init : List Cond := .code yX1_init cX1_init 2 none :: ([.methodLink RX1 3 objectInit, .instanceMethod objectInit, .code objectInit ⟨#[0xb1]⟩ 1 none, .classLink RX1 9 RX0, .fieldLink RX1 11 "BarMeasure$ActLog" "rows" "[LBarMeasure$Act;", .fieldLink RX1 17 "BarMeasure$ActLog" "kept" "I", .fieldLink RX1 21 "BarMeasure$ActLog" "next" "I", .instantiable RX0 5, .initialized RX0, .instanceMethod yX0_init, .code yX0_init cX0_init 1 none, .methodLink RX0 1 objectInit, .fieldLink RX0 7 "BarMeasure$Act" "what" "I", .fieldLink RX0 13 "BarMeasure$Act" "bar" "I", .fieldLink RX0 16 "BarMeasure$Act" "thing" "I", .fieldLink RX0 19 "BarMeasure$Act" "amount" "I", .fieldLink RX0 22 "BarMeasure$Act" "cost" "I"] ++ wsX10 ++ wsX00)
def wsX1_nextRow : List Cond := .code yX1_nextRow cX1_nextRow 2 (some (.object "BarMeasure$Act")) :: ([.fieldLink RX1 11 "BarMeasure$ActLog" "rows" "[LBarMeasure$Act;", .fieldLink RX1 21 "BarMeasure$ActLog" "next" "I", .fieldLink RX1 17 "BarMeasure$ActLog" "kept" "I", .methodLink RX1 25 Lib.Math.min.name, .static Lib.Math.min.name, .initialized "java/lang/Math", .code Lib.Math.min.name Lib.Math.min.code 2 (some .int)] ++ wsX10)
def wsX1_takeLatest : List Cond := .code yX1_takeLatest cX1_takeLatest 1 (some (.object "BarMeasure$Act")) :: ([.fieldLink RX1 21 "BarMeasure$ActLog" "next" "I", .fieldLink RX1 17 "BarMeasure$ActLog" "kept" "I", .fieldLink RX1 11 "BarMeasure$ActLog" "rows" "[LBarMeasure$Act;"] ++ wsX10)
def wsX2_init : List Cond := .code yX2_init cX2_init 1 none :: ([.methodLink RX2 5 objectInit, .instanceMethod objectInit, .code objectInit ⟨#[0xb1]⟩ 1 none, .arrayClass .int, .fieldLink RX2 11 "BarMeasure$DealBook" "bottles" "[I", .fieldLink RX2 15 "BarMeasure$DealBook" "prices" "[I", .fieldLink RX2 18 "BarMeasure$DealBook" "told" "I", .classLink RX2 22 "[[I", .fieldLink RX2 24 "BarMeasure$DealBook" "least" "[[I"] ++ wsX20)
def wsX2_add : List Cond := .code yX2_add cX2_add 3 none :: ([.fieldLink RX2 11 "BarMeasure$DealBook" "bottles" "[I", .fieldLink RX2 18 "BarMeasure$DealBook" "told" "I", .fieldLink RX2 15 "BarMeasure$DealBook" "prices" "[I"] ++ wsX20)
def wsX2_priceWithOneMore : List Cond := .code yX2_priceWithOneMore cX2_priceWithOneMore 3 (some .int) :: ([.fieldLink RX2 11 "BarMeasure$DealBook" "bottles" "[I", .constant RX2 27 (1000000000), .fieldLink RX2 24 "BarMeasure$DealBook" "least" "[[I", .fieldLink RX2 15 "BarMeasure$DealBook" "prices" "[I"] ++ wsX20)
def wsX2_weighUp : List Cond := .code yX2_weighUp cX2_weighUp 3 none :: ([.fieldLink RX2 24 "BarMeasure$DealBook" "least" "[[I", .fieldLink RX2 18 "BarMeasure$DealBook" "told" "I", .constant RX2 27 (1000000000), .methodLink RX2 32 Lib.Math.min.name, .static Lib.Math.min.name, .initialized "java/lang/Math", .code Lib.Math.min.name Lib.Math.min.code 2 (some .int), .methodLink RX2 28 yX2_priceWithOneMore, .instanceMethod yX2_priceWithOneMore, .selects RX2 yX2_priceWithOneMore yX2_priceWithOneMore, .initialized RX2, .code yX2_priceWithOneMore cX2_priceWithOneMore 3 (some .int), .fieldLink RX2 11 "BarMeasure$DealBook" "bottles" "[I", .fieldLink RX2 15 "BarMeasure$DealBook" "prices" "[I"] ++ wsX20)
def wsX2_leastFor : List Cond := .code yX2_leastFor cX2_leastFor 2 (some .int) :: ([.fieldLink RX2 24 "BarMeasure$DealBook" "least" "[[I"] ++ wsX20)
def wsX2_bestBottles : List Cond := .code yX2_bestBottles cX2_bestBottles 4 (some .int) :: ([.fieldLink RX2 24 "BarMeasure$DealBook" "least" "[[I"] ++ wsX20)
def wsX2_mostTimes : List Cond := .code yX2_mostTimes cX2_mostTimes 5 (some .int) :: ([.fieldLink RX2 11 "BarMeasure$DealBook" "bottles" "[I", .fieldLink RX2 24 "BarMeasure$DealBook" "least" "[[I", .methodLink RX2 28 yX2_priceWithOneMore, .instanceMethod yX2_priceWithOneMore, .selects RX2 yX2_priceWithOneMore yX2_priceWithOneMore, .initialized RX2, .code yX2_priceWithOneMore cX2_priceWithOneMore 3 (some .int), .constant RX2 27 (1000000000), .fieldLink RX2 15 "BarMeasure$DealBook" "prices" "[I"] ++ wsX20)
def wsX2_timesOf : List Cond := .code yX2_timesOf cX2_timesOf 6 (some .int) :: ([.fieldLink RX2 11 "BarMeasure$DealBook" "bottles" "[I", .methodLink RX2 37 yX2_mostTimes, .instanceMethod yX2_mostTimes, .selects RX2 yX2_mostTimes yX2_mostTimes, .initialized RX2, .code yX2_mostTimes cX2_mostTimes 5 (some .int), .fieldLink RX2 24 "BarMeasure$DealBook" "least" "[[I", .methodLink RX2 28 yX2_priceWithOneMore, .instanceMethod yX2_priceWithOneMore, .selects RX2 yX2_priceWithOneMore yX2_priceWithOneMore, .code yX2_priceWithOneMore cX2_priceWithOneMore 3 (some .int), .constant RX2 27 (1000000000), .fieldLink RX2 15 "BarMeasure$DealBook" "prices" "[I"] ++ wsX20)
def wsX3_init : List Cond := .code yX3_init cX3_init 1 none :: ([.methodLink RX3 3 objectInit, .instanceMethod objectInit, .code objectInit ⟨#[0xb1]⟩ 1 none, .arrayClass .int, .fieldLink RX3 9 "BarMeasure$Forecast" "amounts" "[I", .fieldLink RX3 15 "BarMeasure$Forecast" "weights" "[I", .fieldLink RX3 18 "BarMeasure$Forecast" "told" "I"] ++ wsX30)
def wsX3_add : List Cond := .code yX3_add cX3_add 3 none :: ([.fieldLink RX3 9 "BarMeasure$Forecast" "amounts" "[I", .fieldLink RX3 18 "BarMeasure$Forecast" "told" "I", .fieldLink RX3 15 "BarMeasure$Forecast" "weights" "[I"] ++ wsX30)
def wsX3_costOf : List Cond := .code yX3_costOf cX3_costOf 8 (some .int) :: ([.fieldLink RX3 18 "BarMeasure$Forecast" "told" "I", .fieldLink RX3 9 "BarMeasure$Forecast" "amounts" "[I", .methodLink RX3 22 Lib.Math.max.name, .static Lib.Math.max.name, .initialized "java/lang/Math", .code Lib.Math.max.name Lib.Math.max.code 2 (some .int), .fieldLink RX3 15 "BarMeasure$Forecast" "weights" "[I"] ++ wsX30)
def wsX3_par : List Cond := .code yX3_par cX3_par 7 (some .int) :: ([.methodLink RX3 28 yX3_costOf, .instanceMethod yX3_costOf, .selects RX3 yX3_costOf yX3_costOf, .initialized RX3, .code yX3_costOf cX3_costOf 8 (some .int), .fieldLink RX3 18 "BarMeasure$Forecast" "told" "I", .fieldLink RX3 9 "BarMeasure$Forecast" "amounts" "[I", .methodLink RX3 22 Lib.Math.max.name, .static Lib.Math.max.name, .initialized "java/lang/Math", .code Lib.Math.max.name Lib.Math.max.code 2 (some .int), .fieldLink RX3 15 "BarMeasure$Forecast" "weights" "[I"] ++ wsX30)
def wsX4_init : List Cond := .code yX4_init cX4_init 1 none :: ([.methodLink RX4 3 objectInit, .instanceMethod objectInit, .code objectInit ⟨#[0xb1]⟩ 1 none, .fieldLink RX4 9 "BarMeasure$Kind" "tare" "I", .fieldLink RX4 15 "BarMeasure$Kind" "size" "I", .fieldLink RX4 18 "BarMeasure$Kind" "dense" "I", .fieldLink RX4 21 "BarMeasure$Kind" "stored" "I", .fieldLink RX4 24 "BarMeasure$Kind" "received" "I", .arrayClass .int, .fieldLink RX4 27 "BarMeasure$Kind" "books" "[I", .fieldLink RX4 31 "BarMeasure$Kind" "gone" "[I"] ++ wsX40)
def wsX4_found : List Cond := .code yX4_found cX4_found 3 (some .int) :: ([.fieldLink RX4 15 "BarMeasure$Kind" "size" "I", .fieldLink RX4 9 "BarMeasure$Kind" "tare" "I", .methodLink RX4 34 Lib.Math.max.name, .static Lib.Math.max.name, .initialized "java/lang/Math", .code Lib.Math.max.name Lib.Math.max.code 2 (some .int), .fieldLink RX4 18 "BarMeasure$Kind" "dense" "I"] ++ wsX40)
def wsX4_mlOfScale : List Cond := .code yX4_mlOfScale cX4_mlOfScale 2 (some .int) :: ([.fieldLink RX4 18 "BarMeasure$Kind" "dense" "I"] ++ wsX40)
def wsX4_move : List Cond := .code yX4_move cX4_move 4 none :: ([.fieldLink RX4 21 "BarMeasure$Kind" "stored" "I", .fieldLink RX4 24 "BarMeasure$Kind" "received" "I", .fieldLink RX4 27 "BarMeasure$Kind" "books" "[I", .fieldLink RX4 15 "BarMeasure$Kind" "size" "I", .fieldLink RX4 31 "BarMeasure$Kind" "gone" "[I"] ++ wsX40)
def wsX5_init : List Cond := .code yX5_init cX5_init 1 none :: ([.methodLink RX5 3 objectInit, .instanceMethod objectInit, .code objectInit ⟨#[0xb1]⟩ 1 none, .fieldLink RX5 9 "BarMeasure$PriceRule" "days" "I", .fieldLink RX5 15 "BarMeasure$PriceRule" "from" "I", .fieldLink RX5 18 "BarMeasure$PriceRule" "to" "I", .fieldLink RX5 21 "BarMeasure$PriceRule" "hundredths" "I"] ++ wsX50)
def wsX5_hasDay : List Cond := .code yX5_hasDay cX5_hasDay 2 (some .boolean) :: ([.fieldLink RX5 9 "BarMeasure$PriceRule" "days" "I"] ++ wsX50)
def wsX5_holds : List Cond := .code yX5_holds cX5_holds 4 (some .boolean) :: ([.fieldLink RX5 15 "BarMeasure$PriceRule" "from" "I", .fieldLink RX5 18 "BarMeasure$PriceRule" "to" "I", .methodLink RX5 24 yX5_hasDay, .instanceMethod yX5_hasDay, .selects RX5 yX5_hasDay yX5_hasDay, .initialized RX5, .code yX5_hasDay cX5_hasDay 2 (some .boolean), .fieldLink RX5 9 "BarMeasure$PriceRule" "days" "I"] ++ wsX50)
def wsX6_init : List Cond := .code yX6_init cX6_init 1 none :: ([.methodLink RX6 3 objectInit, .instanceMethod objectInit, .code objectInit ⟨#[0xb1]⟩ 1 none, .fieldLink RX6 9 "BarMeasure$Recipe" "listPrice" "I", .fieldLink RX6 15 "BarMeasure$Recipe" "lastSold" "I", .fieldLink RX6 18 "BarMeasure$Recipe" "needed" "I", .arrayClass .int, .fieldLink RX6 21 "BarMeasure$Recipe" "parts" "[I"] ++ wsX60)
def wsX6_putParts : List Cond := .code yX6_putParts cX6_putParts 4 (some .int) :: ([.fieldLink RX6 21 "BarMeasure$Recipe" "parts" "[I", .fieldLink RX6 18 "BarMeasure$Recipe" "needed" "I"] ++ wsX60)
def wsX6_canBeMadeBy : List Cond := .code yX6_canBeMadeBy cX6_canBeMadeBy 2 (some .boolean) :: ([.fieldLink RX6 18 "BarMeasure$Recipe" "needed" "I"] ++ wsX60)
def wsX7_init : List Cond := .code yX7_init cX7_init 1 none :: ([.methodLink RX7 3 objectInit, .instanceMethod objectInit, .code objectInit ⟨#[0xb1]⟩ 1 none, .fieldLink RX7 9 "BarMeasure$Sheet" "keptBy" "I", .arrayClass .int, .fieldLink RX7 15 "BarMeasure$Sheet" "drinks" "[I", .arrayClass .boolean, .fieldLink RX7 19 "BarMeasure$Sheet" "weighed" "[Z", .fieldLink RX7 23 "BarMeasure$Sheet" "gaps" "[I", .fieldLink RX7 26 "BarMeasure$Sheet" "spans" "[I"] ++ wsX70)
def wsX7_isTold : List Cond := .code yX7_isTold cX7_isTold 2 (some .boolean) :: ([.fieldLink RX7 19 "BarMeasure$Sheet" "weighed" "[Z", .fieldLink RX7 23 "BarMeasure$Sheet" "gaps" "[I", .methodLink RX7 29 Lib.Math.abs.name, .static Lib.Math.abs.name, .initialized "java/lang/Math", .code Lib.Math.abs.name Lib.Math.abs.code 1 (some .int), .fieldLink RX7 26 "BarMeasure$Sheet" "spans" "[I"] ++ wsX70)
def wsX7_judges : List Cond := .code yX7_judges cX7_judges 3 (some .boolean) :: ([.fieldLink RX7 9 "BarMeasure$Sheet" "keptBy" "I", .fieldLink RX7 19 "BarMeasure$Sheet" "weighed" "[Z", .fieldLink RX7 15 "BarMeasure$Sheet" "drinks" "[I"] ++ wsX70)
def wsX8_init : List Cond := .code yX8_init cX8_init 1 none :: ([.methodLink RX8 3 objectInit, .instanceMethod objectInit, .code objectInit ⟨#[0xb1]⟩ 1 none, .arrayClass .int, .fieldLink RX8 9 "BarMeasure$TipJar" "weights" "[I"] ++ wsX80)
def wsX8_cutShare : List Cond := .code yX8_cutShare cX8_cutShare 5 (some .long) :: ([.fieldLink RX8 9 "BarMeasure$TipJar" "weights" "[I"] ++ wsX80)
def wsX8_rest : List Cond := .code yX8_rest cX8_rest 5 (some .long) :: ([.fieldLink RX8 9 "BarMeasure$TipJar" "weights" "[I"] ++ wsX80)
def wsX8_aheadOf : List Cond := .code yX8_aheadOf cX8_aheadOf 11 (some .int) :: ([.methodLink RX8 23 yX8_rest, .instanceMethod yX8_rest, .selects RX8 yX8_rest yX8_rest, .initialized RX8, .code yX8_rest cX8_rest 5 (some .long), .fieldLink RX8 9 "BarMeasure$TipJar" "weights" "[I"] ++ wsX80)
def wsX8_shareOf : List Cond := .code yX8_shareOf cX8_shareOf 8 (some .int) :: ([.fieldLink RX8 9 "BarMeasure$TipJar" "weights" "[I", .methodLink RX8 15 yX8_cutShare, .instanceMethod yX8_cutShare, .selects RX8 yX8_cutShare yX8_cutShare, .initialized RX8, .code yX8_cutShare cX8_cutShare 5 (some .long), .methodLink RX8 19 yX8_aheadOf, .instanceMethod yX8_aheadOf, .selects RX8 yX8_aheadOf yX8_aheadOf, .code yX8_aheadOf cX8_aheadOf 11 (some .int), .methodLink RX8 23 yX8_rest, .instanceMethod yX8_rest, .selects RX8 yX8_rest yX8_rest, .code yX8_rest cX8_rest 5 (some .long)] ++ wsX80)
def wsX9_init_r1 : List Cond := [Cond.methodLink RX9 1 objectInit, Cond.instanceMethod objectInit, Cond.code objectInit ⟨#[0xb1]⟩ 1 none, Cond.classLink RX9 9 RX4, Cond.fieldLink RX9 11 "BarMeasure" "kinds" "[LBarMeasure$Kind;", Cond.fieldLink RX9 15 "BarMeasure" "kindCount" "I", Cond.classLink RX9 19 RX6, Cond.fieldLink RX9 21 "BarMeasure" "recipes" "[LBarMeasure$Recipe;", Cond.fieldLink RX9 25 "BarMeasure" "recipeCount" "I", Cond.fieldLink RX9 28 "BarMeasure" "SETTING_AT_FIRST" "[I", Cond.methodLink RX9 32 ⟨"[I", "clone", "()Ljava/lang/Object;"⟩, Cond.sameMethod "[I" "java/lang/Object" "clone" "()Ljava/lang/Object;", Cond.native ⟨"java/lang/Object", "clone", "()Ljava/lang/Object;"⟩, Cond.instanceMethod ⟨"java/lang/Object", "clone", "()Ljava/lang/Object;"⟩, Cond.selects "[I" ⟨"[I", "clone", "()Ljava/lang/Object;"⟩ ⟨"java/lang/Object", "clone", "()Ljava/lang/Object;"⟩, Cond.classLink RX9 33 "[I", Cond.fieldLink RX9 37 "BarMeasure" "settings" "[I", Cond.classLink RX9 40 RX7, Cond.fieldLink RX9 42 "BarMeasure" "sheets" "[LBarMeasure$Sheet;", Cond.fieldLink RX9 46 "BarMeasure" "tonight" "I", Cond.classLink RX9 49 RX1, Cond.instantiable RX1 3, Cond.initialized RX1, Cond.fieldLink RX9 52 "BarMeasure" "acts" "LBarMeasure$ActLog;"]
def wsX9_init_r2 : List Cond := [Cond.arrayClass .int, Cond.fieldLink RX9 56 "BarMeasure" "takenIn" "[I", Cond.classLink RX9 59 RX3, Cond.instantiable RX3 3, Cond.initialized RX3, Cond.fieldLink RX9 62 "BarMeasure" "forecast" "LBarMeasure$Forecast;", Cond.classLink RX9 66 RX5, Cond.fieldLink RX9 68 "BarMeasure" "priceRules" "[LBarMeasure$PriceRule;", Cond.fieldLink RX9 72 "BarMeasure" "priceRuleCount" "I", Cond.classLink RX9 75 RX8, Cond.instantiable RX8 1, Cond.initialized RX8, Cond.fieldLink RX9 78 "BarMeasure" "tipJar" "LBarMeasure$TipJar;", Cond.classLink RX9 82 RX2, Cond.instantiable RX2 4, Cond.initialized RX2, Cond.fieldLink RX9 85 "BarMeasure" "deals" "LBarMeasure$DealBook;", Cond.instantiable RX4 7, Cond.initialized RX4, Cond.instantiable RX6 4, Cond.initialized RX6, Cond.instantiable RX7 5, Cond.initialized RX7, Cond.instantiable RX5 4]
def wsX9_init_r3 : List Cond := [Cond.initialized RX5, Cond.methodLink RX9 51 yX1_init, Cond.instanceMethod yX1_init, Cond.code yX1_init cX1_init 2 none, Cond.methodLink RX1 3 objectInit, Cond.classLink RX1 9 RX0, Cond.fieldLink RX1 11 "BarMeasure$ActLog" "rows" "[LBarMeasure$Act;", Cond.fieldLink RX1 17 "BarMeasure$ActLog" "kept" "I", Cond.fieldLink RX1 21 "BarMeasure$ActLog" "next" "I", Cond.instantiable RX0 5, Cond.initialized RX0, Cond.instanceMethod yX0_init, Cond.code yX0_init cX0_init 1 none, Cond.methodLink RX0 1 objectInit, Cond.fieldLink RX0 7 "BarMeasure$Act" "what" "I", Cond.fieldLink RX0 13 "BarMeasure$Act" "bar" "I", Cond.fieldLink RX0 16 "BarMeasure$Act" "thing" "I", Cond.fieldLink RX0 19 "BarMeasure$Act" "amount" "I", Cond.fieldLink RX0 22 "BarMeasure$Act" "cost" "I", Cond.instanceMethod yX3_init, Cond.code yX3_init cX3_init 1 none, Cond.methodLink RX3 3 objectInit, Cond.fieldLink RX3 9 "BarMeasure$Forecast" "amounts" "[I", Cond.fieldLink RX3 15 "BarMeasure$Forecast" "weights" "[I"]
def wsX9_init_r4 : List Cond := [Cond.fieldLink RX3 18 "BarMeasure$Forecast" "told" "I", Cond.instanceMethod yX8_init, Cond.code yX8_init cX8_init 1 none, Cond.methodLink RX8 3 objectInit, Cond.fieldLink RX8 9 "BarMeasure$TipJar" "weights" "[I", Cond.instanceMethod yX2_init, Cond.code yX2_init cX2_init 1 none, Cond.methodLink RX2 5 objectInit, Cond.fieldLink RX2 11 "BarMeasure$DealBook" "bottles" "[I", Cond.fieldLink RX2 15 "BarMeasure$DealBook" "prices" "[I", Cond.fieldLink RX2 18 "BarMeasure$DealBook" "told" "I", Cond.classLink RX2 22 "[[I", Cond.fieldLink RX2 24 "BarMeasure$DealBook" "least" "[[I", Cond.instanceMethod yX4_init, Cond.code yX4_init cX4_init 1 none, Cond.methodLink RX4 3 objectInit, Cond.fieldLink RX4 9 "BarMeasure$Kind" "tare" "I", Cond.fieldLink RX4 15 "BarMeasure$Kind" "size" "I", Cond.fieldLink RX4 18 "BarMeasure$Kind" "dense" "I", Cond.fieldLink RX4 21 "BarMeasure$Kind" "stored" "I", Cond.fieldLink RX4 24 "BarMeasure$Kind" "received" "I", Cond.fieldLink RX4 27 "BarMeasure$Kind" "books" "[I", Cond.fieldLink RX4 31 "BarMeasure$Kind" "gone" "[I", Cond.instanceMethod yX6_init]
def wsX9_init_r5 : List Cond := [Cond.code yX6_init cX6_init 1 none, Cond.methodLink RX6 3 objectInit, Cond.fieldLink RX6 9 "BarMeasure$Recipe" "listPrice" "I", Cond.fieldLink RX6 15 "BarMeasure$Recipe" "lastSold" "I", Cond.fieldLink RX6 18 "BarMeasure$Recipe" "needed" "I", Cond.fieldLink RX6 21 "BarMeasure$Recipe" "parts" "[I", Cond.instanceMethod yX7_init, Cond.code yX7_init cX7_init 1 none, Cond.methodLink RX7 3 objectInit, Cond.fieldLink RX7 9 "BarMeasure$Sheet" "keptBy" "I", Cond.fieldLink RX7 15 "BarMeasure$Sheet" "drinks" "[I", Cond.arrayClass .boolean, Cond.fieldLink RX7 19 "BarMeasure$Sheet" "weighed" "[Z", Cond.fieldLink RX7 23 "BarMeasure$Sheet" "gaps" "[I", Cond.fieldLink RX7 26 "BarMeasure$Sheet" "spans" "[I", Cond.instanceMethod yX5_init, Cond.code yX5_init cX5_init 1 none, Cond.methodLink RX5 3 objectInit, Cond.fieldLink RX5 9 "BarMeasure$PriceRule" "days" "I", Cond.fieldLink RX5 15 "BarMeasure$PriceRule" "from" "I", Cond.fieldLink RX5 18 "BarMeasure$PriceRule" "to" "I", Cond.fieldLink RX5 21 "BarMeasure$PriceRule" "hundredths" "I"]
def wsX9_init : List Cond := .code yX9_init cX9_init 2 none :: ((wsX9_init_r1 ++ (wsX9_init_r2 ++ (wsX9_init_r3 ++ (wsX9_init_r4 ++ wsX9_init_r5)))) ++ wsX90 ++ wsX10 ++ wsX30 ++ wsX80 ++ wsX20 ++ wsX40 ++ wsX60 ++ wsX70 ++ wsX50 ++ wsX00)
def wsX9_isIn : List Cond := .code yX9_isIn cX9_isIn 3 (some .boolean) :: ([])
def wsX9_kind : List Cond := .code yX9_kind cX9_kind 5 (some .int) :: ([.fieldLink RX9 15 "BarMeasure" "kindCount" "I", .fieldLink RX9 11 "BarMeasure" "kinds" "[LBarMeasure$Kind;", .fieldLink RX9 97 "BarMeasure$Kind" "tare" "I", .fieldLink RX9 100 "BarMeasure$Kind" "size" "I", .fieldLink RX9 103 "BarMeasure$Kind" "dense" "I", .methodLink RX9 93 yX9_isIn, .static yX9_isIn, .initialized RX9, .code yX9_isIn cX9_isIn 3 (some .boolean)] ++ wsX90 ++ wsX40)
def wsX9_recipe : List Cond := .code yX9_recipe cX9_recipe 2 (some .int) :: ([.fieldLink RX9 25 "BarMeasure" "recipeCount" "I", .fieldLink RX9 21 "BarMeasure" "recipes" "[LBarMeasure$Recipe;", .fieldLink RX9 106 "BarMeasure$Recipe" "listPrice" "I", .methodLink RX9 93 yX9_isIn, .static yX9_isIn, .initialized RX9, .code yX9_isIn cX9_isIn 3 (some .boolean)] ++ wsX90 ++ wsX60)
def wsX9_isRecipe : List Cond := .code yX9_isRecipe cX9_isRecipe 2 (some .boolean) :: ([.fieldLink RX9 25 "BarMeasure" "recipeCount" "I", .methodLink RX9 93 yX9_isIn, .static yX9_isIn, .initialized RX9, .code yX9_isIn cX9_isIn 3 (some .boolean)] ++ wsX90)
def wsX9_isKind : List Cond := .code yX9_isKind cX9_isKind 2 (some .boolean) :: ([.fieldLink RX9 15 "BarMeasure" "kindCount" "I", .methodLink RX9 93 yX9_isIn, .static yX9_isIn, .initialized RX9, .code yX9_isIn cX9_isIn 3 (some .boolean)] ++ wsX90)
def wsX9_part : List Cond := .code yX9_part cX9_part 4 (some .int) :: ([.fieldLink RX9 21 "BarMeasure" "recipes" "[LBarMeasure$Recipe;", .fieldLink RX9 116 "BarMeasure$Recipe" "lastSold" "I", .fieldLink RX9 46 "BarMeasure" "tonight" "I", .methodLink RX9 109 yX9_isRecipe, .instanceMethod yX9_isRecipe, .selects RX9 yX9_isRecipe yX9_isRecipe, .initialized RX9, .code yX9_isRecipe cX9_isRecipe 2 (some .boolean), .fieldLink RX9 25 "BarMeasure" "recipeCount" "I", .methodLink RX9 93 yX9_isIn, .static yX9_isIn, .code yX9_isIn cX9_isIn 3 (some .boolean), .methodLink RX9 113 yX9_isKind, .instanceMethod yX9_isKind, .selects RX9 yX9_isKind yX9_isKind, .code yX9_isKind cX9_isKind 2 (some .boolean), .fieldLink RX9 15 "BarMeasure" "kindCount" "I", .methodLink RX9 119 yX6_putParts, .instanceMethod yX6_putParts, .selects RX6 yX6_putParts yX6_putParts, .initialized RX6, .code yX6_putParts cX6_putParts 4 (some .int), .fieldLink RX6 21 "BarMeasure$Recipe" "parts" "[I", .fieldLink RX6 18 "BarMeasure$Recipe" "needed" "I"] ++ wsX90 ++ wsX60)
def wsX9_rule : List Cond := .code yX9_rule cX9_rule 4 (some .int) :: ([.fieldLink RX9 37 "BarMeasure" "settings" "[I", .fieldLink RX9 123 "BarMeasure" "MOST_OF_SETTING" "[I", .methodLink RX9 93 yX9_isIn, .static yX9_isIn, .initialized RX9, .code yX9_isIn cX9_isIn 3 (some .boolean)] ++ wsX90)
def wsX9_sheetOf : List Cond := .code yX9_sheetOf cX9_sheetOf 3 (some (.object "BarMeasure$Sheet")) :: ([.fieldLink RX9 42 "BarMeasure" "sheets" "[LBarMeasure$Sheet;"] ++ wsX90)
def wsX9_applySale : List Cond := .code yX9_applySale cX9_applySale 6 none :: ([.fieldLink RX9 21 "BarMeasure" "recipes" "[LBarMeasure$Recipe;", .fieldLink RX9 298 "BarMeasure$Act" "thing" "I", .fieldLink RX9 15 "BarMeasure" "kindCount" "I", .fieldLink RX9 315 "BarMeasure$Recipe" "parts" "[I", .fieldLink RX9 11 "BarMeasure" "kinds" "[LBarMeasure$Kind;", .fieldLink RX9 295 "BarMeasure$Act" "bar" "I", .fieldLink RX9 301 "BarMeasure$Act" "amount" "I", .fieldLink RX9 202 "BarMeasure$Sheet" "drinks" "[I", .fieldLink RX9 56 "BarMeasure" "takenIn" "[I", .fieldLink RX9 304 "BarMeasure$Act" "cost" "I", .methodLink RX9 311 yX4_move, .instanceMethod yX4_move, .selects RX4 yX4_move yX4_move, .initialized RX4, .code yX4_move cX4_move 4 none, .fieldLink RX4 21 "BarMeasure$Kind" "stored" "I", .fieldLink RX4 24 "BarMeasure$Kind" "received" "I", .fieldLink RX4 27 "BarMeasure$Kind" "books" "[I", .fieldLink RX4 15 "BarMeasure$Kind" "size" "I", .fieldLink RX4 31 "BarMeasure$Kind" "gone" "[I"] ++ wsX90 ++ wsX00 ++ wsX60 ++ wsX70 ++ wsX40)
def wsX9_apply_r1 : List Cond := [Cond.fieldLink RX9 46 "BarMeasure" "tonight" "I", Cond.fieldLink RX9 295 "BarMeasure$Act" "bar" "I", Cond.fieldLink RX9 178 "BarMeasure$Act" "what" "I", Cond.fieldLink RX9 153 "BarMeasure$Sheet" "weighed" "[Z", Cond.fieldLink RX9 298 "BarMeasure$Act" "thing" "I", Cond.fieldLink RX9 195 "BarMeasure$Sheet" "gaps" "[I", Cond.fieldLink RX9 301 "BarMeasure$Act" "amount" "I", Cond.fieldLink RX9 11 "BarMeasure" "kinds" "[LBarMeasure$Kind;", Cond.methodLink RX9 149 yX9_sheetOf, Cond.instanceMethod yX9_sheetOf, Cond.selects RX9 yX9_sheetOf yX9_sheetOf, Cond.initialized RX9, Cond.code yX9_sheetOf cX9_sheetOf 3 (some (.object "BarMeasure$Sheet")), Cond.fieldLink RX9 42 "BarMeasure" "sheets" "[LBarMeasure$Sheet;", Cond.methodLink RX9 307 yX9_applySale, Cond.instanceMethod yX9_applySale, Cond.selects RX9 yX9_applySale yX9_applySale, Cond.code yX9_applySale cX9_applySale 6 none, Cond.fieldLink RX9 21 "BarMeasure" "recipes" "[LBarMeasure$Recipe;", Cond.fieldLink RX9 15 "BarMeasure" "kindCount" "I", Cond.fieldLink RX9 315 "BarMeasure$Recipe" "parts" "[I", Cond.fieldLink RX9 202 "BarMeasure$Sheet" "drinks" "[I", Cond.fieldLink RX9 56 "BarMeasure" "takenIn" "[I", Cond.fieldLink RX9 304 "BarMeasure$Act" "cost" "I"]
def wsX9_apply_r2 : List Cond := [Cond.methodLink RX9 311 yX4_move, Cond.instanceMethod yX4_move, Cond.selects RX4 yX4_move yX4_move, Cond.initialized RX4, Cond.code yX4_move cX4_move 4 none, Cond.fieldLink RX4 21 "BarMeasure$Kind" "stored" "I", Cond.fieldLink RX4 24 "BarMeasure$Kind" "received" "I", Cond.fieldLink RX4 27 "BarMeasure$Kind" "books" "[I", Cond.fieldLink RX4 15 "BarMeasure$Kind" "size" "I", Cond.fieldLink RX4 31 "BarMeasure$Kind" "gone" "[I"]
def wsX9_apply : List Cond := .code yX9_apply cX9_apply 4 none :: ((wsX9_apply_r1 ++ wsX9_apply_r2) ++ wsX90 ++ wsX00 ++ wsX70 ++ wsX60 ++ wsX40)
def wsX9_carryOut_r1 : List Cond := [Cond.fieldLink RX9 52 "BarMeasure" "acts" "LBarMeasure$ActLog;", Cond.fieldLink RX9 178 "BarMeasure$Act" "what" "I", Cond.fieldLink RX9 295 "BarMeasure$Act" "bar" "I", Cond.fieldLink RX9 298 "BarMeasure$Act" "thing" "I", Cond.fieldLink RX9 301 "BarMeasure$Act" "amount" "I", Cond.fieldLink RX9 304 "BarMeasure$Act" "cost" "I", Cond.methodLink RX9 292 yX1_nextRow, Cond.instanceMethod yX1_nextRow, Cond.selects RX1 yX1_nextRow yX1_nextRow, Cond.initialized RX1, Cond.code yX1_nextRow cX1_nextRow 2 (some (.object "BarMeasure$Act")), Cond.fieldLink RX1 11 "BarMeasure$ActLog" "rows" "[LBarMeasure$Act;", Cond.fieldLink RX1 21 "BarMeasure$ActLog" "next" "I", Cond.fieldLink RX1 17 "BarMeasure$ActLog" "kept" "I", Cond.methodLink RX1 25 Lib.Math.min.name, Cond.static Lib.Math.min.name, Cond.initialized "java/lang/Math", Cond.code Lib.Math.min.name Lib.Math.min.code 2 (some .int), Cond.methodLink RX9 174 yX9_apply, Cond.instanceMethod yX9_apply, Cond.selects RX9 yX9_apply yX9_apply, Cond.initialized RX9, Cond.code yX9_apply cX9_apply 4 none, Cond.fieldLink RX9 46 "BarMeasure" "tonight" "I"]
def wsX9_carryOut_r2 : List Cond := [Cond.fieldLink RX9 153 "BarMeasure$Sheet" "weighed" "[Z", Cond.fieldLink RX9 195 "BarMeasure$Sheet" "gaps" "[I", Cond.fieldLink RX9 11 "BarMeasure" "kinds" "[LBarMeasure$Kind;", Cond.methodLink RX9 149 yX9_sheetOf, Cond.instanceMethod yX9_sheetOf, Cond.selects RX9 yX9_sheetOf yX9_sheetOf, Cond.code yX9_sheetOf cX9_sheetOf 3 (some (.object "BarMeasure$Sheet")), Cond.fieldLink RX9 42 "BarMeasure" "sheets" "[LBarMeasure$Sheet;", Cond.methodLink RX9 307 yX9_applySale, Cond.instanceMethod yX9_applySale, Cond.selects RX9 yX9_applySale yX9_applySale, Cond.code yX9_applySale cX9_applySale 6 none, Cond.fieldLink RX9 21 "BarMeasure" "recipes" "[LBarMeasure$Recipe;", Cond.fieldLink RX9 15 "BarMeasure" "kindCount" "I", Cond.fieldLink RX9 315 "BarMeasure$Recipe" "parts" "[I", Cond.fieldLink RX9 202 "BarMeasure$Sheet" "drinks" "[I", Cond.fieldLink RX9 56 "BarMeasure" "takenIn" "[I", Cond.methodLink RX9 311 yX4_move, Cond.instanceMethod yX4_move, Cond.selects RX4 yX4_move yX4_move, Cond.initialized RX4, Cond.code yX4_move cX4_move 4 none, Cond.fieldLink RX4 21 "BarMeasure$Kind" "stored" "I", Cond.fieldLink RX4 24 "BarMeasure$Kind" "received" "I"]
def wsX9_carryOut_r3 : List Cond := [Cond.fieldLink RX4 27 "BarMeasure$Kind" "books" "[I", Cond.fieldLink RX4 15 "BarMeasure$Kind" "size" "I", Cond.fieldLink RX4 31 "BarMeasure$Kind" "gone" "[I"]
def wsX9_carryOut : List Cond := .code yX9_carryOut cX9_carryOut 7 none :: ((wsX9_carryOut_r1 ++ (wsX9_carryOut_r2 ++ wsX9_carryOut_r3)) ++ wsX90 ++ wsX00 ++ wsX10 ++ wsX70 ++ wsX60 ++ wsX40)
def wsX9_receive_r1 : List Cond := [Cond.fieldLink RX9 11 "BarMeasure" "kinds" "[LBarMeasure$Kind;", Cond.fieldLink RX9 126 "BarMeasure$Kind" "stored" "I", Cond.methodLink RX9 113 yX9_isKind, Cond.instanceMethod yX9_isKind, Cond.selects RX9 yX9_isKind yX9_isKind, Cond.initialized RX9, Cond.code yX9_isKind cX9_isKind 2 (some .boolean), Cond.fieldLink RX9 15 "BarMeasure" "kindCount" "I", Cond.methodLink RX9 93 yX9_isIn, Cond.static yX9_isIn, Cond.code yX9_isIn cX9_isIn 3 (some .boolean), Cond.methodLink RX9 129 yX9_carryOut, Cond.instanceMethod yX9_carryOut, Cond.selects RX9 yX9_carryOut yX9_carryOut, Cond.code yX9_carryOut cX9_carryOut 7 none, Cond.fieldLink RX9 52 "BarMeasure" "acts" "LBarMeasure$ActLog;", Cond.fieldLink RX9 178 "BarMeasure$Act" "what" "I", Cond.fieldLink RX9 295 "BarMeasure$Act" "bar" "I", Cond.fieldLink RX9 298 "BarMeasure$Act" "thing" "I", Cond.fieldLink RX9 301 "BarMeasure$Act" "amount" "I", Cond.fieldLink RX9 304 "BarMeasure$Act" "cost" "I", Cond.methodLink RX9 292 yX1_nextRow, Cond.instanceMethod yX1_nextRow, Cond.selects RX1 yX1_nextRow yX1_nextRow]
def wsX9_receive_r2 : List Cond := [Cond.initialized RX1, Cond.code yX1_nextRow cX1_nextRow 2 (some (.object "BarMeasure$Act")), Cond.fieldLink RX1 11 "BarMeasure$ActLog" "rows" "[LBarMeasure$Act;", Cond.fieldLink RX1 21 "BarMeasure$ActLog" "next" "I", Cond.fieldLink RX1 17 "BarMeasure$ActLog" "kept" "I", Cond.methodLink RX1 25 Lib.Math.min.name, Cond.static Lib.Math.min.name, Cond.initialized "java/lang/Math", Cond.code Lib.Math.min.name Lib.Math.min.code 2 (some .int), Cond.methodLink RX9 174 yX9_apply, Cond.instanceMethod yX9_apply, Cond.selects RX9 yX9_apply yX9_apply, Cond.code yX9_apply cX9_apply 4 none, Cond.fieldLink RX9 46 "BarMeasure" "tonight" "I", Cond.fieldLink RX9 153 "BarMeasure$Sheet" "weighed" "[Z", Cond.fieldLink RX9 195 "BarMeasure$Sheet" "gaps" "[I", Cond.methodLink RX9 149 yX9_sheetOf, Cond.instanceMethod yX9_sheetOf, Cond.selects RX9 yX9_sheetOf yX9_sheetOf, Cond.code yX9_sheetOf cX9_sheetOf 3 (some (.object "BarMeasure$Sheet")), Cond.fieldLink RX9 42 "BarMeasure" "sheets" "[LBarMeasure$Sheet;", Cond.methodLink RX9 307 yX9_applySale, Cond.instanceMethod yX9_applySale, Cond.selects RX9 yX9_applySale yX9_applySale]
def wsX9_receive_r3 : List Cond := [Cond.code yX9_applySale cX9_applySale 6 none, Cond.fieldLink RX9 21 "BarMeasure" "recipes" "[LBarMeasure$Recipe;", Cond.fieldLink RX9 315 "BarMeasure$Recipe" "parts" "[I", Cond.fieldLink RX9 202 "BarMeasure$Sheet" "drinks" "[I", Cond.fieldLink RX9 56 "BarMeasure" "takenIn" "[I", Cond.methodLink RX9 311 yX4_move, Cond.instanceMethod yX4_move, Cond.selects RX4 yX4_move yX4_move, Cond.initialized RX4, Cond.code yX4_move cX4_move 4 none, Cond.fieldLink RX4 21 "BarMeasure$Kind" "stored" "I", Cond.fieldLink RX4 24 "BarMeasure$Kind" "received" "I", Cond.fieldLink RX4 27 "BarMeasure$Kind" "books" "[I", Cond.fieldLink RX4 15 "BarMeasure$Kind" "size" "I", Cond.fieldLink RX4 31 "BarMeasure$Kind" "gone" "[I"]
def wsX9_receive : List Cond := .code yX9_receive cX9_receive 3 (some .int) :: ((wsX9_receive_r1 ++ (wsX9_receive_r2 ++ wsX9_receive_r3)) ++ wsX90 ++ wsX40 ++ wsX00 ++ wsX10 ++ wsX70 ++ wsX60)
def wsX9_isBar : List Cond := .code yX9_isBar cX9_isBar 1 (some .boolean) :: ([.methodLink RX9 93 yX9_isIn, .static yX9_isIn, .initialized RX9, .code yX9_isIn cX9_isIn 3 (some .boolean)])
def wsX9_issue_r1 : List Cond := [Cond.constant RX9 136 (-1000000000), Cond.fieldLink RX9 11 "BarMeasure" "kinds" "[LBarMeasure$Kind;", Cond.fieldLink RX9 126 "BarMeasure$Kind" "stored" "I", Cond.constant RX9 137 (-1000000002), Cond.fieldLink RX9 138 "BarMeasure$Kind" "books" "[I", Cond.methodLink RX9 133 yX9_isBar, Cond.static yX9_isBar, Cond.initialized RX9, Cond.code yX9_isBar cX9_isBar 1 (some .boolean), Cond.methodLink RX9 93 yX9_isIn, Cond.static yX9_isIn, Cond.code yX9_isIn cX9_isIn 3 (some .boolean), Cond.methodLink RX9 113 yX9_isKind, Cond.instanceMethod yX9_isKind, Cond.selects RX9 yX9_isKind yX9_isKind, Cond.code yX9_isKind cX9_isKind 2 (some .boolean), Cond.fieldLink RX9 15 "BarMeasure" "kindCount" "I", Cond.methodLink RX9 129 yX9_carryOut, Cond.instanceMethod yX9_carryOut, Cond.selects RX9 yX9_carryOut yX9_carryOut, Cond.code yX9_carryOut cX9_carryOut 7 none, Cond.fieldLink RX9 52 "BarMeasure" "acts" "LBarMeasure$ActLog;", Cond.fieldLink RX9 178 "BarMeasure$Act" "what" "I", Cond.fieldLink RX9 295 "BarMeasure$Act" "bar" "I"]
def wsX9_issue_r2 : List Cond := [Cond.fieldLink RX9 298 "BarMeasure$Act" "thing" "I", Cond.fieldLink RX9 301 "BarMeasure$Act" "amount" "I", Cond.fieldLink RX9 304 "BarMeasure$Act" "cost" "I", Cond.methodLink RX9 292 yX1_nextRow, Cond.instanceMethod yX1_nextRow, Cond.selects RX1 yX1_nextRow yX1_nextRow, Cond.initialized RX1, Cond.code yX1_nextRow cX1_nextRow 2 (some (.object "BarMeasure$Act")), Cond.fieldLink RX1 11 "BarMeasure$ActLog" "rows" "[LBarMeasure$Act;", Cond.fieldLink RX1 21 "BarMeasure$ActLog" "next" "I", Cond.fieldLink RX1 17 "BarMeasure$ActLog" "kept" "I", Cond.methodLink RX1 25 Lib.Math.min.name, Cond.static Lib.Math.min.name, Cond.initialized "java/lang/Math", Cond.code Lib.Math.min.name Lib.Math.min.code 2 (some .int), Cond.methodLink RX9 174 yX9_apply, Cond.instanceMethod yX9_apply, Cond.selects RX9 yX9_apply yX9_apply, Cond.code yX9_apply cX9_apply 4 none, Cond.fieldLink RX9 46 "BarMeasure" "tonight" "I", Cond.fieldLink RX9 153 "BarMeasure$Sheet" "weighed" "[Z", Cond.fieldLink RX9 195 "BarMeasure$Sheet" "gaps" "[I", Cond.methodLink RX9 149 yX9_sheetOf, Cond.instanceMethod yX9_sheetOf]
def wsX9_issue_r3 : List Cond := [Cond.selects RX9 yX9_sheetOf yX9_sheetOf, Cond.code yX9_sheetOf cX9_sheetOf 3 (some (.object "BarMeasure$Sheet")), Cond.fieldLink RX9 42 "BarMeasure" "sheets" "[LBarMeasure$Sheet;", Cond.methodLink RX9 307 yX9_applySale, Cond.instanceMethod yX9_applySale, Cond.selects RX9 yX9_applySale yX9_applySale, Cond.code yX9_applySale cX9_applySale 6 none, Cond.fieldLink RX9 21 "BarMeasure" "recipes" "[LBarMeasure$Recipe;", Cond.fieldLink RX9 315 "BarMeasure$Recipe" "parts" "[I", Cond.fieldLink RX9 202 "BarMeasure$Sheet" "drinks" "[I", Cond.fieldLink RX9 56 "BarMeasure" "takenIn" "[I", Cond.methodLink RX9 311 yX4_move, Cond.instanceMethod yX4_move, Cond.selects RX4 yX4_move yX4_move, Cond.initialized RX4, Cond.code yX4_move cX4_move 4 none, Cond.fieldLink RX4 21 "BarMeasure$Kind" "stored" "I", Cond.fieldLink RX4 24 "BarMeasure$Kind" "received" "I", Cond.fieldLink RX4 27 "BarMeasure$Kind" "books" "[I", Cond.fieldLink RX4 15 "BarMeasure$Kind" "size" "I", Cond.fieldLink RX4 31 "BarMeasure$Kind" "gone" "[I"]
def wsX9_issue : List Cond := .code yX9_issue cX9_issue 4 (some .int) :: ((wsX9_issue_r1 ++ (wsX9_issue_r2 ++ wsX9_issue_r3)) ++ wsX90 ++ wsX40 ++ wsX00 ++ wsX10 ++ wsX70 ++ wsX60)
def wsX9_lend_r1 : List Cond := [Cond.constant RX9 136 (-1000000000), Cond.fieldLink RX9 11 "BarMeasure" "kinds" "[LBarMeasure$Kind;", Cond.fieldLink RX9 138 "BarMeasure$Kind" "books" "[I", Cond.constant RX9 137 (-1000000002), Cond.methodLink RX9 133 yX9_isBar, Cond.static yX9_isBar, Cond.initialized RX9, Cond.code yX9_isBar cX9_isBar 1 (some .boolean), Cond.methodLink RX9 93 yX9_isIn, Cond.static yX9_isIn, Cond.code yX9_isIn cX9_isIn 3 (some .boolean), Cond.methodLink RX9 113 yX9_isKind, Cond.instanceMethod yX9_isKind, Cond.selects RX9 yX9_isKind yX9_isKind, Cond.code yX9_isKind cX9_isKind 2 (some .boolean), Cond.fieldLink RX9 15 "BarMeasure" "kindCount" "I", Cond.methodLink RX9 129 yX9_carryOut, Cond.instanceMethod yX9_carryOut, Cond.selects RX9 yX9_carryOut yX9_carryOut, Cond.code yX9_carryOut cX9_carryOut 7 none, Cond.fieldLink RX9 52 "BarMeasure" "acts" "LBarMeasure$ActLog;", Cond.fieldLink RX9 178 "BarMeasure$Act" "what" "I", Cond.fieldLink RX9 295 "BarMeasure$Act" "bar" "I", Cond.fieldLink RX9 298 "BarMeasure$Act" "thing" "I"]
def wsX9_lend_r2 : List Cond := [Cond.fieldLink RX9 301 "BarMeasure$Act" "amount" "I", Cond.fieldLink RX9 304 "BarMeasure$Act" "cost" "I", Cond.methodLink RX9 292 yX1_nextRow, Cond.instanceMethod yX1_nextRow, Cond.selects RX1 yX1_nextRow yX1_nextRow, Cond.initialized RX1, Cond.code yX1_nextRow cX1_nextRow 2 (some (.object "BarMeasure$Act")), Cond.fieldLink RX1 11 "BarMeasure$ActLog" "rows" "[LBarMeasure$Act;", Cond.fieldLink RX1 21 "BarMeasure$ActLog" "next" "I", Cond.fieldLink RX1 17 "BarMeasure$ActLog" "kept" "I", Cond.methodLink RX1 25 Lib.Math.min.name, Cond.static Lib.Math.min.name, Cond.initialized "java/lang/Math", Cond.code Lib.Math.min.name Lib.Math.min.code 2 (some .int), Cond.methodLink RX9 174 yX9_apply, Cond.instanceMethod yX9_apply, Cond.selects RX9 yX9_apply yX9_apply, Cond.code yX9_apply cX9_apply 4 none, Cond.fieldLink RX9 46 "BarMeasure" "tonight" "I", Cond.fieldLink RX9 153 "BarMeasure$Sheet" "weighed" "[Z", Cond.fieldLink RX9 195 "BarMeasure$Sheet" "gaps" "[I", Cond.methodLink RX9 149 yX9_sheetOf, Cond.instanceMethod yX9_sheetOf, Cond.selects RX9 yX9_sheetOf yX9_sheetOf]
def wsX9_lend_r3 : List Cond := [Cond.code yX9_sheetOf cX9_sheetOf 3 (some (.object "BarMeasure$Sheet")), Cond.fieldLink RX9 42 "BarMeasure" "sheets" "[LBarMeasure$Sheet;", Cond.methodLink RX9 307 yX9_applySale, Cond.instanceMethod yX9_applySale, Cond.selects RX9 yX9_applySale yX9_applySale, Cond.code yX9_applySale cX9_applySale 6 none, Cond.fieldLink RX9 21 "BarMeasure" "recipes" "[LBarMeasure$Recipe;", Cond.fieldLink RX9 315 "BarMeasure$Recipe" "parts" "[I", Cond.fieldLink RX9 202 "BarMeasure$Sheet" "drinks" "[I", Cond.fieldLink RX9 56 "BarMeasure" "takenIn" "[I", Cond.methodLink RX9 311 yX4_move, Cond.instanceMethod yX4_move, Cond.selects RX4 yX4_move yX4_move, Cond.initialized RX4, Cond.code yX4_move cX4_move 4 none, Cond.fieldLink RX4 21 "BarMeasure$Kind" "stored" "I", Cond.fieldLink RX4 24 "BarMeasure$Kind" "received" "I", Cond.fieldLink RX4 27 "BarMeasure$Kind" "books" "[I", Cond.fieldLink RX4 15 "BarMeasure$Kind" "size" "I", Cond.fieldLink RX4 31 "BarMeasure$Kind" "gone" "[I"]
def wsX9_lend : List Cond := .code yX9_lend cX9_lend 4 (some .int) :: ((wsX9_lend_r1 ++ (wsX9_lend_r2 ++ wsX9_lend_r3)) ++ wsX90 ++ wsX40 ++ wsX00 ++ wsX10 ++ wsX70 ++ wsX60)
def wsX9_isTime : List Cond := .code yX9_isTime cX9_isTime 2 (some .boolean) :: ([.methodLink RX9 93 yX9_isIn, .static yX9_isIn, .initialized RX9, .code yX9_isIn cX9_isIn 3 (some .boolean)])
def wsX9_priceAt : List Cond := .code yX9_priceAt cX9_priceAt 6 (some .int) :: ([.fieldLink RX9 21 "BarMeasure" "recipes" "[LBarMeasure$Recipe;", .fieldLink RX9 106 "BarMeasure$Recipe" "listPrice" "I", .fieldLink RX9 72 "BarMeasure" "priceRuleCount" "I", .fieldLink RX9 68 "BarMeasure" "priceRules" "[LBarMeasure$PriceRule;", .fieldLink RX9 37 "BarMeasure" "settings" "[I", .fieldLink RX9 260 "BarMeasure$PriceRule" "hundredths" "I", .methodLink RX9 271 Lib.Math.max.name, .static Lib.Math.max.name, .initialized "java/lang/Math", .code Lib.Math.max.name Lib.Math.max.code 2 (some .int), .methodLink RX9 321 yX5_holds, .instanceMethod yX5_holds, .selects RX5 yX5_holds yX5_holds, .initialized RX5, .code yX5_holds cX5_holds 4 (some .boolean), .fieldLink RX5 15 "BarMeasure$PriceRule" "from" "I", .fieldLink RX5 18 "BarMeasure$PriceRule" "to" "I", .methodLink RX5 24 yX5_hasDay, .instanceMethod yX5_hasDay, .selects RX5 yX5_hasDay yX5_hasDay, .code yX5_hasDay cX5_hasDay 2 (some .boolean), .fieldLink RX5 9 "BarMeasure$PriceRule" "days" "I"] ++ wsX90 ++ wsX60 ++ wsX50)
def wsX9_sell_r1 : List Cond := [Cond.fieldLink RX9 21 "BarMeasure" "recipes" "[LBarMeasure$Recipe;", Cond.fieldLink RX9 46 "BarMeasure" "tonight" "I", Cond.fieldLink RX9 116 "BarMeasure$Recipe" "lastSold" "I", Cond.methodLink RX9 133 yX9_isBar, Cond.static yX9_isBar, Cond.initialized RX9, Cond.code yX9_isBar cX9_isBar 1 (some .boolean), Cond.methodLink RX9 93 yX9_isIn, Cond.static yX9_isIn, Cond.code yX9_isIn cX9_isIn 3 (some .boolean), Cond.methodLink RX9 109 yX9_isRecipe, Cond.instanceMethod yX9_isRecipe, Cond.selects RX9 yX9_isRecipe yX9_isRecipe, Cond.code yX9_isRecipe cX9_isRecipe 2 (some .boolean), Cond.fieldLink RX9 25 "BarMeasure" "recipeCount" "I", Cond.methodLink RX9 141 yX9_isTime, Cond.static yX9_isTime, Cond.code yX9_isTime cX9_isTime 2 (some .boolean), Cond.methodLink RX9 145 yX9_priceAt, Cond.instanceMethod yX9_priceAt, Cond.selects RX9 yX9_priceAt yX9_priceAt, Cond.code yX9_priceAt cX9_priceAt 6 (some .int), Cond.fieldLink RX9 106 "BarMeasure$Recipe" "listPrice" "I", Cond.fieldLink RX9 72 "BarMeasure" "priceRuleCount" "I"]
def wsX9_sell_r2 : List Cond := [Cond.fieldLink RX9 68 "BarMeasure" "priceRules" "[LBarMeasure$PriceRule;", Cond.fieldLink RX9 37 "BarMeasure" "settings" "[I", Cond.fieldLink RX9 260 "BarMeasure$PriceRule" "hundredths" "I", Cond.methodLink RX9 271 Lib.Math.max.name, Cond.static Lib.Math.max.name, Cond.initialized "java/lang/Math", Cond.code Lib.Math.max.name Lib.Math.max.code 2 (some .int), Cond.methodLink RX9 321 yX5_holds, Cond.instanceMethod yX5_holds, Cond.selects RX5 yX5_holds yX5_holds, Cond.initialized RX5, Cond.code yX5_holds cX5_holds 4 (some .boolean), Cond.fieldLink RX5 15 "BarMeasure$PriceRule" "from" "I", Cond.fieldLink RX5 18 "BarMeasure$PriceRule" "to" "I", Cond.methodLink RX5 24 yX5_hasDay, Cond.instanceMethod yX5_hasDay, Cond.selects RX5 yX5_hasDay yX5_hasDay, Cond.code yX5_hasDay cX5_hasDay 2 (some .boolean), Cond.fieldLink RX5 9 "BarMeasure$PriceRule" "days" "I", Cond.methodLink RX9 129 yX9_carryOut, Cond.instanceMethod yX9_carryOut, Cond.selects RX9 yX9_carryOut yX9_carryOut, Cond.code yX9_carryOut cX9_carryOut 7 none, Cond.fieldLink RX9 52 "BarMeasure" "acts" "LBarMeasure$ActLog;"]
def wsX9_sell_r3 : List Cond := [Cond.fieldLink RX9 178 "BarMeasure$Act" "what" "I", Cond.fieldLink RX9 295 "BarMeasure$Act" "bar" "I", Cond.fieldLink RX9 298 "BarMeasure$Act" "thing" "I", Cond.fieldLink RX9 301 "BarMeasure$Act" "amount" "I", Cond.fieldLink RX9 304 "BarMeasure$Act" "cost" "I", Cond.methodLink RX9 292 yX1_nextRow, Cond.instanceMethod yX1_nextRow, Cond.selects RX1 yX1_nextRow yX1_nextRow, Cond.initialized RX1, Cond.code yX1_nextRow cX1_nextRow 2 (some (.object "BarMeasure$Act")), Cond.fieldLink RX1 11 "BarMeasure$ActLog" "rows" "[LBarMeasure$Act;", Cond.fieldLink RX1 21 "BarMeasure$ActLog" "next" "I", Cond.fieldLink RX1 17 "BarMeasure$ActLog" "kept" "I", Cond.methodLink RX1 25 Lib.Math.min.name, Cond.static Lib.Math.min.name, Cond.code Lib.Math.min.name Lib.Math.min.code 2 (some .int), Cond.methodLink RX9 174 yX9_apply, Cond.instanceMethod yX9_apply, Cond.selects RX9 yX9_apply yX9_apply, Cond.code yX9_apply cX9_apply 4 none, Cond.fieldLink RX9 153 "BarMeasure$Sheet" "weighed" "[Z", Cond.fieldLink RX9 195 "BarMeasure$Sheet" "gaps" "[I", Cond.fieldLink RX9 11 "BarMeasure" "kinds" "[LBarMeasure$Kind;", Cond.methodLink RX9 149 yX9_sheetOf]
def wsX9_sell_r4 : List Cond := [Cond.instanceMethod yX9_sheetOf, Cond.selects RX9 yX9_sheetOf yX9_sheetOf, Cond.code yX9_sheetOf cX9_sheetOf 3 (some (.object "BarMeasure$Sheet")), Cond.fieldLink RX9 42 "BarMeasure" "sheets" "[LBarMeasure$Sheet;", Cond.methodLink RX9 307 yX9_applySale, Cond.instanceMethod yX9_applySale, Cond.selects RX9 yX9_applySale yX9_applySale, Cond.code yX9_applySale cX9_applySale 6 none, Cond.fieldLink RX9 15 "BarMeasure" "kindCount" "I", Cond.fieldLink RX9 315 "BarMeasure$Recipe" "parts" "[I", Cond.fieldLink RX9 202 "BarMeasure$Sheet" "drinks" "[I", Cond.fieldLink RX9 56 "BarMeasure" "takenIn" "[I", Cond.methodLink RX9 311 yX4_move, Cond.instanceMethod yX4_move, Cond.selects RX4 yX4_move yX4_move, Cond.initialized RX4, Cond.code yX4_move cX4_move 4 none, Cond.fieldLink RX4 21 "BarMeasure$Kind" "stored" "I", Cond.fieldLink RX4 24 "BarMeasure$Kind" "received" "I", Cond.fieldLink RX4 27 "BarMeasure$Kind" "books" "[I", Cond.fieldLink RX4 15 "BarMeasure$Kind" "size" "I", Cond.fieldLink RX4 31 "BarMeasure$Kind" "gone" "[I"]
def wsX9_sell : List Cond := .code yX9_sell cX9_sell 7 (some .int) :: ((wsX9_sell_r1 ++ (wsX9_sell_r2 ++ (wsX9_sell_r3 ++ wsX9_sell_r4))) ++ wsX90 ++ wsX60 ++ wsX50 ++ wsX00 ++ wsX10 ++ wsX70 ++ wsX40)
def wsX9_lose_r1 : List Cond := [Cond.constant RX9 136 (-1000000000), Cond.fieldLink RX9 11 "BarMeasure" "kinds" "[LBarMeasure$Kind;", Cond.fieldLink RX9 138 "BarMeasure$Kind" "books" "[I", Cond.methodLink RX9 133 yX9_isBar, Cond.static yX9_isBar, Cond.initialized RX9, Cond.code yX9_isBar cX9_isBar 1 (some .boolean), Cond.methodLink RX9 93 yX9_isIn, Cond.static yX9_isIn, Cond.code yX9_isIn cX9_isIn 3 (some .boolean), Cond.methodLink RX9 113 yX9_isKind, Cond.instanceMethod yX9_isKind, Cond.selects RX9 yX9_isKind yX9_isKind, Cond.code yX9_isKind cX9_isKind 2 (some .boolean), Cond.fieldLink RX9 15 "BarMeasure" "kindCount" "I", Cond.methodLink RX9 129 yX9_carryOut, Cond.instanceMethod yX9_carryOut, Cond.selects RX9 yX9_carryOut yX9_carryOut, Cond.code yX9_carryOut cX9_carryOut 7 none, Cond.fieldLink RX9 52 "BarMeasure" "acts" "LBarMeasure$ActLog;", Cond.fieldLink RX9 178 "BarMeasure$Act" "what" "I", Cond.fieldLink RX9 295 "BarMeasure$Act" "bar" "I", Cond.fieldLink RX9 298 "BarMeasure$Act" "thing" "I", Cond.fieldLink RX9 301 "BarMeasure$Act" "amount" "I"]
def wsX9_lose_r2 : List Cond := [Cond.fieldLink RX9 304 "BarMeasure$Act" "cost" "I", Cond.methodLink RX9 292 yX1_nextRow, Cond.instanceMethod yX1_nextRow, Cond.selects RX1 yX1_nextRow yX1_nextRow, Cond.initialized RX1, Cond.code yX1_nextRow cX1_nextRow 2 (some (.object "BarMeasure$Act")), Cond.fieldLink RX1 11 "BarMeasure$ActLog" "rows" "[LBarMeasure$Act;", Cond.fieldLink RX1 21 "BarMeasure$ActLog" "next" "I", Cond.fieldLink RX1 17 "BarMeasure$ActLog" "kept" "I", Cond.methodLink RX1 25 Lib.Math.min.name, Cond.static Lib.Math.min.name, Cond.initialized "java/lang/Math", Cond.code Lib.Math.min.name Lib.Math.min.code 2 (some .int), Cond.methodLink RX9 174 yX9_apply, Cond.instanceMethod yX9_apply, Cond.selects RX9 yX9_apply yX9_apply, Cond.code yX9_apply cX9_apply 4 none, Cond.fieldLink RX9 46 "BarMeasure" "tonight" "I", Cond.fieldLink RX9 153 "BarMeasure$Sheet" "weighed" "[Z", Cond.fieldLink RX9 195 "BarMeasure$Sheet" "gaps" "[I", Cond.methodLink RX9 149 yX9_sheetOf, Cond.instanceMethod yX9_sheetOf, Cond.selects RX9 yX9_sheetOf yX9_sheetOf, Cond.code yX9_sheetOf cX9_sheetOf 3 (some (.object "BarMeasure$Sheet"))]
def wsX9_lose_r3 : List Cond := [Cond.fieldLink RX9 42 "BarMeasure" "sheets" "[LBarMeasure$Sheet;", Cond.methodLink RX9 307 yX9_applySale, Cond.instanceMethod yX9_applySale, Cond.selects RX9 yX9_applySale yX9_applySale, Cond.code yX9_applySale cX9_applySale 6 none, Cond.fieldLink RX9 21 "BarMeasure" "recipes" "[LBarMeasure$Recipe;", Cond.fieldLink RX9 315 "BarMeasure$Recipe" "parts" "[I", Cond.fieldLink RX9 202 "BarMeasure$Sheet" "drinks" "[I", Cond.fieldLink RX9 56 "BarMeasure" "takenIn" "[I", Cond.methodLink RX9 311 yX4_move, Cond.instanceMethod yX4_move, Cond.selects RX4 yX4_move yX4_move, Cond.initialized RX4, Cond.code yX4_move cX4_move 4 none, Cond.fieldLink RX4 21 "BarMeasure$Kind" "stored" "I", Cond.fieldLink RX4 24 "BarMeasure$Kind" "received" "I", Cond.fieldLink RX4 27 "BarMeasure$Kind" "books" "[I", Cond.fieldLink RX4 15 "BarMeasure$Kind" "size" "I", Cond.fieldLink RX4 31 "BarMeasure$Kind" "gone" "[I"]
def wsX9_lose : List Cond := .code yX9_lose cX9_lose 5 (some .int) :: ((wsX9_lose_r1 ++ (wsX9_lose_r2 ++ wsX9_lose_r3)) ++ wsX90 ++ wsX40 ++ wsX00 ++ wsX10 ++ wsX70 ++ wsX60)
def wsX9_spanNow : List Cond := .code yX9_spanNow cX9_spanNow 3 (some .int) :: ([.fieldLink RX9 11 "BarMeasure" "kinds" "[LBarMeasure$Kind;", .fieldLink RX9 37 "BarMeasure" "settings" "[I", .fieldLink RX9 202 "BarMeasure$Sheet" "drinks" "[I", .methodLink RX9 318 yX4_mlOfScale, .instanceMethod yX4_mlOfScale, .selects RX4 yX4_mlOfScale yX4_mlOfScale, .initialized RX4, .code yX4_mlOfScale cX4_mlOfScale 2 (some .int), .fieldLink RX4 18 "BarMeasure$Kind" "dense" "I"] ++ wsX90 ++ wsX70 ++ wsX40)
def wsX9_weigh_r1 : List Cond := [Cond.constant RX9 136 (-1000000000), Cond.fieldLink RX9 46 "BarMeasure" "tonight" "I", Cond.fieldLink RX9 153 "BarMeasure$Sheet" "weighed" "[Z", Cond.constant RX9 137 (-1000000002), Cond.fieldLink RX9 11 "BarMeasure" "kinds" "[LBarMeasure$Kind;", Cond.fieldLink RX9 138 "BarMeasure$Kind" "books" "[I", Cond.fieldLink RX9 160 "BarMeasure$Sheet" "spans" "[I", Cond.methodLink RX9 133 yX9_isBar, Cond.static yX9_isBar, Cond.initialized RX9, Cond.code yX9_isBar cX9_isBar 1 (some .boolean), Cond.methodLink RX9 93 yX9_isIn, Cond.static yX9_isIn, Cond.code yX9_isIn cX9_isIn 3 (some .boolean), Cond.methodLink RX9 113 yX9_isKind, Cond.instanceMethod yX9_isKind, Cond.selects RX9 yX9_isKind yX9_isKind, Cond.code yX9_isKind cX9_isKind 2 (some .boolean), Cond.fieldLink RX9 15 "BarMeasure" "kindCount" "I", Cond.methodLink RX9 149 yX9_sheetOf, Cond.instanceMethod yX9_sheetOf, Cond.selects RX9 yX9_sheetOf yX9_sheetOf, Cond.code yX9_sheetOf cX9_sheetOf 3 (some (.object "BarMeasure$Sheet")), Cond.fieldLink RX9 42 "BarMeasure" "sheets" "[LBarMeasure$Sheet;"]
def wsX9_weigh_r2 : List Cond := [Cond.methodLink RX9 157 yX4_found, Cond.instanceMethod yX4_found, Cond.selects RX4 yX4_found yX4_found, Cond.initialized RX4, Cond.code yX4_found cX4_found 3 (some .int), Cond.fieldLink RX4 15 "BarMeasure$Kind" "size" "I", Cond.fieldLink RX4 9 "BarMeasure$Kind" "tare" "I", Cond.methodLink RX4 34 Lib.Math.max.name, Cond.static Lib.Math.max.name, Cond.initialized "java/lang/Math", Cond.code Lib.Math.max.name Lib.Math.max.code 2 (some .int), Cond.fieldLink RX4 18 "BarMeasure$Kind" "dense" "I", Cond.methodLink RX9 163 yX9_spanNow, Cond.instanceMethod yX9_spanNow, Cond.selects RX9 yX9_spanNow yX9_spanNow, Cond.code yX9_spanNow cX9_spanNow 3 (some .int), Cond.fieldLink RX9 37 "BarMeasure" "settings" "[I", Cond.fieldLink RX9 202 "BarMeasure$Sheet" "drinks" "[I", Cond.methodLink RX9 318 yX4_mlOfScale, Cond.instanceMethod yX4_mlOfScale, Cond.selects RX4 yX4_mlOfScale yX4_mlOfScale, Cond.code yX4_mlOfScale cX4_mlOfScale 2 (some .int), Cond.methodLink RX9 129 yX9_carryOut, Cond.instanceMethod yX9_carryOut]
def wsX9_weigh_r3 : List Cond := [Cond.selects RX9 yX9_carryOut yX9_carryOut, Cond.code yX9_carryOut cX9_carryOut 7 none, Cond.fieldLink RX9 52 "BarMeasure" "acts" "LBarMeasure$ActLog;", Cond.fieldLink RX9 178 "BarMeasure$Act" "what" "I", Cond.fieldLink RX9 295 "BarMeasure$Act" "bar" "I", Cond.fieldLink RX9 298 "BarMeasure$Act" "thing" "I", Cond.fieldLink RX9 301 "BarMeasure$Act" "amount" "I", Cond.fieldLink RX9 304 "BarMeasure$Act" "cost" "I", Cond.methodLink RX9 292 yX1_nextRow, Cond.instanceMethod yX1_nextRow, Cond.selects RX1 yX1_nextRow yX1_nextRow, Cond.initialized RX1, Cond.code yX1_nextRow cX1_nextRow 2 (some (.object "BarMeasure$Act")), Cond.fieldLink RX1 11 "BarMeasure$ActLog" "rows" "[LBarMeasure$Act;", Cond.fieldLink RX1 21 "BarMeasure$ActLog" "next" "I", Cond.fieldLink RX1 17 "BarMeasure$ActLog" "kept" "I", Cond.methodLink RX1 25 Lib.Math.min.name, Cond.static Lib.Math.min.name, Cond.code Lib.Math.min.name Lib.Math.min.code 2 (some .int), Cond.methodLink RX9 174 yX9_apply, Cond.instanceMethod yX9_apply, Cond.selects RX9 yX9_apply yX9_apply, Cond.code yX9_apply cX9_apply 4 none, Cond.fieldLink RX9 195 "BarMeasure$Sheet" "gaps" "[I"]
def wsX9_weigh_r4 : List Cond := [Cond.methodLink RX9 307 yX9_applySale, Cond.instanceMethod yX9_applySale, Cond.selects RX9 yX9_applySale yX9_applySale, Cond.code yX9_applySale cX9_applySale 6 none, Cond.fieldLink RX9 21 "BarMeasure" "recipes" "[LBarMeasure$Recipe;", Cond.fieldLink RX9 315 "BarMeasure$Recipe" "parts" "[I", Cond.fieldLink RX9 56 "BarMeasure" "takenIn" "[I", Cond.methodLink RX9 311 yX4_move, Cond.instanceMethod yX4_move, Cond.selects RX4 yX4_move yX4_move, Cond.code yX4_move cX4_move 4 none, Cond.fieldLink RX4 21 "BarMeasure$Kind" "stored" "I", Cond.fieldLink RX4 24 "BarMeasure$Kind" "received" "I", Cond.fieldLink RX4 27 "BarMeasure$Kind" "books" "[I", Cond.fieldLink RX4 31 "BarMeasure$Kind" "gone" "[I"]
def wsX9_weigh : List Cond := .code yX9_weigh cX9_weigh 7 (some .int) :: ((wsX9_weigh_r1 ++ (wsX9_weigh_r2 ++ (wsX9_weigh_r3 ++ wsX9_weigh_r4))) ++ wsX90 ++ wsX70 ++ wsX40 ++ wsX00 ++ wsX10 ++ wsX60)
def wsX9_undo_r1 : List Cond := [Cond.fieldLink RX9 52 "BarMeasure" "acts" "LBarMeasure$ActLog;", Cond.fieldLink RX9 167 "BarMeasure$ActLog" "kept" "I", Cond.fieldLink RX9 178 "BarMeasure$Act" "what" "I", Cond.methodLink RX9 170 yX1_takeLatest, Cond.instanceMethod yX1_takeLatest, Cond.selects RX1 yX1_takeLatest yX1_takeLatest, Cond.initialized RX1, Cond.code yX1_takeLatest cX1_takeLatest 1 (some (.object "BarMeasure$Act")), Cond.fieldLink RX1 21 "BarMeasure$ActLog" "next" "I", Cond.fieldLink RX1 17 "BarMeasure$ActLog" "kept" "I", Cond.fieldLink RX1 11 "BarMeasure$ActLog" "rows" "[LBarMeasure$Act;", Cond.methodLink RX9 174 yX9_apply, Cond.instanceMethod yX9_apply, Cond.selects RX9 yX9_apply yX9_apply, Cond.initialized RX9, Cond.code yX9_apply cX9_apply 4 none, Cond.fieldLink RX9 46 "BarMeasure" "tonight" "I", Cond.fieldLink RX9 295 "BarMeasure$Act" "bar" "I", Cond.fieldLink RX9 153 "BarMeasure$Sheet" "weighed" "[Z", Cond.fieldLink RX9 298 "BarMeasure$Act" "thing" "I", Cond.fieldLink RX9 195 "BarMeasure$Sheet" "gaps" "[I", Cond.fieldLink RX9 301 "BarMeasure$Act" "amount" "I", Cond.fieldLink RX9 11 "BarMeasure" "kinds" "[LBarMeasure$Kind;", Cond.methodLink RX9 149 yX9_sheetOf]
def wsX9_undo_r2 : List Cond := [Cond.instanceMethod yX9_sheetOf, Cond.selects RX9 yX9_sheetOf yX9_sheetOf, Cond.code yX9_sheetOf cX9_sheetOf 3 (some (.object "BarMeasure$Sheet")), Cond.fieldLink RX9 42 "BarMeasure" "sheets" "[LBarMeasure$Sheet;", Cond.methodLink RX9 307 yX9_applySale, Cond.instanceMethod yX9_applySale, Cond.selects RX9 yX9_applySale yX9_applySale, Cond.code yX9_applySale cX9_applySale 6 none, Cond.fieldLink RX9 21 "BarMeasure" "recipes" "[LBarMeasure$Recipe;", Cond.fieldLink RX9 15 "BarMeasure" "kindCount" "I", Cond.fieldLink RX9 315 "BarMeasure$Recipe" "parts" "[I", Cond.fieldLink RX9 202 "BarMeasure$Sheet" "drinks" "[I", Cond.fieldLink RX9 56 "BarMeasure" "takenIn" "[I", Cond.fieldLink RX9 304 "BarMeasure$Act" "cost" "I", Cond.methodLink RX9 311 yX4_move, Cond.instanceMethod yX4_move, Cond.selects RX4 yX4_move yX4_move, Cond.initialized RX4, Cond.code yX4_move cX4_move 4 none, Cond.fieldLink RX4 21 "BarMeasure$Kind" "stored" "I", Cond.fieldLink RX4 24 "BarMeasure$Kind" "received" "I", Cond.fieldLink RX4 27 "BarMeasure$Kind" "books" "[I", Cond.fieldLink RX4 15 "BarMeasure$Kind" "size" "I", Cond.fieldLink RX4 31 "BarMeasure$Kind" "gone" "[I"]
def wsX9_undo : List Cond := .code yX9_undo cX9_undo 2 (some .int) :: ((wsX9_undo_r1 ++ wsX9_undo_r2) ++ wsX90 ++ wsX10 ++ wsX00 ++ wsX70 ++ wsX60 ++ wsX40)
def wsX9_isKeeper : List Cond := .code yX9_isKeeper cX9_isKeeper 1 (some .boolean) :: ([.methodLink RX9 93 yX9_isIn, .static yX9_isIn, .initialized RX9, .code yX9_isIn cX9_isIn 3 (some .boolean)])
def wsX9_keeper : List Cond := .code yX9_keeper cX9_keeper 5 (some .int) :: ([.fieldLink RX9 46 "BarMeasure" "tonight" "I", .fieldLink RX9 186 "BarMeasure$Sheet" "keptBy" "I", .methodLink RX9 133 yX9_isBar, .static yX9_isBar, .initialized RX9, .code yX9_isBar cX9_isBar 1 (some .boolean), .methodLink RX9 93 yX9_isIn, .static yX9_isIn, .code yX9_isIn cX9_isIn 3 (some .boolean), .methodLink RX9 183 yX9_isKeeper, .static yX9_isKeeper, .code yX9_isKeeper cX9_isKeeper 1 (some .boolean), .methodLink RX9 149 yX9_sheetOf, .instanceMethod yX9_sheetOf, .selects RX9 yX9_sheetOf yX9_sheetOf, .code yX9_sheetOf cX9_sheetOf 3 (some (.object "BarMeasure$Sheet")), .fieldLink RX9 42 "BarMeasure" "sheets" "[LBarMeasure$Sheet;"] ++ wsX90 ++ wsX70)
def wsX9_night : List Cond := .code yX9_night cX9_night 2 (some .int) :: ([.fieldLink RX9 46 "BarMeasure" "tonight" "I", .fieldLink RX9 186 "BarMeasure$Sheet" "keptBy" "I", .fieldLink RX9 52 "BarMeasure" "acts" "LBarMeasure$ActLog;", .fieldLink RX9 167 "BarMeasure$ActLog" "kept" "I", .methodLink RX9 149 yX9_sheetOf, .instanceMethod yX9_sheetOf, .selects RX9 yX9_sheetOf yX9_sheetOf, .initialized RX9, .code yX9_sheetOf cX9_sheetOf 3 (some (.object "BarMeasure$Sheet")), .fieldLink RX9 42 "BarMeasure" "sheets" "[LBarMeasure$Sheet;"] ++ wsX90 ++ wsX70 ++ wsX10)
def wsX9_has : List Cond := .code yX9_has cX9_has 3 (some .int) :: ([.constant RX9 136 (-1000000000), .fieldLink RX9 11 "BarMeasure" "kinds" "[LBarMeasure$Kind;", .fieldLink RX9 126 "BarMeasure$Kind" "stored" "I", .fieldLink RX9 138 "BarMeasure$Kind" "books" "[I", .methodLink RX9 93 yX9_isIn, .static yX9_isIn, .initialized RX9, .code yX9_isIn cX9_isIn 3 (some .boolean), .methodLink RX9 113 yX9_isKind, .instanceMethod yX9_isKind, .selects RX9 yX9_isKind yX9_isKind, .code yX9_isKind cX9_isKind 2 (some .boolean), .fieldLink RX9 15 "BarMeasure" "kindCount" "I"] ++ wsX90 ++ wsX40)
def wsX9_all : List Cond := .code yX9_all cX9_all 3 (some .int) :: ([.constant RX9 136 (-1000000000), .fieldLink RX9 11 "BarMeasure" "kinds" "[LBarMeasure$Kind;", .fieldLink RX9 189 "BarMeasure$Kind" "received" "I", .fieldLink RX9 192 "BarMeasure$Kind" "gone" "[I", .methodLink RX9 113 yX9_isKind, .instanceMethod yX9_isKind, .selects RX9 yX9_isKind yX9_isKind, .initialized RX9, .code yX9_isKind cX9_isKind 2 (some .boolean), .fieldLink RX9 15 "BarMeasure" "kindCount" "I", .methodLink RX9 93 yX9_isIn, .static yX9_isIn, .code yX9_isIn cX9_isIn 3 (some .boolean)] ++ wsX90 ++ wsX40)
def wsX9_gap_r1 : List Cond := [Cond.fieldLink RX9 46 "BarMeasure" "tonight" "I", Cond.constant RX9 136 (-1000000000), Cond.fieldLink RX9 153 "BarMeasure$Sheet" "weighed" "[Z", Cond.fieldLink RX9 195 "BarMeasure$Sheet" "gaps" "[I", Cond.constant RX9 198 (-1000000004), Cond.fieldLink RX9 160 "BarMeasure$Sheet" "spans" "[I", Cond.fieldLink RX9 202 "BarMeasure$Sheet" "drinks" "[I", Cond.fieldLink RX9 186 "BarMeasure$Sheet" "keptBy" "I", Cond.methodLink RX9 93 yX9_isIn, Cond.static yX9_isIn, Cond.initialized RX9, Cond.code yX9_isIn cX9_isIn 3 (some .boolean), Cond.methodLink RX9 133 yX9_isBar, Cond.static yX9_isBar, Cond.code yX9_isBar cX9_isBar 1 (some .boolean), Cond.methodLink RX9 113 yX9_isKind, Cond.instanceMethod yX9_isKind, Cond.selects RX9 yX9_isKind yX9_isKind, Cond.code yX9_isKind cX9_isKind 2 (some .boolean), Cond.fieldLink RX9 15 "BarMeasure" "kindCount" "I", Cond.methodLink RX9 149 yX9_sheetOf, Cond.instanceMethod yX9_sheetOf, Cond.selects RX9 yX9_sheetOf yX9_sheetOf, Cond.code yX9_sheetOf cX9_sheetOf 3 (some (.object "BarMeasure$Sheet"))]
def wsX9_gap_r2 : List Cond := [Cond.fieldLink RX9 42 "BarMeasure" "sheets" "[LBarMeasure$Sheet;", Cond.methodLink RX9 163 yX9_spanNow, Cond.instanceMethod yX9_spanNow, Cond.selects RX9 yX9_spanNow yX9_spanNow, Cond.code yX9_spanNow cX9_spanNow 3 (some .int), Cond.fieldLink RX9 11 "BarMeasure" "kinds" "[LBarMeasure$Kind;", Cond.fieldLink RX9 37 "BarMeasure" "settings" "[I", Cond.methodLink RX9 318 yX4_mlOfScale, Cond.instanceMethod yX4_mlOfScale, Cond.selects RX4 yX4_mlOfScale yX4_mlOfScale, Cond.initialized RX4, Cond.code yX4_mlOfScale cX4_mlOfScale 2 (some .int), Cond.fieldLink RX4 18 "BarMeasure$Kind" "dense" "I", Cond.methodLink RX9 199 yX7_isTold, Cond.instanceMethod yX7_isTold, Cond.selects RX7 yX7_isTold yX7_isTold, Cond.initialized RX7, Cond.code yX7_isTold cX7_isTold 2 (some .boolean), Cond.fieldLink RX7 19 "BarMeasure$Sheet" "weighed" "[Z", Cond.fieldLink RX7 23 "BarMeasure$Sheet" "gaps" "[I", Cond.methodLink RX7 29 Lib.Math.abs.name, Cond.static Lib.Math.abs.name, Cond.initialized "java/lang/Math", Cond.code Lib.Math.abs.name Lib.Math.abs.code 1 (some .int)]
def wsX9_gap_r3 : List Cond := [Cond.fieldLink RX7 26 "BarMeasure$Sheet" "spans" "[I"]
def wsX9_gap : List Cond := .code yX9_gap cX9_gap 6 (some .int) :: ((wsX9_gap_r1 ++ (wsX9_gap_r2 ++ wsX9_gap_r3)) ++ wsX90 ++ wsX70 ++ wsX40)
def wsX9_sheetsSoFar : List Cond := .code yX9_sheetsSoFar cX9_sheetsSoFar 1 (some .int) :: ([.fieldLink RX9 46 "BarMeasure" "tonight" "I"] ++ wsX90)
def wsX9_commonDivisor : List Cond := .code yX9_commonDivisor cX9_commonDivisor 7 (some .long) :: ([])
def wsX9_over_r1 : List Cond := [Cond.constantLong RX9 205 (-1000000000), Cond.fieldLink RX9 42 "BarMeasure" "sheets" "[LBarMeasure$Sheet;", Cond.fieldLink RX9 202 "BarMeasure$Sheet" "drinks" "[I", Cond.fieldLink RX9 195 "BarMeasure$Sheet" "gaps" "[I", Cond.constantLong RX9 214 (-1000000004), Cond.methodLink RX9 216 Lib.MathLoose.abs_long.x, Cond.static Lib.MathLoose.abs_long.x, Cond.initialized "java/lang/Math", Cond.code Lib.MathLoose.abs_long.x Lib.MathLoose.abs_long.code 2 (some .long), Cond.methodLink RX9 183 yX9_isKeeper, Cond.static yX9_isKeeper, Cond.initialized RX9, Cond.code yX9_isKeeper cX9_isKeeper 1 (some .boolean), Cond.methodLink RX9 93 yX9_isIn, Cond.static yX9_isIn, Cond.code yX9_isIn cX9_isIn 3 (some .boolean), Cond.methodLink RX9 113 yX9_isKind, Cond.instanceMethod yX9_isKind, Cond.selects RX9 yX9_isKind yX9_isKind, Cond.code yX9_isKind cX9_isKind 2 (some .boolean), Cond.fieldLink RX9 15 "BarMeasure" "kindCount" "I", Cond.methodLink RX9 207 yX9_sheetsSoFar, Cond.instanceMethod yX9_sheetsSoFar, Cond.selects RX9 yX9_sheetsSoFar yX9_sheetsSoFar]
def wsX9_over_r2 : List Cond := [Cond.code yX9_sheetsSoFar cX9_sheetsSoFar 1 (some .int), Cond.fieldLink RX9 46 "BarMeasure" "tonight" "I", Cond.methodLink RX9 211 yX7_judges, Cond.instanceMethod yX7_judges, Cond.selects RX7 yX7_judges yX7_judges, Cond.initialized RX7, Cond.code yX7_judges cX7_judges 3 (some .boolean), Cond.fieldLink RX7 9 "BarMeasure$Sheet" "keptBy" "I", Cond.fieldLink RX7 19 "BarMeasure$Sheet" "weighed" "[Z", Cond.fieldLink RX7 15 "BarMeasure$Sheet" "drinks" "[I", Cond.methodLink RX9 222 yX9_commonDivisor, Cond.static yX9_commonDivisor, Cond.code yX9_commonDivisor cX9_commonDivisor 7 (some .long)]
def wsX9_over : List Cond := .code yX9_over cX9_over 12 (some .long) :: ((wsX9_over_r1 ++ wsX9_over_r2) ++ wsX90 ++ wsX70)
def wsX9_leans_r1 : List Cond := [Cond.fieldLink RX9 42 "BarMeasure" "sheets" "[LBarMeasure$Sheet;", Cond.methodLink RX9 183 yX9_isKeeper, Cond.static yX9_isKeeper, Cond.initialized RX9, Cond.code yX9_isKeeper cX9_isKeeper 1 (some .boolean), Cond.methodLink RX9 93 yX9_isIn, Cond.static yX9_isIn, Cond.code yX9_isIn cX9_isIn 3 (some .boolean), Cond.methodLink RX9 113 yX9_isKind, Cond.instanceMethod yX9_isKind, Cond.selects RX9 yX9_isKind yX9_isKind, Cond.code yX9_isKind cX9_isKind 2 (some .boolean), Cond.fieldLink RX9 15 "BarMeasure" "kindCount" "I", Cond.methodLink RX9 207 yX9_sheetsSoFar, Cond.instanceMethod yX9_sheetsSoFar, Cond.selects RX9 yX9_sheetsSoFar yX9_sheetsSoFar, Cond.code yX9_sheetsSoFar cX9_sheetsSoFar 1 (some .int), Cond.fieldLink RX9 46 "BarMeasure" "tonight" "I", Cond.methodLink RX9 211 yX7_judges, Cond.instanceMethod yX7_judges, Cond.selects RX7 yX7_judges yX7_judges, Cond.initialized RX7, Cond.code yX7_judges cX7_judges 3 (some .boolean), Cond.fieldLink RX7 9 "BarMeasure$Sheet" "keptBy" "I"]
def wsX9_leans_r2 : List Cond := [Cond.fieldLink RX7 19 "BarMeasure$Sheet" "weighed" "[Z", Cond.fieldLink RX7 15 "BarMeasure$Sheet" "drinks" "[I", Cond.methodLink RX9 199 yX7_isTold, Cond.instanceMethod yX7_isTold, Cond.selects RX7 yX7_isTold yX7_isTold, Cond.code yX7_isTold cX7_isTold 2 (some .boolean), Cond.fieldLink RX7 23 "BarMeasure$Sheet" "gaps" "[I", Cond.methodLink RX7 29 Lib.Math.abs.name, Cond.static Lib.Math.abs.name, Cond.initialized "java/lang/Math", Cond.code Lib.Math.abs.name Lib.Math.abs.code 1 (some .int), Cond.fieldLink RX7 26 "BarMeasure$Sheet" "spans" "[I"]
def wsX9_leans : List Cond := .code yX9_leans cX9_leans 5 (some .int) :: ((wsX9_leans_r1 ++ wsX9_leans_r2) ++ wsX90 ++ wsX70)
def wsX9_takings : List Cond := .code yX9_takings cX9_takings 2 (some .int) :: ([.fieldLink RX9 56 "BarMeasure" "takenIn" "[I", .methodLink RX9 133 yX9_isBar, .static yX9_isBar, .initialized RX9, .code yX9_isBar cX9_isBar 1 (some .boolean), .methodLink RX9 93 yX9_isIn, .static yX9_isIn, .code yX9_isIn cX9_isIn 3 (some .boolean)] ++ wsX90)
def wsX9_foretell : List Cond := .code yX9_foretell cX9_foretell 3 (some .int) :: ([.fieldLink RX9 62 "BarMeasure" "forecast" "LBarMeasure$Forecast;", .fieldLink RX9 226 "BarMeasure$Forecast" "told" "I", .methodLink RX9 93 yX9_isIn, .static yX9_isIn, .initialized RX9, .code yX9_isIn cX9_isIn 3 (some .boolean), .methodLink RX9 229 yX3_add, .instanceMethod yX3_add, .selects RX3 yX3_add yX3_add, .initialized RX3, .code yX3_add cX3_add 3 none, .fieldLink RX3 9 "BarMeasure$Forecast" "amounts" "[I", .fieldLink RX3 18 "BarMeasure$Forecast" "told" "I", .fieldLink RX3 15 "BarMeasure$Forecast" "weights" "[I"] ++ wsX90 ++ wsX30)
def wsX9_forget : List Cond := .code yX9_forget cX9_forget 2 (some .int) :: ([.fieldLink RX9 62 "BarMeasure" "forecast" "LBarMeasure$Forecast;", .fieldLink RX9 226 "BarMeasure$Forecast" "told" "I"] ++ wsX90 ++ wsX30)
def wsX9_press : List Cond := .code yX9_press cX9_press 4 (some .int) :: ([.fieldLink RX9 62 "BarMeasure" "forecast" "LBarMeasure$Forecast;", .fieldLink RX9 226 "BarMeasure$Forecast" "told" "I", .fieldLink RX9 37 "BarMeasure" "settings" "[I", .methodLink RX9 93 yX9_isIn, .static yX9_isIn, .initialized RX9, .code yX9_isIn cX9_isIn 3 (some .boolean), .methodLink RX9 233 yX3_par, .instanceMethod yX3_par, .selects RX3 yX3_par yX3_par, .initialized RX3, .code yX3_par cX3_par 7 (some .int), .methodLink RX3 28 yX3_costOf, .instanceMethod yX3_costOf, .selects RX3 yX3_costOf yX3_costOf, .code yX3_costOf cX3_costOf 8 (some .int), .fieldLink RX3 18 "BarMeasure$Forecast" "told" "I", .fieldLink RX3 9 "BarMeasure$Forecast" "amounts" "[I", .methodLink RX3 22 Lib.Math.max.name, .static Lib.Math.max.name, .initialized "java/lang/Math", .code Lib.Math.max.name Lib.Math.max.code 2 (some .int), .fieldLink RX3 15 "BarMeasure$Forecast" "weights" "[I", .methodLink RX9 236 yX3_costOf] ++ wsX90 ++ wsX30)
def wsX9_allKinds : List Cond := .code yX9_allKinds cX9_allKinds 1 (some .int) :: ([.fieldLink RX9 15 "BarMeasure" "kindCount" "I"] ++ wsX90)
def wsX9_madeBy : List Cond := .code yX9_madeBy cX9_madeBy 4 (some .int) :: ([.fieldLink RX9 25 "BarMeasure" "recipeCount" "I", .fieldLink RX9 21 "BarMeasure" "recipes" "[LBarMeasure$Recipe;", .methodLink RX9 324 yX6_canBeMadeBy, .instanceMethod yX6_canBeMadeBy, .selects RX6 yX6_canBeMadeBy yX6_canBeMadeBy, .initialized RX6, .code yX6_canBeMadeBy cX6_canBeMadeBy 2 (some .boolean), .fieldLink RX6 18 "BarMeasure$Recipe" "needed" "I"] ++ wsX90 ++ wsX60)
def wsX9_makes : List Cond := .code yX9_makes cX9_makes 2 (some .int) :: ([.methodLink RX9 239 yX9_allKinds, .instanceMethod yX9_allKinds, .selects RX9 yX9_allKinds yX9_allKinds, .initialized RX9, .code yX9_allKinds cX9_allKinds 1 (some .int), .fieldLink RX9 15 "BarMeasure" "kindCount" "I", .methodLink RX9 93 yX9_isIn, .static yX9_isIn, .code yX9_isIn cX9_isIn 3 (some .boolean), .methodLink RX9 242 yX9_madeBy, .instanceMethod yX9_madeBy, .selects RX9 yX9_madeBy yX9_madeBy, .code yX9_madeBy cX9_madeBy 4 (some .int), .fieldLink RX9 25 "BarMeasure" "recipeCount" "I", .fieldLink RX9 21 "BarMeasure" "recipes" "[LBarMeasure$Recipe;", .methodLink RX9 324 yX6_canBeMadeBy, .instanceMethod yX6_canBeMadeBy, .selects RX6 yX6_canBeMadeBy yX6_canBeMadeBy, .initialized RX6, .code yX6_canBeMadeBy cX6_canBeMadeBy 2 (some .boolean), .fieldLink RX6 18 "BarMeasure$Recipe" "needed" "I"] ++ wsX90 ++ wsX60)
def wsJ6_bitCount_0f7a4 : List Cond := .code yJ6_bitCount_0f7a4 cJ6_bitCount_0f7a4 1 (some .int) :: ([.constant RJ6 265 (1431655765), .constant RJ6 266 (858993459), .constant RJ6 267 (252645135)])
def wsX9_fewest_r1 : List Cond := [Cond.methodLink RX9 93 yX9_isIn, Cond.static yX9_isIn, Cond.initialized RX9, Cond.code yX9_isIn cX9_isIn 3 (some .boolean), Cond.methodLink RX9 239 yX9_allKinds, Cond.instanceMethod yX9_allKinds, Cond.selects RX9 yX9_allKinds yX9_allKinds, Cond.code yX9_allKinds cX9_allKinds 1 (some .int), Cond.fieldLink RX9 15 "BarMeasure" "kindCount" "I", Cond.methodLink RX9 246 yJ6_bitCount_0f7a4, Cond.static yJ6_bitCount_0f7a4, Cond.initialized RJ6, Cond.code yJ6_bitCount_0f7a4 cJ6_bitCount_0f7a4 1 (some .int), Cond.constant RJ6 265 (1431655765), Cond.constant RJ6 266 (858993459), Cond.constant RJ6 267 (252645135), Cond.methodLink RX9 242 yX9_madeBy, Cond.instanceMethod yX9_madeBy, Cond.selects RX9 yX9_madeBy yX9_madeBy, Cond.code yX9_madeBy cX9_madeBy 4 (some .int), Cond.fieldLink RX9 25 "BarMeasure" "recipeCount" "I", Cond.fieldLink RX9 21 "BarMeasure" "recipes" "[LBarMeasure$Recipe;", Cond.methodLink RX9 324 yX6_canBeMadeBy, Cond.instanceMethod yX6_canBeMadeBy]
def wsX9_fewest_r2 : List Cond := [Cond.selects RX6 yX6_canBeMadeBy yX6_canBeMadeBy, Cond.initialized RX6, Cond.code yX6_canBeMadeBy cX6_canBeMadeBy 2 (some .boolean), Cond.fieldLink RX6 18 "BarMeasure$Recipe" "needed" "I"]
def wsX9_fewest : List Cond := .code yX9_fewest cX9_fewest 5 (some .int) :: ((wsX9_fewest_r1 ++ wsX9_fewest_r2) ++ wsX90 ++ wsX60)
def wsX9_most_r1 : List Cond := [Cond.fieldLink RX9 15 "BarMeasure" "kindCount" "I", Cond.methodLink RX9 93 yX9_isIn, Cond.static yX9_isIn, Cond.initialized RX9, Cond.code yX9_isIn cX9_isIn 3 (some .boolean), Cond.methodLink RX9 239 yX9_allKinds, Cond.instanceMethod yX9_allKinds, Cond.selects RX9 yX9_allKinds yX9_allKinds, Cond.code yX9_allKinds cX9_allKinds 1 (some .int), Cond.methodLink RX9 246 yJ6_bitCount_0f7a4, Cond.static yJ6_bitCount_0f7a4, Cond.initialized RJ6, Cond.code yJ6_bitCount_0f7a4 cJ6_bitCount_0f7a4 1 (some .int), Cond.constant RJ6 265 (1431655765), Cond.constant RJ6 266 (858993459), Cond.constant RJ6 267 (252645135), Cond.methodLink RX9 242 yX9_madeBy, Cond.instanceMethod yX9_madeBy, Cond.selects RX9 yX9_madeBy yX9_madeBy, Cond.code yX9_madeBy cX9_madeBy 4 (some .int), Cond.fieldLink RX9 25 "BarMeasure" "recipeCount" "I", Cond.fieldLink RX9 21 "BarMeasure" "recipes" "[LBarMeasure$Recipe;", Cond.methodLink RX9 324 yX6_canBeMadeBy, Cond.instanceMethod yX6_canBeMadeBy]
def wsX9_most_r2 : List Cond := [Cond.selects RX6 yX6_canBeMadeBy yX6_canBeMadeBy, Cond.initialized RX6, Cond.code yX6_canBeMadeBy cX6_canBeMadeBy 2 (some .boolean), Cond.fieldLink RX6 18 "BarMeasure$Recipe" "needed" "I"]
def wsX9_most : List Cond := .code yX9_most cX9_most 6 (some .int) :: ((wsX9_most_r1 ++ wsX9_most_r2) ++ wsX90 ++ wsX60)
def wsX9_priceRule : List Cond := .code yX9_priceRule cX9_priceRule 7 (some .int) :: ([.fieldLink RX9 72 "BarMeasure" "priceRuleCount" "I", .fieldLink RX9 68 "BarMeasure" "priceRules" "[LBarMeasure$PriceRule;", .fieldLink RX9 251 "BarMeasure$PriceRule" "days" "I", .fieldLink RX9 254 "BarMeasure$PriceRule" "from" "I", .fieldLink RX9 257 "BarMeasure$PriceRule" "to" "I", .fieldLink RX9 260 "BarMeasure$PriceRule" "hundredths" "I", .methodLink RX9 93 yX9_isIn, .static yX9_isIn, .initialized RX9, .code yX9_isIn cX9_isIn 3 (some .boolean)] ++ wsX90 ++ wsX50)
def wsX9_price_r1 : List Cond := [Cond.methodLink RX9 109 yX9_isRecipe, Cond.instanceMethod yX9_isRecipe, Cond.selects RX9 yX9_isRecipe yX9_isRecipe, Cond.initialized RX9, Cond.code yX9_isRecipe cX9_isRecipe 2 (some .boolean), Cond.fieldLink RX9 25 "BarMeasure" "recipeCount" "I", Cond.methodLink RX9 93 yX9_isIn, Cond.static yX9_isIn, Cond.code yX9_isIn cX9_isIn 3 (some .boolean), Cond.methodLink RX9 141 yX9_isTime, Cond.static yX9_isTime, Cond.code yX9_isTime cX9_isTime 2 (some .boolean), Cond.methodLink RX9 145 yX9_priceAt, Cond.instanceMethod yX9_priceAt, Cond.selects RX9 yX9_priceAt yX9_priceAt, Cond.code yX9_priceAt cX9_priceAt 6 (some .int), Cond.fieldLink RX9 21 "BarMeasure" "recipes" "[LBarMeasure$Recipe;", Cond.fieldLink RX9 106 "BarMeasure$Recipe" "listPrice" "I", Cond.fieldLink RX9 72 "BarMeasure" "priceRuleCount" "I", Cond.fieldLink RX9 68 "BarMeasure" "priceRules" "[LBarMeasure$PriceRule;", Cond.fieldLink RX9 37 "BarMeasure" "settings" "[I", Cond.fieldLink RX9 260 "BarMeasure$PriceRule" "hundredths" "I", Cond.methodLink RX9 271 Lib.Math.max.name, Cond.static Lib.Math.max.name]
def wsX9_price_r2 : List Cond := [Cond.initialized "java/lang/Math", Cond.code Lib.Math.max.name Lib.Math.max.code 2 (some .int), Cond.methodLink RX9 321 yX5_holds, Cond.instanceMethod yX5_holds, Cond.selects RX5 yX5_holds yX5_holds, Cond.initialized RX5, Cond.code yX5_holds cX5_holds 4 (some .boolean), Cond.fieldLink RX5 15 "BarMeasure$PriceRule" "from" "I", Cond.fieldLink RX5 18 "BarMeasure$PriceRule" "to" "I", Cond.methodLink RX5 24 yX5_hasDay, Cond.instanceMethod yX5_hasDay, Cond.selects RX5 yX5_hasDay yX5_hasDay, Cond.code yX5_hasDay cX5_hasDay 2 (some .boolean), Cond.fieldLink RX5 9 "BarMeasure$PriceRule" "days" "I"]
def wsX9_price : List Cond := .code yX9_price cX9_price 4 (some .int) :: ((wsX9_price_r1 ++ wsX9_price_r2) ++ wsX90 ++ wsX60 ++ wsX50)
def wsX9_person : List Cond := .code yX9_person cX9_person 4 (some .int) :: ([.fieldLink RX9 78 "BarMeasure" "tipJar" "LBarMeasure$TipJar;", .fieldLink RX9 263 "BarMeasure$TipJar" "weights" "[I", .methodLink RX9 93 yX9_isIn, .static yX9_isIn, .initialized RX9, .code yX9_isIn cX9_isIn 3 (some .boolean)] ++ wsX90 ++ wsX80)
def wsX9_tips : List Cond := .code yX9_tips cX9_tips 3 (some .int) :: ([.constant RX9 266 (1000000), .fieldLink RX9 78 "BarMeasure" "tipJar" "LBarMeasure$TipJar;", .methodLink RX9 93 yX9_isIn, .static yX9_isIn, .initialized RX9, .code yX9_isIn cX9_isIn 3 (some .boolean), .methodLink RX9 267 yX8_shareOf, .instanceMethod yX8_shareOf, .selects RX8 yX8_shareOf yX8_shareOf, .initialized RX8, .code yX8_shareOf cX8_shareOf 8 (some .int), .fieldLink RX8 9 "BarMeasure$TipJar" "weights" "[I", .methodLink RX8 15 yX8_cutShare, .instanceMethod yX8_cutShare, .selects RX8 yX8_cutShare yX8_cutShare, .code yX8_cutShare cX8_cutShare 5 (some .long), .methodLink RX8 19 yX8_aheadOf, .instanceMethod yX8_aheadOf, .selects RX8 yX8_aheadOf yX8_aheadOf, .code yX8_aheadOf cX8_aheadOf 11 (some .int), .methodLink RX8 23 yX8_rest, .instanceMethod yX8_rest, .selects RX8 yX8_rest yX8_rest, .code yX8_rest cX8_rest 5 (some .long)] ++ wsX90 ++ wsX80)
def wsX9_keg : List Cond := .code yX9_keg cX9_keg 4 (some .int) :: ([.constant RX9 270 (100000), .fieldLink RX9 37 "BarMeasure" "settings" "[I", .methodLink RX9 271 Lib.Math.max.name, .static Lib.Math.max.name, .initialized "java/lang/Math", .code Lib.Math.max.name Lib.Math.max.code 2 (some .int), .methodLink RX9 274 Lib.Math.min.name, .static Lib.Math.min.name, .code Lib.Math.min.name Lib.Math.min.code 2 (some .int), .constant RX9 277 (50000), .methodLink RX9 93 yX9_isIn, .static yX9_isIn, .initialized RX9, .code yX9_isIn cX9_isIn 3 (some .boolean)] ++ wsX90)
def wsX9_deal : List Cond := .code yX9_deal cX9_deal 3 (some .int) :: ([.constant RX9 270 (100000), .fieldLink RX9 85 "BarMeasure" "deals" "LBarMeasure$DealBook;", .fieldLink RX9 278 "BarMeasure$DealBook" "told" "I", .methodLink RX9 93 yX9_isIn, .static yX9_isIn, .initialized RX9, .code yX9_isIn cX9_isIn 3 (some .boolean), .methodLink RX9 279 yX2_add, .instanceMethod yX2_add, .selects RX2 yX2_add yX2_add, .initialized RX2, .code yX2_add cX2_add 3 none, .fieldLink RX2 11 "BarMeasure$DealBook" "bottles" "[I", .fieldLink RX2 18 "BarMeasure$DealBook" "told" "I", .fieldLink RX2 15 "BarMeasure$DealBook" "prices" "[I"] ++ wsX90 ++ wsX20)
def wsX9_buy_r1 : List Cond := [Cond.fieldLink RX9 85 "BarMeasure" "deals" "LBarMeasure$DealBook;", Cond.fieldLink RX9 278 "BarMeasure$DealBook" "told" "I", Cond.methodLink RX9 93 yX9_isIn, Cond.static yX9_isIn, Cond.initialized RX9, Cond.code yX9_isIn cX9_isIn 3 (some .boolean), Cond.methodLink RX9 280 yX2_weighUp, Cond.instanceMethod yX2_weighUp, Cond.selects RX2 yX2_weighUp yX2_weighUp, Cond.initialized RX2, Cond.code yX2_weighUp cX2_weighUp 3 none, Cond.fieldLink RX2 24 "BarMeasure$DealBook" "least" "[[I", Cond.fieldLink RX2 18 "BarMeasure$DealBook" "told" "I", Cond.constant RX2 27 (1000000000), Cond.methodLink RX2 32 Lib.Math.min.name, Cond.static Lib.Math.min.name, Cond.initialized "java/lang/Math", Cond.code Lib.Math.min.name Lib.Math.min.code 2 (some .int), Cond.methodLink RX2 28 yX2_priceWithOneMore, Cond.instanceMethod yX2_priceWithOneMore, Cond.selects RX2 yX2_priceWithOneMore yX2_priceWithOneMore, Cond.code yX2_priceWithOneMore cX2_priceWithOneMore 3 (some .int), Cond.fieldLink RX2 11 "BarMeasure$DealBook" "bottles" "[I", Cond.fieldLink RX2 15 "BarMeasure$DealBook" "prices" "[I"]
def wsX9_buy_r2 : List Cond := [Cond.methodLink RX9 283 yX2_bestBottles, Cond.instanceMethod yX2_bestBottles, Cond.selects RX2 yX2_bestBottles yX2_bestBottles, Cond.code yX2_bestBottles cX2_bestBottles 4 (some .int), Cond.methodLink RX9 286 yX2_leastFor, Cond.instanceMethod yX2_leastFor, Cond.selects RX2 yX2_leastFor yX2_leastFor, Cond.code yX2_leastFor cX2_leastFor 2 (some .int), Cond.methodLink RX9 289 yX2_timesOf, Cond.instanceMethod yX2_timesOf, Cond.selects RX2 yX2_timesOf yX2_timesOf, Cond.code yX2_timesOf cX2_timesOf 6 (some .int), Cond.methodLink RX2 37 yX2_mostTimes, Cond.instanceMethod yX2_mostTimes, Cond.selects RX2 yX2_mostTimes yX2_mostTimes, Cond.code yX2_mostTimes cX2_mostTimes 5 (some .int)]
def wsX9_buy : List Cond := .code yX9_buy cX9_buy 4 (some .int) :: ((wsX9_buy_r1 ++ wsX9_buy_r2) ++ wsX90 ++ wsX20)
def wsX9_count : List Cond := .code yX9_count cX9_count 2 (some .int) :: ([.fieldLink RX9 15 "BarMeasure" "kindCount" "I", .fieldLink RX9 25 "BarMeasure" "recipeCount" "I", .fieldLink RX9 46 "BarMeasure" "tonight" "I", .fieldLink RX9 52 "BarMeasure" "acts" "LBarMeasure$ActLog;", .fieldLink RX9 167 "BarMeasure$ActLog" "kept" "I", .fieldLink RX9 72 "BarMeasure" "priceRuleCount" "I", .fieldLink RX9 85 "BarMeasure" "deals" "LBarMeasure$DealBook;", .fieldLink RX9 278 "BarMeasure$DealBook" "told" "I", .fieldLink RX9 62 "BarMeasure" "forecast" "LBarMeasure$Forecast;", .fieldLink RX9 226 "BarMeasure$Forecast" "told" "I"] ++ wsX90 ++ wsX10 ++ wsX20 ++ wsX30)
def wsX10_init_r1 : List Cond := [Cond.methodLink RX10 1 objectInit, Cond.instanceMethod objectInit, Cond.code objectInit ⟨#[0xb1]⟩ 1 none, Cond.arrayClass .int, Cond.fieldLink RX10 7 "BarMeasureModel" "tare" "[I", Cond.fieldLink RX10 13 "BarMeasureModel" "size" "[I", Cond.fieldLink RX10 16 "BarMeasureModel" "dense" "[I", Cond.fieldLink RX10 19 "BarMeasureModel" "price" "[I", Cond.fieldLink RX10 22 "BarMeasureModel" "parts" "[I", Cond.arrayClass .boolean, Cond.fieldLink RX10 25 "BarMeasureModel" "wasSold" "[Z", Cond.fieldLink RX10 29 "BarMeasureModel" "rules" "[I", Cond.fieldLink RX10 32 "BarMeasureModel" "store" "[I", Cond.fieldLink RX10 35 "BarMeasureModel" "book" "[I", Cond.fieldLink RX10 38 "BarMeasureModel" "gaps" "[I", Cond.fieldLink RX10 41 "BarMeasureModel" "isWeighed" "[Z", Cond.fieldLink RX10 44 "BarMeasureModel" "drinks" "[I", Cond.fieldLink RX10 47 "BarMeasureModel" "spans" "[I", Cond.fieldLink RX10 50 "BarMeasureModel" "keepers" "[I", Cond.fieldLink RX10 53 "BarMeasureModel" "alls" "[I", Cond.fieldLink RX10 56 "BarMeasureModel" "takings" "[I", Cond.fieldLink RX10 59 "BarMeasureModel" "act" "[I", Cond.fieldLink RX10 62 "BarMeasureModel" "amounts" "[I", Cond.fieldLink RX10 65 "BarMeasureModel" "weights" "[I"]
def wsX10_init_r2 : List Cond := [Cond.fieldLink RX10 68 "BarMeasureModel" "days" "[I", Cond.fieldLink RX10 71 "BarMeasureModel" "from" "[I", Cond.fieldLink RX10 74 "BarMeasureModel" "to" "[I", Cond.fieldLink RX10 77 "BarMeasureModel" "hundredths" "[I", Cond.fieldLink RX10 80 "BarMeasureModel" "worth" "[I", Cond.fieldLink RX10 83 "BarMeasureModel" "dealBottles" "[I", Cond.fieldLink RX10 86 "BarMeasureModel" "dealPrice" "[I", Cond.fieldLink RX10 89 "BarMeasureModel" "least" "[I"]
def wsX10_init : List Cond := .code yX10_init cX10_init 1 none :: ((wsX10_init_r1 ++ wsX10_init_r2) ++ wsX100)
def wsX10_in : List Cond := .code yX10_in cX10_in 3 (some .boolean) :: ([])
def wsX10_isKind : List Cond := .code yX10_isKind cX10_isKind 2 (some .boolean) :: ([.fieldLink RX10 92 "BarMeasureModel" "kinds" "I", .methodLink RX10 96 yX10_in, .static yX10_in, .initialized RX10, .code yX10_in cX10_in 3 (some .boolean)] ++ wsX100)
def wsX10_isRecipe : List Cond := .code yX10_isRecipe cX10_isRecipe 2 (some .boolean) :: ([.fieldLink RX10 100 "BarMeasureModel" "recipes" "I", .methodLink RX10 96 yX10_in, .static yX10_in, .initialized RX10, .code yX10_in cX10_in 3 (some .boolean)] ++ wsX100)
def wsX10_isBar : List Cond := .code yX10_isBar cX10_isBar 1 (some .boolean) :: ([.methodLink RX10 96 yX10_in, .static yX10_in, .initialized RX10, .code yX10_in cX10_in 3 (some .boolean)])
def wsX10_kind : List Cond := .code yX10_kind cX10_kind 4 (some .int) :: ([.fieldLink RX10 92 "BarMeasureModel" "kinds" "I", .fieldLink RX10 7 "BarMeasureModel" "tare" "[I", .fieldLink RX10 13 "BarMeasureModel" "size" "[I", .fieldLink RX10 16 "BarMeasureModel" "dense" "[I", .methodLink RX10 96 yX10_in, .static yX10_in, .initialized RX10, .code yX10_in cX10_in 3 (some .boolean)] ++ wsX100)
def wsX10_recipe : List Cond := .code yX10_recipe cX10_recipe 2 (some .int) :: ([.fieldLink RX10 100 "BarMeasureModel" "recipes" "I", .fieldLink RX10 19 "BarMeasureModel" "price" "[I", .methodLink RX10 96 yX10_in, .static yX10_in, .initialized RX10, .code yX10_in cX10_in 3 (some .boolean)] ++ wsX100)
def wsX10_part : List Cond := .code yX10_part cX10_part 5 (some .int) :: ([.fieldLink RX10 25 "BarMeasureModel" "wasSold" "[Z", .fieldLink RX10 22 "BarMeasureModel" "parts" "[I", .methodLink RX10 103 yX10_isRecipe, .instanceMethod yX10_isRecipe, .selects RX10 yX10_isRecipe yX10_isRecipe, .initialized RX10, .code yX10_isRecipe cX10_isRecipe 2 (some .boolean), .fieldLink RX10 100 "BarMeasureModel" "recipes" "I", .methodLink RX10 96 yX10_in, .static yX10_in, .code yX10_in cX10_in 3 (some .boolean), .methodLink RX10 107 yX10_isKind, .instanceMethod yX10_isKind, .selects RX10 yX10_isKind yX10_isKind, .code yX10_isKind cX10_isKind 2 (some .boolean), .fieldLink RX10 92 "BarMeasureModel" "kinds" "I"] ++ wsX100)
def wsX10_top : List Cond := .code yX10_top cX10_top 1 (some .int) :: ([])
def wsX10_rule : List Cond := .code yX10_rule cX10_rule 4 (some .int) :: ([.fieldLink RX10 29 "BarMeasureModel" "rules" "[I", .methodLink RX10 96 yX10_in, .static yX10_in, .initialized RX10, .code yX10_in cX10_in 3 (some .boolean), .methodLink RX10 110 yX10_top, .static yX10_top, .code yX10_top cX10_top 1 (some .int)] ++ wsX100)
def wsX10_keeps : List Cond := .code yX10_keeps cX10_keeps 8 none :: ([.fieldLink RX10 114 "BarMeasureModel" "acts" "I", .fieldLink RX10 59 "BarMeasureModel" "act" "[I"] ++ wsX100)
def wsX10_at : List Cond := .code yX10_at cX10_at 3 (some .int) :: ([])
def wsX10_receives : List Cond := .code yX10_receives cX10_receives 3 none :: ([.fieldLink RX10 32 "BarMeasureModel" "store" "[I", .fieldLink RX10 53 "BarMeasureModel" "alls" "[I"] ++ wsX100)
def wsX10_issues : List Cond := .code yX10_issues cX10_issues 4 none :: ([.fieldLink RX10 32 "BarMeasureModel" "store" "[I", .fieldLink RX10 35 "BarMeasureModel" "book" "[I", .fieldLink RX10 13 "BarMeasureModel" "size" "[I"] ++ wsX100)
def wsX10_lends : List Cond := .code yX10_lends cX10_lends 4 none :: ([.fieldLink RX10 35 "BarMeasureModel" "book" "[I"] ++ wsX100)
def wsX10_sells : List Cond := .code yX10_sells cX10_sells 7 none :: ([.fieldLink RX10 92 "BarMeasureModel" "kinds" "I", .fieldLink RX10 22 "BarMeasureModel" "parts" "[I", .fieldLink RX10 35 "BarMeasureModel" "book" "[I", .fieldLink RX10 53 "BarMeasureModel" "alls" "[I", .fieldLink RX10 44 "BarMeasureModel" "drinks" "[I", .fieldLink RX10 117 "BarMeasureModel" "nightNow" "I", .fieldLink RX10 56 "BarMeasureModel" "takings" "[I", .methodLink RX10 120 yX10_at, .static yX10_at, .initialized RX10, .code yX10_at cX10_at 3 (some .int)] ++ wsX100)
def wsX10_loses : List Cond := .code yX10_loses cX10_loses 5 none :: ([.fieldLink RX10 35 "BarMeasureModel" "book" "[I", .fieldLink RX10 53 "BarMeasureModel" "alls" "[I"] ++ wsX100)
def wsX10_receive : List Cond := .code yX10_receive cX10_receive 3 (some .int) :: ([.fieldLink RX10 32 "BarMeasureModel" "store" "[I", .methodLink RX10 107 yX10_isKind, .instanceMethod yX10_isKind, .selects RX10 yX10_isKind yX10_isKind, .initialized RX10, .code yX10_isKind cX10_isKind 2 (some .boolean), .fieldLink RX10 92 "BarMeasureModel" "kinds" "I", .methodLink RX10 96 yX10_in, .static yX10_in, .code yX10_in cX10_in 3 (some .boolean), .methodLink RX10 124 yX10_receives, .instanceMethod yX10_receives, .selects RX10 yX10_receives yX10_receives, .code yX10_receives cX10_receives 3 none, .fieldLink RX10 53 "BarMeasureModel" "alls" "[I", .methodLink RX10 128 yX10_keeps, .instanceMethod yX10_keeps, .selects RX10 yX10_keeps yX10_keeps, .code yX10_keeps cX10_keeps 8 none, .fieldLink RX10 114 "BarMeasureModel" "acts" "I", .fieldLink RX10 59 "BarMeasureModel" "act" "[I"] ++ wsX100)
def wsX10_issue_r1 : List Cond := [Cond.constant RX10 135 (-1000000000), Cond.fieldLink RX10 32 "BarMeasureModel" "store" "[I", Cond.constant RX10 136 (-1000000002), Cond.fieldLink RX10 35 "BarMeasureModel" "book" "[I", Cond.methodLink RX10 132 yX10_isBar, Cond.static yX10_isBar, Cond.initialized RX10, Cond.code yX10_isBar cX10_isBar 1 (some .boolean), Cond.methodLink RX10 96 yX10_in, Cond.static yX10_in, Cond.code yX10_in cX10_in 3 (some .boolean), Cond.methodLink RX10 107 yX10_isKind, Cond.instanceMethod yX10_isKind, Cond.selects RX10 yX10_isKind yX10_isKind, Cond.code yX10_isKind cX10_isKind 2 (some .boolean), Cond.fieldLink RX10 92 "BarMeasureModel" "kinds" "I", Cond.methodLink RX10 137 yX10_issues, Cond.instanceMethod yX10_issues, Cond.selects RX10 yX10_issues yX10_issues, Cond.code yX10_issues cX10_issues 4 none, Cond.fieldLink RX10 13 "BarMeasureModel" "size" "[I", Cond.methodLink RX10 128 yX10_keeps, Cond.instanceMethod yX10_keeps, Cond.selects RX10 yX10_keeps yX10_keeps]
def wsX10_issue_r2 : List Cond := [Cond.code yX10_keeps cX10_keeps 8 none, Cond.fieldLink RX10 114 "BarMeasureModel" "acts" "I", Cond.fieldLink RX10 59 "BarMeasureModel" "act" "[I"]
def wsX10_issue : List Cond := .code yX10_issue cX10_issue 4 (some .int) :: ((wsX10_issue_r1 ++ wsX10_issue_r2) ++ wsX100)
def wsX10_lend_r1 : List Cond := [Cond.constant RX10 135 (-1000000000), Cond.fieldLink RX10 35 "BarMeasureModel" "book" "[I", Cond.constant RX10 136 (-1000000002), Cond.methodLink RX10 132 yX10_isBar, Cond.static yX10_isBar, Cond.initialized RX10, Cond.code yX10_isBar cX10_isBar 1 (some .boolean), Cond.methodLink RX10 96 yX10_in, Cond.static yX10_in, Cond.code yX10_in cX10_in 3 (some .boolean), Cond.methodLink RX10 107 yX10_isKind, Cond.instanceMethod yX10_isKind, Cond.selects RX10 yX10_isKind yX10_isKind, Cond.code yX10_isKind cX10_isKind 2 (some .boolean), Cond.fieldLink RX10 92 "BarMeasureModel" "kinds" "I", Cond.methodLink RX10 141 yX10_lends, Cond.instanceMethod yX10_lends, Cond.selects RX10 yX10_lends yX10_lends, Cond.code yX10_lends cX10_lends 4 none, Cond.methodLink RX10 128 yX10_keeps, Cond.instanceMethod yX10_keeps, Cond.selects RX10 yX10_keeps yX10_keeps, Cond.code yX10_keeps cX10_keeps 8 none, Cond.fieldLink RX10 114 "BarMeasureModel" "acts" "I"]
def wsX10_lend_r2 : List Cond := [Cond.fieldLink RX10 59 "BarMeasureModel" "act" "[I"]
def wsX10_lend : List Cond := .code yX10_lend cX10_lend 4 (some .int) :: ((wsX10_lend_r1 ++ wsX10_lend_r2) ++ wsX100)
def wsX10_holds : List Cond := .code yX10_holds cX10_holds 6 (some .boolean) :: ([.fieldLink RX10 68 "BarMeasureModel" "days" "[I", .fieldLink RX10 74 "BarMeasureModel" "to" "[I", .fieldLink RX10 71 "BarMeasureModel" "from" "[I", .methodLink RX10 96 yX10_in, .static yX10_in, .initialized RX10, .code yX10_in cX10_in 3 (some .boolean)] ++ wsX100)
def wsX10_priceOf : List Cond := .code yX10_priceOf cX10_priceOf 6 (some .int) :: ([.fieldLink RX10 19 "BarMeasureModel" "price" "[I", .fieldLink RX10 188 "BarMeasureModel" "priceRules" "I", .fieldLink RX10 77 "BarMeasureModel" "hundredths" "[I", .fieldLink RX10 29 "BarMeasureModel" "rules" "[I", .methodLink RX10 191 yX10_holds, .instanceMethod yX10_holds, .selects RX10 yX10_holds yX10_holds, .initialized RX10, .code yX10_holds cX10_holds 6 (some .boolean), .fieldLink RX10 68 "BarMeasureModel" "days" "[I", .fieldLink RX10 74 "BarMeasureModel" "to" "[I", .fieldLink RX10 71 "BarMeasureModel" "from" "[I", .methodLink RX10 96 yX10_in, .static yX10_in, .code yX10_in cX10_in 3 (some .boolean)] ++ wsX100)
def wsX10_sell_r1 : List Cond := [Cond.fieldLink RX10 25 "BarMeasureModel" "wasSold" "[Z", Cond.methodLink RX10 132 yX10_isBar, Cond.static yX10_isBar, Cond.initialized RX10, Cond.code yX10_isBar cX10_isBar 1 (some .boolean), Cond.methodLink RX10 96 yX10_in, Cond.static yX10_in, Cond.code yX10_in cX10_in 3 (some .boolean), Cond.methodLink RX10 103 yX10_isRecipe, Cond.instanceMethod yX10_isRecipe, Cond.selects RX10 yX10_isRecipe yX10_isRecipe, Cond.code yX10_isRecipe cX10_isRecipe 2 (some .boolean), Cond.fieldLink RX10 100 "BarMeasureModel" "recipes" "I", Cond.methodLink RX10 144 yX10_priceOf, Cond.instanceMethod yX10_priceOf, Cond.selects RX10 yX10_priceOf yX10_priceOf, Cond.code yX10_priceOf cX10_priceOf 6 (some .int), Cond.fieldLink RX10 19 "BarMeasureModel" "price" "[I", Cond.fieldLink RX10 188 "BarMeasureModel" "priceRules" "I", Cond.fieldLink RX10 77 "BarMeasureModel" "hundredths" "[I", Cond.fieldLink RX10 29 "BarMeasureModel" "rules" "[I", Cond.methodLink RX10 191 yX10_holds, Cond.instanceMethod yX10_holds, Cond.selects RX10 yX10_holds yX10_holds]
def wsX10_sell_r2 : List Cond := [Cond.code yX10_holds cX10_holds 6 (some .boolean), Cond.fieldLink RX10 68 "BarMeasureModel" "days" "[I", Cond.fieldLink RX10 74 "BarMeasureModel" "to" "[I", Cond.fieldLink RX10 71 "BarMeasureModel" "from" "[I", Cond.methodLink RX10 147 yX10_sells, Cond.instanceMethod yX10_sells, Cond.selects RX10 yX10_sells yX10_sells, Cond.code yX10_sells cX10_sells 7 none, Cond.fieldLink RX10 92 "BarMeasureModel" "kinds" "I", Cond.fieldLink RX10 22 "BarMeasureModel" "parts" "[I", Cond.fieldLink RX10 35 "BarMeasureModel" "book" "[I", Cond.fieldLink RX10 53 "BarMeasureModel" "alls" "[I", Cond.fieldLink RX10 44 "BarMeasureModel" "drinks" "[I", Cond.fieldLink RX10 117 "BarMeasureModel" "nightNow" "I", Cond.fieldLink RX10 56 "BarMeasureModel" "takings" "[I", Cond.methodLink RX10 120 yX10_at, Cond.static yX10_at, Cond.code yX10_at cX10_at 3 (some .int), Cond.methodLink RX10 128 yX10_keeps, Cond.instanceMethod yX10_keeps, Cond.selects RX10 yX10_keeps yX10_keeps, Cond.code yX10_keeps cX10_keeps 8 none, Cond.fieldLink RX10 114 "BarMeasureModel" "acts" "I", Cond.fieldLink RX10 59 "BarMeasureModel" "act" "[I"]
def wsX10_sell : List Cond := .code yX10_sell cX10_sell 7 (some .int) :: ((wsX10_sell_r1 ++ wsX10_sell_r2) ++ wsX100)
def wsX10_lose_r1 : List Cond := [Cond.constant RX10 135 (-1000000000), Cond.fieldLink RX10 35 "BarMeasureModel" "book" "[I", Cond.methodLink RX10 132 yX10_isBar, Cond.static yX10_isBar, Cond.initialized RX10, Cond.code yX10_isBar cX10_isBar 1 (some .boolean), Cond.methodLink RX10 96 yX10_in, Cond.static yX10_in, Cond.code yX10_in cX10_in 3 (some .boolean), Cond.methodLink RX10 107 yX10_isKind, Cond.instanceMethod yX10_isKind, Cond.selects RX10 yX10_isKind yX10_isKind, Cond.code yX10_isKind cX10_isKind 2 (some .boolean), Cond.fieldLink RX10 92 "BarMeasureModel" "kinds" "I", Cond.methodLink RX10 151 yX10_loses, Cond.instanceMethod yX10_loses, Cond.selects RX10 yX10_loses yX10_loses, Cond.code yX10_loses cX10_loses 5 none, Cond.fieldLink RX10 53 "BarMeasureModel" "alls" "[I", Cond.methodLink RX10 128 yX10_keeps, Cond.instanceMethod yX10_keeps, Cond.selects RX10 yX10_keeps yX10_keeps, Cond.code yX10_keeps cX10_keeps 8 none, Cond.fieldLink RX10 114 "BarMeasureModel" "acts" "I"]
def wsX10_lose_r2 : List Cond := [Cond.fieldLink RX10 59 "BarMeasureModel" "act" "[I"]
def wsX10_lose : List Cond := .code yX10_lose cX10_lose 5 (some .int) :: ((wsX10_lose_r1 ++ wsX10_lose_r2) ++ wsX100)
def wsX10_spanNow : List Cond := .code yX10_spanNow cX10_spanNow 3 (some .int) :: ([.fieldLink RX10 29 "BarMeasureModel" "rules" "[I", .fieldLink RX10 16 "BarMeasureModel" "dense" "[I", .fieldLink RX10 44 "BarMeasureModel" "drinks" "[I"] ++ wsX100)
def wsX10_weigh_r1 : List Cond := [Cond.constant RX10 135 (-1000000000), Cond.fieldLink RX10 117 "BarMeasureModel" "nightNow" "I", Cond.fieldLink RX10 41 "BarMeasureModel" "isWeighed" "[Z", Cond.constant RX10 136 (-1000000002), Cond.fieldLink RX10 7 "BarMeasureModel" "tare" "[I", Cond.fieldLink RX10 13 "BarMeasureModel" "size" "[I", Cond.fieldLink RX10 16 "BarMeasureModel" "dense" "[I", Cond.fieldLink RX10 35 "BarMeasureModel" "book" "[I", Cond.fieldLink RX10 38 "BarMeasureModel" "gaps" "[I", Cond.fieldLink RX10 47 "BarMeasureModel" "spans" "[I", Cond.fieldLink RX10 53 "BarMeasureModel" "alls" "[I", Cond.methodLink RX10 132 yX10_isBar, Cond.static yX10_isBar, Cond.initialized RX10, Cond.code yX10_isBar cX10_isBar 1 (some .boolean), Cond.methodLink RX10 96 yX10_in, Cond.static yX10_in, Cond.code yX10_in cX10_in 3 (some .boolean), Cond.methodLink RX10 107 yX10_isKind, Cond.instanceMethod yX10_isKind, Cond.selects RX10 yX10_isKind yX10_isKind, Cond.code yX10_isKind cX10_isKind 2 (some .boolean), Cond.fieldLink RX10 92 "BarMeasureModel" "kinds" "I", Cond.methodLink RX10 120 yX10_at]
def wsX10_weigh_r2 : List Cond := [Cond.static yX10_at, Cond.code yX10_at cX10_at 3 (some .int), Cond.methodLink RX10 154 yX10_spanNow, Cond.instanceMethod yX10_spanNow, Cond.selects RX10 yX10_spanNow yX10_spanNow, Cond.code yX10_spanNow cX10_spanNow 3 (some .int), Cond.fieldLink RX10 29 "BarMeasureModel" "rules" "[I", Cond.fieldLink RX10 44 "BarMeasureModel" "drinks" "[I", Cond.methodLink RX10 128 yX10_keeps, Cond.instanceMethod yX10_keeps, Cond.selects RX10 yX10_keeps yX10_keeps, Cond.code yX10_keeps cX10_keeps 8 none, Cond.fieldLink RX10 114 "BarMeasureModel" "acts" "I", Cond.fieldLink RX10 59 "BarMeasureModel" "act" "[I"]
def wsX10_weigh : List Cond := .code yX10_weigh cX10_weigh 9 (some .int) :: ((wsX10_weigh_r1 ++ wsX10_weigh_r2) ++ wsX100)
def wsX10_undo_r1 : List Cond := [Cond.fieldLink RX10 114 "BarMeasureModel" "acts" "I", Cond.fieldLink RX10 59 "BarMeasureModel" "act" "[I", Cond.fieldLink RX10 35 "BarMeasureModel" "book" "[I", Cond.fieldLink RX10 53 "BarMeasureModel" "alls" "[I", Cond.fieldLink RX10 41 "BarMeasureModel" "isWeighed" "[Z", Cond.fieldLink RX10 117 "BarMeasureModel" "nightNow" "I", Cond.methodLink RX10 124 yX10_receives, Cond.instanceMethod yX10_receives, Cond.selects RX10 yX10_receives yX10_receives, Cond.initialized RX10, Cond.code yX10_receives cX10_receives 3 none, Cond.fieldLink RX10 32 "BarMeasureModel" "store" "[I", Cond.methodLink RX10 137 yX10_issues, Cond.instanceMethod yX10_issues, Cond.selects RX10 yX10_issues yX10_issues, Cond.code yX10_issues cX10_issues 4 none, Cond.fieldLink RX10 13 "BarMeasureModel" "size" "[I", Cond.methodLink RX10 141 yX10_lends, Cond.instanceMethod yX10_lends, Cond.selects RX10 yX10_lends yX10_lends, Cond.code yX10_lends cX10_lends 4 none, Cond.methodLink RX10 147 yX10_sells, Cond.instanceMethod yX10_sells, Cond.selects RX10 yX10_sells yX10_sells]
def wsX10_undo_r2 : List Cond := [Cond.code yX10_sells cX10_sells 7 none, Cond.fieldLink RX10 92 "BarMeasureModel" "kinds" "I", Cond.fieldLink RX10 22 "BarMeasureModel" "parts" "[I", Cond.fieldLink RX10 44 "BarMeasureModel" "drinks" "[I", Cond.fieldLink RX10 56 "BarMeasureModel" "takings" "[I", Cond.methodLink RX10 120 yX10_at, Cond.static yX10_at, Cond.code yX10_at cX10_at 3 (some .int), Cond.methodLink RX10 151 yX10_loses, Cond.instanceMethod yX10_loses, Cond.selects RX10 yX10_loses yX10_loses, Cond.code yX10_loses cX10_loses 5 none]
def wsX10_undo : List Cond := .code yX10_undo cX10_undo 5 (some .int) :: ((wsX10_undo_r1 ++ wsX10_undo_r2) ++ wsX100)
def wsX10_keeper : List Cond := .code yX10_keeper cX10_keeper 4 (some .int) :: ([.fieldLink RX10 50 "BarMeasureModel" "keepers" "[I", .fieldLink RX10 117 "BarMeasureModel" "nightNow" "I", .methodLink RX10 132 yX10_isBar, .static yX10_isBar, .initialized RX10, .code yX10_isBar cX10_isBar 1 (some .boolean), .methodLink RX10 96 yX10_in, .static yX10_in, .code yX10_in cX10_in 3 (some .boolean)] ++ wsX100)
def wsX10_night : List Cond := .code yX10_night cX10_night 2 (some .int) :: ([.fieldLink RX10 117 "BarMeasureModel" "nightNow" "I", .fieldLink RX10 50 "BarMeasureModel" "keepers" "[I", .fieldLink RX10 114 "BarMeasureModel" "acts" "I", .fieldLink RX10 25 "BarMeasureModel" "wasSold" "[Z"] ++ wsX100)
def wsX10_has : List Cond := .code yX10_has cX10_has 3 (some .int) :: ([.constant RX10 135 (-1000000000), .fieldLink RX10 32 "BarMeasureModel" "store" "[I", .fieldLink RX10 35 "BarMeasureModel" "book" "[I", .methodLink RX10 96 yX10_in, .static yX10_in, .initialized RX10, .code yX10_in cX10_in 3 (some .boolean), .methodLink RX10 107 yX10_isKind, .instanceMethod yX10_isKind, .selects RX10 yX10_isKind yX10_isKind, .code yX10_isKind cX10_isKind 2 (some .boolean), .fieldLink RX10 92 "BarMeasureModel" "kinds" "I"] ++ wsX100)
def wsX10_all : List Cond := .code yX10_all cX10_all 3 (some .int) :: ([.fieldLink RX10 53 "BarMeasureModel" "alls" "[I", .constant RX10 135 (-1000000000), .methodLink RX10 107 yX10_isKind, .instanceMethod yX10_isKind, .selects RX10 yX10_isKind yX10_isKind, .initialized RX10, .code yX10_isKind cX10_isKind 2 (some .boolean), .fieldLink RX10 92 "BarMeasureModel" "kinds" "I", .methodLink RX10 96 yX10_in, .static yX10_in, .code yX10_in cX10_in 3 (some .boolean)] ++ wsX100)
def wsX10_spanOf : List Cond := .code yX10_spanOf cX10_spanOf 2 (some .int) :: ([.fieldLink RX10 41 "BarMeasureModel" "isWeighed" "[Z", .fieldLink RX10 47 "BarMeasureModel" "spans" "[I", .methodLink RX10 154 yX10_spanNow, .instanceMethod yX10_spanNow, .selects RX10 yX10_spanNow yX10_spanNow, .initialized RX10, .code yX10_spanNow cX10_spanNow 3 (some .int), .fieldLink RX10 29 "BarMeasureModel" "rules" "[I", .fieldLink RX10 16 "BarMeasureModel" "dense" "[I", .fieldLink RX10 44 "BarMeasureModel" "drinks" "[I"] ++ wsX100)
def wsX10_isTold : List Cond := .code yX10_isTold cX10_isTold 3 (some .boolean) :: ([.fieldLink RX10 38 "BarMeasureModel" "gaps" "[I", .fieldLink RX10 41 "BarMeasureModel" "isWeighed" "[Z", .methodLink RX10 157 yX10_spanOf, .instanceMethod yX10_spanOf, .selects RX10 yX10_spanOf yX10_spanOf, .initialized RX10, .code yX10_spanOf cX10_spanOf 2 (some .int), .fieldLink RX10 47 "BarMeasureModel" "spans" "[I", .methodLink RX10 154 yX10_spanNow, .instanceMethod yX10_spanNow, .selects RX10 yX10_spanNow yX10_spanNow, .code yX10_spanNow cX10_spanNow 3 (some .int), .fieldLink RX10 29 "BarMeasureModel" "rules" "[I", .fieldLink RX10 16 "BarMeasureModel" "dense" "[I", .fieldLink RX10 44 "BarMeasureModel" "drinks" "[I"] ++ wsX100)
def wsX10_gap_r1 : List Cond := [Cond.fieldLink RX10 117 "BarMeasureModel" "nightNow" "I", Cond.constant RX10 135 (-1000000000), Cond.fieldLink RX10 41 "BarMeasureModel" "isWeighed" "[Z", Cond.fieldLink RX10 38 "BarMeasureModel" "gaps" "[I", Cond.constant RX10 160 (-1000000004), Cond.fieldLink RX10 44 "BarMeasureModel" "drinks" "[I", Cond.fieldLink RX10 50 "BarMeasureModel" "keepers" "[I", Cond.methodLink RX10 96 yX10_in, Cond.static yX10_in, Cond.initialized RX10, Cond.code yX10_in cX10_in 3 (some .boolean), Cond.methodLink RX10 132 yX10_isBar, Cond.static yX10_isBar, Cond.code yX10_isBar cX10_isBar 1 (some .boolean), Cond.methodLink RX10 107 yX10_isKind, Cond.instanceMethod yX10_isKind, Cond.selects RX10 yX10_isKind yX10_isKind, Cond.code yX10_isKind cX10_isKind 2 (some .boolean), Cond.fieldLink RX10 92 "BarMeasureModel" "kinds" "I", Cond.methodLink RX10 120 yX10_at, Cond.static yX10_at, Cond.code yX10_at cX10_at 3 (some .int), Cond.methodLink RX10 157 yX10_spanOf, Cond.instanceMethod yX10_spanOf]
def wsX10_gap_r2 : List Cond := [Cond.selects RX10 yX10_spanOf yX10_spanOf, Cond.code yX10_spanOf cX10_spanOf 2 (some .int), Cond.fieldLink RX10 47 "BarMeasureModel" "spans" "[I", Cond.methodLink RX10 154 yX10_spanNow, Cond.instanceMethod yX10_spanNow, Cond.selects RX10 yX10_spanNow yX10_spanNow, Cond.code yX10_spanNow cX10_spanNow 3 (some .int), Cond.fieldLink RX10 29 "BarMeasureModel" "rules" "[I", Cond.fieldLink RX10 16 "BarMeasureModel" "dense" "[I", Cond.methodLink RX10 161 yX10_isTold, Cond.instanceMethod yX10_isTold, Cond.selects RX10 yX10_isTold yX10_isTold, Cond.code yX10_isTold cX10_isTold 3 (some .boolean)]
def wsX10_gap : List Cond := .code yX10_gap cX10_gap 6 (some .int) :: ((wsX10_gap_r1 ++ wsX10_gap_r2) ++ wsX100)
def wsX10_counts : List Cond := .code yX10_counts cX10_counts 6 (some .boolean) :: ([.fieldLink RX10 50 "BarMeasureModel" "keepers" "[I", .fieldLink RX10 41 "BarMeasureModel" "isWeighed" "[Z", .fieldLink RX10 44 "BarMeasureModel" "drinks" "[I", .methodLink RX10 120 yX10_at, .static yX10_at, .initialized RX10, .code yX10_at cX10_at 3 (some .int)] ++ wsX100)
def wsX10_common : List Cond := .code yX10_common cX10_common 10 (some .long) :: ([])
def wsX10_over_r1 : List Cond := [Cond.constantLong RX10 164 (-1000000000), Cond.fieldLink RX10 117 "BarMeasureModel" "nightNow" "I", Cond.fieldLink RX10 44 "BarMeasureModel" "drinks" "[I", Cond.fieldLink RX10 38 "BarMeasureModel" "gaps" "[I", Cond.constantLong RX10 170 (-1000000004), Cond.methodLink RX10 96 yX10_in, Cond.static yX10_in, Cond.initialized RX10, Cond.code yX10_in cX10_in 3 (some .boolean), Cond.methodLink RX10 107 yX10_isKind, Cond.instanceMethod yX10_isKind, Cond.selects RX10 yX10_isKind yX10_isKind, Cond.code yX10_isKind cX10_isKind 2 (some .boolean), Cond.fieldLink RX10 92 "BarMeasureModel" "kinds" "I", Cond.methodLink RX10 166 yX10_counts, Cond.instanceMethod yX10_counts, Cond.selects RX10 yX10_counts yX10_counts, Cond.code yX10_counts cX10_counts 6 (some .boolean), Cond.fieldLink RX10 50 "BarMeasureModel" "keepers" "[I", Cond.fieldLink RX10 41 "BarMeasureModel" "isWeighed" "[Z", Cond.methodLink RX10 120 yX10_at, Cond.static yX10_at, Cond.code yX10_at cX10_at 3 (some .int), Cond.methodLink RX10 172 yX10_common]
def wsX10_over_r2 : List Cond := [Cond.static yX10_common, Cond.code yX10_common cX10_common 10 (some .long)]
def wsX10_over : List Cond := .code yX10_over cX10_over 13 (some .long) :: ((wsX10_over_r1 ++ wsX10_over_r2) ++ wsX100)
def wsX10_leans_r1 : List Cond := [Cond.fieldLink RX10 117 "BarMeasureModel" "nightNow" "I", Cond.methodLink RX10 96 yX10_in, Cond.static yX10_in, Cond.initialized RX10, Cond.code yX10_in cX10_in 3 (some .boolean), Cond.methodLink RX10 107 yX10_isKind, Cond.instanceMethod yX10_isKind, Cond.selects RX10 yX10_isKind yX10_isKind, Cond.code yX10_isKind cX10_isKind 2 (some .boolean), Cond.fieldLink RX10 92 "BarMeasureModel" "kinds" "I", Cond.methodLink RX10 166 yX10_counts, Cond.instanceMethod yX10_counts, Cond.selects RX10 yX10_counts yX10_counts, Cond.code yX10_counts cX10_counts 6 (some .boolean), Cond.fieldLink RX10 50 "BarMeasureModel" "keepers" "[I", Cond.fieldLink RX10 41 "BarMeasureModel" "isWeighed" "[Z", Cond.fieldLink RX10 44 "BarMeasureModel" "drinks" "[I", Cond.methodLink RX10 120 yX10_at, Cond.static yX10_at, Cond.code yX10_at cX10_at 3 (some .int), Cond.methodLink RX10 161 yX10_isTold, Cond.instanceMethod yX10_isTold, Cond.selects RX10 yX10_isTold yX10_isTold, Cond.code yX10_isTold cX10_isTold 3 (some .boolean)]
def wsX10_leans_r2 : List Cond := [Cond.fieldLink RX10 38 "BarMeasureModel" "gaps" "[I", Cond.methodLink RX10 157 yX10_spanOf, Cond.instanceMethod yX10_spanOf, Cond.selects RX10 yX10_spanOf yX10_spanOf, Cond.code yX10_spanOf cX10_spanOf 2 (some .int), Cond.fieldLink RX10 47 "BarMeasureModel" "spans" "[I", Cond.methodLink RX10 154 yX10_spanNow, Cond.instanceMethod yX10_spanNow, Cond.selects RX10 yX10_spanNow yX10_spanNow, Cond.code yX10_spanNow cX10_spanNow 3 (some .int), Cond.fieldLink RX10 29 "BarMeasureModel" "rules" "[I", Cond.fieldLink RX10 16 "BarMeasureModel" "dense" "[I"]
def wsX10_leans : List Cond := .code yX10_leans cX10_leans 6 (some .int) :: ((wsX10_leans_r1 ++ wsX10_leans_r2) ++ wsX100)
def wsX10_takings : List Cond := .code yX10_takings cX10_takings 2 (some .int) :: ([.fieldLink RX10 56 "BarMeasureModel" "takings" "[I", .methodLink RX10 132 yX10_isBar, .static yX10_isBar, .initialized RX10, .code yX10_isBar cX10_isBar 1 (some .boolean), .methodLink RX10 96 yX10_in, .static yX10_in, .code yX10_in cX10_in 3 (some .boolean)] ++ wsX100)
def wsX10_foretell : List Cond := .code yX10_foretell cX10_foretell 3 (some .int) :: ([.fieldLink RX10 176 "BarMeasureModel" "tellings" "I", .fieldLink RX10 62 "BarMeasureModel" "amounts" "[I", .fieldLink RX10 65 "BarMeasureModel" "weights" "[I", .methodLink RX10 96 yX10_in, .static yX10_in, .initialized RX10, .code yX10_in cX10_in 3 (some .boolean)] ++ wsX100)
def wsX10_forget : List Cond := .code yX10_forget cX10_forget 2 (some .int) :: ([.fieldLink RX10 176 "BarMeasureModel" "tellings" "I"] ++ wsX100)
def wsX10_costOf : List Cond := .code yX10_costOf cX10_costOf 5 (some .int) :: ([.fieldLink RX10 176 "BarMeasureModel" "tellings" "I", .fieldLink RX10 62 "BarMeasureModel" "amounts" "[I", .fieldLink RX10 65 "BarMeasureModel" "weights" "[I", .fieldLink RX10 29 "BarMeasureModel" "rules" "[I"] ++ wsX100)
def wsX10_press : List Cond := .code yX10_press cX10_press 4 (some .int) :: ([.fieldLink RX10 176 "BarMeasureModel" "tellings" "I", .methodLink RX10 96 yX10_in, .static yX10_in, .initialized RX10, .code yX10_in cX10_in 3 (some .boolean), .methodLink RX10 179 yX10_costOf, .instanceMethod yX10_costOf, .selects RX10 yX10_costOf yX10_costOf, .code yX10_costOf cX10_costOf 5 (some .int), .fieldLink RX10 62 "BarMeasureModel" "amounts" "[I", .fieldLink RX10 65 "BarMeasureModel" "weights" "[I", .fieldLink RX10 29 "BarMeasureModel" "rules" "[I"] ++ wsX100)
def wsX10_madeBy : List Cond := .code yX10_madeBy cX10_madeBy 6 (some .int) :: ([.fieldLink RX10 100 "BarMeasureModel" "recipes" "I", .fieldLink RX10 92 "BarMeasureModel" "kinds" "I", .fieldLink RX10 22 "BarMeasureModel" "parts" "[I"] ++ wsX100)
def wsX10_bits : List Cond := .code yX10_bits cX10_bits 3 (some .int) :: ([])
def wsX10_makes : List Cond := .code yX10_makes cX10_makes 2 (some .int) :: ([.fieldLink RX10 92 "BarMeasureModel" "kinds" "I", .methodLink RX10 96 yX10_in, .static yX10_in, .initialized RX10, .code yX10_in cX10_in 3 (some .boolean), .methodLink RX10 182 yX10_madeBy, .instanceMethod yX10_madeBy, .selects RX10 yX10_madeBy yX10_madeBy, .code yX10_madeBy cX10_madeBy 6 (some .int), .fieldLink RX10 100 "BarMeasureModel" "recipes" "I", .fieldLink RX10 22 "BarMeasureModel" "parts" "[I"] ++ wsX100)
def wsX10_fewest : List Cond := .code yX10_fewest cX10_fewest 4 (some .int) :: ([.fieldLink RX10 92 "BarMeasureModel" "kinds" "I", .methodLink RX10 96 yX10_in, .static yX10_in, .initialized RX10, .code yX10_in cX10_in 3 (some .boolean), .methodLink RX10 185 yX10_bits, .static yX10_bits, .code yX10_bits cX10_bits 3 (some .int), .methodLink RX10 182 yX10_madeBy, .instanceMethod yX10_madeBy, .selects RX10 yX10_madeBy yX10_madeBy, .code yX10_madeBy cX10_madeBy 6 (some .int), .fieldLink RX10 100 "BarMeasureModel" "recipes" "I", .fieldLink RX10 22 "BarMeasureModel" "parts" "[I"] ++ wsX100)
def wsX10_most : List Cond := .code yX10_most cX10_most 5 (some .int) :: ([.fieldLink RX10 92 "BarMeasureModel" "kinds" "I", .methodLink RX10 96 yX10_in, .static yX10_in, .initialized RX10, .code yX10_in cX10_in 3 (some .boolean), .methodLink RX10 185 yX10_bits, .static yX10_bits, .code yX10_bits cX10_bits 3 (some .int), .methodLink RX10 182 yX10_madeBy, .instanceMethod yX10_madeBy, .selects RX10 yX10_madeBy yX10_madeBy, .code yX10_madeBy cX10_madeBy 6 (some .int), .fieldLink RX10 100 "BarMeasureModel" "recipes" "I", .fieldLink RX10 22 "BarMeasureModel" "parts" "[I"] ++ wsX100)
def wsX10_priceRule : List Cond := .code yX10_priceRule cX10_priceRule 5 (some .int) :: ([.fieldLink RX10 188 "BarMeasureModel" "priceRules" "I", .fieldLink RX10 68 "BarMeasureModel" "days" "[I", .fieldLink RX10 71 "BarMeasureModel" "from" "[I", .fieldLink RX10 74 "BarMeasureModel" "to" "[I", .fieldLink RX10 77 "BarMeasureModel" "hundredths" "[I", .methodLink RX10 96 yX10_in, .static yX10_in, .initialized RX10, .code yX10_in cX10_in 3 (some .boolean)] ++ wsX100)
def wsX10_price : List Cond := .code yX10_price cX10_price 4 (some .int) :: ([.methodLink RX10 103 yX10_isRecipe, .instanceMethod yX10_isRecipe, .selects RX10 yX10_isRecipe yX10_isRecipe, .initialized RX10, .code yX10_isRecipe cX10_isRecipe 2 (some .boolean), .fieldLink RX10 100 "BarMeasureModel" "recipes" "I", .methodLink RX10 96 yX10_in, .static yX10_in, .code yX10_in cX10_in 3 (some .boolean), .methodLink RX10 144 yX10_priceOf, .instanceMethod yX10_priceOf, .selects RX10 yX10_priceOf yX10_priceOf, .code yX10_priceOf cX10_priceOf 6 (some .int), .fieldLink RX10 19 "BarMeasureModel" "price" "[I", .fieldLink RX10 188 "BarMeasureModel" "priceRules" "I", .fieldLink RX10 77 "BarMeasureModel" "hundredths" "[I", .fieldLink RX10 29 "BarMeasureModel" "rules" "[I", .methodLink RX10 191 yX10_holds, .instanceMethod yX10_holds, .selects RX10 yX10_holds yX10_holds, .code yX10_holds cX10_holds 6 (some .boolean), .fieldLink RX10 68 "BarMeasureModel" "days" "[I", .fieldLink RX10 74 "BarMeasureModel" "to" "[I", .fieldLink RX10 71 "BarMeasureModel" "from" "[I"] ++ wsX100)
def wsX10_person : List Cond := .code yX10_person cX10_person 4 (some .int) :: ([.fieldLink RX10 80 "BarMeasureModel" "worth" "[I", .methodLink RX10 96 yX10_in, .static yX10_in, .initialized RX10, .code yX10_in cX10_in 3 (some .boolean)] ++ wsX100)
def wsX10_tips : List Cond := .code yX10_tips cX10_tips 13 (some .int) :: ([.constant RX10 194 (1000000), .fieldLink RX10 80 "BarMeasureModel" "worth" "[I", .methodLink RX10 96 yX10_in, .static yX10_in, .initialized RX10, .code yX10_in cX10_in 3 (some .boolean)] ++ wsX100)
def wsX10_keg : List Cond := .code yX10_keg cX10_keg 4 (some .int) :: ([.constant RX10 195 (100000), .fieldLink RX10 29 "BarMeasureModel" "rules" "[I", .constant RX10 196 (50000), .methodLink RX10 96 yX10_in, .static yX10_in, .initialized RX10, .code yX10_in cX10_in 3 (some .boolean)] ++ wsX100)
def wsX10_deal : List Cond := .code yX10_deal cX10_deal 3 (some .int) :: ([.constant RX10 195 (100000), .fieldLink RX10 197 "BarMeasureModel" "deals" "I", .fieldLink RX10 83 "BarMeasureModel" "dealBottles" "[I", .fieldLink RX10 86 "BarMeasureModel" "dealPrice" "[I", .methodLink RX10 96 yX10_in, .static yX10_in, .initialized RX10, .code yX10_in cX10_in 3 (some .boolean)] ++ wsX100)
def wsX10_buy : List Cond := .code yX10_buy cX10_buy 7 (some .int) :: ([.fieldLink RX10 197 "BarMeasureModel" "deals" "I", .constant RX10 200 (100000000), .fieldLink RX10 89 "BarMeasureModel" "least" "[I", .fieldLink RX10 83 "BarMeasureModel" "dealBottles" "[I", .fieldLink RX10 86 "BarMeasureModel" "dealPrice" "[I", .methodLink RX10 96 yX10_in, .static yX10_in, .initialized RX10, .code yX10_in cX10_in 3 (some .boolean)] ++ wsX100)
def wsX10_count : List Cond := .code yX10_count cX10_count 2 (some .int) :: ([.fieldLink RX10 92 "BarMeasureModel" "kinds" "I", .fieldLink RX10 100 "BarMeasureModel" "recipes" "I", .fieldLink RX10 117 "BarMeasureModel" "nightNow" "I", .fieldLink RX10 114 "BarMeasureModel" "acts" "I", .fieldLink RX10 188 "BarMeasureModel" "priceRules" "I", .fieldLink RX10 197 "BarMeasureModel" "deals" "I", .fieldLink RX10 176 "BarMeasureModel" "tellings" "I"] ++ wsX100)
def wsJ9_abs_0f7a4 : List Cond := .code yJ9_abs_0f7a4 cJ9_abs_0f7a4 1 (some .int) :: ([])
def wsJ9_abs_067f4 : List Cond := .code yJ9_abs_067f4 cJ9_abs_067f4 2 (some .long) :: ([])
def wsJ9_max_7cf53 : List Cond := .code yJ9_max_7cf53 cJ9_max_7cf53 2 (some .int) :: ([])
def wsJ9_min_7cf53 : List Cond := .code yJ9_min_7cf53 cJ9_min_7cf53 2 (some .int) :: ([])
def wsL_law_r1 : List Cond := [Cond.classLink RL 7 RX9, Cond.instantiable RX9 14, Cond.initialized RX9, Cond.classLink RL 10 RX10, Cond.instantiable RX10 34, Cond.initialized RX10, Cond.methodLink RL 9 yX9_init, Cond.instanceMethod yX9_init, Cond.code yX9_init cX9_init 2 none, Cond.methodLink RX9 1 objectInit, Cond.instanceMethod objectInit, Cond.code objectInit ⟨#[0xb1]⟩ 1 none, Cond.classLink RX9 9 RX4, Cond.fieldLink RX9 11 "BarMeasure" "kinds" "[LBarMeasure$Kind;", Cond.fieldLink RX9 15 "BarMeasure" "kindCount" "I", Cond.classLink RX9 19 RX6, Cond.fieldLink RX9 21 "BarMeasure" "recipes" "[LBarMeasure$Recipe;", Cond.fieldLink RX9 25 "BarMeasure" "recipeCount" "I", Cond.fieldLink RX9 28 "BarMeasure" "SETTING_AT_FIRST" "[I", Cond.methodLink RX9 32 ⟨"[I", "clone", "()Ljava/lang/Object;"⟩, Cond.sameMethod "[I" "java/lang/Object" "clone" "()Ljava/lang/Object;", Cond.native ⟨"java/lang/Object", "clone", "()Ljava/lang/Object;"⟩, Cond.instanceMethod ⟨"java/lang/Object", "clone", "()Ljava/lang/Object;"⟩, Cond.selects "[I" ⟨"[I", "clone", "()Ljava/lang/Object;"⟩ ⟨"java/lang/Object", "clone", "()Ljava/lang/Object;"⟩]
def wsL_law_r2 : List Cond := [Cond.classLink RX9 33 "[I", Cond.fieldLink RX9 37 "BarMeasure" "settings" "[I", Cond.classLink RX9 40 RX7, Cond.fieldLink RX9 42 "BarMeasure" "sheets" "[LBarMeasure$Sheet;", Cond.fieldLink RX9 46 "BarMeasure" "tonight" "I", Cond.classLink RX9 49 RX1, Cond.instantiable RX1 3, Cond.initialized RX1, Cond.fieldLink RX9 52 "BarMeasure" "acts" "LBarMeasure$ActLog;", Cond.arrayClass .int, Cond.fieldLink RX9 56 "BarMeasure" "takenIn" "[I", Cond.classLink RX9 59 RX3, Cond.instantiable RX3 3, Cond.initialized RX3, Cond.fieldLink RX9 62 "BarMeasure" "forecast" "LBarMeasure$Forecast;", Cond.classLink RX9 66 RX5, Cond.fieldLink RX9 68 "BarMeasure" "priceRules" "[LBarMeasure$PriceRule;", Cond.fieldLink RX9 72 "BarMeasure" "priceRuleCount" "I", Cond.classLink RX9 75 RX8, Cond.instantiable RX8 1, Cond.initialized RX8, Cond.fieldLink RX9 78 "BarMeasure" "tipJar" "LBarMeasure$TipJar;", Cond.classLink RX9 82 RX2, Cond.instantiable RX2 4]
def wsL_law_r3 : List Cond := [Cond.initialized RX2, Cond.fieldLink RX9 85 "BarMeasure" "deals" "LBarMeasure$DealBook;", Cond.instantiable RX4 7, Cond.initialized RX4, Cond.instantiable RX6 4, Cond.initialized RX6, Cond.instantiable RX7 5, Cond.initialized RX7, Cond.instantiable RX5 4, Cond.initialized RX5, Cond.methodLink RX9 51 yX1_init, Cond.instanceMethod yX1_init, Cond.code yX1_init cX1_init 2 none, Cond.methodLink RX1 3 objectInit, Cond.classLink RX1 9 RX0, Cond.fieldLink RX1 11 "BarMeasure$ActLog" "rows" "[LBarMeasure$Act;", Cond.fieldLink RX1 17 "BarMeasure$ActLog" "kept" "I", Cond.fieldLink RX1 21 "BarMeasure$ActLog" "next" "I", Cond.instantiable RX0 5, Cond.initialized RX0, Cond.instanceMethod yX0_init, Cond.code yX0_init cX0_init 1 none, Cond.methodLink RX0 1 objectInit, Cond.fieldLink RX0 7 "BarMeasure$Act" "what" "I"]
def wsL_law_r4 : List Cond := [Cond.fieldLink RX0 13 "BarMeasure$Act" "bar" "I", Cond.fieldLink RX0 16 "BarMeasure$Act" "thing" "I", Cond.fieldLink RX0 19 "BarMeasure$Act" "amount" "I", Cond.fieldLink RX0 22 "BarMeasure$Act" "cost" "I", Cond.instanceMethod yX3_init, Cond.code yX3_init cX3_init 1 none, Cond.methodLink RX3 3 objectInit, Cond.fieldLink RX3 9 "BarMeasure$Forecast" "amounts" "[I", Cond.fieldLink RX3 15 "BarMeasure$Forecast" "weights" "[I", Cond.fieldLink RX3 18 "BarMeasure$Forecast" "told" "I", Cond.instanceMethod yX8_init, Cond.code yX8_init cX8_init 1 none, Cond.methodLink RX8 3 objectInit, Cond.fieldLink RX8 9 "BarMeasure$TipJar" "weights" "[I", Cond.instanceMethod yX2_init, Cond.code yX2_init cX2_init 1 none, Cond.methodLink RX2 5 objectInit, Cond.fieldLink RX2 11 "BarMeasure$DealBook" "bottles" "[I", Cond.fieldLink RX2 15 "BarMeasure$DealBook" "prices" "[I", Cond.fieldLink RX2 18 "BarMeasure$DealBook" "told" "I", Cond.classLink RX2 22 "[[I", Cond.fieldLink RX2 24 "BarMeasure$DealBook" "least" "[[I", Cond.instanceMethod yX4_init, Cond.code yX4_init cX4_init 1 none]
def wsL_law_r5 : List Cond := [Cond.methodLink RX4 3 objectInit, Cond.fieldLink RX4 9 "BarMeasure$Kind" "tare" "I", Cond.fieldLink RX4 15 "BarMeasure$Kind" "size" "I", Cond.fieldLink RX4 18 "BarMeasure$Kind" "dense" "I", Cond.fieldLink RX4 21 "BarMeasure$Kind" "stored" "I", Cond.fieldLink RX4 24 "BarMeasure$Kind" "received" "I", Cond.fieldLink RX4 27 "BarMeasure$Kind" "books" "[I", Cond.fieldLink RX4 31 "BarMeasure$Kind" "gone" "[I", Cond.instanceMethod yX6_init, Cond.code yX6_init cX6_init 1 none, Cond.methodLink RX6 3 objectInit, Cond.fieldLink RX6 9 "BarMeasure$Recipe" "listPrice" "I", Cond.fieldLink RX6 15 "BarMeasure$Recipe" "lastSold" "I", Cond.fieldLink RX6 18 "BarMeasure$Recipe" "needed" "I", Cond.fieldLink RX6 21 "BarMeasure$Recipe" "parts" "[I", Cond.instanceMethod yX7_init, Cond.code yX7_init cX7_init 1 none, Cond.methodLink RX7 3 objectInit, Cond.fieldLink RX7 9 "BarMeasure$Sheet" "keptBy" "I", Cond.fieldLink RX7 15 "BarMeasure$Sheet" "drinks" "[I", Cond.arrayClass .boolean, Cond.fieldLink RX7 19 "BarMeasure$Sheet" "weighed" "[Z", Cond.fieldLink RX7 23 "BarMeasure$Sheet" "gaps" "[I", Cond.fieldLink RX7 26 "BarMeasure$Sheet" "spans" "[I"]
def wsL_law_r6 : List Cond := [Cond.instanceMethod yX5_init, Cond.code yX5_init cX5_init 1 none, Cond.methodLink RX5 3 objectInit, Cond.fieldLink RX5 9 "BarMeasure$PriceRule" "days" "I", Cond.fieldLink RX5 15 "BarMeasure$PriceRule" "from" "I", Cond.fieldLink RX5 18 "BarMeasure$PriceRule" "to" "I", Cond.fieldLink RX5 21 "BarMeasure$PriceRule" "hundredths" "I", Cond.methodLink RL 12 yX10_init, Cond.instanceMethod yX10_init, Cond.code yX10_init cX10_init 1 none, Cond.methodLink RX10 1 objectInit, Cond.fieldLink RX10 7 "BarMeasureModel" "tare" "[I", Cond.fieldLink RX10 13 "BarMeasureModel" "size" "[I", Cond.fieldLink RX10 16 "BarMeasureModel" "dense" "[I", Cond.fieldLink RX10 19 "BarMeasureModel" "price" "[I", Cond.fieldLink RX10 22 "BarMeasureModel" "parts" "[I", Cond.fieldLink RX10 25 "BarMeasureModel" "wasSold" "[Z", Cond.fieldLink RX10 29 "BarMeasureModel" "rules" "[I", Cond.fieldLink RX10 32 "BarMeasureModel" "store" "[I", Cond.fieldLink RX10 35 "BarMeasureModel" "book" "[I", Cond.fieldLink RX10 38 "BarMeasureModel" "gaps" "[I", Cond.fieldLink RX10 41 "BarMeasureModel" "isWeighed" "[Z", Cond.fieldLink RX10 44 "BarMeasureModel" "drinks" "[I", Cond.fieldLink RX10 47 "BarMeasureModel" "spans" "[I"]
def wsL_law_r7 : List Cond := [Cond.fieldLink RX10 50 "BarMeasureModel" "keepers" "[I", Cond.fieldLink RX10 53 "BarMeasureModel" "alls" "[I", Cond.fieldLink RX10 56 "BarMeasureModel" "takings" "[I", Cond.fieldLink RX10 59 "BarMeasureModel" "act" "[I", Cond.fieldLink RX10 62 "BarMeasureModel" "amounts" "[I", Cond.fieldLink RX10 65 "BarMeasureModel" "weights" "[I", Cond.fieldLink RX10 68 "BarMeasureModel" "days" "[I", Cond.fieldLink RX10 71 "BarMeasureModel" "from" "[I", Cond.fieldLink RX10 74 "BarMeasureModel" "to" "[I", Cond.fieldLink RX10 77 "BarMeasureModel" "hundredths" "[I", Cond.fieldLink RX10 80 "BarMeasureModel" "worth" "[I", Cond.fieldLink RX10 83 "BarMeasureModel" "dealBottles" "[I", Cond.fieldLink RX10 86 "BarMeasureModel" "dealPrice" "[I", Cond.fieldLink RX10 89 "BarMeasureModel" "least" "[I", Cond.methodLink RL 13 yX9_kind, Cond.instanceMethod yX9_kind, Cond.selects RX9 yX9_kind yX9_kind, Cond.code yX9_kind cX9_kind 5 (some .int), Cond.fieldLink RX9 97 "BarMeasure$Kind" "tare" "I", Cond.fieldLink RX9 100 "BarMeasure$Kind" "size" "I", Cond.fieldLink RX9 103 "BarMeasure$Kind" "dense" "I", Cond.methodLink RX9 93 yX9_isIn, Cond.static yX9_isIn, Cond.code yX9_isIn cX9_isIn 3 (some .boolean)]
def wsL_law_r8 : List Cond := [Cond.methodLink RL 17 yX10_kind, Cond.instanceMethod yX10_kind, Cond.selects RX10 yX10_kind yX10_kind, Cond.code yX10_kind cX10_kind 4 (some .int), Cond.fieldLink RX10 92 "BarMeasureModel" "kinds" "I", Cond.methodLink RX10 96 yX10_in, Cond.static yX10_in, Cond.code yX10_in cX10_in 3 (some .boolean), Cond.methodLink RL 18 yX9_recipe, Cond.instanceMethod yX9_recipe, Cond.selects RX9 yX9_recipe yX9_recipe, Cond.code yX9_recipe cX9_recipe 2 (some .int), Cond.fieldLink RX9 106 "BarMeasure$Recipe" "listPrice" "I", Cond.methodLink RL 22 yX10_recipe, Cond.instanceMethod yX10_recipe, Cond.selects RX10 yX10_recipe yX10_recipe, Cond.code yX10_recipe cX10_recipe 2 (some .int), Cond.fieldLink RX10 100 "BarMeasureModel" "recipes" "I", Cond.methodLink RL 23 yX9_part, Cond.instanceMethod yX9_part, Cond.selects RX9 yX9_part yX9_part, Cond.code yX9_part cX9_part 4 (some .int), Cond.fieldLink RX9 116 "BarMeasure$Recipe" "lastSold" "I", Cond.methodLink RX9 109 yX9_isRecipe]
def wsL_law_r9 : List Cond := [Cond.instanceMethod yX9_isRecipe, Cond.selects RX9 yX9_isRecipe yX9_isRecipe, Cond.code yX9_isRecipe cX9_isRecipe 2 (some .boolean), Cond.methodLink RX9 113 yX9_isKind, Cond.instanceMethod yX9_isKind, Cond.selects RX9 yX9_isKind yX9_isKind, Cond.code yX9_isKind cX9_isKind 2 (some .boolean), Cond.methodLink RX9 119 yX6_putParts, Cond.instanceMethod yX6_putParts, Cond.selects RX6 yX6_putParts yX6_putParts, Cond.code yX6_putParts cX6_putParts 4 (some .int), Cond.methodLink RL 26 yX10_part, Cond.instanceMethod yX10_part, Cond.selects RX10 yX10_part yX10_part, Cond.code yX10_part cX10_part 5 (some .int), Cond.methodLink RX10 103 yX10_isRecipe, Cond.instanceMethod yX10_isRecipe, Cond.selects RX10 yX10_isRecipe yX10_isRecipe, Cond.code yX10_isRecipe cX10_isRecipe 2 (some .boolean), Cond.methodLink RX10 107 yX10_isKind, Cond.instanceMethod yX10_isKind, Cond.selects RX10 yX10_isKind yX10_isKind, Cond.code yX10_isKind cX10_isKind 2 (some .boolean), Cond.methodLink RL 27 yX9_rule]
def wsL_law_r10 : List Cond := [Cond.instanceMethod yX9_rule, Cond.selects RX9 yX9_rule yX9_rule, Cond.code yX9_rule cX9_rule 4 (some .int), Cond.fieldLink RX9 123 "BarMeasure" "MOST_OF_SETTING" "[I", Cond.methodLink RL 31 yX10_rule, Cond.instanceMethod yX10_rule, Cond.selects RX10 yX10_rule yX10_rule, Cond.code yX10_rule cX10_rule 4 (some .int), Cond.methodLink RX10 110 yX10_top, Cond.static yX10_top, Cond.code yX10_top cX10_top 1 (some .int), Cond.methodLink RL 32 yX9_receive, Cond.instanceMethod yX9_receive, Cond.selects RX9 yX9_receive yX9_receive, Cond.code yX9_receive cX9_receive 3 (some .int), Cond.fieldLink RX9 126 "BarMeasure$Kind" "stored" "I", Cond.methodLink RX9 129 yX9_carryOut, Cond.instanceMethod yX9_carryOut, Cond.selects RX9 yX9_carryOut yX9_carryOut, Cond.code yX9_carryOut cX9_carryOut 7 none, Cond.fieldLink RX9 178 "BarMeasure$Act" "what" "I", Cond.fieldLink RX9 295 "BarMeasure$Act" "bar" "I", Cond.fieldLink RX9 298 "BarMeasure$Act" "thing" "I", Cond.fieldLink RX9 301 "BarMeasure$Act" "amount" "I"]
def wsL_law_r11 : List Cond := [Cond.fieldLink RX9 304 "BarMeasure$Act" "cost" "I", Cond.methodLink RX9 292 yX1_nextRow, Cond.instanceMethod yX1_nextRow, Cond.selects RX1 yX1_nextRow yX1_nextRow, Cond.code yX1_nextRow cX1_nextRow 2 (some (.object "BarMeasure$Act")), Cond.methodLink RX1 25 Lib.Math.min.name, Cond.static Lib.Math.min.name, Cond.initialized "java/lang/Math", Cond.code Lib.Math.min.name Lib.Math.min.code 2 (some .int), Cond.methodLink RX9 174 yX9_apply, Cond.instanceMethod yX9_apply, Cond.selects RX9 yX9_apply yX9_apply, Cond.code yX9_apply cX9_apply 4 none, Cond.fieldLink RX9 153 "BarMeasure$Sheet" "weighed" "[Z", Cond.fieldLink RX9 195 "BarMeasure$Sheet" "gaps" "[I", Cond.methodLink RX9 149 yX9_sheetOf, Cond.instanceMethod yX9_sheetOf, Cond.selects RX9 yX9_sheetOf yX9_sheetOf, Cond.code yX9_sheetOf cX9_sheetOf 3 (some (.object "BarMeasure$Sheet")), Cond.methodLink RX9 307 yX9_applySale, Cond.instanceMethod yX9_applySale, Cond.selects RX9 yX9_applySale yX9_applySale, Cond.code yX9_applySale cX9_applySale 6 none, Cond.fieldLink RX9 315 "BarMeasure$Recipe" "parts" "[I"]
def wsL_law_r12 : List Cond := [Cond.fieldLink RX9 202 "BarMeasure$Sheet" "drinks" "[I", Cond.methodLink RX9 311 yX4_move, Cond.instanceMethod yX4_move, Cond.selects RX4 yX4_move yX4_move, Cond.code yX4_move cX4_move 4 none, Cond.methodLink RL 35 yX10_receive, Cond.instanceMethod yX10_receive, Cond.selects RX10 yX10_receive yX10_receive, Cond.code yX10_receive cX10_receive 3 (some .int), Cond.methodLink RX10 124 yX10_receives, Cond.instanceMethod yX10_receives, Cond.selects RX10 yX10_receives yX10_receives, Cond.code yX10_receives cX10_receives 3 none, Cond.methodLink RX10 128 yX10_keeps, Cond.instanceMethod yX10_keeps, Cond.selects RX10 yX10_keeps yX10_keeps, Cond.code yX10_keeps cX10_keeps 8 none, Cond.fieldLink RX10 114 "BarMeasureModel" "acts" "I", Cond.methodLink RL 36 yX9_issue, Cond.instanceMethod yX9_issue, Cond.selects RX9 yX9_issue yX9_issue, Cond.code yX9_issue cX9_issue 4 (some .int), Cond.constant RX9 136 (-1000000000), Cond.constant RX9 137 (-1000000002)]
def wsL_law_r13 : List Cond := [Cond.fieldLink RX9 138 "BarMeasure$Kind" "books" "[I", Cond.methodLink RX9 133 yX9_isBar, Cond.static yX9_isBar, Cond.code yX9_isBar cX9_isBar 1 (some .boolean), Cond.methodLink RL 39 yX10_issue, Cond.instanceMethod yX10_issue, Cond.selects RX10 yX10_issue yX10_issue, Cond.code yX10_issue cX10_issue 4 (some .int), Cond.constant RX10 135 (-1000000000), Cond.constant RX10 136 (-1000000002), Cond.methodLink RX10 132 yX10_isBar, Cond.static yX10_isBar, Cond.code yX10_isBar cX10_isBar 1 (some .boolean), Cond.methodLink RX10 137 yX10_issues, Cond.instanceMethod yX10_issues, Cond.selects RX10 yX10_issues yX10_issues, Cond.code yX10_issues cX10_issues 4 none, Cond.methodLink RL 40 yX9_lend, Cond.instanceMethod yX9_lend, Cond.selects RX9 yX9_lend yX9_lend, Cond.code yX9_lend cX9_lend 4 (some .int), Cond.methodLink RL 43 yX10_lend, Cond.instanceMethod yX10_lend, Cond.selects RX10 yX10_lend yX10_lend]
def wsL_law_r14 : List Cond := [Cond.code yX10_lend cX10_lend 4 (some .int), Cond.methodLink RX10 141 yX10_lends, Cond.instanceMethod yX10_lends, Cond.selects RX10 yX10_lends yX10_lends, Cond.code yX10_lends cX10_lends 4 none, Cond.methodLink RL 44 yX9_sell, Cond.instanceMethod yX9_sell, Cond.selects RX9 yX9_sell yX9_sell, Cond.code yX9_sell cX9_sell 7 (some .int), Cond.methodLink RX9 141 yX9_isTime, Cond.static yX9_isTime, Cond.code yX9_isTime cX9_isTime 2 (some .boolean), Cond.methodLink RX9 145 yX9_priceAt, Cond.instanceMethod yX9_priceAt, Cond.selects RX9 yX9_priceAt yX9_priceAt, Cond.code yX9_priceAt cX9_priceAt 6 (some .int), Cond.fieldLink RX9 260 "BarMeasure$PriceRule" "hundredths" "I", Cond.methodLink RX9 271 Lib.Math.max.name, Cond.static Lib.Math.max.name, Cond.code Lib.Math.max.name Lib.Math.max.code 2 (some .int), Cond.methodLink RX9 321 yX5_holds, Cond.instanceMethod yX5_holds, Cond.selects RX5 yX5_holds yX5_holds, Cond.code yX5_holds cX5_holds 4 (some .boolean)]
def wsL_law_r15 : List Cond := [Cond.methodLink RX5 24 yX5_hasDay, Cond.instanceMethod yX5_hasDay, Cond.selects RX5 yX5_hasDay yX5_hasDay, Cond.code yX5_hasDay cX5_hasDay 2 (some .boolean), Cond.methodLink RL 48 yX10_sell, Cond.instanceMethod yX10_sell, Cond.selects RX10 yX10_sell yX10_sell, Cond.code yX10_sell cX10_sell 7 (some .int), Cond.methodLink RX10 144 yX10_priceOf, Cond.instanceMethod yX10_priceOf, Cond.selects RX10 yX10_priceOf yX10_priceOf, Cond.code yX10_priceOf cX10_priceOf 6 (some .int), Cond.fieldLink RX10 188 "BarMeasureModel" "priceRules" "I", Cond.methodLink RX10 191 yX10_holds, Cond.instanceMethod yX10_holds, Cond.selects RX10 yX10_holds yX10_holds, Cond.code yX10_holds cX10_holds 6 (some .boolean), Cond.methodLink RX10 147 yX10_sells, Cond.instanceMethod yX10_sells, Cond.selects RX10 yX10_sells yX10_sells, Cond.code yX10_sells cX10_sells 7 none, Cond.fieldLink RX10 117 "BarMeasureModel" "nightNow" "I", Cond.methodLink RX10 120 yX10_at, Cond.static yX10_at]
def wsL_law_r16 : List Cond := [Cond.code yX10_at cX10_at 3 (some .int), Cond.methodLink RL 49 yX9_lose, Cond.instanceMethod yX9_lose, Cond.selects RX9 yX9_lose yX9_lose, Cond.code yX9_lose cX9_lose 5 (some .int), Cond.methodLink RL 53 yX10_lose, Cond.instanceMethod yX10_lose, Cond.selects RX10 yX10_lose yX10_lose, Cond.code yX10_lose cX10_lose 5 (some .int), Cond.methodLink RX10 151 yX10_loses, Cond.instanceMethod yX10_loses, Cond.selects RX10 yX10_loses yX10_loses, Cond.code yX10_loses cX10_loses 5 none, Cond.methodLink RL 54 yX9_weigh, Cond.instanceMethod yX9_weigh, Cond.selects RX9 yX9_weigh yX9_weigh, Cond.code yX9_weigh cX9_weigh 7 (some .int), Cond.fieldLink RX9 160 "BarMeasure$Sheet" "spans" "[I", Cond.methodLink RX9 157 yX4_found, Cond.instanceMethod yX4_found, Cond.selects RX4 yX4_found yX4_found, Cond.code yX4_found cX4_found 3 (some .int), Cond.methodLink RX4 34 Lib.Math.max.name, Cond.methodLink RX9 163 yX9_spanNow]
def wsL_law_r17 : List Cond := [Cond.instanceMethod yX9_spanNow, Cond.selects RX9 yX9_spanNow yX9_spanNow, Cond.code yX9_spanNow cX9_spanNow 3 (some .int), Cond.methodLink RX9 318 yX4_mlOfScale, Cond.instanceMethod yX4_mlOfScale, Cond.selects RX4 yX4_mlOfScale yX4_mlOfScale, Cond.code yX4_mlOfScale cX4_mlOfScale 2 (some .int), Cond.methodLink RL 57 yX10_weigh, Cond.instanceMethod yX10_weigh, Cond.selects RX10 yX10_weigh yX10_weigh, Cond.code yX10_weigh cX10_weigh 9 (some .int), Cond.methodLink RX10 154 yX10_spanNow, Cond.instanceMethod yX10_spanNow, Cond.selects RX10 yX10_spanNow yX10_spanNow, Cond.code yX10_spanNow cX10_spanNow 3 (some .int), Cond.methodLink RL 58 yX9_undo, Cond.instanceMethod yX9_undo, Cond.selects RX9 yX9_undo yX9_undo, Cond.code yX9_undo cX9_undo 2 (some .int), Cond.fieldLink RX9 167 "BarMeasure$ActLog" "kept" "I", Cond.methodLink RX9 170 yX1_takeLatest, Cond.instanceMethod yX1_takeLatest, Cond.selects RX1 yX1_takeLatest yX1_takeLatest, Cond.code yX1_takeLatest cX1_takeLatest 1 (some (.object "BarMeasure$Act"))]
def wsL_law_r18 : List Cond := [Cond.methodLink RL 62 yX10_undo, Cond.instanceMethod yX10_undo, Cond.selects RX10 yX10_undo yX10_undo, Cond.code yX10_undo cX10_undo 5 (some .int), Cond.methodLink RL 63 yX9_keeper, Cond.instanceMethod yX9_keeper, Cond.selects RX9 yX9_keeper yX9_keeper, Cond.code yX9_keeper cX9_keeper 5 (some .int), Cond.fieldLink RX9 186 "BarMeasure$Sheet" "keptBy" "I", Cond.methodLink RX9 183 yX9_isKeeper, Cond.static yX9_isKeeper, Cond.code yX9_isKeeper cX9_isKeeper 1 (some .boolean), Cond.methodLink RL 66 yX10_keeper, Cond.instanceMethod yX10_keeper, Cond.selects RX10 yX10_keeper yX10_keeper, Cond.code yX10_keeper cX10_keeper 4 (some .int), Cond.methodLink RL 67 yX9_night, Cond.instanceMethod yX9_night, Cond.selects RX9 yX9_night yX9_night, Cond.code yX9_night cX9_night 2 (some .int), Cond.methodLink RL 70 yX10_night, Cond.instanceMethod yX10_night, Cond.selects RX10 yX10_night yX10_night, Cond.code yX10_night cX10_night 2 (some .int)]
def wsL_law_r19 : List Cond := [Cond.methodLink RL 71 yX9_has, Cond.instanceMethod yX9_has, Cond.selects RX9 yX9_has yX9_has, Cond.code yX9_has cX9_has 3 (some .int), Cond.methodLink RL 74 yX10_has, Cond.instanceMethod yX10_has, Cond.selects RX10 yX10_has yX10_has, Cond.code yX10_has cX10_has 3 (some .int), Cond.methodLink RL 75 yX9_all, Cond.instanceMethod yX9_all, Cond.selects RX9 yX9_all yX9_all, Cond.code yX9_all cX9_all 3 (some .int), Cond.fieldLink RX9 189 "BarMeasure$Kind" "received" "I", Cond.fieldLink RX9 192 "BarMeasure$Kind" "gone" "[I", Cond.methodLink RL 78 yX10_all, Cond.instanceMethod yX10_all, Cond.selects RX10 yX10_all yX10_all, Cond.code yX10_all cX10_all 3 (some .int), Cond.methodLink RL 79 yX9_gap, Cond.instanceMethod yX9_gap, Cond.selects RX9 yX9_gap yX9_gap, Cond.code yX9_gap cX9_gap 6 (some .int), Cond.constant RX9 198 (-1000000004), Cond.methodLink RX9 199 yX7_isTold]
def wsL_law_r20 : List Cond := [Cond.instanceMethod yX7_isTold, Cond.selects RX7 yX7_isTold yX7_isTold, Cond.code yX7_isTold cX7_isTold 2 (some .boolean), Cond.methodLink RX7 29 Lib.Math.abs.name, Cond.static Lib.Math.abs.name, Cond.code Lib.Math.abs.name Lib.Math.abs.code 1 (some .int), Cond.methodLink RL 82 yX10_gap, Cond.instanceMethod yX10_gap, Cond.selects RX10 yX10_gap yX10_gap, Cond.code yX10_gap cX10_gap 6 (some .int), Cond.constant RX10 160 (-1000000004), Cond.methodLink RX10 157 yX10_spanOf, Cond.instanceMethod yX10_spanOf, Cond.selects RX10 yX10_spanOf yX10_spanOf, Cond.code yX10_spanOf cX10_spanOf 2 (some .int), Cond.methodLink RX10 161 yX10_isTold, Cond.instanceMethod yX10_isTold, Cond.selects RX10 yX10_isTold yX10_isTold, Cond.code yX10_isTold cX10_isTold 3 (some .boolean), Cond.methodLink RL 83 yX9_over, Cond.instanceMethod yX9_over, Cond.selects RX9 yX9_over yX9_over, Cond.code yX9_over cX9_over 12 (some .long), Cond.constantLong RX9 205 (-1000000000)]
def wsL_law_r21 : List Cond := [Cond.constantLong RX9 214 (-1000000004), Cond.methodLink RX9 216 Lib.MathLoose.abs_long.x, Cond.static Lib.MathLoose.abs_long.x, Cond.code Lib.MathLoose.abs_long.x Lib.MathLoose.abs_long.code 2 (some .long), Cond.methodLink RX9 207 yX9_sheetsSoFar, Cond.instanceMethod yX9_sheetsSoFar, Cond.selects RX9 yX9_sheetsSoFar yX9_sheetsSoFar, Cond.code yX9_sheetsSoFar cX9_sheetsSoFar 1 (some .int), Cond.methodLink RX9 211 yX7_judges, Cond.instanceMethod yX7_judges, Cond.selects RX7 yX7_judges yX7_judges, Cond.code yX7_judges cX7_judges 3 (some .boolean), Cond.methodLink RX9 222 yX9_commonDivisor, Cond.static yX9_commonDivisor, Cond.code yX9_commonDivisor cX9_commonDivisor 7 (some .long), Cond.methodLink RL 87 yX10_over, Cond.instanceMethod yX10_over, Cond.selects RX10 yX10_over yX10_over, Cond.code yX10_over cX10_over 13 (some .long), Cond.constantLong RX10 164 (-1000000000), Cond.constantLong RX10 170 (-1000000004), Cond.methodLink RX10 166 yX10_counts, Cond.instanceMethod yX10_counts, Cond.selects RX10 yX10_counts yX10_counts]
def wsL_law_r22 : List Cond := [Cond.code yX10_counts cX10_counts 6 (some .boolean), Cond.methodLink RX10 172 yX10_common, Cond.static yX10_common, Cond.code yX10_common cX10_common 10 (some .long), Cond.methodLink RL 88 yX9_leans, Cond.instanceMethod yX9_leans, Cond.selects RX9 yX9_leans yX9_leans, Cond.code yX9_leans cX9_leans 5 (some .int), Cond.methodLink RL 91 yX10_leans, Cond.instanceMethod yX10_leans, Cond.selects RX10 yX10_leans yX10_leans, Cond.code yX10_leans cX10_leans 6 (some .int), Cond.methodLink RL 92 yX9_takings, Cond.instanceMethod yX9_takings, Cond.selects RX9 yX9_takings yX9_takings, Cond.code yX9_takings cX9_takings 2 (some .int), Cond.methodLink RL 95 yX10_takings, Cond.instanceMethod yX10_takings, Cond.selects RX10 yX10_takings yX10_takings, Cond.code yX10_takings cX10_takings 2 (some .int), Cond.methodLink RL 96 yX9_foretell, Cond.instanceMethod yX9_foretell, Cond.selects RX9 yX9_foretell yX9_foretell, Cond.code yX9_foretell cX9_foretell 3 (some .int)]
def wsL_law_r23 : List Cond := [Cond.fieldLink RX9 226 "BarMeasure$Forecast" "told" "I", Cond.methodLink RX9 229 yX3_add, Cond.instanceMethod yX3_add, Cond.selects RX3 yX3_add yX3_add, Cond.code yX3_add cX3_add 3 none, Cond.methodLink RL 99 yX10_foretell, Cond.instanceMethod yX10_foretell, Cond.selects RX10 yX10_foretell yX10_foretell, Cond.code yX10_foretell cX10_foretell 3 (some .int), Cond.fieldLink RX10 176 "BarMeasureModel" "tellings" "I", Cond.methodLink RL 100 yX9_forget, Cond.instanceMethod yX9_forget, Cond.selects RX9 yX9_forget yX9_forget, Cond.code yX9_forget cX9_forget 2 (some .int), Cond.methodLink RL 103 yX10_forget, Cond.instanceMethod yX10_forget, Cond.selects RX10 yX10_forget yX10_forget, Cond.code yX10_forget cX10_forget 2 (some .int), Cond.methodLink RL 104 yX9_press, Cond.instanceMethod yX9_press, Cond.selects RX9 yX9_press yX9_press, Cond.code yX9_press cX9_press 4 (some .int), Cond.methodLink RX9 233 yX3_par, Cond.instanceMethod yX3_par]
def wsL_law_r24 : List Cond := [Cond.selects RX3 yX3_par yX3_par, Cond.code yX3_par cX3_par 7 (some .int), Cond.methodLink RX3 28 yX3_costOf, Cond.instanceMethod yX3_costOf, Cond.selects RX3 yX3_costOf yX3_costOf, Cond.code yX3_costOf cX3_costOf 8 (some .int), Cond.methodLink RX3 22 Lib.Math.max.name, Cond.methodLink RX9 236 yX3_costOf, Cond.methodLink RL 107 yX10_press, Cond.instanceMethod yX10_press, Cond.selects RX10 yX10_press yX10_press, Cond.code yX10_press cX10_press 4 (some .int), Cond.methodLink RX10 179 yX10_costOf, Cond.instanceMethod yX10_costOf, Cond.selects RX10 yX10_costOf yX10_costOf, Cond.code yX10_costOf cX10_costOf 5 (some .int), Cond.methodLink RL 108 yX9_makes, Cond.instanceMethod yX9_makes, Cond.selects RX9 yX9_makes yX9_makes, Cond.code yX9_makes cX9_makes 2 (some .int), Cond.methodLink RX9 239 yX9_allKinds, Cond.instanceMethod yX9_allKinds, Cond.selects RX9 yX9_allKinds yX9_allKinds, Cond.code yX9_allKinds cX9_allKinds 1 (some .int)]
def wsL_law_r25 : List Cond := [Cond.methodLink RX9 242 yX9_madeBy, Cond.instanceMethod yX9_madeBy, Cond.selects RX9 yX9_madeBy yX9_madeBy, Cond.code yX9_madeBy cX9_madeBy 4 (some .int), Cond.methodLink RX9 324 yX6_canBeMadeBy, Cond.instanceMethod yX6_canBeMadeBy, Cond.selects RX6 yX6_canBeMadeBy yX6_canBeMadeBy, Cond.code yX6_canBeMadeBy cX6_canBeMadeBy 2 (some .boolean), Cond.methodLink RL 111 yX10_makes, Cond.instanceMethod yX10_makes, Cond.selects RX10 yX10_makes yX10_makes, Cond.code yX10_makes cX10_makes 2 (some .int), Cond.methodLink RX10 182 yX10_madeBy, Cond.instanceMethod yX10_madeBy, Cond.selects RX10 yX10_madeBy yX10_madeBy, Cond.code yX10_madeBy cX10_madeBy 6 (some .int), Cond.methodLink RL 112 yX9_fewest, Cond.instanceMethod yX9_fewest, Cond.selects RX9 yX9_fewest yX9_fewest, Cond.code yX9_fewest cX9_fewest 5 (some .int), Cond.methodLink RX9 246 yJ6_bitCount_0f7a4, Cond.static yJ6_bitCount_0f7a4, Cond.initialized RJ6, Cond.code yJ6_bitCount_0f7a4 cJ6_bitCount_0f7a4 1 (some .int)]
def wsL_law_r26 : List Cond := [Cond.constant RJ6 265 (1431655765), Cond.constant RJ6 266 (858993459), Cond.constant RJ6 267 (252645135), Cond.methodLink RL 115 yX10_fewest, Cond.instanceMethod yX10_fewest, Cond.selects RX10 yX10_fewest yX10_fewest, Cond.code yX10_fewest cX10_fewest 4 (some .int), Cond.methodLink RX10 185 yX10_bits, Cond.static yX10_bits, Cond.code yX10_bits cX10_bits 3 (some .int), Cond.methodLink RL 116 yX9_most, Cond.instanceMethod yX9_most, Cond.selects RX9 yX9_most yX9_most, Cond.code yX9_most cX9_most 6 (some .int), Cond.methodLink RL 119 yX10_most, Cond.instanceMethod yX10_most, Cond.selects RX10 yX10_most yX10_most, Cond.code yX10_most cX10_most 5 (some .int), Cond.methodLink RL 120 yX9_priceRule, Cond.instanceMethod yX9_priceRule, Cond.selects RX9 yX9_priceRule yX9_priceRule, Cond.code yX9_priceRule cX9_priceRule 7 (some .int), Cond.fieldLink RX9 251 "BarMeasure$PriceRule" "days" "I", Cond.fieldLink RX9 254 "BarMeasure$PriceRule" "from" "I"]
def wsL_law_r27 : List Cond := [Cond.fieldLink RX9 257 "BarMeasure$PriceRule" "to" "I", Cond.methodLink RL 123 yX10_priceRule, Cond.instanceMethod yX10_priceRule, Cond.selects RX10 yX10_priceRule yX10_priceRule, Cond.code yX10_priceRule cX10_priceRule 5 (some .int), Cond.methodLink RL 124 yX9_price, Cond.instanceMethod yX9_price, Cond.selects RX9 yX9_price yX9_price, Cond.code yX9_price cX9_price 4 (some .int), Cond.methodLink RL 127 yX10_price, Cond.instanceMethod yX10_price, Cond.selects RX10 yX10_price yX10_price, Cond.code yX10_price cX10_price 4 (some .int), Cond.methodLink RL 128 yX9_person, Cond.instanceMethod yX9_person, Cond.selects RX9 yX9_person yX9_person, Cond.code yX9_person cX9_person 4 (some .int), Cond.fieldLink RX9 263 "BarMeasure$TipJar" "weights" "[I", Cond.methodLink RL 131 yX10_person, Cond.instanceMethod yX10_person, Cond.selects RX10 yX10_person yX10_person, Cond.code yX10_person cX10_person 4 (some .int), Cond.methodLink RL 132 yX9_tips, Cond.instanceMethod yX9_tips]
def wsL_law_r28 : List Cond := [Cond.selects RX9 yX9_tips yX9_tips, Cond.code yX9_tips cX9_tips 3 (some .int), Cond.constant RX9 266 (1000000), Cond.methodLink RX9 267 yX8_shareOf, Cond.instanceMethod yX8_shareOf, Cond.selects RX8 yX8_shareOf yX8_shareOf, Cond.code yX8_shareOf cX8_shareOf 8 (some .int), Cond.methodLink RX8 15 yX8_cutShare, Cond.instanceMethod yX8_cutShare, Cond.selects RX8 yX8_cutShare yX8_cutShare, Cond.code yX8_cutShare cX8_cutShare 5 (some .long), Cond.methodLink RX8 19 yX8_aheadOf, Cond.instanceMethod yX8_aheadOf, Cond.selects RX8 yX8_aheadOf yX8_aheadOf, Cond.code yX8_aheadOf cX8_aheadOf 11 (some .int), Cond.methodLink RX8 23 yX8_rest, Cond.instanceMethod yX8_rest, Cond.selects RX8 yX8_rest yX8_rest, Cond.code yX8_rest cX8_rest 5 (some .long), Cond.methodLink RL 135 yX10_tips, Cond.instanceMethod yX10_tips, Cond.selects RX10 yX10_tips yX10_tips, Cond.code yX10_tips cX10_tips 13 (some .int), Cond.constant RX10 194 (1000000)]
def wsL_law_r29 : List Cond := [Cond.methodLink RL 136 yX9_keg, Cond.instanceMethod yX9_keg, Cond.selects RX9 yX9_keg yX9_keg, Cond.code yX9_keg cX9_keg 4 (some .int), Cond.constant RX9 270 (100000), Cond.methodLink RX9 274 Lib.Math.min.name, Cond.constant RX9 277 (50000), Cond.methodLink RL 139 yX10_keg, Cond.instanceMethod yX10_keg, Cond.selects RX10 yX10_keg yX10_keg, Cond.code yX10_keg cX10_keg 4 (some .int), Cond.constant RX10 195 (100000), Cond.constant RX10 196 (50000), Cond.methodLink RL 140 yX9_deal, Cond.instanceMethod yX9_deal, Cond.selects RX9 yX9_deal yX9_deal, Cond.code yX9_deal cX9_deal 3 (some .int), Cond.fieldLink RX9 278 "BarMeasure$DealBook" "told" "I", Cond.methodLink RX9 279 yX2_add, Cond.instanceMethod yX2_add, Cond.selects RX2 yX2_add yX2_add, Cond.code yX2_add cX2_add 3 none, Cond.methodLink RL 143 yX10_deal, Cond.instanceMethod yX10_deal]
def wsL_law_r30 : List Cond := [Cond.selects RX10 yX10_deal yX10_deal, Cond.code yX10_deal cX10_deal 3 (some .int), Cond.fieldLink RX10 197 "BarMeasureModel" "deals" "I", Cond.methodLink RL 144 yX9_buy, Cond.instanceMethod yX9_buy, Cond.selects RX9 yX9_buy yX9_buy, Cond.code yX9_buy cX9_buy 4 (some .int), Cond.methodLink RX9 280 yX2_weighUp, Cond.instanceMethod yX2_weighUp, Cond.selects RX2 yX2_weighUp yX2_weighUp, Cond.code yX2_weighUp cX2_weighUp 3 none, Cond.constant RX2 27 (1000000000), Cond.methodLink RX2 32 Lib.Math.min.name, Cond.methodLink RX2 28 yX2_priceWithOneMore, Cond.instanceMethod yX2_priceWithOneMore, Cond.selects RX2 yX2_priceWithOneMore yX2_priceWithOneMore, Cond.code yX2_priceWithOneMore cX2_priceWithOneMore 3 (some .int), Cond.methodLink RX9 283 yX2_bestBottles, Cond.instanceMethod yX2_bestBottles, Cond.selects RX2 yX2_bestBottles yX2_bestBottles, Cond.code yX2_bestBottles cX2_bestBottles 4 (some .int), Cond.methodLink RX9 286 yX2_leastFor, Cond.instanceMethod yX2_leastFor, Cond.selects RX2 yX2_leastFor yX2_leastFor]
def wsL_law_r31 : List Cond := [Cond.code yX2_leastFor cX2_leastFor 2 (some .int), Cond.methodLink RX9 289 yX2_timesOf, Cond.instanceMethod yX2_timesOf, Cond.selects RX2 yX2_timesOf yX2_timesOf, Cond.code yX2_timesOf cX2_timesOf 6 (some .int), Cond.methodLink RX2 37 yX2_mostTimes, Cond.instanceMethod yX2_mostTimes, Cond.selects RX2 yX2_mostTimes yX2_mostTimes, Cond.code yX2_mostTimes cX2_mostTimes 5 (some .int), Cond.methodLink RL 147 yX10_buy, Cond.instanceMethod yX10_buy, Cond.selects RX10 yX10_buy yX10_buy, Cond.code yX10_buy cX10_buy 7 (some .int), Cond.constant RX10 200 (100000000), Cond.methodLink RL 148 yX9_count, Cond.instanceMethod yX9_count, Cond.selects RX9 yX9_count yX9_count, Cond.code yX9_count cX9_count 2 (some .int), Cond.methodLink RL 151 yX10_count, Cond.instanceMethod yX10_count, Cond.selects RX10 yX10_count yX10_count, Cond.code yX10_count cX10_count 2 (some .int)]
def wsL_law : List Cond := (wsL_law_r1 ++ (wsL_law_r2 ++ (wsL_law_r3 ++ (wsL_law_r4 ++ (wsL_law_r5 ++ (wsL_law_r6 ++ (wsL_law_r7 ++ (wsL_law_r8 ++ (wsL_law_r9 ++ (wsL_law_r10 ++ (wsL_law_r11 ++ (wsL_law_r12 ++ (wsL_law_r13 ++ (wsL_law_r14 ++ (wsL_law_r15 ++ (wsL_law_r16 ++ (wsL_law_r17 ++ (wsL_law_r18 ++ (wsL_law_r19 ++ (wsL_law_r20 ++ (wsL_law_r21 ++ (wsL_law_r22 ++ (wsL_law_r23 ++ (wsL_law_r24 ++ (wsL_law_r25 ++ (wsL_law_r26 ++ (wsL_law_r27 ++ (wsL_law_r28 ++ (wsL_law_r29 ++ (wsL_law_r30 ++ wsL_law_r31)))))))))))))))))))))))))))))) ++ wsX90 ++ wsX100 ++ wsX10 ++ wsX30 ++ wsX80 ++ wsX20 ++ wsX40 ++ wsX60 ++ wsX70 ++ wsX50 ++ wsX00 ++ ([] : List Cond)
set_option maxRecDepth 20000 in
theorem wsL_law_in : ∀ w ∈ wsL_law, w ∈ lw_tbl := fun w h => (goodIn_p wsL_law [45, 48, 68, 75, 114, 133, 144, 165, 199, 220, 247, 638, 312, 315, 746, 749, 319, 753, 323, 327, 331, 335, 757, 761, 765, 339, 769, 772, 345, 349, 353, 356, 360, 364, 368, 372, 776, 780, 784, 376, 379, 788, 791, 797, 385, 801, 805, 389, 392, 396, 407, 400, 404, 809, 813, 817, 821, 824, 411, 828, 832, 415, 419, 424, 428, 836, 840, 432, 436, 844, 440, 443, 848, 447, 852, 451, 856, 455, 860, 459, 464, 467, 864, 869, 873, 471, 484, 476, 480, 487, 877, 882, 886, 491, 890, 495, 894, 499, 503, 898, 507, 902, 511, 515, 519, 906, 910, 525, 529, 533, 537, 914, 918, 541, 544, 922, 925, 551, 929, 555, 933, 559, 937, 563, 941, 567, 572, 576, 580, 584, 945, 588, 950, 595, 599, 956, 603, 607, 612, 617, 621, 625, 629, 960, 633, 965] (by decide +kernel) (by decide +kernel) w h).1
theorem inlX0 : ∀ w ∈ wsX00, w ∈ wsL_law := fun _ h => List.mem_append_left _ (List.mem_append_right _ h)
theorem inX0 : ∀ w ∈ wsX00, w ∈ lw_tbl := fun w h => wsL_law_in w (inlX0 w h)
theorem inlX1 : ∀ w ∈ wsX10, w ∈ wsL_law := fun _ h => List.mem_append_left _ (List.mem_append_left _ (List.mem_append_left _ (List.mem_append_left _ (List.mem_append_left _ (List.mem_append_left _ (List.mem_append_left _ (List.mem_append_left _ (List.mem_append_left _ (List.mem_append_right _ h)))))))))
theorem inX1 : ∀ w ∈ wsX10, w ∈ lw_tbl := fun w h => wsL_law_in w (inlX1 w h)
theorem inlX2 : ∀ w ∈ wsX20, w ∈ wsL_law := fun _ h => List.mem_append_left _ (List.mem_append_left _ (List.mem_append_left _ (List.mem_append_left _ (List.mem_append_left _ (List.mem_append_left _ (List.mem_append_right _ h))))))
theorem inX2 : ∀ w ∈ wsX20, w ∈ lw_tbl := fun w h => wsL_law_in w (inlX2 w h)
theorem inlX3 : ∀ w ∈ wsX30, w ∈ wsL_law := fun _ h => List.mem_append_left _ (List.mem_append_left _ (List.mem_append_left _ (List.mem_append_left _ (List.mem_append_left _ (List.mem_append_left _ (List.mem_append_left _ (List.mem_append_left _ (List.mem_append_right _ h))))))))
theorem inX3 : ∀ w ∈ wsX30, w ∈ lw_tbl := fun w h => wsL_law_in w (inlX3 w h)
theorem inlX4 : ∀ w ∈ wsX40, w ∈ wsL_law := fun _ h => List.mem_append_left _ (List.mem_append_left _ (List.mem_append_left _ (List.mem_append_left _ (List.mem_append_left _ (List.mem_append_right _ h)))))
theorem inX4 : ∀ w ∈ wsX40, w ∈ lw_tbl := fun w h => wsL_law_in w (inlX4 w h)
theorem inlX5 : ∀ w ∈ wsX50, w ∈ wsL_law := fun _ h => List.mem_append_left _ (List.mem_append_left _ (List.mem_append_right _ h))
theorem inX5 : ∀ w ∈ wsX50, w ∈ lw_tbl := fun w h => wsL_law_in w (inlX5 w h)
theorem inlX6 : ∀ w ∈ wsX60, w ∈ wsL_law := fun _ h => List.mem_append_left _ (List.mem_append_left _ (List.mem_append_left _ (List.mem_append_left _ (List.mem_append_right _ h))))
theorem inX6 : ∀ w ∈ wsX60, w ∈ lw_tbl := fun w h => wsL_law_in w (inlX6 w h)
theorem inlX7 : ∀ w ∈ wsX70, w ∈ wsL_law := fun _ h => List.mem_append_left _ (List.mem_append_left _ (List.mem_append_left _ (List.mem_append_right _ h)))
theorem inX7 : ∀ w ∈ wsX70, w ∈ lw_tbl := fun w h => wsL_law_in w (inlX7 w h)
theorem inlX8 : ∀ w ∈ wsX80, w ∈ wsL_law := fun _ h => List.mem_append_left _ (List.mem_append_left _ (List.mem_append_left _ (List.mem_append_left _ (List.mem_append_left _ (List.mem_append_left _ (List.mem_append_left _ (List.mem_append_right _ h)))))))
theorem inX8 : ∀ w ∈ wsX80, w ∈ lw_tbl := fun w h => wsL_law_in w (inlX8 w h)
theorem inlX9 : ∀ w ∈ wsX90, w ∈ wsL_law := fun _ h => List.mem_append_left _ (List.mem_append_left _ (List.mem_append_left _ (List.mem_append_left _ (List.mem_append_left _ (List.mem_append_left _ (List.mem_append_left _ (List.mem_append_left _ (List.mem_append_left _ (List.mem_append_left _ (List.mem_append_left _ (List.mem_append_right _ h)))))))))))
theorem inX9 : ∀ w ∈ wsX90, w ∈ lw_tbl := fun w h => wsL_law_in w (inlX9 w h)
theorem inlX10 : ∀ w ∈ wsX100, w ∈ wsL_law := fun _ h => List.mem_append_left _ (List.mem_append_left _ (List.mem_append_left _ (List.mem_append_left _ (List.mem_append_left _ (List.mem_append_left _ (List.mem_append_left _ (List.mem_append_left _ (List.mem_append_left _ (List.mem_append_left _ (List.mem_append_right _ h))))))))))
theorem inX10 : ∀ w ∈ wsX100, w ∈ lw_tbl := fun w h => wsL_law_in w (inlX10 w h)
theorem inJx8e188 : ∀ w ∈ wsJx8e1880, w ∈ lw_tbl := by decide +kernel
theorem inJ6 : ∀ w ∈ wsJ60, w ∈ lw_tbl := by decide +kernel
theorem inJ9 : ∀ w ∈ wsJ90, w ∈ lw_tbl := by decide +kernel
theorem dX0_init_0 : decode cX0_init 0 = .ok (.aload_n 0, 1) := by decide +kernel
theorem dX0_init_1 : decode cX0_init 1 = .ok (.invokespecial 1, 3) := by decide +kernel
theorem dX0_init_4 : decode cX0_init 4 = .ok (.aload_n 0, 1) := by decide +kernel
theorem dX0_init_5 : decode cX0_init 5 = .ok (.iconst 0, 1) := by decide +kernel
theorem dX0_init_6 : decode cX0_init 6 = .ok (.putfield 7, 3) := by decide +kernel
theorem dX0_init_9 : decode cX0_init 9 = .ok (.aload_n 0, 1) := by decide +kernel
theorem dX0_init_10 : decode cX0_init 10 = .ok (.iconst 0, 1) := by decide +kernel
theorem dX0_init_11 : decode cX0_init 11 = .ok (.putfield 13, 3) := by decide +kernel
theorem dX0_init_14 : decode cX0_init 14 = .ok (.aload_n 0, 1) := by decide +kernel
theorem dX0_init_15 : decode cX0_init 15 = .ok (.iconst 0, 1) := by decide +kernel
theorem dX0_init_16 : decode cX0_init 16 = .ok (.putfield 16, 3) := by decide +kernel
theorem dX0_init_19 : decode cX0_init 19 = .ok (.aload_n 0, 1) := by decide +kernel
theorem dX0_init_20 : decode cX0_init 20 = .ok (.iconst 0, 1) := by decide +kernel
theorem dX0_init_21 : decode cX0_init 21 = .ok (.putfield 19, 3) := by decide +kernel
theorem dX0_init_24 : decode cX0_init 24 = .ok (.aload_n 0, 1) := by decide +kernel
theorem dX0_init_25 : decode cX0_init 25 = .ok (.iconst 0, 1) := by decide +kernel
theorem dX0_init_26 : decode cX0_init 26 = .ok (.putfield 22, 3) := by decide +kernel
theorem dX0_init_29 : decode cX0_init 29 = .ok (.return_, 1) := by decide +kernel
set_option maxRecDepth 20000 in
theorem ggX1_init_X0_init : GoodIn wsX1_init wsX0_init := goodIn_r _ [11, 12, 2, 3, 13, 14, 15, 16, 17, 21, 22, 23, 24, 25] (by decide +kernel) (by decide +kernel)
set_option maxRecDepth 20000 in
theorem gX1_init_X0_init_n24 : GoodIn wsX1_init (wsX0_init) := ggX1_init_X0_init
theorem dX1_init_0 : decode cX1_init 0 = .ok (.aload_n 0, 1) := by decide +kernel
theorem dX1_init_1 : decode cX1_init 1 = .ok (.invokespecial 3, 3) := by decide +kernel
theorem dX1_init_4 : decode cX1_init 4 = .ok (.aload_n 0, 1) := by decide +kernel
theorem dX1_init_5 : decode cX1_init 5 = .ok (.bipush 40, 2) := by decide +kernel
theorem dX1_init_7 : decode cX1_init 7 = .ok (.anewarray 9, 3) := by decide +kernel
theorem dX1_init_10 : decode cX1_init 10 = .ok (.putfield 11, 3) := by decide +kernel
theorem dX1_init_13 : decode cX1_init 13 = .ok (.aload_n 0, 1) := by decide +kernel
theorem dX1_init_14 : decode cX1_init 14 = .ok (.iconst 0, 1) := by decide +kernel
theorem dX1_init_15 : decode cX1_init 15 = .ok (.putfield 17, 3) := by decide +kernel
theorem dX1_init_18 : decode cX1_init 18 = .ok (.aload_n 0, 1) := by decide +kernel
theorem dX1_init_19 : decode cX1_init 19 = .ok (.iconst 0, 1) := by decide +kernel
theorem dX1_init_20 : decode cX1_init 20 = .ok (.putfield 21, 3) := by decide +kernel
theorem dX1_init_23 : decode cX1_init 23 = .ok (.iconst 0, 1) := by decide +kernel
theorem dX1_init_24 : decode cX1_init 24 = .ok (.istore_n 1, 1) := by decide +kernel
theorem dX1_init_25 : decode cX1_init 25 = .ok (.iload_n 1, 1) := by decide +kernel
theorem dX1_init_26 : decode cX1_init 26 = .ok (.aload_n 0, 1) := by decide +kernel
theorem dX1_init_27 : decode cX1_init 27 = .ok (.getfield 11, 3) := by decide +kernel
theorem dX1_init_30 : decode cX1_init 30 = .ok (.arraylength, 1) := by decide +kernel
theorem dX1_init_31 : decode cX1_init 31 = .ok (.if_icmp .ge 22, 3) := by decide +kernel
theorem dX1_init_34 : decode cX1_init 34 = .ok (.aload_n 0, 1) := by decide +kernel
theorem dX1_init_35 : decode cX1_init 35 = .ok (.getfield 11, 3) := by decide +kernel
theorem dX1_init_38 : decode cX1_init 38 = .ok (.iload_n 1, 1) := by decide +kernel
theorem dX1_init_39 : decode cX1_init 39 = .ok (.new 9, 3) := by decide +kernel
theorem dX1_init_42 : decode cX1_init 42 = .ok (.dup, 1) := by decide +kernel
theorem dX1_init_43 : decode cX1_init 43 = .ok (.invokespecial 24, 3) := by decide +kernel
theorem dX1_init_46 : decode cX1_init 46 = .ok (.aastore, 1) := by decide +kernel
theorem dX1_init_47 : decode cX1_init 47 = .ok (.iinc 1 1, 3) := by decide +kernel
theorem dX1_init_50 : decode cX1_init 50 = .ok (.goto (-25), 3) := by decide +kernel
theorem dX1_init_53 : decode cX1_init 53 = .ok (.return_, 1) := by decide +kernel
theorem dX1_nextRow_0 : decode cX1_nextRow 0 = .ok (.aload_n 0, 1) := by decide +kernel
theorem dX1_nextRow_1 : decode cX1_nextRow 1 = .ok (.getfield 11, 3) := by decide +kernel
theorem dX1_nextRow_4 : decode cX1_nextRow 4 = .ok (.aload_n 0, 1) := by decide +kernel
theorem dX1_nextRow_5 : decode cX1_nextRow 5 = .ok (.getfield 21, 3) := by decide +kernel
theorem dX1_nextRow_8 : decode cX1_nextRow 8 = .ok (.aaload, 1) := by decide +kernel
theorem dX1_nextRow_9 : decode cX1_nextRow 9 = .ok (.astore_n 1, 1) := by decide +kernel
theorem dX1_nextRow_10 : decode cX1_nextRow 10 = .ok (.aload_n 0, 1) := by decide +kernel
theorem dX1_nextRow_11 : decode cX1_nextRow 11 = .ok (.aload_n 0, 1) := by decide +kernel
theorem dX1_nextRow_12 : decode cX1_nextRow 12 = .ok (.getfield 21, 3) := by decide +kernel
theorem dX1_nextRow_15 : decode cX1_nextRow 15 = .ok (.iconst 1, 1) := by decide +kernel
theorem dX1_nextRow_16 : decode cX1_nextRow 16 = .ok (.iadd, 1) := by decide +kernel
theorem dX1_nextRow_17 : decode cX1_nextRow 17 = .ok (.bipush 40, 2) := by decide +kernel
theorem dX1_nextRow_19 : decode cX1_nextRow 19 = .ok (.irem, 1) := by decide +kernel
theorem dX1_nextRow_20 : decode cX1_nextRow 20 = .ok (.putfield 21, 3) := by decide +kernel
theorem dX1_nextRow_23 : decode cX1_nextRow 23 = .ok (.aload_n 0, 1) := by decide +kernel
theorem dX1_nextRow_24 : decode cX1_nextRow 24 = .ok (.aload_n 0, 1) := by decide +kernel
theorem dX1_nextRow_25 : decode cX1_nextRow 25 = .ok (.getfield 17, 3) := by decide +kernel
theorem dX1_nextRow_28 : decode cX1_nextRow 28 = .ok (.iconst 1, 1) := by decide +kernel
theorem dX1_nextRow_29 : decode cX1_nextRow 29 = .ok (.iadd, 1) := by decide +kernel
theorem dX1_nextRow_30 : decode cX1_nextRow 30 = .ok (.bipush 40, 2) := by decide +kernel
theorem dX1_nextRow_32 : decode cX1_nextRow 32 = .ok (.invokestatic 25, 3) := by decide +kernel
theorem dX1_nextRow_35 : decode cX1_nextRow 35 = .ok (.putfield 17, 3) := by decide +kernel
theorem dX1_nextRow_38 : decode cX1_nextRow 38 = .ok (.aload_n 1, 1) := by decide +kernel
theorem dX1_nextRow_39 : decode cX1_nextRow 39 = .ok (.areturn, 1) := by decide +kernel
theorem dX1_takeLatest_0 : decode cX1_takeLatest 0 = .ok (.aload_n 0, 1) := by decide +kernel
theorem dX1_takeLatest_1 : decode cX1_takeLatest 1 = .ok (.aload_n 0, 1) := by decide +kernel
theorem dX1_takeLatest_2 : decode cX1_takeLatest 2 = .ok (.getfield 21, 3) := by decide +kernel
theorem dX1_takeLatest_5 : decode cX1_takeLatest 5 = .ok (.bipush 40, 2) := by decide +kernel
theorem dX1_takeLatest_7 : decode cX1_takeLatest 7 = .ok (.iadd, 1) := by decide +kernel
theorem dX1_takeLatest_8 : decode cX1_takeLatest 8 = .ok (.iconst 1, 1) := by decide +kernel
theorem dX1_takeLatest_9 : decode cX1_takeLatest 9 = .ok (.isub, 1) := by decide +kernel
theorem dX1_takeLatest_10 : decode cX1_takeLatest 10 = .ok (.bipush 40, 2) := by decide +kernel
theorem dX1_takeLatest_12 : decode cX1_takeLatest 12 = .ok (.irem, 1) := by decide +kernel
theorem dX1_takeLatest_13 : decode cX1_takeLatest 13 = .ok (.putfield 21, 3) := by decide +kernel
theorem dX1_takeLatest_16 : decode cX1_takeLatest 16 = .ok (.aload_n 0, 1) := by decide +kernel
theorem dX1_takeLatest_17 : decode cX1_takeLatest 17 = .ok (.dup, 1) := by decide +kernel
theorem dX1_takeLatest_18 : decode cX1_takeLatest 18 = .ok (.getfield 17, 3) := by decide +kernel
theorem dX1_takeLatest_21 : decode cX1_takeLatest 21 = .ok (.iconst 1, 1) := by decide +kernel
theorem dX1_takeLatest_22 : decode cX1_takeLatest 22 = .ok (.isub, 1) := by decide +kernel
theorem dX1_takeLatest_23 : decode cX1_takeLatest 23 = .ok (.putfield 17, 3) := by decide +kernel
theorem dX1_takeLatest_26 : decode cX1_takeLatest 26 = .ok (.aload_n 0, 1) := by decide +kernel
theorem dX1_takeLatest_27 : decode cX1_takeLatest 27 = .ok (.getfield 11, 3) := by decide +kernel
theorem dX1_takeLatest_30 : decode cX1_takeLatest 30 = .ok (.aload_n 0, 1) := by decide +kernel
theorem dX1_takeLatest_31 : decode cX1_takeLatest 31 = .ok (.getfield 21, 3) := by decide +kernel
theorem dX1_takeLatest_34 : decode cX1_takeLatest 34 = .ok (.aaload, 1) := by decide +kernel
theorem dX1_takeLatest_35 : decode cX1_takeLatest 35 = .ok (.areturn, 1) := by decide +kernel
theorem dX2_init_0 : decode cX2_init 0 = .ok (.aload_n 0, 1) := by decide +kernel
theorem dX2_init_1 : decode cX2_init 1 = .ok (.invokespecial 5, 3) := by decide +kernel
theorem dX2_init_4 : decode cX2_init 4 = .ok (.aload_n 0, 1) := by decide +kernel
theorem dX2_init_5 : decode cX2_init 5 = .ok (.iconst 5, 1) := by decide +kernel
theorem dX2_init_6 : decode cX2_init 6 = .ok (.newarray .int, 2) := by decide +kernel
theorem dX2_init_8 : decode cX2_init 8 = .ok (.putfield 11, 3) := by decide +kernel
theorem dX2_init_11 : decode cX2_init 11 = .ok (.aload_n 0, 1) := by decide +kernel
theorem dX2_init_12 : decode cX2_init 12 = .ok (.iconst 5, 1) := by decide +kernel
theorem dX2_init_13 : decode cX2_init 13 = .ok (.newarray .int, 2) := by decide +kernel
theorem dX2_init_15 : decode cX2_init 15 = .ok (.putfield 15, 3) := by decide +kernel
theorem dX2_init_18 : decode cX2_init 18 = .ok (.aload_n 0, 1) := by decide +kernel
theorem dX2_init_19 : decode cX2_init 19 = .ok (.iconst 0, 1) := by decide +kernel
theorem dX2_init_20 : decode cX2_init 20 = .ok (.putfield 18, 3) := by decide +kernel
theorem dX2_init_23 : decode cX2_init 23 = .ok (.aload_n 0, 1) := by decide +kernel
theorem dX2_init_24 : decode cX2_init 24 = .ok (.bipush 6, 2) := by decide +kernel
theorem dX2_init_26 : decode cX2_init 26 = .ok (.sipush 144, 3) := by decide +kernel
theorem dX2_init_29 : decode cX2_init 29 = .ok (.multianewarray 22 2, 4) := by decide +kernel
theorem dX2_init_33 : decode cX2_init 33 = .ok (.putfield 24, 3) := by decide +kernel
theorem dX2_init_36 : decode cX2_init 36 = .ok (.return_, 1) := by decide +kernel
theorem dX2_add_0 : decode cX2_add 0 = .ok (.aload_n 0, 1) := by decide +kernel
theorem dX2_add_1 : decode cX2_add 1 = .ok (.getfield 11, 3) := by decide +kernel
theorem dX2_add_4 : decode cX2_add 4 = .ok (.aload_n 0, 1) := by decide +kernel
theorem dX2_add_5 : decode cX2_add 5 = .ok (.getfield 18, 3) := by decide +kernel
theorem dX2_add_8 : decode cX2_add 8 = .ok (.iload_n 1, 1) := by decide +kernel
theorem dX2_add_9 : decode cX2_add 9 = .ok (.iastore, 1) := by decide +kernel
theorem dX2_add_10 : decode cX2_add 10 = .ok (.aload_n 0, 1) := by decide +kernel
theorem dX2_add_11 : decode cX2_add 11 = .ok (.getfield 15, 3) := by decide +kernel
theorem dX2_add_14 : decode cX2_add 14 = .ok (.aload_n 0, 1) := by decide +kernel
theorem dX2_add_15 : decode cX2_add 15 = .ok (.getfield 18, 3) := by decide +kernel
theorem dX2_add_18 : decode cX2_add 18 = .ok (.iload_n 2, 1) := by decide +kernel
theorem dX2_add_19 : decode cX2_add 19 = .ok (.iastore, 1) := by decide +kernel
theorem dX2_add_20 : decode cX2_add 20 = .ok (.aload_n 0, 1) := by decide +kernel
theorem dX2_add_21 : decode cX2_add 21 = .ok (.dup, 1) := by decide +kernel
theorem dX2_add_22 : decode cX2_add 22 = .ok (.getfield 18, 3) := by decide +kernel
theorem dX2_add_25 : decode cX2_add 25 = .ok (.iconst 1, 1) := by decide +kernel
theorem dX2_add_26 : decode cX2_add 26 = .ok (.iadd, 1) := by decide +kernel
theorem dX2_add_27 : decode cX2_add 27 = .ok (.putfield 18, 3) := by decide +kernel
theorem dX2_add_30 : decode cX2_add 30 = .ok (.return_, 1) := by decide +kernel
set_option maxRecDepth 20000 in
theorem ggX2_weighUp_X2_priceWithOneMore : GoodIn wsX2_weighUp wsX2_priceWithOneMore := goodIn_r _ [12, 13, 3, 1, 14, 15, 16, 17, 18] (by decide +kernel) (by decide +kernel)
set_option maxRecDepth 20000 in
theorem gX2_weighUp_X2_priceWithOneMore : GoodIn wsX2_weighUp (wsV RX2 28 RX2 yX2_priceWithOneMore wsX2_priceWithOneMore) := goodIn_app (goodIn_of _ (by decide +kernel)) ggX2_weighUp_X2_priceWithOneMore
theorem dX2_weighUp_0 : decode cX2_weighUp 0 = .ok (.iconst 0, 1) := by decide +kernel
theorem dX2_weighUp_1 : decode cX2_weighUp 1 = .ok (.istore_n 1, 1) := by decide +kernel
theorem dX2_weighUp_2 : decode cX2_weighUp 2 = .ok (.iload_n 1, 1) := by decide +kernel
theorem dX2_weighUp_3 : decode cX2_weighUp 3 = .ok (.sipush 144, 3) := by decide +kernel
theorem dX2_weighUp_6 : decode cX2_weighUp 6 = .ok (.if_icmp .ge 30, 3) := by decide +kernel
theorem dX2_weighUp_9 : decode cX2_weighUp 9 = .ok (.aload_n 0, 1) := by decide +kernel
theorem dX2_weighUp_10 : decode cX2_weighUp 10 = .ok (.getfield 24, 3) := by decide +kernel
theorem dX2_weighUp_13 : decode cX2_weighUp 13 = .ok (.aload_n 0, 1) := by decide +kernel
theorem dX2_weighUp_14 : decode cX2_weighUp 14 = .ok (.getfield 18, 3) := by decide +kernel
theorem dX2_weighUp_17 : decode cX2_weighUp 17 = .ok (.aaload, 1) := by decide +kernel
theorem dX2_weighUp_18 : decode cX2_weighUp 18 = .ok (.iload_n 1, 1) := by decide +kernel
theorem dX2_weighUp_19 : decode cX2_weighUp 19 = .ok (.iload_n 1, 1) := by decide +kernel
theorem dX2_weighUp_20 : decode cX2_weighUp 20 = .ok (.ifCond .ne 7, 3) := by decide +kernel
theorem dX2_weighUp_23 : decode cX2_weighUp 23 = .ok (.iconst 0, 1) := by decide +kernel
theorem dX2_weighUp_24 : decode cX2_weighUp 24 = .ok (.goto 5, 3) := by decide +kernel
theorem dX2_weighUp_27 : decode cX2_weighUp 27 = .ok (.ldc 27, 2) := by decide +kernel
theorem dX2_weighUp_29 : decode cX2_weighUp 29 = .ok (.iastore, 1) := by decide +kernel
theorem dX2_weighUp_30 : decode cX2_weighUp 30 = .ok (.iinc 1 1, 3) := by decide +kernel
theorem dX2_weighUp_33 : decode cX2_weighUp 33 = .ok (.goto (-31), 3) := by decide +kernel
theorem dX2_weighUp_36 : decode cX2_weighUp 36 = .ok (.aload_n 0, 1) := by decide +kernel
theorem dX2_weighUp_37 : decode cX2_weighUp 37 = .ok (.getfield 18, 3) := by decide +kernel
theorem dX2_weighUp_40 : decode cX2_weighUp 40 = .ok (.iconst 1, 1) := by decide +kernel
theorem dX2_weighUp_41 : decode cX2_weighUp 41 = .ok (.isub, 1) := by decide +kernel
theorem dX2_weighUp_42 : decode cX2_weighUp 42 = .ok (.istore_n 1, 1) := by decide +kernel
theorem dX2_weighUp_43 : decode cX2_weighUp 43 = .ok (.iload_n 1, 1) := by decide +kernel
theorem dX2_weighUp_44 : decode cX2_weighUp 44 = .ok (.ifCond .lt 51, 3) := by decide +kernel
theorem dX2_weighUp_47 : decode cX2_weighUp 47 = .ok (.iconst 0, 1) := by decide +kernel
theorem dX2_weighUp_48 : decode cX2_weighUp 48 = .ok (.istore_n 2, 1) := by decide +kernel
theorem dX2_weighUp_49 : decode cX2_weighUp 49 = .ok (.iload_n 2, 1) := by decide +kernel
theorem dX2_weighUp_50 : decode cX2_weighUp 50 = .ok (.sipush 144, 3) := by decide +kernel
theorem dX2_weighUp_53 : decode cX2_weighUp 53 = .ok (.if_icmp .ge 36, 3) := by decide +kernel
theorem dX2_weighUp_56 : decode cX2_weighUp 56 = .ok (.aload_n 0, 1) := by decide +kernel
theorem dX2_weighUp_57 : decode cX2_weighUp 57 = .ok (.getfield 24, 3) := by decide +kernel
theorem dX2_weighUp_60 : decode cX2_weighUp 60 = .ok (.iload_n 1, 1) := by decide +kernel
theorem dX2_weighUp_61 : decode cX2_weighUp 61 = .ok (.aaload, 1) := by decide +kernel
theorem dX2_weighUp_62 : decode cX2_weighUp 62 = .ok (.iload_n 2, 1) := by decide +kernel
theorem dX2_weighUp_63 : decode cX2_weighUp 63 = .ok (.aload_n 0, 1) := by decide +kernel
theorem dX2_weighUp_64 : decode cX2_weighUp 64 = .ok (.getfield 24, 3) := by decide +kernel
theorem dX2_weighUp_67 : decode cX2_weighUp 67 = .ok (.iload_n 1, 1) := by decide +kernel
theorem dX2_weighUp_68 : decode cX2_weighUp 68 = .ok (.iconst 1, 1) := by decide +kernel
theorem dX2_weighUp_69 : decode cX2_weighUp 69 = .ok (.iadd, 1) := by decide +kernel
theorem dX2_weighUp_70 : decode cX2_weighUp 70 = .ok (.aaload, 1) := by decide +kernel
theorem dX2_weighUp_71 : decode cX2_weighUp 71 = .ok (.iload_n 2, 1) := by decide +kernel
theorem dX2_weighUp_72 : decode cX2_weighUp 72 = .ok (.iaload, 1) := by decide +kernel
theorem dX2_weighUp_73 : decode cX2_weighUp 73 = .ok (.aload_n 0, 1) := by decide +kernel
theorem dX2_weighUp_74 : decode cX2_weighUp 74 = .ok (.iload_n 1, 1) := by decide +kernel
theorem dX2_weighUp_75 : decode cX2_weighUp 75 = .ok (.iload_n 2, 1) := by decide +kernel
theorem dX2_weighUp_76 : decode cX2_weighUp 76 = .ok (.invokevirtual 28, 3) := by decide +kernel
theorem dX2_weighUp_79 : decode cX2_weighUp 79 = .ok (.invokestatic 32, 3) := by decide +kernel
theorem dX2_weighUp_82 : decode cX2_weighUp 82 = .ok (.iastore, 1) := by decide +kernel
theorem dX2_weighUp_83 : decode cX2_weighUp 83 = .ok (.iinc 2 1, 3) := by decide +kernel
theorem dX2_weighUp_86 : decode cX2_weighUp 86 = .ok (.goto (-37), 3) := by decide +kernel
theorem dX2_weighUp_89 : decode cX2_weighUp 89 = .ok (.iinc 1 (-1), 3) := by decide +kernel
theorem dX2_weighUp_92 : decode cX2_weighUp 92 = .ok (.goto (-49), 3) := by decide +kernel
theorem dX2_weighUp_95 : decode cX2_weighUp 95 = .ok (.return_, 1) := by decide +kernel
theorem dX2_priceWithOneMore_0 : decode cX2_priceWithOneMore 0 = .ok (.iload_n 2, 1) := by decide +kernel
theorem dX2_priceWithOneMore_1 : decode cX2_priceWithOneMore 1 = .ok (.aload_n 0, 1) := by decide +kernel
theorem dX2_priceWithOneMore_2 : decode cX2_priceWithOneMore 2 = .ok (.getfield 11, 3) := by decide +kernel
theorem dX2_priceWithOneMore_5 : decode cX2_priceWithOneMore 5 = .ok (.iload_n 1, 1) := by decide +kernel
theorem dX2_priceWithOneMore_6 : decode cX2_priceWithOneMore 6 = .ok (.iaload, 1) := by decide +kernel
theorem dX2_priceWithOneMore_7 : decode cX2_priceWithOneMore 7 = .ok (.if_icmp .ge 8, 3) := by decide +kernel
theorem dX2_priceWithOneMore_10 : decode cX2_priceWithOneMore 10 = .ok (.ldc 27, 2) := by decide +kernel
theorem dX2_priceWithOneMore_12 : decode cX2_priceWithOneMore 12 = .ok (.goto 25, 3) := by decide +kernel
theorem dX2_priceWithOneMore_15 : decode cX2_priceWithOneMore 15 = .ok (.aload_n 0, 1) := by decide +kernel
theorem dX2_priceWithOneMore_16 : decode cX2_priceWithOneMore 16 = .ok (.getfield 24, 3) := by decide +kernel
theorem dX2_priceWithOneMore_19 : decode cX2_priceWithOneMore 19 = .ok (.iload_n 1, 1) := by decide +kernel
theorem dX2_priceWithOneMore_20 : decode cX2_priceWithOneMore 20 = .ok (.aaload, 1) := by decide +kernel
theorem dX2_priceWithOneMore_21 : decode cX2_priceWithOneMore 21 = .ok (.iload_n 2, 1) := by decide +kernel
theorem dX2_priceWithOneMore_22 : decode cX2_priceWithOneMore 22 = .ok (.aload_n 0, 1) := by decide +kernel
theorem dX2_priceWithOneMore_23 : decode cX2_priceWithOneMore 23 = .ok (.getfield 11, 3) := by decide +kernel
theorem dX2_priceWithOneMore_26 : decode cX2_priceWithOneMore 26 = .ok (.iload_n 1, 1) := by decide +kernel
theorem dX2_priceWithOneMore_27 : decode cX2_priceWithOneMore 27 = .ok (.iaload, 1) := by decide +kernel
theorem dX2_priceWithOneMore_28 : decode cX2_priceWithOneMore 28 = .ok (.isub, 1) := by decide +kernel
theorem dX2_priceWithOneMore_29 : decode cX2_priceWithOneMore 29 = .ok (.iaload, 1) := by decide +kernel
theorem dX2_priceWithOneMore_30 : decode cX2_priceWithOneMore 30 = .ok (.aload_n 0, 1) := by decide +kernel
theorem dX2_priceWithOneMore_31 : decode cX2_priceWithOneMore 31 = .ok (.getfield 15, 3) := by decide +kernel
theorem dX2_priceWithOneMore_34 : decode cX2_priceWithOneMore 34 = .ok (.iload_n 1, 1) := by decide +kernel
theorem dX2_priceWithOneMore_35 : decode cX2_priceWithOneMore 35 = .ok (.iaload, 1) := by decide +kernel
theorem dX2_priceWithOneMore_36 : decode cX2_priceWithOneMore 36 = .ok (.iadd, 1) := by decide +kernel
theorem dX2_priceWithOneMore_37 : decode cX2_priceWithOneMore 37 = .ok (.ireturn, 1) := by decide +kernel
theorem dX2_leastFor_0 : decode cX2_leastFor 0 = .ok (.aload_n 0, 1) := by decide +kernel
theorem dX2_leastFor_1 : decode cX2_leastFor 1 = .ok (.getfield 24, 3) := by decide +kernel
theorem dX2_leastFor_4 : decode cX2_leastFor 4 = .ok (.iconst 0, 1) := by decide +kernel
theorem dX2_leastFor_5 : decode cX2_leastFor 5 = .ok (.aaload, 1) := by decide +kernel
theorem dX2_leastFor_6 : decode cX2_leastFor 6 = .ok (.iload_n 1, 1) := by decide +kernel
theorem dX2_leastFor_7 : decode cX2_leastFor 7 = .ok (.iaload, 1) := by decide +kernel
theorem dX2_leastFor_8 : decode cX2_leastFor 8 = .ok (.ireturn, 1) := by decide +kernel
theorem dX2_bestBottles_0 : decode cX2_bestBottles 0 = .ok (.iload_n 1, 1) := by decide +kernel
theorem dX2_bestBottles_1 : decode cX2_bestBottles 1 = .ok (.istore_n 2, 1) := by decide +kernel
theorem dX2_bestBottles_2 : decode cX2_bestBottles 2 = .ok (.iload_n 1, 1) := by decide +kernel
theorem dX2_bestBottles_3 : decode cX2_bestBottles 3 = .ok (.iconst 1, 1) := by decide +kernel
theorem dX2_bestBottles_4 : decode cX2_bestBottles 4 = .ok (.iadd, 1) := by decide +kernel
theorem dX2_bestBottles_5 : decode cX2_bestBottles 5 = .ok (.istore_n 3, 1) := by decide +kernel
theorem dX2_bestBottles_6 : decode cX2_bestBottles 6 = .ok (.iload_n 3, 1) := by decide +kernel
theorem dX2_bestBottles_7 : decode cX2_bestBottles 7 = .ok (.sipush 144, 3) := by decide +kernel
theorem dX2_bestBottles_10 : decode cX2_bestBottles 10 = .ok (.if_icmp .ge 30, 3) := by decide +kernel
theorem dX2_bestBottles_13 : decode cX2_bestBottles 13 = .ok (.aload_n 0, 1) := by decide +kernel
theorem dX2_bestBottles_14 : decode cX2_bestBottles 14 = .ok (.getfield 24, 3) := by decide +kernel
theorem dX2_bestBottles_17 : decode cX2_bestBottles 17 = .ok (.iconst 0, 1) := by decide +kernel
theorem dX2_bestBottles_18 : decode cX2_bestBottles 18 = .ok (.aaload, 1) := by decide +kernel
theorem dX2_bestBottles_19 : decode cX2_bestBottles 19 = .ok (.iload_n 3, 1) := by decide +kernel
theorem dX2_bestBottles_20 : decode cX2_bestBottles 20 = .ok (.iaload, 1) := by decide +kernel
theorem dX2_bestBottles_21 : decode cX2_bestBottles 21 = .ok (.aload_n 0, 1) := by decide +kernel
theorem dX2_bestBottles_22 : decode cX2_bestBottles 22 = .ok (.getfield 24, 3) := by decide +kernel
theorem dX2_bestBottles_25 : decode cX2_bestBottles 25 = .ok (.iconst 0, 1) := by decide +kernel
theorem dX2_bestBottles_26 : decode cX2_bestBottles 26 = .ok (.aaload, 1) := by decide +kernel
theorem dX2_bestBottles_27 : decode cX2_bestBottles 27 = .ok (.iload_n 2, 1) := by decide +kernel
theorem dX2_bestBottles_28 : decode cX2_bestBottles 28 = .ok (.iaload, 1) := by decide +kernel
theorem dX2_bestBottles_29 : decode cX2_bestBottles 29 = .ok (.if_icmp .ge 5, 3) := by decide +kernel
theorem dX2_bestBottles_32 : decode cX2_bestBottles 32 = .ok (.iload_n 3, 1) := by decide +kernel
theorem dX2_bestBottles_33 : decode cX2_bestBottles 33 = .ok (.istore_n 2, 1) := by decide +kernel
theorem dX2_bestBottles_34 : decode cX2_bestBottles 34 = .ok (.iinc 3 1, 3) := by decide +kernel
theorem dX2_bestBottles_37 : decode cX2_bestBottles 37 = .ok (.goto (-31), 3) := by decide +kernel
theorem dX2_bestBottles_40 : decode cX2_bestBottles 40 = .ok (.iload_n 2, 1) := by decide +kernel
theorem dX2_bestBottles_41 : decode cX2_bestBottles 41 = .ok (.ireturn, 1) := by decide +kernel
set_option maxRecDepth 20000 in
theorem ggX2_timesOf_X2_mostTimes : GoodIn wsX2_timesOf wsX2_mostTimes := goodIn_r _ [6, 1, 7, 8, 9, 10, 5, 11, 12, 13, 14, 15, 16, 17] (by decide +kernel) (by decide +kernel)
set_option maxRecDepth 20000 in
theorem gX2_timesOf_X2_mostTimes : GoodIn wsX2_timesOf (wsV RX2 37 RX2 yX2_mostTimes wsX2_mostTimes) := goodIn_app (goodIn_of _ (by decide +kernel)) ggX2_timesOf_X2_mostTimes
theorem dX2_timesOf_0 : decode cX2_timesOf 0 = .ok (.iload_n 2, 1) := by decide +kernel
theorem dX2_timesOf_1 : decode cX2_timesOf 1 = .ok (.istore_n 3, 1) := by decide +kernel
theorem dX2_timesOf_2 : decode cX2_timesOf 2 = .ok (.iconst 0, 1) := by decide +kernel
theorem dX2_timesOf_3 : decode cX2_timesOf 3 = .ok (.istore 4, 2) := by decide +kernel
theorem dX2_timesOf_5 : decode cX2_timesOf 5 = .ok (.iconst 0, 1) := by decide +kernel
theorem dX2_timesOf_6 : decode cX2_timesOf 6 = .ok (.istore 5, 2) := by decide +kernel
theorem dX2_timesOf_8 : decode cX2_timesOf 8 = .ok (.iload 5, 2) := by decide +kernel
theorem dX2_timesOf_10 : decode cX2_timesOf 10 = .ok (.iload_n 1, 1) := by decide +kernel
theorem dX2_timesOf_11 : decode cX2_timesOf 11 = .ok (.if_icmp .gt 31, 3) := by decide +kernel
theorem dX2_timesOf_14 : decode cX2_timesOf 14 = .ok (.aload_n 0, 1) := by decide +kernel
theorem dX2_timesOf_15 : decode cX2_timesOf 15 = .ok (.iload 5, 2) := by decide +kernel
theorem dX2_timesOf_17 : decode cX2_timesOf 17 = .ok (.iload_n 3, 1) := by decide +kernel
theorem dX2_timesOf_18 : decode cX2_timesOf 18 = .ok (.invokevirtual 37, 3) := by decide +kernel
theorem dX2_timesOf_21 : decode cX2_timesOf 21 = .ok (.istore 4, 2) := by decide +kernel
theorem dX2_timesOf_23 : decode cX2_timesOf 23 = .ok (.iload_n 3, 1) := by decide +kernel
theorem dX2_timesOf_24 : decode cX2_timesOf 24 = .ok (.iload 4, 2) := by decide +kernel
theorem dX2_timesOf_26 : decode cX2_timesOf 26 = .ok (.aload_n 0, 1) := by decide +kernel
theorem dX2_timesOf_27 : decode cX2_timesOf 27 = .ok (.getfield 11, 3) := by decide +kernel
theorem dX2_timesOf_30 : decode cX2_timesOf 30 = .ok (.iload 5, 2) := by decide +kernel
theorem dX2_timesOf_32 : decode cX2_timesOf 32 = .ok (.iaload, 1) := by decide +kernel
theorem dX2_timesOf_33 : decode cX2_timesOf 33 = .ok (.imul, 1) := by decide +kernel
theorem dX2_timesOf_34 : decode cX2_timesOf 34 = .ok (.isub, 1) := by decide +kernel
theorem dX2_timesOf_35 : decode cX2_timesOf 35 = .ok (.istore_n 3, 1) := by decide +kernel
theorem dX2_timesOf_36 : decode cX2_timesOf 36 = .ok (.iinc 5 1, 3) := by decide +kernel
theorem dX2_timesOf_39 : decode cX2_timesOf 39 = .ok (.goto (-31), 3) := by decide +kernel
theorem dX2_timesOf_42 : decode cX2_timesOf 42 = .ok (.iload 4, 2) := by decide +kernel
theorem dX2_timesOf_44 : decode cX2_timesOf 44 = .ok (.ireturn, 1) := by decide +kernel
set_option maxRecDepth 20000 in
theorem ggX2_mostTimes_X2_priceWithOneMore : GoodIn wsX2_mostTimes wsX2_priceWithOneMore := goodIn_r _ [7, 1, 8, 2, 9, 10, 11, 12, 13] (by decide +kernel) (by decide +kernel)
set_option maxRecDepth 20000 in
theorem gX2_mostTimes_X2_priceWithOneMore : GoodIn wsX2_mostTimes (wsV RX2 28 RX2 yX2_priceWithOneMore wsX2_priceWithOneMore) := goodIn_app (goodIn_of _ (by decide +kernel)) ggX2_mostTimes_X2_priceWithOneMore
theorem dX2_mostTimes_0 : decode cX2_mostTimes 0 = .ok (.iload_n 2, 1) := by decide +kernel
theorem dX2_mostTimes_1 : decode cX2_mostTimes 1 = .ok (.istore_n 3, 1) := by decide +kernel
theorem dX2_mostTimes_2 : decode cX2_mostTimes 2 = .ok (.iconst 0, 1) := by decide +kernel
theorem dX2_mostTimes_3 : decode cX2_mostTimes 3 = .ok (.istore 4, 2) := by decide +kernel
theorem dX2_mostTimes_5 : decode cX2_mostTimes 5 = .ok (.iload 4, 2) := by decide +kernel
theorem dX2_mostTimes_7 : decode cX2_mostTimes 7 = .ok (.sipush 144, 3) := by decide +kernel
theorem dX2_mostTimes_10 : decode cX2_mostTimes 10 = .ok (.if_icmp .ge 45, 3) := by decide +kernel
theorem dX2_mostTimes_13 : decode cX2_mostTimes 13 = .ok (.iload_n 3, 1) := by decide +kernel
theorem dX2_mostTimes_14 : decode cX2_mostTimes 14 = .ok (.aload_n 0, 1) := by decide +kernel
theorem dX2_mostTimes_15 : decode cX2_mostTimes 15 = .ok (.getfield 11, 3) := by decide +kernel
theorem dX2_mostTimes_18 : decode cX2_mostTimes 18 = .ok (.iload_n 1, 1) := by decide +kernel
theorem dX2_mostTimes_19 : decode cX2_mostTimes 19 = .ok (.iaload, 1) := by decide +kernel
theorem dX2_mostTimes_20 : decode cX2_mostTimes 20 = .ok (.if_icmp .lt 35, 3) := by decide +kernel
theorem dX2_mostTimes_23 : decode cX2_mostTimes 23 = .ok (.aload_n 0, 1) := by decide +kernel
theorem dX2_mostTimes_24 : decode cX2_mostTimes 24 = .ok (.iload_n 1, 1) := by decide +kernel
theorem dX2_mostTimes_25 : decode cX2_mostTimes 25 = .ok (.iload_n 3, 1) := by decide +kernel
theorem dX2_mostTimes_26 : decode cX2_mostTimes 26 = .ok (.invokevirtual 28, 3) := by decide +kernel
theorem dX2_mostTimes_29 : decode cX2_mostTimes 29 = .ok (.aload_n 0, 1) := by decide +kernel
theorem dX2_mostTimes_30 : decode cX2_mostTimes 30 = .ok (.getfield 24, 3) := by decide +kernel
theorem dX2_mostTimes_33 : decode cX2_mostTimes 33 = .ok (.iload_n 1, 1) := by decide +kernel
theorem dX2_mostTimes_34 : decode cX2_mostTimes 34 = .ok (.aaload, 1) := by decide +kernel
theorem dX2_mostTimes_35 : decode cX2_mostTimes 35 = .ok (.iload_n 3, 1) := by decide +kernel
theorem dX2_mostTimes_36 : decode cX2_mostTimes 36 = .ok (.iaload, 1) := by decide +kernel
theorem dX2_mostTimes_37 : decode cX2_mostTimes 37 = .ok (.if_icmp .ne 18, 3) := by decide +kernel
theorem dX2_mostTimes_40 : decode cX2_mostTimes 40 = .ok (.iload_n 3, 1) := by decide +kernel
theorem dX2_mostTimes_41 : decode cX2_mostTimes 41 = .ok (.aload_n 0, 1) := by decide +kernel
theorem dX2_mostTimes_42 : decode cX2_mostTimes 42 = .ok (.getfield 11, 3) := by decide +kernel
theorem dX2_mostTimes_45 : decode cX2_mostTimes 45 = .ok (.iload_n 1, 1) := by decide +kernel
theorem dX2_mostTimes_46 : decode cX2_mostTimes 46 = .ok (.iaload, 1) := by decide +kernel
theorem dX2_mostTimes_47 : decode cX2_mostTimes 47 = .ok (.isub, 1) := by decide +kernel
theorem dX2_mostTimes_48 : decode cX2_mostTimes 48 = .ok (.istore_n 3, 1) := by decide +kernel
theorem dX2_mostTimes_49 : decode cX2_mostTimes 49 = .ok (.iinc 4 1, 3) := by decide +kernel
theorem dX2_mostTimes_52 : decode cX2_mostTimes 52 = .ok (.goto (-47), 3) := by decide +kernel
theorem dX2_mostTimes_55 : decode cX2_mostTimes 55 = .ok (.iload 4, 2) := by decide +kernel
theorem dX2_mostTimes_57 : decode cX2_mostTimes 57 = .ok (.ireturn, 1) := by decide +kernel
theorem dX3_init_0 : decode cX3_init 0 = .ok (.aload_n 0, 1) := by decide +kernel
theorem dX3_init_1 : decode cX3_init 1 = .ok (.invokespecial 3, 3) := by decide +kernel
theorem dX3_init_4 : decode cX3_init 4 = .ok (.aload_n 0, 1) := by decide +kernel
theorem dX3_init_5 : decode cX3_init 5 = .ok (.bipush 8, 2) := by decide +kernel
theorem dX3_init_7 : decode cX3_init 7 = .ok (.newarray .int, 2) := by decide +kernel
theorem dX3_init_9 : decode cX3_init 9 = .ok (.putfield 9, 3) := by decide +kernel
theorem dX3_init_12 : decode cX3_init 12 = .ok (.aload_n 0, 1) := by decide +kernel
theorem dX3_init_13 : decode cX3_init 13 = .ok (.bipush 8, 2) := by decide +kernel
theorem dX3_init_15 : decode cX3_init 15 = .ok (.newarray .int, 2) := by decide +kernel
theorem dX3_init_17 : decode cX3_init 17 = .ok (.putfield 15, 3) := by decide +kernel
theorem dX3_init_20 : decode cX3_init 20 = .ok (.aload_n 0, 1) := by decide +kernel
theorem dX3_init_21 : decode cX3_init 21 = .ok (.iconst 0, 1) := by decide +kernel
theorem dX3_init_22 : decode cX3_init 22 = .ok (.putfield 18, 3) := by decide +kernel
theorem dX3_init_25 : decode cX3_init 25 = .ok (.return_, 1) := by decide +kernel
theorem dX3_add_0 : decode cX3_add 0 = .ok (.aload_n 0, 1) := by decide +kernel
theorem dX3_add_1 : decode cX3_add 1 = .ok (.getfield 9, 3) := by decide +kernel
theorem dX3_add_4 : decode cX3_add 4 = .ok (.aload_n 0, 1) := by decide +kernel
theorem dX3_add_5 : decode cX3_add 5 = .ok (.getfield 18, 3) := by decide +kernel
theorem dX3_add_8 : decode cX3_add 8 = .ok (.iload_n 1, 1) := by decide +kernel
theorem dX3_add_9 : decode cX3_add 9 = .ok (.iastore, 1) := by decide +kernel
theorem dX3_add_10 : decode cX3_add 10 = .ok (.aload_n 0, 1) := by decide +kernel
theorem dX3_add_11 : decode cX3_add 11 = .ok (.getfield 15, 3) := by decide +kernel
theorem dX3_add_14 : decode cX3_add 14 = .ok (.aload_n 0, 1) := by decide +kernel
theorem dX3_add_15 : decode cX3_add 15 = .ok (.getfield 18, 3) := by decide +kernel
theorem dX3_add_18 : decode cX3_add 18 = .ok (.iload_n 2, 1) := by decide +kernel
theorem dX3_add_19 : decode cX3_add 19 = .ok (.iastore, 1) := by decide +kernel
theorem dX3_add_20 : decode cX3_add 20 = .ok (.aload_n 0, 1) := by decide +kernel
theorem dX3_add_21 : decode cX3_add 21 = .ok (.dup, 1) := by decide +kernel
theorem dX3_add_22 : decode cX3_add 22 = .ok (.getfield 18, 3) := by decide +kernel
theorem dX3_add_25 : decode cX3_add 25 = .ok (.iconst 1, 1) := by decide +kernel
theorem dX3_add_26 : decode cX3_add 26 = .ok (.iadd, 1) := by decide +kernel
theorem dX3_add_27 : decode cX3_add 27 = .ok (.putfield 18, 3) := by decide +kernel
theorem dX3_add_30 : decode cX3_add 30 = .ok (.return_, 1) := by decide +kernel
theorem dX3_costOf_0 : decode cX3_costOf 0 = .ok (.iconst 0, 1) := by decide +kernel
theorem dX3_costOf_1 : decode cX3_costOf 1 = .ok (.istore 4, 2) := by decide +kernel
theorem dX3_costOf_3 : decode cX3_costOf 3 = .ok (.iconst 0, 1) := by decide +kernel
theorem dX3_costOf_4 : decode cX3_costOf 4 = .ok (.istore 5, 2) := by decide +kernel
theorem dX3_costOf_6 : decode cX3_costOf 6 = .ok (.iload 5, 2) := by decide +kernel
theorem dX3_costOf_8 : decode cX3_costOf 8 = .ok (.aload_n 0, 1) := by decide +kernel
theorem dX3_costOf_9 : decode cX3_costOf 9 = .ok (.getfield 18, 3) := by decide +kernel
theorem dX3_costOf_12 : decode cX3_costOf 12 = .ok (.if_icmp .ge 61, 3) := by decide +kernel
theorem dX3_costOf_15 : decode cX3_costOf 15 = .ok (.iconst 0, 1) := by decide +kernel
theorem dX3_costOf_16 : decode cX3_costOf 16 = .ok (.iload_n 1, 1) := by decide +kernel
theorem dX3_costOf_17 : decode cX3_costOf 17 = .ok (.aload_n 0, 1) := by decide +kernel
theorem dX3_costOf_18 : decode cX3_costOf 18 = .ok (.getfield 9, 3) := by decide +kernel
theorem dX3_costOf_21 : decode cX3_costOf 21 = .ok (.iload 5, 2) := by decide +kernel
theorem dX3_costOf_23 : decode cX3_costOf 23 = .ok (.iaload, 1) := by decide +kernel
theorem dX3_costOf_24 : decode cX3_costOf 24 = .ok (.isub, 1) := by decide +kernel
theorem dX3_costOf_25 : decode cX3_costOf 25 = .ok (.invokestatic 22, 3) := by decide +kernel
theorem dX3_costOf_28 : decode cX3_costOf 28 = .ok (.istore 6, 2) := by decide +kernel
theorem dX3_costOf_30 : decode cX3_costOf 30 = .ok (.iconst 0, 1) := by decide +kernel
theorem dX3_costOf_31 : decode cX3_costOf 31 = .ok (.aload_n 0, 1) := by decide +kernel
theorem dX3_costOf_32 : decode cX3_costOf 32 = .ok (.getfield 9, 3) := by decide +kernel
theorem dX3_costOf_35 : decode cX3_costOf 35 = .ok (.iload 5, 2) := by decide +kernel
theorem dX3_costOf_37 : decode cX3_costOf 37 = .ok (.iaload, 1) := by decide +kernel
theorem dX3_costOf_38 : decode cX3_costOf 38 = .ok (.iload_n 1, 1) := by decide +kernel
theorem dX3_costOf_39 : decode cX3_costOf 39 = .ok (.isub, 1) := by decide +kernel
theorem dX3_costOf_40 : decode cX3_costOf 40 = .ok (.invokestatic 22, 3) := by decide +kernel
theorem dX3_costOf_43 : decode cX3_costOf 43 = .ok (.istore 7, 2) := by decide +kernel
theorem dX3_costOf_45 : decode cX3_costOf 45 = .ok (.iload 4, 2) := by decide +kernel
theorem dX3_costOf_47 : decode cX3_costOf 47 = .ok (.aload_n 0, 1) := by decide +kernel
theorem dX3_costOf_48 : decode cX3_costOf 48 = .ok (.getfield 15, 3) := by decide +kernel
theorem dX3_costOf_51 : decode cX3_costOf 51 = .ok (.iload 5, 2) := by decide +kernel
theorem dX3_costOf_53 : decode cX3_costOf 53 = .ok (.iaload, 1) := by decide +kernel
theorem dX3_costOf_54 : decode cX3_costOf 54 = .ok (.iload_n 2, 1) := by decide +kernel
theorem dX3_costOf_55 : decode cX3_costOf 55 = .ok (.iload 6, 2) := by decide +kernel
theorem dX3_costOf_57 : decode cX3_costOf 57 = .ok (.imul, 1) := by decide +kernel
theorem dX3_costOf_58 : decode cX3_costOf 58 = .ok (.iload_n 3, 1) := by decide +kernel
theorem dX3_costOf_59 : decode cX3_costOf 59 = .ok (.iload 7, 2) := by decide +kernel
theorem dX3_costOf_61 : decode cX3_costOf 61 = .ok (.imul, 1) := by decide +kernel
theorem dX3_costOf_62 : decode cX3_costOf 62 = .ok (.iadd, 1) := by decide +kernel
theorem dX3_costOf_63 : decode cX3_costOf 63 = .ok (.imul, 1) := by decide +kernel
theorem dX3_costOf_64 : decode cX3_costOf 64 = .ok (.iadd, 1) := by decide +kernel
theorem dX3_costOf_65 : decode cX3_costOf 65 = .ok (.istore 4, 2) := by decide +kernel
theorem dX3_costOf_67 : decode cX3_costOf 67 = .ok (.iinc 5 1, 3) := by decide +kernel
theorem dX3_costOf_70 : decode cX3_costOf 70 = .ok (.goto (-64), 3) := by decide +kernel
theorem dX3_costOf_73 : decode cX3_costOf 73 = .ok (.iload 4, 2) := by decide +kernel
theorem dX3_costOf_75 : decode cX3_costOf 75 = .ok (.ireturn, 1) := by decide +kernel
set_option maxRecDepth 20000 in
theorem ggX3_par_X3_costOf : GoodIn wsX3_par wsX3_costOf := goodIn_r _ [5, 6, 7, 8, 9, 10, 11, 12, 13, 14, 15] (by decide +kernel) (by decide +kernel)
set_option maxRecDepth 20000 in
theorem gX3_par_X3_costOf : GoodIn wsX3_par (wsV RX3 28 RX3 yX3_costOf wsX3_costOf) := goodIn_app (goodIn_of _ (by decide +kernel)) ggX3_par_X3_costOf
theorem dX3_par_0 : decode cX3_par 0 = .ok (.iconst 0, 1) := by decide +kernel
theorem dX3_par_1 : decode cX3_par 1 = .ok (.istore_n 3, 1) := by decide +kernel
theorem dX3_par_2 : decode cX3_par 2 = .ok (.aload_n 0, 1) := by decide +kernel
theorem dX3_par_3 : decode cX3_par 3 = .ok (.iconst 0, 1) := by decide +kernel
theorem dX3_par_4 : decode cX3_par 4 = .ok (.iload_n 1, 1) := by decide +kernel
theorem dX3_par_5 : decode cX3_par 5 = .ok (.iload_n 2, 1) := by decide +kernel
theorem dX3_par_6 : decode cX3_par 6 = .ok (.invokevirtual 28, 3) := by decide +kernel
theorem dX3_par_9 : decode cX3_par 9 = .ok (.istore 4, 2) := by decide +kernel
theorem dX3_par_11 : decode cX3_par 11 = .ok (.iconst 1, 1) := by decide +kernel
theorem dX3_par_12 : decode cX3_par 12 = .ok (.istore 5, 2) := by decide +kernel
theorem dX3_par_14 : decode cX3_par 14 = .ok (.iload 5, 2) := by decide +kernel
theorem dX3_par_16 : decode cX3_par 16 = .ok (.sipush 200, 3) := by decide +kernel
theorem dX3_par_19 : decode cX3_par 19 = .ok (.if_icmp .gt 33, 3) := by decide +kernel
theorem dX3_par_22 : decode cX3_par 22 = .ok (.aload_n 0, 1) := by decide +kernel
theorem dX3_par_23 : decode cX3_par 23 = .ok (.iload 5, 2) := by decide +kernel
theorem dX3_par_25 : decode cX3_par 25 = .ok (.iload_n 1, 1) := by decide +kernel
theorem dX3_par_26 : decode cX3_par 26 = .ok (.iload_n 2, 1) := by decide +kernel
theorem dX3_par_27 : decode cX3_par 27 = .ok (.invokevirtual 28, 3) := by decide +kernel
theorem dX3_par_30 : decode cX3_par 30 = .ok (.istore 6, 2) := by decide +kernel
theorem dX3_par_32 : decode cX3_par 32 = .ok (.iload 6, 2) := by decide +kernel
theorem dX3_par_34 : decode cX3_par 34 = .ok (.iload 4, 2) := by decide +kernel
theorem dX3_par_36 : decode cX3_par 36 = .ok (.if_icmp .ge 10, 3) := by decide +kernel
theorem dX3_par_39 : decode cX3_par 39 = .ok (.iload 5, 2) := by decide +kernel
theorem dX3_par_41 : decode cX3_par 41 = .ok (.istore_n 3, 1) := by decide +kernel
theorem dX3_par_42 : decode cX3_par 42 = .ok (.iload 6, 2) := by decide +kernel
theorem dX3_par_44 : decode cX3_par 44 = .ok (.istore 4, 2) := by decide +kernel
theorem dX3_par_46 : decode cX3_par 46 = .ok (.iinc 5 1, 3) := by decide +kernel
theorem dX3_par_49 : decode cX3_par 49 = .ok (.goto (-35), 3) := by decide +kernel
theorem dX3_par_52 : decode cX3_par 52 = .ok (.iload_n 3, 1) := by decide +kernel
theorem dX3_par_53 : decode cX3_par 53 = .ok (.ireturn, 1) := by decide +kernel
theorem dX4_init_0 : decode cX4_init 0 = .ok (.aload_n 0, 1) := by decide +kernel
theorem dX4_init_1 : decode cX4_init 1 = .ok (.invokespecial 3, 3) := by decide +kernel
theorem dX4_init_4 : decode cX4_init 4 = .ok (.aload_n 0, 1) := by decide +kernel
theorem dX4_init_5 : decode cX4_init 5 = .ok (.iconst 0, 1) := by decide +kernel
theorem dX4_init_6 : decode cX4_init 6 = .ok (.putfield 9, 3) := by decide +kernel
theorem dX4_init_9 : decode cX4_init 9 = .ok (.aload_n 0, 1) := by decide +kernel
theorem dX4_init_10 : decode cX4_init 10 = .ok (.iconst 0, 1) := by decide +kernel
theorem dX4_init_11 : decode cX4_init 11 = .ok (.putfield 15, 3) := by decide +kernel
theorem dX4_init_14 : decode cX4_init 14 = .ok (.aload_n 0, 1) := by decide +kernel
theorem dX4_init_15 : decode cX4_init 15 = .ok (.iconst 1, 1) := by decide +kernel
theorem dX4_init_16 : decode cX4_init 16 = .ok (.putfield 18, 3) := by decide +kernel
theorem dX4_init_19 : decode cX4_init 19 = .ok (.aload_n 0, 1) := by decide +kernel
theorem dX4_init_20 : decode cX4_init 20 = .ok (.iconst 0, 1) := by decide +kernel
theorem dX4_init_21 : decode cX4_init 21 = .ok (.putfield 21, 3) := by decide +kernel
theorem dX4_init_24 : decode cX4_init 24 = .ok (.aload_n 0, 1) := by decide +kernel
theorem dX4_init_25 : decode cX4_init 25 = .ok (.iconst 0, 1) := by decide +kernel
theorem dX4_init_26 : decode cX4_init 26 = .ok (.putfield 24, 3) := by decide +kernel
theorem dX4_init_29 : decode cX4_init 29 = .ok (.aload_n 0, 1) := by decide +kernel
theorem dX4_init_30 : decode cX4_init 30 = .ok (.iconst 2, 1) := by decide +kernel
theorem dX4_init_31 : decode cX4_init 31 = .ok (.newarray .int, 2) := by decide +kernel
theorem dX4_init_33 : decode cX4_init 33 = .ok (.putfield 27, 3) := by decide +kernel
theorem dX4_init_36 : decode cX4_init 36 = .ok (.aload_n 0, 1) := by decide +kernel
theorem dX4_init_37 : decode cX4_init 37 = .ok (.iconst 4, 1) := by decide +kernel
theorem dX4_init_38 : decode cX4_init 38 = .ok (.newarray .int, 2) := by decide +kernel
theorem dX4_init_40 : decode cX4_init 40 = .ok (.putfield 31, 3) := by decide +kernel
theorem dX4_init_43 : decode cX4_init 43 = .ok (.return_, 1) := by decide +kernel
theorem dX4_found_0 : decode cX4_found 0 = .ok (.aload_n 0, 1) := by decide +kernel
theorem dX4_found_1 : decode cX4_found 1 = .ok (.getfield 15, 3) := by decide +kernel
theorem dX4_found_4 : decode cX4_found 4 = .ok (.iload_n 1, 1) := by decide +kernel
theorem dX4_found_5 : decode cX4_found 5 = .ok (.imul, 1) := by decide +kernel
theorem dX4_found_6 : decode cX4_found 6 = .ok (.bipush 100, 2) := by decide +kernel
theorem dX4_found_8 : decode cX4_found 8 = .ok (.iconst 0, 1) := by decide +kernel
theorem dX4_found_9 : decode cX4_found 9 = .ok (.iload_n 2, 1) := by decide +kernel
theorem dX4_found_10 : decode cX4_found 10 = .ok (.aload_n 0, 1) := by decide +kernel
theorem dX4_found_11 : decode cX4_found 11 = .ok (.getfield 9, 3) := by decide +kernel
theorem dX4_found_14 : decode cX4_found 14 = .ok (.isub, 1) := by decide +kernel
theorem dX4_found_15 : decode cX4_found 15 = .ok (.invokestatic 34, 3) := by decide +kernel
theorem dX4_found_18 : decode cX4_found 18 = .ok (.imul, 1) := by decide +kernel
theorem dX4_found_19 : decode cX4_found 19 = .ok (.aload_n 0, 1) := by decide +kernel
theorem dX4_found_20 : decode cX4_found 20 = .ok (.getfield 18, 3) := by decide +kernel
theorem dX4_found_23 : decode cX4_found 23 = .ok (.idiv, 1) := by decide +kernel
theorem dX4_found_24 : decode cX4_found 24 = .ok (.iadd, 1) := by decide +kernel
theorem dX4_found_25 : decode cX4_found 25 = .ok (.ireturn, 1) := by decide +kernel
theorem dX4_mlOfScale_0 : decode cX4_mlOfScale 0 = .ok (.bipush 100, 2) := by decide +kernel
theorem dX4_mlOfScale_2 : decode cX4_mlOfScale 2 = .ok (.iload_n 1, 1) := by decide +kernel
theorem dX4_mlOfScale_3 : decode cX4_mlOfScale 3 = .ok (.imul, 1) := by decide +kernel
theorem dX4_mlOfScale_4 : decode cX4_mlOfScale 4 = .ok (.aload_n 0, 1) := by decide +kernel
theorem dX4_mlOfScale_5 : decode cX4_mlOfScale 5 = .ok (.getfield 18, 3) := by decide +kernel
theorem dX4_mlOfScale_8 : decode cX4_mlOfScale 8 = .ok (.iadd, 1) := by decide +kernel
theorem dX4_mlOfScale_9 : decode cX4_mlOfScale 9 = .ok (.iconst 1, 1) := by decide +kernel
theorem dX4_mlOfScale_10 : decode cX4_mlOfScale 10 = .ok (.isub, 1) := by decide +kernel
theorem dX4_mlOfScale_11 : decode cX4_mlOfScale 11 = .ok (.aload_n 0, 1) := by decide +kernel
theorem dX4_mlOfScale_12 : decode cX4_mlOfScale 12 = .ok (.getfield 18, 3) := by decide +kernel
theorem dX4_mlOfScale_15 : decode cX4_mlOfScale 15 = .ok (.idiv, 1) := by decide +kernel
theorem dX4_mlOfScale_16 : decode cX4_mlOfScale 16 = .ok (.ireturn, 1) := by decide +kernel
theorem dX4_move_0 : decode cX4_move 0 = .ok (.iload_n 1, 1) := by decide +kernel
theorem dX4_move_1 : decode cX4_move 1 = .ok (.tableswitch 103 0 2 #[27, 50, 78], 27) := by decide +kernel
theorem dX4_move_28 : decode cX4_move 28 = .ok (.aload_n 0, 1) := by decide +kernel
theorem dX4_move_29 : decode cX4_move 29 = .ok (.dup, 1) := by decide +kernel
theorem dX4_move_30 : decode cX4_move 30 = .ok (.getfield 21, 3) := by decide +kernel
theorem dX4_move_33 : decode cX4_move 33 = .ok (.iload_n 3, 1) := by decide +kernel
theorem dX4_move_34 : decode cX4_move 34 = .ok (.iadd, 1) := by decide +kernel
theorem dX4_move_35 : decode cX4_move 35 = .ok (.putfield 21, 3) := by decide +kernel
theorem dX4_move_38 : decode cX4_move 38 = .ok (.aload_n 0, 1) := by decide +kernel
theorem dX4_move_39 : decode cX4_move 39 = .ok (.dup, 1) := by decide +kernel
theorem dX4_move_40 : decode cX4_move 40 = .ok (.getfield 24, 3) := by decide +kernel
theorem dX4_move_43 : decode cX4_move 43 = .ok (.iload_n 3, 1) := by decide +kernel
theorem dX4_move_44 : decode cX4_move 44 = .ok (.iadd, 1) := by decide +kernel
theorem dX4_move_45 : decode cX4_move 45 = .ok (.putfield 24, 3) := by decide +kernel
theorem dX4_move_48 : decode cX4_move 48 = .ok (.goto 78, 3) := by decide +kernel
theorem dX4_move_51 : decode cX4_move 51 = .ok (.aload_n 0, 1) := by decide +kernel
theorem dX4_move_52 : decode cX4_move 52 = .ok (.dup, 1) := by decide +kernel
theorem dX4_move_53 : decode cX4_move 53 = .ok (.getfield 21, 3) := by decide +kernel
theorem dX4_move_56 : decode cX4_move 56 = .ok (.iload_n 3, 1) := by decide +kernel
theorem dX4_move_57 : decode cX4_move 57 = .ok (.isub, 1) := by decide +kernel
theorem dX4_move_58 : decode cX4_move 58 = .ok (.putfield 21, 3) := by decide +kernel
theorem dX4_move_61 : decode cX4_move 61 = .ok (.aload_n 0, 1) := by decide +kernel
theorem dX4_move_62 : decode cX4_move 62 = .ok (.getfield 27, 3) := by decide +kernel
theorem dX4_move_65 : decode cX4_move 65 = .ok (.iload_n 2, 1) := by decide +kernel
theorem dX4_move_66 : decode cX4_move 66 = .ok (.dup2, 1) := by decide +kernel
theorem dX4_move_67 : decode cX4_move 67 = .ok (.iaload, 1) := by decide +kernel
theorem dX4_move_68 : decode cX4_move 68 = .ok (.iload_n 3, 1) := by decide +kernel
theorem dX4_move_69 : decode cX4_move 69 = .ok (.aload_n 0, 1) := by decide +kernel
theorem dX4_move_70 : decode cX4_move 70 = .ok (.getfield 15, 3) := by decide +kernel
theorem dX4_move_73 : decode cX4_move 73 = .ok (.imul, 1) := by decide +kernel
theorem dX4_move_74 : decode cX4_move 74 = .ok (.iadd, 1) := by decide +kernel
theorem dX4_move_75 : decode cX4_move 75 = .ok (.iastore, 1) := by decide +kernel
theorem dX4_move_76 : decode cX4_move 76 = .ok (.goto 50, 3) := by decide +kernel
theorem dX4_move_79 : decode cX4_move 79 = .ok (.aload_n 0, 1) := by decide +kernel
theorem dX4_move_80 : decode cX4_move 80 = .ok (.getfield 27, 3) := by decide +kernel
theorem dX4_move_83 : decode cX4_move 83 = .ok (.iload_n 2, 1) := by decide +kernel
theorem dX4_move_84 : decode cX4_move 84 = .ok (.dup2, 1) := by decide +kernel
theorem dX4_move_85 : decode cX4_move 85 = .ok (.iaload, 1) := by decide +kernel
theorem dX4_move_86 : decode cX4_move 86 = .ok (.iload_n 3, 1) := by decide +kernel
theorem dX4_move_87 : decode cX4_move 87 = .ok (.isub, 1) := by decide +kernel
theorem dX4_move_88 : decode cX4_move 88 = .ok (.iastore, 1) := by decide +kernel
theorem dX4_move_89 : decode cX4_move 89 = .ok (.aload_n 0, 1) := by decide +kernel
theorem dX4_move_90 : decode cX4_move 90 = .ok (.getfield 27, 3) := by decide +kernel
theorem dX4_move_93 : decode cX4_move 93 = .ok (.iconst 1, 1) := by decide +kernel
theorem dX4_move_94 : decode cX4_move 94 = .ok (.iload_n 2, 1) := by decide +kernel
theorem dX4_move_95 : decode cX4_move 95 = .ok (.isub, 1) := by decide +kernel
theorem dX4_move_96 : decode cX4_move 96 = .ok (.dup2, 1) := by decide +kernel
theorem dX4_move_97 : decode cX4_move 97 = .ok (.iaload, 1) := by decide +kernel
theorem dX4_move_98 : decode cX4_move 98 = .ok (.iload_n 3, 1) := by decide +kernel
theorem dX4_move_99 : decode cX4_move 99 = .ok (.iadd, 1) := by decide +kernel
theorem dX4_move_100 : decode cX4_move 100 = .ok (.iastore, 1) := by decide +kernel
theorem dX4_move_101 : decode cX4_move 101 = .ok (.goto 25, 3) := by decide +kernel
theorem dX4_move_104 : decode cX4_move 104 = .ok (.aload_n 0, 1) := by decide +kernel
theorem dX4_move_105 : decode cX4_move 105 = .ok (.getfield 27, 3) := by decide +kernel
theorem dX4_move_108 : decode cX4_move 108 = .ok (.iload_n 2, 1) := by decide +kernel
theorem dX4_move_109 : decode cX4_move 109 = .ok (.dup2, 1) := by decide +kernel
theorem dX4_move_110 : decode cX4_move 110 = .ok (.iaload, 1) := by decide +kernel
theorem dX4_move_111 : decode cX4_move 111 = .ok (.iload_n 3, 1) := by decide +kernel
theorem dX4_move_112 : decode cX4_move 112 = .ok (.isub, 1) := by decide +kernel
theorem dX4_move_113 : decode cX4_move 113 = .ok (.iastore, 1) := by decide +kernel
theorem dX4_move_114 : decode cX4_move 114 = .ok (.aload_n 0, 1) := by decide +kernel
theorem dX4_move_115 : decode cX4_move 115 = .ok (.getfield 31, 3) := by decide +kernel
theorem dX4_move_118 : decode cX4_move 118 = .ok (.iload_n 1, 1) := by decide +kernel
theorem dX4_move_119 : decode cX4_move 119 = .ok (.iconst 3, 1) := by decide +kernel
theorem dX4_move_120 : decode cX4_move 120 = .ok (.isub, 1) := by decide +kernel
theorem dX4_move_121 : decode cX4_move 121 = .ok (.dup2, 1) := by decide +kernel
theorem dX4_move_122 : decode cX4_move 122 = .ok (.iaload, 1) := by decide +kernel
theorem dX4_move_123 : decode cX4_move 123 = .ok (.iload_n 3, 1) := by decide +kernel
theorem dX4_move_124 : decode cX4_move 124 = .ok (.iadd, 1) := by decide +kernel
theorem dX4_move_125 : decode cX4_move 125 = .ok (.iastore, 1) := by decide +kernel
theorem dX4_move_126 : decode cX4_move 126 = .ok (.return_, 1) := by decide +kernel
theorem dX5_init_0 : decode cX5_init 0 = .ok (.aload_n 0, 1) := by decide +kernel
theorem dX5_init_1 : decode cX5_init 1 = .ok (.invokespecial 3, 3) := by decide +kernel
theorem dX5_init_4 : decode cX5_init 4 = .ok (.aload_n 0, 1) := by decide +kernel
theorem dX5_init_5 : decode cX5_init 5 = .ok (.iconst 0, 1) := by decide +kernel
theorem dX5_init_6 : decode cX5_init 6 = .ok (.putfield 9, 3) := by decide +kernel
theorem dX5_init_9 : decode cX5_init 9 = .ok (.aload_n 0, 1) := by decide +kernel
theorem dX5_init_10 : decode cX5_init 10 = .ok (.iconst 0, 1) := by decide +kernel
theorem dX5_init_11 : decode cX5_init 11 = .ok (.putfield 15, 3) := by decide +kernel
theorem dX5_init_14 : decode cX5_init 14 = .ok (.aload_n 0, 1) := by decide +kernel
theorem dX5_init_15 : decode cX5_init 15 = .ok (.iconst 0, 1) := by decide +kernel
theorem dX5_init_16 : decode cX5_init 16 = .ok (.putfield 18, 3) := by decide +kernel
theorem dX5_init_19 : decode cX5_init 19 = .ok (.aload_n 0, 1) := by decide +kernel
theorem dX5_init_20 : decode cX5_init 20 = .ok (.iconst 0, 1) := by decide +kernel
theorem dX5_init_21 : decode cX5_init 21 = .ok (.putfield 21, 3) := by decide +kernel
theorem dX5_init_24 : decode cX5_init 24 = .ok (.return_, 1) := by decide +kernel
set_option maxRecDepth 20000 in
theorem ggX5_holds_X5_hasDay : GoodIn wsX5_holds wsX5_hasDay := goodIn_r _ [7, 8, 9, 10, 11, 12] (by decide +kernel) (by decide +kernel)
set_option maxRecDepth 20000 in
theorem gX5_holds_X5_hasDay : GoodIn wsX5_holds (wsV RX5 24 RX5 yX5_hasDay wsX5_hasDay) := goodIn_app (goodIn_of _ (by decide +kernel)) ggX5_holds_X5_hasDay
theorem dX5_holds_0 : decode cX5_holds 0 = .ok (.aload_n 0, 1) := by decide +kernel
theorem dX5_holds_1 : decode cX5_holds 1 = .ok (.getfield 15, 3) := by decide +kernel
theorem dX5_holds_4 : decode cX5_holds 4 = .ok (.aload_n 0, 1) := by decide +kernel
theorem dX5_holds_5 : decode cX5_holds 5 = .ok (.getfield 18, 3) := by decide +kernel
theorem dX5_holds_8 : decode cX5_holds 8 = .ok (.if_icmp .ge 33, 3) := by decide +kernel
theorem dX5_holds_11 : decode cX5_holds 11 = .ok (.aload_n 0, 1) := by decide +kernel
theorem dX5_holds_12 : decode cX5_holds 12 = .ok (.iload_n 1, 1) := by decide +kernel
theorem dX5_holds_13 : decode cX5_holds 13 = .ok (.invokevirtual 24, 3) := by decide +kernel
theorem dX5_holds_16 : decode cX5_holds 16 = .ok (.ifCond .eq 23, 3) := by decide +kernel
theorem dX5_holds_19 : decode cX5_holds 19 = .ok (.aload_n 0, 1) := by decide +kernel
theorem dX5_holds_20 : decode cX5_holds 20 = .ok (.getfield 15, 3) := by decide +kernel
theorem dX5_holds_23 : decode cX5_holds 23 = .ok (.iload_n 2, 1) := by decide +kernel
theorem dX5_holds_24 : decode cX5_holds 24 = .ok (.if_icmp .gt 15, 3) := by decide +kernel
theorem dX5_holds_27 : decode cX5_holds 27 = .ok (.iload_n 2, 1) := by decide +kernel
theorem dX5_holds_28 : decode cX5_holds 28 = .ok (.aload_n 0, 1) := by decide +kernel
theorem dX5_holds_29 : decode cX5_holds 29 = .ok (.getfield 18, 3) := by decide +kernel
theorem dX5_holds_32 : decode cX5_holds 32 = .ok (.if_icmp .ge 7, 3) := by decide +kernel
theorem dX5_holds_35 : decode cX5_holds 35 = .ok (.iconst 1, 1) := by decide +kernel
theorem dX5_holds_36 : decode cX5_holds 36 = .ok (.goto 4, 3) := by decide +kernel
theorem dX5_holds_39 : decode cX5_holds 39 = .ok (.iconst 0, 1) := by decide +kernel
theorem dX5_holds_40 : decode cX5_holds 40 = .ok (.ireturn, 1) := by decide +kernel
theorem dX5_holds_41 : decode cX5_holds 41 = .ok (.iload_n 1, 1) := by decide +kernel
theorem dX5_holds_42 : decode cX5_holds 42 = .ok (.ifCond .ne 8, 3) := by decide +kernel
theorem dX5_holds_45 : decode cX5_holds 45 = .ok (.bipush 6, 2) := by decide +kernel
theorem dX5_holds_47 : decode cX5_holds 47 = .ok (.goto 6, 3) := by decide +kernel
theorem dX5_holds_50 : decode cX5_holds 50 = .ok (.iload_n 1, 1) := by decide +kernel
theorem dX5_holds_51 : decode cX5_holds 51 = .ok (.iconst 1, 1) := by decide +kernel
theorem dX5_holds_52 : decode cX5_holds 52 = .ok (.isub, 1) := by decide +kernel
theorem dX5_holds_53 : decode cX5_holds 53 = .ok (.istore_n 3, 1) := by decide +kernel
theorem dX5_holds_54 : decode cX5_holds 54 = .ok (.aload_n 0, 1) := by decide +kernel
theorem dX5_holds_55 : decode cX5_holds 55 = .ok (.iload_n 1, 1) := by decide +kernel
theorem dX5_holds_56 : decode cX5_holds 56 = .ok (.invokevirtual 24, 3) := by decide +kernel
theorem dX5_holds_59 : decode cX5_holds 59 = .ok (.ifCond .eq 11, 3) := by decide +kernel
theorem dX5_holds_62 : decode cX5_holds 62 = .ok (.aload_n 0, 1) := by decide +kernel
theorem dX5_holds_63 : decode cX5_holds 63 = .ok (.getfield 15, 3) := by decide +kernel
theorem dX5_holds_66 : decode cX5_holds 66 = .ok (.iload_n 2, 1) := by decide +kernel
theorem dX5_holds_67 : decode cX5_holds 67 = .ok (.if_icmp .le 19, 3) := by decide +kernel
theorem dX5_holds_70 : decode cX5_holds 70 = .ok (.aload_n 0, 1) := by decide +kernel
theorem dX5_holds_71 : decode cX5_holds 71 = .ok (.iload_n 3, 1) := by decide +kernel
theorem dX5_holds_72 : decode cX5_holds 72 = .ok (.invokevirtual 24, 3) := by decide +kernel
theorem dX5_holds_75 : decode cX5_holds 75 = .ok (.ifCond .eq 15, 3) := by decide +kernel
theorem dX5_holds_78 : decode cX5_holds 78 = .ok (.iload_n 2, 1) := by decide +kernel
theorem dX5_holds_79 : decode cX5_holds 79 = .ok (.aload_n 0, 1) := by decide +kernel
theorem dX5_holds_80 : decode cX5_holds 80 = .ok (.getfield 18, 3) := by decide +kernel
theorem dX5_holds_83 : decode cX5_holds 83 = .ok (.if_icmp .ge 7, 3) := by decide +kernel
theorem dX5_holds_86 : decode cX5_holds 86 = .ok (.iconst 1, 1) := by decide +kernel
theorem dX5_holds_87 : decode cX5_holds 87 = .ok (.goto 4, 3) := by decide +kernel
theorem dX5_holds_90 : decode cX5_holds 90 = .ok (.iconst 0, 1) := by decide +kernel
theorem dX5_holds_91 : decode cX5_holds 91 = .ok (.ireturn, 1) := by decide +kernel
theorem dX5_hasDay_0 : decode cX5_hasDay 0 = .ok (.aload_n 0, 1) := by decide +kernel
theorem dX5_hasDay_1 : decode cX5_hasDay 1 = .ok (.getfield 9, 3) := by decide +kernel
theorem dX5_hasDay_4 : decode cX5_hasDay 4 = .ok (.iload_n 1, 1) := by decide +kernel
theorem dX5_hasDay_5 : decode cX5_hasDay 5 = .ok (.ishr, 1) := by decide +kernel
theorem dX5_hasDay_6 : decode cX5_hasDay 6 = .ok (.iconst 1, 1) := by decide +kernel
theorem dX5_hasDay_7 : decode cX5_hasDay 7 = .ok (.iand, 1) := by decide +kernel
theorem dX5_hasDay_8 : decode cX5_hasDay 8 = .ok (.iconst 1, 1) := by decide +kernel
theorem dX5_hasDay_9 : decode cX5_hasDay 9 = .ok (.if_icmp .ne 7, 3) := by decide +kernel
theorem dX5_hasDay_12 : decode cX5_hasDay 12 = .ok (.iconst 1, 1) := by decide +kernel
theorem dX5_hasDay_13 : decode cX5_hasDay 13 = .ok (.goto 4, 3) := by decide +kernel
theorem dX5_hasDay_16 : decode cX5_hasDay 16 = .ok (.iconst 0, 1) := by decide +kernel
theorem dX5_hasDay_17 : decode cX5_hasDay 17 = .ok (.ireturn, 1) := by decide +kernel
theorem dX6_init_0 : decode cX6_init 0 = .ok (.aload_n 0, 1) := by decide +kernel
theorem dX6_init_1 : decode cX6_init 1 = .ok (.invokespecial 3, 3) := by decide +kernel
theorem dX6_init_4 : decode cX6_init 4 = .ok (.aload_n 0, 1) := by decide +kernel
theorem dX6_init_5 : decode cX6_init 5 = .ok (.iconst 0, 1) := by decide +kernel
theorem dX6_init_6 : decode cX6_init 6 = .ok (.putfield 9, 3) := by decide +kernel
theorem dX6_init_9 : decode cX6_init 9 = .ok (.aload_n 0, 1) := by decide +kernel
theorem dX6_init_10 : decode cX6_init 10 = .ok (.iconst (-1), 1) := by decide +kernel
theorem dX6_init_11 : decode cX6_init 11 = .ok (.putfield 15, 3) := by decide +kernel
theorem dX6_init_14 : decode cX6_init 14 = .ok (.aload_n 0, 1) := by decide +kernel
theorem dX6_init_15 : decode cX6_init 15 = .ok (.iconst 0, 1) := by decide +kernel
theorem dX6_init_16 : decode cX6_init 16 = .ok (.putfield 18, 3) := by decide +kernel
theorem dX6_init_19 : decode cX6_init 19 = .ok (.aload_n 0, 1) := by decide +kernel
theorem dX6_init_20 : decode cX6_init 20 = .ok (.bipush 10, 2) := by decide +kernel
theorem dX6_init_22 : decode cX6_init 22 = .ok (.newarray .int, 2) := by decide +kernel
theorem dX6_init_24 : decode cX6_init 24 = .ok (.putfield 21, 3) := by decide +kernel
theorem dX6_init_27 : decode cX6_init 27 = .ok (.return_, 1) := by decide +kernel
theorem dX6_putParts_0 : decode cX6_putParts 0 = .ok (.aload_n 0, 1) := by decide +kernel
theorem dX6_putParts_1 : decode cX6_putParts 1 = .ok (.getfield 21, 3) := by decide +kernel
theorem dX6_putParts_4 : decode cX6_putParts 4 = .ok (.iload_n 1, 1) := by decide +kernel
theorem dX6_putParts_5 : decode cX6_putParts 5 = .ok (.iaload, 1) := by decide +kernel
theorem dX6_putParts_6 : decode cX6_putParts 6 = .ok (.istore_n 3, 1) := by decide +kernel
theorem dX6_putParts_7 : decode cX6_putParts 7 = .ok (.aload_n 0, 1) := by decide +kernel
theorem dX6_putParts_8 : decode cX6_putParts 8 = .ok (.getfield 21, 3) := by decide +kernel
theorem dX6_putParts_11 : decode cX6_putParts 11 = .ok (.iload_n 1, 1) := by decide +kernel
theorem dX6_putParts_12 : decode cX6_putParts 12 = .ok (.iload_n 2, 1) := by decide +kernel
theorem dX6_putParts_13 : decode cX6_putParts 13 = .ok (.iastore, 1) := by decide +kernel
theorem dX6_putParts_14 : decode cX6_putParts 14 = .ok (.aload_n 0, 1) := by decide +kernel
theorem dX6_putParts_15 : decode cX6_putParts 15 = .ok (.iload_n 2, 1) := by decide +kernel
theorem dX6_putParts_16 : decode cX6_putParts 16 = .ok (.ifCond .le 14, 3) := by decide +kernel
theorem dX6_putParts_19 : decode cX6_putParts 19 = .ok (.aload_n 0, 1) := by decide +kernel
theorem dX6_putParts_20 : decode cX6_putParts 20 = .ok (.getfield 18, 3) := by decide +kernel
theorem dX6_putParts_23 : decode cX6_putParts 23 = .ok (.iconst 1, 1) := by decide +kernel
theorem dX6_putParts_24 : decode cX6_putParts 24 = .ok (.iload_n 1, 1) := by decide +kernel
theorem dX6_putParts_25 : decode cX6_putParts 25 = .ok (.ishl, 1) := by decide +kernel
theorem dX6_putParts_26 : decode cX6_putParts 26 = .ok (.ior, 1) := by decide +kernel
theorem dX6_putParts_27 : decode cX6_putParts 27 = .ok (.goto 13, 3) := by decide +kernel
theorem dX6_putParts_30 : decode cX6_putParts 30 = .ok (.aload_n 0, 1) := by decide +kernel
theorem dX6_putParts_31 : decode cX6_putParts 31 = .ok (.getfield 18, 3) := by decide +kernel
theorem dX6_putParts_34 : decode cX6_putParts 34 = .ok (.iconst 1, 1) := by decide +kernel
theorem dX6_putParts_35 : decode cX6_putParts 35 = .ok (.iload_n 1, 1) := by decide +kernel
theorem dX6_putParts_36 : decode cX6_putParts 36 = .ok (.ishl, 1) := by decide +kernel
theorem dX6_putParts_37 : decode cX6_putParts 37 = .ok (.iconst (-1), 1) := by decide +kernel
theorem dX6_putParts_38 : decode cX6_putParts 38 = .ok (.ixor, 1) := by decide +kernel
theorem dX6_putParts_39 : decode cX6_putParts 39 = .ok (.iand, 1) := by decide +kernel
theorem dX6_putParts_40 : decode cX6_putParts 40 = .ok (.putfield 18, 3) := by decide +kernel
theorem dX6_putParts_43 : decode cX6_putParts 43 = .ok (.iload_n 3, 1) := by decide +kernel
theorem dX6_putParts_44 : decode cX6_putParts 44 = .ok (.ireturn, 1) := by decide +kernel
theorem dX6_canBeMadeBy_0 : decode cX6_canBeMadeBy 0 = .ok (.aload_n 0, 1) := by decide +kernel
theorem dX6_canBeMadeBy_1 : decode cX6_canBeMadeBy 1 = .ok (.getfield 18, 3) := by decide +kernel
theorem dX6_canBeMadeBy_4 : decode cX6_canBeMadeBy 4 = .ok (.ifCond .eq 18, 3) := by decide +kernel
theorem dX6_canBeMadeBy_7 : decode cX6_canBeMadeBy 7 = .ok (.aload_n 0, 1) := by decide +kernel
theorem dX6_canBeMadeBy_8 : decode cX6_canBeMadeBy 8 = .ok (.getfield 18, 3) := by decide +kernel
theorem dX6_canBeMadeBy_11 : decode cX6_canBeMadeBy 11 = .ok (.iload_n 1, 1) := by decide +kernel
theorem dX6_canBeMadeBy_12 : decode cX6_canBeMadeBy 12 = .ok (.iconst (-1), 1) := by decide +kernel
theorem dX6_canBeMadeBy_13 : decode cX6_canBeMadeBy 13 = .ok (.ixor, 1) := by decide +kernel
theorem dX6_canBeMadeBy_14 : decode cX6_canBeMadeBy 14 = .ok (.iand, 1) := by decide +kernel
theorem dX6_canBeMadeBy_15 : decode cX6_canBeMadeBy 15 = .ok (.ifCond .ne 7, 3) := by decide +kernel
theorem dX6_canBeMadeBy_18 : decode cX6_canBeMadeBy 18 = .ok (.iconst 1, 1) := by decide +kernel
theorem dX6_canBeMadeBy_19 : decode cX6_canBeMadeBy 19 = .ok (.goto 4, 3) := by decide +kernel
theorem dX6_canBeMadeBy_22 : decode cX6_canBeMadeBy 22 = .ok (.iconst 0, 1) := by decide +kernel
theorem dX6_canBeMadeBy_23 : decode cX6_canBeMadeBy 23 = .ok (.ireturn, 1) := by decide +kernel
theorem dX7_init_0 : decode cX7_init 0 = .ok (.aload_n 0, 1) := by decide +kernel
theorem dX7_init_1 : decode cX7_init 1 = .ok (.invokespecial 3, 3) := by decide +kernel
theorem dX7_init_4 : decode cX7_init 4 = .ok (.aload_n 0, 1) := by decide +kernel
theorem dX7_init_5 : decode cX7_init 5 = .ok (.iconst 0, 1) := by decide +kernel
theorem dX7_init_6 : decode cX7_init 6 = .ok (.putfield 9, 3) := by decide +kernel
theorem dX7_init_9 : decode cX7_init 9 = .ok (.aload_n 0, 1) := by decide +kernel
theorem dX7_init_10 : decode cX7_init 10 = .ok (.bipush 10, 2) := by decide +kernel
theorem dX7_init_12 : decode cX7_init 12 = .ok (.newarray .int, 2) := by decide +kernel
theorem dX7_init_14 : decode cX7_init 14 = .ok (.putfield 15, 3) := by decide +kernel
theorem dX7_init_17 : decode cX7_init 17 = .ok (.aload_n 0, 1) := by decide +kernel
theorem dX7_init_18 : decode cX7_init 18 = .ok (.bipush 10, 2) := by decide +kernel
theorem dX7_init_20 : decode cX7_init 20 = .ok (.newarray .boolean, 2) := by decide +kernel
theorem dX7_init_22 : decode cX7_init 22 = .ok (.putfield 19, 3) := by decide +kernel
theorem dX7_init_25 : decode cX7_init 25 = .ok (.aload_n 0, 1) := by decide +kernel
theorem dX7_init_26 : decode cX7_init 26 = .ok (.bipush 10, 2) := by decide +kernel
theorem dX7_init_28 : decode cX7_init 28 = .ok (.newarray .int, 2) := by decide +kernel
theorem dX7_init_30 : decode cX7_init 30 = .ok (.putfield 23, 3) := by decide +kernel
theorem dX7_init_33 : decode cX7_init 33 = .ok (.aload_n 0, 1) := by decide +kernel
theorem dX7_init_34 : decode cX7_init 34 = .ok (.bipush 10, 2) := by decide +kernel
theorem dX7_init_36 : decode cX7_init 36 = .ok (.newarray .int, 2) := by decide +kernel
theorem dX7_init_38 : decode cX7_init 38 = .ok (.putfield 26, 3) := by decide +kernel
theorem dX7_init_41 : decode cX7_init 41 = .ok (.return_, 1) := by decide +kernel
theorem dX7_isTold_0 : decode cX7_isTold 0 = .ok (.aload_n 0, 1) := by decide +kernel
theorem dX7_isTold_1 : decode cX7_isTold 1 = .ok (.getfield 19, 3) := by decide +kernel
theorem dX7_isTold_4 : decode cX7_isTold 4 = .ok (.iload_n 1, 1) := by decide +kernel
theorem dX7_isTold_5 : decode cX7_isTold 5 = .ok (.baload, 1) := by decide +kernel
theorem dX7_isTold_6 : decode cX7_isTold 6 = .ok (.ifCond .eq 25, 3) := by decide +kernel
theorem dX7_isTold_9 : decode cX7_isTold 9 = .ok (.aload_n 0, 1) := by decide +kernel
theorem dX7_isTold_10 : decode cX7_isTold 10 = .ok (.getfield 23, 3) := by decide +kernel
theorem dX7_isTold_13 : decode cX7_isTold 13 = .ok (.iload_n 1, 1) := by decide +kernel
theorem dX7_isTold_14 : decode cX7_isTold 14 = .ok (.iaload, 1) := by decide +kernel
theorem dX7_isTold_15 : decode cX7_isTold 15 = .ok (.invokestatic 29, 3) := by decide +kernel
theorem dX7_isTold_18 : decode cX7_isTold 18 = .ok (.aload_n 0, 1) := by decide +kernel
theorem dX7_isTold_19 : decode cX7_isTold 19 = .ok (.getfield 26, 3) := by decide +kernel
theorem dX7_isTold_22 : decode cX7_isTold 22 = .ok (.iload_n 1, 1) := by decide +kernel
theorem dX7_isTold_23 : decode cX7_isTold 23 = .ok (.iaload, 1) := by decide +kernel
theorem dX7_isTold_24 : decode cX7_isTold 24 = .ok (.if_icmp .le 7, 3) := by decide +kernel
theorem dX7_isTold_27 : decode cX7_isTold 27 = .ok (.iconst 1, 1) := by decide +kernel
theorem dX7_isTold_28 : decode cX7_isTold 28 = .ok (.goto 4, 3) := by decide +kernel
theorem dX7_isTold_31 : decode cX7_isTold 31 = .ok (.iconst 0, 1) := by decide +kernel
theorem dX7_isTold_32 : decode cX7_isTold 32 = .ok (.ireturn, 1) := by decide +kernel
theorem dX7_judges_0 : decode cX7_judges 0 = .ok (.aload_n 0, 1) := by decide +kernel
theorem dX7_judges_1 : decode cX7_judges 1 = .ok (.getfield 9, 3) := by decide +kernel
theorem dX7_judges_4 : decode cX7_judges 4 = .ok (.iload_n 1, 1) := by decide +kernel
theorem dX7_judges_5 : decode cX7_judges 5 = .ok (.if_icmp .ne 25, 3) := by decide +kernel
theorem dX7_judges_8 : decode cX7_judges 8 = .ok (.aload_n 0, 1) := by decide +kernel
theorem dX7_judges_9 : decode cX7_judges 9 = .ok (.getfield 19, 3) := by decide +kernel
theorem dX7_judges_12 : decode cX7_judges 12 = .ok (.iload_n 2, 1) := by decide +kernel
theorem dX7_judges_13 : decode cX7_judges 13 = .ok (.baload, 1) := by decide +kernel
theorem dX7_judges_14 : decode cX7_judges 14 = .ok (.ifCond .eq 16, 3) := by decide +kernel
theorem dX7_judges_17 : decode cX7_judges 17 = .ok (.aload_n 0, 1) := by decide +kernel
theorem dX7_judges_18 : decode cX7_judges 18 = .ok (.getfield 15, 3) := by decide +kernel
theorem dX7_judges_21 : decode cX7_judges 21 = .ok (.iload_n 2, 1) := by decide +kernel
theorem dX7_judges_22 : decode cX7_judges 22 = .ok (.iaload, 1) := by decide +kernel
theorem dX7_judges_23 : decode cX7_judges 23 = .ok (.ifCond .le 7, 3) := by decide +kernel
theorem dX7_judges_26 : decode cX7_judges 26 = .ok (.iconst 1, 1) := by decide +kernel
theorem dX7_judges_27 : decode cX7_judges 27 = .ok (.goto 4, 3) := by decide +kernel
theorem dX7_judges_30 : decode cX7_judges 30 = .ok (.iconst 0, 1) := by decide +kernel
theorem dX7_judges_31 : decode cX7_judges 31 = .ok (.ireturn, 1) := by decide +kernel
theorem dX8_init_0 : decode cX8_init 0 = .ok (.aload_n 0, 1) := by decide +kernel
theorem dX8_init_1 : decode cX8_init 1 = .ok (.invokespecial 3, 3) := by decide +kernel
theorem dX8_init_4 : decode cX8_init 4 = .ok (.aload_n 0, 1) := by decide +kernel
theorem dX8_init_5 : decode cX8_init 5 = .ok (.bipush 6, 2) := by decide +kernel
theorem dX8_init_7 : decode cX8_init 7 = .ok (.newarray .int, 2) := by decide +kernel
theorem dX8_init_9 : decode cX8_init 9 = .ok (.putfield 9, 3) := by decide +kernel
theorem dX8_init_12 : decode cX8_init 12 = .ok (.return_, 1) := by decide +kernel
set_option maxRecDepth 20000 in
theorem ggX8_shareOf_X8_cutShare : GoodIn wsX8_shareOf wsX8_cutShare := goodIn_r _ [6, 1, 15] (by decide +kernel) (by decide +kernel)
set_option maxRecDepth 20000 in
theorem gX8_shareOf_X8_cutShare : GoodIn wsX8_shareOf (wsV RX8 15 RX8 yX8_cutShare wsX8_cutShare) := goodIn_app (goodIn_of _ (by decide +kernel)) ggX8_shareOf_X8_cutShare
set_option maxRecDepth 20000 in
theorem ggX8_shareOf_X8_aheadOf : GoodIn wsX8_shareOf wsX8_aheadOf := goodIn_r _ [10, 11, 12, 13, 5, 14, 1, 15] (by decide +kernel) (by decide +kernel)
set_option maxRecDepth 20000 in
theorem gX8_shareOf_X8_aheadOf : GoodIn wsX8_shareOf (wsV RX8 19 RX8 yX8_aheadOf wsX8_aheadOf) := goodIn_app (goodIn_of _ (by decide +kernel)) ggX8_shareOf_X8_aheadOf
theorem dX8_shareOf_0 : decode cX8_shareOf 0 = .ok (.lconst 0, 1) := by decide +kernel
theorem dX8_shareOf_1 : decode cX8_shareOf 1 = .ok (.lstore_n 3, 1) := by decide +kernel
theorem dX8_shareOf_2 : decode cX8_shareOf 2 = .ok (.iconst 0, 1) := by decide +kernel
theorem dX8_shareOf_3 : decode cX8_shareOf 3 = .ok (.istore 5, 2) := by decide +kernel
theorem dX8_shareOf_5 : decode cX8_shareOf 5 = .ok (.iload 5, 2) := by decide +kernel
theorem dX8_shareOf_7 : decode cX8_shareOf 7 = .ok (.bipush 6, 2) := by decide +kernel
theorem dX8_shareOf_9 : decode cX8_shareOf 9 = .ok (.if_icmp .ge 20, 3) := by decide +kernel
theorem dX8_shareOf_12 : decode cX8_shareOf 12 = .ok (.lload_n 3, 1) := by decide +kernel
theorem dX8_shareOf_13 : decode cX8_shareOf 13 = .ok (.aload_n 0, 1) := by decide +kernel
theorem dX8_shareOf_14 : decode cX8_shareOf 14 = .ok (.getfield 9, 3) := by decide +kernel
theorem dX8_shareOf_17 : decode cX8_shareOf 17 = .ok (.iload 5, 2) := by decide +kernel
theorem dX8_shareOf_19 : decode cX8_shareOf 19 = .ok (.iaload, 1) := by decide +kernel
theorem dX8_shareOf_20 : decode cX8_shareOf 20 = .ok (.i2l, 1) := by decide +kernel
theorem dX8_shareOf_21 : decode cX8_shareOf 21 = .ok (.ladd, 1) := by decide +kernel
theorem dX8_shareOf_22 : decode cX8_shareOf 22 = .ok (.lstore_n 3, 1) := by decide +kernel
theorem dX8_shareOf_23 : decode cX8_shareOf 23 = .ok (.iinc 5 1, 3) := by decide +kernel
theorem dX8_shareOf_26 : decode cX8_shareOf 26 = .ok (.goto (-21), 3) := by decide +kernel
theorem dX8_shareOf_29 : decode cX8_shareOf 29 = .ok (.lload_n 3, 1) := by decide +kernel
theorem dX8_shareOf_30 : decode cX8_shareOf 30 = .ok (.lconst 0, 1) := by decide +kernel
theorem dX8_shareOf_31 : decode cX8_shareOf 31 = .ok (.lcmp, 1) := by decide +kernel
theorem dX8_shareOf_32 : decode cX8_shareOf 32 = .ok (.ifCond .ne 6, 3) := by decide +kernel
theorem dX8_shareOf_35 : decode cX8_shareOf 35 = .ok (.bipush (-2), 2) := by decide +kernel
theorem dX8_shareOf_37 : decode cX8_shareOf 37 = .ok (.ireturn, 1) := by decide +kernel
theorem dX8_shareOf_38 : decode cX8_shareOf 38 = .ok (.iload_n 2, 1) := by decide +kernel
theorem dX8_shareOf_39 : decode cX8_shareOf 39 = .ok (.i2l, 1) := by decide +kernel
theorem dX8_shareOf_40 : decode cX8_shareOf 40 = .ok (.lstore 5, 2) := by decide +kernel
theorem dX8_shareOf_42 : decode cX8_shareOf 42 = .ok (.iconst 0, 1) := by decide +kernel
theorem dX8_shareOf_43 : decode cX8_shareOf 43 = .ok (.istore 7, 2) := by decide +kernel
theorem dX8_shareOf_45 : decode cX8_shareOf 45 = .ok (.iload 7, 2) := by decide +kernel
theorem dX8_shareOf_47 : decode cX8_shareOf 47 = .ok (.bipush 6, 2) := by decide +kernel
theorem dX8_shareOf_49 : decode cX8_shareOf 49 = .ok (.if_icmp .ge 22, 3) := by decide +kernel
theorem dX8_shareOf_52 : decode cX8_shareOf 52 = .ok (.lload 5, 2) := by decide +kernel
theorem dX8_shareOf_54 : decode cX8_shareOf 54 = .ok (.aload_n 0, 1) := by decide +kernel
theorem dX8_shareOf_55 : decode cX8_shareOf 55 = .ok (.iload 7, 2) := by decide +kernel
theorem dX8_shareOf_57 : decode cX8_shareOf 57 = .ok (.iload_n 2, 1) := by decide +kernel
theorem dX8_shareOf_58 : decode cX8_shareOf 58 = .ok (.lload_n 3, 1) := by decide +kernel
theorem dX8_shareOf_59 : decode cX8_shareOf 59 = .ok (.invokevirtual 15, 3) := by decide +kernel
theorem dX8_shareOf_62 : decode cX8_shareOf 62 = .ok (.lsub, 1) := by decide +kernel
theorem dX8_shareOf_63 : decode cX8_shareOf 63 = .ok (.lstore 5, 2) := by decide +kernel
theorem dX8_shareOf_65 : decode cX8_shareOf 65 = .ok (.iinc 7 1, 3) := by decide +kernel
theorem dX8_shareOf_68 : decode cX8_shareOf 68 = .ok (.goto (-23), 3) := by decide +kernel
theorem dX8_shareOf_71 : decode cX8_shareOf 71 = .ok (.aload_n 0, 1) := by decide +kernel
theorem dX8_shareOf_72 : decode cX8_shareOf 72 = .ok (.iload_n 1, 1) := by decide +kernel
theorem dX8_shareOf_73 : decode cX8_shareOf 73 = .ok (.iload_n 2, 1) := by decide +kernel
theorem dX8_shareOf_74 : decode cX8_shareOf 74 = .ok (.lload_n 3, 1) := by decide +kernel
theorem dX8_shareOf_75 : decode cX8_shareOf 75 = .ok (.invokevirtual 19, 3) := by decide +kernel
theorem dX8_shareOf_78 : decode cX8_shareOf 78 = .ok (.i2l, 1) := by decide +kernel
theorem dX8_shareOf_79 : decode cX8_shareOf 79 = .ok (.lload 5, 2) := by decide +kernel
theorem dX8_shareOf_81 : decode cX8_shareOf 81 = .ok (.lcmp, 1) := by decide +kernel
theorem dX8_shareOf_82 : decode cX8_shareOf 82 = .ok (.ifCond .ge 7, 3) := by decide +kernel
theorem dX8_shareOf_85 : decode cX8_shareOf 85 = .ok (.iconst 1, 1) := by decide +kernel
theorem dX8_shareOf_86 : decode cX8_shareOf 86 = .ok (.goto 4, 3) := by decide +kernel
theorem dX8_shareOf_89 : decode cX8_shareOf 89 = .ok (.iconst 0, 1) := by decide +kernel
theorem dX8_shareOf_90 : decode cX8_shareOf 90 = .ok (.istore 7, 2) := by decide +kernel
theorem dX8_shareOf_92 : decode cX8_shareOf 92 = .ok (.aload_n 0, 1) := by decide +kernel
theorem dX8_shareOf_93 : decode cX8_shareOf 93 = .ok (.iload_n 1, 1) := by decide +kernel
theorem dX8_shareOf_94 : decode cX8_shareOf 94 = .ok (.iload_n 2, 1) := by decide +kernel
theorem dX8_shareOf_95 : decode cX8_shareOf 95 = .ok (.lload_n 3, 1) := by decide +kernel
theorem dX8_shareOf_96 : decode cX8_shareOf 96 = .ok (.invokevirtual 15, 3) := by decide +kernel
theorem dX8_shareOf_99 : decode cX8_shareOf 99 = .ok (.l2i, 1) := by decide +kernel
theorem dX8_shareOf_100 : decode cX8_shareOf 100 = .ok (.iload 7, 2) := by decide +kernel
theorem dX8_shareOf_102 : decode cX8_shareOf 102 = .ok (.ifCond .eq 7, 3) := by decide +kernel
theorem dX8_shareOf_105 : decode cX8_shareOf 105 = .ok (.iconst 1, 1) := by decide +kernel
theorem dX8_shareOf_106 : decode cX8_shareOf 106 = .ok (.goto 4, 3) := by decide +kernel
theorem dX8_shareOf_109 : decode cX8_shareOf 109 = .ok (.iconst 0, 1) := by decide +kernel
theorem dX8_shareOf_110 : decode cX8_shareOf 110 = .ok (.iadd, 1) := by decide +kernel
theorem dX8_shareOf_111 : decode cX8_shareOf 111 = .ok (.ireturn, 1) := by decide +kernel
theorem dX8_cutShare_0 : decode cX8_cutShare 0 = .ok (.iload_n 2, 1) := by decide +kernel
theorem dX8_cutShare_1 : decode cX8_cutShare 1 = .ok (.i2l, 1) := by decide +kernel
theorem dX8_cutShare_2 : decode cX8_cutShare 2 = .ok (.aload_n 0, 1) := by decide +kernel
theorem dX8_cutShare_3 : decode cX8_cutShare 3 = .ok (.getfield 9, 3) := by decide +kernel
theorem dX8_cutShare_6 : decode cX8_cutShare 6 = .ok (.iload_n 1, 1) := by decide +kernel
theorem dX8_cutShare_7 : decode cX8_cutShare 7 = .ok (.iaload, 1) := by decide +kernel
theorem dX8_cutShare_8 : decode cX8_cutShare 8 = .ok (.i2l, 1) := by decide +kernel
theorem dX8_cutShare_9 : decode cX8_cutShare 9 = .ok (.lmul, 1) := by decide +kernel
theorem dX8_cutShare_10 : decode cX8_cutShare 10 = .ok (.lload_n 3, 1) := by decide +kernel
theorem dX8_cutShare_11 : decode cX8_cutShare 11 = .ok (.ldiv, 1) := by decide +kernel
theorem dX8_cutShare_12 : decode cX8_cutShare 12 = .ok (.lreturn, 1) := by decide +kernel
theorem dX8_rest_0 : decode cX8_rest 0 = .ok (.iload_n 2, 1) := by decide +kernel
theorem dX8_rest_1 : decode cX8_rest 1 = .ok (.i2l, 1) := by decide +kernel
theorem dX8_rest_2 : decode cX8_rest 2 = .ok (.aload_n 0, 1) := by decide +kernel
theorem dX8_rest_3 : decode cX8_rest 3 = .ok (.getfield 9, 3) := by decide +kernel
theorem dX8_rest_6 : decode cX8_rest 6 = .ok (.iload_n 1, 1) := by decide +kernel
theorem dX8_rest_7 : decode cX8_rest 7 = .ok (.iaload, 1) := by decide +kernel
theorem dX8_rest_8 : decode cX8_rest 8 = .ok (.i2l, 1) := by decide +kernel
theorem dX8_rest_9 : decode cX8_rest 9 = .ok (.lmul, 1) := by decide +kernel
theorem dX8_rest_10 : decode cX8_rest 10 = .ok (.lload_n 3, 1) := by decide +kernel
theorem dX8_rest_11 : decode cX8_rest 11 = .ok (.lrem, 1) := by decide +kernel
theorem dX8_rest_12 : decode cX8_rest 12 = .ok (.lreturn, 1) := by decide +kernel
set_option maxRecDepth 20000 in
theorem ggX8_aheadOf_X8_rest : GoodIn wsX8_aheadOf wsX8_rest := goodIn_r _ [5, 6, 7] (by decide +kernel) (by decide +kernel)
set_option maxRecDepth 20000 in
theorem gX8_aheadOf_X8_rest : GoodIn wsX8_aheadOf (wsV RX8 23 RX8 yX8_rest wsX8_rest) := goodIn_app (goodIn_of _ (by decide +kernel)) ggX8_aheadOf_X8_rest
theorem dX8_aheadOf_0 : decode cX8_aheadOf 0 = .ok (.aload_n 0, 1) := by decide +kernel
theorem dX8_aheadOf_1 : decode cX8_aheadOf 1 = .ok (.iload_n 1, 1) := by decide +kernel
theorem dX8_aheadOf_2 : decode cX8_aheadOf 2 = .ok (.iload_n 2, 1) := by decide +kernel
theorem dX8_aheadOf_3 : decode cX8_aheadOf 3 = .ok (.lload_n 3, 1) := by decide +kernel
theorem dX8_aheadOf_4 : decode cX8_aheadOf 4 = .ok (.invokevirtual 23, 3) := by decide +kernel
theorem dX8_aheadOf_7 : decode cX8_aheadOf 7 = .ok (.lstore 5, 2) := by decide +kernel
theorem dX8_aheadOf_9 : decode cX8_aheadOf 9 = .ok (.iconst 0, 1) := by decide +kernel
theorem dX8_aheadOf_10 : decode cX8_aheadOf 10 = .ok (.istore 7, 2) := by decide +kernel
theorem dX8_aheadOf_12 : decode cX8_aheadOf 12 = .ok (.iconst 0, 1) := by decide +kernel
theorem dX8_aheadOf_13 : decode cX8_aheadOf 13 = .ok (.istore 8, 2) := by decide +kernel
theorem dX8_aheadOf_15 : decode cX8_aheadOf 15 = .ok (.iload 8, 2) := by decide +kernel
theorem dX8_aheadOf_17 : decode cX8_aheadOf 17 = .ok (.bipush 6, 2) := by decide +kernel
theorem dX8_aheadOf_19 : decode cX8_aheadOf 19 = .ok (.if_icmp .ge 44, 3) := by decide +kernel
theorem dX8_aheadOf_22 : decode cX8_aheadOf 22 = .ok (.aload_n 0, 1) := by decide +kernel
theorem dX8_aheadOf_23 : decode cX8_aheadOf 23 = .ok (.iload 8, 2) := by decide +kernel
theorem dX8_aheadOf_25 : decode cX8_aheadOf 25 = .ok (.iload_n 2, 1) := by decide +kernel
theorem dX8_aheadOf_26 : decode cX8_aheadOf 26 = .ok (.lload_n 3, 1) := by decide +kernel
theorem dX8_aheadOf_27 : decode cX8_aheadOf 27 = .ok (.invokevirtual 23, 3) := by decide +kernel
theorem dX8_aheadOf_30 : decode cX8_aheadOf 30 = .ok (.lstore 9, 2) := by decide +kernel
theorem dX8_aheadOf_32 : decode cX8_aheadOf 32 = .ok (.lload 9, 2) := by decide +kernel
theorem dX8_aheadOf_34 : decode cX8_aheadOf 34 = .ok (.lload 5, 2) := by decide +kernel
theorem dX8_aheadOf_36 : decode cX8_aheadOf 36 = .ok (.lcmp, 1) := by decide +kernel
theorem dX8_aheadOf_37 : decode cX8_aheadOf 37 = .ok (.ifCond .gt 17, 3) := by decide +kernel
theorem dX8_aheadOf_40 : decode cX8_aheadOf 40 = .ok (.lload 9, 2) := by decide +kernel
theorem dX8_aheadOf_42 : decode cX8_aheadOf 42 = .ok (.lload 5, 2) := by decide +kernel
theorem dX8_aheadOf_44 : decode cX8_aheadOf 44 = .ok (.lcmp, 1) := by decide +kernel
theorem dX8_aheadOf_45 : decode cX8_aheadOf 45 = .ok (.ifCond .ne 12, 3) := by decide +kernel
theorem dX8_aheadOf_48 : decode cX8_aheadOf 48 = .ok (.iload 8, 2) := by decide +kernel
theorem dX8_aheadOf_50 : decode cX8_aheadOf 50 = .ok (.iload_n 1, 1) := by decide +kernel
theorem dX8_aheadOf_51 : decode cX8_aheadOf 51 = .ok (.if_icmp .ge 6, 3) := by decide +kernel
theorem dX8_aheadOf_54 : decode cX8_aheadOf 54 = .ok (.iinc 7 1, 3) := by decide +kernel
theorem dX8_aheadOf_57 : decode cX8_aheadOf 57 = .ok (.iinc 8 1, 3) := by decide +kernel
theorem dX8_aheadOf_60 : decode cX8_aheadOf 60 = .ok (.goto (-45), 3) := by decide +kernel
theorem dX8_aheadOf_63 : decode cX8_aheadOf 63 = .ok (.iload 7, 2) := by decide +kernel
theorem dX8_aheadOf_65 : decode cX8_aheadOf 65 = .ok (.ireturn, 1) := by decide +kernel
set_option maxRecDepth 20000 in
theorem ggX9_init_X1_init : GoodIn wsX9_init wsX1_init := goodIn_r _ [52, 53, 2, 3, 54, 55, 56, 57, 58, 59, 60, 61, 62, 63, 64, 65, 66, 67, 133, 134, 135, 164, 165, 166, 167, 168] (by decide +kernel) (by decide +kernel)
set_option maxRecDepth 20000 in
theorem gX9_init_X1_init : GoodIn wsX9_init (wsX1_init) := ggX9_init_X1_init
set_option maxRecDepth 20000 in
theorem ggX9_init_X3_init : GoodIn wsX9_init wsX3_init := goodIn_r _ [69, 70, 2, 3, 25, 71, 72, 73, 136, 137, 138] (by decide +kernel) (by decide +kernel)
set_option maxRecDepth 20000 in
theorem gX9_init_X3_init_n61 : GoodIn wsX9_init (wsX3_init) := ggX9_init_X3_init
set_option maxRecDepth 20000 in
theorem ggX9_init_X8_init : GoodIn wsX9_init wsX8_init := goodIn_r _ [75, 76, 2, 3, 25, 77, 139] (by decide +kernel) (by decide +kernel)
set_option maxRecDepth 20000 in
theorem gX9_init_X8_init_n77 : GoodIn wsX9_init (wsX8_init) := ggX9_init_X8_init
set_option maxRecDepth 20000 in
theorem ggX9_init_X2_init : GoodIn wsX9_init wsX2_init := goodIn_r _ [79, 80, 2, 3, 25, 81, 82, 83, 84, 85, 140, 141, 142, 143] (by decide +kernel) (by decide +kernel)
set_option maxRecDepth 20000 in
theorem gX9_init_X2_init_n84 : GoodIn wsX9_init (wsX2_init) := ggX9_init_X2_init
set_option maxRecDepth 20000 in
theorem ggX9_init_X4_init : GoodIn wsX9_init wsX4_init := goodIn_r _ [87, 88, 2, 3, 89, 90, 91, 92, 93, 25, 94, 95, 144, 145, 146, 147, 148, 149, 150] (by decide +kernel) (by decide +kernel)
set_option maxRecDepth 20000 in
theorem gX9_init_X4_init_n89 : GoodIn wsX9_init (wsX4_init) := ggX9_init_X4_init
set_option maxRecDepth 20000 in
theorem ggX9_init_X6_init : GoodIn wsX9_init wsX6_init := goodIn_r _ [97, 98, 2, 3, 99, 100, 101, 25, 102, 151, 152, 153, 154] (by decide +kernel) (by decide +kernel)
set_option maxRecDepth 20000 in
theorem gX9_init_X6_init_n90 : GoodIn wsX9_init (wsX6_init) := ggX9_init_X6_init
set_option maxRecDepth 20000 in
theorem ggX9_init_X7_init : GoodIn wsX9_init wsX7_init := goodIn_r _ [104, 105, 2, 3, 106, 25, 107, 108, 109, 110, 111, 155, 156, 157, 158, 159] (by decide +kernel) (by decide +kernel)
set_option maxRecDepth 20000 in
theorem gX9_init_X7_init_n91 : GoodIn wsX9_init (wsX7_init) := ggX9_init_X7_init
set_option maxRecDepth 20000 in
theorem ggX9_init_X5_init : GoodIn wsX9_init wsX5_init := goodIn_r _ [113, 114, 2, 3, 115, 116, 117, 118, 160, 161, 162, 163] (by decide +kernel) (by decide +kernel)
set_option maxRecDepth 20000 in
theorem gX9_init_X5_init_n92 : GoodIn wsX9_init (wsX5_init) := ggX9_init_X5_init
theorem dX9_init_0 : decode cX9_init 0 = .ok (.aload_n 0, 1) := by decide +kernel
theorem dX9_init_1 : decode cX9_init 1 = .ok (.invokespecial 1, 3) := by decide +kernel
theorem dX9_init_4 : decode cX9_init 4 = .ok (.aload_n 0, 1) := by decide +kernel
theorem dX9_init_5 : decode cX9_init 5 = .ok (.bipush 10, 2) := by decide +kernel
theorem dX9_init_7 : decode cX9_init 7 = .ok (.anewarray 9, 3) := by decide +kernel
theorem dX9_init_10 : decode cX9_init 10 = .ok (.putfield 11, 3) := by decide +kernel
theorem dX9_init_13 : decode cX9_init 13 = .ok (.aload_n 0, 1) := by decide +kernel
theorem dX9_init_14 : decode cX9_init 14 = .ok (.iconst 0, 1) := by decide +kernel
theorem dX9_init_15 : decode cX9_init 15 = .ok (.putfield 15, 3) := by decide +kernel
theorem dX9_init_18 : decode cX9_init 18 = .ok (.aload_n 0, 1) := by decide +kernel
theorem dX9_init_19 : decode cX9_init 19 = .ok (.bipush 12, 2) := by decide +kernel
theorem dX9_init_21 : decode cX9_init 21 = .ok (.anewarray 19, 3) := by decide +kernel
theorem dX9_init_24 : decode cX9_init 24 = .ok (.putfield 21, 3) := by decide +kernel
theorem dX9_init_27 : decode cX9_init 27 = .ok (.aload_n 0, 1) := by decide +kernel
theorem dX9_init_28 : decode cX9_init 28 = .ok (.iconst 0, 1) := by decide +kernel
theorem dX9_init_29 : decode cX9_init 29 = .ok (.putfield 25, 3) := by decide +kernel
theorem dX9_init_32 : decode cX9_init 32 = .ok (.aload_n 0, 1) := by decide +kernel
theorem dX9_init_33 : decode cX9_init 33 = .ok (.getstatic 28, 3) := by decide +kernel
theorem dX9_init_36 : decode cX9_init 36 = .ok (.invokevirtual 32, 3) := by decide +kernel
theorem dX9_init_39 : decode cX9_init 39 = .ok (.checkcast 33, 3) := by decide +kernel
theorem dX9_init_42 : decode cX9_init 42 = .ok (.putfield 37, 3) := by decide +kernel
theorem dX9_init_45 : decode cX9_init 45 = .ok (.aload_n 0, 1) := by decide +kernel
theorem dX9_init_46 : decode cX9_init 46 = .ok (.bipush 40, 2) := by decide +kernel
theorem dX9_init_48 : decode cX9_init 48 = .ok (.anewarray 40, 3) := by decide +kernel
theorem dX9_init_51 : decode cX9_init 51 = .ok (.putfield 42, 3) := by decide +kernel
theorem dX9_init_54 : decode cX9_init 54 = .ok (.aload_n 0, 1) := by decide +kernel
theorem dX9_init_55 : decode cX9_init 55 = .ok (.iconst 0, 1) := by decide +kernel
theorem dX9_init_56 : decode cX9_init 56 = .ok (.putfield 46, 3) := by decide +kernel
theorem dX9_init_59 : decode cX9_init 59 = .ok (.aload_n 0, 1) := by decide +kernel
theorem dX9_init_60 : decode cX9_init 60 = .ok (.new 49, 3) := by decide +kernel
theorem dX9_init_63 : decode cX9_init 63 = .ok (.dup, 1) := by decide +kernel
theorem dX9_init_64 : decode cX9_init 64 = .ok (.invokespecial 51, 3) := by decide +kernel
theorem dX9_init_67 : decode cX9_init 67 = .ok (.putfield 52, 3) := by decide +kernel
theorem dX9_init_70 : decode cX9_init 70 = .ok (.aload_n 0, 1) := by decide +kernel
theorem dX9_init_71 : decode cX9_init 71 = .ok (.iconst 2, 1) := by decide +kernel
theorem dX9_init_72 : decode cX9_init 72 = .ok (.newarray .int, 2) := by decide +kernel
theorem dX9_init_74 : decode cX9_init 74 = .ok (.putfield 56, 3) := by decide +kernel
theorem dX9_init_77 : decode cX9_init 77 = .ok (.aload_n 0, 1) := by decide +kernel
theorem dX9_init_78 : decode cX9_init 78 = .ok (.new 59, 3) := by decide +kernel
theorem dX9_init_81 : decode cX9_init 81 = .ok (.dup, 1) := by decide +kernel
theorem dX9_init_82 : decode cX9_init 82 = .ok (.invokespecial 61, 3) := by decide +kernel
theorem dX9_init_85 : decode cX9_init 85 = .ok (.putfield 62, 3) := by decide +kernel
theorem dX9_init_88 : decode cX9_init 88 = .ok (.aload_n 0, 1) := by decide +kernel
theorem dX9_init_89 : decode cX9_init 89 = .ok (.bipush 12, 2) := by decide +kernel
theorem dX9_init_91 : decode cX9_init 91 = .ok (.anewarray 66, 3) := by decide +kernel
theorem dX9_init_94 : decode cX9_init 94 = .ok (.putfield 68, 3) := by decide +kernel
theorem dX9_init_97 : decode cX9_init 97 = .ok (.aload_n 0, 1) := by decide +kernel
theorem dX9_init_98 : decode cX9_init 98 = .ok (.iconst 0, 1) := by decide +kernel
theorem dX9_init_99 : decode cX9_init 99 = .ok (.putfield 72, 3) := by decide +kernel
theorem dX9_init_102 : decode cX9_init 102 = .ok (.aload_n 0, 1) := by decide +kernel
theorem dX9_init_103 : decode cX9_init 103 = .ok (.new 75, 3) := by decide +kernel
theorem dX9_init_106 : decode cX9_init 106 = .ok (.dup, 1) := by decide +kernel
theorem dX9_init_107 : decode cX9_init 107 = .ok (.invokespecial 77, 3) := by decide +kernel
theorem dX9_init_110 : decode cX9_init 110 = .ok (.putfield 78, 3) := by decide +kernel
theorem dX9_init_113 : decode cX9_init 113 = .ok (.aload_n 0, 1) := by decide +kernel
theorem dX9_init_114 : decode cX9_init 114 = .ok (.new 82, 3) := by decide +kernel
theorem dX9_init_117 : decode cX9_init 117 = .ok (.dup, 1) := by decide +kernel
theorem dX9_init_118 : decode cX9_init 118 = .ok (.invokespecial 84, 3) := by decide +kernel
theorem dX9_init_121 : decode cX9_init 121 = .ok (.putfield 85, 3) := by decide +kernel
theorem dX9_init_124 : decode cX9_init 124 = .ok (.iconst 0, 1) := by decide +kernel
theorem dX9_init_125 : decode cX9_init 125 = .ok (.istore_n 1, 1) := by decide +kernel
theorem dX9_init_126 : decode cX9_init 126 = .ok (.iload_n 1, 1) := by decide +kernel
theorem dX9_init_127 : decode cX9_init 127 = .ok (.aload_n 0, 1) := by decide +kernel
theorem dX9_init_128 : decode cX9_init 128 = .ok (.getfield 11, 3) := by decide +kernel
theorem dX9_init_131 : decode cX9_init 131 = .ok (.arraylength, 1) := by decide +kernel
theorem dX9_init_132 : decode cX9_init 132 = .ok (.if_icmp .ge 22, 3) := by decide +kernel
theorem dX9_init_135 : decode cX9_init 135 = .ok (.aload_n 0, 1) := by decide +kernel
theorem dX9_init_136 : decode cX9_init 136 = .ok (.getfield 11, 3) := by decide +kernel
theorem dX9_init_139 : decode cX9_init 139 = .ok (.iload_n 1, 1) := by decide +kernel
theorem dX9_init_140 : decode cX9_init 140 = .ok (.new 9, 3) := by decide +kernel
theorem dX9_init_143 : decode cX9_init 143 = .ok (.dup, 1) := by decide +kernel
theorem dX9_init_144 : decode cX9_init 144 = .ok (.invokespecial 89, 3) := by decide +kernel
theorem dX9_init_147 : decode cX9_init 147 = .ok (.aastore, 1) := by decide +kernel
theorem dX9_init_148 : decode cX9_init 148 = .ok (.iinc 1 1, 3) := by decide +kernel
theorem dX9_init_151 : decode cX9_init 151 = .ok (.goto (-25), 3) := by decide +kernel
theorem dX9_init_154 : decode cX9_init 154 = .ok (.iconst 0, 1) := by decide +kernel
theorem dX9_init_155 : decode cX9_init 155 = .ok (.istore_n 1, 1) := by decide +kernel
theorem dX9_init_156 : decode cX9_init 156 = .ok (.iload_n 1, 1) := by decide +kernel
theorem dX9_init_157 : decode cX9_init 157 = .ok (.aload_n 0, 1) := by decide +kernel
theorem dX9_init_158 : decode cX9_init 158 = .ok (.getfield 21, 3) := by decide +kernel
theorem dX9_init_161 : decode cX9_init 161 = .ok (.arraylength, 1) := by decide +kernel
theorem dX9_init_162 : decode cX9_init 162 = .ok (.if_icmp .ge 22, 3) := by decide +kernel
theorem dX9_init_165 : decode cX9_init 165 = .ok (.aload_n 0, 1) := by decide +kernel
theorem dX9_init_166 : decode cX9_init 166 = .ok (.getfield 21, 3) := by decide +kernel
theorem dX9_init_169 : decode cX9_init 169 = .ok (.iload_n 1, 1) := by decide +kernel
theorem dX9_init_170 : decode cX9_init 170 = .ok (.new 19, 3) := by decide +kernel
theorem dX9_init_173 : decode cX9_init 173 = .ok (.dup, 1) := by decide +kernel
theorem dX9_init_174 : decode cX9_init 174 = .ok (.invokespecial 90, 3) := by decide +kernel
theorem dX9_init_177 : decode cX9_init 177 = .ok (.aastore, 1) := by decide +kernel
theorem dX9_init_178 : decode cX9_init 178 = .ok (.iinc 1 1, 3) := by decide +kernel
theorem dX9_init_181 : decode cX9_init 181 = .ok (.goto (-25), 3) := by decide +kernel
theorem dX9_init_184 : decode cX9_init 184 = .ok (.iconst 0, 1) := by decide +kernel
theorem dX9_init_185 : decode cX9_init 185 = .ok (.istore_n 1, 1) := by decide +kernel
theorem dX9_init_186 : decode cX9_init 186 = .ok (.iload_n 1, 1) := by decide +kernel
theorem dX9_init_187 : decode cX9_init 187 = .ok (.aload_n 0, 1) := by decide +kernel
theorem dX9_init_188 : decode cX9_init 188 = .ok (.getfield 42, 3) := by decide +kernel
theorem dX9_init_191 : decode cX9_init 191 = .ok (.arraylength, 1) := by decide +kernel
theorem dX9_init_192 : decode cX9_init 192 = .ok (.if_icmp .ge 22, 3) := by decide +kernel
theorem dX9_init_195 : decode cX9_init 195 = .ok (.aload_n 0, 1) := by decide +kernel
theorem dX9_init_196 : decode cX9_init 196 = .ok (.getfield 42, 3) := by decide +kernel
theorem dX9_init_199 : decode cX9_init 199 = .ok (.iload_n 1, 1) := by decide +kernel
theorem dX9_init_200 : decode cX9_init 200 = .ok (.new 40, 3) := by decide +kernel
theorem dX9_init_203 : decode cX9_init 203 = .ok (.dup, 1) := by decide +kernel
theorem dX9_init_204 : decode cX9_init 204 = .ok (.invokespecial 91, 3) := by decide +kernel
theorem dX9_init_207 : decode cX9_init 207 = .ok (.aastore, 1) := by decide +kernel
theorem dX9_init_208 : decode cX9_init 208 = .ok (.iinc 1 1, 3) := by decide +kernel
theorem dX9_init_211 : decode cX9_init 211 = .ok (.goto (-25), 3) := by decide +kernel
theorem dX9_init_214 : decode cX9_init 214 = .ok (.iconst 0, 1) := by decide +kernel
theorem dX9_init_215 : decode cX9_init 215 = .ok (.istore_n 1, 1) := by decide +kernel
theorem dX9_init_216 : decode cX9_init 216 = .ok (.iload_n 1, 1) := by decide +kernel
theorem dX9_init_217 : decode cX9_init 217 = .ok (.aload_n 0, 1) := by decide +kernel
theorem dX9_init_218 : decode cX9_init 218 = .ok (.getfield 68, 3) := by decide +kernel
theorem dX9_init_221 : decode cX9_init 221 = .ok (.arraylength, 1) := by decide +kernel
theorem dX9_init_222 : decode cX9_init 222 = .ok (.if_icmp .ge 22, 3) := by decide +kernel
theorem dX9_init_225 : decode cX9_init 225 = .ok (.aload_n 0, 1) := by decide +kernel
theorem dX9_init_226 : decode cX9_init 226 = .ok (.getfield 68, 3) := by decide +kernel
theorem dX9_init_229 : decode cX9_init 229 = .ok (.iload_n 1, 1) := by decide +kernel
theorem dX9_init_230 : decode cX9_init 230 = .ok (.new 66, 3) := by decide +kernel
theorem dX9_init_233 : decode cX9_init 233 = .ok (.dup, 1) := by decide +kernel
theorem dX9_init_234 : decode cX9_init 234 = .ok (.invokespecial 92, 3) := by decide +kernel
theorem dX9_init_237 : decode cX9_init 237 = .ok (.aastore, 1) := by decide +kernel
theorem dX9_init_238 : decode cX9_init 238 = .ok (.iinc 1 1, 3) := by decide +kernel
theorem dX9_init_241 : decode cX9_init 241 = .ok (.goto (-25), 3) := by decide +kernel
theorem dX9_init_244 : decode cX9_init 244 = .ok (.return_, 1) := by decide +kernel
set_option maxRecDepth 20000 in
theorem ggX9_kind_X9_isIn : GoodIn wsX9_kind wsX9_isIn := goodIn_r _ [9] (by decide +kernel) (by decide +kernel)
set_option maxRecDepth 20000 in
theorem gX9_kind_X9_isIn : GoodIn wsX9_kind (va_wsS RX9 93 yX9_isIn wsX9_isIn) := goodIn_app (goodIn_of _ (by decide +kernel)) ggX9_kind_X9_isIn
theorem dX9_kind_0 : decode cX9_kind 0 = .ok (.iload_n 1, 1) := by decide +kernel
theorem dX9_kind_1 : decode cX9_kind 1 = .ok (.iconst 0, 1) := by decide +kernel
theorem dX9_kind_2 : decode cX9_kind 2 = .ok (.sipush 2000, 3) := by decide +kernel
theorem dX9_kind_5 : decode cX9_kind 5 = .ok (.invokestatic 93, 3) := by decide +kernel
theorem dX9_kind_8 : decode cX9_kind 8 = .ok (.ifCond .eq 27, 3) := by decide +kernel
theorem dX9_kind_11 : decode cX9_kind 11 = .ok (.iload_n 2, 1) := by decide +kernel
theorem dX9_kind_12 : decode cX9_kind 12 = .ok (.bipush 100, 2) := by decide +kernel
theorem dX9_kind_14 : decode cX9_kind 14 = .ok (.sipush 2000, 3) := by decide +kernel
theorem dX9_kind_17 : decode cX9_kind 17 = .ok (.invokestatic 93, 3) := by decide +kernel
theorem dX9_kind_20 : decode cX9_kind 20 = .ok (.ifCond .eq 15, 3) := by decide +kernel
theorem dX9_kind_23 : decode cX9_kind 23 = .ok (.iload_n 3, 1) := by decide +kernel
theorem dX9_kind_24 : decode cX9_kind 24 = .ok (.bipush 50, 2) := by decide +kernel
theorem dX9_kind_26 : decode cX9_kind 26 = .ok (.sipush 150, 3) := by decide +kernel
theorem dX9_kind_29 : decode cX9_kind 29 = .ok (.invokestatic 93, 3) := by decide +kernel
theorem dX9_kind_32 : decode cX9_kind 32 = .ok (.ifCond .ne 5, 3) := by decide +kernel
theorem dX9_kind_35 : decode cX9_kind 35 = .ok (.iconst (-1), 1) := by decide +kernel
theorem dX9_kind_36 : decode cX9_kind 36 = .ok (.ireturn, 1) := by decide +kernel
theorem dX9_kind_37 : decode cX9_kind 37 = .ok (.aload_n 0, 1) := by decide +kernel
theorem dX9_kind_38 : decode cX9_kind 38 = .ok (.getfield 15, 3) := by decide +kernel
theorem dX9_kind_41 : decode cX9_kind 41 = .ok (.bipush 10, 2) := by decide +kernel
theorem dX9_kind_43 : decode cX9_kind 43 = .ok (.if_icmp .lt 6, 3) := by decide +kernel
theorem dX9_kind_46 : decode cX9_kind 46 = .ok (.bipush (-3), 2) := by decide +kernel
theorem dX9_kind_48 : decode cX9_kind 48 = .ok (.ireturn, 1) := by decide +kernel
theorem dX9_kind_49 : decode cX9_kind 49 = .ok (.aload_n 0, 1) := by decide +kernel
theorem dX9_kind_50 : decode cX9_kind 50 = .ok (.getfield 11, 3) := by decide +kernel
theorem dX9_kind_53 : decode cX9_kind 53 = .ok (.aload_n 0, 1) := by decide +kernel
theorem dX9_kind_54 : decode cX9_kind 54 = .ok (.getfield 15, 3) := by decide +kernel
theorem dX9_kind_57 : decode cX9_kind 57 = .ok (.aaload, 1) := by decide +kernel
theorem dX9_kind_58 : decode cX9_kind 58 = .ok (.astore 4, 2) := by decide +kernel
theorem dX9_kind_60 : decode cX9_kind 60 = .ok (.aload 4, 2) := by decide +kernel
theorem dX9_kind_62 : decode cX9_kind 62 = .ok (.iload_n 1, 1) := by decide +kernel
theorem dX9_kind_63 : decode cX9_kind 63 = .ok (.putfield 97, 3) := by decide +kernel
theorem dX9_kind_66 : decode cX9_kind 66 = .ok (.aload 4, 2) := by decide +kernel
theorem dX9_kind_68 : decode cX9_kind 68 = .ok (.iload_n 2, 1) := by decide +kernel
theorem dX9_kind_69 : decode cX9_kind 69 = .ok (.putfield 100, 3) := by decide +kernel
theorem dX9_kind_72 : decode cX9_kind 72 = .ok (.aload 4, 2) := by decide +kernel
theorem dX9_kind_74 : decode cX9_kind 74 = .ok (.iload_n 3, 1) := by decide +kernel
theorem dX9_kind_75 : decode cX9_kind 75 = .ok (.putfield 103, 3) := by decide +kernel
theorem dX9_kind_78 : decode cX9_kind 78 = .ok (.aload_n 0, 1) := by decide +kernel
theorem dX9_kind_79 : decode cX9_kind 79 = .ok (.dup, 1) := by decide +kernel
theorem dX9_kind_80 : decode cX9_kind 80 = .ok (.getfield 15, 3) := by decide +kernel
theorem dX9_kind_83 : decode cX9_kind 83 = .ok (.iconst 1, 1) := by decide +kernel
theorem dX9_kind_84 : decode cX9_kind 84 = .ok (.iadd, 1) := by decide +kernel
theorem dX9_kind_85 : decode cX9_kind 85 = .ok (.putfield 15, 3) := by decide +kernel
theorem dX9_kind_88 : decode cX9_kind 88 = .ok (.aload_n 0, 1) := by decide +kernel
theorem dX9_kind_89 : decode cX9_kind 89 = .ok (.getfield 15, 3) := by decide +kernel
theorem dX9_kind_92 : decode cX9_kind 92 = .ok (.iconst 1, 1) := by decide +kernel
theorem dX9_kind_93 : decode cX9_kind 93 = .ok (.isub, 1) := by decide +kernel
theorem dX9_kind_94 : decode cX9_kind 94 = .ok (.ireturn, 1) := by decide +kernel
set_option maxRecDepth 20000 in
theorem ggX9_recipe_X9_isIn : GoodIn wsX9_recipe wsX9_isIn := goodIn_r _ [7] (by decide +kernel) (by decide +kernel)
set_option maxRecDepth 20000 in
theorem gX9_recipe_X9_isIn : GoodIn wsX9_recipe (va_wsS RX9 93 yX9_isIn wsX9_isIn) := goodIn_app (goodIn_of _ (by decide +kernel)) ggX9_recipe_X9_isIn
theorem dX9_recipe_0 : decode cX9_recipe 0 = .ok (.iload_n 1, 1) := by decide +kernel
theorem dX9_recipe_1 : decode cX9_recipe 1 = .ok (.iconst 0, 1) := by decide +kernel
theorem dX9_recipe_2 : decode cX9_recipe 2 = .ok (.sipush 10000, 3) := by decide +kernel
theorem dX9_recipe_5 : decode cX9_recipe 5 = .ok (.invokestatic 93, 3) := by decide +kernel
theorem dX9_recipe_8 : decode cX9_recipe 8 = .ok (.ifCond .ne 5, 3) := by decide +kernel
theorem dX9_recipe_11 : decode cX9_recipe 11 = .ok (.iconst (-1), 1) := by decide +kernel
theorem dX9_recipe_12 : decode cX9_recipe 12 = .ok (.ireturn, 1) := by decide +kernel
theorem dX9_recipe_13 : decode cX9_recipe 13 = .ok (.aload_n 0, 1) := by decide +kernel
theorem dX9_recipe_14 : decode cX9_recipe 14 = .ok (.getfield 25, 3) := by decide +kernel
theorem dX9_recipe_17 : decode cX9_recipe 17 = .ok (.bipush 12, 2) := by decide +kernel
theorem dX9_recipe_19 : decode cX9_recipe 19 = .ok (.if_icmp .lt 6, 3) := by decide +kernel
theorem dX9_recipe_22 : decode cX9_recipe 22 = .ok (.bipush (-3), 2) := by decide +kernel
theorem dX9_recipe_24 : decode cX9_recipe 24 = .ok (.ireturn, 1) := by decide +kernel
theorem dX9_recipe_25 : decode cX9_recipe 25 = .ok (.aload_n 0, 1) := by decide +kernel
theorem dX9_recipe_26 : decode cX9_recipe 26 = .ok (.getfield 21, 3) := by decide +kernel
theorem dX9_recipe_29 : decode cX9_recipe 29 = .ok (.aload_n 0, 1) := by decide +kernel
theorem dX9_recipe_30 : decode cX9_recipe 30 = .ok (.getfield 25, 3) := by decide +kernel
theorem dX9_recipe_33 : decode cX9_recipe 33 = .ok (.aaload, 1) := by decide +kernel
theorem dX9_recipe_34 : decode cX9_recipe 34 = .ok (.iload_n 1, 1) := by decide +kernel
theorem dX9_recipe_35 : decode cX9_recipe 35 = .ok (.putfield 106, 3) := by decide +kernel
theorem dX9_recipe_38 : decode cX9_recipe 38 = .ok (.aload_n 0, 1) := by decide +kernel
theorem dX9_recipe_39 : decode cX9_recipe 39 = .ok (.dup, 1) := by decide +kernel
theorem dX9_recipe_40 : decode cX9_recipe 40 = .ok (.getfield 25, 3) := by decide +kernel
theorem dX9_recipe_43 : decode cX9_recipe 43 = .ok (.iconst 1, 1) := by decide +kernel
theorem dX9_recipe_44 : decode cX9_recipe 44 = .ok (.iadd, 1) := by decide +kernel
theorem dX9_recipe_45 : decode cX9_recipe 45 = .ok (.putfield 25, 3) := by decide +kernel
theorem dX9_recipe_48 : decode cX9_recipe 48 = .ok (.aload_n 0, 1) := by decide +kernel
theorem dX9_recipe_49 : decode cX9_recipe 49 = .ok (.getfield 25, 3) := by decide +kernel
theorem dX9_recipe_52 : decode cX9_recipe 52 = .ok (.iconst 1, 1) := by decide +kernel
theorem dX9_recipe_53 : decode cX9_recipe 53 = .ok (.isub, 1) := by decide +kernel
theorem dX9_recipe_54 : decode cX9_recipe 54 = .ok (.ireturn, 1) := by decide +kernel
set_option maxRecDepth 20000 in
theorem ggX9_part_X9_isRecipe : GoodIn wsX9_part wsX9_isRecipe := goodIn_r _ [8, 9, 10, 11, 7, 12, 25, 26, 27, 28, 29, 30, 31, 32, 33, 34, 35, 36, 37, 38] (by decide +kernel) (by decide +kernel)
set_option maxRecDepth 20000 in
theorem gX9_part_X9_isRecipe : GoodIn wsX9_part (wsV RX9 109 RX9 yX9_isRecipe wsX9_isRecipe) := goodIn_app (goodIn_of _ (by decide +kernel)) ggX9_part_X9_isRecipe
set_option maxRecDepth 20000 in
theorem ggX9_part_X9_isKind : GoodIn wsX9_part wsX9_isKind := goodIn_r _ [16, 17, 10, 11, 7, 12, 25, 26, 27, 28, 29, 30, 31, 32, 33, 34, 35, 36, 37, 38] (by decide +kernel) (by decide +kernel)
set_option maxRecDepth 20000 in
theorem gX9_part_X9_isKind : GoodIn wsX9_part (wsV RX9 113 RX9 yX9_isKind wsX9_isKind) := goodIn_app (goodIn_of _ (by decide +kernel)) ggX9_part_X9_isKind
set_option maxRecDepth 20000 in
theorem ggX9_part_X9_isIn : GoodIn wsX9_part wsX9_isIn := goodIn_r _ [12] (by decide +kernel) (by decide +kernel)
set_option maxRecDepth 20000 in
theorem gX9_part_X9_isIn : GoodIn wsX9_part (va_wsS RX9 93 yX9_isIn wsX9_isIn) := goodIn_app (goodIn_of _ (by decide +kernel)) ggX9_part_X9_isIn
set_option maxRecDepth 20000 in
theorem ggX9_part_X6_putParts : GoodIn wsX9_part wsX6_putParts := goodIn_r _ [22, 23, 24, 39, 40, 41, 42] (by decide +kernel) (by decide +kernel)
set_option maxRecDepth 20000 in
theorem gX9_part_X6_putParts : GoodIn wsX9_part (wsV RX9 119 RX6 yX6_putParts wsX6_putParts) := goodIn_app (goodIn_of _ (by decide +kernel)) ggX9_part_X6_putParts
theorem dX9_part_0 : decode cX9_part 0 = .ok (.aload_n 0, 1) := by decide +kernel
theorem dX9_part_1 : decode cX9_part 1 = .ok (.iload_n 1, 1) := by decide +kernel
theorem dX9_part_2 : decode cX9_part 2 = .ok (.invokevirtual 109, 3) := by decide +kernel
theorem dX9_part_5 : decode cX9_part 5 = .ok (.ifCond .eq 21, 3) := by decide +kernel
theorem dX9_part_8 : decode cX9_part 8 = .ok (.aload_n 0, 1) := by decide +kernel
theorem dX9_part_9 : decode cX9_part 9 = .ok (.iload_n 2, 1) := by decide +kernel
theorem dX9_part_10 : decode cX9_part 10 = .ok (.invokevirtual 113, 3) := by decide +kernel
theorem dX9_part_13 : decode cX9_part 13 = .ok (.ifCond .eq 13, 3) := by decide +kernel
theorem dX9_part_16 : decode cX9_part 16 = .ok (.iload_n 3, 1) := by decide +kernel
theorem dX9_part_17 : decode cX9_part 17 = .ok (.iconst 0, 1) := by decide +kernel
theorem dX9_part_18 : decode cX9_part 18 = .ok (.bipush 20, 2) := by decide +kernel
theorem dX9_part_20 : decode cX9_part 20 = .ok (.invokestatic 93, 3) := by decide +kernel
theorem dX9_part_23 : decode cX9_part 23 = .ok (.ifCond .ne 5, 3) := by decide +kernel
theorem dX9_part_26 : decode cX9_part 26 = .ok (.iconst (-1), 1) := by decide +kernel
theorem dX9_part_27 : decode cX9_part 27 = .ok (.ireturn, 1) := by decide +kernel
theorem dX9_part_28 : decode cX9_part 28 = .ok (.aload_n 0, 1) := by decide +kernel
theorem dX9_part_29 : decode cX9_part 29 = .ok (.getfield 21, 3) := by decide +kernel
theorem dX9_part_32 : decode cX9_part 32 = .ok (.iload_n 1, 1) := by decide +kernel
theorem dX9_part_33 : decode cX9_part 33 = .ok (.aaload, 1) := by decide +kernel
theorem dX9_part_34 : decode cX9_part 34 = .ok (.getfield 116, 3) := by decide +kernel
theorem dX9_part_37 : decode cX9_part 37 = .ok (.aload_n 0, 1) := by decide +kernel
theorem dX9_part_38 : decode cX9_part 38 = .ok (.getfield 46, 3) := by decide +kernel
theorem dX9_part_41 : decode cX9_part 41 = .ok (.if_icmp .ne 6, 3) := by decide +kernel
theorem dX9_part_44 : decode cX9_part 44 = .ok (.bipush (-2), 2) := by decide +kernel
theorem dX9_part_46 : decode cX9_part 46 = .ok (.ireturn, 1) := by decide +kernel
theorem dX9_part_47 : decode cX9_part 47 = .ok (.aload_n 0, 1) := by decide +kernel
theorem dX9_part_48 : decode cX9_part 48 = .ok (.getfield 21, 3) := by decide +kernel
theorem dX9_part_51 : decode cX9_part 51 = .ok (.iload_n 1, 1) := by decide +kernel
theorem dX9_part_52 : decode cX9_part 52 = .ok (.aaload, 1) := by decide +kernel
theorem dX9_part_53 : decode cX9_part 53 = .ok (.iload_n 2, 1) := by decide +kernel
theorem dX9_part_54 : decode cX9_part 54 = .ok (.iload_n 3, 1) := by decide +kernel
theorem dX9_part_55 : decode cX9_part 55 = .ok (.invokevirtual 119, 3) := by decide +kernel
theorem dX9_part_58 : decode cX9_part 58 = .ok (.ireturn, 1) := by decide +kernel
set_option maxRecDepth 20000 in
theorem ggX9_rule_X9_isIn : GoodIn wsX9_rule wsX9_isIn := goodIn_r _ [6] (by decide +kernel) (by decide +kernel)
set_option maxRecDepth 20000 in
theorem gX9_rule_X9_isIn : GoodIn wsX9_rule (va_wsS RX9 93 yX9_isIn wsX9_isIn) := goodIn_app (goodIn_of _ (by decide +kernel)) ggX9_rule_X9_isIn
theorem dX9_rule_0 : decode cX9_rule 0 = .ok (.iload_n 1, 1) := by decide +kernel
theorem dX9_rule_1 : decode cX9_rule 1 = .ok (.iconst 0, 1) := by decide +kernel
theorem dX9_rule_2 : decode cX9_rule 2 = .ok (.aload_n 0, 1) := by decide +kernel
theorem dX9_rule_3 : decode cX9_rule 3 = .ok (.getfield 37, 3) := by decide +kernel
theorem dX9_rule_6 : decode cX9_rule 6 = .ok (.arraylength, 1) := by decide +kernel
theorem dX9_rule_7 : decode cX9_rule 7 = .ok (.iconst 1, 1) := by decide +kernel
theorem dX9_rule_8 : decode cX9_rule 8 = .ok (.isub, 1) := by decide +kernel
theorem dX9_rule_9 : decode cX9_rule 9 = .ok (.invokestatic 93, 3) := by decide +kernel
theorem dX9_rule_12 : decode cX9_rule 12 = .ok (.ifCond .eq 16, 3) := by decide +kernel
theorem dX9_rule_15 : decode cX9_rule 15 = .ok (.iload_n 2, 1) := by decide +kernel
theorem dX9_rule_16 : decode cX9_rule 16 = .ok (.iconst 0, 1) := by decide +kernel
theorem dX9_rule_17 : decode cX9_rule 17 = .ok (.getstatic 123, 3) := by decide +kernel
theorem dX9_rule_20 : decode cX9_rule 20 = .ok (.iload_n 1, 1) := by decide +kernel
theorem dX9_rule_21 : decode cX9_rule 21 = .ok (.iaload, 1) := by decide +kernel
theorem dX9_rule_22 : decode cX9_rule 22 = .ok (.invokestatic 93, 3) := by decide +kernel
theorem dX9_rule_25 : decode cX9_rule 25 = .ok (.ifCond .ne 5, 3) := by decide +kernel
theorem dX9_rule_28 : decode cX9_rule 28 = .ok (.iconst (-1), 1) := by decide +kernel
theorem dX9_rule_29 : decode cX9_rule 29 = .ok (.ireturn, 1) := by decide +kernel
theorem dX9_rule_30 : decode cX9_rule 30 = .ok (.aload_n 0, 1) := by decide +kernel
theorem dX9_rule_31 : decode cX9_rule 31 = .ok (.getfield 37, 3) := by decide +kernel
theorem dX9_rule_34 : decode cX9_rule 34 = .ok (.iload_n 1, 1) := by decide +kernel
theorem dX9_rule_35 : decode cX9_rule 35 = .ok (.iaload, 1) := by decide +kernel
theorem dX9_rule_36 : decode cX9_rule 36 = .ok (.istore_n 3, 1) := by decide +kernel
theorem dX9_rule_37 : decode cX9_rule 37 = .ok (.aload_n 0, 1) := by decide +kernel
theorem dX9_rule_38 : decode cX9_rule 38 = .ok (.getfield 37, 3) := by decide +kernel
theorem dX9_rule_41 : decode cX9_rule 41 = .ok (.iload_n 1, 1) := by decide +kernel
theorem dX9_rule_42 : decode cX9_rule 42 = .ok (.iload_n 2, 1) := by decide +kernel
theorem dX9_rule_43 : decode cX9_rule 43 = .ok (.iastore, 1) := by decide +kernel
theorem dX9_rule_44 : decode cX9_rule 44 = .ok (.iload_n 3, 1) := by decide +kernel
theorem dX9_rule_45 : decode cX9_rule 45 = .ok (.ireturn, 1) := by decide +kernel
set_option maxRecDepth 20000 in
theorem ggX9_receive_X9_isKind : GoodIn wsX9_receive wsX9_isKind := goodIn_r _ [7, 8, 9, 10, 6, 11, 64, 65, 66, 67, 68, 69, 70, 71, 72, 73, 74, 75, 76, 77] (by decide +kernel) (by decide +kernel)
set_option maxRecDepth 20000 in
theorem gX9_receive_X9_isKind : GoodIn wsX9_receive (wsV RX9 113 RX9 yX9_isKind wsX9_isKind) := goodIn_app (goodIn_of _ (by decide +kernel)) ggX9_receive_X9_isKind
set_option maxRecDepth 20000 in
theorem ggX9_receive_X9_isIn : GoodIn wsX9_receive wsX9_isIn := goodIn_r _ [11] (by decide +kernel) (by decide +kernel)
set_option maxRecDepth 20000 in
theorem gX9_receive_X9_isIn : GoodIn wsX9_receive (va_wsS RX9 93 yX9_isIn wsX9_isIn) := goodIn_app (goodIn_of _ (by decide +kernel)) ggX9_receive_X9_isIn
set_option maxRecDepth 20000 in
theorem ggX9_receive_X9_carryOut : GoodIn wsX9_receive wsX9_carryOut := goodIn_r _ [15, 16, 17, 18, 19, 20, 21, 22, 23, 24, 25, 26, 27, 28, 29, 30, 31, 32, 33, 34, 35, 36, 6, 37, 38, 39, 40, 1, 41, 42, 43, 44, 45, 46, 47, 48, 49, 50, 8, 51, 52, 53, 54, 55, 56, 57, 58, 59, 60, 61, 62, 63, 64, 65, 66, 67, 68, 69, 70, 71, 72, 73, 74, 75, 76, 77, 85, 86, 87, 88, 89, 90, 91, 92, 93, 94, 95, 96, 97, 98, 99, 100, 101, 78, 79, 80, 81, 82, 83, 84] (by decide +kernel) (by decide +kernel)
set_option maxRecDepth 20000 in
theorem gX9_receive_X9_carryOut : GoodIn wsX9_receive (wsV RX9 129 RX9 yX9_carryOut wsX9_carryOut) := goodIn_app (goodIn_of _ (by decide +kernel)) ggX9_receive_X9_carryOut
theorem dX9_receive_0 : decode cX9_receive 0 = .ok (.aload_n 0, 1) := by decide +kernel
theorem dX9_receive_1 : decode cX9_receive 1 = .ok (.iload_n 1, 1) := by decide +kernel
theorem dX9_receive_2 : decode cX9_receive 2 = .ok (.invokevirtual 113, 3) := by decide +kernel
theorem dX9_receive_5 : decode cX9_receive 5 = .ok (.ifCond .eq 13, 3) := by decide +kernel
theorem dX9_receive_8 : decode cX9_receive 8 = .ok (.iload_n 2, 1) := by decide +kernel
theorem dX9_receive_9 : decode cX9_receive 9 = .ok (.iconst 1, 1) := by decide +kernel
theorem dX9_receive_10 : decode cX9_receive 10 = .ok (.bipush 100, 2) := by decide +kernel
theorem dX9_receive_12 : decode cX9_receive 12 = .ok (.invokestatic 93, 3) := by decide +kernel
theorem dX9_receive_15 : decode cX9_receive 15 = .ok (.ifCond .ne 5, 3) := by decide +kernel
theorem dX9_receive_18 : decode cX9_receive 18 = .ok (.iconst (-1), 1) := by decide +kernel
theorem dX9_receive_19 : decode cX9_receive 19 = .ok (.ireturn, 1) := by decide +kernel
theorem dX9_receive_20 : decode cX9_receive 20 = .ok (.aload_n 0, 1) := by decide +kernel
theorem dX9_receive_21 : decode cX9_receive 21 = .ok (.getfield 11, 3) := by decide +kernel
theorem dX9_receive_24 : decode cX9_receive 24 = .ok (.iload_n 1, 1) := by decide +kernel
theorem dX9_receive_25 : decode cX9_receive 25 = .ok (.aaload, 1) := by decide +kernel
theorem dX9_receive_26 : decode cX9_receive 26 = .ok (.getfield 126, 3) := by decide +kernel
theorem dX9_receive_29 : decode cX9_receive 29 = .ok (.iload_n 2, 1) := by decide +kernel
theorem dX9_receive_30 : decode cX9_receive 30 = .ok (.iadd, 1) := by decide +kernel
theorem dX9_receive_31 : decode cX9_receive 31 = .ok (.sipush 1000, 3) := by decide +kernel
theorem dX9_receive_34 : decode cX9_receive 34 = .ok (.if_icmp .le 6, 3) := by decide +kernel
theorem dX9_receive_37 : decode cX9_receive 37 = .ok (.bipush (-3), 2) := by decide +kernel
theorem dX9_receive_39 : decode cX9_receive 39 = .ok (.ireturn, 1) := by decide +kernel
theorem dX9_receive_40 : decode cX9_receive 40 = .ok (.aload_n 0, 1) := by decide +kernel
theorem dX9_receive_41 : decode cX9_receive 41 = .ok (.iconst 0, 1) := by decide +kernel
theorem dX9_receive_42 : decode cX9_receive 42 = .ok (.iconst 0, 1) := by decide +kernel
theorem dX9_receive_43 : decode cX9_receive 43 = .ok (.iload_n 1, 1) := by decide +kernel
theorem dX9_receive_44 : decode cX9_receive 44 = .ok (.iload_n 2, 1) := by decide +kernel
theorem dX9_receive_45 : decode cX9_receive 45 = .ok (.iconst 0, 1) := by decide +kernel
theorem dX9_receive_46 : decode cX9_receive 46 = .ok (.invokevirtual 129, 3) := by decide +kernel
theorem dX9_receive_49 : decode cX9_receive 49 = .ok (.aload_n 0, 1) := by decide +kernel
theorem dX9_receive_50 : decode cX9_receive 50 = .ok (.getfield 11, 3) := by decide +kernel
theorem dX9_receive_53 : decode cX9_receive 53 = .ok (.iload_n 1, 1) := by decide +kernel
theorem dX9_receive_54 : decode cX9_receive 54 = .ok (.aaload, 1) := by decide +kernel
theorem dX9_receive_55 : decode cX9_receive 55 = .ok (.getfield 126, 3) := by decide +kernel
theorem dX9_receive_58 : decode cX9_receive 58 = .ok (.ireturn, 1) := by decide +kernel
set_option maxRecDepth 20000 in
theorem ggX9_issue_X9_isBar : GoodIn wsX9_issue wsX9_isBar := goodIn_r _ [9, 10, 11, 8, 12] (by decide +kernel) (by decide +kernel)
set_option maxRecDepth 20000 in
theorem gX9_issue_X9_isBar : GoodIn wsX9_issue (va_wsS RX9 133 yX9_isBar wsX9_isBar) := goodIn_app (goodIn_of _ (by decide +kernel)) ggX9_issue_X9_isBar
set_option maxRecDepth 20000 in
theorem ggX9_issue_X9_isKind : GoodIn wsX9_issue wsX9_isKind := goodIn_r _ [16, 17, 10, 11, 8, 12, 70, 71, 72, 73, 74, 75, 76, 77, 78, 79, 80, 81, 82, 83] (by decide +kernel) (by decide +kernel)
set_option maxRecDepth 20000 in
theorem gX9_issue_X9_isKind : GoodIn wsX9_issue (wsV RX9 113 RX9 yX9_isKind wsX9_isKind) := goodIn_app (goodIn_of _ (by decide +kernel)) ggX9_issue_X9_isKind
set_option maxRecDepth 20000 in
theorem ggX9_issue_X9_isIn : GoodIn wsX9_issue wsX9_isIn := goodIn_r _ [12] (by decide +kernel) (by decide +kernel)
set_option maxRecDepth 20000 in
theorem gX9_issue_X9_isIn : GoodIn wsX9_issue (va_wsS RX9 93 yX9_isIn wsX9_isIn) := goodIn_app (goodIn_of _ (by decide +kernel)) ggX9_issue_X9_isIn
set_option maxRecDepth 20000 in
theorem ggX9_issue_X9_carryOut : GoodIn wsX9_issue wsX9_carryOut := goodIn_r _ [21, 22, 23, 24, 25, 26, 27, 28, 29, 30, 31, 32, 33, 34, 35, 36, 37, 38, 39, 40, 41, 42, 8, 43, 44, 45, 46, 2, 47, 48, 49, 50, 51, 52, 53, 54, 55, 56, 17, 57, 58, 59, 60, 61, 62, 63, 64, 65, 66, 67, 68, 69, 70, 71, 72, 73, 74, 75, 76, 77, 78, 79, 80, 81, 82, 83, 91, 92, 93, 94, 95, 96, 97, 98, 99, 100, 101, 102, 103, 104, 105, 106, 107, 84, 85, 86, 87, 88, 89, 90] (by decide +kernel) (by decide +kernel)
set_option maxRecDepth 20000 in
theorem gX9_issue_X9_carryOut : GoodIn wsX9_issue (wsV RX9 129 RX9 yX9_carryOut wsX9_carryOut) := goodIn_app (goodIn_of _ (by decide +kernel)) ggX9_issue_X9_carryOut
theorem dX9_issue_0 : decode cX9_issue 0 = .ok (.iload_n 1, 1) := by decide +kernel
theorem dX9_issue_1 : decode cX9_issue 1 = .ok (.invokestatic 133, 3) := by decide +kernel
theorem dX9_issue_4 : decode cX9_issue 4 = .ok (.ifCond .eq 21, 3) := by decide +kernel
theorem dX9_issue_7 : decode cX9_issue 7 = .ok (.aload_n 0, 1) := by decide +kernel
theorem dX9_issue_8 : decode cX9_issue 8 = .ok (.iload_n 2, 1) := by decide +kernel
theorem dX9_issue_9 : decode cX9_issue 9 = .ok (.invokevirtual 113, 3) := by decide +kernel
theorem dX9_issue_12 : decode cX9_issue 12 = .ok (.ifCond .eq 13, 3) := by decide +kernel
theorem dX9_issue_15 : decode cX9_issue 15 = .ok (.iload_n 3, 1) := by decide +kernel
theorem dX9_issue_16 : decode cX9_issue 16 = .ok (.iconst 1, 1) := by decide +kernel
theorem dX9_issue_17 : decode cX9_issue 17 = .ok (.bipush 100, 2) := by decide +kernel
theorem dX9_issue_19 : decode cX9_issue 19 = .ok (.invokestatic 93, 3) := by decide +kernel
theorem dX9_issue_22 : decode cX9_issue 22 = .ok (.ifCond .ne 6, 3) := by decide +kernel
theorem dX9_issue_25 : decode cX9_issue 25 = .ok (.ldc 136, 2) := by decide +kernel
theorem dX9_issue_27 : decode cX9_issue 27 = .ok (.ireturn, 1) := by decide +kernel
theorem dX9_issue_28 : decode cX9_issue 28 = .ok (.aload_n 0, 1) := by decide +kernel
theorem dX9_issue_29 : decode cX9_issue 29 = .ok (.getfield 11, 3) := by decide +kernel
theorem dX9_issue_32 : decode cX9_issue 32 = .ok (.iload_n 2, 1) := by decide +kernel
theorem dX9_issue_33 : decode cX9_issue 33 = .ok (.aaload, 1) := by decide +kernel
theorem dX9_issue_34 : decode cX9_issue 34 = .ok (.getfield 126, 3) := by decide +kernel
theorem dX9_issue_37 : decode cX9_issue 37 = .ok (.iload_n 3, 1) := by decide +kernel
theorem dX9_issue_38 : decode cX9_issue 38 = .ok (.if_icmp .ge 6, 3) := by decide +kernel
theorem dX9_issue_41 : decode cX9_issue 41 = .ok (.ldc 137, 2) := by decide +kernel
theorem dX9_issue_43 : decode cX9_issue 43 = .ok (.ireturn, 1) := by decide +kernel
theorem dX9_issue_44 : decode cX9_issue 44 = .ok (.aload_n 0, 1) := by decide +kernel
theorem dX9_issue_45 : decode cX9_issue 45 = .ok (.iconst 1, 1) := by decide +kernel
theorem dX9_issue_46 : decode cX9_issue 46 = .ok (.iload_n 1, 1) := by decide +kernel
theorem dX9_issue_47 : decode cX9_issue 47 = .ok (.iload_n 2, 1) := by decide +kernel
theorem dX9_issue_48 : decode cX9_issue 48 = .ok (.iload_n 3, 1) := by decide +kernel
theorem dX9_issue_49 : decode cX9_issue 49 = .ok (.iconst 0, 1) := by decide +kernel
theorem dX9_issue_50 : decode cX9_issue 50 = .ok (.invokevirtual 129, 3) := by decide +kernel
theorem dX9_issue_53 : decode cX9_issue 53 = .ok (.aload_n 0, 1) := by decide +kernel
theorem dX9_issue_54 : decode cX9_issue 54 = .ok (.getfield 11, 3) := by decide +kernel
theorem dX9_issue_57 : decode cX9_issue 57 = .ok (.iload_n 2, 1) := by decide +kernel
theorem dX9_issue_58 : decode cX9_issue 58 = .ok (.aaload, 1) := by decide +kernel
theorem dX9_issue_59 : decode cX9_issue 59 = .ok (.getfield 138, 3) := by decide +kernel
theorem dX9_issue_62 : decode cX9_issue 62 = .ok (.iload_n 1, 1) := by decide +kernel
theorem dX9_issue_63 : decode cX9_issue 63 = .ok (.iaload, 1) := by decide +kernel
theorem dX9_issue_64 : decode cX9_issue 64 = .ok (.ireturn, 1) := by decide +kernel
set_option maxRecDepth 20000 in
theorem ggX9_lend_X9_isBar : GoodIn wsX9_lend wsX9_isBar := goodIn_r _ [8, 9, 10, 7, 11] (by decide +kernel) (by decide +kernel)
set_option maxRecDepth 20000 in
theorem gX9_lend_X9_isBar : GoodIn wsX9_lend (va_wsS RX9 133 yX9_isBar wsX9_isBar) := goodIn_app (goodIn_of _ (by decide +kernel)) ggX9_lend_X9_isBar
set_option maxRecDepth 20000 in
theorem ggX9_lend_X9_isKind : GoodIn wsX9_lend wsX9_isKind := goodIn_r _ [15, 16, 9, 10, 7, 11, 69, 70, 71, 72, 73, 74, 75, 76, 77, 78, 79, 80, 81, 82] (by decide +kernel) (by decide +kernel)
set_option maxRecDepth 20000 in
theorem gX9_lend_X9_isKind : GoodIn wsX9_lend (wsV RX9 113 RX9 yX9_isKind wsX9_isKind) := goodIn_app (goodIn_of _ (by decide +kernel)) ggX9_lend_X9_isKind
set_option maxRecDepth 20000 in
theorem ggX9_lend_X9_isIn : GoodIn wsX9_lend wsX9_isIn := goodIn_r _ [11] (by decide +kernel) (by decide +kernel)
set_option maxRecDepth 20000 in
theorem gX9_lend_X9_isIn : GoodIn wsX9_lend (va_wsS RX9 93 yX9_isIn wsX9_isIn) := goodIn_app (goodIn_of _ (by decide +kernel)) ggX9_lend_X9_isIn
set_option maxRecDepth 20000 in
theorem ggX9_lend_X9_carryOut : GoodIn wsX9_lend wsX9_carryOut := goodIn_r _ [20, 21, 22, 23, 24, 25, 26, 27, 28, 29, 30, 31, 32, 33, 34, 35, 36, 37, 38, 39, 40, 41, 7, 42, 43, 44, 45, 2, 46, 47, 48, 49, 50, 51, 52, 53, 54, 55, 16, 56, 57, 58, 59, 60, 61, 62, 63, 64, 65, 66, 67, 68, 69, 70, 71, 72, 73, 74, 75, 76, 77, 78, 79, 80, 81, 82, 90, 91, 92, 93, 94, 95, 96, 97, 98, 99, 100, 101, 102, 103, 104, 105, 106, 83, 84, 85, 86, 87, 88, 89] (by decide +kernel) (by decide +kernel)
set_option maxRecDepth 20000 in
theorem gX9_lend_X9_carryOut : GoodIn wsX9_lend (wsV RX9 129 RX9 yX9_carryOut wsX9_carryOut) := goodIn_app (goodIn_of _ (by decide +kernel)) ggX9_lend_X9_carryOut
theorem dX9_lend_0 : decode cX9_lend 0 = .ok (.iload_n 1, 1) := by decide +kernel
theorem dX9_lend_1 : decode cX9_lend 1 = .ok (.invokestatic 133, 3) := by decide +kernel
theorem dX9_lend_4 : decode cX9_lend 4 = .ok (.ifCond .eq 22, 3) := by decide +kernel
theorem dX9_lend_7 : decode cX9_lend 7 = .ok (.aload_n 0, 1) := by decide +kernel
theorem dX9_lend_8 : decode cX9_lend 8 = .ok (.iload_n 2, 1) := by decide +kernel
theorem dX9_lend_9 : decode cX9_lend 9 = .ok (.invokevirtual 113, 3) := by decide +kernel
theorem dX9_lend_12 : decode cX9_lend 12 = .ok (.ifCond .eq 14, 3) := by decide +kernel
theorem dX9_lend_15 : decode cX9_lend 15 = .ok (.iload_n 3, 1) := by decide +kernel
theorem dX9_lend_16 : decode cX9_lend 16 = .ok (.iconst 1, 1) := by decide +kernel
theorem dX9_lend_17 : decode cX9_lend 17 = .ok (.sipush 10000, 3) := by decide +kernel
theorem dX9_lend_20 : decode cX9_lend 20 = .ok (.invokestatic 93, 3) := by decide +kernel
theorem dX9_lend_23 : decode cX9_lend 23 = .ok (.ifCond .ne 6, 3) := by decide +kernel
theorem dX9_lend_26 : decode cX9_lend 26 = .ok (.ldc 136, 2) := by decide +kernel
theorem dX9_lend_28 : decode cX9_lend 28 = .ok (.ireturn, 1) := by decide +kernel
theorem dX9_lend_29 : decode cX9_lend 29 = .ok (.aload_n 0, 1) := by decide +kernel
theorem dX9_lend_30 : decode cX9_lend 30 = .ok (.getfield 11, 3) := by decide +kernel
theorem dX9_lend_33 : decode cX9_lend 33 = .ok (.iload_n 2, 1) := by decide +kernel
theorem dX9_lend_34 : decode cX9_lend 34 = .ok (.aaload, 1) := by decide +kernel
theorem dX9_lend_35 : decode cX9_lend 35 = .ok (.getfield 138, 3) := by decide +kernel
theorem dX9_lend_38 : decode cX9_lend 38 = .ok (.iload_n 1, 1) := by decide +kernel
theorem dX9_lend_39 : decode cX9_lend 39 = .ok (.iaload, 1) := by decide +kernel
theorem dX9_lend_40 : decode cX9_lend 40 = .ok (.iload_n 3, 1) := by decide +kernel
theorem dX9_lend_41 : decode cX9_lend 41 = .ok (.if_icmp .ge 6, 3) := by decide +kernel
theorem dX9_lend_44 : decode cX9_lend 44 = .ok (.ldc 137, 2) := by decide +kernel
theorem dX9_lend_46 : decode cX9_lend 46 = .ok (.ireturn, 1) := by decide +kernel
theorem dX9_lend_47 : decode cX9_lend 47 = .ok (.aload_n 0, 1) := by decide +kernel
theorem dX9_lend_48 : decode cX9_lend 48 = .ok (.iconst 2, 1) := by decide +kernel
theorem dX9_lend_49 : decode cX9_lend 49 = .ok (.iload_n 1, 1) := by decide +kernel
theorem dX9_lend_50 : decode cX9_lend 50 = .ok (.iload_n 2, 1) := by decide +kernel
theorem dX9_lend_51 : decode cX9_lend 51 = .ok (.iload_n 3, 1) := by decide +kernel
theorem dX9_lend_52 : decode cX9_lend 52 = .ok (.iconst 0, 1) := by decide +kernel
theorem dX9_lend_53 : decode cX9_lend 53 = .ok (.invokevirtual 129, 3) := by decide +kernel
theorem dX9_lend_56 : decode cX9_lend 56 = .ok (.aload_n 0, 1) := by decide +kernel
theorem dX9_lend_57 : decode cX9_lend 57 = .ok (.getfield 11, 3) := by decide +kernel
theorem dX9_lend_60 : decode cX9_lend 60 = .ok (.iload_n 2, 1) := by decide +kernel
theorem dX9_lend_61 : decode cX9_lend 61 = .ok (.aaload, 1) := by decide +kernel
theorem dX9_lend_62 : decode cX9_lend 62 = .ok (.getfield 138, 3) := by decide +kernel
theorem dX9_lend_65 : decode cX9_lend 65 = .ok (.iconst 1, 1) := by decide +kernel
theorem dX9_lend_66 : decode cX9_lend 66 = .ok (.iload_n 1, 1) := by decide +kernel
theorem dX9_lend_67 : decode cX9_lend 67 = .ok (.isub, 1) := by decide +kernel
theorem dX9_lend_68 : decode cX9_lend 68 = .ok (.iaload, 1) := by decide +kernel
theorem dX9_lend_69 : decode cX9_lend 69 = .ok (.ireturn, 1) := by decide +kernel
set_option maxRecDepth 20000 in
theorem ggX9_sell_X9_isBar : GoodIn wsX9_sell wsX9_isBar := goodIn_r _ [7, 8, 9, 6, 10] (by decide +kernel) (by decide +kernel)
set_option maxRecDepth 20000 in
theorem gX9_sell_X9_isBar : GoodIn wsX9_sell (va_wsS RX9 133 yX9_isBar wsX9_isBar) := goodIn_app (goodIn_of _ (by decide +kernel)) ggX9_sell_X9_isBar
set_option maxRecDepth 20000 in
theorem ggX9_sell_X9_isRecipe : GoodIn wsX9_sell wsX9_isRecipe := goodIn_r _ [14, 15, 8, 9, 6, 10, 95, 96, 97, 98, 99, 100, 101, 102, 103, 104, 105, 106, 107, 108] (by decide +kernel) (by decide +kernel)
set_option maxRecDepth 20000 in
theorem gX9_sell_X9_isRecipe : GoodIn wsX9_sell (wsV RX9 109 RX9 yX9_isRecipe wsX9_isRecipe) := goodIn_app (goodIn_of _ (by decide +kernel)) ggX9_sell_X9_isRecipe
set_option maxRecDepth 20000 in
theorem ggX9_sell_X9_isIn : GoodIn wsX9_sell wsX9_isIn := goodIn_r _ [10] (by decide +kernel) (by decide +kernel)
set_option maxRecDepth 20000 in
theorem gX9_sell_X9_isIn : GoodIn wsX9_sell (va_wsS RX9 93 yX9_isIn wsX9_isIn) := goodIn_app (goodIn_of _ (by decide +kernel)) ggX9_sell_X9_isIn
set_option maxRecDepth 20000 in
theorem ggX9_sell_X9_isTime : GoodIn wsX9_sell wsX9_isTime := goodIn_r _ [18, 8, 9, 6, 10] (by decide +kernel) (by decide +kernel)
set_option maxRecDepth 20000 in
theorem gX9_sell_X9_isTime : GoodIn wsX9_sell (va_wsS RX9 141 yX9_isTime wsX9_isTime) := goodIn_app (goodIn_of _ (by decide +kernel)) ggX9_sell_X9_isTime
set_option maxRecDepth 20000 in
theorem ggX9_sell_X9_priceAt : GoodIn wsX9_sell wsX9_priceAt := goodIn_r _ [22, 1, 23, 24, 25, 26, 27, 28, 29, 30, 31, 32, 33, 34, 35, 36, 37, 38, 39, 40, 41, 42, 43, 95, 96, 97, 98, 99, 100, 101, 102, 103, 104, 105, 106, 107, 108, 109, 110, 111, 112, 113, 114, 115, 116] (by decide +kernel) (by decide +kernel)
set_option maxRecDepth 20000 in
theorem gX9_sell_X9_priceAt : GoodIn wsX9_sell (wsV RX9 145 RX9 yX9_priceAt wsX9_priceAt) := goodIn_app (goodIn_of _ (by decide +kernel)) ggX9_sell_X9_priceAt
set_option maxRecDepth 20000 in
theorem ggX9_sell_X9_carryOut : GoodIn wsX9_sell wsX9_carryOut := goodIn_r _ [47, 48, 49, 50, 51, 52, 53, 54, 55, 56, 57, 58, 59, 60, 61, 62, 63, 30, 64, 65, 66, 67, 6, 68, 2, 69, 70, 71, 72, 73, 74, 75, 76, 77, 78, 79, 80, 1, 81, 82, 83, 84, 85, 86, 87, 88, 89, 90, 91, 92, 93, 94, 95, 96, 97, 98, 99, 100, 101, 102, 103, 104, 105, 106, 107, 108, 117, 118, 119, 120, 121, 122, 123, 124, 125, 126, 127, 128, 129, 109, 110, 111, 112, 130, 131, 132, 133, 134, 135, 136] (by decide +kernel) (by decide +kernel)
set_option maxRecDepth 20000 in
theorem gX9_sell_X9_carryOut : GoodIn wsX9_sell (wsV RX9 129 RX9 yX9_carryOut wsX9_carryOut) := goodIn_app (goodIn_of _ (by decide +kernel)) ggX9_sell_X9_carryOut
theorem dX9_sell_0 : decode cX9_sell 0 = .ok (.iload_n 1, 1) := by decide +kernel
theorem dX9_sell_1 : decode cX9_sell 1 = .ok (.invokestatic 133, 3) := by decide +kernel
theorem dX9_sell_4 : decode cX9_sell 4 = .ok (.ifCond .eq 31, 3) := by decide +kernel
theorem dX9_sell_7 : decode cX9_sell 7 = .ok (.aload_n 0, 1) := by decide +kernel
theorem dX9_sell_8 : decode cX9_sell 8 = .ok (.iload_n 2, 1) := by decide +kernel
theorem dX9_sell_9 : decode cX9_sell 9 = .ok (.invokevirtual 109, 3) := by decide +kernel
theorem dX9_sell_12 : decode cX9_sell 12 = .ok (.ifCond .eq 23, 3) := by decide +kernel
theorem dX9_sell_15 : decode cX9_sell 15 = .ok (.iload_n 3, 1) := by decide +kernel
theorem dX9_sell_16 : decode cX9_sell 16 = .ok (.iconst 1, 1) := by decide +kernel
theorem dX9_sell_17 : decode cX9_sell 17 = .ok (.bipush 100, 2) := by decide +kernel
theorem dX9_sell_19 : decode cX9_sell 19 = .ok (.invokestatic 93, 3) := by decide +kernel
theorem dX9_sell_22 : decode cX9_sell 22 = .ok (.ifCond .eq 13, 3) := by decide +kernel
theorem dX9_sell_25 : decode cX9_sell 25 = .ok (.iload 4, 2) := by decide +kernel
theorem dX9_sell_27 : decode cX9_sell 27 = .ok (.iload 5, 2) := by decide +kernel
theorem dX9_sell_29 : decode cX9_sell 29 = .ok (.invokestatic 141, 3) := by decide +kernel
theorem dX9_sell_32 : decode cX9_sell 32 = .ok (.ifCond .ne 5, 3) := by decide +kernel
theorem dX9_sell_35 : decode cX9_sell 35 = .ok (.iconst (-1), 1) := by decide +kernel
theorem dX9_sell_36 : decode cX9_sell 36 = .ok (.ireturn, 1) := by decide +kernel
theorem dX9_sell_37 : decode cX9_sell 37 = .ok (.iload_n 3, 1) := by decide +kernel
theorem dX9_sell_38 : decode cX9_sell 38 = .ok (.aload_n 0, 1) := by decide +kernel
theorem dX9_sell_39 : decode cX9_sell 39 = .ok (.iload_n 2, 1) := by decide +kernel
theorem dX9_sell_40 : decode cX9_sell 40 = .ok (.iload 4, 2) := by decide +kernel
theorem dX9_sell_42 : decode cX9_sell 42 = .ok (.iload 5, 2) := by decide +kernel
theorem dX9_sell_44 : decode cX9_sell 44 = .ok (.invokevirtual 145, 3) := by decide +kernel
theorem dX9_sell_47 : decode cX9_sell 47 = .ok (.imul, 1) := by decide +kernel
theorem dX9_sell_48 : decode cX9_sell 48 = .ok (.istore 6, 2) := by decide +kernel
theorem dX9_sell_50 : decode cX9_sell 50 = .ok (.aload_n 0, 1) := by decide +kernel
theorem dX9_sell_51 : decode cX9_sell 51 = .ok (.getfield 21, 3) := by decide +kernel
theorem dX9_sell_54 : decode cX9_sell 54 = .ok (.iload_n 2, 1) := by decide +kernel
theorem dX9_sell_55 : decode cX9_sell 55 = .ok (.aaload, 1) := by decide +kernel
theorem dX9_sell_56 : decode cX9_sell 56 = .ok (.aload_n 0, 1) := by decide +kernel
theorem dX9_sell_57 : decode cX9_sell 57 = .ok (.getfield 46, 3) := by decide +kernel
theorem dX9_sell_60 : decode cX9_sell 60 = .ok (.putfield 116, 3) := by decide +kernel
theorem dX9_sell_63 : decode cX9_sell 63 = .ok (.aload_n 0, 1) := by decide +kernel
theorem dX9_sell_64 : decode cX9_sell 64 = .ok (.iconst 3, 1) := by decide +kernel
theorem dX9_sell_65 : decode cX9_sell 65 = .ok (.iload_n 1, 1) := by decide +kernel
theorem dX9_sell_66 : decode cX9_sell 66 = .ok (.iload_n 2, 1) := by decide +kernel
theorem dX9_sell_67 : decode cX9_sell 67 = .ok (.iload_n 3, 1) := by decide +kernel
theorem dX9_sell_68 : decode cX9_sell 68 = .ok (.iload 6, 2) := by decide +kernel
theorem dX9_sell_70 : decode cX9_sell 70 = .ok (.invokevirtual 129, 3) := by decide +kernel
theorem dX9_sell_73 : decode cX9_sell 73 = .ok (.iload 6, 2) := by decide +kernel
theorem dX9_sell_75 : decode cX9_sell 75 = .ok (.ireturn, 1) := by decide +kernel
set_option maxRecDepth 20000 in
theorem ggX9_lose_X9_isBar : GoodIn wsX9_lose wsX9_isBar := goodIn_r _ [7, 8, 9, 6, 10] (by decide +kernel) (by decide +kernel)
set_option maxRecDepth 20000 in
theorem gX9_lose_X9_isBar : GoodIn wsX9_lose (va_wsS RX9 133 yX9_isBar wsX9_isBar) := goodIn_app (goodIn_of _ (by decide +kernel)) ggX9_lose_X9_isBar
set_option maxRecDepth 20000 in
theorem ggX9_lose_X9_isKind : GoodIn wsX9_lose wsX9_isKind := goodIn_r _ [14, 15, 8, 9, 6, 10, 68, 69, 70, 71, 72, 73, 74, 75, 76, 77, 78, 79, 80, 81] (by decide +kernel) (by decide +kernel)
set_option maxRecDepth 20000 in
theorem gX9_lose_X9_isKind : GoodIn wsX9_lose (wsV RX9 113 RX9 yX9_isKind wsX9_isKind) := goodIn_app (goodIn_of _ (by decide +kernel)) ggX9_lose_X9_isKind
set_option maxRecDepth 20000 in
theorem ggX9_lose_X9_isIn : GoodIn wsX9_lose wsX9_isIn := goodIn_r _ [10] (by decide +kernel) (by decide +kernel)
set_option maxRecDepth 20000 in
theorem gX9_lose_X9_isIn : GoodIn wsX9_lose (va_wsS RX9 93 yX9_isIn wsX9_isIn) := goodIn_app (goodIn_of _ (by decide +kernel)) ggX9_lose_X9_isIn
set_option maxRecDepth 20000 in
theorem ggX9_lose_X9_carryOut : GoodIn wsX9_lose wsX9_carryOut := goodIn_r _ [19, 20, 21, 22, 23, 24, 25, 26, 27, 28, 29, 30, 31, 32, 33, 34, 35, 36, 37, 38, 39, 40, 6, 41, 42, 43, 44, 2, 45, 46, 47, 48, 49, 50, 51, 52, 53, 54, 15, 55, 56, 57, 58, 59, 60, 61, 62, 63, 64, 65, 66, 67, 68, 69, 70, 71, 72, 73, 74, 75, 76, 77, 78, 79, 80, 81, 89, 90, 91, 92, 93, 94, 95, 96, 97, 98, 99, 100, 101, 102, 103, 104, 105, 82, 83, 84, 85, 86, 87, 88] (by decide +kernel) (by decide +kernel)
set_option maxRecDepth 20000 in
theorem gX9_lose_X9_carryOut : GoodIn wsX9_lose (wsV RX9 129 RX9 yX9_carryOut wsX9_carryOut) := goodIn_app (goodIn_of _ (by decide +kernel)) ggX9_lose_X9_carryOut
theorem dX9_lose_0 : decode cX9_lose 0 = .ok (.iload_n 1, 1) := by decide +kernel
theorem dX9_lose_1 : decode cX9_lose 1 = .ok (.invokestatic 133, 3) := by decide +kernel
theorem dX9_lose_4 : decode cX9_lose 4 = .ok (.ifCond .eq 32, 3) := by decide +kernel
theorem dX9_lose_7 : decode cX9_lose 7 = .ok (.aload_n 0, 1) := by decide +kernel
theorem dX9_lose_8 : decode cX9_lose 8 = .ok (.iload_n 2, 1) := by decide +kernel
theorem dX9_lose_9 : decode cX9_lose 9 = .ok (.invokevirtual 113, 3) := by decide +kernel
theorem dX9_lose_12 : decode cX9_lose 12 = .ok (.ifCond .eq 24, 3) := by decide +kernel
theorem dX9_lose_15 : decode cX9_lose 15 = .ok (.iload_n 3, 1) := by decide +kernel
theorem dX9_lose_16 : decode cX9_lose 16 = .ok (.iconst 0, 1) := by decide +kernel
theorem dX9_lose_17 : decode cX9_lose 17 = .ok (.iconst 1, 1) := by decide +kernel
theorem dX9_lose_18 : decode cX9_lose 18 = .ok (.invokestatic 93, 3) := by decide +kernel
theorem dX9_lose_21 : decode cX9_lose 21 = .ok (.ifCond .eq 15, 3) := by decide +kernel
theorem dX9_lose_24 : decode cX9_lose 24 = .ok (.iload 4, 2) := by decide +kernel
theorem dX9_lose_26 : decode cX9_lose 26 = .ok (.iconst 1, 1) := by decide +kernel
theorem dX9_lose_27 : decode cX9_lose 27 = .ok (.sipush 10000, 3) := by decide +kernel
theorem dX9_lose_30 : decode cX9_lose 30 = .ok (.invokestatic 93, 3) := by decide +kernel
theorem dX9_lose_33 : decode cX9_lose 33 = .ok (.ifCond .ne 6, 3) := by decide +kernel
theorem dX9_lose_36 : decode cX9_lose 36 = .ok (.ldc 136, 2) := by decide +kernel
theorem dX9_lose_38 : decode cX9_lose 38 = .ok (.ireturn, 1) := by decide +kernel
theorem dX9_lose_39 : decode cX9_lose 39 = .ok (.aload_n 0, 1) := by decide +kernel
theorem dX9_lose_40 : decode cX9_lose 40 = .ok (.iload_n 3, 1) := by decide +kernel
theorem dX9_lose_41 : decode cX9_lose 41 = .ok (.ifCond .ne 7, 3) := by decide +kernel
theorem dX9_lose_44 : decode cX9_lose 44 = .ok (.iconst 4, 1) := by decide +kernel
theorem dX9_lose_45 : decode cX9_lose 45 = .ok (.goto 4, 3) := by decide +kernel
theorem dX9_lose_48 : decode cX9_lose 48 = .ok (.iconst 5, 1) := by decide +kernel
theorem dX9_lose_49 : decode cX9_lose 49 = .ok (.iload_n 1, 1) := by decide +kernel
theorem dX9_lose_50 : decode cX9_lose 50 = .ok (.iload_n 2, 1) := by decide +kernel
theorem dX9_lose_51 : decode cX9_lose 51 = .ok (.iload 4, 2) := by decide +kernel
theorem dX9_lose_53 : decode cX9_lose 53 = .ok (.iconst 0, 1) := by decide +kernel
theorem dX9_lose_54 : decode cX9_lose 54 = .ok (.invokevirtual 129, 3) := by decide +kernel
theorem dX9_lose_57 : decode cX9_lose 57 = .ok (.aload_n 0, 1) := by decide +kernel
theorem dX9_lose_58 : decode cX9_lose 58 = .ok (.getfield 11, 3) := by decide +kernel
theorem dX9_lose_61 : decode cX9_lose 61 = .ok (.iload_n 2, 1) := by decide +kernel
theorem dX9_lose_62 : decode cX9_lose 62 = .ok (.aaload, 1) := by decide +kernel
theorem dX9_lose_63 : decode cX9_lose 63 = .ok (.getfield 138, 3) := by decide +kernel
theorem dX9_lose_66 : decode cX9_lose 66 = .ok (.iload_n 1, 1) := by decide +kernel
theorem dX9_lose_67 : decode cX9_lose 67 = .ok (.iaload, 1) := by decide +kernel
theorem dX9_lose_68 : decode cX9_lose 68 = .ok (.ireturn, 1) := by decide +kernel
set_option maxRecDepth 20000 in
theorem ggX9_weigh_X9_isBar : GoodIn wsX9_weigh wsX9_isBar := goodIn_r _ [11, 12, 13, 10, 14] (by decide +kernel) (by decide +kernel)
set_option maxRecDepth 20000 in
theorem gX9_weigh_X9_isBar : GoodIn wsX9_weigh (va_wsS RX9 133 yX9_isBar wsX9_isBar) := goodIn_app (goodIn_of _ (by decide +kernel)) ggX9_weigh_X9_isBar
set_option maxRecDepth 20000 in
theorem ggX9_weigh_X9_isKind : GoodIn wsX9_weigh wsX9_isKind := goodIn_r _ [18, 19, 12, 13, 10, 14, 88, 89, 90, 91, 92, 93, 94, 95, 96, 97, 98, 99, 100, 101] (by decide +kernel) (by decide +kernel)
set_option maxRecDepth 20000 in
theorem gX9_weigh_X9_isKind : GoodIn wsX9_weigh (wsV RX9 113 RX9 yX9_isKind wsX9_isKind) := goodIn_app (goodIn_of _ (by decide +kernel)) ggX9_weigh_X9_isKind
set_option maxRecDepth 20000 in
theorem ggX9_weigh_X9_isIn : GoodIn wsX9_weigh wsX9_isIn := goodIn_r _ [14] (by decide +kernel) (by decide +kernel)
set_option maxRecDepth 20000 in
theorem gX9_weigh_X9_isIn : GoodIn wsX9_weigh (va_wsS RX9 93 yX9_isIn wsX9_isIn) := goodIn_app (goodIn_of _ (by decide +kernel)) ggX9_weigh_X9_isIn
set_option maxRecDepth 20000 in
theorem ggX9_weigh_X9_sheetOf : GoodIn wsX9_weigh wsX9_sheetOf := goodIn_r _ [23, 24, 88, 89, 90, 91, 92, 93, 94, 95, 96, 97, 98, 99, 100, 101] (by decide +kernel) (by decide +kernel)
set_option maxRecDepth 20000 in
theorem gX9_weigh_X9_sheetOf : GoodIn wsX9_weigh (wsV RX9 149 RX9 yX9_sheetOf wsX9_sheetOf) := goodIn_app (goodIn_of _ (by decide +kernel)) ggX9_weigh_X9_sheetOf
set_option maxRecDepth 20000 in
theorem ggX9_weigh_X4_found : GoodIn wsX9_weigh wsX4_found := goodIn_r _ [29, 30, 31, 32, 33, 34, 35, 36, 107, 108, 109, 110, 111, 112, 113] (by decide +kernel) (by decide +kernel)
set_option maxRecDepth 20000 in
theorem gX9_weigh_X4_found : GoodIn wsX9_weigh (wsV RX9 157 RX4 yX4_found wsX4_found) := goodIn_app (goodIn_of _ (by decide +kernel)) ggX9_weigh_X4_found
set_option maxRecDepth 20000 in
theorem ggX9_weigh_X9_spanNow : GoodIn wsX9_weigh wsX9_spanNow := goodIn_r _ [40, 5, 41, 42, 43, 44, 45, 28, 46, 36, 88, 89, 90, 91, 92, 93, 94, 95, 96, 97, 98, 99, 100, 101, 102, 103, 104, 105, 106, 107, 108, 109, 110, 111, 112, 113] (by decide +kernel) (by decide +kernel)
set_option maxRecDepth 20000 in
theorem gX9_weigh_X9_spanNow : GoodIn wsX9_weigh (wsV RX9 163 RX9 yX9_spanNow wsX9_spanNow) := goodIn_app (goodIn_of _ (by decide +kernel)) ggX9_weigh_X9_spanNow
set_option maxRecDepth 20000 in
theorem ggX9_weigh_X9_carryOut : GoodIn wsX9_weigh wsX9_carryOut := goodIn_r _ [50, 51, 52, 53, 54, 55, 56, 57, 58, 59, 60, 61, 62, 63, 64, 65, 66, 34, 67, 68, 69, 70, 10, 71, 2, 3, 72, 5, 20, 21, 22, 23, 24, 73, 74, 75, 76, 77, 19, 78, 42, 79, 80, 81, 82, 28, 83, 84, 85, 86, 30, 87, 88, 89, 90, 91, 92, 93, 94, 95, 96, 97, 98, 99, 100, 101, 114, 115, 116, 117, 118, 119, 120, 121, 102, 103, 104, 105, 106, 122, 123, 124, 125, 107, 108, 109, 110, 111, 112, 113] (by decide +kernel) (by decide +kernel)
set_option maxRecDepth 20000 in
theorem gX9_weigh_X9_carryOut : GoodIn wsX9_weigh (wsV RX9 129 RX9 yX9_carryOut wsX9_carryOut) := goodIn_app (goodIn_of _ (by decide +kernel)) ggX9_weigh_X9_carryOut
theorem dX9_weigh_0 : decode cX9_weigh 0 = .ok (.iload_n 1, 1) := by decide +kernel
theorem dX9_weigh_1 : decode cX9_weigh 1 = .ok (.invokestatic 133, 3) := by decide +kernel
theorem dX9_weigh_4 : decode cX9_weigh 4 = .ok (.ifCond .eq 33, 3) := by decide +kernel
theorem dX9_weigh_7 : decode cX9_weigh 7 = .ok (.aload_n 0, 1) := by decide +kernel
theorem dX9_weigh_8 : decode cX9_weigh 8 = .ok (.iload_n 2, 1) := by decide +kernel
theorem dX9_weigh_9 : decode cX9_weigh 9 = .ok (.invokevirtual 113, 3) := by decide +kernel
theorem dX9_weigh_12 : decode cX9_weigh 12 = .ok (.ifCond .eq 25, 3) := by decide +kernel
theorem dX9_weigh_15 : decode cX9_weigh 15 = .ok (.iload_n 3, 1) := by decide +kernel
theorem dX9_weigh_16 : decode cX9_weigh 16 = .ok (.iconst 0, 1) := by decide +kernel
theorem dX9_weigh_17 : decode cX9_weigh 17 = .ok (.bipush 50, 2) := by decide +kernel
theorem dX9_weigh_19 : decode cX9_weigh 19 = .ok (.invokestatic 93, 3) := by decide +kernel
theorem dX9_weigh_22 : decode cX9_weigh 22 = .ok (.ifCond .eq 15, 3) := by decide +kernel
theorem dX9_weigh_25 : decode cX9_weigh 25 = .ok (.iload 4, 2) := by decide +kernel
theorem dX9_weigh_27 : decode cX9_weigh 27 = .ok (.iconst 0, 1) := by decide +kernel
theorem dX9_weigh_28 : decode cX9_weigh 28 = .ok (.sipush 5000, 3) := by decide +kernel
theorem dX9_weigh_31 : decode cX9_weigh 31 = .ok (.invokestatic 93, 3) := by decide +kernel
theorem dX9_weigh_34 : decode cX9_weigh 34 = .ok (.ifCond .ne 6, 3) := by decide +kernel
theorem dX9_weigh_37 : decode cX9_weigh 37 = .ok (.ldc 136, 2) := by decide +kernel
theorem dX9_weigh_39 : decode cX9_weigh 39 = .ok (.ireturn, 1) := by decide +kernel
theorem dX9_weigh_40 : decode cX9_weigh 40 = .ok (.aload_n 0, 1) := by decide +kernel
theorem dX9_weigh_41 : decode cX9_weigh 41 = .ok (.aload_n 0, 1) := by decide +kernel
theorem dX9_weigh_42 : decode cX9_weigh 42 = .ok (.getfield 46, 3) := by decide +kernel
theorem dX9_weigh_45 : decode cX9_weigh 45 = .ok (.iload_n 1, 1) := by decide +kernel
theorem dX9_weigh_46 : decode cX9_weigh 46 = .ok (.invokevirtual 149, 3) := by decide +kernel
theorem dX9_weigh_49 : decode cX9_weigh 49 = .ok (.astore 5, 2) := by decide +kernel
theorem dX9_weigh_51 : decode cX9_weigh 51 = .ok (.aload 5, 2) := by decide +kernel
theorem dX9_weigh_53 : decode cX9_weigh 53 = .ok (.getfield 153, 3) := by decide +kernel
theorem dX9_weigh_56 : decode cX9_weigh 56 = .ok (.iload_n 2, 1) := by decide +kernel
theorem dX9_weigh_57 : decode cX9_weigh 57 = .ok (.baload, 1) := by decide +kernel
theorem dX9_weigh_58 : decode cX9_weigh 58 = .ok (.ifCond .eq 6, 3) := by decide +kernel
theorem dX9_weigh_61 : decode cX9_weigh 61 = .ok (.ldc 137, 2) := by decide +kernel
theorem dX9_weigh_63 : decode cX9_weigh 63 = .ok (.ireturn, 1) := by decide +kernel
theorem dX9_weigh_64 : decode cX9_weigh 64 = .ok (.aload_n 0, 1) := by decide +kernel
theorem dX9_weigh_65 : decode cX9_weigh 65 = .ok (.getfield 11, 3) := by decide +kernel
theorem dX9_weigh_68 : decode cX9_weigh 68 = .ok (.iload_n 2, 1) := by decide +kernel
theorem dX9_weigh_69 : decode cX9_weigh 69 = .ok (.aaload, 1) := by decide +kernel
theorem dX9_weigh_70 : decode cX9_weigh 70 = .ok (.getfield 138, 3) := by decide +kernel
theorem dX9_weigh_73 : decode cX9_weigh 73 = .ok (.iload_n 1, 1) := by decide +kernel
theorem dX9_weigh_74 : decode cX9_weigh 74 = .ok (.iaload, 1) := by decide +kernel
theorem dX9_weigh_75 : decode cX9_weigh 75 = .ok (.aload_n 0, 1) := by decide +kernel
theorem dX9_weigh_76 : decode cX9_weigh 76 = .ok (.getfield 11, 3) := by decide +kernel
theorem dX9_weigh_79 : decode cX9_weigh 79 = .ok (.iload_n 2, 1) := by decide +kernel
theorem dX9_weigh_80 : decode cX9_weigh 80 = .ok (.aaload, 1) := by decide +kernel
theorem dX9_weigh_81 : decode cX9_weigh 81 = .ok (.iload_n 3, 1) := by decide +kernel
theorem dX9_weigh_82 : decode cX9_weigh 82 = .ok (.iload 4, 2) := by decide +kernel
theorem dX9_weigh_84 : decode cX9_weigh 84 = .ok (.invokevirtual 157, 3) := by decide +kernel
theorem dX9_weigh_87 : decode cX9_weigh 87 = .ok (.isub, 1) := by decide +kernel
theorem dX9_weigh_88 : decode cX9_weigh 88 = .ok (.istore 6, 2) := by decide +kernel
theorem dX9_weigh_90 : decode cX9_weigh 90 = .ok (.aload 5, 2) := by decide +kernel
theorem dX9_weigh_92 : decode cX9_weigh 92 = .ok (.getfield 160, 3) := by decide +kernel
theorem dX9_weigh_95 : decode cX9_weigh 95 = .ok (.iload_n 2, 1) := by decide +kernel
theorem dX9_weigh_96 : decode cX9_weigh 96 = .ok (.aload_n 0, 1) := by decide +kernel
theorem dX9_weigh_97 : decode cX9_weigh 97 = .ok (.aload 5, 2) := by decide +kernel
theorem dX9_weigh_99 : decode cX9_weigh 99 = .ok (.iload_n 2, 1) := by decide +kernel
theorem dX9_weigh_100 : decode cX9_weigh 100 = .ok (.invokevirtual 163, 3) := by decide +kernel
theorem dX9_weigh_103 : decode cX9_weigh 103 = .ok (.iastore, 1) := by decide +kernel
theorem dX9_weigh_104 : decode cX9_weigh 104 = .ok (.aload_n 0, 1) := by decide +kernel
theorem dX9_weigh_105 : decode cX9_weigh 105 = .ok (.bipush 6, 2) := by decide +kernel
theorem dX9_weigh_107 : decode cX9_weigh 107 = .ok (.iload_n 1, 1) := by decide +kernel
theorem dX9_weigh_108 : decode cX9_weigh 108 = .ok (.iload_n 2, 1) := by decide +kernel
theorem dX9_weigh_109 : decode cX9_weigh 109 = .ok (.iload 6, 2) := by decide +kernel
theorem dX9_weigh_111 : decode cX9_weigh 111 = .ok (.iconst 0, 1) := by decide +kernel
theorem dX9_weigh_112 : decode cX9_weigh 112 = .ok (.invokevirtual 129, 3) := by decide +kernel
theorem dX9_weigh_115 : decode cX9_weigh 115 = .ok (.iload 6, 2) := by decide +kernel
theorem dX9_weigh_117 : decode cX9_weigh 117 = .ok (.ireturn, 1) := by decide +kernel
set_option maxRecDepth 20000 in
theorem ggX9_undo_X1_takeLatest : GoodIn wsX9_undo wsX1_takeLatest := goodIn_r _ [8, 9, 10, 11, 63, 64, 65] (by decide +kernel) (by decide +kernel)
set_option maxRecDepth 20000 in
theorem gX9_undo_X1_takeLatest : GoodIn wsX9_undo (wsV RX9 170 RX1 yX1_takeLatest wsX1_takeLatest) := goodIn_app (goodIn_of _ (by decide +kernel)) ggX9_undo_X1_takeLatest
set_option maxRecDepth 20000 in
theorem ggX9_undo_X9_apply : GoodIn wsX9_undo wsX9_apply := goodIn_r _ [16, 17, 18, 3, 19, 20, 21, 22, 23, 24, 25, 26, 15, 27, 28, 29, 30, 31, 32, 33, 34, 35, 36, 37, 38, 39, 40, 41, 42, 43, 44, 45, 46, 47, 48, 49, 50, 51, 52, 53, 54, 55, 56, 57, 58, 59, 60, 61, 62, 66, 67, 68, 69, 70, 71, 72, 73, 74, 75, 76, 77, 78, 79, 80, 81, 82, 83, 84, 85, 86] (by decide +kernel) (by decide +kernel)
set_option maxRecDepth 20000 in
theorem gX9_undo_X9_apply : GoodIn wsX9_undo (wsV RX9 174 RX9 yX9_apply wsX9_apply) := goodIn_app (goodIn_of _ (by decide +kernel)) ggX9_undo_X9_apply
theorem dX9_undo_0 : decode cX9_undo 0 = .ok (.aload_n 0, 1) := by decide +kernel
theorem dX9_undo_1 : decode cX9_undo 1 = .ok (.getfield 52, 3) := by decide +kernel
theorem dX9_undo_4 : decode cX9_undo 4 = .ok (.getfield 167, 3) := by decide +kernel
theorem dX9_undo_7 : decode cX9_undo 7 = .ok (.ifCond .ne 6, 3) := by decide +kernel
theorem dX9_undo_10 : decode cX9_undo 10 = .ok (.bipush (-2), 2) := by decide +kernel
theorem dX9_undo_12 : decode cX9_undo 12 = .ok (.ireturn, 1) := by decide +kernel
theorem dX9_undo_13 : decode cX9_undo 13 = .ok (.aload_n 0, 1) := by decide +kernel
theorem dX9_undo_14 : decode cX9_undo 14 = .ok (.getfield 52, 3) := by decide +kernel
theorem dX9_undo_17 : decode cX9_undo 17 = .ok (.invokevirtual 170, 3) := by decide +kernel
theorem dX9_undo_20 : decode cX9_undo 20 = .ok (.astore_n 1, 1) := by decide +kernel
theorem dX9_undo_21 : decode cX9_undo 21 = .ok (.aload_n 0, 1) := by decide +kernel
theorem dX9_undo_22 : decode cX9_undo 22 = .ok (.aload_n 1, 1) := by decide +kernel
theorem dX9_undo_23 : decode cX9_undo 23 = .ok (.iconst (-1), 1) := by decide +kernel
theorem dX9_undo_24 : decode cX9_undo 24 = .ok (.invokevirtual 174, 3) := by decide +kernel
theorem dX9_undo_27 : decode cX9_undo 27 = .ok (.aload_n 1, 1) := by decide +kernel
theorem dX9_undo_28 : decode cX9_undo 28 = .ok (.getfield 178, 3) := by decide +kernel
theorem dX9_undo_31 : decode cX9_undo 31 = .ok (.ireturn, 1) := by decide +kernel
set_option maxRecDepth 20000 in
theorem ggX9_keeper_X9_isBar : GoodIn wsX9_keeper wsX9_isBar := goodIn_r _ [6, 7, 8, 5, 9] (by decide +kernel) (by decide +kernel)
set_option maxRecDepth 20000 in
theorem gX9_keeper_X9_isBar : GoodIn wsX9_keeper (va_wsS RX9 133 yX9_isBar wsX9_isBar) := goodIn_app (goodIn_of _ (by decide +kernel)) ggX9_keeper_X9_isBar
set_option maxRecDepth 20000 in
theorem ggX9_keeper_X9_isKeeper : GoodIn wsX9_keeper wsX9_isKeeper := goodIn_r _ [12, 7, 8, 5, 9] (by decide +kernel) (by decide +kernel)
set_option maxRecDepth 20000 in
theorem gX9_keeper_X9_isKeeper : GoodIn wsX9_keeper (va_wsS RX9 183 yX9_isKeeper wsX9_isKeeper) := goodIn_app (goodIn_of _ (by decide +kernel)) ggX9_keeper_X9_isKeeper
set_option maxRecDepth 20000 in
theorem ggX9_keeper_X9_sheetOf : GoodIn wsX9_keeper wsX9_sheetOf := goodIn_r _ [16, 17, 18, 19, 20, 21, 22, 23, 24, 25, 26, 27, 28, 29, 30, 31] (by decide +kernel) (by decide +kernel)
set_option maxRecDepth 20000 in
theorem gX9_keeper_X9_sheetOf : GoodIn wsX9_keeper (wsV RX9 149 RX9 yX9_sheetOf wsX9_sheetOf) := goodIn_app (goodIn_of _ (by decide +kernel)) ggX9_keeper_X9_sheetOf
theorem dX9_keeper_0 : decode cX9_keeper 0 = .ok (.iload_n 1, 1) := by decide +kernel
theorem dX9_keeper_1 : decode cX9_keeper 1 = .ok (.invokestatic 133, 3) := by decide +kernel
theorem dX9_keeper_4 : decode cX9_keeper 4 = .ok (.ifCond .eq 10, 3) := by decide +kernel
theorem dX9_keeper_7 : decode cX9_keeper 7 = .ok (.iload_n 2, 1) := by decide +kernel
theorem dX9_keeper_8 : decode cX9_keeper 8 = .ok (.invokestatic 183, 3) := by decide +kernel
theorem dX9_keeper_11 : decode cX9_keeper 11 = .ok (.ifCond .ne 5, 3) := by decide +kernel
theorem dX9_keeper_14 : decode cX9_keeper 14 = .ok (.iconst (-1), 1) := by decide +kernel
theorem dX9_keeper_15 : decode cX9_keeper 15 = .ok (.ireturn, 1) := by decide +kernel
theorem dX9_keeper_16 : decode cX9_keeper 16 = .ok (.aload_n 0, 1) := by decide +kernel
theorem dX9_keeper_17 : decode cX9_keeper 17 = .ok (.aload_n 0, 1) := by decide +kernel
theorem dX9_keeper_18 : decode cX9_keeper 18 = .ok (.getfield 46, 3) := by decide +kernel
theorem dX9_keeper_21 : decode cX9_keeper 21 = .ok (.iload_n 1, 1) := by decide +kernel
theorem dX9_keeper_22 : decode cX9_keeper 22 = .ok (.invokevirtual 149, 3) := by decide +kernel
theorem dX9_keeper_25 : decode cX9_keeper 25 = .ok (.astore_n 3, 1) := by decide +kernel
theorem dX9_keeper_26 : decode cX9_keeper 26 = .ok (.aload_n 3, 1) := by decide +kernel
theorem dX9_keeper_27 : decode cX9_keeper 27 = .ok (.getfield 186, 3) := by decide +kernel
theorem dX9_keeper_30 : decode cX9_keeper 30 = .ok (.istore 4, 2) := by decide +kernel
theorem dX9_keeper_32 : decode cX9_keeper 32 = .ok (.aload_n 3, 1) := by decide +kernel
theorem dX9_keeper_33 : decode cX9_keeper 33 = .ok (.iload_n 2, 1) := by decide +kernel
theorem dX9_keeper_34 : decode cX9_keeper 34 = .ok (.putfield 186, 3) := by decide +kernel
theorem dX9_keeper_37 : decode cX9_keeper 37 = .ok (.iload 4, 2) := by decide +kernel
theorem dX9_keeper_39 : decode cX9_keeper 39 = .ok (.ireturn, 1) := by decide +kernel
set_option maxRecDepth 20000 in
theorem ggX9_night_X9_sheetOf : GoodIn wsX9_night wsX9_sheetOf := goodIn_r _ [9, 10, 11, 12, 13, 14, 15, 16, 17, 18, 19, 20, 21, 22, 23, 24] (by decide +kernel) (by decide +kernel)
set_option maxRecDepth 20000 in
theorem gX9_night_X9_sheetOf : GoodIn wsX9_night (wsV RX9 149 RX9 yX9_sheetOf wsX9_sheetOf) := goodIn_app (goodIn_of _ (by decide +kernel)) ggX9_night_X9_sheetOf
theorem dX9_night_0 : decode cX9_night 0 = .ok (.aload_n 0, 1) := by decide +kernel
theorem dX9_night_1 : decode cX9_night 1 = .ok (.getfield 46, 3) := by decide +kernel
theorem dX9_night_4 : decode cX9_night 4 = .ok (.bipush 19, 2) := by decide +kernel
theorem dX9_night_6 : decode cX9_night 6 = .ok (.if_icmp .lt 6, 3) := by decide +kernel
theorem dX9_night_9 : decode cX9_night 9 = .ok (.bipush (-3), 2) := by decide +kernel
theorem dX9_night_11 : decode cX9_night 11 = .ok (.ireturn, 1) := by decide +kernel
theorem dX9_night_12 : decode cX9_night 12 = .ok (.iconst 0, 1) := by decide +kernel
theorem dX9_night_13 : decode cX9_night 13 = .ok (.istore_n 1, 1) := by decide +kernel
theorem dX9_night_14 : decode cX9_night 14 = .ok (.iload_n 1, 1) := by decide +kernel
theorem dX9_night_15 : decode cX9_night 15 = .ok (.iconst 2, 1) := by decide +kernel
theorem dX9_night_16 : decode cX9_night 16 = .ok (.if_icmp .ge 35, 3) := by decide +kernel
theorem dX9_night_19 : decode cX9_night 19 = .ok (.aload_n 0, 1) := by decide +kernel
theorem dX9_night_20 : decode cX9_night 20 = .ok (.aload_n 0, 1) := by decide +kernel
theorem dX9_night_21 : decode cX9_night 21 = .ok (.getfield 46, 3) := by decide +kernel
theorem dX9_night_24 : decode cX9_night 24 = .ok (.iconst 1, 1) := by decide +kernel
theorem dX9_night_25 : decode cX9_night 25 = .ok (.iadd, 1) := by decide +kernel
theorem dX9_night_26 : decode cX9_night 26 = .ok (.iload_n 1, 1) := by decide +kernel
theorem dX9_night_27 : decode cX9_night 27 = .ok (.invokevirtual 149, 3) := by decide +kernel
theorem dX9_night_30 : decode cX9_night 30 = .ok (.aload_n 0, 1) := by decide +kernel
theorem dX9_night_31 : decode cX9_night 31 = .ok (.aload_n 0, 1) := by decide +kernel
theorem dX9_night_32 : decode cX9_night 32 = .ok (.getfield 46, 3) := by decide +kernel
theorem dX9_night_35 : decode cX9_night 35 = .ok (.iload_n 1, 1) := by decide +kernel
theorem dX9_night_36 : decode cX9_night 36 = .ok (.invokevirtual 149, 3) := by decide +kernel
theorem dX9_night_39 : decode cX9_night 39 = .ok (.getfield 186, 3) := by decide +kernel
theorem dX9_night_42 : decode cX9_night 42 = .ok (.putfield 186, 3) := by decide +kernel
theorem dX9_night_45 : decode cX9_night 45 = .ok (.iinc 1 1, 3) := by decide +kernel
theorem dX9_night_48 : decode cX9_night 48 = .ok (.goto (-34), 3) := by decide +kernel
theorem dX9_night_51 : decode cX9_night 51 = .ok (.aload_n 0, 1) := by decide +kernel
theorem dX9_night_52 : decode cX9_night 52 = .ok (.dup, 1) := by decide +kernel
theorem dX9_night_53 : decode cX9_night 53 = .ok (.getfield 46, 3) := by decide +kernel
theorem dX9_night_56 : decode cX9_night 56 = .ok (.iconst 1, 1) := by decide +kernel
theorem dX9_night_57 : decode cX9_night 57 = .ok (.iadd, 1) := by decide +kernel
theorem dX9_night_58 : decode cX9_night 58 = .ok (.putfield 46, 3) := by decide +kernel
theorem dX9_night_61 : decode cX9_night 61 = .ok (.aload_n 0, 1) := by decide +kernel
theorem dX9_night_62 : decode cX9_night 62 = .ok (.getfield 52, 3) := by decide +kernel
theorem dX9_night_65 : decode cX9_night 65 = .ok (.iconst 0, 1) := by decide +kernel
theorem dX9_night_66 : decode cX9_night 66 = .ok (.putfield 167, 3) := by decide +kernel
theorem dX9_night_69 : decode cX9_night 69 = .ok (.aload_n 0, 1) := by decide +kernel
theorem dX9_night_70 : decode cX9_night 70 = .ok (.getfield 46, 3) := by decide +kernel
theorem dX9_night_73 : decode cX9_night 73 = .ok (.ireturn, 1) := by decide +kernel
set_option maxRecDepth 20000 in
theorem ggX9_has_X9_isIn : GoodIn wsX9_has wsX9_isIn := goodIn_r _ [8] (by decide +kernel) (by decide +kernel)
set_option maxRecDepth 20000 in
theorem gX9_has_X9_isIn : GoodIn wsX9_has (va_wsS RX9 93 yX9_isIn wsX9_isIn) := goodIn_app (goodIn_of _ (by decide +kernel)) ggX9_has_X9_isIn
set_option maxRecDepth 20000 in
theorem ggX9_has_X9_isKind : GoodIn wsX9_has wsX9_isKind := goodIn_r _ [12, 13, 5, 6, 7, 8, 14, 15, 16, 17, 18, 19, 20, 21, 22, 23, 24, 25, 26, 27] (by decide +kernel) (by decide +kernel)
set_option maxRecDepth 20000 in
theorem gX9_has_X9_isKind : GoodIn wsX9_has (wsV RX9 113 RX9 yX9_isKind wsX9_isKind) := goodIn_app (goodIn_of _ (by decide +kernel)) ggX9_has_X9_isKind
theorem dX9_has_0 : decode cX9_has 0 = .ok (.iload_n 1, 1) := by decide +kernel
theorem dX9_has_1 : decode cX9_has 1 = .ok (.iconst 0, 1) := by decide +kernel
theorem dX9_has_2 : decode cX9_has 2 = .ok (.iconst 2, 1) := by decide +kernel
theorem dX9_has_3 : decode cX9_has 3 = .ok (.invokestatic 93, 3) := by decide +kernel
theorem dX9_has_6 : decode cX9_has 6 = .ok (.ifCond .eq 11, 3) := by decide +kernel
theorem dX9_has_9 : decode cX9_has 9 = .ok (.aload_n 0, 1) := by decide +kernel
theorem dX9_has_10 : decode cX9_has 10 = .ok (.iload_n 2, 1) := by decide +kernel
theorem dX9_has_11 : decode cX9_has 11 = .ok (.invokevirtual 113, 3) := by decide +kernel
theorem dX9_has_14 : decode cX9_has 14 = .ok (.ifCond .ne 6, 3) := by decide +kernel
theorem dX9_has_17 : decode cX9_has 17 = .ok (.ldc 136, 2) := by decide +kernel
theorem dX9_has_19 : decode cX9_has 19 = .ok (.ireturn, 1) := by decide +kernel
theorem dX9_has_20 : decode cX9_has 20 = .ok (.iload_n 1, 1) := by decide +kernel
theorem dX9_has_21 : decode cX9_has 21 = .ok (.iconst 2, 1) := by decide +kernel
theorem dX9_has_22 : decode cX9_has 22 = .ok (.if_icmp .ne 15, 3) := by decide +kernel
theorem dX9_has_25 : decode cX9_has 25 = .ok (.aload_n 0, 1) := by decide +kernel
theorem dX9_has_26 : decode cX9_has 26 = .ok (.getfield 11, 3) := by decide +kernel
theorem dX9_has_29 : decode cX9_has 29 = .ok (.iload_n 2, 1) := by decide +kernel
theorem dX9_has_30 : decode cX9_has 30 = .ok (.aaload, 1) := by decide +kernel
theorem dX9_has_31 : decode cX9_has 31 = .ok (.getfield 126, 3) := by decide +kernel
theorem dX9_has_34 : decode cX9_has 34 = .ok (.goto 14, 3) := by decide +kernel
theorem dX9_has_37 : decode cX9_has 37 = .ok (.aload_n 0, 1) := by decide +kernel
theorem dX9_has_38 : decode cX9_has 38 = .ok (.getfield 11, 3) := by decide +kernel
theorem dX9_has_41 : decode cX9_has 41 = .ok (.iload_n 2, 1) := by decide +kernel
theorem dX9_has_42 : decode cX9_has 42 = .ok (.aaload, 1) := by decide +kernel
theorem dX9_has_43 : decode cX9_has 43 = .ok (.getfield 138, 3) := by decide +kernel
theorem dX9_has_46 : decode cX9_has 46 = .ok (.iload_n 1, 1) := by decide +kernel
theorem dX9_has_47 : decode cX9_has 47 = .ok (.iaload, 1) := by decide +kernel
theorem dX9_has_48 : decode cX9_has 48 = .ok (.ireturn, 1) := by decide +kernel
set_option maxRecDepth 20000 in
theorem ggX9_all_X9_isKind : GoodIn wsX9_all wsX9_isKind := goodIn_r _ [9, 10, 11, 12, 8, 13, 14, 15, 16, 17, 18, 19, 20, 21, 22, 23, 24, 25, 26, 27] (by decide +kernel) (by decide +kernel)
set_option maxRecDepth 20000 in
theorem gX9_all_X9_isKind : GoodIn wsX9_all (wsV RX9 113 RX9 yX9_isKind wsX9_isKind) := goodIn_app (goodIn_of _ (by decide +kernel)) ggX9_all_X9_isKind
set_option maxRecDepth 20000 in
theorem ggX9_all_X9_isIn : GoodIn wsX9_all wsX9_isIn := goodIn_r _ [13] (by decide +kernel) (by decide +kernel)
set_option maxRecDepth 20000 in
theorem gX9_all_X9_isIn : GoodIn wsX9_all (va_wsS RX9 93 yX9_isIn wsX9_isIn) := goodIn_app (goodIn_of _ (by decide +kernel)) ggX9_all_X9_isIn
theorem dX9_all_0 : decode cX9_all 0 = .ok (.aload_n 0, 1) := by decide +kernel
theorem dX9_all_1 : decode cX9_all 1 = .ok (.iload_n 1, 1) := by decide +kernel
theorem dX9_all_2 : decode cX9_all 2 = .ok (.invokevirtual 113, 3) := by decide +kernel
theorem dX9_all_5 : decode cX9_all 5 = .ok (.ifCond .eq 12, 3) := by decide +kernel
theorem dX9_all_8 : decode cX9_all 8 = .ok (.iload_n 2, 1) := by decide +kernel
theorem dX9_all_9 : decode cX9_all 9 = .ok (.iconst 0, 1) := by decide +kernel
theorem dX9_all_10 : decode cX9_all 10 = .ok (.iconst 4, 1) := by decide +kernel
theorem dX9_all_11 : decode cX9_all 11 = .ok (.invokestatic 93, 3) := by decide +kernel
theorem dX9_all_14 : decode cX9_all 14 = .ok (.ifCond .ne 6, 3) := by decide +kernel
theorem dX9_all_17 : decode cX9_all 17 = .ok (.ldc 136, 2) := by decide +kernel
theorem dX9_all_19 : decode cX9_all 19 = .ok (.ireturn, 1) := by decide +kernel
theorem dX9_all_20 : decode cX9_all 20 = .ok (.iload_n 2, 1) := by decide +kernel
theorem dX9_all_21 : decode cX9_all 21 = .ok (.iconst 4, 1) := by decide +kernel
theorem dX9_all_22 : decode cX9_all 22 = .ok (.if_icmp .ne 15, 3) := by decide +kernel
theorem dX9_all_25 : decode cX9_all 25 = .ok (.aload_n 0, 1) := by decide +kernel
theorem dX9_all_26 : decode cX9_all 26 = .ok (.getfield 11, 3) := by decide +kernel
theorem dX9_all_29 : decode cX9_all 29 = .ok (.iload_n 1, 1) := by decide +kernel
theorem dX9_all_30 : decode cX9_all 30 = .ok (.aaload, 1) := by decide +kernel
theorem dX9_all_31 : decode cX9_all 31 = .ok (.getfield 189, 3) := by decide +kernel
theorem dX9_all_34 : decode cX9_all 34 = .ok (.goto 14, 3) := by decide +kernel
theorem dX9_all_37 : decode cX9_all 37 = .ok (.aload_n 0, 1) := by decide +kernel
theorem dX9_all_38 : decode cX9_all 38 = .ok (.getfield 11, 3) := by decide +kernel
theorem dX9_all_41 : decode cX9_all 41 = .ok (.iload_n 1, 1) := by decide +kernel
theorem dX9_all_42 : decode cX9_all 42 = .ok (.aaload, 1) := by decide +kernel
theorem dX9_all_43 : decode cX9_all 43 = .ok (.getfield 192, 3) := by decide +kernel
theorem dX9_all_46 : decode cX9_all 46 = .ok (.iload_n 2, 1) := by decide +kernel
theorem dX9_all_47 : decode cX9_all 47 = .ok (.iaload, 1) := by decide +kernel
theorem dX9_all_48 : decode cX9_all 48 = .ok (.ireturn, 1) := by decide +kernel
set_option maxRecDepth 20000 in
theorem ggX9_gap_X9_isIn : GoodIn wsX9_gap wsX9_isIn := goodIn_r _ [12] (by decide +kernel) (by decide +kernel)
set_option maxRecDepth 20000 in
theorem gX9_gap_X9_isIn : GoodIn wsX9_gap (va_wsS RX9 93 yX9_isIn wsX9_isIn) := goodIn_app (goodIn_of _ (by decide +kernel)) ggX9_gap_X9_isIn
set_option maxRecDepth 20000 in
theorem ggX9_gap_X9_isBar : GoodIn wsX9_gap wsX9_isBar := goodIn_r _ [15, 9, 10, 11, 12] (by decide +kernel) (by decide +kernel)
set_option maxRecDepth 20000 in
theorem gX9_gap_X9_isBar : GoodIn wsX9_gap (va_wsS RX9 133 yX9_isBar wsX9_isBar) := goodIn_app (goodIn_of _ (by decide +kernel)) ggX9_gap_X9_isBar
set_option maxRecDepth 20000 in
theorem ggX9_gap_X9_isKind : GoodIn wsX9_gap wsX9_isKind := goodIn_r _ [19, 20, 9, 10, 11, 12, 50, 51, 52, 53, 54, 55, 56, 57, 58, 59, 60, 61, 62, 63] (by decide +kernel) (by decide +kernel)
set_option maxRecDepth 20000 in
theorem gX9_gap_X9_isKind : GoodIn wsX9_gap (wsV RX9 113 RX9 yX9_isKind wsX9_isKind) := goodIn_app (goodIn_of _ (by decide +kernel)) ggX9_gap_X9_isKind
set_option maxRecDepth 20000 in
theorem ggX9_gap_X9_sheetOf : GoodIn wsX9_gap wsX9_sheetOf := goodIn_r _ [24, 25, 50, 51, 52, 53, 54, 55, 56, 57, 58, 59, 60, 61, 62, 63] (by decide +kernel) (by decide +kernel)
set_option maxRecDepth 20000 in
theorem gX9_gap_X9_sheetOf : GoodIn wsX9_gap (wsV RX9 149 RX9 yX9_sheetOf wsX9_sheetOf) := goodIn_app (goodIn_of _ (by decide +kernel)) ggX9_gap_X9_sheetOf
set_option maxRecDepth 20000 in
theorem ggX9_gap_X9_spanNow : GoodIn wsX9_gap wsX9_spanNow := goodIn_r _ [29, 30, 31, 7, 32, 33, 34, 35, 36, 37, 50, 51, 52, 53, 54, 55, 56, 57, 58, 59, 60, 61, 62, 63, 64, 65, 66, 67, 68, 69, 70, 71, 72, 73, 74, 75] (by decide +kernel) (by decide +kernel)
set_option maxRecDepth 20000 in
theorem gX9_gap_X9_spanNow : GoodIn wsX9_gap (wsV RX9 163 RX9 yX9_spanNow wsX9_spanNow) := goodIn_app (goodIn_of _ (by decide +kernel)) ggX9_gap_X9_spanNow
set_option maxRecDepth 20000 in
theorem ggX9_gap_X7_isTold : GoodIn wsX9_gap wsX7_isTold := goodIn_r _ [42, 43, 44, 45, 46, 47, 48, 49, 64, 65, 66, 67, 68] (by decide +kernel) (by decide +kernel)
set_option maxRecDepth 20000 in
theorem gX9_gap_X7_isTold : GoodIn wsX9_gap (wsV RX9 199 RX7 yX7_isTold wsX7_isTold) := goodIn_app (goodIn_of _ (by decide +kernel)) ggX9_gap_X7_isTold
theorem dX9_gap_0 : decode cX9_gap 0 = .ok (.iload_n 1, 1) := by decide +kernel
theorem dX9_gap_1 : decode cX9_gap 1 = .ok (.iconst 0, 1) := by decide +kernel
theorem dX9_gap_2 : decode cX9_gap 2 = .ok (.aload_n 0, 1) := by decide +kernel
theorem dX9_gap_3 : decode cX9_gap 3 = .ok (.getfield 46, 3) := by decide +kernel
theorem dX9_gap_6 : decode cX9_gap 6 = .ok (.invokestatic 93, 3) := by decide +kernel
theorem dX9_gap_9 : decode cX9_gap 9 = .ok (.ifCond .eq 28, 3) := by decide +kernel
theorem dX9_gap_12 : decode cX9_gap 12 = .ok (.iload_n 2, 1) := by decide +kernel
theorem dX9_gap_13 : decode cX9_gap 13 = .ok (.invokestatic 133, 3) := by decide +kernel
theorem dX9_gap_16 : decode cX9_gap 16 = .ok (.ifCond .eq 21, 3) := by decide +kernel
theorem dX9_gap_19 : decode cX9_gap 19 = .ok (.aload_n 0, 1) := by decide +kernel
theorem dX9_gap_20 : decode cX9_gap 20 = .ok (.iload_n 3, 1) := by decide +kernel
theorem dX9_gap_21 : decode cX9_gap 21 = .ok (.invokevirtual 113, 3) := by decide +kernel
theorem dX9_gap_24 : decode cX9_gap 24 = .ok (.ifCond .eq 13, 3) := by decide +kernel
theorem dX9_gap_27 : decode cX9_gap 27 = .ok (.iload 4, 2) := by decide +kernel
theorem dX9_gap_29 : decode cX9_gap 29 = .ok (.iconst 0, 1) := by decide +kernel
theorem dX9_gap_30 : decode cX9_gap 30 = .ok (.iconst 4, 1) := by decide +kernel
theorem dX9_gap_31 : decode cX9_gap 31 = .ok (.invokestatic 93, 3) := by decide +kernel
theorem dX9_gap_34 : decode cX9_gap 34 = .ok (.ifCond .ne 6, 3) := by decide +kernel
theorem dX9_gap_37 : decode cX9_gap 37 = .ok (.ldc 136, 2) := by decide +kernel
theorem dX9_gap_39 : decode cX9_gap 39 = .ok (.ireturn, 1) := by decide +kernel
theorem dX9_gap_40 : decode cX9_gap 40 = .ok (.aload_n 0, 1) := by decide +kernel
theorem dX9_gap_41 : decode cX9_gap 41 = .ok (.iload_n 1, 1) := by decide +kernel
theorem dX9_gap_42 : decode cX9_gap 42 = .ok (.iload_n 2, 1) := by decide +kernel
theorem dX9_gap_43 : decode cX9_gap 43 = .ok (.invokevirtual 149, 3) := by decide +kernel
theorem dX9_gap_46 : decode cX9_gap 46 = .ok (.astore 5, 2) := by decide +kernel
theorem dX9_gap_48 : decode cX9_gap 48 = .ok (.iload 4, 2) := by decide +kernel
theorem dX9_gap_50 : decode cX9_gap 50 = .ok (.tableswitch 104 0 3 #[30, 53, 81, 96], 30) := by decide +kernel
theorem dX9_gap_80 : decode cX9_gap 80 = .ok (.aload 5, 2) := by decide +kernel
theorem dX9_gap_82 : decode cX9_gap 82 = .ok (.getfield 153, 3) := by decide +kernel
theorem dX9_gap_85 : decode cX9_gap 85 = .ok (.iload_n 3, 1) := by decide +kernel
theorem dX9_gap_86 : decode cX9_gap 86 = .ok (.baload, 1) := by decide +kernel
theorem dX9_gap_87 : decode cX9_gap 87 = .ok (.ifCond .eq 13, 3) := by decide +kernel
theorem dX9_gap_90 : decode cX9_gap 90 = .ok (.aload 5, 2) := by decide +kernel
theorem dX9_gap_92 : decode cX9_gap 92 = .ok (.getfield 195, 3) := by decide +kernel
theorem dX9_gap_95 : decode cX9_gap 95 = .ok (.iload_n 3, 1) := by decide +kernel
theorem dX9_gap_96 : decode cX9_gap 96 = .ok (.iaload, 1) := by decide +kernel
theorem dX9_gap_97 : decode cX9_gap 97 = .ok (.goto 5, 3) := by decide +kernel
theorem dX9_gap_100 : decode cX9_gap 100 = .ok (.ldc 198, 2) := by decide +kernel
theorem dX9_gap_102 : decode cX9_gap 102 = .ok (.ireturn, 1) := by decide +kernel
theorem dX9_gap_103 : decode cX9_gap 103 = .ok (.aload 5, 2) := by decide +kernel
theorem dX9_gap_105 : decode cX9_gap 105 = .ok (.getfield 153, 3) := by decide +kernel
theorem dX9_gap_108 : decode cX9_gap 108 = .ok (.iload_n 3, 1) := by decide +kernel
theorem dX9_gap_109 : decode cX9_gap 109 = .ok (.baload, 1) := by decide +kernel
theorem dX9_gap_110 : decode cX9_gap 110 = .ok (.ifCond .eq 13, 3) := by decide +kernel
theorem dX9_gap_113 : decode cX9_gap 113 = .ok (.aload 5, 2) := by decide +kernel
theorem dX9_gap_115 : decode cX9_gap 115 = .ok (.getfield 160, 3) := by decide +kernel
theorem dX9_gap_118 : decode cX9_gap 118 = .ok (.iload_n 3, 1) := by decide +kernel
theorem dX9_gap_119 : decode cX9_gap 119 = .ok (.iaload, 1) := by decide +kernel
theorem dX9_gap_120 : decode cX9_gap 120 = .ok (.goto 10, 3) := by decide +kernel
theorem dX9_gap_123 : decode cX9_gap 123 = .ok (.aload_n 0, 1) := by decide +kernel
theorem dX9_gap_124 : decode cX9_gap 124 = .ok (.aload 5, 2) := by decide +kernel
theorem dX9_gap_126 : decode cX9_gap 126 = .ok (.iload_n 3, 1) := by decide +kernel
theorem dX9_gap_127 : decode cX9_gap 127 = .ok (.invokevirtual 163, 3) := by decide +kernel
theorem dX9_gap_130 : decode cX9_gap 130 = .ok (.ireturn, 1) := by decide +kernel
theorem dX9_gap_131 : decode cX9_gap 131 = .ok (.aload 5, 2) := by decide +kernel
theorem dX9_gap_133 : decode cX9_gap 133 = .ok (.iload_n 3, 1) := by decide +kernel
theorem dX9_gap_134 : decode cX9_gap 134 = .ok (.invokevirtual 199, 3) := by decide +kernel
theorem dX9_gap_137 : decode cX9_gap 137 = .ok (.ifCond .eq 7, 3) := by decide +kernel
theorem dX9_gap_140 : decode cX9_gap 140 = .ok (.iconst 1, 1) := by decide +kernel
theorem dX9_gap_141 : decode cX9_gap 141 = .ok (.goto 4, 3) := by decide +kernel
theorem dX9_gap_144 : decode cX9_gap 144 = .ok (.iconst 0, 1) := by decide +kernel
theorem dX9_gap_145 : decode cX9_gap 145 = .ok (.ireturn, 1) := by decide +kernel
theorem dX9_gap_146 : decode cX9_gap 146 = .ok (.aload 5, 2) := by decide +kernel
theorem dX9_gap_148 : decode cX9_gap 148 = .ok (.getfield 202, 3) := by decide +kernel
theorem dX9_gap_151 : decode cX9_gap 151 = .ok (.iload_n 3, 1) := by decide +kernel
theorem dX9_gap_152 : decode cX9_gap 152 = .ok (.iaload, 1) := by decide +kernel
theorem dX9_gap_153 : decode cX9_gap 153 = .ok (.ireturn, 1) := by decide +kernel
theorem dX9_gap_154 : decode cX9_gap 154 = .ok (.aload 5, 2) := by decide +kernel
theorem dX9_gap_156 : decode cX9_gap 156 = .ok (.getfield 186, 3) := by decide +kernel
theorem dX9_gap_159 : decode cX9_gap 159 = .ok (.ireturn, 1) := by decide +kernel
set_option maxRecDepth 20000 in
theorem ggX9_over_X9_isKeeper : GoodIn wsX9_over wsX9_isKeeper := goodIn_r _ [13, 14, 15, 12, 16] (by decide +kernel) (by decide +kernel)
set_option maxRecDepth 20000 in
theorem gX9_over_X9_isKeeper : GoodIn wsX9_over (va_wsS RX9 183 yX9_isKeeper wsX9_isKeeper) := goodIn_app (goodIn_of _ (by decide +kernel)) ggX9_over_X9_isKeeper
set_option maxRecDepth 20000 in
theorem ggX9_over_X9_isKind : GoodIn wsX9_over wsX9_isKind := goodIn_r _ [20, 21, 14, 15, 12, 16, 38, 39, 40, 41, 42, 43, 44, 45, 46, 47, 48, 49, 50, 51] (by decide +kernel) (by decide +kernel)
set_option maxRecDepth 20000 in
theorem gX9_over_X9_isKind : GoodIn wsX9_over (wsV RX9 113 RX9 yX9_isKind wsX9_isKind) := goodIn_app (goodIn_of _ (by decide +kernel)) ggX9_over_X9_isKind
set_option maxRecDepth 20000 in
theorem ggX9_over_X9_isIn : GoodIn wsX9_over wsX9_isIn := goodIn_r _ [16] (by decide +kernel) (by decide +kernel)
set_option maxRecDepth 20000 in
theorem gX9_over_X9_isIn : GoodIn wsX9_over (va_wsS RX9 93 yX9_isIn wsX9_isIn) := goodIn_app (goodIn_of _ (by decide +kernel)) ggX9_over_X9_isIn
set_option maxRecDepth 20000 in
theorem ggX9_over_X9_sheetsSoFar : GoodIn wsX9_over wsX9_sheetsSoFar := goodIn_r _ [25, 26, 38, 39, 40, 41, 42, 43, 44, 45, 46, 47, 48, 49, 50, 51] (by decide +kernel) (by decide +kernel)
set_option maxRecDepth 20000 in
theorem gX9_over_X9_sheetsSoFar : GoodIn wsX9_over (wsV RX9 207 RX9 yX9_sheetsSoFar wsX9_sheetsSoFar) := goodIn_app (goodIn_of _ (by decide +kernel)) ggX9_over_X9_sheetsSoFar
set_option maxRecDepth 20000 in
theorem ggX9_over_X7_judges : GoodIn wsX9_over wsX7_judges := goodIn_r _ [31, 32, 33, 34, 52, 53, 54, 55, 56] (by decide +kernel) (by decide +kernel)
set_option maxRecDepth 20000 in
theorem gX9_over_X7_judges : GoodIn wsX9_over (wsV RX9 211 RX7 yX7_judges wsX7_judges) := goodIn_app (goodIn_of _ (by decide +kernel)) ggX9_over_X7_judges
set_option maxRecDepth 20000 in
theorem ggX9_over_X9_commonDivisor : GoodIn wsX9_over wsX9_commonDivisor := goodIn_r _ [37] (by decide +kernel) (by decide +kernel)
set_option maxRecDepth 20000 in
theorem gX9_over_X9_commonDivisor : GoodIn wsX9_over (va_wsS RX9 222 yX9_commonDivisor wsX9_commonDivisor) := goodIn_app (goodIn_of _ (by decide +kernel)) ggX9_over_X9_commonDivisor
theorem dX9_over_0 : decode cX9_over 0 = .ok (.iload_n 1, 1) := by decide +kernel
theorem dX9_over_1 : decode cX9_over 1 = .ok (.invokestatic 183, 3) := by decide +kernel
theorem dX9_over_4 : decode cX9_over 4 = .ok (.ifCond .eq 20, 3) := by decide +kernel
theorem dX9_over_7 : decode cX9_over 7 = .ok (.aload_n 0, 1) := by decide +kernel
theorem dX9_over_8 : decode cX9_over 8 = .ok (.iload_n 2, 1) := by decide +kernel
theorem dX9_over_9 : decode cX9_over 9 = .ok (.invokevirtual 113, 3) := by decide +kernel
theorem dX9_over_12 : decode cX9_over 12 = .ok (.ifCond .eq 12, 3) := by decide +kernel
theorem dX9_over_15 : decode cX9_over 15 = .ok (.iload_n 3, 1) := by decide +kernel
theorem dX9_over_16 : decode cX9_over 16 = .ok (.iconst 0, 1) := by decide +kernel
theorem dX9_over_17 : decode cX9_over 17 = .ok (.iconst 1, 1) := by decide +kernel
theorem dX9_over_18 : decode cX9_over 18 = .ok (.invokestatic 93, 3) := by decide +kernel
theorem dX9_over_21 : decode cX9_over 21 = .ok (.ifCond .ne 7, 3) := by decide +kernel
theorem dX9_over_24 : decode cX9_over 24 = .ok (.ldc2_w 205, 3) := by decide +kernel
theorem dX9_over_27 : decode cX9_over 27 = .ok (.lreturn, 1) := by decide +kernel
theorem dX9_over_28 : decode cX9_over 28 = .ok (.iconst 0, 1) := by decide +kernel
theorem dX9_over_29 : decode cX9_over 29 = .ok (.istore 4, 2) := by decide +kernel
theorem dX9_over_31 : decode cX9_over 31 = .ok (.lconst 0, 1) := by decide +kernel
theorem dX9_over_32 : decode cX9_over 32 = .ok (.lstore 5, 2) := by decide +kernel
theorem dX9_over_34 : decode cX9_over 34 = .ok (.lconst 0, 1) := by decide +kernel
theorem dX9_over_35 : decode cX9_over 35 = .ok (.lstore 7, 2) := by decide +kernel
theorem dX9_over_37 : decode cX9_over 37 = .ok (.iconst 0, 1) := by decide +kernel
theorem dX9_over_38 : decode cX9_over 38 = .ok (.istore 9, 2) := by decide +kernel
theorem dX9_over_40 : decode cX9_over 40 = .ok (.iload 9, 2) := by decide +kernel
theorem dX9_over_42 : decode cX9_over 42 = .ok (.aload_n 0, 1) := by decide +kernel
theorem dX9_over_43 : decode cX9_over 43 = .ok (.invokevirtual 207, 3) := by decide +kernel
theorem dX9_over_46 : decode cX9_over 46 = .ok (.if_icmp .ge 73, 3) := by decide +kernel
theorem dX9_over_49 : decode cX9_over 49 = .ok (.aload_n 0, 1) := by decide +kernel
theorem dX9_over_50 : decode cX9_over 50 = .ok (.getfield 42, 3) := by decide +kernel
theorem dX9_over_53 : decode cX9_over 53 = .ok (.iload 9, 2) := by decide +kernel
theorem dX9_over_55 : decode cX9_over 55 = .ok (.aaload, 1) := by decide +kernel
theorem dX9_over_56 : decode cX9_over 56 = .ok (.iload_n 1, 1) := by decide +kernel
theorem dX9_over_57 : decode cX9_over 57 = .ok (.iload_n 2, 1) := by decide +kernel
theorem dX9_over_58 : decode cX9_over 58 = .ok (.invokevirtual 211, 3) := by decide +kernel
theorem dX9_over_61 : decode cX9_over 61 = .ok (.ifCond .eq 52, 3) := by decide +kernel
theorem dX9_over_64 : decode cX9_over 64 = .ok (.aload_n 0, 1) := by decide +kernel
theorem dX9_over_65 : decode cX9_over 65 = .ok (.getfield 42, 3) := by decide +kernel
theorem dX9_over_68 : decode cX9_over 68 = .ok (.iload 9, 2) := by decide +kernel
theorem dX9_over_70 : decode cX9_over 70 = .ok (.aaload, 1) := by decide +kernel
theorem dX9_over_71 : decode cX9_over 71 = .ok (.getfield 202, 3) := by decide +kernel
theorem dX9_over_74 : decode cX9_over 74 = .ok (.iload_n 2, 1) := by decide +kernel
theorem dX9_over_75 : decode cX9_over 75 = .ok (.iaload, 1) := by decide +kernel
theorem dX9_over_76 : decode cX9_over 76 = .ok (.i2l, 1) := by decide +kernel
theorem dX9_over_77 : decode cX9_over 77 = .ok (.lstore 10, 2) := by decide +kernel
theorem dX9_over_79 : decode cX9_over 79 = .ok (.iinc 4 1, 3) := by decide +kernel
theorem dX9_over_82 : decode cX9_over 82 = .ok (.lload 5, 2) := by decide +kernel
theorem dX9_over_84 : decode cX9_over 84 = .ok (.lload 10, 2) := by decide +kernel
theorem dX9_over_86 : decode cX9_over 86 = .ok (.aload_n 0, 1) := by decide +kernel
theorem dX9_over_87 : decode cX9_over 87 = .ok (.getfield 42, 3) := by decide +kernel
theorem dX9_over_90 : decode cX9_over 90 = .ok (.iload 9, 2) := by decide +kernel
theorem dX9_over_92 : decode cX9_over 92 = .ok (.aaload, 1) := by decide +kernel
theorem dX9_over_93 : decode cX9_over 93 = .ok (.getfield 195, 3) := by decide +kernel
theorem dX9_over_96 : decode cX9_over 96 = .ok (.iload_n 2, 1) := by decide +kernel
theorem dX9_over_97 : decode cX9_over 97 = .ok (.iaload, 1) := by decide +kernel
theorem dX9_over_98 : decode cX9_over 98 = .ok (.i2l, 1) := by decide +kernel
theorem dX9_over_99 : decode cX9_over 99 = .ok (.lmul, 1) := by decide +kernel
theorem dX9_over_100 : decode cX9_over 100 = .ok (.ladd, 1) := by decide +kernel
theorem dX9_over_101 : decode cX9_over 101 = .ok (.lstore 5, 2) := by decide +kernel
theorem dX9_over_103 : decode cX9_over 103 = .ok (.lload 7, 2) := by decide +kernel
theorem dX9_over_105 : decode cX9_over 105 = .ok (.lload 10, 2) := by decide +kernel
theorem dX9_over_107 : decode cX9_over 107 = .ok (.lload 10, 2) := by decide +kernel
theorem dX9_over_109 : decode cX9_over 109 = .ok (.lmul, 1) := by decide +kernel
theorem dX9_over_110 : decode cX9_over 110 = .ok (.ladd, 1) := by decide +kernel
theorem dX9_over_111 : decode cX9_over 111 = .ok (.lstore 7, 2) := by decide +kernel
theorem dX9_over_113 : decode cX9_over 113 = .ok (.iinc 9 1, 3) := by decide +kernel
theorem dX9_over_116 : decode cX9_over 116 = .ok (.goto (-76), 3) := by decide +kernel
theorem dX9_over_119 : decode cX9_over 119 = .ok (.iload 4, 2) := by decide +kernel
theorem dX9_over_121 : decode cX9_over 121 = .ok (.iconst 3, 1) := by decide +kernel
theorem dX9_over_122 : decode cX9_over 122 = .ok (.if_icmp .ge 7, 3) := by decide +kernel
theorem dX9_over_125 : decode cX9_over 125 = .ok (.ldc2_w 214, 3) := by decide +kernel
theorem dX9_over_128 : decode cX9_over 128 = .ok (.lreturn, 1) := by decide +kernel
theorem dX9_over_129 : decode cX9_over 129 = .ok (.iload_n 3, 1) := by decide +kernel
theorem dX9_over_130 : decode cX9_over 130 = .ok (.ifCond .ne 8, 3) := by decide +kernel
theorem dX9_over_133 : decode cX9_over 133 = .ok (.lload 5, 2) := by decide +kernel
theorem dX9_over_135 : decode cX9_over 135 = .ok (.goto 5, 3) := by decide +kernel
theorem dX9_over_138 : decode cX9_over 138 = .ok (.lload 7, 2) := by decide +kernel
theorem dX9_over_140 : decode cX9_over 140 = .ok (.lload 5, 2) := by decide +kernel
theorem dX9_over_142 : decode cX9_over 142 = .ok (.invokestatic 216, 3) := by decide +kernel
theorem dX9_over_145 : decode cX9_over 145 = .ok (.lload 7, 2) := by decide +kernel
theorem dX9_over_147 : decode cX9_over 147 = .ok (.invokestatic 222, 3) := by decide +kernel
theorem dX9_over_150 : decode cX9_over 150 = .ok (.ldiv, 1) := by decide +kernel
theorem dX9_over_151 : decode cX9_over 151 = .ok (.lreturn, 1) := by decide +kernel
set_option maxRecDepth 20000 in
theorem ggX9_leans_X9_isKeeper : GoodIn wsX9_leans wsX9_isKeeper := goodIn_r _ [5, 6, 7, 4, 8] (by decide +kernel) (by decide +kernel)
set_option maxRecDepth 20000 in
theorem gX9_leans_X9_isKeeper : GoodIn wsX9_leans (va_wsS RX9 183 yX9_isKeeper wsX9_isKeeper) := goodIn_app (goodIn_of _ (by decide +kernel)) ggX9_leans_X9_isKeeper
set_option maxRecDepth 20000 in
theorem ggX9_leans_X9_isKind : GoodIn wsX9_leans wsX9_isKind := goodIn_r _ [12, 13, 6, 7, 4, 8, 37, 38, 39, 40, 41, 42, 43, 44, 45, 46, 47, 48, 49, 50] (by decide +kernel) (by decide +kernel)
set_option maxRecDepth 20000 in
theorem gX9_leans_X9_isKind : GoodIn wsX9_leans (wsV RX9 113 RX9 yX9_isKind wsX9_isKind) := goodIn_app (goodIn_of _ (by decide +kernel)) ggX9_leans_X9_isKind
set_option maxRecDepth 20000 in
theorem ggX9_leans_X9_sheetsSoFar : GoodIn wsX9_leans wsX9_sheetsSoFar := goodIn_r _ [17, 18, 37, 38, 39, 40, 41, 42, 43, 44, 45, 46, 47, 48, 49, 50] (by decide +kernel) (by decide +kernel)
set_option maxRecDepth 20000 in
theorem gX9_leans_X9_sheetsSoFar : GoodIn wsX9_leans (wsV RX9 207 RX9 yX9_sheetsSoFar wsX9_sheetsSoFar) := goodIn_app (goodIn_of _ (by decide +kernel)) ggX9_leans_X9_sheetsSoFar
set_option maxRecDepth 20000 in
theorem ggX9_leans_X7_judges : GoodIn wsX9_leans wsX7_judges := goodIn_r _ [23, 24, 25, 26, 51, 52, 53, 54, 55] (by decide +kernel) (by decide +kernel)
set_option maxRecDepth 20000 in
theorem gX9_leans_X7_judges : GoodIn wsX9_leans (wsV RX9 211 RX7 yX7_judges wsX7_judges) := goodIn_app (goodIn_of _ (by decide +kernel)) ggX9_leans_X7_judges
set_option maxRecDepth 20000 in
theorem ggX9_leans_X7_isTold : GoodIn wsX9_leans wsX7_isTold := goodIn_r _ [30, 25, 31, 32, 33, 34, 35, 36, 51, 52, 53, 54, 55] (by decide +kernel) (by decide +kernel)
set_option maxRecDepth 20000 in
theorem gX9_leans_X7_isTold : GoodIn wsX9_leans (wsV RX9 199 RX7 yX7_isTold wsX7_isTold) := goodIn_app (goodIn_of _ (by decide +kernel)) ggX9_leans_X7_isTold
theorem dX9_leans_0 : decode cX9_leans 0 = .ok (.iload_n 1, 1) := by decide +kernel
theorem dX9_leans_1 : decode cX9_leans 1 = .ok (.invokestatic 183, 3) := by decide +kernel
theorem dX9_leans_4 : decode cX9_leans 4 = .ok (.ifCond .eq 11, 3) := by decide +kernel
theorem dX9_leans_7 : decode cX9_leans 7 = .ok (.aload_n 0, 1) := by decide +kernel
theorem dX9_leans_8 : decode cX9_leans 8 = .ok (.iload_n 2, 1) := by decide +kernel
theorem dX9_leans_9 : decode cX9_leans 9 = .ok (.invokevirtual 113, 3) := by decide +kernel
theorem dX9_leans_12 : decode cX9_leans 12 = .ok (.ifCond .ne 5, 3) := by decide +kernel
theorem dX9_leans_15 : decode cX9_leans 15 = .ok (.iconst (-1), 1) := by decide +kernel
theorem dX9_leans_16 : decode cX9_leans 16 = .ok (.ireturn, 1) := by decide +kernel
theorem dX9_leans_17 : decode cX9_leans 17 = .ok (.iconst 0, 1) := by decide +kernel
theorem dX9_leans_18 : decode cX9_leans 18 = .ok (.istore_n 3, 1) := by decide +kernel
theorem dX9_leans_19 : decode cX9_leans 19 = .ok (.iconst 0, 1) := by decide +kernel
theorem dX9_leans_20 : decode cX9_leans 20 = .ok (.istore 4, 2) := by decide +kernel
theorem dX9_leans_22 : decode cX9_leans 22 = .ok (.iload 4, 2) := by decide +kernel
theorem dX9_leans_24 : decode cX9_leans 24 = .ok (.aload_n 0, 1) := by decide +kernel
theorem dX9_leans_25 : decode cX9_leans 25 = .ok (.invokevirtual 207, 3) := by decide +kernel
theorem dX9_leans_28 : decode cX9_leans 28 = .ok (.if_icmp .ge 41, 3) := by decide +kernel
theorem dX9_leans_31 : decode cX9_leans 31 = .ok (.aload_n 0, 1) := by decide +kernel
theorem dX9_leans_32 : decode cX9_leans 32 = .ok (.getfield 42, 3) := by decide +kernel
theorem dX9_leans_35 : decode cX9_leans 35 = .ok (.iload 4, 2) := by decide +kernel
theorem dX9_leans_37 : decode cX9_leans 37 = .ok (.aaload, 1) := by decide +kernel
theorem dX9_leans_38 : decode cX9_leans 38 = .ok (.iload_n 1, 1) := by decide +kernel
theorem dX9_leans_39 : decode cX9_leans 39 = .ok (.iload_n 2, 1) := by decide +kernel
theorem dX9_leans_40 : decode cX9_leans 40 = .ok (.invokevirtual 211, 3) := by decide +kernel
theorem dX9_leans_43 : decode cX9_leans 43 = .ok (.ifCond .eq 20, 3) := by decide +kernel
theorem dX9_leans_46 : decode cX9_leans 46 = .ok (.aload_n 0, 1) := by decide +kernel
theorem dX9_leans_47 : decode cX9_leans 47 = .ok (.getfield 42, 3) := by decide +kernel
theorem dX9_leans_50 : decode cX9_leans 50 = .ok (.iload 4, 2) := by decide +kernel
theorem dX9_leans_52 : decode cX9_leans 52 = .ok (.aaload, 1) := by decide +kernel
theorem dX9_leans_53 : decode cX9_leans 53 = .ok (.iload_n 2, 1) := by decide +kernel
theorem dX9_leans_54 : decode cX9_leans 54 = .ok (.invokevirtual 199, 3) := by decide +kernel
theorem dX9_leans_57 : decode cX9_leans 57 = .ok (.ifCond .eq 6, 3) := by decide +kernel
theorem dX9_leans_60 : decode cX9_leans 60 = .ok (.iinc 3 1, 3) := by decide +kernel
theorem dX9_leans_63 : decode cX9_leans 63 = .ok (.iinc 4 1, 3) := by decide +kernel
theorem dX9_leans_66 : decode cX9_leans 66 = .ok (.goto (-44), 3) := by decide +kernel
theorem dX9_leans_69 : decode cX9_leans 69 = .ok (.iload_n 3, 1) := by decide +kernel
theorem dX9_leans_70 : decode cX9_leans 70 = .ok (.ireturn, 1) := by decide +kernel
set_option maxRecDepth 20000 in
theorem ggX9_takings_X9_isBar : GoodIn wsX9_takings wsX9_isBar := goodIn_r _ [5, 6, 7, 4, 8] (by decide +kernel) (by decide +kernel)
set_option maxRecDepth 20000 in
theorem gX9_takings_X9_isBar : GoodIn wsX9_takings (va_wsS RX9 133 yX9_isBar wsX9_isBar) := goodIn_app (goodIn_of _ (by decide +kernel)) ggX9_takings_X9_isBar
theorem dX9_takings_0 : decode cX9_takings 0 = .ok (.iload_n 1, 1) := by decide +kernel
theorem dX9_takings_1 : decode cX9_takings 1 = .ok (.invokestatic 133, 3) := by decide +kernel
theorem dX9_takings_4 : decode cX9_takings 4 = .ok (.ifCond .eq 12, 3) := by decide +kernel
theorem dX9_takings_7 : decode cX9_takings 7 = .ok (.aload_n 0, 1) := by decide +kernel
theorem dX9_takings_8 : decode cX9_takings 8 = .ok (.getfield 56, 3) := by decide +kernel
theorem dX9_takings_11 : decode cX9_takings 11 = .ok (.iload_n 1, 1) := by decide +kernel
theorem dX9_takings_12 : decode cX9_takings 12 = .ok (.iaload, 1) := by decide +kernel
theorem dX9_takings_13 : decode cX9_takings 13 = .ok (.goto 4, 3) := by decide +kernel
theorem dX9_takings_16 : decode cX9_takings 16 = .ok (.iconst (-1), 1) := by decide +kernel
theorem dX9_takings_17 : decode cX9_takings 17 = .ok (.ireturn, 1) := by decide +kernel
set_option maxRecDepth 20000 in
theorem ggX9_foretell_X9_isIn : GoodIn wsX9_foretell wsX9_isIn := goodIn_r _ [6] (by decide +kernel) (by decide +kernel)
set_option maxRecDepth 20000 in
theorem gX9_foretell_X9_isIn : GoodIn wsX9_foretell (va_wsS RX9 93 yX9_isIn wsX9_isIn) := goodIn_app (goodIn_of _ (by decide +kernel)) ggX9_foretell_X9_isIn
set_option maxRecDepth 20000 in
theorem ggX9_foretell_X3_add : GoodIn wsX9_foretell wsX3_add := goodIn_r _ [11, 12, 13, 14, 29, 30, 31] (by decide +kernel) (by decide +kernel)
set_option maxRecDepth 20000 in
theorem gX9_foretell_X3_add : GoodIn wsX9_foretell (wsV RX9 229 RX3 yX3_add wsX3_add) := goodIn_app (goodIn_of _ (by decide +kernel)) ggX9_foretell_X3_add
theorem dX9_foretell_0 : decode cX9_foretell 0 = .ok (.iload_n 1, 1) := by decide +kernel
theorem dX9_foretell_1 : decode cX9_foretell 1 = .ok (.iconst 0, 1) := by decide +kernel
theorem dX9_foretell_2 : decode cX9_foretell 2 = .ok (.sipush 200, 3) := by decide +kernel
theorem dX9_foretell_5 : decode cX9_foretell 5 = .ok (.invokestatic 93, 3) := by decide +kernel
theorem dX9_foretell_8 : decode cX9_foretell 8 = .ok (.ifCond .eq 13, 3) := by decide +kernel
theorem dX9_foretell_11 : decode cX9_foretell 11 = .ok (.iload_n 2, 1) := by decide +kernel
theorem dX9_foretell_12 : decode cX9_foretell 12 = .ok (.iconst 1, 1) := by decide +kernel
theorem dX9_foretell_13 : decode cX9_foretell 13 = .ok (.bipush 100, 2) := by decide +kernel
theorem dX9_foretell_15 : decode cX9_foretell 15 = .ok (.invokestatic 93, 3) := by decide +kernel
theorem dX9_foretell_18 : decode cX9_foretell 18 = .ok (.ifCond .ne 5, 3) := by decide +kernel
theorem dX9_foretell_21 : decode cX9_foretell 21 = .ok (.iconst (-1), 1) := by decide +kernel
theorem dX9_foretell_22 : decode cX9_foretell 22 = .ok (.ireturn, 1) := by decide +kernel
theorem dX9_foretell_23 : decode cX9_foretell 23 = .ok (.aload_n 0, 1) := by decide +kernel
theorem dX9_foretell_24 : decode cX9_foretell 24 = .ok (.getfield 62, 3) := by decide +kernel
theorem dX9_foretell_27 : decode cX9_foretell 27 = .ok (.getfield 226, 3) := by decide +kernel
theorem dX9_foretell_30 : decode cX9_foretell 30 = .ok (.bipush 8, 2) := by decide +kernel
theorem dX9_foretell_32 : decode cX9_foretell 32 = .ok (.if_icmp .lt 6, 3) := by decide +kernel
theorem dX9_foretell_35 : decode cX9_foretell 35 = .ok (.bipush (-3), 2) := by decide +kernel
theorem dX9_foretell_37 : decode cX9_foretell 37 = .ok (.ireturn, 1) := by decide +kernel
theorem dX9_foretell_38 : decode cX9_foretell 38 = .ok (.aload_n 0, 1) := by decide +kernel
theorem dX9_foretell_39 : decode cX9_foretell 39 = .ok (.getfield 62, 3) := by decide +kernel
theorem dX9_foretell_42 : decode cX9_foretell 42 = .ok (.iload_n 1, 1) := by decide +kernel
theorem dX9_foretell_43 : decode cX9_foretell 43 = .ok (.iload_n 2, 1) := by decide +kernel
theorem dX9_foretell_44 : decode cX9_foretell 44 = .ok (.invokevirtual 229, 3) := by decide +kernel
theorem dX9_foretell_47 : decode cX9_foretell 47 = .ok (.aload_n 0, 1) := by decide +kernel
theorem dX9_foretell_48 : decode cX9_foretell 48 = .ok (.getfield 62, 3) := by decide +kernel
theorem dX9_foretell_51 : decode cX9_foretell 51 = .ok (.getfield 226, 3) := by decide +kernel
theorem dX9_foretell_54 : decode cX9_foretell 54 = .ok (.ireturn, 1) := by decide +kernel
theorem dX9_forget_0 : decode cX9_forget 0 = .ok (.aload_n 0, 1) := by decide +kernel
theorem dX9_forget_1 : decode cX9_forget 1 = .ok (.getfield 62, 3) := by decide +kernel
theorem dX9_forget_4 : decode cX9_forget 4 = .ok (.getfield 226, 3) := by decide +kernel
theorem dX9_forget_7 : decode cX9_forget 7 = .ok (.istore_n 1, 1) := by decide +kernel
theorem dX9_forget_8 : decode cX9_forget 8 = .ok (.aload_n 0, 1) := by decide +kernel
theorem dX9_forget_9 : decode cX9_forget 9 = .ok (.getfield 62, 3) := by decide +kernel
theorem dX9_forget_12 : decode cX9_forget 12 = .ok (.iconst 0, 1) := by decide +kernel
theorem dX9_forget_13 : decode cX9_forget 13 = .ok (.putfield 226, 3) := by decide +kernel
theorem dX9_forget_16 : decode cX9_forget 16 = .ok (.iload_n 1, 1) := by decide +kernel
theorem dX9_forget_17 : decode cX9_forget 17 = .ok (.ireturn, 1) := by decide +kernel
set_option maxRecDepth 20000 in
theorem ggX9_press_X9_isIn : GoodIn wsX9_press wsX9_isIn := goodIn_r _ [7] (by decide +kernel) (by decide +kernel)
set_option maxRecDepth 20000 in
theorem gX9_press_X9_isIn : GoodIn wsX9_press (va_wsS RX9 93 yX9_isIn wsX9_isIn) := goodIn_app (goodIn_of _ (by decide +kernel)) ggX9_press_X9_isIn
set_option maxRecDepth 20000 in
theorem ggX9_press_X3_par : GoodIn wsX9_press wsX3_par := goodIn_r _ [12, 13, 14, 15, 11, 16, 17, 18, 19, 20, 21, 22, 23, 39, 40, 41] (by decide +kernel) (by decide +kernel)
set_option maxRecDepth 20000 in
theorem gX9_press_X3_par : GoodIn wsX9_press (wsV RX9 233 RX3 yX3_par wsX3_par) := goodIn_app (goodIn_of _ (by decide +kernel)) ggX9_press_X3_par
set_option maxRecDepth 20000 in
theorem ggX9_press_X3_costOf : GoodIn wsX9_press wsX3_costOf := goodIn_r _ [16, 17, 18, 19, 20, 21, 22, 23, 39, 40, 41] (by decide +kernel) (by decide +kernel)
set_option maxRecDepth 20000 in
theorem gX9_press_X3_costOf : GoodIn wsX9_press (wsV RX9 236 RX3 yX3_costOf wsX3_costOf) := goodIn_app (goodIn_of _ (by decide +kernel)) ggX9_press_X3_costOf
theorem dX9_press_0 : decode cX9_press 0 = .ok (.aload_n 0, 1) := by decide +kernel
theorem dX9_press_1 : decode cX9_press 1 = .ok (.getfield 62, 3) := by decide +kernel
theorem dX9_press_4 : decode cX9_press 4 = .ok (.getfield 226, 3) := by decide +kernel
theorem dX9_press_7 : decode cX9_press 7 = .ok (.ifCond .ne 6, 3) := by decide +kernel
theorem dX9_press_10 : decode cX9_press 10 = .ok (.bipush (-2), 2) := by decide +kernel
theorem dX9_press_12 : decode cX9_press 12 = .ok (.ireturn, 1) := by decide +kernel
theorem dX9_press_13 : decode cX9_press 13 = .ok (.iload_n 1, 1) := by decide +kernel
theorem dX9_press_14 : decode cX9_press 14 = .ok (.iconst (-1), 1) := by decide +kernel
theorem dX9_press_15 : decode cX9_press 15 = .ok (.sipush 200, 3) := by decide +kernel
theorem dX9_press_18 : decode cX9_press 18 = .ok (.invokestatic 93, 3) := by decide +kernel
theorem dX9_press_21 : decode cX9_press 21 = .ok (.ifCond .ne 5, 3) := by decide +kernel
theorem dX9_press_24 : decode cX9_press 24 = .ok (.iconst (-1), 1) := by decide +kernel
theorem dX9_press_25 : decode cX9_press 25 = .ok (.ireturn, 1) := by decide +kernel
theorem dX9_press_26 : decode cX9_press 26 = .ok (.aload_n 0, 1) := by decide +kernel
theorem dX9_press_27 : decode cX9_press 27 = .ok (.getfield 37, 3) := by decide +kernel
theorem dX9_press_30 : decode cX9_press 30 = .ok (.iconst 2, 1) := by decide +kernel
theorem dX9_press_31 : decode cX9_press 31 = .ok (.iaload, 1) := by decide +kernel
theorem dX9_press_32 : decode cX9_press 32 = .ok (.istore_n 2, 1) := by decide +kernel
theorem dX9_press_33 : decode cX9_press 33 = .ok (.aload_n 0, 1) := by decide +kernel
theorem dX9_press_34 : decode cX9_press 34 = .ok (.getfield 37, 3) := by decide +kernel
theorem dX9_press_37 : decode cX9_press 37 = .ok (.iconst 3, 1) := by decide +kernel
theorem dX9_press_38 : decode cX9_press 38 = .ok (.iaload, 1) := by decide +kernel
theorem dX9_press_39 : decode cX9_press 39 = .ok (.istore_n 3, 1) := by decide +kernel
theorem dX9_press_40 : decode cX9_press 40 = .ok (.iload_n 1, 1) := by decide +kernel
theorem dX9_press_41 : decode cX9_press 41 = .ok (.iconst (-1), 1) := by decide +kernel
theorem dX9_press_42 : decode cX9_press 42 = .ok (.if_icmp .ne 15, 3) := by decide +kernel
theorem dX9_press_45 : decode cX9_press 45 = .ok (.aload_n 0, 1) := by decide +kernel
theorem dX9_press_46 : decode cX9_press 46 = .ok (.getfield 62, 3) := by decide +kernel
theorem dX9_press_49 : decode cX9_press 49 = .ok (.iload_n 2, 1) := by decide +kernel
theorem dX9_press_50 : decode cX9_press 50 = .ok (.iload_n 3, 1) := by decide +kernel
theorem dX9_press_51 : decode cX9_press 51 = .ok (.invokevirtual 233, 3) := by decide +kernel
theorem dX9_press_54 : decode cX9_press 54 = .ok (.goto 13, 3) := by decide +kernel
theorem dX9_press_57 : decode cX9_press 57 = .ok (.aload_n 0, 1) := by decide +kernel
theorem dX9_press_58 : decode cX9_press 58 = .ok (.getfield 62, 3) := by decide +kernel
theorem dX9_press_61 : decode cX9_press 61 = .ok (.iload_n 1, 1) := by decide +kernel
theorem dX9_press_62 : decode cX9_press 62 = .ok (.iload_n 2, 1) := by decide +kernel
theorem dX9_press_63 : decode cX9_press 63 = .ok (.iload_n 3, 1) := by decide +kernel
theorem dX9_press_64 : decode cX9_press 64 = .ok (.invokevirtual 236, 3) := by decide +kernel
theorem dX9_press_67 : decode cX9_press 67 = .ok (.ireturn, 1) := by decide +kernel
set_option maxRecDepth 20000 in
theorem ggX9_makes_X9_allKinds : GoodIn wsX9_makes wsX9_allKinds := goodIn_r _ [5, 6, 22, 23, 24, 25, 26, 27, 28, 29, 30, 31, 32, 33, 34, 35] (by decide +kernel) (by decide +kernel)
set_option maxRecDepth 20000 in
theorem gX9_makes_X9_allKinds : GoodIn wsX9_makes (wsV RX9 239 RX9 yX9_allKinds wsX9_allKinds) := goodIn_app (goodIn_of _ (by decide +kernel)) ggX9_makes_X9_allKinds
set_option maxRecDepth 20000 in
theorem ggX9_makes_X9_isIn : GoodIn wsX9_makes wsX9_isIn := goodIn_r _ [9] (by decide +kernel) (by decide +kernel)
set_option maxRecDepth 20000 in
theorem gX9_makes_X9_isIn : GoodIn wsX9_makes (va_wsS RX9 93 yX9_isIn wsX9_isIn) := goodIn_app (goodIn_of _ (by decide +kernel)) ggX9_makes_X9_isIn
set_option maxRecDepth 20000 in
theorem ggX9_makes_X9_madeBy : GoodIn wsX9_makes wsX9_madeBy := goodIn_r _ [13, 14, 15, 16, 17, 18, 19, 20, 21, 22, 23, 24, 25, 26, 27, 28, 29, 30, 31, 32, 33, 34, 35, 36, 37, 38, 39] (by decide +kernel) (by decide +kernel)
set_option maxRecDepth 20000 in
theorem gX9_makes_X9_madeBy : GoodIn wsX9_makes (wsV RX9 242 RX9 yX9_madeBy wsX9_madeBy) := goodIn_app (goodIn_of _ (by decide +kernel)) ggX9_makes_X9_madeBy
theorem dX9_makes_0 : decode cX9_makes 0 = .ok (.iload_n 1, 1) := by decide +kernel
theorem dX9_makes_1 : decode cX9_makes 1 = .ok (.iconst 0, 1) := by decide +kernel
theorem dX9_makes_2 : decode cX9_makes 2 = .ok (.aload_n 0, 1) := by decide +kernel
theorem dX9_makes_3 : decode cX9_makes 3 = .ok (.invokevirtual 239, 3) := by decide +kernel
theorem dX9_makes_6 : decode cX9_makes 6 = .ok (.invokestatic 93, 3) := by decide +kernel
theorem dX9_makes_9 : decode cX9_makes 9 = .ok (.ifCond .eq 11, 3) := by decide +kernel
theorem dX9_makes_12 : decode cX9_makes 12 = .ok (.aload_n 0, 1) := by decide +kernel
theorem dX9_makes_13 : decode cX9_makes 13 = .ok (.iload_n 1, 1) := by decide +kernel
theorem dX9_makes_14 : decode cX9_makes 14 = .ok (.invokevirtual 242, 3) := by decide +kernel
theorem dX9_makes_17 : decode cX9_makes 17 = .ok (.goto 4, 3) := by decide +kernel
theorem dX9_makes_20 : decode cX9_makes 20 = .ok (.iconst (-1), 1) := by decide +kernel
theorem dX9_makes_21 : decode cX9_makes 21 = .ok (.ireturn, 1) := by decide +kernel
set_option maxRecDepth 20000 in
theorem ggX9_fewest_X9_isIn : GoodIn wsX9_fewest wsX9_isIn := goodIn_r _ [4] (by decide +kernel) (by decide +kernel)
set_option maxRecDepth 20000 in
theorem gX9_fewest_X9_isIn : GoodIn wsX9_fewest (va_wsS RX9 93 yX9_isIn wsX9_isIn) := goodIn_app (goodIn_of _ (by decide +kernel)) ggX9_fewest_X9_isIn
set_option maxRecDepth 20000 in
theorem ggX9_fewest_X9_allKinds : GoodIn wsX9_fewest wsX9_allKinds := goodIn_r _ [8, 9, 29, 30, 31, 32, 33, 34, 35, 36, 37, 38, 39, 40, 41, 42] (by decide +kernel) (by decide +kernel)
set_option maxRecDepth 20000 in
theorem gX9_fewest_X9_allKinds : GoodIn wsX9_fewest (wsV RX9 239 RX9 yX9_allKinds wsX9_allKinds) := goodIn_app (goodIn_of _ (by decide +kernel)) ggX9_fewest_X9_allKinds
set_option maxRecDepth 20000 in
theorem ggX9_fewest_J6_bitCount_0f7a4 : GoodIn wsX9_fewest wsJ6_bitCount_0f7a4 := goodIn_r _ [13, 14, 15, 16] (by decide +kernel) (by decide +kernel)
set_option maxRecDepth 20000 in
theorem gX9_fewest_J6_bitCount_0f7a4 : GoodIn wsX9_fewest (va_wsS RX9 246 yJ6_bitCount_0f7a4 wsJ6_bitCount_0f7a4) := goodIn_app (goodIn_of _ (by decide +kernel)) ggX9_fewest_J6_bitCount_0f7a4
set_option maxRecDepth 20000 in
theorem ggX9_fewest_X9_madeBy : GoodIn wsX9_fewest wsX9_madeBy := goodIn_r _ [20, 21, 22, 23, 24, 25, 26, 27, 28, 29, 30, 31, 32, 33, 34, 35, 36, 37, 38, 39, 40, 41, 42, 43, 44, 45, 46] (by decide +kernel) (by decide +kernel)
set_option maxRecDepth 20000 in
theorem gX9_fewest_X9_madeBy : GoodIn wsX9_fewest (wsV RX9 242 RX9 yX9_madeBy wsX9_madeBy) := goodIn_app (goodIn_of _ (by decide +kernel)) ggX9_fewest_X9_madeBy
theorem dX9_fewest_0 : decode cX9_fewest 0 = .ok (.iload_n 1, 1) := by decide +kernel
theorem dX9_fewest_1 : decode cX9_fewest 1 = .ok (.iconst 1, 1) := by decide +kernel
theorem dX9_fewest_2 : decode cX9_fewest 2 = .ok (.bipush 12, 2) := by decide +kernel
theorem dX9_fewest_4 : decode cX9_fewest 4 = .ok (.invokestatic 93, 3) := by decide +kernel
theorem dX9_fewest_7 : decode cX9_fewest 7 = .ok (.ifCond .ne 5, 3) := by decide +kernel
theorem dX9_fewest_10 : decode cX9_fewest 10 = .ok (.iconst (-1), 1) := by decide +kernel
theorem dX9_fewest_11 : decode cX9_fewest 11 = .ok (.ireturn, 1) := by decide +kernel
theorem dX9_fewest_12 : decode cX9_fewest 12 = .ok (.bipush (-4), 2) := by decide +kernel
theorem dX9_fewest_14 : decode cX9_fewest 14 = .ok (.istore_n 2, 1) := by decide +kernel
theorem dX9_fewest_15 : decode cX9_fewest 15 = .ok (.iconst 0, 1) := by decide +kernel
theorem dX9_fewest_16 : decode cX9_fewest 16 = .ok (.istore_n 3, 1) := by decide +kernel
theorem dX9_fewest_17 : decode cX9_fewest 17 = .ok (.iload_n 3, 1) := by decide +kernel
theorem dX9_fewest_18 : decode cX9_fewest 18 = .ok (.aload_n 0, 1) := by decide +kernel
theorem dX9_fewest_19 : decode cX9_fewest 19 = .ok (.invokevirtual 239, 3) := by decide +kernel
theorem dX9_fewest_22 : decode cX9_fewest 22 = .ok (.if_icmp .gt 49, 3) := by decide +kernel
theorem dX9_fewest_25 : decode cX9_fewest 25 = .ok (.iload_n 2, 1) := by decide +kernel
theorem dX9_fewest_26 : decode cX9_fewest 26 = .ok (.bipush (-4), 2) := by decide +kernel
theorem dX9_fewest_28 : decode cX9_fewest 28 = .ok (.if_icmp .eq 14, 3) := by decide +kernel
theorem dX9_fewest_31 : decode cX9_fewest 31 = .ok (.iload_n 3, 1) := by decide +kernel
theorem dX9_fewest_32 : decode cX9_fewest 32 = .ok (.invokestatic 246, 3) := by decide +kernel
theorem dX9_fewest_35 : decode cX9_fewest 35 = .ok (.iload_n 2, 1) := by decide +kernel
theorem dX9_fewest_36 : decode cX9_fewest 36 = .ok (.invokestatic 246, 3) := by decide +kernel
theorem dX9_fewest_39 : decode cX9_fewest 39 = .ok (.if_icmp .ge 7, 3) := by decide +kernel
theorem dX9_fewest_42 : decode cX9_fewest 42 = .ok (.iconst 1, 1) := by decide +kernel
theorem dX9_fewest_43 : decode cX9_fewest 43 = .ok (.goto 4, 3) := by decide +kernel
theorem dX9_fewest_46 : decode cX9_fewest 46 = .ok (.iconst 0, 1) := by decide +kernel
theorem dX9_fewest_47 : decode cX9_fewest 47 = .ok (.istore 4, 2) := by decide +kernel
theorem dX9_fewest_49 : decode cX9_fewest 49 = .ok (.iload 4, 2) := by decide +kernel
theorem dX9_fewest_51 : decode cX9_fewest 51 = .ok (.ifCond .eq 14, 3) := by decide +kernel
theorem dX9_fewest_54 : decode cX9_fewest 54 = .ok (.aload_n 0, 1) := by decide +kernel
theorem dX9_fewest_55 : decode cX9_fewest 55 = .ok (.iload_n 3, 1) := by decide +kernel
theorem dX9_fewest_56 : decode cX9_fewest 56 = .ok (.invokevirtual 242, 3) := by decide +kernel
theorem dX9_fewest_59 : decode cX9_fewest 59 = .ok (.iload_n 1, 1) := by decide +kernel
theorem dX9_fewest_60 : decode cX9_fewest 60 = .ok (.if_icmp .lt 5, 3) := by decide +kernel
theorem dX9_fewest_63 : decode cX9_fewest 63 = .ok (.iload_n 3, 1) := by decide +kernel
theorem dX9_fewest_64 : decode cX9_fewest 64 = .ok (.istore_n 2, 1) := by decide +kernel
theorem dX9_fewest_65 : decode cX9_fewest 65 = .ok (.iinc 3 1, 3) := by decide +kernel
theorem dX9_fewest_68 : decode cX9_fewest 68 = .ok (.goto (-51), 3) := by decide +kernel
theorem dX9_fewest_71 : decode cX9_fewest 71 = .ok (.iload_n 2, 1) := by decide +kernel
theorem dX9_fewest_72 : decode cX9_fewest 72 = .ok (.ireturn, 1) := by decide +kernel
set_option maxRecDepth 20000 in
theorem ggX9_most_X9_isIn : GoodIn wsX9_most wsX9_isIn := goodIn_r _ [5] (by decide +kernel) (by decide +kernel)
set_option maxRecDepth 20000 in
theorem gX9_most_X9_isIn : GoodIn wsX9_most (va_wsS RX9 93 yX9_isIn wsX9_isIn) := goodIn_app (goodIn_of _ (by decide +kernel)) ggX9_most_X9_isIn
set_option maxRecDepth 20000 in
theorem ggX9_most_X9_allKinds : GoodIn wsX9_most wsX9_allKinds := goodIn_r _ [9, 1, 29, 30, 31, 32, 33, 34, 35, 36, 37, 38, 39, 40, 41, 42] (by decide +kernel) (by decide +kernel)
set_option maxRecDepth 20000 in
theorem gX9_most_X9_allKinds : GoodIn wsX9_most (wsV RX9 239 RX9 yX9_allKinds wsX9_allKinds) := goodIn_app (goodIn_of _ (by decide +kernel)) ggX9_most_X9_allKinds
set_option maxRecDepth 20000 in
theorem ggX9_most_J6_bitCount_0f7a4 : GoodIn wsX9_most wsJ6_bitCount_0f7a4 := goodIn_r _ [13, 14, 15, 16] (by decide +kernel) (by decide +kernel)
set_option maxRecDepth 20000 in
theorem gX9_most_J6_bitCount_0f7a4 : GoodIn wsX9_most (va_wsS RX9 246 yJ6_bitCount_0f7a4 wsJ6_bitCount_0f7a4) := goodIn_app (goodIn_of _ (by decide +kernel)) ggX9_most_J6_bitCount_0f7a4
set_option maxRecDepth 20000 in
theorem ggX9_most_X9_madeBy : GoodIn wsX9_most wsX9_madeBy := goodIn_r _ [20, 21, 22, 23, 24, 25, 26, 27, 28, 29, 30, 31, 32, 33, 34, 35, 36, 37, 38, 39, 40, 41, 42, 43, 44, 45, 46] (by decide +kernel) (by decide +kernel)
set_option maxRecDepth 20000 in
theorem gX9_most_X9_madeBy : GoodIn wsX9_most (wsV RX9 242 RX9 yX9_madeBy wsX9_madeBy) := goodIn_app (goodIn_of _ (by decide +kernel)) ggX9_most_X9_madeBy
theorem dX9_most_0 : decode cX9_most 0 = .ok (.iload_n 1, 1) := by decide +kernel
theorem dX9_most_1 : decode cX9_most 1 = .ok (.iconst 0, 1) := by decide +kernel
theorem dX9_most_2 : decode cX9_most 2 = .ok (.aload_n 0, 1) := by decide +kernel
theorem dX9_most_3 : decode cX9_most 3 = .ok (.getfield 15, 3) := by decide +kernel
theorem dX9_most_6 : decode cX9_most 6 = .ok (.invokestatic 93, 3) := by decide +kernel
theorem dX9_most_9 : decode cX9_most 9 = .ok (.ifCond .ne 5, 3) := by decide +kernel
theorem dX9_most_12 : decode cX9_most 12 = .ok (.iconst (-1), 1) := by decide +kernel
theorem dX9_most_13 : decode cX9_most 13 = .ok (.ireturn, 1) := by decide +kernel
theorem dX9_most_14 : decode cX9_most 14 = .ok (.iconst 0, 1) := by decide +kernel
theorem dX9_most_15 : decode cX9_most 15 = .ok (.istore_n 2, 1) := by decide +kernel
theorem dX9_most_16 : decode cX9_most 16 = .ok (.iconst (-1), 1) := by decide +kernel
theorem dX9_most_17 : decode cX9_most 17 = .ok (.istore_n 3, 1) := by decide +kernel
theorem dX9_most_18 : decode cX9_most 18 = .ok (.iconst 0, 1) := by decide +kernel
theorem dX9_most_19 : decode cX9_most 19 = .ok (.istore 4, 2) := by decide +kernel
theorem dX9_most_21 : decode cX9_most 21 = .ok (.iload 4, 2) := by decide +kernel
theorem dX9_most_23 : decode cX9_most 23 = .ok (.aload_n 0, 1) := by decide +kernel
theorem dX9_most_24 : decode cX9_most 24 = .ok (.invokevirtual 239, 3) := by decide +kernel
theorem dX9_most_27 : decode cX9_most 27 = .ok (.if_icmp .gt 42, 3) := by decide +kernel
theorem dX9_most_30 : decode cX9_most 30 = .ok (.iload 4, 2) := by decide +kernel
theorem dX9_most_32 : decode cX9_most 32 = .ok (.invokestatic 246, 3) := by decide +kernel
theorem dX9_most_35 : decode cX9_most 35 = .ok (.iload_n 1, 1) := by decide +kernel
theorem dX9_most_36 : decode cX9_most 36 = .ok (.if_icmp .ne 12, 3) := by decide +kernel
theorem dX9_most_39 : decode cX9_most 39 = .ok (.aload_n 0, 1) := by decide +kernel
theorem dX9_most_40 : decode cX9_most 40 = .ok (.iload 4, 2) := by decide +kernel
theorem dX9_most_42 : decode cX9_most 42 = .ok (.invokevirtual 242, 3) := by decide +kernel
theorem dX9_most_45 : decode cX9_most 45 = .ok (.goto 4, 3) := by decide +kernel
theorem dX9_most_48 : decode cX9_most 48 = .ok (.iconst (-1), 1) := by decide +kernel
theorem dX9_most_49 : decode cX9_most 49 = .ok (.istore 5, 2) := by decide +kernel
theorem dX9_most_51 : decode cX9_most 51 = .ok (.iload 5, 2) := by decide +kernel
theorem dX9_most_53 : decode cX9_most 53 = .ok (.iload_n 3, 1) := by decide +kernel
theorem dX9_most_54 : decode cX9_most 54 = .ok (.if_icmp .le 9, 3) := by decide +kernel
theorem dX9_most_57 : decode cX9_most 57 = .ok (.iload 4, 2) := by decide +kernel
theorem dX9_most_59 : decode cX9_most 59 = .ok (.istore_n 2, 1) := by decide +kernel
theorem dX9_most_60 : decode cX9_most 60 = .ok (.iload 5, 2) := by decide +kernel
theorem dX9_most_62 : decode cX9_most 62 = .ok (.istore_n 3, 1) := by decide +kernel
theorem dX9_most_63 : decode cX9_most 63 = .ok (.iinc 4 1, 3) := by decide +kernel
theorem dX9_most_66 : decode cX9_most 66 = .ok (.goto (-45), 3) := by decide +kernel
theorem dX9_most_69 : decode cX9_most 69 = .ok (.iload_n 2, 1) := by decide +kernel
theorem dX9_most_70 : decode cX9_most 70 = .ok (.ireturn, 1) := by decide +kernel
set_option maxRecDepth 20000 in
theorem ggX9_priceRule_X9_isIn : GoodIn wsX9_priceRule wsX9_isIn := goodIn_r _ [10] (by decide +kernel) (by decide +kernel)
set_option maxRecDepth 20000 in
theorem gX9_priceRule_X9_isIn : GoodIn wsX9_priceRule (va_wsS RX9 93 yX9_isIn wsX9_isIn) := goodIn_app (goodIn_of _ (by decide +kernel)) ggX9_priceRule_X9_isIn
theorem dX9_priceRule_0 : decode cX9_priceRule 0 = .ok (.iload_n 2, 1) := by decide +kernel
theorem dX9_priceRule_1 : decode cX9_priceRule 1 = .ok (.iconst 0, 1) := by decide +kernel
theorem dX9_priceRule_2 : decode cX9_priceRule 2 = .ok (.sipush 1439, 3) := by decide +kernel
theorem dX9_priceRule_5 : decode cX9_priceRule 5 = .ok (.invokestatic 93, 3) := by decide +kernel
theorem dX9_priceRule_8 : decode cX9_priceRule 8 = .ok (.ifCond .eq 18, 3) := by decide +kernel
theorem dX9_priceRule_11 : decode cX9_priceRule 11 = .ok (.iload_n 3, 1) := by decide +kernel
theorem dX9_priceRule_12 : decode cX9_priceRule 12 = .ok (.iconst 0, 1) := by decide +kernel
theorem dX9_priceRule_13 : decode cX9_priceRule 13 = .ok (.sipush 1439, 3) := by decide +kernel
theorem dX9_priceRule_16 : decode cX9_priceRule 16 = .ok (.invokestatic 93, 3) := by decide +kernel
theorem dX9_priceRule_19 : decode cX9_priceRule 19 = .ok (.ifCond .eq 7, 3) := by decide +kernel
theorem dX9_priceRule_22 : decode cX9_priceRule 22 = .ok (.iconst 1, 1) := by decide +kernel
theorem dX9_priceRule_23 : decode cX9_priceRule 23 = .ok (.goto 4, 3) := by decide +kernel
theorem dX9_priceRule_26 : decode cX9_priceRule 26 = .ok (.iconst 0, 1) := by decide +kernel
theorem dX9_priceRule_27 : decode cX9_priceRule 27 = .ok (.istore 5, 2) := by decide +kernel
theorem dX9_priceRule_29 : decode cX9_priceRule 29 = .ok (.iload_n 1, 1) := by decide +kernel
theorem dX9_priceRule_30 : decode cX9_priceRule 30 = .ok (.iconst 0, 1) := by decide +kernel
theorem dX9_priceRule_31 : decode cX9_priceRule 31 = .ok (.bipush 127, 2) := by decide +kernel
theorem dX9_priceRule_33 : decode cX9_priceRule 33 = .ok (.invokestatic 93, 3) := by decide +kernel
theorem dX9_priceRule_36 : decode cX9_priceRule 36 = .ok (.ifCond .eq 20, 3) := by decide +kernel
theorem dX9_priceRule_39 : decode cX9_priceRule 39 = .ok (.iload 5, 2) := by decide +kernel
theorem dX9_priceRule_41 : decode cX9_priceRule 41 = .ok (.ifCond .eq 15, 3) := by decide +kernel
theorem dX9_priceRule_44 : decode cX9_priceRule 44 = .ok (.iload 4, 2) := by decide +kernel
theorem dX9_priceRule_46 : decode cX9_priceRule 46 = .ok (.iconst 0, 1) := by decide +kernel
theorem dX9_priceRule_47 : decode cX9_priceRule 47 = .ok (.sipush 200, 3) := by decide +kernel
theorem dX9_priceRule_50 : decode cX9_priceRule 50 = .ok (.invokestatic 93, 3) := by decide +kernel
theorem dX9_priceRule_53 : decode cX9_priceRule 53 = .ok (.ifCond .ne 5, 3) := by decide +kernel
theorem dX9_priceRule_56 : decode cX9_priceRule 56 = .ok (.iconst (-1), 1) := by decide +kernel
theorem dX9_priceRule_57 : decode cX9_priceRule 57 = .ok (.ireturn, 1) := by decide +kernel
theorem dX9_priceRule_58 : decode cX9_priceRule 58 = .ok (.aload_n 0, 1) := by decide +kernel
theorem dX9_priceRule_59 : decode cX9_priceRule 59 = .ok (.getfield 72, 3) := by decide +kernel
theorem dX9_priceRule_62 : decode cX9_priceRule 62 = .ok (.bipush 12, 2) := by decide +kernel
theorem dX9_priceRule_64 : decode cX9_priceRule 64 = .ok (.if_icmp .lt 6, 3) := by decide +kernel
theorem dX9_priceRule_67 : decode cX9_priceRule 67 = .ok (.bipush (-3), 2) := by decide +kernel
theorem dX9_priceRule_69 : decode cX9_priceRule 69 = .ok (.ireturn, 1) := by decide +kernel
theorem dX9_priceRule_70 : decode cX9_priceRule 70 = .ok (.aload_n 0, 1) := by decide +kernel
theorem dX9_priceRule_71 : decode cX9_priceRule 71 = .ok (.getfield 68, 3) := by decide +kernel
theorem dX9_priceRule_74 : decode cX9_priceRule 74 = .ok (.aload_n 0, 1) := by decide +kernel
theorem dX9_priceRule_75 : decode cX9_priceRule 75 = .ok (.getfield 72, 3) := by decide +kernel
theorem dX9_priceRule_78 : decode cX9_priceRule 78 = .ok (.aaload, 1) := by decide +kernel
theorem dX9_priceRule_79 : decode cX9_priceRule 79 = .ok (.astore 6, 2) := by decide +kernel
theorem dX9_priceRule_81 : decode cX9_priceRule 81 = .ok (.aload 6, 2) := by decide +kernel
theorem dX9_priceRule_83 : decode cX9_priceRule 83 = .ok (.iload_n 1, 1) := by decide +kernel
theorem dX9_priceRule_84 : decode cX9_priceRule 84 = .ok (.putfield 251, 3) := by decide +kernel
theorem dX9_priceRule_87 : decode cX9_priceRule 87 = .ok (.aload 6, 2) := by decide +kernel
theorem dX9_priceRule_89 : decode cX9_priceRule 89 = .ok (.iload_n 2, 1) := by decide +kernel
theorem dX9_priceRule_90 : decode cX9_priceRule 90 = .ok (.putfield 254, 3) := by decide +kernel
theorem dX9_priceRule_93 : decode cX9_priceRule 93 = .ok (.aload 6, 2) := by decide +kernel
theorem dX9_priceRule_95 : decode cX9_priceRule 95 = .ok (.iload_n 3, 1) := by decide +kernel
theorem dX9_priceRule_96 : decode cX9_priceRule 96 = .ok (.putfield 257, 3) := by decide +kernel
theorem dX9_priceRule_99 : decode cX9_priceRule 99 = .ok (.aload 6, 2) := by decide +kernel
theorem dX9_priceRule_101 : decode cX9_priceRule 101 = .ok (.iload 4, 2) := by decide +kernel
theorem dX9_priceRule_103 : decode cX9_priceRule 103 = .ok (.putfield 260, 3) := by decide +kernel
theorem dX9_priceRule_106 : decode cX9_priceRule 106 = .ok (.aload_n 0, 1) := by decide +kernel
theorem dX9_priceRule_107 : decode cX9_priceRule 107 = .ok (.dup, 1) := by decide +kernel
theorem dX9_priceRule_108 : decode cX9_priceRule 108 = .ok (.getfield 72, 3) := by decide +kernel
theorem dX9_priceRule_111 : decode cX9_priceRule 111 = .ok (.iconst 1, 1) := by decide +kernel
theorem dX9_priceRule_112 : decode cX9_priceRule 112 = .ok (.iadd, 1) := by decide +kernel
theorem dX9_priceRule_113 : decode cX9_priceRule 113 = .ok (.putfield 72, 3) := by decide +kernel
theorem dX9_priceRule_116 : decode cX9_priceRule 116 = .ok (.aload_n 0, 1) := by decide +kernel
theorem dX9_priceRule_117 : decode cX9_priceRule 117 = .ok (.getfield 72, 3) := by decide +kernel
theorem dX9_priceRule_120 : decode cX9_priceRule 120 = .ok (.ireturn, 1) := by decide +kernel
set_option maxRecDepth 20000 in
theorem ggX9_price_X9_isRecipe : GoodIn wsX9_price wsX9_isRecipe := goodIn_r _ [5, 6, 7, 8, 4, 9, 39, 40, 41, 42, 43, 44, 45, 46, 47, 48, 49, 50, 51, 52] (by decide +kernel) (by decide +kernel)
set_option maxRecDepth 20000 in
theorem gX9_price_X9_isRecipe : GoodIn wsX9_price (wsV RX9 109 RX9 yX9_isRecipe wsX9_isRecipe) := goodIn_app (goodIn_of _ (by decide +kernel)) ggX9_price_X9_isRecipe
set_option maxRecDepth 20000 in
theorem ggX9_price_X9_isTime : GoodIn wsX9_price wsX9_isTime := goodIn_r _ [12, 7, 8, 4, 9] (by decide +kernel) (by decide +kernel)
set_option maxRecDepth 20000 in
theorem gX9_price_X9_isTime : GoodIn wsX9_price (va_wsS RX9 141 yX9_isTime wsX9_isTime) := goodIn_app (goodIn_of _ (by decide +kernel)) ggX9_price_X9_isTime
set_option maxRecDepth 20000 in
theorem ggX9_price_X9_priceAt : GoodIn wsX9_price wsX9_priceAt := goodIn_r _ [16, 17, 18, 19, 20, 21, 22, 23, 24, 25, 26, 27, 28, 29, 30, 31, 32, 33, 34, 35, 36, 37, 38, 39, 40, 41, 42, 43, 44, 45, 46, 47, 48, 49, 50, 51, 52, 53, 54, 55, 56, 57, 58, 59, 60] (by decide +kernel) (by decide +kernel)
set_option maxRecDepth 20000 in
theorem gX9_price_X9_priceAt : GoodIn wsX9_price (wsV RX9 145 RX9 yX9_priceAt wsX9_priceAt) := goodIn_app (goodIn_of _ (by decide +kernel)) ggX9_price_X9_priceAt
theorem dX9_price_0 : decode cX9_price 0 = .ok (.aload_n 0, 1) := by decide +kernel
theorem dX9_price_1 : decode cX9_price 1 = .ok (.iload_n 1, 1) := by decide +kernel
theorem dX9_price_2 : decode cX9_price 2 = .ok (.invokevirtual 109, 3) := by decide +kernel
theorem dX9_price_5 : decode cX9_price 5 = .ok (.ifCond .eq 21, 3) := by decide +kernel
theorem dX9_price_8 : decode cX9_price 8 = .ok (.iload_n 2, 1) := by decide +kernel
theorem dX9_price_9 : decode cX9_price 9 = .ok (.iload_n 3, 1) := by decide +kernel
theorem dX9_price_10 : decode cX9_price 10 = .ok (.invokestatic 141, 3) := by decide +kernel
theorem dX9_price_13 : decode cX9_price 13 = .ok (.ifCond .eq 13, 3) := by decide +kernel
theorem dX9_price_16 : decode cX9_price 16 = .ok (.aload_n 0, 1) := by decide +kernel
theorem dX9_price_17 : decode cX9_price 17 = .ok (.iload_n 1, 1) := by decide +kernel
theorem dX9_price_18 : decode cX9_price 18 = .ok (.iload_n 2, 1) := by decide +kernel
theorem dX9_price_19 : decode cX9_price 19 = .ok (.iload_n 3, 1) := by decide +kernel
theorem dX9_price_20 : decode cX9_price 20 = .ok (.invokevirtual 145, 3) := by decide +kernel
theorem dX9_price_23 : decode cX9_price 23 = .ok (.goto 4, 3) := by decide +kernel
theorem dX9_price_26 : decode cX9_price 26 = .ok (.iconst (-1), 1) := by decide +kernel
theorem dX9_price_27 : decode cX9_price 27 = .ok (.ireturn, 1) := by decide +kernel
set_option maxRecDepth 20000 in
theorem ggX9_person_X9_isIn : GoodIn wsX9_person wsX9_isIn := goodIn_r _ [6] (by decide +kernel) (by decide +kernel)
set_option maxRecDepth 20000 in
theorem gX9_person_X9_isIn : GoodIn wsX9_person (va_wsS RX9 93 yX9_isIn wsX9_isIn) := goodIn_app (goodIn_of _ (by decide +kernel)) ggX9_person_X9_isIn
theorem dX9_person_0 : decode cX9_person 0 = .ok (.iload_n 1, 1) := by decide +kernel
theorem dX9_person_1 : decode cX9_person 1 = .ok (.iconst 0, 1) := by decide +kernel
theorem dX9_person_2 : decode cX9_person 2 = .ok (.iconst 5, 1) := by decide +kernel
theorem dX9_person_3 : decode cX9_person 3 = .ok (.invokestatic 93, 3) := by decide +kernel
theorem dX9_person_6 : decode cX9_person 6 = .ok (.ifCond .eq 24, 3) := by decide +kernel
theorem dX9_person_9 : decode cX9_person 9 = .ok (.iload_n 2, 1) := by decide +kernel
theorem dX9_person_10 : decode cX9_person 10 = .ok (.iconst 0, 1) := by decide +kernel
theorem dX9_person_11 : decode cX9_person 11 = .ok (.bipush 10, 2) := by decide +kernel
theorem dX9_person_13 : decode cX9_person 13 = .ok (.invokestatic 93, 3) := by decide +kernel
theorem dX9_person_16 : decode cX9_person 16 = .ok (.ifCond .eq 14, 3) := by decide +kernel
theorem dX9_person_19 : decode cX9_person 19 = .ok (.iload_n 3, 1) := by decide +kernel
theorem dX9_person_20 : decode cX9_person 20 = .ok (.iconst 0, 1) := by decide +kernel
theorem dX9_person_21 : decode cX9_person 21 = .ok (.sipush 1440, 3) := by decide +kernel
theorem dX9_person_24 : decode cX9_person 24 = .ok (.invokestatic 93, 3) := by decide +kernel
theorem dX9_person_27 : decode cX9_person 27 = .ok (.ifCond .ne 5, 3) := by decide +kernel
theorem dX9_person_30 : decode cX9_person 30 = .ok (.iconst (-1), 1) := by decide +kernel
theorem dX9_person_31 : decode cX9_person 31 = .ok (.ireturn, 1) := by decide +kernel
theorem dX9_person_32 : decode cX9_person 32 = .ok (.aload_n 0, 1) := by decide +kernel
theorem dX9_person_33 : decode cX9_person 33 = .ok (.getfield 78, 3) := by decide +kernel
theorem dX9_person_36 : decode cX9_person 36 = .ok (.getfield 263, 3) := by decide +kernel
theorem dX9_person_39 : decode cX9_person 39 = .ok (.iload_n 1, 1) := by decide +kernel
theorem dX9_person_40 : decode cX9_person 40 = .ok (.iload_n 2, 1) := by decide +kernel
theorem dX9_person_41 : decode cX9_person 41 = .ok (.iload_n 3, 1) := by decide +kernel
theorem dX9_person_42 : decode cX9_person 42 = .ok (.imul, 1) := by decide +kernel
theorem dX9_person_43 : decode cX9_person 43 = .ok (.iastore, 1) := by decide +kernel
theorem dX9_person_44 : decode cX9_person 44 = .ok (.iconst 0, 1) := by decide +kernel
theorem dX9_person_45 : decode cX9_person 45 = .ok (.ireturn, 1) := by decide +kernel
set_option maxRecDepth 20000 in
theorem ggX9_tips_X9_isIn : GoodIn wsX9_tips wsX9_isIn := goodIn_r _ [6] (by decide +kernel) (by decide +kernel)
set_option maxRecDepth 20000 in
theorem gX9_tips_X9_isIn : GoodIn wsX9_tips (va_wsS RX9 93 yX9_isIn wsX9_isIn) := goodIn_app (goodIn_of _ (by decide +kernel)) ggX9_tips_X9_isIn
set_option maxRecDepth 20000 in
theorem ggX9_tips_X8_shareOf : GoodIn wsX9_tips wsX8_shareOf := goodIn_r _ [11, 12, 13, 14, 15, 10, 16, 17, 18, 19, 20, 21, 22, 23, 24, 39] (by decide +kernel) (by decide +kernel)
set_option maxRecDepth 20000 in
theorem gX9_tips_X8_shareOf : GoodIn wsX9_tips (wsV RX9 267 RX8 yX8_shareOf wsX8_shareOf) := goodIn_app (goodIn_of _ (by decide +kernel)) ggX9_tips_X8_shareOf
theorem dX9_tips_0 : decode cX9_tips 0 = .ok (.iload_n 1, 1) := by decide +kernel
theorem dX9_tips_1 : decode cX9_tips 1 = .ok (.iconst 0, 1) := by decide +kernel
theorem dX9_tips_2 : decode cX9_tips 2 = .ok (.ldc_w 266, 3) := by decide +kernel
theorem dX9_tips_5 : decode cX9_tips 5 = .ok (.invokestatic 93, 3) := by decide +kernel
theorem dX9_tips_8 : decode cX9_tips 8 = .ok (.ifCond .eq 12, 3) := by decide +kernel
theorem dX9_tips_11 : decode cX9_tips 11 = .ok (.iload_n 2, 1) := by decide +kernel
theorem dX9_tips_12 : decode cX9_tips 12 = .ok (.iconst 0, 1) := by decide +kernel
theorem dX9_tips_13 : decode cX9_tips 13 = .ok (.iconst 5, 1) := by decide +kernel
theorem dX9_tips_14 : decode cX9_tips 14 = .ok (.invokestatic 93, 3) := by decide +kernel
theorem dX9_tips_17 : decode cX9_tips 17 = .ok (.ifCond .ne 5, 3) := by decide +kernel
theorem dX9_tips_20 : decode cX9_tips 20 = .ok (.iconst (-1), 1) := by decide +kernel
theorem dX9_tips_21 : decode cX9_tips 21 = .ok (.ireturn, 1) := by decide +kernel
theorem dX9_tips_22 : decode cX9_tips 22 = .ok (.aload_n 0, 1) := by decide +kernel
theorem dX9_tips_23 : decode cX9_tips 23 = .ok (.getfield 78, 3) := by decide +kernel
theorem dX9_tips_26 : decode cX9_tips 26 = .ok (.iload_n 2, 1) := by decide +kernel
theorem dX9_tips_27 : decode cX9_tips 27 = .ok (.iload_n 1, 1) := by decide +kernel
theorem dX9_tips_28 : decode cX9_tips 28 = .ok (.invokevirtual 267, 3) := by decide +kernel
theorem dX9_tips_31 : decode cX9_tips 31 = .ok (.ireturn, 1) := by decide +kernel
set_option maxRecDepth 20000 in
theorem ggX9_keg_X9_isIn : GoodIn wsX9_keg wsX9_isIn := goodIn_r _ [14] (by decide +kernel) (by decide +kernel)
set_option maxRecDepth 20000 in
theorem gX9_keg_X9_isIn : GoodIn wsX9_keg (va_wsS RX9 93 yX9_isIn wsX9_isIn) := goodIn_app (goodIn_of _ (by decide +kernel)) ggX9_keg_X9_isIn
theorem dX9_keg_0 : decode cX9_keg 0 = .ok (.iload_n 1, 1) := by decide +kernel
theorem dX9_keg_1 : decode cX9_keg 1 = .ok (.sipush 1000, 3) := by decide +kernel
theorem dX9_keg_4 : decode cX9_keg 4 = .ok (.ldc_w 270, 3) := by decide +kernel
theorem dX9_keg_7 : decode cX9_keg 7 = .ok (.invokestatic 93, 3) := by decide +kernel
theorem dX9_keg_10 : decode cX9_keg 10 = .ok (.ifCond .eq 13, 3) := by decide +kernel
theorem dX9_keg_13 : decode cX9_keg 13 = .ok (.iload_n 2, 1) := by decide +kernel
theorem dX9_keg_14 : decode cX9_keg 14 = .ok (.iconst 0, 1) := by decide +kernel
theorem dX9_keg_15 : decode cX9_keg 15 = .ok (.bipush 40, 2) := by decide +kernel
theorem dX9_keg_17 : decode cX9_keg 17 = .ok (.invokestatic 93, 3) := by decide +kernel
theorem dX9_keg_20 : decode cX9_keg 20 = .ok (.ifCond .ne 5, 3) := by decide +kernel
theorem dX9_keg_23 : decode cX9_keg 23 = .ok (.iconst (-1), 1) := by decide +kernel
theorem dX9_keg_24 : decode cX9_keg 24 = .ok (.ireturn, 1) := by decide +kernel
theorem dX9_keg_25 : decode cX9_keg 25 = .ok (.bipush 90, 2) := by decide +kernel
theorem dX9_keg_27 : decode cX9_keg 27 = .ok (.aload_n 0, 1) := by decide +kernel
theorem dX9_keg_28 : decode cX9_keg 28 = .ok (.getfield 37, 3) := by decide +kernel
theorem dX9_keg_31 : decode cX9_keg 31 = .ok (.iconst 5, 1) := by decide +kernel
theorem dX9_keg_32 : decode cX9_keg 32 = .ok (.iaload, 1) := by decide +kernel
theorem dX9_keg_33 : decode cX9_keg 33 = .ok (.aload_n 0, 1) := by decide +kernel
theorem dX9_keg_34 : decode cX9_keg 34 = .ok (.getfield 37, 3) := by decide +kernel
theorem dX9_keg_37 : decode cX9_keg 37 = .ok (.bipush 6, 2) := by decide +kernel
theorem dX9_keg_39 : decode cX9_keg 39 = .ok (.iaload, 1) := by decide +kernel
theorem dX9_keg_40 : decode cX9_keg 40 = .ok (.iconst 0, 1) := by decide +kernel
theorem dX9_keg_41 : decode cX9_keg 41 = .ok (.iload_n 2, 1) := by decide +kernel
theorem dX9_keg_42 : decode cX9_keg 42 = .ok (.iconst 4, 1) := by decide +kernel
theorem dX9_keg_43 : decode cX9_keg 43 = .ok (.isub, 1) := by decide +kernel
theorem dX9_keg_44 : decode cX9_keg 44 = .ok (.invokestatic 271, 3) := by decide +kernel
theorem dX9_keg_47 : decode cX9_keg 47 = .ok (.imul, 1) := by decide +kernel
theorem dX9_keg_48 : decode cX9_keg 48 = .ok (.iadd, 1) := by decide +kernel
theorem dX9_keg_49 : decode cX9_keg 49 = .ok (.invokestatic 274, 3) := by decide +kernel
theorem dX9_keg_52 : decode cX9_keg 52 = .ok (.istore_n 3, 1) := by decide +kernel
theorem dX9_keg_53 : decode cX9_keg 53 = .ok (.iload_n 1, 1) := by decide +kernel
theorem dX9_keg_54 : decode cX9_keg 54 = .ok (.bipush 100, 2) := by decide +kernel
theorem dX9_keg_56 : decode cX9_keg 56 = .ok (.iload_n 3, 1) := by decide +kernel
theorem dX9_keg_57 : decode cX9_keg 57 = .ok (.isub, 1) := by decide +kernel
theorem dX9_keg_58 : decode cX9_keg 58 = .ok (.imul, 1) := by decide +kernel
theorem dX9_keg_59 : decode cX9_keg 59 = .ok (.ldc_w 277, 3) := by decide +kernel
theorem dX9_keg_62 : decode cX9_keg 62 = .ok (.idiv, 1) := by decide +kernel
theorem dX9_keg_63 : decode cX9_keg 63 = .ok (.ireturn, 1) := by decide +kernel
set_option maxRecDepth 20000 in
theorem ggX9_deal_X9_isIn : GoodIn wsX9_deal wsX9_isIn := goodIn_r _ [7] (by decide +kernel) (by decide +kernel)
set_option maxRecDepth 20000 in
theorem gX9_deal_X9_isIn : GoodIn wsX9_deal (va_wsS RX9 93 yX9_isIn wsX9_isIn) := goodIn_app (goodIn_of _ (by decide +kernel)) ggX9_deal_X9_isIn
set_option maxRecDepth 20000 in
theorem ggX9_deal_X2_add : GoodIn wsX9_deal wsX2_add := goodIn_r _ [12, 13, 14, 15, 30, 31, 32, 33] (by decide +kernel) (by decide +kernel)
set_option maxRecDepth 20000 in
theorem gX9_deal_X2_add : GoodIn wsX9_deal (wsV RX9 279 RX2 yX2_add wsX2_add) := goodIn_app (goodIn_of _ (by decide +kernel)) ggX9_deal_X2_add
theorem dX9_deal_0 : decode cX9_deal 0 = .ok (.iload_n 1, 1) := by decide +kernel
theorem dX9_deal_1 : decode cX9_deal 1 = .ok (.iconst 1, 1) := by decide +kernel
theorem dX9_deal_2 : decode cX9_deal 2 = .ok (.bipush 24, 2) := by decide +kernel
theorem dX9_deal_4 : decode cX9_deal 4 = .ok (.invokestatic 93, 3) := by decide +kernel
theorem dX9_deal_7 : decode cX9_deal 7 = .ok (.ifCond .eq 14, 3) := by decide +kernel
theorem dX9_deal_10 : decode cX9_deal 10 = .ok (.iload_n 2, 1) := by decide +kernel
theorem dX9_deal_11 : decode cX9_deal 11 = .ok (.iconst 0, 1) := by decide +kernel
theorem dX9_deal_12 : decode cX9_deal 12 = .ok (.ldc_w 270, 3) := by decide +kernel
theorem dX9_deal_15 : decode cX9_deal 15 = .ok (.invokestatic 93, 3) := by decide +kernel
theorem dX9_deal_18 : decode cX9_deal 18 = .ok (.ifCond .ne 5, 3) := by decide +kernel
theorem dX9_deal_21 : decode cX9_deal 21 = .ok (.iconst (-1), 1) := by decide +kernel
theorem dX9_deal_22 : decode cX9_deal 22 = .ok (.ireturn, 1) := by decide +kernel
theorem dX9_deal_23 : decode cX9_deal 23 = .ok (.aload_n 0, 1) := by decide +kernel
theorem dX9_deal_24 : decode cX9_deal 24 = .ok (.getfield 85, 3) := by decide +kernel
theorem dX9_deal_27 : decode cX9_deal 27 = .ok (.getfield 278, 3) := by decide +kernel
theorem dX9_deal_30 : decode cX9_deal 30 = .ok (.iconst 5, 1) := by decide +kernel
theorem dX9_deal_31 : decode cX9_deal 31 = .ok (.if_icmp .lt 6, 3) := by decide +kernel
theorem dX9_deal_34 : decode cX9_deal 34 = .ok (.bipush (-3), 2) := by decide +kernel
theorem dX9_deal_36 : decode cX9_deal 36 = .ok (.ireturn, 1) := by decide +kernel
theorem dX9_deal_37 : decode cX9_deal 37 = .ok (.aload_n 0, 1) := by decide +kernel
theorem dX9_deal_38 : decode cX9_deal 38 = .ok (.getfield 85, 3) := by decide +kernel
theorem dX9_deal_41 : decode cX9_deal 41 = .ok (.iload_n 1, 1) := by decide +kernel
theorem dX9_deal_42 : decode cX9_deal 42 = .ok (.iload_n 2, 1) := by decide +kernel
theorem dX9_deal_43 : decode cX9_deal 43 = .ok (.invokevirtual 279, 3) := by decide +kernel
theorem dX9_deal_46 : decode cX9_deal 46 = .ok (.aload_n 0, 1) := by decide +kernel
theorem dX9_deal_47 : decode cX9_deal 47 = .ok (.getfield 85, 3) := by decide +kernel
theorem dX9_deal_50 : decode cX9_deal 50 = .ok (.getfield 278, 3) := by decide +kernel
theorem dX9_deal_53 : decode cX9_deal 53 = .ok (.ireturn, 1) := by decide +kernel
set_option maxRecDepth 20000 in
theorem ggX9_buy_X9_isIn : GoodIn wsX9_buy wsX9_isIn := goodIn_r _ [6] (by decide +kernel) (by decide +kernel)
set_option maxRecDepth 20000 in
theorem gX9_buy_X9_isIn : GoodIn wsX9_buy (va_wsS RX9 93 yX9_isIn wsX9_isIn) := goodIn_app (goodIn_of _ (by decide +kernel)) ggX9_buy_X9_isIn
set_option maxRecDepth 20000 in
theorem ggX9_buy_X2_weighUp : GoodIn wsX9_buy wsX2_weighUp := goodIn_r _ [11, 12, 13, 14, 15, 16, 17, 18, 19, 20, 21, 10, 22, 23, 24, 55, 56, 57, 58] (by decide +kernel) (by decide +kernel)
set_option maxRecDepth 20000 in
theorem gX9_buy_X2_weighUp : GoodIn wsX9_buy (wsV RX9 280 RX2 yX2_weighUp wsX2_weighUp) := goodIn_app (goodIn_of _ (by decide +kernel)) ggX9_buy_X2_weighUp
set_option maxRecDepth 20000 in
theorem ggX9_buy_X2_bestBottles : GoodIn wsX9_buy wsX2_bestBottles := goodIn_r _ [28, 12, 55, 56, 57, 58] (by decide +kernel) (by decide +kernel)
set_option maxRecDepth 20000 in
theorem gX9_buy_X2_bestBottles : GoodIn wsX9_buy (wsV RX9 283 RX2 yX2_bestBottles wsX2_bestBottles) := goodIn_app (goodIn_of _ (by decide +kernel)) ggX9_buy_X2_bestBottles
set_option maxRecDepth 20000 in
theorem ggX9_buy_X2_leastFor : GoodIn wsX9_buy wsX2_leastFor := goodIn_r _ [32, 12, 55, 56, 57, 58] (by decide +kernel) (by decide +kernel)
set_option maxRecDepth 20000 in
theorem gX9_buy_X2_leastFor : GoodIn wsX9_buy (wsV RX9 286 RX2 yX2_leastFor wsX2_leastFor) := goodIn_app (goodIn_of _ (by decide +kernel)) ggX9_buy_X2_leastFor
set_option maxRecDepth 20000 in
theorem ggX9_buy_X2_timesOf : GoodIn wsX9_buy wsX2_timesOf := goodIn_r _ [36, 23, 37, 38, 39, 10, 40, 12, 19, 20, 21, 22, 14, 24, 55, 56, 57, 58] (by decide +kernel) (by decide +kernel)
set_option maxRecDepth 20000 in
theorem gX9_buy_X2_timesOf : GoodIn wsX9_buy (wsV RX9 289 RX2 yX2_timesOf wsX2_timesOf) := goodIn_app (goodIn_of _ (by decide +kernel)) ggX9_buy_X2_timesOf
theorem dX9_buy_0 : decode cX9_buy 0 = .ok (.iload_n 1, 1) := by decide +kernel
theorem dX9_buy_1 : decode cX9_buy 1 = .ok (.iconst 1, 1) := by decide +kernel
theorem dX9_buy_2 : decode cX9_buy 2 = .ok (.bipush 120, 2) := by decide +kernel
theorem dX9_buy_4 : decode cX9_buy 4 = .ok (.invokestatic 93, 3) := by decide +kernel
theorem dX9_buy_7 : decode cX9_buy 7 = .ok (.ifCond .eq 20, 3) := by decide +kernel
theorem dX9_buy_10 : decode cX9_buy 10 = .ok (.iload_n 2, 1) := by decide +kernel
theorem dX9_buy_11 : decode cX9_buy 11 = .ok (.iconst 0, 1) := by decide +kernel
theorem dX9_buy_12 : decode cX9_buy 12 = .ok (.iconst 1, 1) := by decide +kernel
theorem dX9_buy_13 : decode cX9_buy 13 = .ok (.aload_n 0, 1) := by decide +kernel
theorem dX9_buy_14 : decode cX9_buy 14 = .ok (.getfield 85, 3) := by decide +kernel
theorem dX9_buy_17 : decode cX9_buy 17 = .ok (.getfield 278, 3) := by decide +kernel
theorem dX9_buy_20 : decode cX9_buy 20 = .ok (.iadd, 1) := by decide +kernel
theorem dX9_buy_21 : decode cX9_buy 21 = .ok (.invokestatic 93, 3) := by decide +kernel
theorem dX9_buy_24 : decode cX9_buy 24 = .ok (.ifCond .ne 5, 3) := by decide +kernel
theorem dX9_buy_27 : decode cX9_buy 27 = .ok (.iconst (-1), 1) := by decide +kernel
theorem dX9_buy_28 : decode cX9_buy 28 = .ok (.ireturn, 1) := by decide +kernel
theorem dX9_buy_29 : decode cX9_buy 29 = .ok (.aload_n 0, 1) := by decide +kernel
theorem dX9_buy_30 : decode cX9_buy 30 = .ok (.getfield 85, 3) := by decide +kernel
theorem dX9_buy_33 : decode cX9_buy 33 = .ok (.getfield 278, 3) := by decide +kernel
theorem dX9_buy_36 : decode cX9_buy 36 = .ok (.ifCond .ne 6, 3) := by decide +kernel
theorem dX9_buy_39 : decode cX9_buy 39 = .ok (.bipush (-2), 2) := by decide +kernel
theorem dX9_buy_41 : decode cX9_buy 41 = .ok (.ireturn, 1) := by decide +kernel
theorem dX9_buy_42 : decode cX9_buy 42 = .ok (.aload_n 0, 1) := by decide +kernel
theorem dX9_buy_43 : decode cX9_buy 43 = .ok (.getfield 85, 3) := by decide +kernel
theorem dX9_buy_46 : decode cX9_buy 46 = .ok (.invokevirtual 280, 3) := by decide +kernel
theorem dX9_buy_49 : decode cX9_buy 49 = .ok (.aload_n 0, 1) := by decide +kernel
theorem dX9_buy_50 : decode cX9_buy 50 = .ok (.getfield 85, 3) := by decide +kernel
theorem dX9_buy_53 : decode cX9_buy 53 = .ok (.iload_n 1, 1) := by decide +kernel
theorem dX9_buy_54 : decode cX9_buy 54 = .ok (.invokevirtual 283, 3) := by decide +kernel
theorem dX9_buy_57 : decode cX9_buy 57 = .ok (.istore_n 3, 1) := by decide +kernel
theorem dX9_buy_58 : decode cX9_buy 58 = .ok (.iload_n 2, 1) := by decide +kernel
theorem dX9_buy_59 : decode cX9_buy 59 = .ok (.lookupswitch 36 #[(0, 25), (1, 34)], 25) := by decide +kernel
theorem dX9_buy_84 : decode cX9_buy 84 = .ok (.aload_n 0, 1) := by decide +kernel
theorem dX9_buy_85 : decode cX9_buy 85 = .ok (.getfield 85, 3) := by decide +kernel
theorem dX9_buy_88 : decode cX9_buy 88 = .ok (.iload_n 3, 1) := by decide +kernel
theorem dX9_buy_89 : decode cX9_buy 89 = .ok (.invokevirtual 286, 3) := by decide +kernel
theorem dX9_buy_92 : decode cX9_buy 92 = .ok (.ireturn, 1) := by decide +kernel
theorem dX9_buy_93 : decode cX9_buy 93 = .ok (.iload_n 3, 1) := by decide +kernel
theorem dX9_buy_94 : decode cX9_buy 94 = .ok (.ireturn, 1) := by decide +kernel
theorem dX9_buy_95 : decode cX9_buy 95 = .ok (.aload_n 0, 1) := by decide +kernel
theorem dX9_buy_96 : decode cX9_buy 96 = .ok (.getfield 85, 3) := by decide +kernel
theorem dX9_buy_99 : decode cX9_buy 99 = .ok (.iload_n 2, 1) := by decide +kernel
theorem dX9_buy_100 : decode cX9_buy 100 = .ok (.iconst 2, 1) := by decide +kernel
theorem dX9_buy_101 : decode cX9_buy 101 = .ok (.isub, 1) := by decide +kernel
theorem dX9_buy_102 : decode cX9_buy 102 = .ok (.iload_n 3, 1) := by decide +kernel
theorem dX9_buy_103 : decode cX9_buy 103 = .ok (.invokevirtual 289, 3) := by decide +kernel
theorem dX9_buy_106 : decode cX9_buy 106 = .ok (.ireturn, 1) := by decide +kernel
theorem dX9_count_0 : decode cX9_count 0 = .ok (.iload_n 1, 1) := by decide +kernel
theorem dX9_count_1 : decode cX9_count 1 = .ok (.tableswitch 87 0 6 #[43, 48, 53, 58, 66, 71, 79], 43) := by decide +kernel
theorem dX9_count_44 : decode cX9_count 44 = .ok (.aload_n 0, 1) := by decide +kernel
theorem dX9_count_45 : decode cX9_count 45 = .ok (.getfield 15, 3) := by decide +kernel
theorem dX9_count_48 : decode cX9_count 48 = .ok (.ireturn, 1) := by decide +kernel
theorem dX9_count_49 : decode cX9_count 49 = .ok (.aload_n 0, 1) := by decide +kernel
theorem dX9_count_50 : decode cX9_count 50 = .ok (.getfield 25, 3) := by decide +kernel
theorem dX9_count_53 : decode cX9_count 53 = .ok (.ireturn, 1) := by decide +kernel
theorem dX9_count_54 : decode cX9_count 54 = .ok (.aload_n 0, 1) := by decide +kernel
theorem dX9_count_55 : decode cX9_count 55 = .ok (.getfield 46, 3) := by decide +kernel
theorem dX9_count_58 : decode cX9_count 58 = .ok (.ireturn, 1) := by decide +kernel
theorem dX9_count_59 : decode cX9_count 59 = .ok (.aload_n 0, 1) := by decide +kernel
theorem dX9_count_60 : decode cX9_count 60 = .ok (.getfield 52, 3) := by decide +kernel
theorem dX9_count_63 : decode cX9_count 63 = .ok (.getfield 167, 3) := by decide +kernel
theorem dX9_count_66 : decode cX9_count 66 = .ok (.ireturn, 1) := by decide +kernel
theorem dX9_count_67 : decode cX9_count 67 = .ok (.aload_n 0, 1) := by decide +kernel
theorem dX9_count_68 : decode cX9_count 68 = .ok (.getfield 72, 3) := by decide +kernel
theorem dX9_count_71 : decode cX9_count 71 = .ok (.ireturn, 1) := by decide +kernel
theorem dX9_count_72 : decode cX9_count 72 = .ok (.aload_n 0, 1) := by decide +kernel
theorem dX9_count_73 : decode cX9_count 73 = .ok (.getfield 85, 3) := by decide +kernel
theorem dX9_count_76 : decode cX9_count 76 = .ok (.getfield 278, 3) := by decide +kernel
theorem dX9_count_79 : decode cX9_count 79 = .ok (.ireturn, 1) := by decide +kernel
theorem dX9_count_80 : decode cX9_count 80 = .ok (.aload_n 0, 1) := by decide +kernel
theorem dX9_count_81 : decode cX9_count 81 = .ok (.getfield 62, 3) := by decide +kernel
theorem dX9_count_84 : decode cX9_count 84 = .ok (.getfield 226, 3) := by decide +kernel
theorem dX9_count_87 : decode cX9_count 87 = .ok (.ireturn, 1) := by decide +kernel
theorem dX9_count_88 : decode cX9_count 88 = .ok (.iconst (-1), 1) := by decide +kernel
theorem dX9_count_89 : decode cX9_count 89 = .ok (.ireturn, 1) := by decide +kernel
theorem dX9_isIn_0 : decode cX9_isIn 0 = .ok (.iload_n 1, 1) := by decide +kernel
theorem dX9_isIn_1 : decode cX9_isIn 1 = .ok (.iload_n 0, 1) := by decide +kernel
theorem dX9_isIn_2 : decode cX9_isIn 2 = .ok (.if_icmp .gt 12, 3) := by decide +kernel
theorem dX9_isIn_5 : decode cX9_isIn 5 = .ok (.iload_n 0, 1) := by decide +kernel
theorem dX9_isIn_6 : decode cX9_isIn 6 = .ok (.iload_n 2, 1) := by decide +kernel
theorem dX9_isIn_7 : decode cX9_isIn 7 = .ok (.if_icmp .gt 7, 3) := by decide +kernel
theorem dX9_isIn_10 : decode cX9_isIn 10 = .ok (.iconst 1, 1) := by decide +kernel
theorem dX9_isIn_11 : decode cX9_isIn 11 = .ok (.goto 4, 3) := by decide +kernel
theorem dX9_isIn_14 : decode cX9_isIn 14 = .ok (.iconst 0, 1) := by decide +kernel
theorem dX9_isIn_15 : decode cX9_isIn 15 = .ok (.ireturn, 1) := by decide +kernel
set_option maxRecDepth 20000 in
theorem ggX9_isBar_X9_isIn : GoodIn wsX9_isBar wsX9_isIn := goodIn_r _ [4] (by decide +kernel) (by decide +kernel)
set_option maxRecDepth 20000 in
theorem gX9_isBar_X9_isIn : GoodIn wsX9_isBar (va_wsS RX9 93 yX9_isIn wsX9_isIn) := goodIn_app (goodIn_of _ (by decide +kernel)) ggX9_isBar_X9_isIn
theorem dX9_isBar_0 : decode cX9_isBar 0 = .ok (.iload_n 0, 1) := by decide +kernel
theorem dX9_isBar_1 : decode cX9_isBar 1 = .ok (.iconst 0, 1) := by decide +kernel
theorem dX9_isBar_2 : decode cX9_isBar 2 = .ok (.iconst 1, 1) := by decide +kernel
theorem dX9_isBar_3 : decode cX9_isBar 3 = .ok (.invokestatic 93, 3) := by decide +kernel
theorem dX9_isBar_6 : decode cX9_isBar 6 = .ok (.ireturn, 1) := by decide +kernel
set_option maxRecDepth 20000 in
theorem ggX9_isKeeper_X9_isIn : GoodIn wsX9_isKeeper wsX9_isIn := goodIn_r _ [4] (by decide +kernel) (by decide +kernel)
set_option maxRecDepth 20000 in
theorem gX9_isKeeper_X9_isIn : GoodIn wsX9_isKeeper (va_wsS RX9 93 yX9_isIn wsX9_isIn) := goodIn_app (goodIn_of _ (by decide +kernel)) ggX9_isKeeper_X9_isIn
theorem dX9_isKeeper_0 : decode cX9_isKeeper 0 = .ok (.iload_n 0, 1) := by decide +kernel
theorem dX9_isKeeper_1 : decode cX9_isKeeper 1 = .ok (.iconst 0, 1) := by decide +kernel
theorem dX9_isKeeper_2 : decode cX9_isKeeper 2 = .ok (.iconst 2, 1) := by decide +kernel
theorem dX9_isKeeper_3 : decode cX9_isKeeper 3 = .ok (.invokestatic 93, 3) := by decide +kernel
theorem dX9_isKeeper_6 : decode cX9_isKeeper 6 = .ok (.ireturn, 1) := by decide +kernel
set_option maxRecDepth 20000 in
theorem ggX9_isTime_X9_isIn : GoodIn wsX9_isTime wsX9_isIn := goodIn_r _ [4] (by decide +kernel) (by decide +kernel)
set_option maxRecDepth 20000 in
theorem gX9_isTime_X9_isIn : GoodIn wsX9_isTime (va_wsS RX9 93 yX9_isIn wsX9_isIn) := goodIn_app (goodIn_of _ (by decide +kernel)) ggX9_isTime_X9_isIn
theorem dX9_isTime_0 : decode cX9_isTime 0 = .ok (.iload_n 0, 1) := by decide +kernel
theorem dX9_isTime_1 : decode cX9_isTime 1 = .ok (.iconst 0, 1) := by decide +kernel
theorem dX9_isTime_2 : decode cX9_isTime 2 = .ok (.bipush 6, 2) := by decide +kernel
theorem dX9_isTime_4 : decode cX9_isTime 4 = .ok (.invokestatic 93, 3) := by decide +kernel
theorem dX9_isTime_7 : decode cX9_isTime 7 = .ok (.ifCond .eq 18, 3) := by decide +kernel
theorem dX9_isTime_10 : decode cX9_isTime 10 = .ok (.iload_n 1, 1) := by decide +kernel
theorem dX9_isTime_11 : decode cX9_isTime 11 = .ok (.iconst 0, 1) := by decide +kernel
theorem dX9_isTime_12 : decode cX9_isTime 12 = .ok (.sipush 1439, 3) := by decide +kernel
theorem dX9_isTime_15 : decode cX9_isTime 15 = .ok (.invokestatic 93, 3) := by decide +kernel
theorem dX9_isTime_18 : decode cX9_isTime 18 = .ok (.ifCond .eq 7, 3) := by decide +kernel
theorem dX9_isTime_21 : decode cX9_isTime 21 = .ok (.iconst 1, 1) := by decide +kernel
theorem dX9_isTime_22 : decode cX9_isTime 22 = .ok (.goto 4, 3) := by decide +kernel
theorem dX9_isTime_25 : decode cX9_isTime 25 = .ok (.iconst 0, 1) := by decide +kernel
theorem dX9_isTime_26 : decode cX9_isTime 26 = .ok (.ireturn, 1) := by decide +kernel
set_option maxRecDepth 20000 in
theorem ggX9_isKind_X9_isIn : GoodIn wsX9_isKind wsX9_isIn := goodIn_r _ [5] (by decide +kernel) (by decide +kernel)
set_option maxRecDepth 20000 in
theorem gX9_isKind_X9_isIn : GoodIn wsX9_isKind (va_wsS RX9 93 yX9_isIn wsX9_isIn) := goodIn_app (goodIn_of _ (by decide +kernel)) ggX9_isKind_X9_isIn
theorem dX9_isKind_0 : decode cX9_isKind 0 = .ok (.iload_n 1, 1) := by decide +kernel
theorem dX9_isKind_1 : decode cX9_isKind 1 = .ok (.iconst 0, 1) := by decide +kernel
theorem dX9_isKind_2 : decode cX9_isKind 2 = .ok (.aload_n 0, 1) := by decide +kernel
theorem dX9_isKind_3 : decode cX9_isKind 3 = .ok (.getfield 15, 3) := by decide +kernel
theorem dX9_isKind_6 : decode cX9_isKind 6 = .ok (.iconst 1, 1) := by decide +kernel
theorem dX9_isKind_7 : decode cX9_isKind 7 = .ok (.isub, 1) := by decide +kernel
theorem dX9_isKind_8 : decode cX9_isKind 8 = .ok (.invokestatic 93, 3) := by decide +kernel
theorem dX9_isKind_11 : decode cX9_isKind 11 = .ok (.ireturn, 1) := by decide +kernel
set_option maxRecDepth 20000 in
theorem ggX9_isRecipe_X9_isIn : GoodIn wsX9_isRecipe wsX9_isIn := goodIn_r _ [5] (by decide +kernel) (by decide +kernel)
set_option maxRecDepth 20000 in
theorem gX9_isRecipe_X9_isIn : GoodIn wsX9_isRecipe (va_wsS RX9 93 yX9_isIn wsX9_isIn) := goodIn_app (goodIn_of _ (by decide +kernel)) ggX9_isRecipe_X9_isIn
theorem dX9_isRecipe_0 : decode cX9_isRecipe 0 = .ok (.iload_n 1, 1) := by decide +kernel
theorem dX9_isRecipe_1 : decode cX9_isRecipe 1 = .ok (.iconst 0, 1) := by decide +kernel
theorem dX9_isRecipe_2 : decode cX9_isRecipe 2 = .ok (.aload_n 0, 1) := by decide +kernel
theorem dX9_isRecipe_3 : decode cX9_isRecipe 3 = .ok (.getfield 25, 3) := by decide +kernel
theorem dX9_isRecipe_6 : decode cX9_isRecipe 6 = .ok (.iconst 1, 1) := by decide +kernel
theorem dX9_isRecipe_7 : decode cX9_isRecipe 7 = .ok (.isub, 1) := by decide +kernel
theorem dX9_isRecipe_8 : decode cX9_isRecipe 8 = .ok (.invokestatic 93, 3) := by decide +kernel
theorem dX9_isRecipe_11 : decode cX9_isRecipe 11 = .ok (.ireturn, 1) := by decide +kernel
theorem dX9_allKinds_0 : decode cX9_allKinds 0 = .ok (.iconst 1, 1) := by decide +kernel
theorem dX9_allKinds_1 : decode cX9_allKinds 1 = .ok (.aload_n 0, 1) := by decide +kernel
theorem dX9_allKinds_2 : decode cX9_allKinds 2 = .ok (.getfield 15, 3) := by decide +kernel
theorem dX9_allKinds_5 : decode cX9_allKinds 5 = .ok (.ishl, 1) := by decide +kernel
theorem dX9_allKinds_6 : decode cX9_allKinds 6 = .ok (.iconst 1, 1) := by decide +kernel
theorem dX9_allKinds_7 : decode cX9_allKinds 7 = .ok (.isub, 1) := by decide +kernel
theorem dX9_allKinds_8 : decode cX9_allKinds 8 = .ok (.ireturn, 1) := by decide +kernel
theorem dX9_sheetOf_0 : decode cX9_sheetOf 0 = .ok (.aload_n 0, 1) := by decide +kernel
theorem dX9_sheetOf_1 : decode cX9_sheetOf 1 = .ok (.getfield 42, 3) := by decide +kernel
theorem dX9_sheetOf_4 : decode cX9_sheetOf 4 = .ok (.iload_n 1, 1) := by decide +kernel
theorem dX9_sheetOf_5 : decode cX9_sheetOf 5 = .ok (.iconst 2, 1) := by decide +kernel
theorem dX9_sheetOf_6 : decode cX9_sheetOf 6 = .ok (.imul, 1) := by decide +kernel
theorem dX9_sheetOf_7 : decode cX9_sheetOf 7 = .ok (.iload_n 2, 1) := by decide +kernel
theorem dX9_sheetOf_8 : decode cX9_sheetOf 8 = .ok (.iadd, 1) := by decide +kernel
theorem dX9_sheetOf_9 : decode cX9_sheetOf 9 = .ok (.aaload, 1) := by decide +kernel
theorem dX9_sheetOf_10 : decode cX9_sheetOf 10 = .ok (.areturn, 1) := by decide +kernel
theorem dX9_sheetsSoFar_0 : decode cX9_sheetsSoFar 0 = .ok (.aload_n 0, 1) := by decide +kernel
theorem dX9_sheetsSoFar_1 : decode cX9_sheetsSoFar 1 = .ok (.getfield 46, 3) := by decide +kernel
theorem dX9_sheetsSoFar_4 : decode cX9_sheetsSoFar 4 = .ok (.iconst 1, 1) := by decide +kernel
theorem dX9_sheetsSoFar_5 : decode cX9_sheetsSoFar 5 = .ok (.iadd, 1) := by decide +kernel
theorem dX9_sheetsSoFar_6 : decode cX9_sheetsSoFar 6 = .ok (.iconst 2, 1) := by decide +kernel
theorem dX9_sheetsSoFar_7 : decode cX9_sheetsSoFar 7 = .ok (.imul, 1) := by decide +kernel
theorem dX9_sheetsSoFar_8 : decode cX9_sheetsSoFar 8 = .ok (.ireturn, 1) := by decide +kernel
set_option maxRecDepth 20000 in
theorem ggX9_carryOut_X1_nextRow : GoodIn wsX9_carryOut wsX1_nextRow := goodIn_r _ [11, 12, 13, 14, 15, 16, 17, 18, 71, 72, 73] (by decide +kernel) (by decide +kernel)
set_option maxRecDepth 20000 in
theorem gX9_carryOut_X1_nextRow : GoodIn wsX9_carryOut (wsV RX9 292 RX1 yX1_nextRow wsX1_nextRow) := goodIn_app (goodIn_of _ (by decide +kernel)) ggX9_carryOut_X1_nextRow
set_option maxRecDepth 20000 in
theorem ggX9_carryOut_X9_apply : GoodIn wsX9_carryOut wsX9_apply := goodIn_r _ [23, 24, 3, 2, 25, 4, 26, 5, 27, 28, 29, 30, 22, 31, 32, 33, 34, 35, 36, 37, 38, 39, 40, 41, 6, 42, 43, 44, 45, 46, 47, 48, 49, 50, 51, 52, 53, 54, 55, 56, 57, 58, 59, 60, 61, 62, 63, 64, 65, 66, 67, 68, 69, 70, 74, 75, 76, 77, 78, 79, 80, 81, 82, 83, 84, 85, 86, 87, 88, 89] (by decide +kernel) (by decide +kernel)
set_option maxRecDepth 20000 in
theorem gX9_carryOut_X9_apply : GoodIn wsX9_carryOut (wsV RX9 174 RX9 yX9_apply wsX9_apply) := goodIn_app (goodIn_of _ (by decide +kernel)) ggX9_carryOut_X9_apply
theorem dX9_carryOut_0 : decode cX9_carryOut 0 = .ok (.aload_n 0, 1) := by decide +kernel
theorem dX9_carryOut_1 : decode cX9_carryOut 1 = .ok (.getfield 52, 3) := by decide +kernel
theorem dX9_carryOut_4 : decode cX9_carryOut 4 = .ok (.invokevirtual 292, 3) := by decide +kernel
theorem dX9_carryOut_7 : decode cX9_carryOut 7 = .ok (.astore 6, 2) := by decide +kernel
theorem dX9_carryOut_9 : decode cX9_carryOut 9 = .ok (.aload 6, 2) := by decide +kernel
theorem dX9_carryOut_11 : decode cX9_carryOut 11 = .ok (.iload_n 1, 1) := by decide +kernel
theorem dX9_carryOut_12 : decode cX9_carryOut 12 = .ok (.putfield 178, 3) := by decide +kernel
theorem dX9_carryOut_15 : decode cX9_carryOut 15 = .ok (.aload 6, 2) := by decide +kernel
theorem dX9_carryOut_17 : decode cX9_carryOut 17 = .ok (.iload_n 2, 1) := by decide +kernel
theorem dX9_carryOut_18 : decode cX9_carryOut 18 = .ok (.putfield 295, 3) := by decide +kernel
theorem dX9_carryOut_21 : decode cX9_carryOut 21 = .ok (.aload 6, 2) := by decide +kernel
theorem dX9_carryOut_23 : decode cX9_carryOut 23 = .ok (.iload_n 3, 1) := by decide +kernel
theorem dX9_carryOut_24 : decode cX9_carryOut 24 = .ok (.putfield 298, 3) := by decide +kernel
theorem dX9_carryOut_27 : decode cX9_carryOut 27 = .ok (.aload 6, 2) := by decide +kernel
theorem dX9_carryOut_29 : decode cX9_carryOut 29 = .ok (.iload 4, 2) := by decide +kernel
theorem dX9_carryOut_31 : decode cX9_carryOut 31 = .ok (.putfield 301, 3) := by decide +kernel
theorem dX9_carryOut_34 : decode cX9_carryOut 34 = .ok (.aload 6, 2) := by decide +kernel
theorem dX9_carryOut_36 : decode cX9_carryOut 36 = .ok (.iload 5, 2) := by decide +kernel
theorem dX9_carryOut_38 : decode cX9_carryOut 38 = .ok (.putfield 304, 3) := by decide +kernel
theorem dX9_carryOut_41 : decode cX9_carryOut 41 = .ok (.aload_n 0, 1) := by decide +kernel
theorem dX9_carryOut_42 : decode cX9_carryOut 42 = .ok (.aload 6, 2) := by decide +kernel
theorem dX9_carryOut_44 : decode cX9_carryOut 44 = .ok (.iconst 1, 1) := by decide +kernel
theorem dX9_carryOut_45 : decode cX9_carryOut 45 = .ok (.invokevirtual 174, 3) := by decide +kernel
theorem dX9_carryOut_48 : decode cX9_carryOut 48 = .ok (.return_, 1) := by decide +kernel
set_option maxRecDepth 20000 in
theorem ggX9_apply_X9_sheetOf : GoodIn wsX9_apply wsX9_sheetOf := goodIn_r _ [13, 14, 35, 36, 37, 38, 39, 40, 41, 42, 43, 44, 45, 46, 47, 48] (by decide +kernel) (by decide +kernel)
set_option maxRecDepth 20000 in
theorem gX9_apply_X9_sheetOf : GoodIn wsX9_apply (wsV RX9 149 RX9 yX9_sheetOf wsX9_sheetOf) := goodIn_app (goodIn_of _ (by decide +kernel)) ggX9_apply_X9_sheetOf
set_option maxRecDepth 20000 in
theorem ggX9_apply_X9_applySale : GoodIn wsX9_apply wsX9_applySale := goodIn_r _ [18, 19, 5, 20, 21, 8, 2, 7, 22, 23, 24, 25, 26, 27, 28, 29, 30, 31, 32, 33, 34, 35, 36, 37, 38, 39, 40, 41, 42, 43, 44, 45, 46, 47, 48, 49, 50, 51, 52, 53, 59, 60, 61, 62, 54, 55, 56, 57, 58, 63, 64, 65, 66, 67, 68, 69] (by decide +kernel) (by decide +kernel)
set_option maxRecDepth 20000 in
theorem gX9_apply_X9_applySale : GoodIn wsX9_apply (wsV RX9 307 RX9 yX9_applySale wsX9_applySale) := goodIn_app (goodIn_of _ (by decide +kernel)) ggX9_apply_X9_applySale
set_option maxRecDepth 20000 in
theorem ggX9_apply_X4_move : GoodIn wsX9_apply wsX4_move := goodIn_r _ [29, 30, 31, 32, 33, 34, 63, 64, 65, 66, 67, 68, 69] (by decide +kernel) (by decide +kernel)
set_option maxRecDepth 20000 in
theorem gX9_apply_X4_move : GoodIn wsX9_apply (wsV RX9 311 RX4 yX4_move wsX4_move) := goodIn_app (goodIn_of _ (by decide +kernel)) ggX9_apply_X4_move
theorem dX9_apply_0 : decode cX9_apply 0 = .ok (.aload_n 0, 1) := by decide +kernel
theorem dX9_apply_1 : decode cX9_apply 1 = .ok (.aload_n 0, 1) := by decide +kernel
theorem dX9_apply_2 : decode cX9_apply 2 = .ok (.getfield 46, 3) := by decide +kernel
theorem dX9_apply_5 : decode cX9_apply 5 = .ok (.aload_n 1, 1) := by decide +kernel
theorem dX9_apply_6 : decode cX9_apply 6 = .ok (.getfield 295, 3) := by decide +kernel
theorem dX9_apply_9 : decode cX9_apply 9 = .ok (.invokevirtual 149, 3) := by decide +kernel
theorem dX9_apply_12 : decode cX9_apply 12 = .ok (.astore_n 3, 1) := by decide +kernel
theorem dX9_apply_13 : decode cX9_apply 13 = .ok (.aload_n 1, 1) := by decide +kernel
theorem dX9_apply_14 : decode cX9_apply 14 = .ok (.getfield 178, 3) := by decide +kernel
theorem dX9_apply_17 : decode cX9_apply 17 = .ok (.iconst 3, 1) := by decide +kernel
theorem dX9_apply_18 : decode cX9_apply 18 = .ok (.if_icmp .ne 11, 3) := by decide +kernel
theorem dX9_apply_21 : decode cX9_apply 21 = .ok (.aload_n 0, 1) := by decide +kernel
theorem dX9_apply_22 : decode cX9_apply 22 = .ok (.aload_n 1, 1) := by decide +kernel
theorem dX9_apply_23 : decode cX9_apply 23 = .ok (.aload_n 3, 1) := by decide +kernel
theorem dX9_apply_24 : decode cX9_apply 24 = .ok (.iload_n 2, 1) := by decide +kernel
theorem dX9_apply_25 : decode cX9_apply 25 = .ok (.invokevirtual 307, 3) := by decide +kernel
theorem dX9_apply_28 : decode cX9_apply 28 = .ok (.return_, 1) := by decide +kernel
theorem dX9_apply_29 : decode cX9_apply 29 = .ok (.aload_n 1, 1) := by decide +kernel
theorem dX9_apply_30 : decode cX9_apply 30 = .ok (.getfield 178, 3) := by decide +kernel
theorem dX9_apply_33 : decode cX9_apply 33 = .ok (.bipush 6, 2) := by decide +kernel
theorem dX9_apply_35 : decode cX9_apply 35 = .ok (.if_icmp .ne 34, 3) := by decide +kernel
theorem dX9_apply_38 : decode cX9_apply 38 = .ok (.aload_n 3, 1) := by decide +kernel
theorem dX9_apply_39 : decode cX9_apply 39 = .ok (.getfield 153, 3) := by decide +kernel
theorem dX9_apply_42 : decode cX9_apply 42 = .ok (.aload_n 1, 1) := by decide +kernel
theorem dX9_apply_43 : decode cX9_apply 43 = .ok (.getfield 298, 3) := by decide +kernel
theorem dX9_apply_46 : decode cX9_apply 46 = .ok (.iload_n 2, 1) := by decide +kernel
theorem dX9_apply_47 : decode cX9_apply 47 = .ok (.ifCond .le 7, 3) := by decide +kernel
theorem dX9_apply_50 : decode cX9_apply 50 = .ok (.iconst 1, 1) := by decide +kernel
theorem dX9_apply_51 : decode cX9_apply 51 = .ok (.goto 4, 3) := by decide +kernel
theorem dX9_apply_54 : decode cX9_apply 54 = .ok (.iconst 0, 1) := by decide +kernel
theorem dX9_apply_55 : decode cX9_apply 55 = .ok (.bastore, 1) := by decide +kernel
theorem dX9_apply_56 : decode cX9_apply 56 = .ok (.aload_n 3, 1) := by decide +kernel
theorem dX9_apply_57 : decode cX9_apply 57 = .ok (.getfield 195, 3) := by decide +kernel
theorem dX9_apply_60 : decode cX9_apply 60 = .ok (.aload_n 1, 1) := by decide +kernel
theorem dX9_apply_61 : decode cX9_apply 61 = .ok (.getfield 298, 3) := by decide +kernel
theorem dX9_apply_64 : decode cX9_apply 64 = .ok (.aload_n 1, 1) := by decide +kernel
theorem dX9_apply_65 : decode cX9_apply 65 = .ok (.getfield 301, 3) := by decide +kernel
theorem dX9_apply_68 : decode cX9_apply 68 = .ok (.iastore, 1) := by decide +kernel
theorem dX9_apply_69 : decode cX9_apply 69 = .ok (.aload_n 0, 1) := by decide +kernel
theorem dX9_apply_70 : decode cX9_apply 70 = .ok (.getfield 11, 3) := by decide +kernel
theorem dX9_apply_73 : decode cX9_apply 73 = .ok (.aload_n 1, 1) := by decide +kernel
theorem dX9_apply_74 : decode cX9_apply 74 = .ok (.getfield 298, 3) := by decide +kernel
theorem dX9_apply_77 : decode cX9_apply 77 = .ok (.aaload, 1) := by decide +kernel
theorem dX9_apply_78 : decode cX9_apply 78 = .ok (.aload_n 1, 1) := by decide +kernel
theorem dX9_apply_79 : decode cX9_apply 79 = .ok (.getfield 178, 3) := by decide +kernel
theorem dX9_apply_82 : decode cX9_apply 82 = .ok (.aload_n 1, 1) := by decide +kernel
theorem dX9_apply_83 : decode cX9_apply 83 = .ok (.getfield 295, 3) := by decide +kernel
theorem dX9_apply_86 : decode cX9_apply 86 = .ok (.iload_n 2, 1) := by decide +kernel
theorem dX9_apply_87 : decode cX9_apply 87 = .ok (.aload_n 1, 1) := by decide +kernel
theorem dX9_apply_88 : decode cX9_apply 88 = .ok (.getfield 301, 3) := by decide +kernel
theorem dX9_apply_91 : decode cX9_apply 91 = .ok (.imul, 1) := by decide +kernel
theorem dX9_apply_92 : decode cX9_apply 92 = .ok (.invokevirtual 311, 3) := by decide +kernel
theorem dX9_apply_95 : decode cX9_apply 95 = .ok (.return_, 1) := by decide +kernel
set_option maxRecDepth 20000 in
theorem ggX9_applySale_X4_move : GoodIn wsX9_applySale wsX4_move := goodIn_r _ [15, 16, 17, 18, 19, 20, 49, 50, 51, 52, 53, 54, 55] (by decide +kernel) (by decide +kernel)
set_option maxRecDepth 20000 in
theorem gX9_applySale_X4_move : GoodIn wsX9_applySale (wsV RX9 311 RX4 yX4_move wsX4_move) := goodIn_app (goodIn_of _ (by decide +kernel)) ggX9_applySale_X4_move
theorem dX9_applySale_0 : decode cX9_applySale 0 = .ok (.aload_n 0, 1) := by decide +kernel
theorem dX9_applySale_1 : decode cX9_applySale 1 = .ok (.getfield 21, 3) := by decide +kernel
theorem dX9_applySale_4 : decode cX9_applySale 4 = .ok (.aload_n 1, 1) := by decide +kernel
theorem dX9_applySale_5 : decode cX9_applySale 5 = .ok (.getfield 298, 3) := by decide +kernel
theorem dX9_applySale_8 : decode cX9_applySale 8 = .ok (.aaload, 1) := by decide +kernel
theorem dX9_applySale_9 : decode cX9_applySale 9 = .ok (.astore 4, 2) := by decide +kernel
theorem dX9_applySale_11 : decode cX9_applySale 11 = .ok (.iconst 0, 1) := by decide +kernel
theorem dX9_applySale_12 : decode cX9_applySale 12 = .ok (.istore 5, 2) := by decide +kernel
theorem dX9_applySale_14 : decode cX9_applySale 14 = .ok (.iload 5, 2) := by decide +kernel
theorem dX9_applySale_16 : decode cX9_applySale 16 = .ok (.aload_n 0, 1) := by decide +kernel
theorem dX9_applySale_17 : decode cX9_applySale 17 = .ok (.getfield 15, 3) := by decide +kernel
theorem dX9_applySale_20 : decode cX9_applySale 20 = .ok (.if_icmp .ge 69, 3) := by decide +kernel
theorem dX9_applySale_23 : decode cX9_applySale 23 = .ok (.aload 4, 2) := by decide +kernel
theorem dX9_applySale_25 : decode cX9_applySale 25 = .ok (.getfield 315, 3) := by decide +kernel
theorem dX9_applySale_28 : decode cX9_applySale 28 = .ok (.iload 5, 2) := by decide +kernel
theorem dX9_applySale_30 : decode cX9_applySale 30 = .ok (.iaload, 1) := by decide +kernel
theorem dX9_applySale_31 : decode cX9_applySale 31 = .ok (.ifCond .le 52, 3) := by decide +kernel
theorem dX9_applySale_34 : decode cX9_applySale 34 = .ok (.aload_n 0, 1) := by decide +kernel
theorem dX9_applySale_35 : decode cX9_applySale 35 = .ok (.getfield 11, 3) := by decide +kernel
theorem dX9_applySale_38 : decode cX9_applySale 38 = .ok (.iload 5, 2) := by decide +kernel
theorem dX9_applySale_40 : decode cX9_applySale 40 = .ok (.aaload, 1) := by decide +kernel
theorem dX9_applySale_41 : decode cX9_applySale 41 = .ok (.iconst 3, 1) := by decide +kernel
theorem dX9_applySale_42 : decode cX9_applySale 42 = .ok (.aload_n 1, 1) := by decide +kernel
theorem dX9_applySale_43 : decode cX9_applySale 43 = .ok (.getfield 295, 3) := by decide +kernel
theorem dX9_applySale_46 : decode cX9_applySale 46 = .ok (.iload_n 3, 1) := by decide +kernel
theorem dX9_applySale_47 : decode cX9_applySale 47 = .ok (.aload_n 1, 1) := by decide +kernel
theorem dX9_applySale_48 : decode cX9_applySale 48 = .ok (.getfield 301, 3) := by decide +kernel
theorem dX9_applySale_51 : decode cX9_applySale 51 = .ok (.imul, 1) := by decide +kernel
theorem dX9_applySale_52 : decode cX9_applySale 52 = .ok (.aload 4, 2) := by decide +kernel
theorem dX9_applySale_54 : decode cX9_applySale 54 = .ok (.getfield 315, 3) := by decide +kernel
theorem dX9_applySale_57 : decode cX9_applySale 57 = .ok (.iload 5, 2) := by decide +kernel
theorem dX9_applySale_59 : decode cX9_applySale 59 = .ok (.iaload, 1) := by decide +kernel
theorem dX9_applySale_60 : decode cX9_applySale 60 = .ok (.imul, 1) := by decide +kernel
theorem dX9_applySale_61 : decode cX9_applySale 61 = .ok (.bipush 6, 2) := by decide +kernel
theorem dX9_applySale_63 : decode cX9_applySale 63 = .ok (.imul, 1) := by decide +kernel
theorem dX9_applySale_64 : decode cX9_applySale 64 = .ok (.invokevirtual 311, 3) := by decide +kernel
theorem dX9_applySale_67 : decode cX9_applySale 67 = .ok (.aload_n 2, 1) := by decide +kernel
theorem dX9_applySale_68 : decode cX9_applySale 68 = .ok (.getfield 202, 3) := by decide +kernel
theorem dX9_applySale_71 : decode cX9_applySale 71 = .ok (.iload 5, 2) := by decide +kernel
theorem dX9_applySale_73 : decode cX9_applySale 73 = .ok (.dup2, 1) := by decide +kernel
theorem dX9_applySale_74 : decode cX9_applySale 74 = .ok (.iaload, 1) := by decide +kernel
theorem dX9_applySale_75 : decode cX9_applySale 75 = .ok (.iload_n 3, 1) := by decide +kernel
theorem dX9_applySale_76 : decode cX9_applySale 76 = .ok (.aload_n 1, 1) := by decide +kernel
theorem dX9_applySale_77 : decode cX9_applySale 77 = .ok (.getfield 301, 3) := by decide +kernel
theorem dX9_applySale_80 : decode cX9_applySale 80 = .ok (.imul, 1) := by decide +kernel
theorem dX9_applySale_81 : decode cX9_applySale 81 = .ok (.iadd, 1) := by decide +kernel
theorem dX9_applySale_82 : decode cX9_applySale 82 = .ok (.iastore, 1) := by decide +kernel
theorem dX9_applySale_83 : decode cX9_applySale 83 = .ok (.iinc 5 1, 3) := by decide +kernel
theorem dX9_applySale_86 : decode cX9_applySale 86 = .ok (.goto (-72), 3) := by decide +kernel
theorem dX9_applySale_89 : decode cX9_applySale 89 = .ok (.aload_n 0, 1) := by decide +kernel
theorem dX9_applySale_90 : decode cX9_applySale 90 = .ok (.getfield 56, 3) := by decide +kernel
theorem dX9_applySale_93 : decode cX9_applySale 93 = .ok (.aload_n 1, 1) := by decide +kernel
theorem dX9_applySale_94 : decode cX9_applySale 94 = .ok (.getfield 295, 3) := by decide +kernel
theorem dX9_applySale_97 : decode cX9_applySale 97 = .ok (.dup2, 1) := by decide +kernel
theorem dX9_applySale_98 : decode cX9_applySale 98 = .ok (.iaload, 1) := by decide +kernel
theorem dX9_applySale_99 : decode cX9_applySale 99 = .ok (.iload_n 3, 1) := by decide +kernel
theorem dX9_applySale_100 : decode cX9_applySale 100 = .ok (.aload_n 1, 1) := by decide +kernel
theorem dX9_applySale_101 : decode cX9_applySale 101 = .ok (.getfield 304, 3) := by decide +kernel
theorem dX9_applySale_104 : decode cX9_applySale 104 = .ok (.imul, 1) := by decide +kernel
theorem dX9_applySale_105 : decode cX9_applySale 105 = .ok (.iadd, 1) := by decide +kernel
theorem dX9_applySale_106 : decode cX9_applySale 106 = .ok (.iastore, 1) := by decide +kernel
theorem dX9_applySale_107 : decode cX9_applySale 107 = .ok (.return_, 1) := by decide +kernel
set_option maxRecDepth 20000 in
theorem ggX9_spanNow_X4_mlOfScale : GoodIn wsX9_spanNow wsX4_mlOfScale := goodIn_r _ [8, 9, 29, 30, 31, 32, 33, 34, 35] (by decide +kernel) (by decide +kernel)
set_option maxRecDepth 20000 in
theorem gX9_spanNow_X4_mlOfScale : GoodIn wsX9_spanNow (wsV RX9 318 RX4 yX4_mlOfScale wsX4_mlOfScale) := goodIn_app (goodIn_of _ (by decide +kernel)) ggX9_spanNow_X4_mlOfScale
theorem dX9_spanNow_0 : decode cX9_spanNow 0 = .ok (.aload_n 0, 1) := by decide +kernel
theorem dX9_spanNow_1 : decode cX9_spanNow 1 = .ok (.getfield 11, 3) := by decide +kernel
theorem dX9_spanNow_4 : decode cX9_spanNow 4 = .ok (.iload_n 2, 1) := by decide +kernel
theorem dX9_spanNow_5 : decode cX9_spanNow 5 = .ok (.aaload, 1) := by decide +kernel
theorem dX9_spanNow_6 : decode cX9_spanNow 6 = .ok (.aload_n 0, 1) := by decide +kernel
theorem dX9_spanNow_7 : decode cX9_spanNow 7 = .ok (.getfield 37, 3) := by decide +kernel
theorem dX9_spanNow_10 : decode cX9_spanNow 10 = .ok (.iconst 0, 1) := by decide +kernel
theorem dX9_spanNow_11 : decode cX9_spanNow 11 = .ok (.iaload, 1) := by decide +kernel
theorem dX9_spanNow_12 : decode cX9_spanNow 12 = .ok (.invokevirtual 318, 3) := by decide +kernel
theorem dX9_spanNow_15 : decode cX9_spanNow 15 = .ok (.aload_n 0, 1) := by decide +kernel
theorem dX9_spanNow_16 : decode cX9_spanNow 16 = .ok (.getfield 37, 3) := by decide +kernel
theorem dX9_spanNow_19 : decode cX9_spanNow 19 = .ok (.iconst 1, 1) := by decide +kernel
theorem dX9_spanNow_20 : decode cX9_spanNow 20 = .ok (.iaload, 1) := by decide +kernel
theorem dX9_spanNow_21 : decode cX9_spanNow 21 = .ok (.aload_n 1, 1) := by decide +kernel
theorem dX9_spanNow_22 : decode cX9_spanNow 22 = .ok (.getfield 202, 3) := by decide +kernel
theorem dX9_spanNow_25 : decode cX9_spanNow 25 = .ok (.iload_n 2, 1) := by decide +kernel
theorem dX9_spanNow_26 : decode cX9_spanNow 26 = .ok (.iaload, 1) := by decide +kernel
theorem dX9_spanNow_27 : decode cX9_spanNow 27 = .ok (.imul, 1) := by decide +kernel
theorem dX9_spanNow_28 : decode cX9_spanNow 28 = .ok (.iadd, 1) := by decide +kernel
theorem dX9_spanNow_29 : decode cX9_spanNow 29 = .ok (.ireturn, 1) := by decide +kernel
set_option maxRecDepth 20000 in
theorem ggX9_priceAt_X5_holds : GoodIn wsX9_priceAt wsX5_holds := goodIn_r _ [15, 16, 17, 18, 19, 20, 14, 21, 22, 41, 42, 43, 44] (by decide +kernel) (by decide +kernel)
set_option maxRecDepth 20000 in
theorem gX9_priceAt_X5_holds : GoodIn wsX9_priceAt (wsV RX9 321 RX5 yX5_holds wsX5_holds) := goodIn_app (goodIn_of _ (by decide +kernel)) ggX9_priceAt_X5_holds
theorem dX9_priceAt_0 : decode cX9_priceAt 0 = .ok (.aload_n 0, 1) := by decide +kernel
theorem dX9_priceAt_1 : decode cX9_priceAt 1 = .ok (.getfield 21, 3) := by decide +kernel
theorem dX9_priceAt_4 : decode cX9_priceAt 4 = .ok (.iload_n 1, 1) := by decide +kernel
theorem dX9_priceAt_5 : decode cX9_priceAt 5 = .ok (.aaload, 1) := by decide +kernel
theorem dX9_priceAt_6 : decode cX9_priceAt 6 = .ok (.getfield 106, 3) := by decide +kernel
theorem dX9_priceAt_9 : decode cX9_priceAt 9 = .ok (.istore 4, 2) := by decide +kernel
theorem dX9_priceAt_11 : decode cX9_priceAt 11 = .ok (.aload_n 0, 1) := by decide +kernel
theorem dX9_priceAt_12 : decode cX9_priceAt 12 = .ok (.getfield 72, 3) := by decide +kernel
theorem dX9_priceAt_15 : decode cX9_priceAt 15 = .ok (.iconst 1, 1) := by decide +kernel
theorem dX9_priceAt_16 : decode cX9_priceAt 16 = .ok (.isub, 1) := by decide +kernel
theorem dX9_priceAt_17 : decode cX9_priceAt 17 = .ok (.istore 5, 2) := by decide +kernel
theorem dX9_priceAt_19 : decode cX9_priceAt 19 = .ok (.iload 5, 2) := by decide +kernel
theorem dX9_priceAt_21 : decode cX9_priceAt 21 = .ok (.ifCond .lt 50, 3) := by decide +kernel
theorem dX9_priceAt_24 : decode cX9_priceAt 24 = .ok (.aload_n 0, 1) := by decide +kernel
theorem dX9_priceAt_25 : decode cX9_priceAt 25 = .ok (.getfield 68, 3) := by decide +kernel
theorem dX9_priceAt_28 : decode cX9_priceAt 28 = .ok (.iload 5, 2) := by decide +kernel
theorem dX9_priceAt_30 : decode cX9_priceAt 30 = .ok (.aaload, 1) := by decide +kernel
theorem dX9_priceAt_31 : decode cX9_priceAt 31 = .ok (.iload_n 2, 1) := by decide +kernel
theorem dX9_priceAt_32 : decode cX9_priceAt 32 = .ok (.iload_n 3, 1) := by decide +kernel
theorem dX9_priceAt_33 : decode cX9_priceAt 33 = .ok (.invokevirtual 321, 3) := by decide +kernel
theorem dX9_priceAt_36 : decode cX9_priceAt 36 = .ok (.ifCond .eq 29, 3) := by decide +kernel
theorem dX9_priceAt_39 : decode cX9_priceAt 39 = .ok (.aload_n 0, 1) := by decide +kernel
theorem dX9_priceAt_40 : decode cX9_priceAt 40 = .ok (.getfield 37, 3) := by decide +kernel
theorem dX9_priceAt_43 : decode cX9_priceAt 43 = .ok (.iconst 4, 1) := by decide +kernel
theorem dX9_priceAt_44 : decode cX9_priceAt 44 = .ok (.iaload, 1) := by decide +kernel
theorem dX9_priceAt_45 : decode cX9_priceAt 45 = .ok (.iload 4, 2) := by decide +kernel
theorem dX9_priceAt_47 : decode cX9_priceAt 47 = .ok (.aload_n 0, 1) := by decide +kernel
theorem dX9_priceAt_48 : decode cX9_priceAt 48 = .ok (.getfield 68, 3) := by decide +kernel
theorem dX9_priceAt_51 : decode cX9_priceAt 51 = .ok (.iload 5, 2) := by decide +kernel
theorem dX9_priceAt_53 : decode cX9_priceAt 53 = .ok (.aaload, 1) := by decide +kernel
theorem dX9_priceAt_54 : decode cX9_priceAt 54 = .ok (.getfield 260, 3) := by decide +kernel
theorem dX9_priceAt_57 : decode cX9_priceAt 57 = .ok (.imul, 1) := by decide +kernel
theorem dX9_priceAt_58 : decode cX9_priceAt 58 = .ok (.bipush 100, 2) := by decide +kernel
theorem dX9_priceAt_60 : decode cX9_priceAt 60 = .ok (.idiv, 1) := by decide +kernel
theorem dX9_priceAt_61 : decode cX9_priceAt 61 = .ok (.invokestatic 271, 3) := by decide +kernel
theorem dX9_priceAt_64 : decode cX9_priceAt 64 = .ok (.ireturn, 1) := by decide +kernel
theorem dX9_priceAt_65 : decode cX9_priceAt 65 = .ok (.iinc 5 (-1), 3) := by decide +kernel
theorem dX9_priceAt_68 : decode cX9_priceAt 68 = .ok (.goto (-49), 3) := by decide +kernel
theorem dX9_priceAt_71 : decode cX9_priceAt 71 = .ok (.aload_n 0, 1) := by decide +kernel
theorem dX9_priceAt_72 : decode cX9_priceAt 72 = .ok (.getfield 37, 3) := by decide +kernel
theorem dX9_priceAt_75 : decode cX9_priceAt 75 = .ok (.iconst 4, 1) := by decide +kernel
theorem dX9_priceAt_76 : decode cX9_priceAt 76 = .ok (.iaload, 1) := by decide +kernel
theorem dX9_priceAt_77 : decode cX9_priceAt 77 = .ok (.iload 4, 2) := by decide +kernel
theorem dX9_priceAt_79 : decode cX9_priceAt 79 = .ok (.invokestatic 271, 3) := by decide +kernel
theorem dX9_priceAt_82 : decode cX9_priceAt 82 = .ok (.ireturn, 1) := by decide +kernel
set_option maxRecDepth 20000 in
theorem ggX9_madeBy_X6_canBeMadeBy : GoodIn wsX9_madeBy wsX6_canBeMadeBy := goodIn_r _ [7, 8, 23, 24, 25, 26] (by decide +kernel) (by decide +kernel)
set_option maxRecDepth 20000 in
theorem gX9_madeBy_X6_canBeMadeBy : GoodIn wsX9_madeBy (wsV RX9 324 RX6 yX6_canBeMadeBy wsX6_canBeMadeBy) := goodIn_app (goodIn_of _ (by decide +kernel)) ggX9_madeBy_X6_canBeMadeBy
theorem dX9_madeBy_0 : decode cX9_madeBy 0 = .ok (.iconst 0, 1) := by decide +kernel
theorem dX9_madeBy_1 : decode cX9_madeBy 1 = .ok (.istore_n 2, 1) := by decide +kernel
theorem dX9_madeBy_2 : decode cX9_madeBy 2 = .ok (.iconst 0, 1) := by decide +kernel
theorem dX9_madeBy_3 : decode cX9_madeBy 3 = .ok (.istore_n 3, 1) := by decide +kernel
theorem dX9_madeBy_4 : decode cX9_madeBy 4 = .ok (.iload_n 3, 1) := by decide +kernel
theorem dX9_madeBy_5 : decode cX9_madeBy 5 = .ok (.aload_n 0, 1) := by decide +kernel
theorem dX9_madeBy_6 : decode cX9_madeBy 6 = .ok (.getfield 25, 3) := by decide +kernel
theorem dX9_madeBy_9 : decode cX9_madeBy 9 = .ok (.if_icmp .ge 25, 3) := by decide +kernel
theorem dX9_madeBy_12 : decode cX9_madeBy 12 = .ok (.aload_n 0, 1) := by decide +kernel
theorem dX9_madeBy_13 : decode cX9_madeBy 13 = .ok (.getfield 21, 3) := by decide +kernel
theorem dX9_madeBy_16 : decode cX9_madeBy 16 = .ok (.iload_n 3, 1) := by decide +kernel
theorem dX9_madeBy_17 : decode cX9_madeBy 17 = .ok (.aaload, 1) := by decide +kernel
theorem dX9_madeBy_18 : decode cX9_madeBy 18 = .ok (.iload_n 1, 1) := by decide +kernel
theorem dX9_madeBy_19 : decode cX9_madeBy 19 = .ok (.invokevirtual 324, 3) := by decide +kernel
theorem dX9_madeBy_22 : decode cX9_madeBy 22 = .ok (.ifCond .eq 6, 3) := by decide +kernel
theorem dX9_madeBy_25 : decode cX9_madeBy 25 = .ok (.iinc 2 1, 3) := by decide +kernel
theorem dX9_madeBy_28 : decode cX9_madeBy 28 = .ok (.iinc 3 1, 3) := by decide +kernel
theorem dX9_madeBy_31 : decode cX9_madeBy 31 = .ok (.goto (-27), 3) := by decide +kernel
theorem dX9_madeBy_34 : decode cX9_madeBy 34 = .ok (.iload_n 2, 1) := by decide +kernel
theorem dX9_madeBy_35 : decode cX9_madeBy 35 = .ok (.ireturn, 1) := by decide +kernel
theorem dX9_commonDivisor_0 : decode cX9_commonDivisor 0 = .ok (.iconst 0, 1) := by decide +kernel
theorem dX9_commonDivisor_1 : decode cX9_commonDivisor 1 = .ok (.istore 4, 2) := by decide +kernel
theorem dX9_commonDivisor_3 : decode cX9_commonDivisor 3 = .ok (.iload 4, 2) := by decide +kernel
theorem dX9_commonDivisor_5 : decode cX9_commonDivisor 5 = .ok (.bipush 100, 2) := by decide +kernel
theorem dX9_commonDivisor_7 : decode cX9_commonDivisor 7 = .ok (.if_icmp .ge 25, 3) := by decide +kernel
theorem dX9_commonDivisor_10 : decode cX9_commonDivisor 10 = .ok (.lload_n 2, 1) := by decide +kernel
theorem dX9_commonDivisor_11 : decode cX9_commonDivisor 11 = .ok (.lconst 0, 1) := by decide +kernel
theorem dX9_commonDivisor_12 : decode cX9_commonDivisor 12 = .ok (.lcmp, 1) := by decide +kernel
theorem dX9_commonDivisor_13 : decode cX9_commonDivisor 13 = .ok (.ifCond .eq 19, 3) := by decide +kernel
theorem dX9_commonDivisor_16 : decode cX9_commonDivisor 16 = .ok (.lload_n 0, 1) := by decide +kernel
theorem dX9_commonDivisor_17 : decode cX9_commonDivisor 17 = .ok (.lload_n 2, 1) := by decide +kernel
theorem dX9_commonDivisor_18 : decode cX9_commonDivisor 18 = .ok (.lrem, 1) := by decide +kernel
theorem dX9_commonDivisor_19 : decode cX9_commonDivisor 19 = .ok (.lstore 5, 2) := by decide +kernel
theorem dX9_commonDivisor_21 : decode cX9_commonDivisor 21 = .ok (.lload_n 2, 1) := by decide +kernel
theorem dX9_commonDivisor_22 : decode cX9_commonDivisor 22 = .ok (.lstore_n 0, 1) := by decide +kernel
theorem dX9_commonDivisor_23 : decode cX9_commonDivisor 23 = .ok (.lload 5, 2) := by decide +kernel
theorem dX9_commonDivisor_25 : decode cX9_commonDivisor 25 = .ok (.lstore_n 2, 1) := by decide +kernel
theorem dX9_commonDivisor_26 : decode cX9_commonDivisor 26 = .ok (.iinc 4 1, 3) := by decide +kernel
theorem dX9_commonDivisor_29 : decode cX9_commonDivisor 29 = .ok (.goto (-26), 3) := by decide +kernel
theorem dX9_commonDivisor_32 : decode cX9_commonDivisor 32 = .ok (.lload_n 0, 1) := by decide +kernel
theorem dX9_commonDivisor_33 : decode cX9_commonDivisor 33 = .ok (.lconst 0, 1) := by decide +kernel
theorem dX9_commonDivisor_34 : decode cX9_commonDivisor 34 = .ok (.lcmp, 1) := by decide +kernel
theorem dX9_commonDivisor_35 : decode cX9_commonDivisor 35 = .ok (.ifCond .ne 7, 3) := by decide +kernel
theorem dX9_commonDivisor_38 : decode cX9_commonDivisor 38 = .ok (.lconst 1, 1) := by decide +kernel
theorem dX9_commonDivisor_39 : decode cX9_commonDivisor 39 = .ok (.goto 4, 3) := by decide +kernel
theorem dX9_commonDivisor_42 : decode cX9_commonDivisor 42 = .ok (.lload_n 0, 1) := by decide +kernel
theorem dX9_commonDivisor_43 : decode cX9_commonDivisor 43 = .ok (.lreturn, 1) := by decide +kernel
theorem dX10_init_0 : decode cX10_init 0 = .ok (.aload_n 0, 1) := by decide +kernel
theorem dX10_init_1 : decode cX10_init 1 = .ok (.invokespecial 1, 3) := by decide +kernel
theorem dX10_init_4 : decode cX10_init 4 = .ok (.aload_n 0, 1) := by decide +kernel
theorem dX10_init_5 : decode cX10_init 5 = .ok (.bipush 10, 2) := by decide +kernel
theorem dX10_init_7 : decode cX10_init 7 = .ok (.newarray .int, 2) := by decide +kernel
theorem dX10_init_9 : decode cX10_init 9 = .ok (.putfield 7, 3) := by decide +kernel
theorem dX10_init_12 : decode cX10_init 12 = .ok (.aload_n 0, 1) := by decide +kernel
theorem dX10_init_13 : decode cX10_init 13 = .ok (.bipush 10, 2) := by decide +kernel
theorem dX10_init_15 : decode cX10_init 15 = .ok (.newarray .int, 2) := by decide +kernel
theorem dX10_init_17 : decode cX10_init 17 = .ok (.putfield 13, 3) := by decide +kernel
theorem dX10_init_20 : decode cX10_init 20 = .ok (.aload_n 0, 1) := by decide +kernel
theorem dX10_init_21 : decode cX10_init 21 = .ok (.bipush 10, 2) := by decide +kernel
theorem dX10_init_23 : decode cX10_init 23 = .ok (.newarray .int, 2) := by decide +kernel
theorem dX10_init_25 : decode cX10_init 25 = .ok (.putfield 16, 3) := by decide +kernel
theorem dX10_init_28 : decode cX10_init 28 = .ok (.aload_n 0, 1) := by decide +kernel
theorem dX10_init_29 : decode cX10_init 29 = .ok (.bipush 12, 2) := by decide +kernel
theorem dX10_init_31 : decode cX10_init 31 = .ok (.newarray .int, 2) := by decide +kernel
theorem dX10_init_33 : decode cX10_init 33 = .ok (.putfield 19, 3) := by decide +kernel
theorem dX10_init_36 : decode cX10_init 36 = .ok (.aload_n 0, 1) := by decide +kernel
theorem dX10_init_37 : decode cX10_init 37 = .ok (.bipush 120, 2) := by decide +kernel
theorem dX10_init_39 : decode cX10_init 39 = .ok (.newarray .int, 2) := by decide +kernel
theorem dX10_init_41 : decode cX10_init 41 = .ok (.putfield 22, 3) := by decide +kernel
theorem dX10_init_44 : decode cX10_init 44 = .ok (.aload_n 0, 1) := by decide +kernel
theorem dX10_init_45 : decode cX10_init 45 = .ok (.bipush 12, 2) := by decide +kernel
theorem dX10_init_47 : decode cX10_init 47 = .ok (.newarray .boolean, 2) := by decide +kernel
theorem dX10_init_49 : decode cX10_init 49 = .ok (.putfield 25, 3) := by decide +kernel
theorem dX10_init_52 : decode cX10_init 52 = .ok (.aload_n 0, 1) := by decide +kernel
theorem dX10_init_53 : decode cX10_init 53 = .ok (.bipush 7, 2) := by decide +kernel
theorem dX10_init_55 : decode cX10_init 55 = .ok (.newarray .int, 2) := by decide +kernel
theorem dX10_init_57 : decode cX10_init 57 = .ok (.putfield 29, 3) := by decide +kernel
theorem dX10_init_60 : decode cX10_init 60 = .ok (.aload_n 0, 1) := by decide +kernel
theorem dX10_init_61 : decode cX10_init 61 = .ok (.bipush 10, 2) := by decide +kernel
theorem dX10_init_63 : decode cX10_init 63 = .ok (.newarray .int, 2) := by decide +kernel
theorem dX10_init_65 : decode cX10_init 65 = .ok (.putfield 32, 3) := by decide +kernel
theorem dX10_init_68 : decode cX10_init 68 = .ok (.aload_n 0, 1) := by decide +kernel
theorem dX10_init_69 : decode cX10_init 69 = .ok (.bipush 20, 2) := by decide +kernel
theorem dX10_init_71 : decode cX10_init 71 = .ok (.newarray .int, 2) := by decide +kernel
theorem dX10_init_73 : decode cX10_init 73 = .ok (.putfield 35, 3) := by decide +kernel
theorem dX10_init_76 : decode cX10_init 76 = .ok (.aload_n 0, 1) := by decide +kernel
theorem dX10_init_77 : decode cX10_init 77 = .ok (.sipush 400, 3) := by decide +kernel
theorem dX10_init_80 : decode cX10_init 80 = .ok (.newarray .int, 2) := by decide +kernel
theorem dX10_init_82 : decode cX10_init 82 = .ok (.putfield 38, 3) := by decide +kernel
theorem dX10_init_85 : decode cX10_init 85 = .ok (.aload_n 0, 1) := by decide +kernel
theorem dX10_init_86 : decode cX10_init 86 = .ok (.sipush 400, 3) := by decide +kernel
theorem dX10_init_89 : decode cX10_init 89 = .ok (.newarray .boolean, 2) := by decide +kernel
theorem dX10_init_91 : decode cX10_init 91 = .ok (.putfield 41, 3) := by decide +kernel
theorem dX10_init_94 : decode cX10_init 94 = .ok (.aload_n 0, 1) := by decide +kernel
theorem dX10_init_95 : decode cX10_init 95 = .ok (.sipush 400, 3) := by decide +kernel
theorem dX10_init_98 : decode cX10_init 98 = .ok (.newarray .int, 2) := by decide +kernel
theorem dX10_init_100 : decode cX10_init 100 = .ok (.putfield 44, 3) := by decide +kernel
theorem dX10_init_103 : decode cX10_init 103 = .ok (.aload_n 0, 1) := by decide +kernel
theorem dX10_init_104 : decode cX10_init 104 = .ok (.sipush 400, 3) := by decide +kernel
theorem dX10_init_107 : decode cX10_init 107 = .ok (.newarray .int, 2) := by decide +kernel
theorem dX10_init_109 : decode cX10_init 109 = .ok (.putfield 47, 3) := by decide +kernel
theorem dX10_init_112 : decode cX10_init 112 = .ok (.aload_n 0, 1) := by decide +kernel
theorem dX10_init_113 : decode cX10_init 113 = .ok (.bipush 40, 2) := by decide +kernel
theorem dX10_init_115 : decode cX10_init 115 = .ok (.newarray .int, 2) := by decide +kernel
theorem dX10_init_117 : decode cX10_init 117 = .ok (.putfield 50, 3) := by decide +kernel
theorem dX10_init_120 : decode cX10_init 120 = .ok (.aload_n 0, 1) := by decide +kernel
theorem dX10_init_121 : decode cX10_init 121 = .ok (.bipush 50, 2) := by decide +kernel
theorem dX10_init_123 : decode cX10_init 123 = .ok (.newarray .int, 2) := by decide +kernel
theorem dX10_init_125 : decode cX10_init 125 = .ok (.putfield 53, 3) := by decide +kernel
theorem dX10_init_128 : decode cX10_init 128 = .ok (.aload_n 0, 1) := by decide +kernel
theorem dX10_init_129 : decode cX10_init 129 = .ok (.iconst 2, 1) := by decide +kernel
theorem dX10_init_130 : decode cX10_init 130 = .ok (.newarray .int, 2) := by decide +kernel
theorem dX10_init_132 : decode cX10_init 132 = .ok (.putfield 56, 3) := by decide +kernel
theorem dX10_init_135 : decode cX10_init 135 = .ok (.aload_n 0, 1) := by decide +kernel
theorem dX10_init_136 : decode cX10_init 136 = .ok (.sipush 240, 3) := by decide +kernel
theorem dX10_init_139 : decode cX10_init 139 = .ok (.newarray .int, 2) := by decide +kernel
theorem dX10_init_141 : decode cX10_init 141 = .ok (.putfield 59, 3) := by decide +kernel
theorem dX10_init_144 : decode cX10_init 144 = .ok (.aload_n 0, 1) := by decide +kernel
theorem dX10_init_145 : decode cX10_init 145 = .ok (.bipush 8, 2) := by decide +kernel
theorem dX10_init_147 : decode cX10_init 147 = .ok (.newarray .int, 2) := by decide +kernel
theorem dX10_init_149 : decode cX10_init 149 = .ok (.putfield 62, 3) := by decide +kernel
theorem dX10_init_152 : decode cX10_init 152 = .ok (.aload_n 0, 1) := by decide +kernel
theorem dX10_init_153 : decode cX10_init 153 = .ok (.bipush 8, 2) := by decide +kernel
theorem dX10_init_155 : decode cX10_init 155 = .ok (.newarray .int, 2) := by decide +kernel
theorem dX10_init_157 : decode cX10_init 157 = .ok (.putfield 65, 3) := by decide +kernel
theorem dX10_init_160 : decode cX10_init 160 = .ok (.aload_n 0, 1) := by decide +kernel
theorem dX10_init_161 : decode cX10_init 161 = .ok (.bipush 12, 2) := by decide +kernel
theorem dX10_init_163 : decode cX10_init 163 = .ok (.newarray .int, 2) := by decide +kernel
theorem dX10_init_165 : decode cX10_init 165 = .ok (.putfield 68, 3) := by decide +kernel
theorem dX10_init_168 : decode cX10_init 168 = .ok (.aload_n 0, 1) := by decide +kernel
theorem dX10_init_169 : decode cX10_init 169 = .ok (.bipush 12, 2) := by decide +kernel
theorem dX10_init_171 : decode cX10_init 171 = .ok (.newarray .int, 2) := by decide +kernel
theorem dX10_init_173 : decode cX10_init 173 = .ok (.putfield 71, 3) := by decide +kernel
theorem dX10_init_176 : decode cX10_init 176 = .ok (.aload_n 0, 1) := by decide +kernel
theorem dX10_init_177 : decode cX10_init 177 = .ok (.bipush 12, 2) := by decide +kernel
theorem dX10_init_179 : decode cX10_init 179 = .ok (.newarray .int, 2) := by decide +kernel
theorem dX10_init_181 : decode cX10_init 181 = .ok (.putfield 74, 3) := by decide +kernel
theorem dX10_init_184 : decode cX10_init 184 = .ok (.aload_n 0, 1) := by decide +kernel
theorem dX10_init_185 : decode cX10_init 185 = .ok (.bipush 12, 2) := by decide +kernel
theorem dX10_init_187 : decode cX10_init 187 = .ok (.newarray .int, 2) := by decide +kernel
theorem dX10_init_189 : decode cX10_init 189 = .ok (.putfield 77, 3) := by decide +kernel
theorem dX10_init_192 : decode cX10_init 192 = .ok (.aload_n 0, 1) := by decide +kernel
theorem dX10_init_193 : decode cX10_init 193 = .ok (.bipush 6, 2) := by decide +kernel
theorem dX10_init_195 : decode cX10_init 195 = .ok (.newarray .int, 2) := by decide +kernel
theorem dX10_init_197 : decode cX10_init 197 = .ok (.putfield 80, 3) := by decide +kernel
theorem dX10_init_200 : decode cX10_init 200 = .ok (.aload_n 0, 1) := by decide +kernel
theorem dX10_init_201 : decode cX10_init 201 = .ok (.iconst 5, 1) := by decide +kernel
theorem dX10_init_202 : decode cX10_init 202 = .ok (.newarray .int, 2) := by decide +kernel
theorem dX10_init_204 : decode cX10_init 204 = .ok (.putfield 83, 3) := by decide +kernel
theorem dX10_init_207 : decode cX10_init 207 = .ok (.aload_n 0, 1) := by decide +kernel
theorem dX10_init_208 : decode cX10_init 208 = .ok (.iconst 5, 1) := by decide +kernel
theorem dX10_init_209 : decode cX10_init 209 = .ok (.newarray .int, 2) := by decide +kernel
theorem dX10_init_211 : decode cX10_init 211 = .ok (.putfield 86, 3) := by decide +kernel
theorem dX10_init_214 : decode cX10_init 214 = .ok (.aload_n 0, 1) := by decide +kernel
theorem dX10_init_215 : decode cX10_init 215 = .ok (.sipush 900, 3) := by decide +kernel
theorem dX10_init_218 : decode cX10_init 218 = .ok (.newarray .int, 2) := by decide +kernel
theorem dX10_init_220 : decode cX10_init 220 = .ok (.putfield 89, 3) := by decide +kernel
theorem dX10_init_223 : decode cX10_init 223 = .ok (.aload_n 0, 1) := by decide +kernel
theorem dX10_init_224 : decode cX10_init 224 = .ok (.getfield 29, 3) := by decide +kernel
theorem dX10_init_227 : decode cX10_init 227 = .ok (.iconst 0, 1) := by decide +kernel
theorem dX10_init_228 : decode cX10_init 228 = .ok (.iconst 2, 1) := by decide +kernel
theorem dX10_init_229 : decode cX10_init 229 = .ok (.iastore, 1) := by decide +kernel
theorem dX10_init_230 : decode cX10_init 230 = .ok (.aload_n 0, 1) := by decide +kernel
theorem dX10_init_231 : decode cX10_init 231 = .ok (.getfield 29, 3) := by decide +kernel
theorem dX10_init_234 : decode cX10_init 234 = .ok (.iconst 1, 1) := by decide +kernel
theorem dX10_init_235 : decode cX10_init 235 = .ok (.iconst 1, 1) := by decide +kernel
theorem dX10_init_236 : decode cX10_init 236 = .ok (.iastore, 1) := by decide +kernel
theorem dX10_init_237 : decode cX10_init 237 = .ok (.aload_n 0, 1) := by decide +kernel
theorem dX10_init_238 : decode cX10_init 238 = .ok (.getfield 29, 3) := by decide +kernel
theorem dX10_init_241 : decode cX10_init 241 = .ok (.iconst 2, 1) := by decide +kernel
theorem dX10_init_242 : decode cX10_init 242 = .ok (.iconst 1, 1) := by decide +kernel
theorem dX10_init_243 : decode cX10_init 243 = .ok (.iastore, 1) := by decide +kernel
theorem dX10_init_244 : decode cX10_init 244 = .ok (.aload_n 0, 1) := by decide +kernel
theorem dX10_init_245 : decode cX10_init 245 = .ok (.getfield 29, 3) := by decide +kernel
theorem dX10_init_248 : decode cX10_init 248 = .ok (.iconst 3, 1) := by decide +kernel
theorem dX10_init_249 : decode cX10_init 249 = .ok (.iconst 1, 1) := by decide +kernel
theorem dX10_init_250 : decode cX10_init 250 = .ok (.iastore, 1) := by decide +kernel
theorem dX10_init_251 : decode cX10_init 251 = .ok (.aload_n 0, 1) := by decide +kernel
theorem dX10_init_252 : decode cX10_init 252 = .ok (.getfield 29, 3) := by decide +kernel
theorem dX10_init_255 : decode cX10_init 255 = .ok (.iconst 5, 1) := by decide +kernel
theorem dX10_init_256 : decode cX10_init 256 = .ok (.iconst 5, 1) := by decide +kernel
theorem dX10_init_257 : decode cX10_init 257 = .ok (.iastore, 1) := by decide +kernel
theorem dX10_init_258 : decode cX10_init 258 = .ok (.aload_n 0, 1) := by decide +kernel
theorem dX10_init_259 : decode cX10_init 259 = .ok (.getfield 29, 3) := by decide +kernel
theorem dX10_init_262 : decode cX10_init 262 = .ok (.bipush 6, 2) := by decide +kernel
theorem dX10_init_264 : decode cX10_init 264 = .ok (.iconst 2, 1) := by decide +kernel
theorem dX10_init_265 : decode cX10_init 265 = .ok (.iastore, 1) := by decide +kernel
theorem dX10_init_266 : decode cX10_init 266 = .ok (.return_, 1) := by decide +kernel
theorem dX10_in_0 : decode cX10_in 0 = .ok (.iload_n 0, 1) := by decide +kernel
theorem dX10_in_1 : decode cX10_in 1 = .ok (.iload_n 1, 1) := by decide +kernel
theorem dX10_in_2 : decode cX10_in 2 = .ok (.if_icmp .lt 12, 3) := by decide +kernel
theorem dX10_in_5 : decode cX10_in 5 = .ok (.iload_n 0, 1) := by decide +kernel
theorem dX10_in_6 : decode cX10_in 6 = .ok (.iload_n 2, 1) := by decide +kernel
theorem dX10_in_7 : decode cX10_in 7 = .ok (.if_icmp .gt 7, 3) := by decide +kernel
theorem dX10_in_10 : decode cX10_in 10 = .ok (.iconst 1, 1) := by decide +kernel
theorem dX10_in_11 : decode cX10_in 11 = .ok (.goto 4, 3) := by decide +kernel
theorem dX10_in_14 : decode cX10_in 14 = .ok (.iconst 0, 1) := by decide +kernel
theorem dX10_in_15 : decode cX10_in 15 = .ok (.ireturn, 1) := by decide +kernel
set_option maxRecDepth 20000 in
theorem ggX10_isKind_X10_in : GoodIn wsX10_isKind wsX10_in := goodIn_r _ [5] (by decide +kernel) (by decide +kernel)
set_option maxRecDepth 20000 in
theorem gX10_isKind_X10_in : GoodIn wsX10_isKind (va_wsS RX10 96 yX10_in wsX10_in) := goodIn_app (goodIn_of _ (by decide +kernel)) ggX10_isKind_X10_in
theorem dX10_isKind_0 : decode cX10_isKind 0 = .ok (.iload_n 1, 1) := by decide +kernel
theorem dX10_isKind_1 : decode cX10_isKind 1 = .ok (.iconst 0, 1) := by decide +kernel
theorem dX10_isKind_2 : decode cX10_isKind 2 = .ok (.aload_n 0, 1) := by decide +kernel
theorem dX10_isKind_3 : decode cX10_isKind 3 = .ok (.getfield 92, 3) := by decide +kernel
theorem dX10_isKind_6 : decode cX10_isKind 6 = .ok (.iconst 1, 1) := by decide +kernel
theorem dX10_isKind_7 : decode cX10_isKind 7 = .ok (.isub, 1) := by decide +kernel
theorem dX10_isKind_8 : decode cX10_isKind 8 = .ok (.invokestatic 96, 3) := by decide +kernel
theorem dX10_isKind_11 : decode cX10_isKind 11 = .ok (.ireturn, 1) := by decide +kernel
set_option maxRecDepth 20000 in
theorem ggX10_isRecipe_X10_in : GoodIn wsX10_isRecipe wsX10_in := goodIn_r _ [5] (by decide +kernel) (by decide +kernel)
set_option maxRecDepth 20000 in
theorem gX10_isRecipe_X10_in : GoodIn wsX10_isRecipe (va_wsS RX10 96 yX10_in wsX10_in) := goodIn_app (goodIn_of _ (by decide +kernel)) ggX10_isRecipe_X10_in
theorem dX10_isRecipe_0 : decode cX10_isRecipe 0 = .ok (.iload_n 1, 1) := by decide +kernel
theorem dX10_isRecipe_1 : decode cX10_isRecipe 1 = .ok (.iconst 0, 1) := by decide +kernel
theorem dX10_isRecipe_2 : decode cX10_isRecipe 2 = .ok (.aload_n 0, 1) := by decide +kernel
theorem dX10_isRecipe_3 : decode cX10_isRecipe 3 = .ok (.getfield 100, 3) := by decide +kernel
theorem dX10_isRecipe_6 : decode cX10_isRecipe 6 = .ok (.iconst 1, 1) := by decide +kernel
theorem dX10_isRecipe_7 : decode cX10_isRecipe 7 = .ok (.isub, 1) := by decide +kernel
theorem dX10_isRecipe_8 : decode cX10_isRecipe 8 = .ok (.invokestatic 96, 3) := by decide +kernel
theorem dX10_isRecipe_11 : decode cX10_isRecipe 11 = .ok (.ireturn, 1) := by decide +kernel
set_option maxRecDepth 20000 in
theorem ggX10_isBar_X10_in : GoodIn wsX10_isBar wsX10_in := goodIn_r _ [4] (by decide +kernel) (by decide +kernel)
set_option maxRecDepth 20000 in
theorem gX10_isBar_X10_in : GoodIn wsX10_isBar (va_wsS RX10 96 yX10_in wsX10_in) := goodIn_app (goodIn_of _ (by decide +kernel)) ggX10_isBar_X10_in
theorem dX10_isBar_0 : decode cX10_isBar 0 = .ok (.iload_n 0, 1) := by decide +kernel
theorem dX10_isBar_1 : decode cX10_isBar 1 = .ok (.iconst 0, 1) := by decide +kernel
theorem dX10_isBar_2 : decode cX10_isBar 2 = .ok (.iconst 1, 1) := by decide +kernel
theorem dX10_isBar_3 : decode cX10_isBar 3 = .ok (.invokestatic 96, 3) := by decide +kernel
theorem dX10_isBar_6 : decode cX10_isBar 6 = .ok (.ireturn, 1) := by decide +kernel
set_option maxRecDepth 20000 in
theorem ggX10_kind_X10_in : GoodIn wsX10_kind wsX10_in := goodIn_r _ [8] (by decide +kernel) (by decide +kernel)
set_option maxRecDepth 20000 in
theorem gX10_kind_X10_in : GoodIn wsX10_kind (va_wsS RX10 96 yX10_in wsX10_in) := goodIn_app (goodIn_of _ (by decide +kernel)) ggX10_kind_X10_in
theorem dX10_kind_0 : decode cX10_kind 0 = .ok (.iload_n 1, 1) := by decide +kernel
theorem dX10_kind_1 : decode cX10_kind 1 = .ok (.iconst 0, 1) := by decide +kernel
theorem dX10_kind_2 : decode cX10_kind 2 = .ok (.sipush 2000, 3) := by decide +kernel
theorem dX10_kind_5 : decode cX10_kind 5 = .ok (.invokestatic 96, 3) := by decide +kernel
theorem dX10_kind_8 : decode cX10_kind 8 = .ok (.ifCond .eq 27, 3) := by decide +kernel
theorem dX10_kind_11 : decode cX10_kind 11 = .ok (.iload_n 2, 1) := by decide +kernel
theorem dX10_kind_12 : decode cX10_kind 12 = .ok (.bipush 100, 2) := by decide +kernel
theorem dX10_kind_14 : decode cX10_kind 14 = .ok (.sipush 2000, 3) := by decide +kernel
theorem dX10_kind_17 : decode cX10_kind 17 = .ok (.invokestatic 96, 3) := by decide +kernel
theorem dX10_kind_20 : decode cX10_kind 20 = .ok (.ifCond .eq 15, 3) := by decide +kernel
theorem dX10_kind_23 : decode cX10_kind 23 = .ok (.iload_n 3, 1) := by decide +kernel
theorem dX10_kind_24 : decode cX10_kind 24 = .ok (.bipush 50, 2) := by decide +kernel
theorem dX10_kind_26 : decode cX10_kind 26 = .ok (.sipush 150, 3) := by decide +kernel
theorem dX10_kind_29 : decode cX10_kind 29 = .ok (.invokestatic 96, 3) := by decide +kernel
theorem dX10_kind_32 : decode cX10_kind 32 = .ok (.ifCond .ne 5, 3) := by decide +kernel
theorem dX10_kind_35 : decode cX10_kind 35 = .ok (.iconst (-1), 1) := by decide +kernel
theorem dX10_kind_36 : decode cX10_kind 36 = .ok (.ireturn, 1) := by decide +kernel
theorem dX10_kind_37 : decode cX10_kind 37 = .ok (.aload_n 0, 1) := by decide +kernel
theorem dX10_kind_38 : decode cX10_kind 38 = .ok (.getfield 92, 3) := by decide +kernel
theorem dX10_kind_41 : decode cX10_kind 41 = .ok (.bipush 10, 2) := by decide +kernel
theorem dX10_kind_43 : decode cX10_kind 43 = .ok (.if_icmp .ne 6, 3) := by decide +kernel
theorem dX10_kind_46 : decode cX10_kind 46 = .ok (.bipush (-3), 2) := by decide +kernel
theorem dX10_kind_48 : decode cX10_kind 48 = .ok (.ireturn, 1) := by decide +kernel
theorem dX10_kind_49 : decode cX10_kind 49 = .ok (.aload_n 0, 1) := by decide +kernel
theorem dX10_kind_50 : decode cX10_kind 50 = .ok (.getfield 7, 3) := by decide +kernel
theorem dX10_kind_53 : decode cX10_kind 53 = .ok (.aload_n 0, 1) := by decide +kernel
theorem dX10_kind_54 : decode cX10_kind 54 = .ok (.getfield 92, 3) := by decide +kernel
theorem dX10_kind_57 : decode cX10_kind 57 = .ok (.iload_n 1, 1) := by decide +kernel
theorem dX10_kind_58 : decode cX10_kind 58 = .ok (.iastore, 1) := by decide +kernel
theorem dX10_kind_59 : decode cX10_kind 59 = .ok (.aload_n 0, 1) := by decide +kernel
theorem dX10_kind_60 : decode cX10_kind 60 = .ok (.getfield 13, 3) := by decide +kernel
theorem dX10_kind_63 : decode cX10_kind 63 = .ok (.aload_n 0, 1) := by decide +kernel
theorem dX10_kind_64 : decode cX10_kind 64 = .ok (.getfield 92, 3) := by decide +kernel
theorem dX10_kind_67 : decode cX10_kind 67 = .ok (.iload_n 2, 1) := by decide +kernel
theorem dX10_kind_68 : decode cX10_kind 68 = .ok (.iastore, 1) := by decide +kernel
theorem dX10_kind_69 : decode cX10_kind 69 = .ok (.aload_n 0, 1) := by decide +kernel
theorem dX10_kind_70 : decode cX10_kind 70 = .ok (.getfield 16, 3) := by decide +kernel
theorem dX10_kind_73 : decode cX10_kind 73 = .ok (.aload_n 0, 1) := by decide +kernel
theorem dX10_kind_74 : decode cX10_kind 74 = .ok (.getfield 92, 3) := by decide +kernel
theorem dX10_kind_77 : decode cX10_kind 77 = .ok (.iload_n 3, 1) := by decide +kernel
theorem dX10_kind_78 : decode cX10_kind 78 = .ok (.iastore, 1) := by decide +kernel
theorem dX10_kind_79 : decode cX10_kind 79 = .ok (.aload_n 0, 1) := by decide +kernel
theorem dX10_kind_80 : decode cX10_kind 80 = .ok (.dup, 1) := by decide +kernel
theorem dX10_kind_81 : decode cX10_kind 81 = .ok (.getfield 92, 3) := by decide +kernel
theorem dX10_kind_84 : decode cX10_kind 84 = .ok (.iconst 1, 1) := by decide +kernel
theorem dX10_kind_85 : decode cX10_kind 85 = .ok (.iadd, 1) := by decide +kernel
theorem dX10_kind_86 : decode cX10_kind 86 = .ok (.putfield 92, 3) := by decide +kernel
theorem dX10_kind_89 : decode cX10_kind 89 = .ok (.aload_n 0, 1) := by decide +kernel
theorem dX10_kind_90 : decode cX10_kind 90 = .ok (.getfield 92, 3) := by decide +kernel
theorem dX10_kind_93 : decode cX10_kind 93 = .ok (.iconst 1, 1) := by decide +kernel
theorem dX10_kind_94 : decode cX10_kind 94 = .ok (.isub, 1) := by decide +kernel
theorem dX10_kind_95 : decode cX10_kind 95 = .ok (.ireturn, 1) := by decide +kernel
set_option maxRecDepth 20000 in
theorem ggX10_recipe_X10_in : GoodIn wsX10_recipe wsX10_in := goodIn_r _ [6] (by decide +kernel) (by decide +kernel)
set_option maxRecDepth 20000 in
theorem gX10_recipe_X10_in : GoodIn wsX10_recipe (va_wsS RX10 96 yX10_in wsX10_in) := goodIn_app (goodIn_of _ (by decide +kernel)) ggX10_recipe_X10_in
theorem dX10_recipe_0 : decode cX10_recipe 0 = .ok (.iload_n 1, 1) := by decide +kernel
theorem dX10_recipe_1 : decode cX10_recipe 1 = .ok (.iconst 0, 1) := by decide +kernel
theorem dX10_recipe_2 : decode cX10_recipe 2 = .ok (.sipush 10000, 3) := by decide +kernel
theorem dX10_recipe_5 : decode cX10_recipe 5 = .ok (.invokestatic 96, 3) := by decide +kernel
theorem dX10_recipe_8 : decode cX10_recipe 8 = .ok (.ifCond .ne 5, 3) := by decide +kernel
theorem dX10_recipe_11 : decode cX10_recipe 11 = .ok (.iconst (-1), 1) := by decide +kernel
theorem dX10_recipe_12 : decode cX10_recipe 12 = .ok (.ireturn, 1) := by decide +kernel
theorem dX10_recipe_13 : decode cX10_recipe 13 = .ok (.aload_n 0, 1) := by decide +kernel
theorem dX10_recipe_14 : decode cX10_recipe 14 = .ok (.getfield 100, 3) := by decide +kernel
theorem dX10_recipe_17 : decode cX10_recipe 17 = .ok (.bipush 12, 2) := by decide +kernel
theorem dX10_recipe_19 : decode cX10_recipe 19 = .ok (.if_icmp .ne 6, 3) := by decide +kernel
theorem dX10_recipe_22 : decode cX10_recipe 22 = .ok (.bipush (-3), 2) := by decide +kernel
theorem dX10_recipe_24 : decode cX10_recipe 24 = .ok (.ireturn, 1) := by decide +kernel
theorem dX10_recipe_25 : decode cX10_recipe 25 = .ok (.aload_n 0, 1) := by decide +kernel
theorem dX10_recipe_26 : decode cX10_recipe 26 = .ok (.getfield 19, 3) := by decide +kernel
theorem dX10_recipe_29 : decode cX10_recipe 29 = .ok (.aload_n 0, 1) := by decide +kernel
theorem dX10_recipe_30 : decode cX10_recipe 30 = .ok (.getfield 100, 3) := by decide +kernel
theorem dX10_recipe_33 : decode cX10_recipe 33 = .ok (.iload_n 1, 1) := by decide +kernel
theorem dX10_recipe_34 : decode cX10_recipe 34 = .ok (.iastore, 1) := by decide +kernel
theorem dX10_recipe_35 : decode cX10_recipe 35 = .ok (.aload_n 0, 1) := by decide +kernel
theorem dX10_recipe_36 : decode cX10_recipe 36 = .ok (.dup, 1) := by decide +kernel
theorem dX10_recipe_37 : decode cX10_recipe 37 = .ok (.getfield 100, 3) := by decide +kernel
theorem dX10_recipe_40 : decode cX10_recipe 40 = .ok (.iconst 1, 1) := by decide +kernel
theorem dX10_recipe_41 : decode cX10_recipe 41 = .ok (.iadd, 1) := by decide +kernel
theorem dX10_recipe_42 : decode cX10_recipe 42 = .ok (.putfield 100, 3) := by decide +kernel
theorem dX10_recipe_45 : decode cX10_recipe 45 = .ok (.aload_n 0, 1) := by decide +kernel
theorem dX10_recipe_46 : decode cX10_recipe 46 = .ok (.getfield 100, 3) := by decide +kernel
theorem dX10_recipe_49 : decode cX10_recipe 49 = .ok (.iconst 1, 1) := by decide +kernel
theorem dX10_recipe_50 : decode cX10_recipe 50 = .ok (.isub, 1) := by decide +kernel
theorem dX10_recipe_51 : decode cX10_recipe 51 = .ok (.ireturn, 1) := by decide +kernel
set_option maxRecDepth 20000 in
theorem ggX10_part_X10_isRecipe : GoodIn wsX10_part wsX10_isRecipe := goodIn_r _ [7, 8, 9, 10, 6, 11, 17, 18, 19, 20, 21, 22, 23, 24, 25, 26, 27, 28, 29, 30, 31, 32, 33, 34, 35, 36, 37, 38, 39, 40, 41, 42, 43, 44, 45, 46, 47, 48, 49, 50] (by decide +kernel) (by decide +kernel)
set_option maxRecDepth 20000 in
theorem gX10_part_X10_isRecipe : GoodIn wsX10_part (wsV RX10 103 RX10 yX10_isRecipe wsX10_isRecipe) := goodIn_app (goodIn_of _ (by decide +kernel)) ggX10_part_X10_isRecipe
set_option maxRecDepth 20000 in
theorem ggX10_part_X10_isKind : GoodIn wsX10_part wsX10_isKind := goodIn_r _ [15, 16, 9, 10, 6, 11, 17, 18, 19, 20, 21, 22, 23, 24, 25, 26, 27, 28, 29, 30, 31, 32, 33, 34, 35, 36, 37, 38, 39, 40, 41, 42, 43, 44, 45, 46, 47, 48, 49, 50] (by decide +kernel) (by decide +kernel)
set_option maxRecDepth 20000 in
theorem gX10_part_X10_isKind : GoodIn wsX10_part (wsV RX10 107 RX10 yX10_isKind wsX10_isKind) := goodIn_app (goodIn_of _ (by decide +kernel)) ggX10_part_X10_isKind
set_option maxRecDepth 20000 in
theorem ggX10_part_X10_in : GoodIn wsX10_part wsX10_in := goodIn_r _ [11] (by decide +kernel) (by decide +kernel)
set_option maxRecDepth 20000 in
theorem gX10_part_X10_in : GoodIn wsX10_part (va_wsS RX10 96 yX10_in wsX10_in) := goodIn_app (goodIn_of _ (by decide +kernel)) ggX10_part_X10_in
theorem dX10_part_0 : decode cX10_part 0 = .ok (.aload_n 0, 1) := by decide +kernel
theorem dX10_part_1 : decode cX10_part 1 = .ok (.iload_n 1, 1) := by decide +kernel
theorem dX10_part_2 : decode cX10_part 2 = .ok (.invokevirtual 103, 3) := by decide +kernel
theorem dX10_part_5 : decode cX10_part 5 = .ok (.ifCond .eq 21, 3) := by decide +kernel
theorem dX10_part_8 : decode cX10_part 8 = .ok (.aload_n 0, 1) := by decide +kernel
theorem dX10_part_9 : decode cX10_part 9 = .ok (.iload_n 2, 1) := by decide +kernel
theorem dX10_part_10 : decode cX10_part 10 = .ok (.invokevirtual 107, 3) := by decide +kernel
theorem dX10_part_13 : decode cX10_part 13 = .ok (.ifCond .eq 13, 3) := by decide +kernel
theorem dX10_part_16 : decode cX10_part 16 = .ok (.iload_n 3, 1) := by decide +kernel
theorem dX10_part_17 : decode cX10_part 17 = .ok (.iconst 0, 1) := by decide +kernel
theorem dX10_part_18 : decode cX10_part 18 = .ok (.bipush 20, 2) := by decide +kernel
theorem dX10_part_20 : decode cX10_part 20 = .ok (.invokestatic 96, 3) := by decide +kernel
theorem dX10_part_23 : decode cX10_part 23 = .ok (.ifCond .ne 5, 3) := by decide +kernel
theorem dX10_part_26 : decode cX10_part 26 = .ok (.iconst (-1), 1) := by decide +kernel
theorem dX10_part_27 : decode cX10_part 27 = .ok (.ireturn, 1) := by decide +kernel
theorem dX10_part_28 : decode cX10_part 28 = .ok (.aload_n 0, 1) := by decide +kernel
theorem dX10_part_29 : decode cX10_part 29 = .ok (.getfield 25, 3) := by decide +kernel
theorem dX10_part_32 : decode cX10_part 32 = .ok (.iload_n 1, 1) := by decide +kernel
theorem dX10_part_33 : decode cX10_part 33 = .ok (.baload, 1) := by decide +kernel
theorem dX10_part_34 : decode cX10_part 34 = .ok (.ifCond .eq 6, 3) := by decide +kernel
theorem dX10_part_37 : decode cX10_part 37 = .ok (.bipush (-2), 2) := by decide +kernel
theorem dX10_part_39 : decode cX10_part 39 = .ok (.ireturn, 1) := by decide +kernel
theorem dX10_part_40 : decode cX10_part 40 = .ok (.aload_n 0, 1) := by decide +kernel
theorem dX10_part_41 : decode cX10_part 41 = .ok (.getfield 22, 3) := by decide +kernel
theorem dX10_part_44 : decode cX10_part 44 = .ok (.bipush 10, 2) := by decide +kernel
theorem dX10_part_46 : decode cX10_part 46 = .ok (.iload_n 1, 1) := by decide +kernel
theorem dX10_part_47 : decode cX10_part 47 = .ok (.imul, 1) := by decide +kernel
theorem dX10_part_48 : decode cX10_part 48 = .ok (.iload_n 2, 1) := by decide +kernel
theorem dX10_part_49 : decode cX10_part 49 = .ok (.iadd, 1) := by decide +kernel
theorem dX10_part_50 : decode cX10_part 50 = .ok (.iaload, 1) := by decide +kernel
theorem dX10_part_51 : decode cX10_part 51 = .ok (.istore 4, 2) := by decide +kernel
theorem dX10_part_53 : decode cX10_part 53 = .ok (.aload_n 0, 1) := by decide +kernel
theorem dX10_part_54 : decode cX10_part 54 = .ok (.getfield 22, 3) := by decide +kernel
theorem dX10_part_57 : decode cX10_part 57 = .ok (.bipush 10, 2) := by decide +kernel
theorem dX10_part_59 : decode cX10_part 59 = .ok (.iload_n 1, 1) := by decide +kernel
theorem dX10_part_60 : decode cX10_part 60 = .ok (.imul, 1) := by decide +kernel
theorem dX10_part_61 : decode cX10_part 61 = .ok (.iload_n 2, 1) := by decide +kernel
theorem dX10_part_62 : decode cX10_part 62 = .ok (.iadd, 1) := by decide +kernel
theorem dX10_part_63 : decode cX10_part 63 = .ok (.iload_n 3, 1) := by decide +kernel
theorem dX10_part_64 : decode cX10_part 64 = .ok (.iastore, 1) := by decide +kernel
theorem dX10_part_65 : decode cX10_part 65 = .ok (.iload 4, 2) := by decide +kernel
theorem dX10_part_67 : decode cX10_part 67 = .ok (.ireturn, 1) := by decide +kernel
theorem dX10_top_0 : decode cX10_top 0 = .ok (.iload_n 0, 1) := by decide +kernel
theorem dX10_top_1 : decode cX10_top 1 = .ok (.ifCond .ne 8, 3) := by decide +kernel
theorem dX10_top_4 : decode cX10_top 4 = .ok (.bipush 50, 2) := by decide +kernel
theorem dX10_top_6 : decode cX10_top 6 = .ok (.goto 46, 3) := by decide +kernel
theorem dX10_top_9 : decode cX10_top 9 = .ok (.iload_n 0, 1) := by decide +kernel
theorem dX10_top_10 : decode cX10_top 10 = .ok (.iconst 1, 1) := by decide +kernel
theorem dX10_top_11 : decode cX10_top 11 = .ok (.if_icmp .ne 8, 3) := by decide +kernel
theorem dX10_top_14 : decode cX10_top 14 = .ok (.bipush 20, 2) := by decide +kernel
theorem dX10_top_16 : decode cX10_top 16 = .ok (.goto 36, 3) := by decide +kernel
theorem dX10_top_19 : decode cX10_top 19 = .ok (.iload_n 0, 1) := by decide +kernel
theorem dX10_top_20 : decode cX10_top 20 = .ok (.iconst 4, 1) := by decide +kernel
theorem dX10_top_21 : decode cX10_top 21 = .ok (.if_icmp .ge 8, 3) := by decide +kernel
theorem dX10_top_24 : decode cX10_top 24 = .ok (.bipush 100, 2) := by decide +kernel
theorem dX10_top_26 : decode cX10_top 26 = .ok (.goto 26, 3) := by decide +kernel
theorem dX10_top_29 : decode cX10_top 29 = .ok (.iload_n 0, 1) := by decide +kernel
theorem dX10_top_30 : decode cX10_top 30 = .ok (.iconst 4, 1) := by decide +kernel
theorem dX10_top_31 : decode cX10_top 31 = .ok (.if_icmp .ne 9, 3) := by decide +kernel
theorem dX10_top_34 : decode cX10_top 34 = .ok (.sipush 10000, 3) := by decide +kernel
theorem dX10_top_37 : decode cX10_top 37 = .ok (.goto 15, 3) := by decide +kernel
theorem dX10_top_40 : decode cX10_top 40 = .ok (.iload_n 0, 1) := by decide +kernel
theorem dX10_top_41 : decode cX10_top 41 = .ok (.iconst 5, 1) := by decide +kernel
theorem dX10_top_42 : decode cX10_top 42 = .ok (.if_icmp .ne 8, 3) := by decide +kernel
theorem dX10_top_45 : decode cX10_top 45 = .ok (.bipush 50, 2) := by decide +kernel
theorem dX10_top_47 : decode cX10_top 47 = .ok (.goto 5, 3) := by decide +kernel
theorem dX10_top_50 : decode cX10_top 50 = .ok (.bipush 10, 2) := by decide +kernel
theorem dX10_top_52 : decode cX10_top 52 = .ok (.ireturn, 1) := by decide +kernel
set_option maxRecDepth 20000 in
theorem ggX10_rule_X10_in : GoodIn wsX10_rule wsX10_in := goodIn_r _ [5] (by decide +kernel) (by decide +kernel)
set_option maxRecDepth 20000 in
theorem gX10_rule_X10_in : GoodIn wsX10_rule (va_wsS RX10 96 yX10_in wsX10_in) := goodIn_app (goodIn_of _ (by decide +kernel)) ggX10_rule_X10_in
set_option maxRecDepth 20000 in
theorem ggX10_rule_X10_top : GoodIn wsX10_rule wsX10_top := goodIn_r _ [8] (by decide +kernel) (by decide +kernel)
set_option maxRecDepth 20000 in
theorem gX10_rule_X10_top : GoodIn wsX10_rule (va_wsS RX10 110 yX10_top wsX10_top) := goodIn_app (goodIn_of _ (by decide +kernel)) ggX10_rule_X10_top
theorem dX10_rule_0 : decode cX10_rule 0 = .ok (.iload_n 1, 1) := by decide +kernel
theorem dX10_rule_1 : decode cX10_rule 1 = .ok (.iconst 0, 1) := by decide +kernel
theorem dX10_rule_2 : decode cX10_rule 2 = .ok (.bipush 6, 2) := by decide +kernel
theorem dX10_rule_4 : decode cX10_rule 4 = .ok (.invokestatic 96, 3) := by decide +kernel
theorem dX10_rule_7 : decode cX10_rule 7 = .ok (.ifCond .eq 15, 3) := by decide +kernel
theorem dX10_rule_10 : decode cX10_rule 10 = .ok (.iload_n 2, 1) := by decide +kernel
theorem dX10_rule_11 : decode cX10_rule 11 = .ok (.iconst 0, 1) := by decide +kernel
theorem dX10_rule_12 : decode cX10_rule 12 = .ok (.iload_n 1, 1) := by decide +kernel
theorem dX10_rule_13 : decode cX10_rule 13 = .ok (.invokestatic 110, 3) := by decide +kernel
theorem dX10_rule_16 : decode cX10_rule 16 = .ok (.invokestatic 96, 3) := by decide +kernel
theorem dX10_rule_19 : decode cX10_rule 19 = .ok (.ifCond .ne 5, 3) := by decide +kernel
theorem dX10_rule_22 : decode cX10_rule 22 = .ok (.iconst (-1), 1) := by decide +kernel
theorem dX10_rule_23 : decode cX10_rule 23 = .ok (.ireturn, 1) := by decide +kernel
theorem dX10_rule_24 : decode cX10_rule 24 = .ok (.aload_n 0, 1) := by decide +kernel
theorem dX10_rule_25 : decode cX10_rule 25 = .ok (.getfield 29, 3) := by decide +kernel
theorem dX10_rule_28 : decode cX10_rule 28 = .ok (.iload_n 1, 1) := by decide +kernel
theorem dX10_rule_29 : decode cX10_rule 29 = .ok (.iaload, 1) := by decide +kernel
theorem dX10_rule_30 : decode cX10_rule 30 = .ok (.istore_n 3, 1) := by decide +kernel
theorem dX10_rule_31 : decode cX10_rule 31 = .ok (.aload_n 0, 1) := by decide +kernel
theorem dX10_rule_32 : decode cX10_rule 32 = .ok (.getfield 29, 3) := by decide +kernel
theorem dX10_rule_35 : decode cX10_rule 35 = .ok (.iload_n 1, 1) := by decide +kernel
theorem dX10_rule_36 : decode cX10_rule 36 = .ok (.iload_n 2, 1) := by decide +kernel
theorem dX10_rule_37 : decode cX10_rule 37 = .ok (.iastore, 1) := by decide +kernel
theorem dX10_rule_38 : decode cX10_rule 38 = .ok (.iload_n 3, 1) := by decide +kernel
theorem dX10_rule_39 : decode cX10_rule 39 = .ok (.ireturn, 1) := by decide +kernel
theorem dX10_keeps_0 : decode cX10_keeps 0 = .ok (.aload_n 0, 1) := by decide +kernel
theorem dX10_keeps_1 : decode cX10_keeps 1 = .ok (.getfield 114, 3) := by decide +kernel
theorem dX10_keeps_4 : decode cX10_keeps 4 = .ok (.bipush 40, 2) := by decide +kernel
theorem dX10_keeps_6 : decode cX10_keeps 6 = .ok (.if_icmp .ne 48, 3) := by decide +kernel
theorem dX10_keeps_9 : decode cX10_keeps 9 = .ok (.bipush 6, 2) := by decide +kernel
theorem dX10_keeps_11 : decode cX10_keeps 11 = .ok (.istore 7, 2) := by decide +kernel
theorem dX10_keeps_13 : decode cX10_keeps 13 = .ok (.iload 7, 2) := by decide +kernel
theorem dX10_keeps_15 : decode cX10_keeps 15 = .ok (.sipush 240, 3) := by decide +kernel
theorem dX10_keeps_18 : decode cX10_keeps 18 = .ok (.if_icmp .ge 26, 3) := by decide +kernel
theorem dX10_keeps_21 : decode cX10_keeps 21 = .ok (.aload_n 0, 1) := by decide +kernel
theorem dX10_keeps_22 : decode cX10_keeps 22 = .ok (.getfield 59, 3) := by decide +kernel
theorem dX10_keeps_25 : decode cX10_keeps 25 = .ok (.iload 7, 2) := by decide +kernel
theorem dX10_keeps_27 : decode cX10_keeps 27 = .ok (.bipush 6, 2) := by decide +kernel
theorem dX10_keeps_29 : decode cX10_keeps 29 = .ok (.isub, 1) := by decide +kernel
theorem dX10_keeps_30 : decode cX10_keeps 30 = .ok (.aload_n 0, 1) := by decide +kernel
theorem dX10_keeps_31 : decode cX10_keeps 31 = .ok (.getfield 59, 3) := by decide +kernel
theorem dX10_keeps_34 : decode cX10_keeps 34 = .ok (.iload 7, 2) := by decide +kernel
theorem dX10_keeps_36 : decode cX10_keeps 36 = .ok (.iaload, 1) := by decide +kernel
theorem dX10_keeps_37 : decode cX10_keeps 37 = .ok (.iastore, 1) := by decide +kernel
theorem dX10_keeps_38 : decode cX10_keeps 38 = .ok (.iinc 7 1, 3) := by decide +kernel
theorem dX10_keeps_41 : decode cX10_keeps 41 = .ok (.goto (-28), 3) := by decide +kernel
theorem dX10_keeps_44 : decode cX10_keeps 44 = .ok (.aload_n 0, 1) := by decide +kernel
theorem dX10_keeps_45 : decode cX10_keeps 45 = .ok (.dup, 1) := by decide +kernel
theorem dX10_keeps_46 : decode cX10_keeps 46 = .ok (.getfield 114, 3) := by decide +kernel
theorem dX10_keeps_49 : decode cX10_keeps 49 = .ok (.iconst 1, 1) := by decide +kernel
theorem dX10_keeps_50 : decode cX10_keeps 50 = .ok (.isub, 1) := by decide +kernel
theorem dX10_keeps_51 : decode cX10_keeps 51 = .ok (.putfield 114, 3) := by decide +kernel
theorem dX10_keeps_54 : decode cX10_keeps 54 = .ok (.bipush 6, 2) := by decide +kernel
theorem dX10_keeps_56 : decode cX10_keeps 56 = .ok (.aload_n 0, 1) := by decide +kernel
theorem dX10_keeps_57 : decode cX10_keeps 57 = .ok (.getfield 114, 3) := by decide +kernel
theorem dX10_keeps_60 : decode cX10_keeps 60 = .ok (.imul, 1) := by decide +kernel
theorem dX10_keeps_61 : decode cX10_keeps 61 = .ok (.istore 7, 2) := by decide +kernel
theorem dX10_keeps_63 : decode cX10_keeps 63 = .ok (.aload_n 0, 1) := by decide +kernel
theorem dX10_keeps_64 : decode cX10_keeps 64 = .ok (.getfield 59, 3) := by decide +kernel
theorem dX10_keeps_67 : decode cX10_keeps 67 = .ok (.iload 7, 2) := by decide +kernel
theorem dX10_keeps_69 : decode cX10_keeps 69 = .ok (.iload_n 1, 1) := by decide +kernel
theorem dX10_keeps_70 : decode cX10_keeps 70 = .ok (.iastore, 1) := by decide +kernel
theorem dX10_keeps_71 : decode cX10_keeps 71 = .ok (.aload_n 0, 1) := by decide +kernel
theorem dX10_keeps_72 : decode cX10_keeps 72 = .ok (.getfield 59, 3) := by decide +kernel
theorem dX10_keeps_75 : decode cX10_keeps 75 = .ok (.iload 7, 2) := by decide +kernel
theorem dX10_keeps_77 : decode cX10_keeps 77 = .ok (.iconst 1, 1) := by decide +kernel
theorem dX10_keeps_78 : decode cX10_keeps 78 = .ok (.iadd, 1) := by decide +kernel
theorem dX10_keeps_79 : decode cX10_keeps 79 = .ok (.iload_n 2, 1) := by decide +kernel
theorem dX10_keeps_80 : decode cX10_keeps 80 = .ok (.iastore, 1) := by decide +kernel
theorem dX10_keeps_81 : decode cX10_keeps 81 = .ok (.aload_n 0, 1) := by decide +kernel
theorem dX10_keeps_82 : decode cX10_keeps 82 = .ok (.getfield 59, 3) := by decide +kernel
theorem dX10_keeps_85 : decode cX10_keeps 85 = .ok (.iload 7, 2) := by decide +kernel
theorem dX10_keeps_87 : decode cX10_keeps 87 = .ok (.iconst 2, 1) := by decide +kernel
theorem dX10_keeps_88 : decode cX10_keeps 88 = .ok (.iadd, 1) := by decide +kernel
theorem dX10_keeps_89 : decode cX10_keeps 89 = .ok (.iload_n 3, 1) := by decide +kernel
theorem dX10_keeps_90 : decode cX10_keeps 90 = .ok (.iastore, 1) := by decide +kernel
theorem dX10_keeps_91 : decode cX10_keeps 91 = .ok (.aload_n 0, 1) := by decide +kernel
theorem dX10_keeps_92 : decode cX10_keeps 92 = .ok (.getfield 59, 3) := by decide +kernel
theorem dX10_keeps_95 : decode cX10_keeps 95 = .ok (.iload 7, 2) := by decide +kernel
theorem dX10_keeps_97 : decode cX10_keeps 97 = .ok (.iconst 3, 1) := by decide +kernel
theorem dX10_keeps_98 : decode cX10_keeps 98 = .ok (.iadd, 1) := by decide +kernel
theorem dX10_keeps_99 : decode cX10_keeps 99 = .ok (.iload 4, 2) := by decide +kernel
theorem dX10_keeps_101 : decode cX10_keeps 101 = .ok (.iastore, 1) := by decide +kernel
theorem dX10_keeps_102 : decode cX10_keeps 102 = .ok (.aload_n 0, 1) := by decide +kernel
theorem dX10_keeps_103 : decode cX10_keeps 103 = .ok (.getfield 59, 3) := by decide +kernel
theorem dX10_keeps_106 : decode cX10_keeps 106 = .ok (.iload 7, 2) := by decide +kernel
theorem dX10_keeps_108 : decode cX10_keeps 108 = .ok (.iconst 4, 1) := by decide +kernel
theorem dX10_keeps_109 : decode cX10_keeps 109 = .ok (.iadd, 1) := by decide +kernel
theorem dX10_keeps_110 : decode cX10_keeps 110 = .ok (.iload 5, 2) := by decide +kernel
theorem dX10_keeps_112 : decode cX10_keeps 112 = .ok (.iastore, 1) := by decide +kernel
theorem dX10_keeps_113 : decode cX10_keeps 113 = .ok (.aload_n 0, 1) := by decide +kernel
theorem dX10_keeps_114 : decode cX10_keeps 114 = .ok (.getfield 59, 3) := by decide +kernel
theorem dX10_keeps_117 : decode cX10_keeps 117 = .ok (.iload 7, 2) := by decide +kernel
theorem dX10_keeps_119 : decode cX10_keeps 119 = .ok (.iconst 5, 1) := by decide +kernel
theorem dX10_keeps_120 : decode cX10_keeps 120 = .ok (.iadd, 1) := by decide +kernel
theorem dX10_keeps_121 : decode cX10_keeps 121 = .ok (.iload 6, 2) := by decide +kernel
theorem dX10_keeps_123 : decode cX10_keeps 123 = .ok (.iastore, 1) := by decide +kernel
theorem dX10_keeps_124 : decode cX10_keeps 124 = .ok (.aload_n 0, 1) := by decide +kernel
theorem dX10_keeps_125 : decode cX10_keeps 125 = .ok (.dup, 1) := by decide +kernel
theorem dX10_keeps_126 : decode cX10_keeps 126 = .ok (.getfield 114, 3) := by decide +kernel
theorem dX10_keeps_129 : decode cX10_keeps 129 = .ok (.iconst 1, 1) := by decide +kernel
theorem dX10_keeps_130 : decode cX10_keeps 130 = .ok (.iadd, 1) := by decide +kernel
theorem dX10_keeps_131 : decode cX10_keeps 131 = .ok (.putfield 114, 3) := by decide +kernel
theorem dX10_keeps_134 : decode cX10_keeps 134 = .ok (.return_, 1) := by decide +kernel
theorem dX10_at_0 : decode cX10_at 0 = .ok (.bipush 20, 2) := by decide +kernel
theorem dX10_at_2 : decode cX10_at 2 = .ok (.iload_n 0, 1) := by decide +kernel
theorem dX10_at_3 : decode cX10_at 3 = .ok (.imul, 1) := by decide +kernel
theorem dX10_at_4 : decode cX10_at 4 = .ok (.bipush 10, 2) := by decide +kernel
theorem dX10_at_6 : decode cX10_at 6 = .ok (.iload_n 1, 1) := by decide +kernel
theorem dX10_at_7 : decode cX10_at 7 = .ok (.imul, 1) := by decide +kernel
theorem dX10_at_8 : decode cX10_at 8 = .ok (.iadd, 1) := by decide +kernel
theorem dX10_at_9 : decode cX10_at 9 = .ok (.iload_n 2, 1) := by decide +kernel
theorem dX10_at_10 : decode cX10_at 10 = .ok (.iadd, 1) := by decide +kernel
theorem dX10_at_11 : decode cX10_at 11 = .ok (.ireturn, 1) := by decide +kernel
theorem dX10_receives_0 : decode cX10_receives 0 = .ok (.aload_n 0, 1) := by decide +kernel
theorem dX10_receives_1 : decode cX10_receives 1 = .ok (.getfield 32, 3) := by decide +kernel
theorem dX10_receives_4 : decode cX10_receives 4 = .ok (.iload_n 1, 1) := by decide +kernel
theorem dX10_receives_5 : decode cX10_receives 5 = .ok (.dup2, 1) := by decide +kernel
theorem dX10_receives_6 : decode cX10_receives 6 = .ok (.iaload, 1) := by decide +kernel
theorem dX10_receives_7 : decode cX10_receives 7 = .ok (.iload_n 2, 1) := by decide +kernel
theorem dX10_receives_8 : decode cX10_receives 8 = .ok (.iadd, 1) := by decide +kernel
theorem dX10_receives_9 : decode cX10_receives 9 = .ok (.iastore, 1) := by decide +kernel
theorem dX10_receives_10 : decode cX10_receives 10 = .ok (.aload_n 0, 1) := by decide +kernel
theorem dX10_receives_11 : decode cX10_receives 11 = .ok (.getfield 53, 3) := by decide +kernel
theorem dX10_receives_14 : decode cX10_receives 14 = .ok (.iconst 5, 1) := by decide +kernel
theorem dX10_receives_15 : decode cX10_receives 15 = .ok (.iload_n 1, 1) := by decide +kernel
theorem dX10_receives_16 : decode cX10_receives 16 = .ok (.imul, 1) := by decide +kernel
theorem dX10_receives_17 : decode cX10_receives 17 = .ok (.iconst 4, 1) := by decide +kernel
theorem dX10_receives_18 : decode cX10_receives 18 = .ok (.iadd, 1) := by decide +kernel
theorem dX10_receives_19 : decode cX10_receives 19 = .ok (.dup2, 1) := by decide +kernel
theorem dX10_receives_20 : decode cX10_receives 20 = .ok (.iaload, 1) := by decide +kernel
theorem dX10_receives_21 : decode cX10_receives 21 = .ok (.iload_n 2, 1) := by decide +kernel
theorem dX10_receives_22 : decode cX10_receives 22 = .ok (.iadd, 1) := by decide +kernel
theorem dX10_receives_23 : decode cX10_receives 23 = .ok (.iastore, 1) := by decide +kernel
theorem dX10_receives_24 : decode cX10_receives 24 = .ok (.return_, 1) := by decide +kernel
theorem dX10_issues_0 : decode cX10_issues 0 = .ok (.aload_n 0, 1) := by decide +kernel
theorem dX10_issues_1 : decode cX10_issues 1 = .ok (.getfield 32, 3) := by decide +kernel
theorem dX10_issues_4 : decode cX10_issues 4 = .ok (.iload_n 2, 1) := by decide +kernel
theorem dX10_issues_5 : decode cX10_issues 5 = .ok (.dup2, 1) := by decide +kernel
theorem dX10_issues_6 : decode cX10_issues 6 = .ok (.iaload, 1) := by decide +kernel
theorem dX10_issues_7 : decode cX10_issues 7 = .ok (.iload_n 3, 1) := by decide +kernel
theorem dX10_issues_8 : decode cX10_issues 8 = .ok (.isub, 1) := by decide +kernel
theorem dX10_issues_9 : decode cX10_issues 9 = .ok (.iastore, 1) := by decide +kernel
theorem dX10_issues_10 : decode cX10_issues 10 = .ok (.aload_n 0, 1) := by decide +kernel
theorem dX10_issues_11 : decode cX10_issues 11 = .ok (.getfield 35, 3) := by decide +kernel
theorem dX10_issues_14 : decode cX10_issues 14 = .ok (.bipush 10, 2) := by decide +kernel
theorem dX10_issues_16 : decode cX10_issues 16 = .ok (.iload_n 1, 1) := by decide +kernel
theorem dX10_issues_17 : decode cX10_issues 17 = .ok (.imul, 1) := by decide +kernel
theorem dX10_issues_18 : decode cX10_issues 18 = .ok (.iload_n 2, 1) := by decide +kernel
theorem dX10_issues_19 : decode cX10_issues 19 = .ok (.iadd, 1) := by decide +kernel
theorem dX10_issues_20 : decode cX10_issues 20 = .ok (.dup2, 1) := by decide +kernel
theorem dX10_issues_21 : decode cX10_issues 21 = .ok (.iaload, 1) := by decide +kernel
theorem dX10_issues_22 : decode cX10_issues 22 = .ok (.iload_n 3, 1) := by decide +kernel
theorem dX10_issues_23 : decode cX10_issues 23 = .ok (.aload_n 0, 1) := by decide +kernel
theorem dX10_issues_24 : decode cX10_issues 24 = .ok (.getfield 13, 3) := by decide +kernel
theorem dX10_issues_27 : decode cX10_issues 27 = .ok (.iload_n 2, 1) := by decide +kernel
theorem dX10_issues_28 : decode cX10_issues 28 = .ok (.iaload, 1) := by decide +kernel
theorem dX10_issues_29 : decode cX10_issues 29 = .ok (.imul, 1) := by decide +kernel
theorem dX10_issues_30 : decode cX10_issues 30 = .ok (.iadd, 1) := by decide +kernel
theorem dX10_issues_31 : decode cX10_issues 31 = .ok (.iastore, 1) := by decide +kernel
theorem dX10_issues_32 : decode cX10_issues 32 = .ok (.return_, 1) := by decide +kernel
theorem dX10_lends_0 : decode cX10_lends 0 = .ok (.aload_n 0, 1) := by decide +kernel
theorem dX10_lends_1 : decode cX10_lends 1 = .ok (.getfield 35, 3) := by decide +kernel
theorem dX10_lends_4 : decode cX10_lends 4 = .ok (.bipush 10, 2) := by decide +kernel
theorem dX10_lends_6 : decode cX10_lends 6 = .ok (.iload_n 1, 1) := by decide +kernel
theorem dX10_lends_7 : decode cX10_lends 7 = .ok (.imul, 1) := by decide +kernel
theorem dX10_lends_8 : decode cX10_lends 8 = .ok (.iload_n 2, 1) := by decide +kernel
theorem dX10_lends_9 : decode cX10_lends 9 = .ok (.iadd, 1) := by decide +kernel
theorem dX10_lends_10 : decode cX10_lends 10 = .ok (.dup2, 1) := by decide +kernel
theorem dX10_lends_11 : decode cX10_lends 11 = .ok (.iaload, 1) := by decide +kernel
theorem dX10_lends_12 : decode cX10_lends 12 = .ok (.iload_n 3, 1) := by decide +kernel
theorem dX10_lends_13 : decode cX10_lends 13 = .ok (.isub, 1) := by decide +kernel
theorem dX10_lends_14 : decode cX10_lends 14 = .ok (.iastore, 1) := by decide +kernel
theorem dX10_lends_15 : decode cX10_lends 15 = .ok (.aload_n 0, 1) := by decide +kernel
theorem dX10_lends_16 : decode cX10_lends 16 = .ok (.getfield 35, 3) := by decide +kernel
theorem dX10_lends_19 : decode cX10_lends 19 = .ok (.bipush 10, 2) := by decide +kernel
theorem dX10_lends_21 : decode cX10_lends 21 = .ok (.iconst 1, 1) := by decide +kernel
theorem dX10_lends_22 : decode cX10_lends 22 = .ok (.iload_n 1, 1) := by decide +kernel
theorem dX10_lends_23 : decode cX10_lends 23 = .ok (.isub, 1) := by decide +kernel
theorem dX10_lends_24 : decode cX10_lends 24 = .ok (.imul, 1) := by decide +kernel
theorem dX10_lends_25 : decode cX10_lends 25 = .ok (.iload_n 2, 1) := by decide +kernel
theorem dX10_lends_26 : decode cX10_lends 26 = .ok (.iadd, 1) := by decide +kernel
theorem dX10_lends_27 : decode cX10_lends 27 = .ok (.dup2, 1) := by decide +kernel
theorem dX10_lends_28 : decode cX10_lends 28 = .ok (.iaload, 1) := by decide +kernel
theorem dX10_lends_29 : decode cX10_lends 29 = .ok (.iload_n 3, 1) := by decide +kernel
theorem dX10_lends_30 : decode cX10_lends 30 = .ok (.iadd, 1) := by decide +kernel
theorem dX10_lends_31 : decode cX10_lends 31 = .ok (.iastore, 1) := by decide +kernel
theorem dX10_lends_32 : decode cX10_lends 32 = .ok (.return_, 1) := by decide +kernel
set_option maxRecDepth 20000 in
theorem ggX10_sells_X10_at : GoodIn wsX10_sells wsX10_at := goodIn_r _ [11] (by decide +kernel) (by decide +kernel)
set_option maxRecDepth 20000 in
theorem gX10_sells_X10_at : GoodIn wsX10_sells (va_wsS RX10 120 yX10_at wsX10_at) := goodIn_app (goodIn_of _ (by decide +kernel)) ggX10_sells_X10_at
theorem dX10_sells_0 : decode cX10_sells 0 = .ok (.iconst 0, 1) := by decide +kernel
theorem dX10_sells_1 : decode cX10_sells 1 = .ok (.istore 5, 2) := by decide +kernel
theorem dX10_sells_3 : decode cX10_sells 3 = .ok (.iload 5, 2) := by decide +kernel
theorem dX10_sells_5 : decode cX10_sells 5 = .ok (.aload_n 0, 1) := by decide +kernel
theorem dX10_sells_6 : decode cX10_sells 6 = .ok (.getfield 92, 3) := by decide +kernel
theorem dX10_sells_9 : decode cX10_sells 9 = .ok (.if_icmp .ge 92, 3) := by decide +kernel
theorem dX10_sells_12 : decode cX10_sells 12 = .ok (.aload_n 0, 1) := by decide +kernel
theorem dX10_sells_13 : decode cX10_sells 13 = .ok (.getfield 22, 3) := by decide +kernel
theorem dX10_sells_16 : decode cX10_sells 16 = .ok (.bipush 10, 2) := by decide +kernel
theorem dX10_sells_18 : decode cX10_sells 18 = .ok (.iload_n 2, 1) := by decide +kernel
theorem dX10_sells_19 : decode cX10_sells 19 = .ok (.imul, 1) := by decide +kernel
theorem dX10_sells_20 : decode cX10_sells 20 = .ok (.iload 5, 2) := by decide +kernel
theorem dX10_sells_22 : decode cX10_sells 22 = .ok (.iadd, 1) := by decide +kernel
theorem dX10_sells_23 : decode cX10_sells 23 = .ok (.iaload, 1) := by decide +kernel
theorem dX10_sells_24 : decode cX10_sells 24 = .ok (.istore 6, 2) := by decide +kernel
theorem dX10_sells_26 : decode cX10_sells 26 = .ok (.aload_n 0, 1) := by decide +kernel
theorem dX10_sells_27 : decode cX10_sells 27 = .ok (.getfield 35, 3) := by decide +kernel
theorem dX10_sells_30 : decode cX10_sells 30 = .ok (.bipush 10, 2) := by decide +kernel
theorem dX10_sells_32 : decode cX10_sells 32 = .ok (.iload_n 1, 1) := by decide +kernel
theorem dX10_sells_33 : decode cX10_sells 33 = .ok (.imul, 1) := by decide +kernel
theorem dX10_sells_34 : decode cX10_sells 34 = .ok (.iload 5, 2) := by decide +kernel
theorem dX10_sells_36 : decode cX10_sells 36 = .ok (.iadd, 1) := by decide +kernel
theorem dX10_sells_37 : decode cX10_sells 37 = .ok (.dup2, 1) := by decide +kernel
theorem dX10_sells_38 : decode cX10_sells 38 = .ok (.iaload, 1) := by decide +kernel
theorem dX10_sells_39 : decode cX10_sells 39 = .ok (.bipush 6, 2) := by decide +kernel
theorem dX10_sells_41 : decode cX10_sells 41 = .ok (.iload 6, 2) := by decide +kernel
theorem dX10_sells_43 : decode cX10_sells 43 = .ok (.imul, 1) := by decide +kernel
theorem dX10_sells_44 : decode cX10_sells 44 = .ok (.iload_n 3, 1) := by decide +kernel
theorem dX10_sells_45 : decode cX10_sells 45 = .ok (.imul, 1) := by decide +kernel
theorem dX10_sells_46 : decode cX10_sells 46 = .ok (.isub, 1) := by decide +kernel
theorem dX10_sells_47 : decode cX10_sells 47 = .ok (.iastore, 1) := by decide +kernel
theorem dX10_sells_48 : decode cX10_sells 48 = .ok (.aload_n 0, 1) := by decide +kernel
theorem dX10_sells_49 : decode cX10_sells 49 = .ok (.getfield 53, 3) := by decide +kernel
theorem dX10_sells_52 : decode cX10_sells 52 = .ok (.iconst 5, 1) := by decide +kernel
theorem dX10_sells_53 : decode cX10_sells 53 = .ok (.iload 5, 2) := by decide +kernel
theorem dX10_sells_55 : decode cX10_sells 55 = .ok (.imul, 1) := by decide +kernel
theorem dX10_sells_56 : decode cX10_sells 56 = .ok (.dup2, 1) := by decide +kernel
theorem dX10_sells_57 : decode cX10_sells 57 = .ok (.iaload, 1) := by decide +kernel
theorem dX10_sells_58 : decode cX10_sells 58 = .ok (.bipush 6, 2) := by decide +kernel
theorem dX10_sells_60 : decode cX10_sells 60 = .ok (.iload 6, 2) := by decide +kernel
theorem dX10_sells_62 : decode cX10_sells 62 = .ok (.imul, 1) := by decide +kernel
theorem dX10_sells_63 : decode cX10_sells 63 = .ok (.iload_n 3, 1) := by decide +kernel
theorem dX10_sells_64 : decode cX10_sells 64 = .ok (.imul, 1) := by decide +kernel
theorem dX10_sells_65 : decode cX10_sells 65 = .ok (.iadd, 1) := by decide +kernel
theorem dX10_sells_66 : decode cX10_sells 66 = .ok (.iastore, 1) := by decide +kernel
theorem dX10_sells_67 : decode cX10_sells 67 = .ok (.aload_n 0, 1) := by decide +kernel
theorem dX10_sells_68 : decode cX10_sells 68 = .ok (.getfield 44, 3) := by decide +kernel
theorem dX10_sells_71 : decode cX10_sells 71 = .ok (.aload_n 0, 1) := by decide +kernel
theorem dX10_sells_72 : decode cX10_sells 72 = .ok (.getfield 117, 3) := by decide +kernel
theorem dX10_sells_75 : decode cX10_sells 75 = .ok (.iload_n 1, 1) := by decide +kernel
theorem dX10_sells_76 : decode cX10_sells 76 = .ok (.iload 5, 2) := by decide +kernel
theorem dX10_sells_78 : decode cX10_sells 78 = .ok (.invokestatic 120, 3) := by decide +kernel
theorem dX10_sells_81 : decode cX10_sells 81 = .ok (.dup2, 1) := by decide +kernel
theorem dX10_sells_82 : decode cX10_sells 82 = .ok (.iaload, 1) := by decide +kernel
theorem dX10_sells_83 : decode cX10_sells 83 = .ok (.iload 6, 2) := by decide +kernel
theorem dX10_sells_85 : decode cX10_sells 85 = .ok (.ifCond .le 7, 3) := by decide +kernel
theorem dX10_sells_88 : decode cX10_sells 88 = .ok (.iload_n 3, 1) := by decide +kernel
theorem dX10_sells_89 : decode cX10_sells 89 = .ok (.goto 4, 3) := by decide +kernel
theorem dX10_sells_92 : decode cX10_sells 92 = .ok (.iconst 0, 1) := by decide +kernel
theorem dX10_sells_93 : decode cX10_sells 93 = .ok (.iadd, 1) := by decide +kernel
theorem dX10_sells_94 : decode cX10_sells 94 = .ok (.iastore, 1) := by decide +kernel
theorem dX10_sells_95 : decode cX10_sells 95 = .ok (.iinc 5 1, 3) := by decide +kernel
theorem dX10_sells_98 : decode cX10_sells 98 = .ok (.goto (-95), 3) := by decide +kernel
theorem dX10_sells_101 : decode cX10_sells 101 = .ok (.aload_n 0, 1) := by decide +kernel
theorem dX10_sells_102 : decode cX10_sells 102 = .ok (.getfield 56, 3) := by decide +kernel
theorem dX10_sells_105 : decode cX10_sells 105 = .ok (.iload_n 1, 1) := by decide +kernel
theorem dX10_sells_106 : decode cX10_sells 106 = .ok (.dup2, 1) := by decide +kernel
theorem dX10_sells_107 : decode cX10_sells 107 = .ok (.iaload, 1) := by decide +kernel
theorem dX10_sells_108 : decode cX10_sells 108 = .ok (.iload 4, 2) := by decide +kernel
theorem dX10_sells_110 : decode cX10_sells 110 = .ok (.iadd, 1) := by decide +kernel
theorem dX10_sells_111 : decode cX10_sells 111 = .ok (.iastore, 1) := by decide +kernel
theorem dX10_sells_112 : decode cX10_sells 112 = .ok (.return_, 1) := by decide +kernel
theorem dX10_loses_0 : decode cX10_loses 0 = .ok (.aload_n 0, 1) := by decide +kernel
theorem dX10_loses_1 : decode cX10_loses 1 = .ok (.getfield 35, 3) := by decide +kernel
theorem dX10_loses_4 : decode cX10_loses 4 = .ok (.bipush 10, 2) := by decide +kernel
theorem dX10_loses_6 : decode cX10_loses 6 = .ok (.iload_n 1, 1) := by decide +kernel
theorem dX10_loses_7 : decode cX10_loses 7 = .ok (.imul, 1) := by decide +kernel
theorem dX10_loses_8 : decode cX10_loses 8 = .ok (.iload_n 2, 1) := by decide +kernel
theorem dX10_loses_9 : decode cX10_loses 9 = .ok (.iadd, 1) := by decide +kernel
theorem dX10_loses_10 : decode cX10_loses 10 = .ok (.dup2, 1) := by decide +kernel
theorem dX10_loses_11 : decode cX10_loses 11 = .ok (.iaload, 1) := by decide +kernel
theorem dX10_loses_12 : decode cX10_loses 12 = .ok (.iload 4, 2) := by decide +kernel
theorem dX10_loses_14 : decode cX10_loses 14 = .ok (.isub, 1) := by decide +kernel
theorem dX10_loses_15 : decode cX10_loses 15 = .ok (.iastore, 1) := by decide +kernel
theorem dX10_loses_16 : decode cX10_loses 16 = .ok (.aload_n 0, 1) := by decide +kernel
theorem dX10_loses_17 : decode cX10_loses 17 = .ok (.getfield 53, 3) := by decide +kernel
theorem dX10_loses_20 : decode cX10_loses 20 = .ok (.iconst 5, 1) := by decide +kernel
theorem dX10_loses_21 : decode cX10_loses 21 = .ok (.iload_n 2, 1) := by decide +kernel
theorem dX10_loses_22 : decode cX10_loses 22 = .ok (.imul, 1) := by decide +kernel
theorem dX10_loses_23 : decode cX10_loses 23 = .ok (.iconst 1, 1) := by decide +kernel
theorem dX10_loses_24 : decode cX10_loses 24 = .ok (.iadd, 1) := by decide +kernel
theorem dX10_loses_25 : decode cX10_loses 25 = .ok (.iload_n 3, 1) := by decide +kernel
theorem dX10_loses_26 : decode cX10_loses 26 = .ok (.iadd, 1) := by decide +kernel
theorem dX10_loses_27 : decode cX10_loses 27 = .ok (.dup2, 1) := by decide +kernel
theorem dX10_loses_28 : decode cX10_loses 28 = .ok (.iaload, 1) := by decide +kernel
theorem dX10_loses_29 : decode cX10_loses 29 = .ok (.iload 4, 2) := by decide +kernel
theorem dX10_loses_31 : decode cX10_loses 31 = .ok (.iadd, 1) := by decide +kernel
theorem dX10_loses_32 : decode cX10_loses 32 = .ok (.iastore, 1) := by decide +kernel
theorem dX10_loses_33 : decode cX10_loses 33 = .ok (.return_, 1) := by decide +kernel
set_option maxRecDepth 20000 in
theorem ggX10_receive_X10_isKind : GoodIn wsX10_receive wsX10_isKind := goodIn_r _ [6, 7, 8, 9, 5, 10, 22, 23, 24, 25, 26, 27, 28, 29, 30, 31, 32, 33, 34, 35, 36, 37, 38, 39, 40, 41, 42, 43, 44, 45, 46, 47, 48, 49, 50, 51, 52, 53, 54, 55] (by decide +kernel) (by decide +kernel)
set_option maxRecDepth 20000 in
theorem gX10_receive_X10_isKind : GoodIn wsX10_receive (wsV RX10 107 RX10 yX10_isKind wsX10_isKind) := goodIn_app (goodIn_of _ (by decide +kernel)) ggX10_receive_X10_isKind
set_option maxRecDepth 20000 in
theorem ggX10_receive_X10_in : GoodIn wsX10_receive wsX10_in := goodIn_r _ [10] (by decide +kernel) (by decide +kernel)
set_option maxRecDepth 20000 in
theorem gX10_receive_X10_in : GoodIn wsX10_receive (va_wsS RX10 96 yX10_in wsX10_in) := goodIn_app (goodIn_of _ (by decide +kernel)) ggX10_receive_X10_in
set_option maxRecDepth 20000 in
theorem ggX10_receive_X10_receives : GoodIn wsX10_receive wsX10_receives := goodIn_r _ [14, 1, 15, 22, 23, 24, 25, 26, 27, 28, 29, 30, 31, 32, 33, 34, 35, 36, 37, 38, 39, 40, 41, 42, 43, 44, 45, 46, 47, 48, 49, 50, 51, 52, 53, 54, 55] (by decide +kernel) (by decide +kernel)
set_option maxRecDepth 20000 in
theorem gX10_receive_X10_receives : GoodIn wsX10_receive (wsV RX10 124 RX10 yX10_receives wsX10_receives) := goodIn_app (goodIn_of _ (by decide +kernel)) ggX10_receive_X10_receives
set_option maxRecDepth 20000 in
theorem ggX10_receive_X10_keeps : GoodIn wsX10_receive wsX10_keeps := goodIn_r _ [19, 20, 21, 22, 23, 24, 25, 26, 27, 28, 29, 30, 31, 32, 33, 34, 35, 36, 37, 38, 39, 40, 41, 42, 43, 44, 45, 46, 47, 48, 49, 50, 51, 52, 53, 54, 55] (by decide +kernel) (by decide +kernel)
set_option maxRecDepth 20000 in
theorem gX10_receive_X10_keeps : GoodIn wsX10_receive (wsV RX10 128 RX10 yX10_keeps wsX10_keeps) := goodIn_app (goodIn_of _ (by decide +kernel)) ggX10_receive_X10_keeps
theorem dX10_receive_0 : decode cX10_receive 0 = .ok (.aload_n 0, 1) := by decide +kernel
theorem dX10_receive_1 : decode cX10_receive 1 = .ok (.iload_n 1, 1) := by decide +kernel
theorem dX10_receive_2 : decode cX10_receive 2 = .ok (.invokevirtual 107, 3) := by decide +kernel
theorem dX10_receive_5 : decode cX10_receive 5 = .ok (.ifCond .eq 13, 3) := by decide +kernel
theorem dX10_receive_8 : decode cX10_receive 8 = .ok (.iload_n 2, 1) := by decide +kernel
theorem dX10_receive_9 : decode cX10_receive 9 = .ok (.iconst 1, 1) := by decide +kernel
theorem dX10_receive_10 : decode cX10_receive 10 = .ok (.bipush 100, 2) := by decide +kernel
theorem dX10_receive_12 : decode cX10_receive 12 = .ok (.invokestatic 96, 3) := by decide +kernel
theorem dX10_receive_15 : decode cX10_receive 15 = .ok (.ifCond .ne 5, 3) := by decide +kernel
theorem dX10_receive_18 : decode cX10_receive 18 = .ok (.iconst (-1), 1) := by decide +kernel
theorem dX10_receive_19 : decode cX10_receive 19 = .ok (.ireturn, 1) := by decide +kernel
theorem dX10_receive_20 : decode cX10_receive 20 = .ok (.aload_n 0, 1) := by decide +kernel
theorem dX10_receive_21 : decode cX10_receive 21 = .ok (.getfield 32, 3) := by decide +kernel
theorem dX10_receive_24 : decode cX10_receive 24 = .ok (.iload_n 1, 1) := by decide +kernel
theorem dX10_receive_25 : decode cX10_receive 25 = .ok (.iaload, 1) := by decide +kernel
theorem dX10_receive_26 : decode cX10_receive 26 = .ok (.iload_n 2, 1) := by decide +kernel
theorem dX10_receive_27 : decode cX10_receive 27 = .ok (.iadd, 1) := by decide +kernel
theorem dX10_receive_28 : decode cX10_receive 28 = .ok (.sipush 1000, 3) := by decide +kernel
theorem dX10_receive_31 : decode cX10_receive 31 = .ok (.if_icmp .le 6, 3) := by decide +kernel
theorem dX10_receive_34 : decode cX10_receive 34 = .ok (.bipush (-3), 2) := by decide +kernel
theorem dX10_receive_36 : decode cX10_receive 36 = .ok (.ireturn, 1) := by decide +kernel
theorem dX10_receive_37 : decode cX10_receive 37 = .ok (.aload_n 0, 1) := by decide +kernel
theorem dX10_receive_38 : decode cX10_receive 38 = .ok (.iload_n 1, 1) := by decide +kernel
theorem dX10_receive_39 : decode cX10_receive 39 = .ok (.iload_n 2, 1) := by decide +kernel
theorem dX10_receive_40 : decode cX10_receive 40 = .ok (.invokevirtual 124, 3) := by decide +kernel
theorem dX10_receive_43 : decode cX10_receive 43 = .ok (.aload_n 0, 1) := by decide +kernel
theorem dX10_receive_44 : decode cX10_receive 44 = .ok (.iconst 0, 1) := by decide +kernel
theorem dX10_receive_45 : decode cX10_receive 45 = .ok (.iconst 0, 1) := by decide +kernel
theorem dX10_receive_46 : decode cX10_receive 46 = .ok (.iload_n 1, 1) := by decide +kernel
theorem dX10_receive_47 : decode cX10_receive 47 = .ok (.iload_n 2, 1) := by decide +kernel
theorem dX10_receive_48 : decode cX10_receive 48 = .ok (.iconst 0, 1) := by decide +kernel
theorem dX10_receive_49 : decode cX10_receive 49 = .ok (.iconst 0, 1) := by decide +kernel
theorem dX10_receive_50 : decode cX10_receive 50 = .ok (.invokevirtual 128, 3) := by decide +kernel
theorem dX10_receive_53 : decode cX10_receive 53 = .ok (.aload_n 0, 1) := by decide +kernel
theorem dX10_receive_54 : decode cX10_receive 54 = .ok (.getfield 32, 3) := by decide +kernel
theorem dX10_receive_57 : decode cX10_receive 57 = .ok (.iload_n 1, 1) := by decide +kernel
theorem dX10_receive_58 : decode cX10_receive 58 = .ok (.iaload, 1) := by decide +kernel
theorem dX10_receive_59 : decode cX10_receive 59 = .ok (.ireturn, 1) := by decide +kernel
set_option maxRecDepth 20000 in
theorem ggX10_issue_X10_isBar : GoodIn wsX10_issue wsX10_isBar := goodIn_r _ [8, 9, 10, 7, 11] (by decide +kernel) (by decide +kernel)
set_option maxRecDepth 20000 in
theorem gX10_issue_X10_isBar : GoodIn wsX10_issue (va_wsS RX10 132 yX10_isBar wsX10_isBar) := goodIn_app (goodIn_of _ (by decide +kernel)) ggX10_issue_X10_isBar
set_option maxRecDepth 20000 in
theorem ggX10_issue_X10_isKind : GoodIn wsX10_issue wsX10_isKind := goodIn_r _ [15, 16, 9, 10, 7, 11, 28, 29, 30, 31, 32, 33, 34, 35, 36, 37, 38, 39, 40, 41, 42, 43, 44, 45, 46, 47, 48, 49, 50, 51, 52, 53, 54, 55, 56, 57, 58, 59, 60, 61] (by decide +kernel) (by decide +kernel)
set_option maxRecDepth 20000 in
theorem gX10_issue_X10_isKind : GoodIn wsX10_issue (wsV RX10 107 RX10 yX10_isKind wsX10_isKind) := goodIn_app (goodIn_of _ (by decide +kernel)) ggX10_issue_X10_isKind
set_option maxRecDepth 20000 in
theorem ggX10_issue_X10_in : GoodIn wsX10_issue wsX10_in := goodIn_r _ [11] (by decide +kernel) (by decide +kernel)
set_option maxRecDepth 20000 in
theorem gX10_issue_X10_in : GoodIn wsX10_issue (va_wsS RX10 96 yX10_in wsX10_in) := goodIn_app (goodIn_of _ (by decide +kernel)) ggX10_issue_X10_in
set_option maxRecDepth 20000 in
theorem ggX10_issue_X10_issues : GoodIn wsX10_issue wsX10_issues := goodIn_r _ [20, 2, 4, 21, 28, 29, 30, 31, 32, 33, 34, 35, 36, 37, 38, 39, 40, 41, 42, 43, 44, 45, 46, 47, 48, 49, 50, 51, 52, 53, 54, 55, 56, 57, 58, 59, 60, 61] (by decide +kernel) (by decide +kernel)
set_option maxRecDepth 20000 in
theorem gX10_issue_X10_issues : GoodIn wsX10_issue (wsV RX10 137 RX10 yX10_issues wsX10_issues) := goodIn_app (goodIn_of _ (by decide +kernel)) ggX10_issue_X10_issues
set_option maxRecDepth 20000 in
theorem ggX10_issue_X10_keeps : GoodIn wsX10_issue wsX10_keeps := goodIn_r _ [25, 26, 27, 28, 29, 30, 31, 32, 33, 34, 35, 36, 37, 38, 39, 40, 41, 42, 43, 44, 45, 46, 47, 48, 49, 50, 51, 52, 53, 54, 55, 56, 57, 58, 59, 60, 61] (by decide +kernel) (by decide +kernel)
set_option maxRecDepth 20000 in
theorem gX10_issue_X10_keeps : GoodIn wsX10_issue (wsV RX10 128 RX10 yX10_keeps wsX10_keeps) := goodIn_app (goodIn_of _ (by decide +kernel)) ggX10_issue_X10_keeps
theorem dX10_issue_0 : decode cX10_issue 0 = .ok (.iload_n 1, 1) := by decide +kernel
theorem dX10_issue_1 : decode cX10_issue 1 = .ok (.invokestatic 132, 3) := by decide +kernel
theorem dX10_issue_4 : decode cX10_issue 4 = .ok (.ifCond .eq 21, 3) := by decide +kernel
theorem dX10_issue_7 : decode cX10_issue 7 = .ok (.aload_n 0, 1) := by decide +kernel
theorem dX10_issue_8 : decode cX10_issue 8 = .ok (.iload_n 2, 1) := by decide +kernel
theorem dX10_issue_9 : decode cX10_issue 9 = .ok (.invokevirtual 107, 3) := by decide +kernel
theorem dX10_issue_12 : decode cX10_issue 12 = .ok (.ifCond .eq 13, 3) := by decide +kernel
theorem dX10_issue_15 : decode cX10_issue 15 = .ok (.iload_n 3, 1) := by decide +kernel
theorem dX10_issue_16 : decode cX10_issue 16 = .ok (.iconst 1, 1) := by decide +kernel
theorem dX10_issue_17 : decode cX10_issue 17 = .ok (.bipush 100, 2) := by decide +kernel
theorem dX10_issue_19 : decode cX10_issue 19 = .ok (.invokestatic 96, 3) := by decide +kernel
theorem dX10_issue_22 : decode cX10_issue 22 = .ok (.ifCond .ne 6, 3) := by decide +kernel
theorem dX10_issue_25 : decode cX10_issue 25 = .ok (.ldc 135, 2) := by decide +kernel
theorem dX10_issue_27 : decode cX10_issue 27 = .ok (.ireturn, 1) := by decide +kernel
theorem dX10_issue_28 : decode cX10_issue 28 = .ok (.aload_n 0, 1) := by decide +kernel
theorem dX10_issue_29 : decode cX10_issue 29 = .ok (.getfield 32, 3) := by decide +kernel
theorem dX10_issue_32 : decode cX10_issue 32 = .ok (.iload_n 2, 1) := by decide +kernel
theorem dX10_issue_33 : decode cX10_issue 33 = .ok (.iaload, 1) := by decide +kernel
theorem dX10_issue_34 : decode cX10_issue 34 = .ok (.iload_n 3, 1) := by decide +kernel
theorem dX10_issue_35 : decode cX10_issue 35 = .ok (.if_icmp .ge 6, 3) := by decide +kernel
theorem dX10_issue_38 : decode cX10_issue 38 = .ok (.ldc 136, 2) := by decide +kernel
theorem dX10_issue_40 : decode cX10_issue 40 = .ok (.ireturn, 1) := by decide +kernel
theorem dX10_issue_41 : decode cX10_issue 41 = .ok (.aload_n 0, 1) := by decide +kernel
theorem dX10_issue_42 : decode cX10_issue 42 = .ok (.iload_n 1, 1) := by decide +kernel
theorem dX10_issue_43 : decode cX10_issue 43 = .ok (.iload_n 2, 1) := by decide +kernel
theorem dX10_issue_44 : decode cX10_issue 44 = .ok (.iload_n 3, 1) := by decide +kernel
theorem dX10_issue_45 : decode cX10_issue 45 = .ok (.invokevirtual 137, 3) := by decide +kernel
theorem dX10_issue_48 : decode cX10_issue 48 = .ok (.aload_n 0, 1) := by decide +kernel
theorem dX10_issue_49 : decode cX10_issue 49 = .ok (.iconst 1, 1) := by decide +kernel
theorem dX10_issue_50 : decode cX10_issue 50 = .ok (.iload_n 1, 1) := by decide +kernel
theorem dX10_issue_51 : decode cX10_issue 51 = .ok (.iload_n 2, 1) := by decide +kernel
theorem dX10_issue_52 : decode cX10_issue 52 = .ok (.iload_n 3, 1) := by decide +kernel
theorem dX10_issue_53 : decode cX10_issue 53 = .ok (.iconst 0, 1) := by decide +kernel
theorem dX10_issue_54 : decode cX10_issue 54 = .ok (.iconst 0, 1) := by decide +kernel
theorem dX10_issue_55 : decode cX10_issue 55 = .ok (.invokevirtual 128, 3) := by decide +kernel
theorem dX10_issue_58 : decode cX10_issue 58 = .ok (.aload_n 0, 1) := by decide +kernel
theorem dX10_issue_59 : decode cX10_issue 59 = .ok (.getfield 35, 3) := by decide +kernel
theorem dX10_issue_62 : decode cX10_issue 62 = .ok (.bipush 10, 2) := by decide +kernel
theorem dX10_issue_64 : decode cX10_issue 64 = .ok (.iload_n 1, 1) := by decide +kernel
theorem dX10_issue_65 : decode cX10_issue 65 = .ok (.imul, 1) := by decide +kernel
theorem dX10_issue_66 : decode cX10_issue 66 = .ok (.iload_n 2, 1) := by decide +kernel
theorem dX10_issue_67 : decode cX10_issue 67 = .ok (.iadd, 1) := by decide +kernel
theorem dX10_issue_68 : decode cX10_issue 68 = .ok (.iaload, 1) := by decide +kernel
theorem dX10_issue_69 : decode cX10_issue 69 = .ok (.ireturn, 1) := by decide +kernel
set_option maxRecDepth 20000 in
theorem ggX10_lend_X10_isBar : GoodIn wsX10_lend wsX10_isBar := goodIn_r _ [7, 8, 9, 6, 10] (by decide +kernel) (by decide +kernel)
set_option maxRecDepth 20000 in
theorem gX10_lend_X10_isBar : GoodIn wsX10_lend (va_wsS RX10 132 yX10_isBar wsX10_isBar) := goodIn_app (goodIn_of _ (by decide +kernel)) ggX10_lend_X10_isBar
set_option maxRecDepth 20000 in
theorem ggX10_lend_X10_isKind : GoodIn wsX10_lend wsX10_isKind := goodIn_r _ [14, 15, 8, 9, 6, 10, 26, 27, 28, 29, 30, 31, 32, 33, 34, 35, 36, 37, 38, 39, 40, 41, 42, 43, 44, 45, 46, 47, 48, 49, 50, 51, 52, 53, 54, 55, 56, 57, 58, 59] (by decide +kernel) (by decide +kernel)
set_option maxRecDepth 20000 in
theorem gX10_lend_X10_isKind : GoodIn wsX10_lend (wsV RX10 107 RX10 yX10_isKind wsX10_isKind) := goodIn_app (goodIn_of _ (by decide +kernel)) ggX10_lend_X10_isKind
set_option maxRecDepth 20000 in
theorem ggX10_lend_X10_in : GoodIn wsX10_lend wsX10_in := goodIn_r _ [10] (by decide +kernel) (by decide +kernel)
set_option maxRecDepth 20000 in
theorem gX10_lend_X10_in : GoodIn wsX10_lend (va_wsS RX10 96 yX10_in wsX10_in) := goodIn_app (goodIn_of _ (by decide +kernel)) ggX10_lend_X10_in
set_option maxRecDepth 20000 in
theorem ggX10_lend_X10_lends : GoodIn wsX10_lend wsX10_lends := goodIn_r _ [19, 2, 26, 27, 28, 29, 30, 31, 32, 33, 34, 35, 36, 37, 38, 39, 40, 41, 42, 43, 44, 45, 46, 47, 48, 49, 50, 51, 52, 53, 54, 55, 56, 57, 58, 59] (by decide +kernel) (by decide +kernel)
set_option maxRecDepth 20000 in
theorem gX10_lend_X10_lends : GoodIn wsX10_lend (wsV RX10 141 RX10 yX10_lends wsX10_lends) := goodIn_app (goodIn_of _ (by decide +kernel)) ggX10_lend_X10_lends
set_option maxRecDepth 20000 in
theorem ggX10_lend_X10_keeps : GoodIn wsX10_lend wsX10_keeps := goodIn_r _ [23, 24, 25, 26, 27, 28, 29, 30, 31, 32, 33, 34, 35, 36, 37, 38, 39, 40, 41, 42, 43, 44, 45, 46, 47, 48, 49, 50, 51, 52, 53, 54, 55, 56, 57, 58, 59] (by decide +kernel) (by decide +kernel)
set_option maxRecDepth 20000 in
theorem gX10_lend_X10_keeps : GoodIn wsX10_lend (wsV RX10 128 RX10 yX10_keeps wsX10_keeps) := goodIn_app (goodIn_of _ (by decide +kernel)) ggX10_lend_X10_keeps
theorem dX10_lend_0 : decode cX10_lend 0 = .ok (.iload_n 1, 1) := by decide +kernel
theorem dX10_lend_1 : decode cX10_lend 1 = .ok (.invokestatic 132, 3) := by decide +kernel
theorem dX10_lend_4 : decode cX10_lend 4 = .ok (.ifCond .eq 22, 3) := by decide +kernel
theorem dX10_lend_7 : decode cX10_lend 7 = .ok (.aload_n 0, 1) := by decide +kernel
theorem dX10_lend_8 : decode cX10_lend 8 = .ok (.iload_n 2, 1) := by decide +kernel
theorem dX10_lend_9 : decode cX10_lend 9 = .ok (.invokevirtual 107, 3) := by decide +kernel
theorem dX10_lend_12 : decode cX10_lend 12 = .ok (.ifCond .eq 14, 3) := by decide +kernel
theorem dX10_lend_15 : decode cX10_lend 15 = .ok (.iload_n 3, 1) := by decide +kernel
theorem dX10_lend_16 : decode cX10_lend 16 = .ok (.iconst 1, 1) := by decide +kernel
theorem dX10_lend_17 : decode cX10_lend 17 = .ok (.sipush 10000, 3) := by decide +kernel
theorem dX10_lend_20 : decode cX10_lend 20 = .ok (.invokestatic 96, 3) := by decide +kernel
theorem dX10_lend_23 : decode cX10_lend 23 = .ok (.ifCond .ne 6, 3) := by decide +kernel
theorem dX10_lend_26 : decode cX10_lend 26 = .ok (.ldc 135, 2) := by decide +kernel
theorem dX10_lend_28 : decode cX10_lend 28 = .ok (.ireturn, 1) := by decide +kernel
theorem dX10_lend_29 : decode cX10_lend 29 = .ok (.aload_n 0, 1) := by decide +kernel
theorem dX10_lend_30 : decode cX10_lend 30 = .ok (.getfield 35, 3) := by decide +kernel
theorem dX10_lend_33 : decode cX10_lend 33 = .ok (.bipush 10, 2) := by decide +kernel
theorem dX10_lend_35 : decode cX10_lend 35 = .ok (.iload_n 1, 1) := by decide +kernel
theorem dX10_lend_36 : decode cX10_lend 36 = .ok (.imul, 1) := by decide +kernel
theorem dX10_lend_37 : decode cX10_lend 37 = .ok (.iload_n 2, 1) := by decide +kernel
theorem dX10_lend_38 : decode cX10_lend 38 = .ok (.iadd, 1) := by decide +kernel
theorem dX10_lend_39 : decode cX10_lend 39 = .ok (.iaload, 1) := by decide +kernel
theorem dX10_lend_40 : decode cX10_lend 40 = .ok (.iload_n 3, 1) := by decide +kernel
theorem dX10_lend_41 : decode cX10_lend 41 = .ok (.if_icmp .ge 6, 3) := by decide +kernel
theorem dX10_lend_44 : decode cX10_lend 44 = .ok (.ldc 136, 2) := by decide +kernel
theorem dX10_lend_46 : decode cX10_lend 46 = .ok (.ireturn, 1) := by decide +kernel
theorem dX10_lend_47 : decode cX10_lend 47 = .ok (.aload_n 0, 1) := by decide +kernel
theorem dX10_lend_48 : decode cX10_lend 48 = .ok (.iload_n 1, 1) := by decide +kernel
theorem dX10_lend_49 : decode cX10_lend 49 = .ok (.iload_n 2, 1) := by decide +kernel
theorem dX10_lend_50 : decode cX10_lend 50 = .ok (.iload_n 3, 1) := by decide +kernel
theorem dX10_lend_51 : decode cX10_lend 51 = .ok (.invokevirtual 141, 3) := by decide +kernel
theorem dX10_lend_54 : decode cX10_lend 54 = .ok (.aload_n 0, 1) := by decide +kernel
theorem dX10_lend_55 : decode cX10_lend 55 = .ok (.iconst 2, 1) := by decide +kernel
theorem dX10_lend_56 : decode cX10_lend 56 = .ok (.iload_n 1, 1) := by decide +kernel
theorem dX10_lend_57 : decode cX10_lend 57 = .ok (.iload_n 2, 1) := by decide +kernel
theorem dX10_lend_58 : decode cX10_lend 58 = .ok (.iload_n 3, 1) := by decide +kernel
theorem dX10_lend_59 : decode cX10_lend 59 = .ok (.iconst 0, 1) := by decide +kernel
theorem dX10_lend_60 : decode cX10_lend 60 = .ok (.iconst 0, 1) := by decide +kernel
theorem dX10_lend_61 : decode cX10_lend 61 = .ok (.invokevirtual 128, 3) := by decide +kernel
theorem dX10_lend_64 : decode cX10_lend 64 = .ok (.aload_n 0, 1) := by decide +kernel
theorem dX10_lend_65 : decode cX10_lend 65 = .ok (.getfield 35, 3) := by decide +kernel
theorem dX10_lend_68 : decode cX10_lend 68 = .ok (.bipush 10, 2) := by decide +kernel
theorem dX10_lend_70 : decode cX10_lend 70 = .ok (.iconst 1, 1) := by decide +kernel
theorem dX10_lend_71 : decode cX10_lend 71 = .ok (.iload_n 1, 1) := by decide +kernel
theorem dX10_lend_72 : decode cX10_lend 72 = .ok (.isub, 1) := by decide +kernel
theorem dX10_lend_73 : decode cX10_lend 73 = .ok (.imul, 1) := by decide +kernel
theorem dX10_lend_74 : decode cX10_lend 74 = .ok (.iload_n 2, 1) := by decide +kernel
theorem dX10_lend_75 : decode cX10_lend 75 = .ok (.iadd, 1) := by decide +kernel
theorem dX10_lend_76 : decode cX10_lend 76 = .ok (.iaload, 1) := by decide +kernel
theorem dX10_lend_77 : decode cX10_lend 77 = .ok (.ireturn, 1) := by decide +kernel
set_option maxRecDepth 20000 in
theorem ggX10_sell_X10_isBar : GoodIn wsX10_sell wsX10_isBar := goodIn_r _ [5, 6, 7, 4, 8] (by decide +kernel) (by decide +kernel)
set_option maxRecDepth 20000 in
theorem gX10_sell_X10_isBar : GoodIn wsX10_sell (va_wsS RX10 132 yX10_isBar wsX10_isBar) := goodIn_app (goodIn_of _ (by decide +kernel)) ggX10_sell_X10_isBar
set_option maxRecDepth 20000 in
theorem ggX10_sell_X10_isRecipe : GoodIn wsX10_sell wsX10_isRecipe := goodIn_r _ [12, 13, 6, 7, 4, 8, 49, 50, 51, 52, 53, 54, 55, 56, 57, 58, 59, 60, 61, 62, 63, 64, 65, 66, 67, 68, 69, 70, 71, 72, 73, 74, 75, 76, 77, 78, 79, 80, 81, 82] (by decide +kernel) (by decide +kernel)
set_option maxRecDepth 20000 in
theorem gX10_sell_X10_isRecipe : GoodIn wsX10_sell (wsV RX10 103 RX10 yX10_isRecipe wsX10_isRecipe) := goodIn_app (goodIn_of _ (by decide +kernel)) ggX10_sell_X10_isRecipe
set_option maxRecDepth 20000 in
theorem ggX10_sell_X10_in : GoodIn wsX10_sell wsX10_in := goodIn_r _ [8] (by decide +kernel) (by decide +kernel)
set_option maxRecDepth 20000 in
theorem gX10_sell_X10_in : GoodIn wsX10_sell (va_wsS RX10 96 yX10_in wsX10_in) := goodIn_app (goodIn_of _ (by decide +kernel)) ggX10_sell_X10_in
set_option maxRecDepth 20000 in
theorem ggX10_sell_X10_priceOf : GoodIn wsX10_sell wsX10_priceOf := goodIn_r _ [17, 18, 19, 20, 21, 22, 23, 24, 4, 25, 26, 27, 28, 6, 7, 8, 49, 50, 51, 52, 53, 54, 55, 56, 57, 58, 59, 60, 61, 62, 63, 64, 65, 66, 67, 68, 69, 70, 71, 72, 73, 74, 75, 76, 77, 78, 79, 80, 81, 82] (by decide +kernel) (by decide +kernel)
set_option maxRecDepth 20000 in
theorem gX10_sell_X10_priceOf : GoodIn wsX10_sell (wsV RX10 144 RX10 yX10_priceOf wsX10_priceOf) := goodIn_app (goodIn_of _ (by decide +kernel)) ggX10_sell_X10_priceOf
set_option maxRecDepth 20000 in
theorem ggX10_sell_X10_sells : GoodIn wsX10_sell wsX10_sells := goodIn_r _ [32, 33, 34, 35, 36, 37, 38, 39, 40, 41, 4, 42, 49, 50, 51, 52, 53, 54, 55, 56, 57, 58, 59, 60, 61, 62, 63, 64, 65, 66, 67, 68, 69, 70, 71, 72, 73, 74, 75, 76, 77, 78, 79, 80, 81, 82] (by decide +kernel) (by decide +kernel)
set_option maxRecDepth 20000 in
theorem gX10_sell_X10_sells : GoodIn wsX10_sell (wsV RX10 147 RX10 yX10_sells wsX10_sells) := goodIn_app (goodIn_of _ (by decide +kernel)) ggX10_sell_X10_sells
set_option maxRecDepth 20000 in
theorem ggX10_sell_X10_keeps : GoodIn wsX10_sell wsX10_keeps := goodIn_r _ [46, 47, 48, 49, 50, 51, 52, 53, 54, 55, 56, 57, 58, 59, 60, 61, 62, 63, 64, 65, 66, 67, 68, 69, 70, 71, 72, 73, 74, 75, 76, 77, 78, 79, 80, 81, 82] (by decide +kernel) (by decide +kernel)
set_option maxRecDepth 20000 in
theorem gX10_sell_X10_keeps : GoodIn wsX10_sell (wsV RX10 128 RX10 yX10_keeps wsX10_keeps) := goodIn_app (goodIn_of _ (by decide +kernel)) ggX10_sell_X10_keeps
theorem dX10_sell_0 : decode cX10_sell 0 = .ok (.iload_n 1, 1) := by decide +kernel
theorem dX10_sell_1 : decode cX10_sell 1 = .ok (.invokestatic 132, 3) := by decide +kernel
theorem dX10_sell_4 : decode cX10_sell 4 = .ok (.ifCond .eq 44, 3) := by decide +kernel
theorem dX10_sell_7 : decode cX10_sell 7 = .ok (.aload_n 0, 1) := by decide +kernel
theorem dX10_sell_8 : decode cX10_sell 8 = .ok (.iload_n 2, 1) := by decide +kernel
theorem dX10_sell_9 : decode cX10_sell 9 = .ok (.invokevirtual 103, 3) := by decide +kernel
theorem dX10_sell_12 : decode cX10_sell 12 = .ok (.ifCond .eq 36, 3) := by decide +kernel
theorem dX10_sell_15 : decode cX10_sell 15 = .ok (.iload_n 3, 1) := by decide +kernel
theorem dX10_sell_16 : decode cX10_sell 16 = .ok (.iconst 1, 1) := by decide +kernel
theorem dX10_sell_17 : decode cX10_sell 17 = .ok (.bipush 100, 2) := by decide +kernel
theorem dX10_sell_19 : decode cX10_sell 19 = .ok (.invokestatic 96, 3) := by decide +kernel
theorem dX10_sell_22 : decode cX10_sell 22 = .ok (.ifCond .eq 26, 3) := by decide +kernel
theorem dX10_sell_25 : decode cX10_sell 25 = .ok (.iload 4, 2) := by decide +kernel
theorem dX10_sell_27 : decode cX10_sell 27 = .ok (.iconst 0, 1) := by decide +kernel
theorem dX10_sell_28 : decode cX10_sell 28 = .ok (.bipush 6, 2) := by decide +kernel
theorem dX10_sell_30 : decode cX10_sell 30 = .ok (.invokestatic 96, 3) := by decide +kernel
theorem dX10_sell_33 : decode cX10_sell 33 = .ok (.ifCond .eq 15, 3) := by decide +kernel
theorem dX10_sell_36 : decode cX10_sell 36 = .ok (.iload 5, 2) := by decide +kernel
theorem dX10_sell_38 : decode cX10_sell 38 = .ok (.iconst 0, 1) := by decide +kernel
theorem dX10_sell_39 : decode cX10_sell 39 = .ok (.sipush 1439, 3) := by decide +kernel
theorem dX10_sell_42 : decode cX10_sell 42 = .ok (.invokestatic 96, 3) := by decide +kernel
theorem dX10_sell_45 : decode cX10_sell 45 = .ok (.ifCond .ne 5, 3) := by decide +kernel
theorem dX10_sell_48 : decode cX10_sell 48 = .ok (.iconst (-1), 1) := by decide +kernel
theorem dX10_sell_49 : decode cX10_sell 49 = .ok (.ireturn, 1) := by decide +kernel
theorem dX10_sell_50 : decode cX10_sell 50 = .ok (.iload_n 3, 1) := by decide +kernel
theorem dX10_sell_51 : decode cX10_sell 51 = .ok (.aload_n 0, 1) := by decide +kernel
theorem dX10_sell_52 : decode cX10_sell 52 = .ok (.iload_n 2, 1) := by decide +kernel
theorem dX10_sell_53 : decode cX10_sell 53 = .ok (.iload 4, 2) := by decide +kernel
theorem dX10_sell_55 : decode cX10_sell 55 = .ok (.iload 5, 2) := by decide +kernel
theorem dX10_sell_57 : decode cX10_sell 57 = .ok (.invokevirtual 144, 3) := by decide +kernel
theorem dX10_sell_60 : decode cX10_sell 60 = .ok (.imul, 1) := by decide +kernel
theorem dX10_sell_61 : decode cX10_sell 61 = .ok (.istore 6, 2) := by decide +kernel
theorem dX10_sell_63 : decode cX10_sell 63 = .ok (.aload_n 0, 1) := by decide +kernel
theorem dX10_sell_64 : decode cX10_sell 64 = .ok (.iload_n 1, 1) := by decide +kernel
theorem dX10_sell_65 : decode cX10_sell 65 = .ok (.iload_n 2, 1) := by decide +kernel
theorem dX10_sell_66 : decode cX10_sell 66 = .ok (.iload_n 3, 1) := by decide +kernel
theorem dX10_sell_67 : decode cX10_sell 67 = .ok (.iload 6, 2) := by decide +kernel
theorem dX10_sell_69 : decode cX10_sell 69 = .ok (.invokevirtual 147, 3) := by decide +kernel
theorem dX10_sell_72 : decode cX10_sell 72 = .ok (.aload_n 0, 1) := by decide +kernel
theorem dX10_sell_73 : decode cX10_sell 73 = .ok (.getfield 25, 3) := by decide +kernel
theorem dX10_sell_76 : decode cX10_sell 76 = .ok (.iload_n 2, 1) := by decide +kernel
theorem dX10_sell_77 : decode cX10_sell 77 = .ok (.iconst 1, 1) := by decide +kernel
theorem dX10_sell_78 : decode cX10_sell 78 = .ok (.bastore, 1) := by decide +kernel
theorem dX10_sell_79 : decode cX10_sell 79 = .ok (.aload_n 0, 1) := by decide +kernel
theorem dX10_sell_80 : decode cX10_sell 80 = .ok (.iconst 3, 1) := by decide +kernel
theorem dX10_sell_81 : decode cX10_sell 81 = .ok (.iload_n 1, 1) := by decide +kernel
theorem dX10_sell_82 : decode cX10_sell 82 = .ok (.iload_n 2, 1) := by decide +kernel
theorem dX10_sell_83 : decode cX10_sell 83 = .ok (.iload_n 3, 1) := by decide +kernel
theorem dX10_sell_84 : decode cX10_sell 84 = .ok (.iload 6, 2) := by decide +kernel
theorem dX10_sell_86 : decode cX10_sell 86 = .ok (.iconst 0, 1) := by decide +kernel
theorem dX10_sell_87 : decode cX10_sell 87 = .ok (.invokevirtual 128, 3) := by decide +kernel
theorem dX10_sell_90 : decode cX10_sell 90 = .ok (.iload 6, 2) := by decide +kernel
theorem dX10_sell_92 : decode cX10_sell 92 = .ok (.ireturn, 1) := by decide +kernel
set_option maxRecDepth 20000 in
theorem ggX10_lose_X10_isBar : GoodIn wsX10_lose wsX10_isBar := goodIn_r _ [6, 7, 8, 5, 9] (by decide +kernel) (by decide +kernel)
set_option maxRecDepth 20000 in
theorem gX10_lose_X10_isBar : GoodIn wsX10_lose (va_wsS RX10 132 yX10_isBar wsX10_isBar) := goodIn_app (goodIn_of _ (by decide +kernel)) ggX10_lose_X10_isBar
set_option maxRecDepth 20000 in
theorem ggX10_lose_X10_isKind : GoodIn wsX10_lose wsX10_isKind := goodIn_r _ [13, 14, 7, 8, 5, 9, 26, 27, 28, 29, 30, 31, 32, 33, 34, 35, 36, 37, 38, 39, 40, 41, 42, 43, 44, 45, 46, 47, 48, 49, 50, 51, 52, 53, 54, 55, 56, 57, 58, 59] (by decide +kernel) (by decide +kernel)
set_option maxRecDepth 20000 in
theorem gX10_lose_X10_isKind : GoodIn wsX10_lose (wsV RX10 107 RX10 yX10_isKind wsX10_isKind) := goodIn_app (goodIn_of _ (by decide +kernel)) ggX10_lose_X10_isKind
set_option maxRecDepth 20000 in
theorem ggX10_lose_X10_in : GoodIn wsX10_lose wsX10_in := goodIn_r _ [9] (by decide +kernel) (by decide +kernel)
set_option maxRecDepth 20000 in
theorem gX10_lose_X10_in : GoodIn wsX10_lose (va_wsS RX10 96 yX10_in wsX10_in) := goodIn_app (goodIn_of _ (by decide +kernel)) ggX10_lose_X10_in
set_option maxRecDepth 20000 in
theorem ggX10_lose_X10_loses : GoodIn wsX10_lose wsX10_loses := goodIn_r _ [18, 2, 19, 26, 27, 28, 29, 30, 31, 32, 33, 34, 35, 36, 37, 38, 39, 40, 41, 42, 43, 44, 45, 46, 47, 48, 49, 50, 51, 52, 53, 54, 55, 56, 57, 58, 59] (by decide +kernel) (by decide +kernel)
set_option maxRecDepth 20000 in
theorem gX10_lose_X10_loses : GoodIn wsX10_lose (wsV RX10 151 RX10 yX10_loses wsX10_loses) := goodIn_app (goodIn_of _ (by decide +kernel)) ggX10_lose_X10_loses
set_option maxRecDepth 20000 in
theorem ggX10_lose_X10_keeps : GoodIn wsX10_lose wsX10_keeps := goodIn_r _ [23, 24, 25, 26, 27, 28, 29, 30, 31, 32, 33, 34, 35, 36, 37, 38, 39, 40, 41, 42, 43, 44, 45, 46, 47, 48, 49, 50, 51, 52, 53, 54, 55, 56, 57, 58, 59] (by decide +kernel) (by decide +kernel)
set_option maxRecDepth 20000 in
theorem gX10_lose_X10_keeps : GoodIn wsX10_lose (wsV RX10 128 RX10 yX10_keeps wsX10_keeps) := goodIn_app (goodIn_of _ (by decide +kernel)) ggX10_lose_X10_keeps
theorem dX10_lose_0 : decode cX10_lose 0 = .ok (.iload_n 1, 1) := by decide +kernel
theorem dX10_lose_1 : decode cX10_lose 1 = .ok (.invokestatic 132, 3) := by decide +kernel
theorem dX10_lose_4 : decode cX10_lose 4 = .ok (.ifCond .eq 32, 3) := by decide +kernel
theorem dX10_lose_7 : decode cX10_lose 7 = .ok (.aload_n 0, 1) := by decide +kernel
theorem dX10_lose_8 : decode cX10_lose 8 = .ok (.iload_n 2, 1) := by decide +kernel
theorem dX10_lose_9 : decode cX10_lose 9 = .ok (.invokevirtual 107, 3) := by decide +kernel
theorem dX10_lose_12 : decode cX10_lose 12 = .ok (.ifCond .eq 24, 3) := by decide +kernel
theorem dX10_lose_15 : decode cX10_lose 15 = .ok (.iload_n 3, 1) := by decide +kernel
theorem dX10_lose_16 : decode cX10_lose 16 = .ok (.iconst 0, 1) := by decide +kernel
theorem dX10_lose_17 : decode cX10_lose 17 = .ok (.iconst 1, 1) := by decide +kernel
theorem dX10_lose_18 : decode cX10_lose 18 = .ok (.invokestatic 96, 3) := by decide +kernel
theorem dX10_lose_21 : decode cX10_lose 21 = .ok (.ifCond .eq 15, 3) := by decide +kernel
theorem dX10_lose_24 : decode cX10_lose 24 = .ok (.iload 4, 2) := by decide +kernel
theorem dX10_lose_26 : decode cX10_lose 26 = .ok (.iconst 1, 1) := by decide +kernel
theorem dX10_lose_27 : decode cX10_lose 27 = .ok (.sipush 10000, 3) := by decide +kernel
theorem dX10_lose_30 : decode cX10_lose 30 = .ok (.invokestatic 96, 3) := by decide +kernel
theorem dX10_lose_33 : decode cX10_lose 33 = .ok (.ifCond .ne 6, 3) := by decide +kernel
theorem dX10_lose_36 : decode cX10_lose 36 = .ok (.ldc 135, 2) := by decide +kernel
theorem dX10_lose_38 : decode cX10_lose 38 = .ok (.ireturn, 1) := by decide +kernel
theorem dX10_lose_39 : decode cX10_lose 39 = .ok (.aload_n 0, 1) := by decide +kernel
theorem dX10_lose_40 : decode cX10_lose 40 = .ok (.iload_n 1, 1) := by decide +kernel
theorem dX10_lose_41 : decode cX10_lose 41 = .ok (.iload_n 2, 1) := by decide +kernel
theorem dX10_lose_42 : decode cX10_lose 42 = .ok (.iload_n 3, 1) := by decide +kernel
theorem dX10_lose_43 : decode cX10_lose 43 = .ok (.iload 4, 2) := by decide +kernel
theorem dX10_lose_45 : decode cX10_lose 45 = .ok (.invokevirtual 151, 3) := by decide +kernel
theorem dX10_lose_48 : decode cX10_lose 48 = .ok (.aload_n 0, 1) := by decide +kernel
theorem dX10_lose_49 : decode cX10_lose 49 = .ok (.iconst 4, 1) := by decide +kernel
theorem dX10_lose_50 : decode cX10_lose 50 = .ok (.iload_n 3, 1) := by decide +kernel
theorem dX10_lose_51 : decode cX10_lose 51 = .ok (.iadd, 1) := by decide +kernel
theorem dX10_lose_52 : decode cX10_lose 52 = .ok (.iload_n 1, 1) := by decide +kernel
theorem dX10_lose_53 : decode cX10_lose 53 = .ok (.iload_n 2, 1) := by decide +kernel
theorem dX10_lose_54 : decode cX10_lose 54 = .ok (.iload 4, 2) := by decide +kernel
theorem dX10_lose_56 : decode cX10_lose 56 = .ok (.iconst 0, 1) := by decide +kernel
theorem dX10_lose_57 : decode cX10_lose 57 = .ok (.iconst 0, 1) := by decide +kernel
theorem dX10_lose_58 : decode cX10_lose 58 = .ok (.invokevirtual 128, 3) := by decide +kernel
theorem dX10_lose_61 : decode cX10_lose 61 = .ok (.aload_n 0, 1) := by decide +kernel
theorem dX10_lose_62 : decode cX10_lose 62 = .ok (.getfield 35, 3) := by decide +kernel
theorem dX10_lose_65 : decode cX10_lose 65 = .ok (.bipush 10, 2) := by decide +kernel
theorem dX10_lose_67 : decode cX10_lose 67 = .ok (.iload_n 1, 1) := by decide +kernel
theorem dX10_lose_68 : decode cX10_lose 68 = .ok (.imul, 1) := by decide +kernel
theorem dX10_lose_69 : decode cX10_lose 69 = .ok (.iload_n 2, 1) := by decide +kernel
theorem dX10_lose_70 : decode cX10_lose 70 = .ok (.iadd, 1) := by decide +kernel
theorem dX10_lose_71 : decode cX10_lose 71 = .ok (.iaload, 1) := by decide +kernel
theorem dX10_lose_72 : decode cX10_lose 72 = .ok (.ireturn, 1) := by decide +kernel
set_option maxRecDepth 20000 in
theorem ggX10_weigh_X10_isBar : GoodIn wsX10_weigh wsX10_isBar := goodIn_r _ [15, 16, 17, 14, 18] (by decide +kernel) (by decide +kernel)
set_option maxRecDepth 20000 in
theorem gX10_weigh_X10_isBar : GoodIn wsX10_weigh (va_wsS RX10 132 yX10_isBar wsX10_isBar) := goodIn_app (goodIn_of _ (by decide +kernel)) ggX10_weigh_X10_isBar
set_option maxRecDepth 20000 in
theorem ggX10_weigh_X10_isKind : GoodIn wsX10_weigh wsX10_isKind := goodIn_r _ [22, 23, 16, 17, 14, 18, 39, 40, 41, 42, 43, 44, 45, 46, 47, 48, 49, 50, 51, 52, 53, 54, 55, 56, 57, 58, 59, 60, 61, 62, 63, 64, 65, 66, 67, 68, 69, 70, 71, 72] (by decide +kernel) (by decide +kernel)
set_option maxRecDepth 20000 in
theorem gX10_weigh_X10_isKind : GoodIn wsX10_weigh (wsV RX10 107 RX10 yX10_isKind wsX10_isKind) := goodIn_app (goodIn_of _ (by decide +kernel)) ggX10_weigh_X10_isKind
set_option maxRecDepth 20000 in
theorem ggX10_weigh_X10_in : GoodIn wsX10_weigh wsX10_in := goodIn_r _ [18] (by decide +kernel) (by decide +kernel)
set_option maxRecDepth 20000 in
theorem gX10_weigh_X10_in : GoodIn wsX10_weigh (va_wsS RX10 96 yX10_in wsX10_in) := goodIn_app (goodIn_of _ (by decide +kernel)) ggX10_weigh_X10_in
set_option maxRecDepth 20000 in
theorem ggX10_weigh_X10_at : GoodIn wsX10_weigh wsX10_at := goodIn_r _ [26] (by decide +kernel) (by decide +kernel)
set_option maxRecDepth 20000 in
theorem gX10_weigh_X10_at : GoodIn wsX10_weigh (va_wsS RX10 120 yX10_at wsX10_at) := goodIn_app (goodIn_of _ (by decide +kernel)) ggX10_weigh_X10_at
set_option maxRecDepth 20000 in
theorem ggX10_weigh_X10_spanNow : GoodIn wsX10_weigh wsX10_spanNow := goodIn_r _ [30, 31, 7, 32, 39, 40, 41, 42, 43, 44, 45, 46, 47, 48, 49, 50, 51, 52, 53, 54, 55, 56, 57, 58, 59, 60, 61, 62, 63, 64, 65, 66, 67, 68, 69, 70, 71, 72] (by decide +kernel) (by decide +kernel)
set_option maxRecDepth 20000 in
theorem gX10_weigh_X10_spanNow : GoodIn wsX10_weigh (wsV RX10 154 RX10 yX10_spanNow wsX10_spanNow) := goodIn_app (goodIn_of _ (by decide +kernel)) ggX10_weigh_X10_spanNow
set_option maxRecDepth 20000 in
theorem ggX10_weigh_X10_keeps : GoodIn wsX10_weigh wsX10_keeps := goodIn_r _ [36, 37, 38, 39, 40, 41, 42, 43, 44, 45, 46, 47, 48, 49, 50, 51, 52, 53, 54, 55, 56, 57, 58, 59, 60, 61, 62, 63, 64, 65, 66, 67, 68, 69, 70, 71, 72] (by decide +kernel) (by decide +kernel)
set_option maxRecDepth 20000 in
theorem gX10_weigh_X10_keeps : GoodIn wsX10_weigh (wsV RX10 128 RX10 yX10_keeps wsX10_keeps) := goodIn_app (goodIn_of _ (by decide +kernel)) ggX10_weigh_X10_keeps
theorem dX10_weigh_0 : decode cX10_weigh 0 = .ok (.iload_n 1, 1) := by decide +kernel
theorem dX10_weigh_1 : decode cX10_weigh 1 = .ok (.invokestatic 132, 3) := by decide +kernel
theorem dX10_weigh_4 : decode cX10_weigh 4 = .ok (.ifCond .eq 33, 3) := by decide +kernel
theorem dX10_weigh_7 : decode cX10_weigh 7 = .ok (.aload_n 0, 1) := by decide +kernel
theorem dX10_weigh_8 : decode cX10_weigh 8 = .ok (.iload_n 2, 1) := by decide +kernel
theorem dX10_weigh_9 : decode cX10_weigh 9 = .ok (.invokevirtual 107, 3) := by decide +kernel
theorem dX10_weigh_12 : decode cX10_weigh 12 = .ok (.ifCond .eq 25, 3) := by decide +kernel
theorem dX10_weigh_15 : decode cX10_weigh 15 = .ok (.iload_n 3, 1) := by decide +kernel
theorem dX10_weigh_16 : decode cX10_weigh 16 = .ok (.iconst 0, 1) := by decide +kernel
theorem dX10_weigh_17 : decode cX10_weigh 17 = .ok (.bipush 50, 2) := by decide +kernel
theorem dX10_weigh_19 : decode cX10_weigh 19 = .ok (.invokestatic 96, 3) := by decide +kernel
theorem dX10_weigh_22 : decode cX10_weigh 22 = .ok (.ifCond .eq 15, 3) := by decide +kernel
theorem dX10_weigh_25 : decode cX10_weigh 25 = .ok (.iload 4, 2) := by decide +kernel
theorem dX10_weigh_27 : decode cX10_weigh 27 = .ok (.iconst 0, 1) := by decide +kernel
theorem dX10_weigh_28 : decode cX10_weigh 28 = .ok (.sipush 5000, 3) := by decide +kernel
theorem dX10_weigh_31 : decode cX10_weigh 31 = .ok (.invokestatic 96, 3) := by decide +kernel
theorem dX10_weigh_34 : decode cX10_weigh 34 = .ok (.ifCond .ne 6, 3) := by decide +kernel
theorem dX10_weigh_37 : decode cX10_weigh 37 = .ok (.ldc 135, 2) := by decide +kernel
theorem dX10_weigh_39 : decode cX10_weigh 39 = .ok (.ireturn, 1) := by decide +kernel
theorem dX10_weigh_40 : decode cX10_weigh 40 = .ok (.aload_n 0, 1) := by decide +kernel
theorem dX10_weigh_41 : decode cX10_weigh 41 = .ok (.getfield 117, 3) := by decide +kernel
theorem dX10_weigh_44 : decode cX10_weigh 44 = .ok (.iload_n 1, 1) := by decide +kernel
theorem dX10_weigh_45 : decode cX10_weigh 45 = .ok (.iload_n 2, 1) := by decide +kernel
theorem dX10_weigh_46 : decode cX10_weigh 46 = .ok (.invokestatic 120, 3) := by decide +kernel
theorem dX10_weigh_49 : decode cX10_weigh 49 = .ok (.istore 5, 2) := by decide +kernel
theorem dX10_weigh_51 : decode cX10_weigh 51 = .ok (.aload_n 0, 1) := by decide +kernel
theorem dX10_weigh_52 : decode cX10_weigh 52 = .ok (.getfield 41, 3) := by decide +kernel
theorem dX10_weigh_55 : decode cX10_weigh 55 = .ok (.iload 5, 2) := by decide +kernel
theorem dX10_weigh_57 : decode cX10_weigh 57 = .ok (.baload, 1) := by decide +kernel
theorem dX10_weigh_58 : decode cX10_weigh 58 = .ok (.ifCond .eq 6, 3) := by decide +kernel
theorem dX10_weigh_61 : decode cX10_weigh 61 = .ok (.ldc 136, 2) := by decide +kernel
theorem dX10_weigh_63 : decode cX10_weigh 63 = .ok (.ireturn, 1) := by decide +kernel
theorem dX10_weigh_64 : decode cX10_weigh 64 = .ok (.iload 4, 2) := by decide +kernel
theorem dX10_weigh_66 : decode cX10_weigh 66 = .ok (.aload_n 0, 1) := by decide +kernel
theorem dX10_weigh_67 : decode cX10_weigh 67 = .ok (.getfield 7, 3) := by decide +kernel
theorem dX10_weigh_70 : decode cX10_weigh 70 = .ok (.iload_n 2, 1) := by decide +kernel
theorem dX10_weigh_71 : decode cX10_weigh 71 = .ok (.iaload, 1) := by decide +kernel
theorem dX10_weigh_72 : decode cX10_weigh 72 = .ok (.if_icmp .ge 7, 3) := by decide +kernel
theorem dX10_weigh_75 : decode cX10_weigh 75 = .ok (.iconst 0, 1) := by decide +kernel
theorem dX10_weigh_76 : decode cX10_weigh 76 = .ok (.goto 12, 3) := by decide +kernel
theorem dX10_weigh_79 : decode cX10_weigh 79 = .ok (.iload 4, 2) := by decide +kernel
theorem dX10_weigh_81 : decode cX10_weigh 81 = .ok (.aload_n 0, 1) := by decide +kernel
theorem dX10_weigh_82 : decode cX10_weigh 82 = .ok (.getfield 7, 3) := by decide +kernel
theorem dX10_weigh_85 : decode cX10_weigh 85 = .ok (.iload_n 2, 1) := by decide +kernel
theorem dX10_weigh_86 : decode cX10_weigh 86 = .ok (.iaload, 1) := by decide +kernel
theorem dX10_weigh_87 : decode cX10_weigh 87 = .ok (.isub, 1) := by decide +kernel
theorem dX10_weigh_88 : decode cX10_weigh 88 = .ok (.istore 6, 2) := by decide +kernel
theorem dX10_weigh_90 : decode cX10_weigh 90 = .ok (.aload_n 0, 1) := by decide +kernel
theorem dX10_weigh_91 : decode cX10_weigh 91 = .ok (.getfield 13, 3) := by decide +kernel
theorem dX10_weigh_94 : decode cX10_weigh 94 = .ok (.iload_n 2, 1) := by decide +kernel
theorem dX10_weigh_95 : decode cX10_weigh 95 = .ok (.iaload, 1) := by decide +kernel
theorem dX10_weigh_96 : decode cX10_weigh 96 = .ok (.iload_n 3, 1) := by decide +kernel
theorem dX10_weigh_97 : decode cX10_weigh 97 = .ok (.imul, 1) := by decide +kernel
theorem dX10_weigh_98 : decode cX10_weigh 98 = .ok (.bipush 100, 2) := by decide +kernel
theorem dX10_weigh_100 : decode cX10_weigh 100 = .ok (.iload 6, 2) := by decide +kernel
theorem dX10_weigh_102 : decode cX10_weigh 102 = .ok (.imul, 1) := by decide +kernel
theorem dX10_weigh_103 : decode cX10_weigh 103 = .ok (.aload_n 0, 1) := by decide +kernel
theorem dX10_weigh_104 : decode cX10_weigh 104 = .ok (.getfield 16, 3) := by decide +kernel
theorem dX10_weigh_107 : decode cX10_weigh 107 = .ok (.iload_n 2, 1) := by decide +kernel
theorem dX10_weigh_108 : decode cX10_weigh 108 = .ok (.iaload, 1) := by decide +kernel
theorem dX10_weigh_109 : decode cX10_weigh 109 = .ok (.idiv, 1) := by decide +kernel
theorem dX10_weigh_110 : decode cX10_weigh 110 = .ok (.iadd, 1) := by decide +kernel
theorem dX10_weigh_111 : decode cX10_weigh 111 = .ok (.istore 7, 2) := by decide +kernel
theorem dX10_weigh_113 : decode cX10_weigh 113 = .ok (.aload_n 0, 1) := by decide +kernel
theorem dX10_weigh_114 : decode cX10_weigh 114 = .ok (.getfield 35, 3) := by decide +kernel
theorem dX10_weigh_117 : decode cX10_weigh 117 = .ok (.bipush 10, 2) := by decide +kernel
theorem dX10_weigh_119 : decode cX10_weigh 119 = .ok (.iload_n 1, 1) := by decide +kernel
theorem dX10_weigh_120 : decode cX10_weigh 120 = .ok (.imul, 1) := by decide +kernel
theorem dX10_weigh_121 : decode cX10_weigh 121 = .ok (.iload_n 2, 1) := by decide +kernel
theorem dX10_weigh_122 : decode cX10_weigh 122 = .ok (.iadd, 1) := by decide +kernel
theorem dX10_weigh_123 : decode cX10_weigh 123 = .ok (.iaload, 1) := by decide +kernel
theorem dX10_weigh_124 : decode cX10_weigh 124 = .ok (.iload 7, 2) := by decide +kernel
theorem dX10_weigh_126 : decode cX10_weigh 126 = .ok (.isub, 1) := by decide +kernel
theorem dX10_weigh_127 : decode cX10_weigh 127 = .ok (.istore 8, 2) := by decide +kernel
theorem dX10_weigh_129 : decode cX10_weigh 129 = .ok (.aload_n 0, 1) := by decide +kernel
theorem dX10_weigh_130 : decode cX10_weigh 130 = .ok (.getfield 35, 3) := by decide +kernel
theorem dX10_weigh_133 : decode cX10_weigh 133 = .ok (.bipush 10, 2) := by decide +kernel
theorem dX10_weigh_135 : decode cX10_weigh 135 = .ok (.iload_n 1, 1) := by decide +kernel
theorem dX10_weigh_136 : decode cX10_weigh 136 = .ok (.imul, 1) := by decide +kernel
theorem dX10_weigh_137 : decode cX10_weigh 137 = .ok (.iload_n 2, 1) := by decide +kernel
theorem dX10_weigh_138 : decode cX10_weigh 138 = .ok (.iadd, 1) := by decide +kernel
theorem dX10_weigh_139 : decode cX10_weigh 139 = .ok (.iload 7, 2) := by decide +kernel
theorem dX10_weigh_141 : decode cX10_weigh 141 = .ok (.iastore, 1) := by decide +kernel
theorem dX10_weigh_142 : decode cX10_weigh 142 = .ok (.aload_n 0, 1) := by decide +kernel
theorem dX10_weigh_143 : decode cX10_weigh 143 = .ok (.getfield 41, 3) := by decide +kernel
theorem dX10_weigh_146 : decode cX10_weigh 146 = .ok (.iload 5, 2) := by decide +kernel
theorem dX10_weigh_148 : decode cX10_weigh 148 = .ok (.iconst 1, 1) := by decide +kernel
theorem dX10_weigh_149 : decode cX10_weigh 149 = .ok (.bastore, 1) := by decide +kernel
theorem dX10_weigh_150 : decode cX10_weigh 150 = .ok (.aload_n 0, 1) := by decide +kernel
theorem dX10_weigh_151 : decode cX10_weigh 151 = .ok (.getfield 38, 3) := by decide +kernel
theorem dX10_weigh_154 : decode cX10_weigh 154 = .ok (.iload 5, 2) := by decide +kernel
theorem dX10_weigh_156 : decode cX10_weigh 156 = .ok (.iload 8, 2) := by decide +kernel
theorem dX10_weigh_158 : decode cX10_weigh 158 = .ok (.iastore, 1) := by decide +kernel
theorem dX10_weigh_159 : decode cX10_weigh 159 = .ok (.aload_n 0, 1) := by decide +kernel
theorem dX10_weigh_160 : decode cX10_weigh 160 = .ok (.getfield 47, 3) := by decide +kernel
theorem dX10_weigh_163 : decode cX10_weigh 163 = .ok (.iload 5, 2) := by decide +kernel
theorem dX10_weigh_165 : decode cX10_weigh 165 = .ok (.aload_n 0, 1) := by decide +kernel
theorem dX10_weigh_166 : decode cX10_weigh 166 = .ok (.iload 5, 2) := by decide +kernel
theorem dX10_weigh_168 : decode cX10_weigh 168 = .ok (.invokevirtual 154, 3) := by decide +kernel
theorem dX10_weigh_171 : decode cX10_weigh 171 = .ok (.iastore, 1) := by decide +kernel
theorem dX10_weigh_172 : decode cX10_weigh 172 = .ok (.aload_n 0, 1) := by decide +kernel
theorem dX10_weigh_173 : decode cX10_weigh 173 = .ok (.getfield 53, 3) := by decide +kernel
theorem dX10_weigh_176 : decode cX10_weigh 176 = .ok (.iconst 5, 1) := by decide +kernel
theorem dX10_weigh_177 : decode cX10_weigh 177 = .ok (.iload_n 2, 1) := by decide +kernel
theorem dX10_weigh_178 : decode cX10_weigh 178 = .ok (.imul, 1) := by decide +kernel
theorem dX10_weigh_179 : decode cX10_weigh 179 = .ok (.iconst 3, 1) := by decide +kernel
theorem dX10_weigh_180 : decode cX10_weigh 180 = .ok (.iadd, 1) := by decide +kernel
theorem dX10_weigh_181 : decode cX10_weigh 181 = .ok (.dup2, 1) := by decide +kernel
theorem dX10_weigh_182 : decode cX10_weigh 182 = .ok (.iaload, 1) := by decide +kernel
theorem dX10_weigh_183 : decode cX10_weigh 183 = .ok (.iload 8, 2) := by decide +kernel
theorem dX10_weigh_185 : decode cX10_weigh 185 = .ok (.iadd, 1) := by decide +kernel
theorem dX10_weigh_186 : decode cX10_weigh 186 = .ok (.iastore, 1) := by decide +kernel
theorem dX10_weigh_187 : decode cX10_weigh 187 = .ok (.aload_n 0, 1) := by decide +kernel
theorem dX10_weigh_188 : decode cX10_weigh 188 = .ok (.bipush 6, 2) := by decide +kernel
theorem dX10_weigh_190 : decode cX10_weigh 190 = .ok (.iload_n 1, 1) := by decide +kernel
theorem dX10_weigh_191 : decode cX10_weigh 191 = .ok (.iload_n 2, 1) := by decide +kernel
theorem dX10_weigh_192 : decode cX10_weigh 192 = .ok (.iload 8, 2) := by decide +kernel
theorem dX10_weigh_194 : decode cX10_weigh 194 = .ok (.iconst 0, 1) := by decide +kernel
theorem dX10_weigh_195 : decode cX10_weigh 195 = .ok (.iconst 0, 1) := by decide +kernel
theorem dX10_weigh_196 : decode cX10_weigh 196 = .ok (.invokevirtual 128, 3) := by decide +kernel
theorem dX10_weigh_199 : decode cX10_weigh 199 = .ok (.iload 8, 2) := by decide +kernel
theorem dX10_weigh_201 : decode cX10_weigh 201 = .ok (.ireturn, 1) := by decide +kernel
set_option maxRecDepth 20000 in
theorem ggX10_undo_X10_receives : GoodIn wsX10_undo wsX10_receives := goodIn_r _ [11, 12, 4, 37, 38, 39, 40, 41, 42, 43, 44, 45, 46, 47, 48, 49, 50, 51, 52, 53, 54, 55, 56, 57, 58, 59, 60, 61, 62, 63, 64, 65, 66, 67, 68, 69, 70] (by decide +kernel) (by decide +kernel)
set_option maxRecDepth 20000 in
theorem gX10_undo_X10_receives : GoodIn wsX10_undo (wsV RX10 124 RX10 yX10_receives wsX10_receives) := goodIn_app (goodIn_of _ (by decide +kernel)) ggX10_undo_X10_receives
set_option maxRecDepth 20000 in
theorem ggX10_undo_X10_issues : GoodIn wsX10_undo wsX10_issues := goodIn_r _ [16, 12, 3, 17, 37, 38, 39, 40, 41, 42, 43, 44, 45, 46, 47, 48, 49, 50, 51, 52, 53, 54, 55, 56, 57, 58, 59, 60, 61, 62, 63, 64, 65, 66, 67, 68, 69, 70] (by decide +kernel) (by decide +kernel)
set_option maxRecDepth 20000 in
theorem gX10_undo_X10_issues : GoodIn wsX10_undo (wsV RX10 137 RX10 yX10_issues wsX10_issues) := goodIn_app (goodIn_of _ (by decide +kernel)) ggX10_undo_X10_issues
set_option maxRecDepth 20000 in
theorem ggX10_undo_X10_lends : GoodIn wsX10_undo wsX10_lends := goodIn_r _ [21, 3, 37, 38, 39, 40, 41, 42, 43, 44, 45, 46, 47, 48, 49, 50, 51, 52, 53, 54, 55, 56, 57, 58, 59, 60, 61, 62, 63, 64, 65, 66, 67, 68, 69, 70] (by decide +kernel) (by decide +kernel)
set_option maxRecDepth 20000 in
theorem gX10_undo_X10_lends : GoodIn wsX10_undo (wsV RX10 141 RX10 yX10_lends wsX10_lends) := goodIn_app (goodIn_of _ (by decide +kernel)) ggX10_undo_X10_lends
set_option maxRecDepth 20000 in
theorem ggX10_undo_X10_sells : GoodIn wsX10_undo wsX10_sells := goodIn_r _ [25, 26, 27, 3, 4, 28, 6, 29, 30, 31, 10, 32, 37, 38, 39, 40, 41, 42, 43, 44, 45, 46, 47, 48, 49, 50, 51, 52, 53, 54, 55, 56, 57, 58, 59, 60, 61, 62, 63, 64, 65, 66, 67, 68, 69, 70] (by decide +kernel) (by decide +kernel)
set_option maxRecDepth 20000 in
theorem gX10_undo_X10_sells : GoodIn wsX10_undo (wsV RX10 147 RX10 yX10_sells wsX10_sells) := goodIn_app (goodIn_of _ (by decide +kernel)) ggX10_undo_X10_sells
set_option maxRecDepth 20000 in
theorem ggX10_undo_X10_at : GoodIn wsX10_undo wsX10_at := goodIn_r _ [32] (by decide +kernel) (by decide +kernel)
set_option maxRecDepth 20000 in
theorem gX10_undo_X10_at : GoodIn wsX10_undo (va_wsS RX10 120 yX10_at wsX10_at) := goodIn_app (goodIn_of _ (by decide +kernel)) ggX10_undo_X10_at
set_option maxRecDepth 20000 in
theorem ggX10_undo_X10_loses : GoodIn wsX10_undo wsX10_loses := goodIn_r _ [36, 3, 4, 37, 38, 39, 40, 41, 42, 43, 44, 45, 46, 47, 48, 49, 50, 51, 52, 53, 54, 55, 56, 57, 58, 59, 60, 61, 62, 63, 64, 65, 66, 67, 68, 69, 70] (by decide +kernel) (by decide +kernel)
set_option maxRecDepth 20000 in
theorem gX10_undo_X10_loses : GoodIn wsX10_undo (wsV RX10 151 RX10 yX10_loses wsX10_loses) := goodIn_app (goodIn_of _ (by decide +kernel)) ggX10_undo_X10_loses
theorem dX10_undo_0 : decode cX10_undo 0 = .ok (.aload_n 0, 1) := by decide +kernel
theorem dX10_undo_1 : decode cX10_undo 1 = .ok (.getfield 114, 3) := by decide +kernel
theorem dX10_undo_4 : decode cX10_undo 4 = .ok (.ifCond .ne 6, 3) := by decide +kernel
theorem dX10_undo_7 : decode cX10_undo 7 = .ok (.bipush (-2), 2) := by decide +kernel
theorem dX10_undo_9 : decode cX10_undo 9 = .ok (.ireturn, 1) := by decide +kernel
theorem dX10_undo_10 : decode cX10_undo 10 = .ok (.aload_n 0, 1) := by decide +kernel
theorem dX10_undo_11 : decode cX10_undo 11 = .ok (.dup, 1) := by decide +kernel
theorem dX10_undo_12 : decode cX10_undo 12 = .ok (.getfield 114, 3) := by decide +kernel
theorem dX10_undo_15 : decode cX10_undo 15 = .ok (.iconst 1, 1) := by decide +kernel
theorem dX10_undo_16 : decode cX10_undo 16 = .ok (.isub, 1) := by decide +kernel
theorem dX10_undo_17 : decode cX10_undo 17 = .ok (.putfield 114, 3) := by decide +kernel
theorem dX10_undo_20 : decode cX10_undo 20 = .ok (.aload_n 0, 1) := by decide +kernel
theorem dX10_undo_21 : decode cX10_undo 21 = .ok (.getfield 59, 3) := by decide +kernel
theorem dX10_undo_24 : decode cX10_undo 24 = .ok (.bipush 6, 2) := by decide +kernel
theorem dX10_undo_26 : decode cX10_undo 26 = .ok (.aload_n 0, 1) := by decide +kernel
theorem dX10_undo_27 : decode cX10_undo 27 = .ok (.getfield 114, 3) := by decide +kernel
theorem dX10_undo_30 : decode cX10_undo 30 = .ok (.imul, 1) := by decide +kernel
theorem dX10_undo_31 : decode cX10_undo 31 = .ok (.iaload, 1) := by decide +kernel
theorem dX10_undo_32 : decode cX10_undo 32 = .ok (.istore_n 1, 1) := by decide +kernel
theorem dX10_undo_33 : decode cX10_undo 33 = .ok (.aload_n 0, 1) := by decide +kernel
theorem dX10_undo_34 : decode cX10_undo 34 = .ok (.getfield 59, 3) := by decide +kernel
theorem dX10_undo_37 : decode cX10_undo 37 = .ok (.bipush 6, 2) := by decide +kernel
theorem dX10_undo_39 : decode cX10_undo 39 = .ok (.aload_n 0, 1) := by decide +kernel
theorem dX10_undo_40 : decode cX10_undo 40 = .ok (.getfield 114, 3) := by decide +kernel
theorem dX10_undo_43 : decode cX10_undo 43 = .ok (.imul, 1) := by decide +kernel
theorem dX10_undo_44 : decode cX10_undo 44 = .ok (.iconst 1, 1) := by decide +kernel
theorem dX10_undo_45 : decode cX10_undo 45 = .ok (.iadd, 1) := by decide +kernel
theorem dX10_undo_46 : decode cX10_undo 46 = .ok (.iaload, 1) := by decide +kernel
theorem dX10_undo_47 : decode cX10_undo 47 = .ok (.istore_n 2, 1) := by decide +kernel
theorem dX10_undo_48 : decode cX10_undo 48 = .ok (.aload_n 0, 1) := by decide +kernel
theorem dX10_undo_49 : decode cX10_undo 49 = .ok (.getfield 59, 3) := by decide +kernel
theorem dX10_undo_52 : decode cX10_undo 52 = .ok (.bipush 6, 2) := by decide +kernel
theorem dX10_undo_54 : decode cX10_undo 54 = .ok (.aload_n 0, 1) := by decide +kernel
theorem dX10_undo_55 : decode cX10_undo 55 = .ok (.getfield 114, 3) := by decide +kernel
theorem dX10_undo_58 : decode cX10_undo 58 = .ok (.imul, 1) := by decide +kernel
theorem dX10_undo_59 : decode cX10_undo 59 = .ok (.iconst 2, 1) := by decide +kernel
theorem dX10_undo_60 : decode cX10_undo 60 = .ok (.iadd, 1) := by decide +kernel
theorem dX10_undo_61 : decode cX10_undo 61 = .ok (.iaload, 1) := by decide +kernel
theorem dX10_undo_62 : decode cX10_undo 62 = .ok (.istore_n 3, 1) := by decide +kernel
theorem dX10_undo_63 : decode cX10_undo 63 = .ok (.aload_n 0, 1) := by decide +kernel
theorem dX10_undo_64 : decode cX10_undo 64 = .ok (.getfield 59, 3) := by decide +kernel
theorem dX10_undo_67 : decode cX10_undo 67 = .ok (.bipush 6, 2) := by decide +kernel
theorem dX10_undo_69 : decode cX10_undo 69 = .ok (.aload_n 0, 1) := by decide +kernel
theorem dX10_undo_70 : decode cX10_undo 70 = .ok (.getfield 114, 3) := by decide +kernel
theorem dX10_undo_73 : decode cX10_undo 73 = .ok (.imul, 1) := by decide +kernel
theorem dX10_undo_74 : decode cX10_undo 74 = .ok (.iconst 3, 1) := by decide +kernel
theorem dX10_undo_75 : decode cX10_undo 75 = .ok (.iadd, 1) := by decide +kernel
theorem dX10_undo_76 : decode cX10_undo 76 = .ok (.iaload, 1) := by decide +kernel
theorem dX10_undo_77 : decode cX10_undo 77 = .ok (.istore 4, 2) := by decide +kernel
theorem dX10_undo_79 : decode cX10_undo 79 = .ok (.iload_n 1, 1) := by decide +kernel
theorem dX10_undo_80 : decode cX10_undo 80 = .ok (.ifCond .ne 14, 3) := by decide +kernel
theorem dX10_undo_83 : decode cX10_undo 83 = .ok (.aload_n 0, 1) := by decide +kernel
theorem dX10_undo_84 : decode cX10_undo 84 = .ok (.iload_n 3, 1) := by decide +kernel
theorem dX10_undo_85 : decode cX10_undo 85 = .ok (.iload 4, 2) := by decide +kernel
theorem dX10_undo_87 : decode cX10_undo 87 = .ok (.ineg, 1) := by decide +kernel
theorem dX10_undo_88 : decode cX10_undo 88 = .ok (.invokevirtual 124, 3) := by decide +kernel
theorem dX10_undo_91 : decode cX10_undo 91 = .ok (.goto 136, 3) := by decide +kernel
theorem dX10_undo_94 : decode cX10_undo 94 = .ok (.iload_n 1, 1) := by decide +kernel
theorem dX10_undo_95 : decode cX10_undo 95 = .ok (.iconst 1, 1) := by decide +kernel
theorem dX10_undo_96 : decode cX10_undo 96 = .ok (.if_icmp .ne 15, 3) := by decide +kernel
theorem dX10_undo_99 : decode cX10_undo 99 = .ok (.aload_n 0, 1) := by decide +kernel
theorem dX10_undo_100 : decode cX10_undo 100 = .ok (.iload_n 2, 1) := by decide +kernel
theorem dX10_undo_101 : decode cX10_undo 101 = .ok (.iload_n 3, 1) := by decide +kernel
theorem dX10_undo_102 : decode cX10_undo 102 = .ok (.iload 4, 2) := by decide +kernel
theorem dX10_undo_104 : decode cX10_undo 104 = .ok (.ineg, 1) := by decide +kernel
theorem dX10_undo_105 : decode cX10_undo 105 = .ok (.invokevirtual 137, 3) := by decide +kernel
theorem dX10_undo_108 : decode cX10_undo 108 = .ok (.goto 119, 3) := by decide +kernel
theorem dX10_undo_111 : decode cX10_undo 111 = .ok (.iload_n 1, 1) := by decide +kernel
theorem dX10_undo_112 : decode cX10_undo 112 = .ok (.iconst 2, 1) := by decide +kernel
theorem dX10_undo_113 : decode cX10_undo 113 = .ok (.if_icmp .ne 15, 3) := by decide +kernel
theorem dX10_undo_116 : decode cX10_undo 116 = .ok (.aload_n 0, 1) := by decide +kernel
theorem dX10_undo_117 : decode cX10_undo 117 = .ok (.iload_n 2, 1) := by decide +kernel
theorem dX10_undo_118 : decode cX10_undo 118 = .ok (.iload_n 3, 1) := by decide +kernel
theorem dX10_undo_119 : decode cX10_undo 119 = .ok (.iload 4, 2) := by decide +kernel
theorem dX10_undo_121 : decode cX10_undo 121 = .ok (.ineg, 1) := by decide +kernel
theorem dX10_undo_122 : decode cX10_undo 122 = .ok (.invokevirtual 141, 3) := by decide +kernel
theorem dX10_undo_125 : decode cX10_undo 125 = .ok (.goto 102, 3) := by decide +kernel
theorem dX10_undo_128 : decode cX10_undo 128 = .ok (.iload_n 1, 1) := by decide +kernel
theorem dX10_undo_129 : decode cX10_undo 129 = .ok (.iconst 3, 1) := by decide +kernel
theorem dX10_undo_130 : decode cX10_undo 130 = .ok (.if_icmp .ne 30, 3) := by decide +kernel
theorem dX10_undo_133 : decode cX10_undo 133 = .ok (.aload_n 0, 1) := by decide +kernel
theorem dX10_undo_134 : decode cX10_undo 134 = .ok (.iload_n 2, 1) := by decide +kernel
theorem dX10_undo_135 : decode cX10_undo 135 = .ok (.iload_n 3, 1) := by decide +kernel
theorem dX10_undo_136 : decode cX10_undo 136 = .ok (.iload 4, 2) := by decide +kernel
theorem dX10_undo_138 : decode cX10_undo 138 = .ok (.ineg, 1) := by decide +kernel
theorem dX10_undo_139 : decode cX10_undo 139 = .ok (.aload_n 0, 1) := by decide +kernel
theorem dX10_undo_140 : decode cX10_undo 140 = .ok (.getfield 59, 3) := by decide +kernel
theorem dX10_undo_143 : decode cX10_undo 143 = .ok (.bipush 6, 2) := by decide +kernel
theorem dX10_undo_145 : decode cX10_undo 145 = .ok (.aload_n 0, 1) := by decide +kernel
theorem dX10_undo_146 : decode cX10_undo 146 = .ok (.getfield 114, 3) := by decide +kernel
theorem dX10_undo_149 : decode cX10_undo 149 = .ok (.imul, 1) := by decide +kernel
theorem dX10_undo_150 : decode cX10_undo 150 = .ok (.iconst 4, 1) := by decide +kernel
theorem dX10_undo_151 : decode cX10_undo 151 = .ok (.iadd, 1) := by decide +kernel
theorem dX10_undo_152 : decode cX10_undo 152 = .ok (.iaload, 1) := by decide +kernel
theorem dX10_undo_153 : decode cX10_undo 153 = .ok (.ineg, 1) := by decide +kernel
theorem dX10_undo_154 : decode cX10_undo 154 = .ok (.invokevirtual 147, 3) := by decide +kernel
theorem dX10_undo_157 : decode cX10_undo 157 = .ok (.goto 70, 3) := by decide +kernel
theorem dX10_undo_160 : decode cX10_undo 160 = .ok (.iload_n 1, 1) := by decide +kernel
theorem dX10_undo_161 : decode cX10_undo 161 = .ok (.bipush 6, 2) := by decide +kernel
theorem dX10_undo_163 : decode cX10_undo 163 = .ok (.if_icmp .ne 52, 3) := by decide +kernel
theorem dX10_undo_166 : decode cX10_undo 166 = .ok (.aload_n 0, 1) := by decide +kernel
theorem dX10_undo_167 : decode cX10_undo 167 = .ok (.getfield 35, 3) := by decide +kernel
theorem dX10_undo_170 : decode cX10_undo 170 = .ok (.bipush 10, 2) := by decide +kernel
theorem dX10_undo_172 : decode cX10_undo 172 = .ok (.iload_n 2, 1) := by decide +kernel
theorem dX10_undo_173 : decode cX10_undo 173 = .ok (.imul, 1) := by decide +kernel
theorem dX10_undo_174 : decode cX10_undo 174 = .ok (.iload_n 3, 1) := by decide +kernel
theorem dX10_undo_175 : decode cX10_undo 175 = .ok (.iadd, 1) := by decide +kernel
theorem dX10_undo_176 : decode cX10_undo 176 = .ok (.dup2, 1) := by decide +kernel
theorem dX10_undo_177 : decode cX10_undo 177 = .ok (.iaload, 1) := by decide +kernel
theorem dX10_undo_178 : decode cX10_undo 178 = .ok (.iload 4, 2) := by decide +kernel
theorem dX10_undo_180 : decode cX10_undo 180 = .ok (.iadd, 1) := by decide +kernel
theorem dX10_undo_181 : decode cX10_undo 181 = .ok (.iastore, 1) := by decide +kernel
theorem dX10_undo_182 : decode cX10_undo 182 = .ok (.aload_n 0, 1) := by decide +kernel
theorem dX10_undo_183 : decode cX10_undo 183 = .ok (.getfield 53, 3) := by decide +kernel
theorem dX10_undo_186 : decode cX10_undo 186 = .ok (.iconst 5, 1) := by decide +kernel
theorem dX10_undo_187 : decode cX10_undo 187 = .ok (.iload_n 3, 1) := by decide +kernel
theorem dX10_undo_188 : decode cX10_undo 188 = .ok (.imul, 1) := by decide +kernel
theorem dX10_undo_189 : decode cX10_undo 189 = .ok (.iconst 3, 1) := by decide +kernel
theorem dX10_undo_190 : decode cX10_undo 190 = .ok (.iadd, 1) := by decide +kernel
theorem dX10_undo_191 : decode cX10_undo 191 = .ok (.dup2, 1) := by decide +kernel
theorem dX10_undo_192 : decode cX10_undo 192 = .ok (.iaload, 1) := by decide +kernel
theorem dX10_undo_193 : decode cX10_undo 193 = .ok (.iload 4, 2) := by decide +kernel
theorem dX10_undo_195 : decode cX10_undo 195 = .ok (.isub, 1) := by decide +kernel
theorem dX10_undo_196 : decode cX10_undo 196 = .ok (.iastore, 1) := by decide +kernel
theorem dX10_undo_197 : decode cX10_undo 197 = .ok (.aload_n 0, 1) := by decide +kernel
theorem dX10_undo_198 : decode cX10_undo 198 = .ok (.getfield 41, 3) := by decide +kernel
theorem dX10_undo_201 : decode cX10_undo 201 = .ok (.aload_n 0, 1) := by decide +kernel
theorem dX10_undo_202 : decode cX10_undo 202 = .ok (.getfield 117, 3) := by decide +kernel
theorem dX10_undo_205 : decode cX10_undo 205 = .ok (.iload_n 2, 1) := by decide +kernel
theorem dX10_undo_206 : decode cX10_undo 206 = .ok (.iload_n 3, 1) := by decide +kernel
theorem dX10_undo_207 : decode cX10_undo 207 = .ok (.invokestatic 120, 3) := by decide +kernel
theorem dX10_undo_210 : decode cX10_undo 210 = .ok (.iconst 0, 1) := by decide +kernel
theorem dX10_undo_211 : decode cX10_undo 211 = .ok (.bastore, 1) := by decide +kernel
theorem dX10_undo_212 : decode cX10_undo 212 = .ok (.goto 15, 3) := by decide +kernel
theorem dX10_undo_215 : decode cX10_undo 215 = .ok (.aload_n 0, 1) := by decide +kernel
theorem dX10_undo_216 : decode cX10_undo 216 = .ok (.iload_n 2, 1) := by decide +kernel
theorem dX10_undo_217 : decode cX10_undo 217 = .ok (.iload_n 3, 1) := by decide +kernel
theorem dX10_undo_218 : decode cX10_undo 218 = .ok (.iload_n 1, 1) := by decide +kernel
theorem dX10_undo_219 : decode cX10_undo 219 = .ok (.iconst 4, 1) := by decide +kernel
theorem dX10_undo_220 : decode cX10_undo 220 = .ok (.isub, 1) := by decide +kernel
theorem dX10_undo_221 : decode cX10_undo 221 = .ok (.iload 4, 2) := by decide +kernel
theorem dX10_undo_223 : decode cX10_undo 223 = .ok (.ineg, 1) := by decide +kernel
theorem dX10_undo_224 : decode cX10_undo 224 = .ok (.invokevirtual 151, 3) := by decide +kernel
theorem dX10_undo_227 : decode cX10_undo 227 = .ok (.iload_n 1, 1) := by decide +kernel
theorem dX10_undo_228 : decode cX10_undo 228 = .ok (.ireturn, 1) := by decide +kernel
set_option maxRecDepth 20000 in
theorem ggX10_keeper_X10_isBar : GoodIn wsX10_keeper wsX10_isBar := goodIn_r _ [6, 7, 8, 5, 9] (by decide +kernel) (by decide +kernel)
set_option maxRecDepth 20000 in
theorem gX10_keeper_X10_isBar : GoodIn wsX10_keeper (va_wsS RX10 132 yX10_isBar wsX10_isBar) := goodIn_app (goodIn_of _ (by decide +kernel)) ggX10_keeper_X10_isBar
set_option maxRecDepth 20000 in
theorem ggX10_keeper_X10_in : GoodIn wsX10_keeper wsX10_in := goodIn_r _ [9] (by decide +kernel) (by decide +kernel)
set_option maxRecDepth 20000 in
theorem gX10_keeper_X10_in : GoodIn wsX10_keeper (va_wsS RX10 96 yX10_in wsX10_in) := goodIn_app (goodIn_of _ (by decide +kernel)) ggX10_keeper_X10_in
theorem dX10_keeper_0 : decode cX10_keeper 0 = .ok (.iload_n 1, 1) := by decide +kernel
theorem dX10_keeper_1 : decode cX10_keeper 1 = .ok (.invokestatic 132, 3) := by decide +kernel
theorem dX10_keeper_4 : decode cX10_keeper 4 = .ok (.ifCond .eq 12, 3) := by decide +kernel
theorem dX10_keeper_7 : decode cX10_keeper 7 = .ok (.iload_n 2, 1) := by decide +kernel
theorem dX10_keeper_8 : decode cX10_keeper 8 = .ok (.iconst 0, 1) := by decide +kernel
theorem dX10_keeper_9 : decode cX10_keeper 9 = .ok (.iconst 2, 1) := by decide +kernel
theorem dX10_keeper_10 : decode cX10_keeper 10 = .ok (.invokestatic 96, 3) := by decide +kernel
theorem dX10_keeper_13 : decode cX10_keeper 13 = .ok (.ifCond .ne 5, 3) := by decide +kernel
theorem dX10_keeper_16 : decode cX10_keeper 16 = .ok (.iconst (-1), 1) := by decide +kernel
theorem dX10_keeper_17 : decode cX10_keeper 17 = .ok (.ireturn, 1) := by decide +kernel
theorem dX10_keeper_18 : decode cX10_keeper 18 = .ok (.aload_n 0, 1) := by decide +kernel
theorem dX10_keeper_19 : decode cX10_keeper 19 = .ok (.getfield 50, 3) := by decide +kernel
theorem dX10_keeper_22 : decode cX10_keeper 22 = .ok (.iconst 2, 1) := by decide +kernel
theorem dX10_keeper_23 : decode cX10_keeper 23 = .ok (.aload_n 0, 1) := by decide +kernel
theorem dX10_keeper_24 : decode cX10_keeper 24 = .ok (.getfield 117, 3) := by decide +kernel
theorem dX10_keeper_27 : decode cX10_keeper 27 = .ok (.imul, 1) := by decide +kernel
theorem dX10_keeper_28 : decode cX10_keeper 28 = .ok (.iload_n 1, 1) := by decide +kernel
theorem dX10_keeper_29 : decode cX10_keeper 29 = .ok (.iadd, 1) := by decide +kernel
theorem dX10_keeper_30 : decode cX10_keeper 30 = .ok (.iaload, 1) := by decide +kernel
theorem dX10_keeper_31 : decode cX10_keeper 31 = .ok (.istore_n 3, 1) := by decide +kernel
theorem dX10_keeper_32 : decode cX10_keeper 32 = .ok (.aload_n 0, 1) := by decide +kernel
theorem dX10_keeper_33 : decode cX10_keeper 33 = .ok (.getfield 50, 3) := by decide +kernel
theorem dX10_keeper_36 : decode cX10_keeper 36 = .ok (.iconst 2, 1) := by decide +kernel
theorem dX10_keeper_37 : decode cX10_keeper 37 = .ok (.aload_n 0, 1) := by decide +kernel
theorem dX10_keeper_38 : decode cX10_keeper 38 = .ok (.getfield 117, 3) := by decide +kernel
theorem dX10_keeper_41 : decode cX10_keeper 41 = .ok (.imul, 1) := by decide +kernel
theorem dX10_keeper_42 : decode cX10_keeper 42 = .ok (.iload_n 1, 1) := by decide +kernel
theorem dX10_keeper_43 : decode cX10_keeper 43 = .ok (.iadd, 1) := by decide +kernel
theorem dX10_keeper_44 : decode cX10_keeper 44 = .ok (.iload_n 2, 1) := by decide +kernel
theorem dX10_keeper_45 : decode cX10_keeper 45 = .ok (.iastore, 1) := by decide +kernel
theorem dX10_keeper_46 : decode cX10_keeper 46 = .ok (.iload_n 3, 1) := by decide +kernel
theorem dX10_keeper_47 : decode cX10_keeper 47 = .ok (.ireturn, 1) := by decide +kernel
theorem dX10_night_0 : decode cX10_night 0 = .ok (.aload_n 0, 1) := by decide +kernel
theorem dX10_night_1 : decode cX10_night 1 = .ok (.getfield 117, 3) := by decide +kernel
theorem dX10_night_4 : decode cX10_night 4 = .ok (.bipush 19, 2) := by decide +kernel
theorem dX10_night_6 : decode cX10_night 6 = .ok (.if_icmp .ne 6, 3) := by decide +kernel
theorem dX10_night_9 : decode cX10_night 9 = .ok (.bipush (-3), 2) := by decide +kernel
theorem dX10_night_11 : decode cX10_night 11 = .ok (.ireturn, 1) := by decide +kernel
theorem dX10_night_12 : decode cX10_night 12 = .ok (.aload_n 0, 1) := by decide +kernel
theorem dX10_night_13 : decode cX10_night 13 = .ok (.dup, 1) := by decide +kernel
theorem dX10_night_14 : decode cX10_night 14 = .ok (.getfield 117, 3) := by decide +kernel
theorem dX10_night_17 : decode cX10_night 17 = .ok (.iconst 1, 1) := by decide +kernel
theorem dX10_night_18 : decode cX10_night 18 = .ok (.iadd, 1) := by decide +kernel
theorem dX10_night_19 : decode cX10_night 19 = .ok (.putfield 117, 3) := by decide +kernel
theorem dX10_night_22 : decode cX10_night 22 = .ok (.aload_n 0, 1) := by decide +kernel
theorem dX10_night_23 : decode cX10_night 23 = .ok (.getfield 50, 3) := by decide +kernel
theorem dX10_night_26 : decode cX10_night 26 = .ok (.iconst 2, 1) := by decide +kernel
theorem dX10_night_27 : decode cX10_night 27 = .ok (.aload_n 0, 1) := by decide +kernel
theorem dX10_night_28 : decode cX10_night 28 = .ok (.getfield 117, 3) := by decide +kernel
theorem dX10_night_31 : decode cX10_night 31 = .ok (.imul, 1) := by decide +kernel
theorem dX10_night_32 : decode cX10_night 32 = .ok (.aload_n 0, 1) := by decide +kernel
theorem dX10_night_33 : decode cX10_night 33 = .ok (.getfield 50, 3) := by decide +kernel
theorem dX10_night_36 : decode cX10_night 36 = .ok (.iconst 2, 1) := by decide +kernel
theorem dX10_night_37 : decode cX10_night 37 = .ok (.aload_n 0, 1) := by decide +kernel
theorem dX10_night_38 : decode cX10_night 38 = .ok (.getfield 117, 3) := by decide +kernel
theorem dX10_night_41 : decode cX10_night 41 = .ok (.imul, 1) := by decide +kernel
theorem dX10_night_42 : decode cX10_night 42 = .ok (.iconst 2, 1) := by decide +kernel
theorem dX10_night_43 : decode cX10_night 43 = .ok (.isub, 1) := by decide +kernel
theorem dX10_night_44 : decode cX10_night 44 = .ok (.iaload, 1) := by decide +kernel
theorem dX10_night_45 : decode cX10_night 45 = .ok (.iastore, 1) := by decide +kernel
theorem dX10_night_46 : decode cX10_night 46 = .ok (.aload_n 0, 1) := by decide +kernel
theorem dX10_night_47 : decode cX10_night 47 = .ok (.getfield 50, 3) := by decide +kernel
theorem dX10_night_50 : decode cX10_night 50 = .ok (.iconst 2, 1) := by decide +kernel
theorem dX10_night_51 : decode cX10_night 51 = .ok (.aload_n 0, 1) := by decide +kernel
theorem dX10_night_52 : decode cX10_night 52 = .ok (.getfield 117, 3) := by decide +kernel
theorem dX10_night_55 : decode cX10_night 55 = .ok (.imul, 1) := by decide +kernel
theorem dX10_night_56 : decode cX10_night 56 = .ok (.iconst 1, 1) := by decide +kernel
theorem dX10_night_57 : decode cX10_night 57 = .ok (.iadd, 1) := by decide +kernel
theorem dX10_night_58 : decode cX10_night 58 = .ok (.aload_n 0, 1) := by decide +kernel
theorem dX10_night_59 : decode cX10_night 59 = .ok (.getfield 50, 3) := by decide +kernel
theorem dX10_night_62 : decode cX10_night 62 = .ok (.iconst 2, 1) := by decide +kernel
theorem dX10_night_63 : decode cX10_night 63 = .ok (.aload_n 0, 1) := by decide +kernel
theorem dX10_night_64 : decode cX10_night 64 = .ok (.getfield 117, 3) := by decide +kernel
theorem dX10_night_67 : decode cX10_night 67 = .ok (.imul, 1) := by decide +kernel
theorem dX10_night_68 : decode cX10_night 68 = .ok (.iconst 1, 1) := by decide +kernel
theorem dX10_night_69 : decode cX10_night 69 = .ok (.isub, 1) := by decide +kernel
theorem dX10_night_70 : decode cX10_night 70 = .ok (.iaload, 1) := by decide +kernel
theorem dX10_night_71 : decode cX10_night 71 = .ok (.iastore, 1) := by decide +kernel
theorem dX10_night_72 : decode cX10_night 72 = .ok (.aload_n 0, 1) := by decide +kernel
theorem dX10_night_73 : decode cX10_night 73 = .ok (.iconst 0, 1) := by decide +kernel
theorem dX10_night_74 : decode cX10_night 74 = .ok (.putfield 114, 3) := by decide +kernel
theorem dX10_night_77 : decode cX10_night 77 = .ok (.iconst 0, 1) := by decide +kernel
theorem dX10_night_78 : decode cX10_night 78 = .ok (.istore_n 1, 1) := by decide +kernel
theorem dX10_night_79 : decode cX10_night 79 = .ok (.iload_n 1, 1) := by decide +kernel
theorem dX10_night_80 : decode cX10_night 80 = .ok (.bipush 12, 2) := by decide +kernel
theorem dX10_night_82 : decode cX10_night 82 = .ok (.if_icmp .ge 16, 3) := by decide +kernel
theorem dX10_night_85 : decode cX10_night 85 = .ok (.aload_n 0, 1) := by decide +kernel
theorem dX10_night_86 : decode cX10_night 86 = .ok (.getfield 25, 3) := by decide +kernel
theorem dX10_night_89 : decode cX10_night 89 = .ok (.iload_n 1, 1) := by decide +kernel
theorem dX10_night_90 : decode cX10_night 90 = .ok (.iconst 0, 1) := by decide +kernel
theorem dX10_night_91 : decode cX10_night 91 = .ok (.bastore, 1) := by decide +kernel
theorem dX10_night_92 : decode cX10_night 92 = .ok (.iinc 1 1, 3) := by decide +kernel
theorem dX10_night_95 : decode cX10_night 95 = .ok (.goto (-16), 3) := by decide +kernel
theorem dX10_night_98 : decode cX10_night 98 = .ok (.aload_n 0, 1) := by decide +kernel
theorem dX10_night_99 : decode cX10_night 99 = .ok (.getfield 117, 3) := by decide +kernel
theorem dX10_night_102 : decode cX10_night 102 = .ok (.ireturn, 1) := by decide +kernel
set_option maxRecDepth 20000 in
theorem ggX10_has_X10_in : GoodIn wsX10_has wsX10_in := goodIn_r _ [7] (by decide +kernel) (by decide +kernel)
set_option maxRecDepth 20000 in
theorem gX10_has_X10_in : GoodIn wsX10_has (va_wsS RX10 96 yX10_in wsX10_in) := goodIn_app (goodIn_of _ (by decide +kernel)) ggX10_has_X10_in
set_option maxRecDepth 20000 in
theorem ggX10_has_X10_isKind : GoodIn wsX10_has wsX10_isKind := goodIn_r _ [11, 12, 4, 5, 6, 7, 13, 14, 15, 16, 17, 18, 19, 20, 21, 22, 23, 24, 25, 26, 27, 28, 29, 30, 31, 32, 33, 34, 35, 36, 37, 38, 39, 40, 41, 42, 43, 44, 45, 46] (by decide +kernel) (by decide +kernel)
set_option maxRecDepth 20000 in
theorem gX10_has_X10_isKind : GoodIn wsX10_has (wsV RX10 107 RX10 yX10_isKind wsX10_isKind) := goodIn_app (goodIn_of _ (by decide +kernel)) ggX10_has_X10_isKind
theorem dX10_has_0 : decode cX10_has 0 = .ok (.iload_n 1, 1) := by decide +kernel
theorem dX10_has_1 : decode cX10_has 1 = .ok (.iconst 0, 1) := by decide +kernel
theorem dX10_has_2 : decode cX10_has 2 = .ok (.iconst 2, 1) := by decide +kernel
theorem dX10_has_3 : decode cX10_has 3 = .ok (.invokestatic 96, 3) := by decide +kernel
theorem dX10_has_6 : decode cX10_has 6 = .ok (.ifCond .eq 11, 3) := by decide +kernel
theorem dX10_has_9 : decode cX10_has 9 = .ok (.aload_n 0, 1) := by decide +kernel
theorem dX10_has_10 : decode cX10_has 10 = .ok (.iload_n 2, 1) := by decide +kernel
theorem dX10_has_11 : decode cX10_has 11 = .ok (.invokevirtual 107, 3) := by decide +kernel
theorem dX10_has_14 : decode cX10_has 14 = .ok (.ifCond .ne 6, 3) := by decide +kernel
theorem dX10_has_17 : decode cX10_has 17 = .ok (.ldc 135, 2) := by decide +kernel
theorem dX10_has_19 : decode cX10_has 19 = .ok (.ireturn, 1) := by decide +kernel
theorem dX10_has_20 : decode cX10_has 20 = .ok (.iload_n 1, 1) := by decide +kernel
theorem dX10_has_21 : decode cX10_has 21 = .ok (.iconst 2, 1) := by decide +kernel
theorem dX10_has_22 : decode cX10_has 22 = .ok (.if_icmp .ne 12, 3) := by decide +kernel
theorem dX10_has_25 : decode cX10_has 25 = .ok (.aload_n 0, 1) := by decide +kernel
theorem dX10_has_26 : decode cX10_has 26 = .ok (.getfield 32, 3) := by decide +kernel
theorem dX10_has_29 : decode cX10_has 29 = .ok (.iload_n 2, 1) := by decide +kernel
theorem dX10_has_30 : decode cX10_has 30 = .ok (.iaload, 1) := by decide +kernel
theorem dX10_has_31 : decode cX10_has 31 = .ok (.goto 14, 3) := by decide +kernel
theorem dX10_has_34 : decode cX10_has 34 = .ok (.aload_n 0, 1) := by decide +kernel
theorem dX10_has_35 : decode cX10_has 35 = .ok (.getfield 35, 3) := by decide +kernel
theorem dX10_has_38 : decode cX10_has 38 = .ok (.bipush 10, 2) := by decide +kernel
theorem dX10_has_40 : decode cX10_has 40 = .ok (.iload_n 1, 1) := by decide +kernel
theorem dX10_has_41 : decode cX10_has 41 = .ok (.imul, 1) := by decide +kernel
theorem dX10_has_42 : decode cX10_has 42 = .ok (.iload_n 2, 1) := by decide +kernel
theorem dX10_has_43 : decode cX10_has 43 = .ok (.iadd, 1) := by decide +kernel
theorem dX10_has_44 : decode cX10_has 44 = .ok (.iaload, 1) := by decide +kernel
theorem dX10_has_45 : decode cX10_has 45 = .ok (.ireturn, 1) := by decide +kernel
set_option maxRecDepth 20000 in
theorem ggX10_all_X10_isKind : GoodIn wsX10_all wsX10_isKind := goodIn_r _ [7, 8, 9, 10, 6, 11, 12, 13, 14, 15, 16, 17, 18, 19, 20, 21, 22, 23, 24, 25, 26, 27, 28, 29, 30, 31, 32, 33, 34, 35, 36, 37, 38, 39, 40, 41, 42, 43, 44, 45] (by decide +kernel) (by decide +kernel)
set_option maxRecDepth 20000 in
theorem gX10_all_X10_isKind : GoodIn wsX10_all (wsV RX10 107 RX10 yX10_isKind wsX10_isKind) := goodIn_app (goodIn_of _ (by decide +kernel)) ggX10_all_X10_isKind
set_option maxRecDepth 20000 in
theorem ggX10_all_X10_in : GoodIn wsX10_all wsX10_in := goodIn_r _ [11] (by decide +kernel) (by decide +kernel)
set_option maxRecDepth 20000 in
theorem gX10_all_X10_in : GoodIn wsX10_all (va_wsS RX10 96 yX10_in wsX10_in) := goodIn_app (goodIn_of _ (by decide +kernel)) ggX10_all_X10_in
theorem dX10_all_0 : decode cX10_all 0 = .ok (.aload_n 0, 1) := by decide +kernel
theorem dX10_all_1 : decode cX10_all 1 = .ok (.iload_n 1, 1) := by decide +kernel
theorem dX10_all_2 : decode cX10_all 2 = .ok (.invokevirtual 107, 3) := by decide +kernel
theorem dX10_all_5 : decode cX10_all 5 = .ok (.ifCond .eq 25, 3) := by decide +kernel
theorem dX10_all_8 : decode cX10_all 8 = .ok (.iload_n 2, 1) := by decide +kernel
theorem dX10_all_9 : decode cX10_all 9 = .ok (.iconst 0, 1) := by decide +kernel
theorem dX10_all_10 : decode cX10_all 10 = .ok (.iconst 4, 1) := by decide +kernel
theorem dX10_all_11 : decode cX10_all 11 = .ok (.invokestatic 96, 3) := by decide +kernel
theorem dX10_all_14 : decode cX10_all 14 = .ok (.ifCond .eq 16, 3) := by decide +kernel
theorem dX10_all_17 : decode cX10_all 17 = .ok (.aload_n 0, 1) := by decide +kernel
theorem dX10_all_18 : decode cX10_all 18 = .ok (.getfield 53, 3) := by decide +kernel
theorem dX10_all_21 : decode cX10_all 21 = .ok (.iconst 5, 1) := by decide +kernel
theorem dX10_all_22 : decode cX10_all 22 = .ok (.iload_n 1, 1) := by decide +kernel
theorem dX10_all_23 : decode cX10_all 23 = .ok (.imul, 1) := by decide +kernel
theorem dX10_all_24 : decode cX10_all 24 = .ok (.iload_n 2, 1) := by decide +kernel
theorem dX10_all_25 : decode cX10_all 25 = .ok (.iadd, 1) := by decide +kernel
theorem dX10_all_26 : decode cX10_all 26 = .ok (.iaload, 1) := by decide +kernel
theorem dX10_all_27 : decode cX10_all 27 = .ok (.goto 5, 3) := by decide +kernel
theorem dX10_all_30 : decode cX10_all 30 = .ok (.ldc 135, 2) := by decide +kernel
theorem dX10_all_32 : decode cX10_all 32 = .ok (.ireturn, 1) := by decide +kernel
set_option maxRecDepth 20000 in
theorem ggX10_spanOf_X10_spanNow : GoodIn wsX10_spanOf wsX10_spanNow := goodIn_r _ [7, 8, 9, 10, 11, 12, 13, 14, 15, 16, 17, 18, 19, 20, 21, 22, 23, 24, 25, 26, 27, 28, 29, 30, 31, 32, 33, 34, 35, 36, 37, 38, 39, 40, 41, 42, 43, 44] (by decide +kernel) (by decide +kernel)
set_option maxRecDepth 20000 in
theorem gX10_spanOf_X10_spanNow : GoodIn wsX10_spanOf (wsV RX10 154 RX10 yX10_spanNow wsX10_spanNow) := goodIn_app (goodIn_of _ (by decide +kernel)) ggX10_spanOf_X10_spanNow
theorem dX10_spanOf_0 : decode cX10_spanOf 0 = .ok (.aload_n 0, 1) := by decide +kernel
theorem dX10_spanOf_1 : decode cX10_spanOf 1 = .ok (.getfield 41, 3) := by decide +kernel
theorem dX10_spanOf_4 : decode cX10_spanOf 4 = .ok (.iload_n 1, 1) := by decide +kernel
theorem dX10_spanOf_5 : decode cX10_spanOf 5 = .ok (.baload, 1) := by decide +kernel
theorem dX10_spanOf_6 : decode cX10_spanOf 6 = .ok (.ifCond .eq 12, 3) := by decide +kernel
theorem dX10_spanOf_9 : decode cX10_spanOf 9 = .ok (.aload_n 0, 1) := by decide +kernel
theorem dX10_spanOf_10 : decode cX10_spanOf 10 = .ok (.getfield 47, 3) := by decide +kernel
theorem dX10_spanOf_13 : decode cX10_spanOf 13 = .ok (.iload_n 1, 1) := by decide +kernel
theorem dX10_spanOf_14 : decode cX10_spanOf 14 = .ok (.iaload, 1) := by decide +kernel
theorem dX10_spanOf_15 : decode cX10_spanOf 15 = .ok (.goto 8, 3) := by decide +kernel
theorem dX10_spanOf_18 : decode cX10_spanOf 18 = .ok (.aload_n 0, 1) := by decide +kernel
theorem dX10_spanOf_19 : decode cX10_spanOf 19 = .ok (.iload_n 1, 1) := by decide +kernel
theorem dX10_spanOf_20 : decode cX10_spanOf 20 = .ok (.invokevirtual 154, 3) := by decide +kernel
theorem dX10_spanOf_23 : decode cX10_spanOf 23 = .ok (.ireturn, 1) := by decide +kernel
theorem dX10_spanNow_0 : decode cX10_spanNow 0 = .ok (.iload_n 1, 1) := by decide +kernel
theorem dX10_spanNow_1 : decode cX10_spanNow 1 = .ok (.bipush 10, 2) := by decide +kernel
theorem dX10_spanNow_3 : decode cX10_spanNow 3 = .ok (.irem, 1) := by decide +kernel
theorem dX10_spanNow_4 : decode cX10_spanNow 4 = .ok (.istore_n 2, 1) := by decide +kernel
theorem dX10_spanNow_5 : decode cX10_spanNow 5 = .ok (.aload_n 0, 1) := by decide +kernel
theorem dX10_spanNow_6 : decode cX10_spanNow 6 = .ok (.getfield 29, 3) := by decide +kernel
theorem dX10_spanNow_9 : decode cX10_spanNow 9 = .ok (.iconst 0, 1) := by decide +kernel
theorem dX10_spanNow_10 : decode cX10_spanNow 10 = .ok (.iaload, 1) := by decide +kernel
theorem dX10_spanNow_11 : decode cX10_spanNow 11 = .ok (.bipush 100, 2) := by decide +kernel
theorem dX10_spanNow_13 : decode cX10_spanNow 13 = .ok (.imul, 1) := by decide +kernel
theorem dX10_spanNow_14 : decode cX10_spanNow 14 = .ok (.aload_n 0, 1) := by decide +kernel
theorem dX10_spanNow_15 : decode cX10_spanNow 15 = .ok (.getfield 16, 3) := by decide +kernel
theorem dX10_spanNow_18 : decode cX10_spanNow 18 = .ok (.iload_n 2, 1) := by decide +kernel
theorem dX10_spanNow_19 : decode cX10_spanNow 19 = .ok (.iaload, 1) := by decide +kernel
theorem dX10_spanNow_20 : decode cX10_spanNow 20 = .ok (.iadd, 1) := by decide +kernel
theorem dX10_spanNow_21 : decode cX10_spanNow 21 = .ok (.iconst 1, 1) := by decide +kernel
theorem dX10_spanNow_22 : decode cX10_spanNow 22 = .ok (.isub, 1) := by decide +kernel
theorem dX10_spanNow_23 : decode cX10_spanNow 23 = .ok (.aload_n 0, 1) := by decide +kernel
theorem dX10_spanNow_24 : decode cX10_spanNow 24 = .ok (.getfield 16, 3) := by decide +kernel
theorem dX10_spanNow_27 : decode cX10_spanNow 27 = .ok (.iload_n 2, 1) := by decide +kernel
theorem dX10_spanNow_28 : decode cX10_spanNow 28 = .ok (.iaload, 1) := by decide +kernel
theorem dX10_spanNow_29 : decode cX10_spanNow 29 = .ok (.idiv, 1) := by decide +kernel
theorem dX10_spanNow_30 : decode cX10_spanNow 30 = .ok (.aload_n 0, 1) := by decide +kernel
theorem dX10_spanNow_31 : decode cX10_spanNow 31 = .ok (.getfield 29, 3) := by decide +kernel
theorem dX10_spanNow_34 : decode cX10_spanNow 34 = .ok (.iconst 1, 1) := by decide +kernel
theorem dX10_spanNow_35 : decode cX10_spanNow 35 = .ok (.iaload, 1) := by decide +kernel
theorem dX10_spanNow_36 : decode cX10_spanNow 36 = .ok (.aload_n 0, 1) := by decide +kernel
theorem dX10_spanNow_37 : decode cX10_spanNow 37 = .ok (.getfield 44, 3) := by decide +kernel
theorem dX10_spanNow_40 : decode cX10_spanNow 40 = .ok (.iload_n 1, 1) := by decide +kernel
theorem dX10_spanNow_41 : decode cX10_spanNow 41 = .ok (.iaload, 1) := by decide +kernel
theorem dX10_spanNow_42 : decode cX10_spanNow 42 = .ok (.imul, 1) := by decide +kernel
theorem dX10_spanNow_43 : decode cX10_spanNow 43 = .ok (.iadd, 1) := by decide +kernel
theorem dX10_spanNow_44 : decode cX10_spanNow 44 = .ok (.ireturn, 1) := by decide +kernel
set_option maxRecDepth 20000 in
theorem ggX10_isTold_X10_spanOf : GoodIn wsX10_isTold wsX10_spanOf := goodIn_r _ [7, 2, 8, 9, 10, 11, 6, 12, 13, 14, 15, 16, 17, 18, 19, 20, 21, 22, 23, 24, 25, 26, 27, 28, 29, 30, 31, 32, 33, 34, 35, 36, 37, 38, 39, 40, 41, 42, 43, 44, 45, 46, 47, 48, 49] (by decide +kernel) (by decide +kernel)
set_option maxRecDepth 20000 in
theorem gX10_isTold_X10_spanOf : GoodIn wsX10_isTold (wsV RX10 157 RX10 yX10_spanOf wsX10_spanOf) := goodIn_app (goodIn_of _ (by decide +kernel)) ggX10_isTold_X10_spanOf
theorem dX10_isTold_0 : decode cX10_isTold 0 = .ok (.aload_n 0, 1) := by decide +kernel
theorem dX10_isTold_1 : decode cX10_isTold 1 = .ok (.getfield 38, 3) := by decide +kernel
theorem dX10_isTold_4 : decode cX10_isTold 4 = .ok (.iload_n 1, 1) := by decide +kernel
theorem dX10_isTold_5 : decode cX10_isTold 5 = .ok (.iaload, 1) := by decide +kernel
theorem dX10_isTold_6 : decode cX10_isTold 6 = .ok (.ifCond .ge 13, 3) := by decide +kernel
theorem dX10_isTold_9 : decode cX10_isTold 9 = .ok (.aload_n 0, 1) := by decide +kernel
theorem dX10_isTold_10 : decode cX10_isTold 10 = .ok (.getfield 38, 3) := by decide +kernel
theorem dX10_isTold_13 : decode cX10_isTold 13 = .ok (.iload_n 1, 1) := by decide +kernel
theorem dX10_isTold_14 : decode cX10_isTold 14 = .ok (.iaload, 1) := by decide +kernel
theorem dX10_isTold_15 : decode cX10_isTold 15 = .ok (.ineg, 1) := by decide +kernel
theorem dX10_isTold_16 : decode cX10_isTold 16 = .ok (.goto 9, 3) := by decide +kernel
theorem dX10_isTold_19 : decode cX10_isTold 19 = .ok (.aload_n 0, 1) := by decide +kernel
theorem dX10_isTold_20 : decode cX10_isTold 20 = .ok (.getfield 38, 3) := by decide +kernel
theorem dX10_isTold_23 : decode cX10_isTold 23 = .ok (.iload_n 1, 1) := by decide +kernel
theorem dX10_isTold_24 : decode cX10_isTold 24 = .ok (.iaload, 1) := by decide +kernel
theorem dX10_isTold_25 : decode cX10_isTold 25 = .ok (.istore_n 2, 1) := by decide +kernel
theorem dX10_isTold_26 : decode cX10_isTold 26 = .ok (.aload_n 0, 1) := by decide +kernel
theorem dX10_isTold_27 : decode cX10_isTold 27 = .ok (.getfield 41, 3) := by decide +kernel
theorem dX10_isTold_30 : decode cX10_isTold 30 = .ok (.iload_n 1, 1) := by decide +kernel
theorem dX10_isTold_31 : decode cX10_isTold 31 = .ok (.baload, 1) := by decide +kernel
theorem dX10_isTold_32 : decode cX10_isTold 32 = .ok (.ifCond .eq 16, 3) := by decide +kernel
theorem dX10_isTold_35 : decode cX10_isTold 35 = .ok (.iload_n 2, 1) := by decide +kernel
theorem dX10_isTold_36 : decode cX10_isTold 36 = .ok (.aload_n 0, 1) := by decide +kernel
theorem dX10_isTold_37 : decode cX10_isTold 37 = .ok (.iload_n 1, 1) := by decide +kernel
theorem dX10_isTold_38 : decode cX10_isTold 38 = .ok (.invokevirtual 157, 3) := by decide +kernel
theorem dX10_isTold_41 : decode cX10_isTold 41 = .ok (.if_icmp .le 7, 3) := by decide +kernel
theorem dX10_isTold_44 : decode cX10_isTold 44 = .ok (.iconst 1, 1) := by decide +kernel
theorem dX10_isTold_45 : decode cX10_isTold 45 = .ok (.goto 4, 3) := by decide +kernel
theorem dX10_isTold_48 : decode cX10_isTold 48 = .ok (.iconst 0, 1) := by decide +kernel
theorem dX10_isTold_49 : decode cX10_isTold 49 = .ok (.ireturn, 1) := by decide +kernel
set_option maxRecDepth 20000 in
theorem ggX10_gap_X10_in : GoodIn wsX10_gap wsX10_in := goodIn_r _ [11] (by decide +kernel) (by decide +kernel)
set_option maxRecDepth 20000 in
theorem gX10_gap_X10_in : GoodIn wsX10_gap (va_wsS RX10 96 yX10_in wsX10_in) := goodIn_app (goodIn_of _ (by decide +kernel)) ggX10_gap_X10_in
set_option maxRecDepth 20000 in
theorem ggX10_gap_X10_isBar : GoodIn wsX10_gap wsX10_isBar := goodIn_r _ [14, 8, 9, 10, 11] (by decide +kernel) (by decide +kernel)
set_option maxRecDepth 20000 in
theorem gX10_gap_X10_isBar : GoodIn wsX10_gap (va_wsS RX10 132 yX10_isBar wsX10_isBar) := goodIn_app (goodIn_of _ (by decide +kernel)) ggX10_gap_X10_isBar
set_option maxRecDepth 20000 in
theorem ggX10_gap_X10_isKind : GoodIn wsX10_gap wsX10_isKind := goodIn_r _ [18, 19, 8, 9, 10, 11, 38, 39, 40, 41, 42, 43, 44, 45, 46, 47, 48, 49, 50, 51, 52, 53, 54, 55, 56, 57, 58, 59, 60, 61, 62, 63, 64, 65, 66, 67, 68, 69, 70, 71] (by decide +kernel) (by decide +kernel)
set_option maxRecDepth 20000 in
theorem gX10_gap_X10_isKind : GoodIn wsX10_gap (wsV RX10 107 RX10 yX10_isKind wsX10_isKind) := goodIn_app (goodIn_of _ (by decide +kernel)) ggX10_gap_X10_isKind
set_option maxRecDepth 20000 in
theorem ggX10_gap_X10_at : GoodIn wsX10_gap wsX10_at := goodIn_r _ [22] (by decide +kernel) (by decide +kernel)
set_option maxRecDepth 20000 in
theorem gX10_gap_X10_at : GoodIn wsX10_gap (va_wsS RX10 120 yX10_at wsX10_at) := goodIn_app (goodIn_of _ (by decide +kernel)) ggX10_gap_X10_at
set_option maxRecDepth 20000 in
theorem ggX10_gap_X10_spanOf : GoodIn wsX10_gap wsX10_spanOf := goodIn_r _ [26, 3, 27, 28, 29, 30, 10, 31, 32, 33, 6, 38, 39, 40, 41, 42, 43, 44, 45, 46, 47, 48, 49, 50, 51, 52, 53, 54, 55, 56, 57, 58, 59, 60, 61, 62, 63, 64, 65, 66, 67, 68, 69, 70, 71] (by decide +kernel) (by decide +kernel)
set_option maxRecDepth 20000 in
theorem gX10_gap_X10_spanOf : GoodIn wsX10_gap (wsV RX10 157 RX10 yX10_spanOf wsX10_spanOf) := goodIn_app (goodIn_of _ (by decide +kernel)) ggX10_gap_X10_spanOf
set_option maxRecDepth 20000 in
theorem ggX10_gap_X10_isTold : GoodIn wsX10_gap wsX10_isTold := goodIn_r _ [37, 4, 3, 23, 24, 25, 10, 26, 27, 28, 29, 30, 31, 32, 33, 6, 38, 39, 40, 41, 42, 43, 44, 45, 46, 47, 48, 49, 50, 51, 52, 53, 54, 55, 56, 57, 58, 59, 60, 61, 62, 63, 64, 65, 66, 67, 68, 69, 70, 71] (by decide +kernel) (by decide +kernel)
set_option maxRecDepth 20000 in
theorem gX10_gap_X10_isTold : GoodIn wsX10_gap (wsV RX10 161 RX10 yX10_isTold wsX10_isTold) := goodIn_app (goodIn_of _ (by decide +kernel)) ggX10_gap_X10_isTold
theorem dX10_gap_0 : decode cX10_gap 0 = .ok (.iload_n 1, 1) := by decide +kernel
theorem dX10_gap_1 : decode cX10_gap 1 = .ok (.iconst 0, 1) := by decide +kernel
theorem dX10_gap_2 : decode cX10_gap 2 = .ok (.aload_n 0, 1) := by decide +kernel
theorem dX10_gap_3 : decode cX10_gap 3 = .ok (.getfield 117, 3) := by decide +kernel
theorem dX10_gap_6 : decode cX10_gap 6 = .ok (.invokestatic 96, 3) := by decide +kernel
theorem dX10_gap_9 : decode cX10_gap 9 = .ok (.ifCond .eq 28, 3) := by decide +kernel
theorem dX10_gap_12 : decode cX10_gap 12 = .ok (.iload_n 2, 1) := by decide +kernel
theorem dX10_gap_13 : decode cX10_gap 13 = .ok (.invokestatic 132, 3) := by decide +kernel
theorem dX10_gap_16 : decode cX10_gap 16 = .ok (.ifCond .eq 21, 3) := by decide +kernel
theorem dX10_gap_19 : decode cX10_gap 19 = .ok (.aload_n 0, 1) := by decide +kernel
theorem dX10_gap_20 : decode cX10_gap 20 = .ok (.iload_n 3, 1) := by decide +kernel
theorem dX10_gap_21 : decode cX10_gap 21 = .ok (.invokevirtual 107, 3) := by decide +kernel
theorem dX10_gap_24 : decode cX10_gap 24 = .ok (.ifCond .eq 13, 3) := by decide +kernel
theorem dX10_gap_27 : decode cX10_gap 27 = .ok (.iload 4, 2) := by decide +kernel
theorem dX10_gap_29 : decode cX10_gap 29 = .ok (.iconst 0, 1) := by decide +kernel
theorem dX10_gap_30 : decode cX10_gap 30 = .ok (.iconst 4, 1) := by decide +kernel
theorem dX10_gap_31 : decode cX10_gap 31 = .ok (.invokestatic 96, 3) := by decide +kernel
theorem dX10_gap_34 : decode cX10_gap 34 = .ok (.ifCond .ne 6, 3) := by decide +kernel
theorem dX10_gap_37 : decode cX10_gap 37 = .ok (.ldc 135, 2) := by decide +kernel
theorem dX10_gap_39 : decode cX10_gap 39 = .ok (.ireturn, 1) := by decide +kernel
theorem dX10_gap_40 : decode cX10_gap 40 = .ok (.iload_n 1, 1) := by decide +kernel
theorem dX10_gap_41 : decode cX10_gap 41 = .ok (.iload_n 2, 1) := by decide +kernel
theorem dX10_gap_42 : decode cX10_gap 42 = .ok (.iload_n 3, 1) := by decide +kernel
theorem dX10_gap_43 : decode cX10_gap 43 = .ok (.invokestatic 120, 3) := by decide +kernel
theorem dX10_gap_46 : decode cX10_gap 46 = .ok (.istore 5, 2) := by decide +kernel
theorem dX10_gap_48 : decode cX10_gap 48 = .ok (.iload 4, 2) := by decide +kernel
theorem dX10_gap_50 : decode cX10_gap 50 = .ok (.tableswitch 83 0 3 #[30, 53, 60, 75], 30) := by decide +kernel
theorem dX10_gap_80 : decode cX10_gap 80 = .ok (.aload_n 0, 1) := by decide +kernel
theorem dX10_gap_81 : decode cX10_gap 81 = .ok (.getfield 41, 3) := by decide +kernel
theorem dX10_gap_84 : decode cX10_gap 84 = .ok (.iload 5, 2) := by decide +kernel
theorem dX10_gap_86 : decode cX10_gap 86 = .ok (.baload, 1) := by decide +kernel
theorem dX10_gap_87 : decode cX10_gap 87 = .ok (.ifCond .eq 13, 3) := by decide +kernel
theorem dX10_gap_90 : decode cX10_gap 90 = .ok (.aload_n 0, 1) := by decide +kernel
theorem dX10_gap_91 : decode cX10_gap 91 = .ok (.getfield 38, 3) := by decide +kernel
theorem dX10_gap_94 : decode cX10_gap 94 = .ok (.iload 5, 2) := by decide +kernel
theorem dX10_gap_96 : decode cX10_gap 96 = .ok (.iaload, 1) := by decide +kernel
theorem dX10_gap_97 : decode cX10_gap 97 = .ok (.goto 5, 3) := by decide +kernel
theorem dX10_gap_100 : decode cX10_gap 100 = .ok (.ldc 160, 2) := by decide +kernel
theorem dX10_gap_102 : decode cX10_gap 102 = .ok (.ireturn, 1) := by decide +kernel
theorem dX10_gap_103 : decode cX10_gap 103 = .ok (.aload_n 0, 1) := by decide +kernel
theorem dX10_gap_104 : decode cX10_gap 104 = .ok (.iload 5, 2) := by decide +kernel
theorem dX10_gap_106 : decode cX10_gap 106 = .ok (.invokevirtual 157, 3) := by decide +kernel
theorem dX10_gap_109 : decode cX10_gap 109 = .ok (.ireturn, 1) := by decide +kernel
theorem dX10_gap_110 : decode cX10_gap 110 = .ok (.aload_n 0, 1) := by decide +kernel
theorem dX10_gap_111 : decode cX10_gap 111 = .ok (.iload 5, 2) := by decide +kernel
theorem dX10_gap_113 : decode cX10_gap 113 = .ok (.invokevirtual 161, 3) := by decide +kernel
theorem dX10_gap_116 : decode cX10_gap 116 = .ok (.ifCond .eq 7, 3) := by decide +kernel
theorem dX10_gap_119 : decode cX10_gap 119 = .ok (.iconst 1, 1) := by decide +kernel
theorem dX10_gap_120 : decode cX10_gap 120 = .ok (.goto 4, 3) := by decide +kernel
theorem dX10_gap_123 : decode cX10_gap 123 = .ok (.iconst 0, 1) := by decide +kernel
theorem dX10_gap_124 : decode cX10_gap 124 = .ok (.ireturn, 1) := by decide +kernel
theorem dX10_gap_125 : decode cX10_gap 125 = .ok (.aload_n 0, 1) := by decide +kernel
theorem dX10_gap_126 : decode cX10_gap 126 = .ok (.getfield 44, 3) := by decide +kernel
theorem dX10_gap_129 : decode cX10_gap 129 = .ok (.iload 5, 2) := by decide +kernel
theorem dX10_gap_131 : decode cX10_gap 131 = .ok (.iaload, 1) := by decide +kernel
theorem dX10_gap_132 : decode cX10_gap 132 = .ok (.ireturn, 1) := by decide +kernel
theorem dX10_gap_133 : decode cX10_gap 133 = .ok (.aload_n 0, 1) := by decide +kernel
theorem dX10_gap_134 : decode cX10_gap 134 = .ok (.getfield 50, 3) := by decide +kernel
theorem dX10_gap_137 : decode cX10_gap 137 = .ok (.iconst 2, 1) := by decide +kernel
theorem dX10_gap_138 : decode cX10_gap 138 = .ok (.iload_n 1, 1) := by decide +kernel
theorem dX10_gap_139 : decode cX10_gap 139 = .ok (.imul, 1) := by decide +kernel
theorem dX10_gap_140 : decode cX10_gap 140 = .ok (.iload_n 2, 1) := by decide +kernel
theorem dX10_gap_141 : decode cX10_gap 141 = .ok (.iadd, 1) := by decide +kernel
theorem dX10_gap_142 : decode cX10_gap 142 = .ok (.iaload, 1) := by decide +kernel
theorem dX10_gap_143 : decode cX10_gap 143 = .ok (.ireturn, 1) := by decide +kernel
set_option maxRecDepth 20000 in
theorem ggX10_counts_X10_at : GoodIn wsX10_counts wsX10_at := goodIn_r _ [7] (by decide +kernel) (by decide +kernel)
set_option maxRecDepth 20000 in
theorem gX10_counts_X10_at : GoodIn wsX10_counts (va_wsS RX10 120 yX10_at wsX10_at) := goodIn_app (goodIn_of _ (by decide +kernel)) ggX10_counts_X10_at
theorem dX10_counts_0 : decode cX10_counts 0 = .ok (.iload_n 1, 1) := by decide +kernel
theorem dX10_counts_1 : decode cX10_counts 1 = .ok (.iload_n 2, 1) := by decide +kernel
theorem dX10_counts_2 : decode cX10_counts 2 = .ok (.iload 4, 2) := by decide +kernel
theorem dX10_counts_4 : decode cX10_counts 4 = .ok (.invokestatic 120, 3) := by decide +kernel
theorem dX10_counts_7 : decode cX10_counts 7 = .ok (.istore 5, 2) := by decide +kernel
theorem dX10_counts_9 : decode cX10_counts 9 = .ok (.aload_n 0, 1) := by decide +kernel
theorem dX10_counts_10 : decode cX10_counts 10 = .ok (.getfield 50, 3) := by decide +kernel
theorem dX10_counts_13 : decode cX10_counts 13 = .ok (.iconst 2, 1) := by decide +kernel
theorem dX10_counts_14 : decode cX10_counts 14 = .ok (.iload_n 1, 1) := by decide +kernel
theorem dX10_counts_15 : decode cX10_counts 15 = .ok (.imul, 1) := by decide +kernel
theorem dX10_counts_16 : decode cX10_counts 16 = .ok (.iload_n 2, 1) := by decide +kernel
theorem dX10_counts_17 : decode cX10_counts 17 = .ok (.iadd, 1) := by decide +kernel
theorem dX10_counts_18 : decode cX10_counts 18 = .ok (.iaload, 1) := by decide +kernel
theorem dX10_counts_19 : decode cX10_counts 19 = .ok (.iload_n 3, 1) := by decide +kernel
theorem dX10_counts_20 : decode cX10_counts 20 = .ok (.if_icmp .ne 27, 3) := by decide +kernel
theorem dX10_counts_23 : decode cX10_counts 23 = .ok (.aload_n 0, 1) := by decide +kernel
theorem dX10_counts_24 : decode cX10_counts 24 = .ok (.getfield 41, 3) := by decide +kernel
theorem dX10_counts_27 : decode cX10_counts 27 = .ok (.iload 5, 2) := by decide +kernel
theorem dX10_counts_29 : decode cX10_counts 29 = .ok (.baload, 1) := by decide +kernel
theorem dX10_counts_30 : decode cX10_counts 30 = .ok (.ifCond .eq 17, 3) := by decide +kernel
theorem dX10_counts_33 : decode cX10_counts 33 = .ok (.aload_n 0, 1) := by decide +kernel
theorem dX10_counts_34 : decode cX10_counts 34 = .ok (.getfield 44, 3) := by decide +kernel
theorem dX10_counts_37 : decode cX10_counts 37 = .ok (.iload 5, 2) := by decide +kernel
theorem dX10_counts_39 : decode cX10_counts 39 = .ok (.iaload, 1) := by decide +kernel
theorem dX10_counts_40 : decode cX10_counts 40 = .ok (.ifCond .le 7, 3) := by decide +kernel
theorem dX10_counts_43 : decode cX10_counts 43 = .ok (.iconst 1, 1) := by decide +kernel
theorem dX10_counts_44 : decode cX10_counts 44 = .ok (.goto 4, 3) := by decide +kernel
theorem dX10_counts_47 : decode cX10_counts 47 = .ok (.iconst 0, 1) := by decide +kernel
theorem dX10_counts_48 : decode cX10_counts 48 = .ok (.ireturn, 1) := by decide +kernel
theorem dX10_common_0 : decode cX10_common 0 = .ok (.lload_n 0, 1) := by decide +kernel
theorem dX10_common_1 : decode cX10_common 1 = .ok (.lconst 0, 1) := by decide +kernel
theorem dX10_common_2 : decode cX10_common 2 = .ok (.lcmp, 1) := by decide +kernel
theorem dX10_common_3 : decode cX10_common 3 = .ok (.ifCond .ge 8, 3) := by decide +kernel
theorem dX10_common_6 : decode cX10_common 6 = .ok (.lload_n 0, 1) := by decide +kernel
theorem dX10_common_7 : decode cX10_common 7 = .ok (.lneg, 1) := by decide +kernel
theorem dX10_common_8 : decode cX10_common 8 = .ok (.goto 4, 3) := by decide +kernel
theorem dX10_common_11 : decode cX10_common 11 = .ok (.lload_n 0, 1) := by decide +kernel
theorem dX10_common_12 : decode cX10_common 12 = .ok (.lstore 4, 2) := by decide +kernel
theorem dX10_common_14 : decode cX10_common 14 = .ok (.lload_n 2, 1) := by decide +kernel
theorem dX10_common_15 : decode cX10_common 15 = .ok (.lstore 6, 2) := by decide +kernel
theorem dX10_common_17 : decode cX10_common 17 = .ok (.lload 6, 2) := by decide +kernel
theorem dX10_common_19 : decode cX10_common 19 = .ok (.lconst 0, 1) := by decide +kernel
theorem dX10_common_20 : decode cX10_common 20 = .ok (.lcmp, 1) := by decide +kernel
theorem dX10_common_21 : decode cX10_common 21 = .ok (.ifCond .eq 21, 3) := by decide +kernel
theorem dX10_common_24 : decode cX10_common 24 = .ok (.lload 4, 2) := by decide +kernel
theorem dX10_common_26 : decode cX10_common 26 = .ok (.lload 6, 2) := by decide +kernel
theorem dX10_common_28 : decode cX10_common 28 = .ok (.lrem, 1) := by decide +kernel
theorem dX10_common_29 : decode cX10_common 29 = .ok (.lstore 8, 2) := by decide +kernel
theorem dX10_common_31 : decode cX10_common 31 = .ok (.lload 6, 2) := by decide +kernel
theorem dX10_common_33 : decode cX10_common 33 = .ok (.lstore 4, 2) := by decide +kernel
theorem dX10_common_35 : decode cX10_common 35 = .ok (.lload 8, 2) := by decide +kernel
theorem dX10_common_37 : decode cX10_common 37 = .ok (.lstore 6, 2) := by decide +kernel
theorem dX10_common_39 : decode cX10_common 39 = .ok (.goto (-22), 3) := by decide +kernel
theorem dX10_common_42 : decode cX10_common 42 = .ok (.lload 4, 2) := by decide +kernel
theorem dX10_common_44 : decode cX10_common 44 = .ok (.lreturn, 1) := by decide +kernel
set_option maxRecDepth 20000 in
theorem ggX10_over_X10_in : GoodIn wsX10_over wsX10_in := goodIn_r _ [9] (by decide +kernel) (by decide +kernel)
set_option maxRecDepth 20000 in
theorem gX10_over_X10_in : GoodIn wsX10_over (va_wsS RX10 96 yX10_in wsX10_in) := goodIn_app (goodIn_of _ (by decide +kernel)) ggX10_over_X10_in
set_option maxRecDepth 20000 in
theorem ggX10_over_X10_isKind : GoodIn wsX10_over wsX10_isKind := goodIn_r _ [13, 14, 6, 7, 8, 9, 27, 28, 29, 30, 31, 32, 33, 34, 35, 36, 37, 38, 39, 40, 41, 42, 43, 44, 45, 46, 47, 48, 49, 50, 51, 52, 53, 54, 55, 56, 57, 58, 59, 60] (by decide +kernel) (by decide +kernel)
set_option maxRecDepth 20000 in
theorem gX10_over_X10_isKind : GoodIn wsX10_over (wsV RX10 107 RX10 yX10_isKind wsX10_isKind) := goodIn_app (goodIn_of _ (by decide +kernel)) ggX10_over_X10_isKind
set_option maxRecDepth 20000 in
theorem ggX10_over_X10_counts : GoodIn wsX10_over wsX10_counts := goodIn_r _ [18, 19, 20, 3, 21, 22, 8, 23, 27, 28, 29, 30, 31, 32, 33, 34, 35, 36, 37, 38, 39, 40, 41, 42, 43, 44, 45, 46, 47, 48, 49, 50, 51, 52, 53, 54, 55, 56, 57, 58, 59, 60] (by decide +kernel) (by decide +kernel)
set_option maxRecDepth 20000 in
theorem gX10_over_X10_counts : GoodIn wsX10_over (wsV RX10 166 RX10 yX10_counts wsX10_counts) := goodIn_app (goodIn_of _ (by decide +kernel)) ggX10_over_X10_counts
set_option maxRecDepth 20000 in
theorem ggX10_over_X10_at : GoodIn wsX10_over wsX10_at := goodIn_r _ [23] (by decide +kernel) (by decide +kernel)
set_option maxRecDepth 20000 in
theorem gX10_over_X10_at : GoodIn wsX10_over (va_wsS RX10 120 yX10_at wsX10_at) := goodIn_app (goodIn_of _ (by decide +kernel)) ggX10_over_X10_at
set_option maxRecDepth 20000 in
theorem ggX10_over_X10_common : GoodIn wsX10_over wsX10_common := goodIn_r _ [26] (by decide +kernel) (by decide +kernel)
set_option maxRecDepth 20000 in
theorem gX10_over_X10_common : GoodIn wsX10_over (va_wsS RX10 172 yX10_common wsX10_common) := goodIn_app (goodIn_of _ (by decide +kernel)) ggX10_over_X10_common
theorem dX10_over_0 : decode cX10_over 0 = .ok (.iload_n 1, 1) := by decide +kernel
theorem dX10_over_1 : decode cX10_over 1 = .ok (.iconst 0, 1) := by decide +kernel
theorem dX10_over_2 : decode cX10_over 2 = .ok (.iconst 2, 1) := by decide +kernel
theorem dX10_over_3 : decode cX10_over 3 = .ok (.invokestatic 96, 3) := by decide +kernel
theorem dX10_over_6 : decode cX10_over 6 = .ok (.ifCond .eq 20, 3) := by decide +kernel
theorem dX10_over_9 : decode cX10_over 9 = .ok (.aload_n 0, 1) := by decide +kernel
theorem dX10_over_10 : decode cX10_over 10 = .ok (.iload_n 2, 1) := by decide +kernel
theorem dX10_over_11 : decode cX10_over 11 = .ok (.invokevirtual 107, 3) := by decide +kernel
theorem dX10_over_14 : decode cX10_over 14 = .ok (.ifCond .eq 12, 3) := by decide +kernel
theorem dX10_over_17 : decode cX10_over 17 = .ok (.iload_n 3, 1) := by decide +kernel
theorem dX10_over_18 : decode cX10_over 18 = .ok (.iconst 0, 1) := by decide +kernel
theorem dX10_over_19 : decode cX10_over 19 = .ok (.iconst 1, 1) := by decide +kernel
theorem dX10_over_20 : decode cX10_over 20 = .ok (.invokestatic 96, 3) := by decide +kernel
theorem dX10_over_23 : decode cX10_over 23 = .ok (.ifCond .ne 7, 3) := by decide +kernel
theorem dX10_over_26 : decode cX10_over 26 = .ok (.ldc2_w 164, 3) := by decide +kernel
theorem dX10_over_29 : decode cX10_over 29 = .ok (.lreturn, 1) := by decide +kernel
theorem dX10_over_30 : decode cX10_over 30 = .ok (.iconst 0, 1) := by decide +kernel
theorem dX10_over_31 : decode cX10_over 31 = .ok (.istore 4, 2) := by decide +kernel
theorem dX10_over_33 : decode cX10_over 33 = .ok (.lconst 0, 1) := by decide +kernel
theorem dX10_over_34 : decode cX10_over 34 = .ok (.lstore 5, 2) := by decide +kernel
theorem dX10_over_36 : decode cX10_over 36 = .ok (.lconst 0, 1) := by decide +kernel
theorem dX10_over_37 : decode cX10_over 37 = .ok (.lstore 7, 2) := by decide +kernel
theorem dX10_over_39 : decode cX10_over 39 = .ok (.iconst 0, 1) := by decide +kernel
theorem dX10_over_40 : decode cX10_over 40 = .ok (.istore 9, 2) := by decide +kernel
theorem dX10_over_42 : decode cX10_over 42 = .ok (.iload 9, 2) := by decide +kernel
theorem dX10_over_44 : decode cX10_over 44 = .ok (.aload_n 0, 1) := by decide +kernel
theorem dX10_over_45 : decode cX10_over 45 = .ok (.getfield 117, 3) := by decide +kernel
theorem dX10_over_48 : decode cX10_over 48 = .ok (.if_icmp .gt 88, 3) := by decide +kernel
theorem dX10_over_51 : decode cX10_over 51 = .ok (.iconst 0, 1) := by decide +kernel
theorem dX10_over_52 : decode cX10_over 52 = .ok (.istore 10, 2) := by decide +kernel
theorem dX10_over_54 : decode cX10_over 54 = .ok (.iload 10, 2) := by decide +kernel
theorem dX10_over_56 : decode cX10_over 56 = .ok (.iconst 2, 1) := by decide +kernel
theorem dX10_over_57 : decode cX10_over 57 = .ok (.if_icmp .ge 73, 3) := by decide +kernel
theorem dX10_over_60 : decode cX10_over 60 = .ok (.aload_n 0, 1) := by decide +kernel
theorem dX10_over_61 : decode cX10_over 61 = .ok (.iload 9, 2) := by decide +kernel
theorem dX10_over_63 : decode cX10_over 63 = .ok (.iload 10, 2) := by decide +kernel
theorem dX10_over_65 : decode cX10_over 65 = .ok (.iload_n 1, 1) := by decide +kernel
theorem dX10_over_66 : decode cX10_over 66 = .ok (.iload_n 2, 1) := by decide +kernel
theorem dX10_over_67 : decode cX10_over 67 = .ok (.invokevirtual 166, 3) := by decide +kernel
theorem dX10_over_70 : decode cX10_over 70 = .ok (.ifCond .eq 54, 3) := by decide +kernel
theorem dX10_over_73 : decode cX10_over 73 = .ok (.aload_n 0, 1) := by decide +kernel
theorem dX10_over_74 : decode cX10_over 74 = .ok (.getfield 44, 3) := by decide +kernel
theorem dX10_over_77 : decode cX10_over 77 = .ok (.iload 9, 2) := by decide +kernel
theorem dX10_over_79 : decode cX10_over 79 = .ok (.iload 10, 2) := by decide +kernel
theorem dX10_over_81 : decode cX10_over 81 = .ok (.iload_n 2, 1) := by decide +kernel
theorem dX10_over_82 : decode cX10_over 82 = .ok (.invokestatic 120, 3) := by decide +kernel
theorem dX10_over_85 : decode cX10_over 85 = .ok (.iaload, 1) := by decide +kernel
theorem dX10_over_86 : decode cX10_over 86 = .ok (.i2l, 1) := by decide +kernel
theorem dX10_over_87 : decode cX10_over 87 = .ok (.lstore 11, 2) := by decide +kernel
theorem dX10_over_89 : decode cX10_over 89 = .ok (.iinc 4 1, 3) := by decide +kernel
theorem dX10_over_92 : decode cX10_over 92 = .ok (.lload 5, 2) := by decide +kernel
theorem dX10_over_94 : decode cX10_over 94 = .ok (.aload_n 0, 1) := by decide +kernel
theorem dX10_over_95 : decode cX10_over 95 = .ok (.getfield 38, 3) := by decide +kernel
theorem dX10_over_98 : decode cX10_over 98 = .ok (.iload 9, 2) := by decide +kernel
theorem dX10_over_100 : decode cX10_over 100 = .ok (.iload 10, 2) := by decide +kernel
theorem dX10_over_102 : decode cX10_over 102 = .ok (.iload_n 2, 1) := by decide +kernel
theorem dX10_over_103 : decode cX10_over 103 = .ok (.invokestatic 120, 3) := by decide +kernel
theorem dX10_over_106 : decode cX10_over 106 = .ok (.iaload, 1) := by decide +kernel
theorem dX10_over_107 : decode cX10_over 107 = .ok (.i2l, 1) := by decide +kernel
theorem dX10_over_108 : decode cX10_over 108 = .ok (.lload 11, 2) := by decide +kernel
theorem dX10_over_110 : decode cX10_over 110 = .ok (.lmul, 1) := by decide +kernel
theorem dX10_over_111 : decode cX10_over 111 = .ok (.ladd, 1) := by decide +kernel
theorem dX10_over_112 : decode cX10_over 112 = .ok (.lstore 5, 2) := by decide +kernel
theorem dX10_over_114 : decode cX10_over 114 = .ok (.lload 7, 2) := by decide +kernel
theorem dX10_over_116 : decode cX10_over 116 = .ok (.lload 11, 2) := by decide +kernel
theorem dX10_over_118 : decode cX10_over 118 = .ok (.lload 11, 2) := by decide +kernel
theorem dX10_over_120 : decode cX10_over 120 = .ok (.lmul, 1) := by decide +kernel
theorem dX10_over_121 : decode cX10_over 121 = .ok (.ladd, 1) := by decide +kernel
theorem dX10_over_122 : decode cX10_over 122 = .ok (.lstore 7, 2) := by decide +kernel
theorem dX10_over_124 : decode cX10_over 124 = .ok (.iinc 10 1, 3) := by decide +kernel
theorem dX10_over_127 : decode cX10_over 127 = .ok (.goto (-73), 3) := by decide +kernel
theorem dX10_over_130 : decode cX10_over 130 = .ok (.iinc 9 1, 3) := by decide +kernel
theorem dX10_over_133 : decode cX10_over 133 = .ok (.goto (-91), 3) := by decide +kernel
theorem dX10_over_136 : decode cX10_over 136 = .ok (.iload 4, 2) := by decide +kernel
theorem dX10_over_138 : decode cX10_over 138 = .ok (.iconst 3, 1) := by decide +kernel
theorem dX10_over_139 : decode cX10_over 139 = .ok (.if_icmp .ge 9, 3) := by decide +kernel
theorem dX10_over_142 : decode cX10_over 142 = .ok (.ldc2_w 170, 3) := by decide +kernel
theorem dX10_over_145 : decode cX10_over 145 = .ok (.goto 22, 3) := by decide +kernel
theorem dX10_over_148 : decode cX10_over 148 = .ok (.iload_n 3, 1) := by decide +kernel
theorem dX10_over_149 : decode cX10_over 149 = .ok (.ifCond .ne 8, 3) := by decide +kernel
theorem dX10_over_152 : decode cX10_over 152 = .ok (.lload 5, 2) := by decide +kernel
theorem dX10_over_154 : decode cX10_over 154 = .ok (.goto 5, 3) := by decide +kernel
theorem dX10_over_157 : decode cX10_over 157 = .ok (.lload 7, 2) := by decide +kernel
theorem dX10_over_159 : decode cX10_over 159 = .ok (.lload 5, 2) := by decide +kernel
theorem dX10_over_161 : decode cX10_over 161 = .ok (.lload 7, 2) := by decide +kernel
theorem dX10_over_163 : decode cX10_over 163 = .ok (.invokestatic 172, 3) := by decide +kernel
theorem dX10_over_166 : decode cX10_over 166 = .ok (.ldiv, 1) := by decide +kernel
theorem dX10_over_167 : decode cX10_over 167 = .ok (.lreturn, 1) := by decide +kernel
set_option maxRecDepth 20000 in
theorem ggX10_leans_X10_in : GoodIn wsX10_leans wsX10_in := goodIn_r _ [5] (by decide +kernel) (by decide +kernel)
set_option maxRecDepth 20000 in
theorem gX10_leans_X10_in : GoodIn wsX10_leans (va_wsS RX10 96 yX10_in wsX10_in) := goodIn_app (goodIn_of _ (by decide +kernel)) ggX10_leans_X10_in
set_option maxRecDepth 20000 in
theorem ggX10_leans_X10_isKind : GoodIn wsX10_leans wsX10_isKind := goodIn_r _ [9, 10, 2, 3, 4, 5, 37, 38, 39, 40, 41, 42, 43, 44, 45, 46, 47, 48, 49, 50, 51, 52, 53, 54, 55, 56, 57, 58, 59, 60, 61, 62, 63, 64, 65, 66, 67, 68, 69, 70] (by decide +kernel) (by decide +kernel)
set_option maxRecDepth 20000 in
theorem gX10_leans_X10_isKind : GoodIn wsX10_leans (wsV RX10 107 RX10 yX10_isKind wsX10_isKind) := goodIn_app (goodIn_of _ (by decide +kernel)) ggX10_leans_X10_isKind
set_option maxRecDepth 20000 in
theorem ggX10_leans_X10_counts : GoodIn wsX10_leans wsX10_counts := goodIn_r _ [14, 15, 16, 17, 18, 19, 4, 20, 37, 38, 39, 40, 41, 42, 43, 44, 45, 46, 47, 48, 49, 50, 51, 52, 53, 54, 55, 56, 57, 58, 59, 60, 61, 62, 63, 64, 65, 66, 67, 68, 69, 70] (by decide +kernel) (by decide +kernel)
set_option maxRecDepth 20000 in
theorem gX10_leans_X10_counts : GoodIn wsX10_leans (wsV RX10 166 RX10 yX10_counts wsX10_counts) := goodIn_app (goodIn_of _ (by decide +kernel)) ggX10_leans_X10_counts
set_option maxRecDepth 20000 in
theorem ggX10_leans_X10_at : GoodIn wsX10_leans wsX10_at := goodIn_r _ [20] (by decide +kernel) (by decide +kernel)
set_option maxRecDepth 20000 in
theorem gX10_leans_X10_at : GoodIn wsX10_leans (va_wsS RX10 120 yX10_at wsX10_at) := goodIn_app (goodIn_of _ (by decide +kernel)) ggX10_leans_X10_at
set_option maxRecDepth 20000 in
theorem ggX10_leans_X10_isTold : GoodIn wsX10_leans wsX10_isTold := goodIn_r _ [24, 25, 16, 26, 27, 28, 4, 29, 30, 31, 32, 33, 34, 35, 36, 17, 37, 38, 39, 40, 41, 42, 43, 44, 45, 46, 47, 48, 49, 50, 51, 52, 53, 54, 55, 56, 57, 58, 59, 60, 61, 62, 63, 64, 65, 66, 67, 68, 69, 70] (by decide +kernel) (by decide +kernel)
set_option maxRecDepth 20000 in
theorem gX10_leans_X10_isTold : GoodIn wsX10_leans (wsV RX10 161 RX10 yX10_isTold wsX10_isTold) := goodIn_app (goodIn_of _ (by decide +kernel)) ggX10_leans_X10_isTold
theorem dX10_leans_0 : decode cX10_leans 0 = .ok (.iload_n 1, 1) := by decide +kernel
theorem dX10_leans_1 : decode cX10_leans 1 = .ok (.iconst 0, 1) := by decide +kernel
theorem dX10_leans_2 : decode cX10_leans 2 = .ok (.iconst 2, 1) := by decide +kernel
theorem dX10_leans_3 : decode cX10_leans 3 = .ok (.invokestatic 96, 3) := by decide +kernel
theorem dX10_leans_6 : decode cX10_leans 6 = .ok (.ifCond .eq 11, 3) := by decide +kernel
theorem dX10_leans_9 : decode cX10_leans 9 = .ok (.aload_n 0, 1) := by decide +kernel
theorem dX10_leans_10 : decode cX10_leans 10 = .ok (.iload_n 2, 1) := by decide +kernel
theorem dX10_leans_11 : decode cX10_leans 11 = .ok (.invokevirtual 107, 3) := by decide +kernel
theorem dX10_leans_14 : decode cX10_leans 14 = .ok (.ifCond .ne 5, 3) := by decide +kernel
theorem dX10_leans_17 : decode cX10_leans 17 = .ok (.iconst (-1), 1) := by decide +kernel
theorem dX10_leans_18 : decode cX10_leans 18 = .ok (.ireturn, 1) := by decide +kernel
theorem dX10_leans_19 : decode cX10_leans 19 = .ok (.iconst 0, 1) := by decide +kernel
theorem dX10_leans_20 : decode cX10_leans 20 = .ok (.istore_n 3, 1) := by decide +kernel
theorem dX10_leans_21 : decode cX10_leans 21 = .ok (.iconst 0, 1) := by decide +kernel
theorem dX10_leans_22 : decode cX10_leans 22 = .ok (.istore 4, 2) := by decide +kernel
theorem dX10_leans_24 : decode cX10_leans 24 = .ok (.iload 4, 2) := by decide +kernel
theorem dX10_leans_26 : decode cX10_leans 26 = .ok (.aload_n 0, 1) := by decide +kernel
theorem dX10_leans_27 : decode cX10_leans 27 = .ok (.getfield 117, 3) := by decide +kernel
theorem dX10_leans_30 : decode cX10_leans 30 = .ok (.if_icmp .gt 60, 3) := by decide +kernel
theorem dX10_leans_33 : decode cX10_leans 33 = .ok (.iconst 0, 1) := by decide +kernel
theorem dX10_leans_34 : decode cX10_leans 34 = .ok (.istore 5, 2) := by decide +kernel
theorem dX10_leans_36 : decode cX10_leans 36 = .ok (.iload 5, 2) := by decide +kernel
theorem dX10_leans_38 : decode cX10_leans 38 = .ok (.iconst 2, 1) := by decide +kernel
theorem dX10_leans_39 : decode cX10_leans 39 = .ok (.if_icmp .ge 45, 3) := by decide +kernel
theorem dX10_leans_42 : decode cX10_leans 42 = .ok (.iload_n 3, 1) := by decide +kernel
theorem dX10_leans_43 : decode cX10_leans 43 = .ok (.aload_n 0, 1) := by decide +kernel
theorem dX10_leans_44 : decode cX10_leans 44 = .ok (.iload 4, 2) := by decide +kernel
theorem dX10_leans_46 : decode cX10_leans 46 = .ok (.iload 5, 2) := by decide +kernel
theorem dX10_leans_48 : decode cX10_leans 48 = .ok (.iload_n 1, 1) := by decide +kernel
theorem dX10_leans_49 : decode cX10_leans 49 = .ok (.iload_n 2, 1) := by decide +kernel
theorem dX10_leans_50 : decode cX10_leans 50 = .ok (.invokevirtual 166, 3) := by decide +kernel
theorem dX10_leans_53 : decode cX10_leans 53 = .ok (.ifCond .eq 22, 3) := by decide +kernel
theorem dX10_leans_56 : decode cX10_leans 56 = .ok (.aload_n 0, 1) := by decide +kernel
theorem dX10_leans_57 : decode cX10_leans 57 = .ok (.iload 4, 2) := by decide +kernel
theorem dX10_leans_59 : decode cX10_leans 59 = .ok (.iload 5, 2) := by decide +kernel
theorem dX10_leans_61 : decode cX10_leans 61 = .ok (.iload_n 2, 1) := by decide +kernel
theorem dX10_leans_62 : decode cX10_leans 62 = .ok (.invokestatic 120, 3) := by decide +kernel
theorem dX10_leans_65 : decode cX10_leans 65 = .ok (.invokevirtual 161, 3) := by decide +kernel
theorem dX10_leans_68 : decode cX10_leans 68 = .ok (.ifCond .eq 7, 3) := by decide +kernel
theorem dX10_leans_71 : decode cX10_leans 71 = .ok (.iconst 1, 1) := by decide +kernel
theorem dX10_leans_72 : decode cX10_leans 72 = .ok (.goto 4, 3) := by decide +kernel
theorem dX10_leans_75 : decode cX10_leans 75 = .ok (.iconst 0, 1) := by decide +kernel
theorem dX10_leans_76 : decode cX10_leans 76 = .ok (.iadd, 1) := by decide +kernel
theorem dX10_leans_77 : decode cX10_leans 77 = .ok (.istore_n 3, 1) := by decide +kernel
theorem dX10_leans_78 : decode cX10_leans 78 = .ok (.iinc 5 1, 3) := by decide +kernel
theorem dX10_leans_81 : decode cX10_leans 81 = .ok (.goto (-45), 3) := by decide +kernel
theorem dX10_leans_84 : decode cX10_leans 84 = .ok (.iinc 4 1, 3) := by decide +kernel
theorem dX10_leans_87 : decode cX10_leans 87 = .ok (.goto (-63), 3) := by decide +kernel
theorem dX10_leans_90 : decode cX10_leans 90 = .ok (.iload_n 3, 1) := by decide +kernel
theorem dX10_leans_91 : decode cX10_leans 91 = .ok (.ireturn, 1) := by decide +kernel
set_option maxRecDepth 20000 in
theorem ggX10_takings_X10_isBar : GoodIn wsX10_takings wsX10_isBar := goodIn_r _ [5, 6, 7, 4, 8] (by decide +kernel) (by decide +kernel)
set_option maxRecDepth 20000 in
theorem gX10_takings_X10_isBar : GoodIn wsX10_takings (va_wsS RX10 132 yX10_isBar wsX10_isBar) := goodIn_app (goodIn_of _ (by decide +kernel)) ggX10_takings_X10_isBar
theorem dX10_takings_0 : decode cX10_takings 0 = .ok (.iload_n 1, 1) := by decide +kernel
theorem dX10_takings_1 : decode cX10_takings 1 = .ok (.invokestatic 132, 3) := by decide +kernel
theorem dX10_takings_4 : decode cX10_takings 4 = .ok (.ifCond .eq 12, 3) := by decide +kernel
theorem dX10_takings_7 : decode cX10_takings 7 = .ok (.aload_n 0, 1) := by decide +kernel
theorem dX10_takings_8 : decode cX10_takings 8 = .ok (.getfield 56, 3) := by decide +kernel
theorem dX10_takings_11 : decode cX10_takings 11 = .ok (.iload_n 1, 1) := by decide +kernel
theorem dX10_takings_12 : decode cX10_takings 12 = .ok (.iaload, 1) := by decide +kernel
theorem dX10_takings_13 : decode cX10_takings 13 = .ok (.goto 4, 3) := by decide +kernel
theorem dX10_takings_16 : decode cX10_takings 16 = .ok (.iconst (-1), 1) := by decide +kernel
theorem dX10_takings_17 : decode cX10_takings 17 = .ok (.ireturn, 1) := by decide +kernel
set_option maxRecDepth 20000 in
theorem ggX10_foretell_X10_in : GoodIn wsX10_foretell wsX10_in := goodIn_r _ [7] (by decide +kernel) (by decide +kernel)
set_option maxRecDepth 20000 in
theorem gX10_foretell_X10_in : GoodIn wsX10_foretell (va_wsS RX10 96 yX10_in wsX10_in) := goodIn_app (goodIn_of _ (by decide +kernel)) ggX10_foretell_X10_in
theorem dX10_foretell_0 : decode cX10_foretell 0 = .ok (.iload_n 1, 1) := by decide +kernel
theorem dX10_foretell_1 : decode cX10_foretell 1 = .ok (.iconst 0, 1) := by decide +kernel
theorem dX10_foretell_2 : decode cX10_foretell 2 = .ok (.sipush 200, 3) := by decide +kernel
theorem dX10_foretell_5 : decode cX10_foretell 5 = .ok (.invokestatic 96, 3) := by decide +kernel
theorem dX10_foretell_8 : decode cX10_foretell 8 = .ok (.ifCond .eq 13, 3) := by decide +kernel
theorem dX10_foretell_11 : decode cX10_foretell 11 = .ok (.iload_n 2, 1) := by decide +kernel
theorem dX10_foretell_12 : decode cX10_foretell 12 = .ok (.iconst 1, 1) := by decide +kernel
theorem dX10_foretell_13 : decode cX10_foretell 13 = .ok (.bipush 100, 2) := by decide +kernel
theorem dX10_foretell_15 : decode cX10_foretell 15 = .ok (.invokestatic 96, 3) := by decide +kernel
theorem dX10_foretell_18 : decode cX10_foretell 18 = .ok (.ifCond .ne 5, 3) := by decide +kernel
theorem dX10_foretell_21 : decode cX10_foretell 21 = .ok (.iconst (-1), 1) := by decide +kernel
theorem dX10_foretell_22 : decode cX10_foretell 22 = .ok (.ireturn, 1) := by decide +kernel
theorem dX10_foretell_23 : decode cX10_foretell 23 = .ok (.aload_n 0, 1) := by decide +kernel
theorem dX10_foretell_24 : decode cX10_foretell 24 = .ok (.getfield 176, 3) := by decide +kernel
theorem dX10_foretell_27 : decode cX10_foretell 27 = .ok (.bipush 8, 2) := by decide +kernel
theorem dX10_foretell_29 : decode cX10_foretell 29 = .ok (.if_icmp .ne 6, 3) := by decide +kernel
theorem dX10_foretell_32 : decode cX10_foretell 32 = .ok (.bipush (-3), 2) := by decide +kernel
theorem dX10_foretell_34 : decode cX10_foretell 34 = .ok (.ireturn, 1) := by decide +kernel
theorem dX10_foretell_35 : decode cX10_foretell 35 = .ok (.aload_n 0, 1) := by decide +kernel
theorem dX10_foretell_36 : decode cX10_foretell 36 = .ok (.getfield 62, 3) := by decide +kernel
theorem dX10_foretell_39 : decode cX10_foretell 39 = .ok (.aload_n 0, 1) := by decide +kernel
theorem dX10_foretell_40 : decode cX10_foretell 40 = .ok (.getfield 176, 3) := by decide +kernel
theorem dX10_foretell_43 : decode cX10_foretell 43 = .ok (.iload_n 1, 1) := by decide +kernel
theorem dX10_foretell_44 : decode cX10_foretell 44 = .ok (.iastore, 1) := by decide +kernel
theorem dX10_foretell_45 : decode cX10_foretell 45 = .ok (.aload_n 0, 1) := by decide +kernel
theorem dX10_foretell_46 : decode cX10_foretell 46 = .ok (.getfield 65, 3) := by decide +kernel
theorem dX10_foretell_49 : decode cX10_foretell 49 = .ok (.aload_n 0, 1) := by decide +kernel
theorem dX10_foretell_50 : decode cX10_foretell 50 = .ok (.getfield 176, 3) := by decide +kernel
theorem dX10_foretell_53 : decode cX10_foretell 53 = .ok (.iload_n 2, 1) := by decide +kernel
theorem dX10_foretell_54 : decode cX10_foretell 54 = .ok (.iastore, 1) := by decide +kernel
theorem dX10_foretell_55 : decode cX10_foretell 55 = .ok (.aload_n 0, 1) := by decide +kernel
theorem dX10_foretell_56 : decode cX10_foretell 56 = .ok (.dup, 1) := by decide +kernel
theorem dX10_foretell_57 : decode cX10_foretell 57 = .ok (.getfield 176, 3) := by decide +kernel
theorem dX10_foretell_60 : decode cX10_foretell 60 = .ok (.iconst 1, 1) := by decide +kernel
theorem dX10_foretell_61 : decode cX10_foretell 61 = .ok (.iadd, 1) := by decide +kernel
theorem dX10_foretell_62 : decode cX10_foretell 62 = .ok (.putfield 176, 3) := by decide +kernel
theorem dX10_foretell_65 : decode cX10_foretell 65 = .ok (.aload_n 0, 1) := by decide +kernel
theorem dX10_foretell_66 : decode cX10_foretell 66 = .ok (.getfield 176, 3) := by decide +kernel
theorem dX10_foretell_69 : decode cX10_foretell 69 = .ok (.ireturn, 1) := by decide +kernel
theorem dX10_forget_0 : decode cX10_forget 0 = .ok (.aload_n 0, 1) := by decide +kernel
theorem dX10_forget_1 : decode cX10_forget 1 = .ok (.getfield 176, 3) := by decide +kernel
theorem dX10_forget_4 : decode cX10_forget 4 = .ok (.istore_n 1, 1) := by decide +kernel
theorem dX10_forget_5 : decode cX10_forget 5 = .ok (.aload_n 0, 1) := by decide +kernel
theorem dX10_forget_6 : decode cX10_forget 6 = .ok (.iconst 0, 1) := by decide +kernel
theorem dX10_forget_7 : decode cX10_forget 7 = .ok (.putfield 176, 3) := by decide +kernel
theorem dX10_forget_10 : decode cX10_forget 10 = .ok (.iload_n 1, 1) := by decide +kernel
theorem dX10_forget_11 : decode cX10_forget 11 = .ok (.ireturn, 1) := by decide +kernel
theorem dX10_costOf_0 : decode cX10_costOf 0 = .ok (.iconst 0, 1) := by decide +kernel
theorem dX10_costOf_1 : decode cX10_costOf 1 = .ok (.istore_n 2, 1) := by decide +kernel
theorem dX10_costOf_2 : decode cX10_costOf 2 = .ok (.iconst 0, 1) := by decide +kernel
theorem dX10_costOf_3 : decode cX10_costOf 3 = .ok (.istore_n 3, 1) := by decide +kernel
theorem dX10_costOf_4 : decode cX10_costOf 4 = .ok (.iload_n 3, 1) := by decide +kernel
theorem dX10_costOf_5 : decode cX10_costOf 5 = .ok (.aload_n 0, 1) := by decide +kernel
theorem dX10_costOf_6 : decode cX10_costOf 6 = .ok (.getfield 176, 3) := by decide +kernel
theorem dX10_costOf_9 : decode cX10_costOf 9 = .ok (.if_icmp .ge 56, 3) := by decide +kernel
theorem dX10_costOf_12 : decode cX10_costOf 12 = .ok (.iload_n 1, 1) := by decide +kernel
theorem dX10_costOf_13 : decode cX10_costOf 13 = .ok (.aload_n 0, 1) := by decide +kernel
theorem dX10_costOf_14 : decode cX10_costOf 14 = .ok (.getfield 62, 3) := by decide +kernel
theorem dX10_costOf_17 : decode cX10_costOf 17 = .ok (.iload_n 3, 1) := by decide +kernel
theorem dX10_costOf_18 : decode cX10_costOf 18 = .ok (.iaload, 1) := by decide +kernel
theorem dX10_costOf_19 : decode cX10_costOf 19 = .ok (.isub, 1) := by decide +kernel
theorem dX10_costOf_20 : decode cX10_costOf 20 = .ok (.istore 4, 2) := by decide +kernel
theorem dX10_costOf_22 : decode cX10_costOf 22 = .ok (.iload_n 2, 1) := by decide +kernel
theorem dX10_costOf_23 : decode cX10_costOf 23 = .ok (.aload_n 0, 1) := by decide +kernel
theorem dX10_costOf_24 : decode cX10_costOf 24 = .ok (.getfield 65, 3) := by decide +kernel
theorem dX10_costOf_27 : decode cX10_costOf 27 = .ok (.iload_n 3, 1) := by decide +kernel
theorem dX10_costOf_28 : decode cX10_costOf 28 = .ok (.iaload, 1) := by decide +kernel
theorem dX10_costOf_29 : decode cX10_costOf 29 = .ok (.iload 4, 2) := by decide +kernel
theorem dX10_costOf_31 : decode cX10_costOf 31 = .ok (.ifCond .le 15, 3) := by decide +kernel
theorem dX10_costOf_34 : decode cX10_costOf 34 = .ok (.aload_n 0, 1) := by decide +kernel
theorem dX10_costOf_35 : decode cX10_costOf 35 = .ok (.getfield 29, 3) := by decide +kernel
theorem dX10_costOf_38 : decode cX10_costOf 38 = .ok (.iconst 2, 1) := by decide +kernel
theorem dX10_costOf_39 : decode cX10_costOf 39 = .ok (.iaload, 1) := by decide +kernel
theorem dX10_costOf_40 : decode cX10_costOf 40 = .ok (.iload 4, 2) := by decide +kernel
theorem dX10_costOf_42 : decode cX10_costOf 42 = .ok (.imul, 1) := by decide +kernel
theorem dX10_costOf_43 : decode cX10_costOf 43 = .ok (.goto 13, 3) := by decide +kernel
theorem dX10_costOf_46 : decode cX10_costOf 46 = .ok (.aload_n 0, 1) := by decide +kernel
theorem dX10_costOf_47 : decode cX10_costOf 47 = .ok (.getfield 29, 3) := by decide +kernel
theorem dX10_costOf_50 : decode cX10_costOf 50 = .ok (.iconst 3, 1) := by decide +kernel
theorem dX10_costOf_51 : decode cX10_costOf 51 = .ok (.iaload, 1) := by decide +kernel
theorem dX10_costOf_52 : decode cX10_costOf 52 = .ok (.ineg, 1) := by decide +kernel
theorem dX10_costOf_53 : decode cX10_costOf 53 = .ok (.iload 4, 2) := by decide +kernel
theorem dX10_costOf_55 : decode cX10_costOf 55 = .ok (.imul, 1) := by decide +kernel
theorem dX10_costOf_56 : decode cX10_costOf 56 = .ok (.imul, 1) := by decide +kernel
theorem dX10_costOf_57 : decode cX10_costOf 57 = .ok (.iadd, 1) := by decide +kernel
theorem dX10_costOf_58 : decode cX10_costOf 58 = .ok (.istore_n 2, 1) := by decide +kernel
theorem dX10_costOf_59 : decode cX10_costOf 59 = .ok (.iinc 3 1, 3) := by decide +kernel
theorem dX10_costOf_62 : decode cX10_costOf 62 = .ok (.goto (-58), 3) := by decide +kernel
theorem dX10_costOf_65 : decode cX10_costOf 65 = .ok (.iload_n 2, 1) := by decide +kernel
theorem dX10_costOf_66 : decode cX10_costOf 66 = .ok (.ireturn, 1) := by decide +kernel
set_option maxRecDepth 20000 in
theorem ggX10_press_X10_in : GoodIn wsX10_press wsX10_in := goodIn_r _ [5] (by decide +kernel) (by decide +kernel)
set_option maxRecDepth 20000 in
theorem gX10_press_X10_in : GoodIn wsX10_press (va_wsS RX10 96 yX10_in wsX10_in) := goodIn_app (goodIn_of _ (by decide +kernel)) ggX10_press_X10_in
set_option maxRecDepth 20000 in
theorem ggX10_press_X10_costOf : GoodIn wsX10_press wsX10_costOf := goodIn_r _ [9, 1, 10, 11, 12, 13, 14, 15, 16, 17, 18, 19, 20, 21, 22, 23, 24, 25, 26, 27, 28, 29, 30, 31, 32, 33, 34, 35, 36, 37, 38, 39, 40, 41, 42, 43, 44, 45, 46] (by decide +kernel) (by decide +kernel)
set_option maxRecDepth 20000 in
theorem gX10_press_X10_costOf : GoodIn wsX10_press (wsV RX10 179 RX10 yX10_costOf wsX10_costOf) := goodIn_app (goodIn_of _ (by decide +kernel)) ggX10_press_X10_costOf
theorem dX10_press_0 : decode cX10_press 0 = .ok (.aload_n 0, 1) := by decide +kernel
theorem dX10_press_1 : decode cX10_press 1 = .ok (.getfield 176, 3) := by decide +kernel
theorem dX10_press_4 : decode cX10_press 4 = .ok (.ifCond .ne 6, 3) := by decide +kernel
theorem dX10_press_7 : decode cX10_press 7 = .ok (.bipush (-2), 2) := by decide +kernel
theorem dX10_press_9 : decode cX10_press 9 = .ok (.ireturn, 1) := by decide +kernel
theorem dX10_press_10 : decode cX10_press 10 = .ok (.iload_n 1, 1) := by decide +kernel
theorem dX10_press_11 : decode cX10_press 11 = .ok (.iconst (-1), 1) := by decide +kernel
theorem dX10_press_12 : decode cX10_press 12 = .ok (.sipush 200, 3) := by decide +kernel
theorem dX10_press_15 : decode cX10_press 15 = .ok (.invokestatic 96, 3) := by decide +kernel
theorem dX10_press_18 : decode cX10_press 18 = .ok (.ifCond .ne 5, 3) := by decide +kernel
theorem dX10_press_21 : decode cX10_press 21 = .ok (.iconst (-1), 1) := by decide +kernel
theorem dX10_press_22 : decode cX10_press 22 = .ok (.ireturn, 1) := by decide +kernel
theorem dX10_press_23 : decode cX10_press 23 = .ok (.iload_n 1, 1) := by decide +kernel
theorem dX10_press_24 : decode cX10_press 24 = .ok (.ifCond .lt 9, 3) := by decide +kernel
theorem dX10_press_27 : decode cX10_press 27 = .ok (.aload_n 0, 1) := by decide +kernel
theorem dX10_press_28 : decode cX10_press 28 = .ok (.iload_n 1, 1) := by decide +kernel
theorem dX10_press_29 : decode cX10_press 29 = .ok (.invokevirtual 179, 3) := by decide +kernel
theorem dX10_press_32 : decode cX10_press 32 = .ok (.ireturn, 1) := by decide +kernel
theorem dX10_press_33 : decode cX10_press 33 = .ok (.iconst 0, 1) := by decide +kernel
theorem dX10_press_34 : decode cX10_press 34 = .ok (.istore_n 2, 1) := by decide +kernel
theorem dX10_press_35 : decode cX10_press 35 = .ok (.iconst 1, 1) := by decide +kernel
theorem dX10_press_36 : decode cX10_press 36 = .ok (.istore_n 3, 1) := by decide +kernel
theorem dX10_press_37 : decode cX10_press 37 = .ok (.iload_n 3, 1) := by decide +kernel
theorem dX10_press_38 : decode cX10_press 38 = .ok (.sipush 200, 3) := by decide +kernel
theorem dX10_press_41 : decode cX10_press 41 = .ok (.if_icmp .gt 28, 3) := by decide +kernel
theorem dX10_press_44 : decode cX10_press 44 = .ok (.aload_n 0, 1) := by decide +kernel
theorem dX10_press_45 : decode cX10_press 45 = .ok (.iload_n 3, 1) := by decide +kernel
theorem dX10_press_46 : decode cX10_press 46 = .ok (.invokevirtual 179, 3) := by decide +kernel
theorem dX10_press_49 : decode cX10_press 49 = .ok (.aload_n 0, 1) := by decide +kernel
theorem dX10_press_50 : decode cX10_press 50 = .ok (.iload_n 2, 1) := by decide +kernel
theorem dX10_press_51 : decode cX10_press 51 = .ok (.invokevirtual 179, 3) := by decide +kernel
theorem dX10_press_54 : decode cX10_press 54 = .ok (.if_icmp .ge 7, 3) := by decide +kernel
theorem dX10_press_57 : decode cX10_press 57 = .ok (.iload_n 3, 1) := by decide +kernel
theorem dX10_press_58 : decode cX10_press 58 = .ok (.goto 4, 3) := by decide +kernel
theorem dX10_press_61 : decode cX10_press 61 = .ok (.iload_n 2, 1) := by decide +kernel
theorem dX10_press_62 : decode cX10_press 62 = .ok (.istore_n 2, 1) := by decide +kernel
theorem dX10_press_63 : decode cX10_press 63 = .ok (.iinc 3 1, 3) := by decide +kernel
theorem dX10_press_66 : decode cX10_press 66 = .ok (.goto (-29), 3) := by decide +kernel
theorem dX10_press_69 : decode cX10_press 69 = .ok (.iload_n 2, 1) := by decide +kernel
theorem dX10_press_70 : decode cX10_press 70 = .ok (.ireturn, 1) := by decide +kernel
theorem dX10_madeBy_0 : decode cX10_madeBy 0 = .ok (.iconst 0, 1) := by decide +kernel
theorem dX10_madeBy_1 : decode cX10_madeBy 1 = .ok (.istore_n 2, 1) := by decide +kernel
theorem dX10_madeBy_2 : decode cX10_madeBy 2 = .ok (.iconst 0, 1) := by decide +kernel
theorem dX10_madeBy_3 : decode cX10_madeBy 3 = .ok (.istore_n 3, 1) := by decide +kernel
theorem dX10_madeBy_4 : decode cX10_madeBy 4 = .ok (.iload_n 3, 1) := by decide +kernel
theorem dX10_madeBy_5 : decode cX10_madeBy 5 = .ok (.aload_n 0, 1) := by decide +kernel
theorem dX10_madeBy_6 : decode cX10_madeBy 6 = .ok (.getfield 100, 3) := by decide +kernel
theorem dX10_madeBy_9 : decode cX10_madeBy 9 = .ok (.if_icmp .ge 80, 3) := by decide +kernel
theorem dX10_madeBy_12 : decode cX10_madeBy 12 = .ok (.iconst 0, 1) := by decide +kernel
theorem dX10_madeBy_13 : decode cX10_madeBy 13 = .ok (.istore 4, 2) := by decide +kernel
theorem dX10_madeBy_15 : decode cX10_madeBy 15 = .ok (.iconst 0, 1) := by decide +kernel
theorem dX10_madeBy_16 : decode cX10_madeBy 16 = .ok (.istore 5, 2) := by decide +kernel
theorem dX10_madeBy_18 : decode cX10_madeBy 18 = .ok (.iload 5, 2) := by decide +kernel
theorem dX10_madeBy_20 : decode cX10_madeBy 20 = .ok (.aload_n 0, 1) := by decide +kernel
theorem dX10_madeBy_21 : decode cX10_madeBy 21 = .ok (.getfield 92, 3) := by decide +kernel
theorem dX10_madeBy_24 : decode cX10_madeBy 24 = .ok (.if_icmp .ge 37, 3) := by decide +kernel
theorem dX10_madeBy_27 : decode cX10_madeBy 27 = .ok (.iload 4, 2) := by decide +kernel
theorem dX10_madeBy_29 : decode cX10_madeBy 29 = .ok (.aload_n 0, 1) := by decide +kernel
theorem dX10_madeBy_30 : decode cX10_madeBy 30 = .ok (.getfield 22, 3) := by decide +kernel
theorem dX10_madeBy_33 : decode cX10_madeBy 33 = .ok (.bipush 10, 2) := by decide +kernel
theorem dX10_madeBy_35 : decode cX10_madeBy 35 = .ok (.iload_n 3, 1) := by decide +kernel
theorem dX10_madeBy_36 : decode cX10_madeBy 36 = .ok (.imul, 1) := by decide +kernel
theorem dX10_madeBy_37 : decode cX10_madeBy 37 = .ok (.iload 5, 2) := by decide +kernel
theorem dX10_madeBy_39 : decode cX10_madeBy 39 = .ok (.iadd, 1) := by decide +kernel
theorem dX10_madeBy_40 : decode cX10_madeBy 40 = .ok (.iaload, 1) := by decide +kernel
theorem dX10_madeBy_41 : decode cX10_madeBy 41 = .ok (.ifCond .le 10, 3) := by decide +kernel
theorem dX10_madeBy_44 : decode cX10_madeBy 44 = .ok (.iconst 1, 1) := by decide +kernel
theorem dX10_madeBy_45 : decode cX10_madeBy 45 = .ok (.iload 5, 2) := by decide +kernel
theorem dX10_madeBy_47 : decode cX10_madeBy 47 = .ok (.ishl, 1) := by decide +kernel
theorem dX10_madeBy_48 : decode cX10_madeBy 48 = .ok (.goto 4, 3) := by decide +kernel
theorem dX10_madeBy_51 : decode cX10_madeBy 51 = .ok (.iconst 0, 1) := by decide +kernel
theorem dX10_madeBy_52 : decode cX10_madeBy 52 = .ok (.ior, 1) := by decide +kernel
theorem dX10_madeBy_53 : decode cX10_madeBy 53 = .ok (.istore 4, 2) := by decide +kernel
theorem dX10_madeBy_55 : decode cX10_madeBy 55 = .ok (.iinc 5 1, 3) := by decide +kernel
theorem dX10_madeBy_58 : decode cX10_madeBy 58 = .ok (.goto (-40), 3) := by decide +kernel
theorem dX10_madeBy_61 : decode cX10_madeBy 61 = .ok (.iload_n 2, 1) := by decide +kernel
theorem dX10_madeBy_62 : decode cX10_madeBy 62 = .ok (.iload 4, 2) := by decide +kernel
theorem dX10_madeBy_64 : decode cX10_madeBy 64 = .ok (.ifCond .eq 16, 3) := by decide +kernel
theorem dX10_madeBy_67 : decode cX10_madeBy 67 = .ok (.iload 4, 2) := by decide +kernel
theorem dX10_madeBy_69 : decode cX10_madeBy 69 = .ok (.iload_n 1, 1) := by decide +kernel
theorem dX10_madeBy_70 : decode cX10_madeBy 70 = .ok (.iconst (-1), 1) := by decide +kernel
theorem dX10_madeBy_71 : decode cX10_madeBy 71 = .ok (.ixor, 1) := by decide +kernel
theorem dX10_madeBy_72 : decode cX10_madeBy 72 = .ok (.iand, 1) := by decide +kernel
theorem dX10_madeBy_73 : decode cX10_madeBy 73 = .ok (.ifCond .ne 7, 3) := by decide +kernel
theorem dX10_madeBy_76 : decode cX10_madeBy 76 = .ok (.iconst 1, 1) := by decide +kernel
theorem dX10_madeBy_77 : decode cX10_madeBy 77 = .ok (.goto 4, 3) := by decide +kernel
theorem dX10_madeBy_80 : decode cX10_madeBy 80 = .ok (.iconst 0, 1) := by decide +kernel
theorem dX10_madeBy_81 : decode cX10_madeBy 81 = .ok (.iadd, 1) := by decide +kernel
theorem dX10_madeBy_82 : decode cX10_madeBy 82 = .ok (.istore_n 2, 1) := by decide +kernel
theorem dX10_madeBy_83 : decode cX10_madeBy 83 = .ok (.iinc 3 1, 3) := by decide +kernel
theorem dX10_madeBy_86 : decode cX10_madeBy 86 = .ok (.goto (-82), 3) := by decide +kernel
theorem dX10_madeBy_89 : decode cX10_madeBy 89 = .ok (.iload_n 2, 1) := by decide +kernel
theorem dX10_madeBy_90 : decode cX10_madeBy 90 = .ok (.ireturn, 1) := by decide +kernel
theorem dX10_bits_0 : decode cX10_bits 0 = .ok (.iconst 0, 1) := by decide +kernel
theorem dX10_bits_1 : decode cX10_bits 1 = .ok (.istore_n 1, 1) := by decide +kernel
theorem dX10_bits_2 : decode cX10_bits 2 = .ok (.iconst 0, 1) := by decide +kernel
theorem dX10_bits_3 : decode cX10_bits 3 = .ok (.istore_n 2, 1) := by decide +kernel
theorem dX10_bits_4 : decode cX10_bits 4 = .ok (.iload_n 2, 1) := by decide +kernel
theorem dX10_bits_5 : decode cX10_bits 5 = .ok (.bipush 10, 2) := by decide +kernel
theorem dX10_bits_7 : decode cX10_bits 7 = .ok (.if_icmp .ge 17, 3) := by decide +kernel
theorem dX10_bits_10 : decode cX10_bits 10 = .ok (.iload_n 1, 1) := by decide +kernel
theorem dX10_bits_11 : decode cX10_bits 11 = .ok (.iload_n 0, 1) := by decide +kernel
theorem dX10_bits_12 : decode cX10_bits 12 = .ok (.iload_n 2, 1) := by decide +kernel
theorem dX10_bits_13 : decode cX10_bits 13 = .ok (.ishr, 1) := by decide +kernel
theorem dX10_bits_14 : decode cX10_bits 14 = .ok (.iconst 1, 1) := by decide +kernel
theorem dX10_bits_15 : decode cX10_bits 15 = .ok (.iand, 1) := by decide +kernel
theorem dX10_bits_16 : decode cX10_bits 16 = .ok (.iadd, 1) := by decide +kernel
theorem dX10_bits_17 : decode cX10_bits 17 = .ok (.istore_n 1, 1) := by decide +kernel
theorem dX10_bits_18 : decode cX10_bits 18 = .ok (.iinc 2 1, 3) := by decide +kernel
theorem dX10_bits_21 : decode cX10_bits 21 = .ok (.goto (-17), 3) := by decide +kernel
theorem dX10_bits_24 : decode cX10_bits 24 = .ok (.iload_n 1, 1) := by decide +kernel
theorem dX10_bits_25 : decode cX10_bits 25 = .ok (.ireturn, 1) := by decide +kernel
set_option maxRecDepth 20000 in
theorem ggX10_makes_X10_in : GoodIn wsX10_makes wsX10_in := goodIn_r _ [5] (by decide +kernel) (by decide +kernel)
set_option maxRecDepth 20000 in
theorem gX10_makes_X10_in : GoodIn wsX10_makes (va_wsS RX10 96 yX10_in wsX10_in) := goodIn_app (goodIn_of _ (by decide +kernel)) ggX10_makes_X10_in
set_option maxRecDepth 20000 in
theorem ggX10_makes_X10_madeBy : GoodIn wsX10_makes wsX10_madeBy := goodIn_r _ [9, 10, 1, 11, 12, 13, 14, 15, 16, 17, 18, 19, 20, 21, 22, 23, 24, 25, 26, 27, 28, 29, 30, 31, 32, 33, 34, 35, 36, 37, 38, 39, 40, 41, 42, 43, 44, 45] (by decide +kernel) (by decide +kernel)
set_option maxRecDepth 20000 in
theorem gX10_makes_X10_madeBy : GoodIn wsX10_makes (wsV RX10 182 RX10 yX10_madeBy wsX10_madeBy) := goodIn_app (goodIn_of _ (by decide +kernel)) ggX10_makes_X10_madeBy
theorem dX10_makes_0 : decode cX10_makes 0 = .ok (.iload_n 1, 1) := by decide +kernel
theorem dX10_makes_1 : decode cX10_makes 1 = .ok (.iconst 0, 1) := by decide +kernel
theorem dX10_makes_2 : decode cX10_makes 2 = .ok (.iconst 1, 1) := by decide +kernel
theorem dX10_makes_3 : decode cX10_makes 3 = .ok (.aload_n 0, 1) := by decide +kernel
theorem dX10_makes_4 : decode cX10_makes 4 = .ok (.getfield 92, 3) := by decide +kernel
theorem dX10_makes_7 : decode cX10_makes 7 = .ok (.ishl, 1) := by decide +kernel
theorem dX10_makes_8 : decode cX10_makes 8 = .ok (.iconst 1, 1) := by decide +kernel
theorem dX10_makes_9 : decode cX10_makes 9 = .ok (.isub, 1) := by decide +kernel
theorem dX10_makes_10 : decode cX10_makes 10 = .ok (.invokestatic 96, 3) := by decide +kernel
theorem dX10_makes_13 : decode cX10_makes 13 = .ok (.ifCond .eq 11, 3) := by decide +kernel
theorem dX10_makes_16 : decode cX10_makes 16 = .ok (.aload_n 0, 1) := by decide +kernel
theorem dX10_makes_17 : decode cX10_makes 17 = .ok (.iload_n 1, 1) := by decide +kernel
theorem dX10_makes_18 : decode cX10_makes 18 = .ok (.invokevirtual 182, 3) := by decide +kernel
theorem dX10_makes_21 : decode cX10_makes 21 = .ok (.goto 4, 3) := by decide +kernel
theorem dX10_makes_24 : decode cX10_makes 24 = .ok (.iconst (-1), 1) := by decide +kernel
theorem dX10_makes_25 : decode cX10_makes 25 = .ok (.ireturn, 1) := by decide +kernel
set_option maxRecDepth 20000 in
theorem ggX10_fewest_X10_in : GoodIn wsX10_fewest wsX10_in := goodIn_r _ [5] (by decide +kernel) (by decide +kernel)
set_option maxRecDepth 20000 in
theorem gX10_fewest_X10_in : GoodIn wsX10_fewest (va_wsS RX10 96 yX10_in wsX10_in) := goodIn_app (goodIn_of _ (by decide +kernel)) ggX10_fewest_X10_in
set_option maxRecDepth 20000 in
theorem ggX10_fewest_X10_bits : GoodIn wsX10_fewest wsX10_bits := goodIn_r _ [8] (by decide +kernel) (by decide +kernel)
set_option maxRecDepth 20000 in
theorem gX10_fewest_X10_bits : GoodIn wsX10_fewest (va_wsS RX10 185 yX10_bits wsX10_bits) := goodIn_app (goodIn_of _ (by decide +kernel)) ggX10_fewest_X10_bits
set_option maxRecDepth 20000 in
theorem ggX10_fewest_X10_madeBy : GoodIn wsX10_fewest wsX10_madeBy := goodIn_r _ [12, 13, 1, 14, 15, 16, 17, 18, 19, 20, 21, 22, 23, 24, 25, 26, 27, 28, 29, 30, 31, 32, 33, 34, 35, 36, 37, 38, 39, 40, 41, 42, 43, 44, 45, 46, 47, 48] (by decide +kernel) (by decide +kernel)
set_option maxRecDepth 20000 in
theorem gX10_fewest_X10_madeBy : GoodIn wsX10_fewest (wsV RX10 182 RX10 yX10_madeBy wsX10_madeBy) := goodIn_app (goodIn_of _ (by decide +kernel)) ggX10_fewest_X10_madeBy
theorem dX10_fewest_0 : decode cX10_fewest 0 = .ok (.iload_n 1, 1) := by decide +kernel
theorem dX10_fewest_1 : decode cX10_fewest 1 = .ok (.iconst 1, 1) := by decide +kernel
theorem dX10_fewest_2 : decode cX10_fewest 2 = .ok (.bipush 12, 2) := by decide +kernel
theorem dX10_fewest_4 : decode cX10_fewest 4 = .ok (.invokestatic 96, 3) := by decide +kernel
theorem dX10_fewest_7 : decode cX10_fewest 7 = .ok (.ifCond .ne 5, 3) := by decide +kernel
theorem dX10_fewest_10 : decode cX10_fewest 10 = .ok (.iconst (-1), 1) := by decide +kernel
theorem dX10_fewest_11 : decode cX10_fewest 11 = .ok (.ireturn, 1) := by decide +kernel
theorem dX10_fewest_12 : decode cX10_fewest 12 = .ok (.bipush (-4), 2) := by decide +kernel
theorem dX10_fewest_14 : decode cX10_fewest 14 = .ok (.istore_n 2, 1) := by decide +kernel
theorem dX10_fewest_15 : decode cX10_fewest 15 = .ok (.iconst 0, 1) := by decide +kernel
theorem dX10_fewest_16 : decode cX10_fewest 16 = .ok (.istore_n 3, 1) := by decide +kernel
theorem dX10_fewest_17 : decode cX10_fewest 17 = .ok (.iload_n 3, 1) := by decide +kernel
theorem dX10_fewest_18 : decode cX10_fewest 18 = .ok (.iconst 1, 1) := by decide +kernel
theorem dX10_fewest_19 : decode cX10_fewest 19 = .ok (.aload_n 0, 1) := by decide +kernel
theorem dX10_fewest_20 : decode cX10_fewest 20 = .ok (.getfield 92, 3) := by decide +kernel
theorem dX10_fewest_23 : decode cX10_fewest 23 = .ok (.ishl, 1) := by decide +kernel
theorem dX10_fewest_24 : decode cX10_fewest 24 = .ok (.if_icmp .ge 39, 3) := by decide +kernel
theorem dX10_fewest_27 : decode cX10_fewest 27 = .ok (.iload_n 2, 1) := by decide +kernel
theorem dX10_fewest_28 : decode cX10_fewest 28 = .ok (.ifCond .lt 14, 3) := by decide +kernel
theorem dX10_fewest_31 : decode cX10_fewest 31 = .ok (.iload_n 3, 1) := by decide +kernel
theorem dX10_fewest_32 : decode cX10_fewest 32 = .ok (.invokestatic 185, 3) := by decide +kernel
theorem dX10_fewest_35 : decode cX10_fewest 35 = .ok (.iload_n 2, 1) := by decide +kernel
theorem dX10_fewest_36 : decode cX10_fewest 36 = .ok (.invokestatic 185, 3) := by decide +kernel
theorem dX10_fewest_39 : decode cX10_fewest 39 = .ok (.if_icmp .ge 16, 3) := by decide +kernel
theorem dX10_fewest_42 : decode cX10_fewest 42 = .ok (.aload_n 0, 1) := by decide +kernel
theorem dX10_fewest_43 : decode cX10_fewest 43 = .ok (.iload_n 3, 1) := by decide +kernel
theorem dX10_fewest_44 : decode cX10_fewest 44 = .ok (.invokevirtual 182, 3) := by decide +kernel
theorem dX10_fewest_47 : decode cX10_fewest 47 = .ok (.iload_n 1, 1) := by decide +kernel
theorem dX10_fewest_48 : decode cX10_fewest 48 = .ok (.if_icmp .lt 7, 3) := by decide +kernel
theorem dX10_fewest_51 : decode cX10_fewest 51 = .ok (.iload_n 3, 1) := by decide +kernel
theorem dX10_fewest_52 : decode cX10_fewest 52 = .ok (.goto 4, 3) := by decide +kernel
theorem dX10_fewest_55 : decode cX10_fewest 55 = .ok (.iload_n 2, 1) := by decide +kernel
theorem dX10_fewest_56 : decode cX10_fewest 56 = .ok (.istore_n 2, 1) := by decide +kernel
theorem dX10_fewest_57 : decode cX10_fewest 57 = .ok (.iinc 3 1, 3) := by decide +kernel
theorem dX10_fewest_60 : decode cX10_fewest 60 = .ok (.goto (-43), 3) := by decide +kernel
theorem dX10_fewest_63 : decode cX10_fewest 63 = .ok (.iload_n 2, 1) := by decide +kernel
theorem dX10_fewest_64 : decode cX10_fewest 64 = .ok (.ireturn, 1) := by decide +kernel
set_option maxRecDepth 20000 in
theorem ggX10_most_X10_in : GoodIn wsX10_most wsX10_in := goodIn_r _ [5] (by decide +kernel) (by decide +kernel)
set_option maxRecDepth 20000 in
theorem gX10_most_X10_in : GoodIn wsX10_most (va_wsS RX10 96 yX10_in wsX10_in) := goodIn_app (goodIn_of _ (by decide +kernel)) ggX10_most_X10_in
set_option maxRecDepth 20000 in
theorem ggX10_most_X10_bits : GoodIn wsX10_most wsX10_bits := goodIn_r _ [8] (by decide +kernel) (by decide +kernel)
set_option maxRecDepth 20000 in
theorem gX10_most_X10_bits : GoodIn wsX10_most (va_wsS RX10 185 yX10_bits wsX10_bits) := goodIn_app (goodIn_of _ (by decide +kernel)) ggX10_most_X10_bits
set_option maxRecDepth 20000 in
theorem ggX10_most_X10_madeBy : GoodIn wsX10_most wsX10_madeBy := goodIn_r _ [12, 13, 1, 14, 15, 16, 17, 18, 19, 20, 21, 22, 23, 24, 25, 26, 27, 28, 29, 30, 31, 32, 33, 34, 35, 36, 37, 38, 39, 40, 41, 42, 43, 44, 45, 46, 47, 48] (by decide +kernel) (by decide +kernel)
set_option maxRecDepth 20000 in
theorem gX10_most_X10_madeBy : GoodIn wsX10_most (wsV RX10 182 RX10 yX10_madeBy wsX10_madeBy) := goodIn_app (goodIn_of _ (by decide +kernel)) ggX10_most_X10_madeBy
theorem dX10_most_0 : decode cX10_most 0 = .ok (.iload_n 1, 1) := by decide +kernel
theorem dX10_most_1 : decode cX10_most 1 = .ok (.iconst 0, 1) := by decide +kernel
theorem dX10_most_2 : decode cX10_most 2 = .ok (.aload_n 0, 1) := by decide +kernel
theorem dX10_most_3 : decode cX10_most 3 = .ok (.getfield 92, 3) := by decide +kernel
theorem dX10_most_6 : decode cX10_most 6 = .ok (.invokestatic 96, 3) := by decide +kernel
theorem dX10_most_9 : decode cX10_most 9 = .ok (.ifCond .ne 5, 3) := by decide +kernel
theorem dX10_most_12 : decode cX10_most 12 = .ok (.iconst (-1), 1) := by decide +kernel
theorem dX10_most_13 : decode cX10_most 13 = .ok (.ireturn, 1) := by decide +kernel
theorem dX10_most_14 : decode cX10_most 14 = .ok (.iconst (-1), 1) := by decide +kernel
theorem dX10_most_15 : decode cX10_most 15 = .ok (.istore_n 2, 1) := by decide +kernel
theorem dX10_most_16 : decode cX10_most 16 = .ok (.iconst (-1), 1) := by decide +kernel
theorem dX10_most_17 : decode cX10_most 17 = .ok (.istore_n 3, 1) := by decide +kernel
theorem dX10_most_18 : decode cX10_most 18 = .ok (.iconst 0, 1) := by decide +kernel
theorem dX10_most_19 : decode cX10_most 19 = .ok (.istore 4, 2) := by decide +kernel
theorem dX10_most_21 : decode cX10_most 21 = .ok (.iload 4, 2) := by decide +kernel
theorem dX10_most_23 : decode cX10_most 23 = .ok (.iconst 1, 1) := by decide +kernel
theorem dX10_most_24 : decode cX10_most 24 = .ok (.aload_n 0, 1) := by decide +kernel
theorem dX10_most_25 : decode cX10_most 25 = .ok (.getfield 92, 3) := by decide +kernel
theorem dX10_most_28 : decode cX10_most 28 = .ok (.ishl, 1) := by decide +kernel
theorem dX10_most_29 : decode cX10_most 29 = .ok (.if_icmp .ge 38, 3) := by decide +kernel
theorem dX10_most_32 : decode cX10_most 32 = .ok (.iload 4, 2) := by decide +kernel
theorem dX10_most_34 : decode cX10_most 34 = .ok (.invokestatic 185, 3) := by decide +kernel
theorem dX10_most_37 : decode cX10_most 37 = .ok (.iload_n 1, 1) := by decide +kernel
theorem dX10_most_38 : decode cX10_most 38 = .ok (.if_icmp .ne 23, 3) := by decide +kernel
theorem dX10_most_41 : decode cX10_most 41 = .ok (.aload_n 0, 1) := by decide +kernel
theorem dX10_most_42 : decode cX10_most 42 = .ok (.iload 4, 2) := by decide +kernel
theorem dX10_most_44 : decode cX10_most 44 = .ok (.invokevirtual 182, 3) := by decide +kernel
theorem dX10_most_47 : decode cX10_most 47 = .ok (.iload_n 3, 1) := by decide +kernel
theorem dX10_most_48 : decode cX10_most 48 = .ok (.if_icmp .le 13, 3) := by decide +kernel
theorem dX10_most_51 : decode cX10_most 51 = .ok (.iload 4, 2) := by decide +kernel
theorem dX10_most_53 : decode cX10_most 53 = .ok (.istore_n 2, 1) := by decide +kernel
theorem dX10_most_54 : decode cX10_most 54 = .ok (.aload_n 0, 1) := by decide +kernel
theorem dX10_most_55 : decode cX10_most 55 = .ok (.iload 4, 2) := by decide +kernel
theorem dX10_most_57 : decode cX10_most 57 = .ok (.invokevirtual 182, 3) := by decide +kernel
theorem dX10_most_60 : decode cX10_most 60 = .ok (.istore_n 3, 1) := by decide +kernel
theorem dX10_most_61 : decode cX10_most 61 = .ok (.iinc 4 1, 3) := by decide +kernel
theorem dX10_most_64 : decode cX10_most 64 = .ok (.goto (-43), 3) := by decide +kernel
theorem dX10_most_67 : decode cX10_most 67 = .ok (.iload_n 2, 1) := by decide +kernel
theorem dX10_most_68 : decode cX10_most 68 = .ok (.ireturn, 1) := by decide +kernel
set_option maxRecDepth 20000 in
theorem ggX10_priceRule_X10_in : GoodIn wsX10_priceRule wsX10_in := goodIn_r _ [9] (by decide +kernel) (by decide +kernel)
set_option maxRecDepth 20000 in
theorem gX10_priceRule_X10_in : GoodIn wsX10_priceRule (va_wsS RX10 96 yX10_in wsX10_in) := goodIn_app (goodIn_of _ (by decide +kernel)) ggX10_priceRule_X10_in
theorem dX10_priceRule_0 : decode cX10_priceRule 0 = .ok (.iload_n 1, 1) := by decide +kernel
theorem dX10_priceRule_1 : decode cX10_priceRule 1 = .ok (.iconst 0, 1) := by decide +kernel
theorem dX10_priceRule_2 : decode cX10_priceRule 2 = .ok (.bipush 127, 2) := by decide +kernel
theorem dX10_priceRule_4 : decode cX10_priceRule 4 = .ok (.invokestatic 96, 3) := by decide +kernel
theorem dX10_priceRule_7 : decode cX10_priceRule 7 = .ok (.ifCond .eq 37, 3) := by decide +kernel
theorem dX10_priceRule_10 : decode cX10_priceRule 10 = .ok (.iload_n 2, 1) := by decide +kernel
theorem dX10_priceRule_11 : decode cX10_priceRule 11 = .ok (.iconst 0, 1) := by decide +kernel
theorem dX10_priceRule_12 : decode cX10_priceRule 12 = .ok (.sipush 1439, 3) := by decide +kernel
theorem dX10_priceRule_15 : decode cX10_priceRule 15 = .ok (.invokestatic 96, 3) := by decide +kernel
theorem dX10_priceRule_18 : decode cX10_priceRule 18 = .ok (.ifCond .eq 26, 3) := by decide +kernel
theorem dX10_priceRule_21 : decode cX10_priceRule 21 = .ok (.iload_n 3, 1) := by decide +kernel
theorem dX10_priceRule_22 : decode cX10_priceRule 22 = .ok (.iconst 0, 1) := by decide +kernel
theorem dX10_priceRule_23 : decode cX10_priceRule 23 = .ok (.sipush 1439, 3) := by decide +kernel
theorem dX10_priceRule_26 : decode cX10_priceRule 26 = .ok (.invokestatic 96, 3) := by decide +kernel
theorem dX10_priceRule_29 : decode cX10_priceRule 29 = .ok (.ifCond .eq 15, 3) := by decide +kernel
theorem dX10_priceRule_32 : decode cX10_priceRule 32 = .ok (.iload 4, 2) := by decide +kernel
theorem dX10_priceRule_34 : decode cX10_priceRule 34 = .ok (.iconst 0, 1) := by decide +kernel
theorem dX10_priceRule_35 : decode cX10_priceRule 35 = .ok (.sipush 200, 3) := by decide +kernel
theorem dX10_priceRule_38 : decode cX10_priceRule 38 = .ok (.invokestatic 96, 3) := by decide +kernel
theorem dX10_priceRule_41 : decode cX10_priceRule 41 = .ok (.ifCond .ne 5, 3) := by decide +kernel
theorem dX10_priceRule_44 : decode cX10_priceRule 44 = .ok (.iconst (-1), 1) := by decide +kernel
theorem dX10_priceRule_45 : decode cX10_priceRule 45 = .ok (.ireturn, 1) := by decide +kernel
theorem dX10_priceRule_46 : decode cX10_priceRule 46 = .ok (.aload_n 0, 1) := by decide +kernel
theorem dX10_priceRule_47 : decode cX10_priceRule 47 = .ok (.getfield 188, 3) := by decide +kernel
theorem dX10_priceRule_50 : decode cX10_priceRule 50 = .ok (.bipush 12, 2) := by decide +kernel
theorem dX10_priceRule_52 : decode cX10_priceRule 52 = .ok (.if_icmp .ne 6, 3) := by decide +kernel
theorem dX10_priceRule_55 : decode cX10_priceRule 55 = .ok (.bipush (-3), 2) := by decide +kernel
theorem dX10_priceRule_57 : decode cX10_priceRule 57 = .ok (.ireturn, 1) := by decide +kernel
theorem dX10_priceRule_58 : decode cX10_priceRule 58 = .ok (.aload_n 0, 1) := by decide +kernel
theorem dX10_priceRule_59 : decode cX10_priceRule 59 = .ok (.getfield 68, 3) := by decide +kernel
theorem dX10_priceRule_62 : decode cX10_priceRule 62 = .ok (.aload_n 0, 1) := by decide +kernel
theorem dX10_priceRule_63 : decode cX10_priceRule 63 = .ok (.getfield 188, 3) := by decide +kernel
theorem dX10_priceRule_66 : decode cX10_priceRule 66 = .ok (.iload_n 1, 1) := by decide +kernel
theorem dX10_priceRule_67 : decode cX10_priceRule 67 = .ok (.iastore, 1) := by decide +kernel
theorem dX10_priceRule_68 : decode cX10_priceRule 68 = .ok (.aload_n 0, 1) := by decide +kernel
theorem dX10_priceRule_69 : decode cX10_priceRule 69 = .ok (.getfield 71, 3) := by decide +kernel
theorem dX10_priceRule_72 : decode cX10_priceRule 72 = .ok (.aload_n 0, 1) := by decide +kernel
theorem dX10_priceRule_73 : decode cX10_priceRule 73 = .ok (.getfield 188, 3) := by decide +kernel
theorem dX10_priceRule_76 : decode cX10_priceRule 76 = .ok (.iload_n 2, 1) := by decide +kernel
theorem dX10_priceRule_77 : decode cX10_priceRule 77 = .ok (.iastore, 1) := by decide +kernel
theorem dX10_priceRule_78 : decode cX10_priceRule 78 = .ok (.aload_n 0, 1) := by decide +kernel
theorem dX10_priceRule_79 : decode cX10_priceRule 79 = .ok (.getfield 74, 3) := by decide +kernel
theorem dX10_priceRule_82 : decode cX10_priceRule 82 = .ok (.aload_n 0, 1) := by decide +kernel
theorem dX10_priceRule_83 : decode cX10_priceRule 83 = .ok (.getfield 188, 3) := by decide +kernel
theorem dX10_priceRule_86 : decode cX10_priceRule 86 = .ok (.iload_n 3, 1) := by decide +kernel
theorem dX10_priceRule_87 : decode cX10_priceRule 87 = .ok (.iastore, 1) := by decide +kernel
theorem dX10_priceRule_88 : decode cX10_priceRule 88 = .ok (.aload_n 0, 1) := by decide +kernel
theorem dX10_priceRule_89 : decode cX10_priceRule 89 = .ok (.getfield 77, 3) := by decide +kernel
theorem dX10_priceRule_92 : decode cX10_priceRule 92 = .ok (.aload_n 0, 1) := by decide +kernel
theorem dX10_priceRule_93 : decode cX10_priceRule 93 = .ok (.getfield 188, 3) := by decide +kernel
theorem dX10_priceRule_96 : decode cX10_priceRule 96 = .ok (.iload 4, 2) := by decide +kernel
theorem dX10_priceRule_98 : decode cX10_priceRule 98 = .ok (.iastore, 1) := by decide +kernel
theorem dX10_priceRule_99 : decode cX10_priceRule 99 = .ok (.aload_n 0, 1) := by decide +kernel
theorem dX10_priceRule_100 : decode cX10_priceRule 100 = .ok (.dup, 1) := by decide +kernel
theorem dX10_priceRule_101 : decode cX10_priceRule 101 = .ok (.getfield 188, 3) := by decide +kernel
theorem dX10_priceRule_104 : decode cX10_priceRule 104 = .ok (.iconst 1, 1) := by decide +kernel
theorem dX10_priceRule_105 : decode cX10_priceRule 105 = .ok (.iadd, 1) := by decide +kernel
theorem dX10_priceRule_106 : decode cX10_priceRule 106 = .ok (.putfield 188, 3) := by decide +kernel
theorem dX10_priceRule_109 : decode cX10_priceRule 109 = .ok (.aload_n 0, 1) := by decide +kernel
theorem dX10_priceRule_110 : decode cX10_priceRule 110 = .ok (.getfield 188, 3) := by decide +kernel
theorem dX10_priceRule_113 : decode cX10_priceRule 113 = .ok (.ireturn, 1) := by decide +kernel
set_option maxRecDepth 20000 in
theorem ggX10_holds_X10_in : GoodIn wsX10_holds wsX10_in := goodIn_r _ [7] (by decide +kernel) (by decide +kernel)
set_option maxRecDepth 20000 in
theorem gX10_holds_X10_in : GoodIn wsX10_holds (va_wsS RX10 96 yX10_in wsX10_in) := goodIn_app (goodIn_of _ (by decide +kernel)) ggX10_holds_X10_in
theorem dX10_holds_0 : decode cX10_holds 0 = .ok (.aload_n 0, 1) := by decide +kernel
theorem dX10_holds_1 : decode cX10_holds 1 = .ok (.getfield 68, 3) := by decide +kernel
theorem dX10_holds_4 : decode cX10_holds 4 = .ok (.iload_n 1, 1) := by decide +kernel
theorem dX10_holds_5 : decode cX10_holds 5 = .ok (.iaload, 1) := by decide +kernel
theorem dX10_holds_6 : decode cX10_holds 6 = .ok (.iload_n 2, 1) := by decide +kernel
theorem dX10_holds_7 : decode cX10_holds 7 = .ok (.ishr, 1) := by decide +kernel
theorem dX10_holds_8 : decode cX10_holds 8 = .ok (.iconst 1, 1) := by decide +kernel
theorem dX10_holds_9 : decode cX10_holds 9 = .ok (.iand, 1) := by decide +kernel
theorem dX10_holds_10 : decode cX10_holds 10 = .ok (.iconst 1, 1) := by decide +kernel
theorem dX10_holds_11 : decode cX10_holds 11 = .ok (.if_icmp .ne 7, 3) := by decide +kernel
theorem dX10_holds_14 : decode cX10_holds 14 = .ok (.iconst 1, 1) := by decide +kernel
theorem dX10_holds_15 : decode cX10_holds 15 = .ok (.goto 4, 3) := by decide +kernel
theorem dX10_holds_18 : decode cX10_holds 18 = .ok (.iconst 0, 1) := by decide +kernel
theorem dX10_holds_19 : decode cX10_holds 19 = .ok (.istore 4, 2) := by decide +kernel
theorem dX10_holds_21 : decode cX10_holds 21 = .ok (.aload_n 0, 1) := by decide +kernel
theorem dX10_holds_22 : decode cX10_holds 22 = .ok (.getfield 68, 3) := by decide +kernel
theorem dX10_holds_25 : decode cX10_holds 25 = .ok (.iload_n 1, 1) := by decide +kernel
theorem dX10_holds_26 : decode cX10_holds 26 = .ok (.iaload, 1) := by decide +kernel
theorem dX10_holds_27 : decode cX10_holds 27 = .ok (.iload_n 2, 1) := by decide +kernel
theorem dX10_holds_28 : decode cX10_holds 28 = .ok (.bipush 6, 2) := by decide +kernel
theorem dX10_holds_30 : decode cX10_holds 30 = .ok (.iadd, 1) := by decide +kernel
theorem dX10_holds_31 : decode cX10_holds 31 = .ok (.bipush 7, 2) := by decide +kernel
theorem dX10_holds_33 : decode cX10_holds 33 = .ok (.irem, 1) := by decide +kernel
theorem dX10_holds_34 : decode cX10_holds 34 = .ok (.ishr, 1) := by decide +kernel
theorem dX10_holds_35 : decode cX10_holds 35 = .ok (.iconst 1, 1) := by decide +kernel
theorem dX10_holds_36 : decode cX10_holds 36 = .ok (.iand, 1) := by decide +kernel
theorem dX10_holds_37 : decode cX10_holds 37 = .ok (.iconst 1, 1) := by decide +kernel
theorem dX10_holds_38 : decode cX10_holds 38 = .ok (.if_icmp .ne 7, 3) := by decide +kernel
theorem dX10_holds_41 : decode cX10_holds 41 = .ok (.iconst 1, 1) := by decide +kernel
theorem dX10_holds_42 : decode cX10_holds 42 = .ok (.goto 4, 3) := by decide +kernel
theorem dX10_holds_45 : decode cX10_holds 45 = .ok (.iconst 0, 1) := by decide +kernel
theorem dX10_holds_46 : decode cX10_holds 46 = .ok (.istore 5, 2) := by decide +kernel
theorem dX10_holds_48 : decode cX10_holds 48 = .ok (.aload_n 0, 1) := by decide +kernel
theorem dX10_holds_49 : decode cX10_holds 49 = .ok (.getfield 74, 3) := by decide +kernel
theorem dX10_holds_52 : decode cX10_holds 52 = .ok (.iload_n 1, 1) := by decide +kernel
theorem dX10_holds_53 : decode cX10_holds 53 = .ok (.iaload, 1) := by decide +kernel
theorem dX10_holds_54 : decode cX10_holds 54 = .ok (.aload_n 0, 1) := by decide +kernel
theorem dX10_holds_55 : decode cX10_holds 55 = .ok (.getfield 71, 3) := by decide +kernel
theorem dX10_holds_58 : decode cX10_holds 58 = .ok (.iload_n 1, 1) := by decide +kernel
theorem dX10_holds_59 : decode cX10_holds 59 = .ok (.iaload, 1) := by decide +kernel
theorem dX10_holds_60 : decode cX10_holds 60 = .ok (.if_icmp .le 35, 3) := by decide +kernel
theorem dX10_holds_63 : decode cX10_holds 63 = .ok (.iload 4, 2) := by decide +kernel
theorem dX10_holds_65 : decode cX10_holds 65 = .ok (.ifCond .eq 28, 3) := by decide +kernel
theorem dX10_holds_68 : decode cX10_holds 68 = .ok (.iload_n 3, 1) := by decide +kernel
theorem dX10_holds_69 : decode cX10_holds 69 = .ok (.aload_n 0, 1) := by decide +kernel
theorem dX10_holds_70 : decode cX10_holds 70 = .ok (.getfield 71, 3) := by decide +kernel
theorem dX10_holds_73 : decode cX10_holds 73 = .ok (.iload_n 1, 1) := by decide +kernel
theorem dX10_holds_74 : decode cX10_holds 74 = .ok (.iaload, 1) := by decide +kernel
theorem dX10_holds_75 : decode cX10_holds 75 = .ok (.aload_n 0, 1) := by decide +kernel
theorem dX10_holds_76 : decode cX10_holds 76 = .ok (.getfield 74, 3) := by decide +kernel
theorem dX10_holds_79 : decode cX10_holds 79 = .ok (.iload_n 1, 1) := by decide +kernel
theorem dX10_holds_80 : decode cX10_holds 80 = .ok (.iaload, 1) := by decide +kernel
theorem dX10_holds_81 : decode cX10_holds 81 = .ok (.iconst 1, 1) := by decide +kernel
theorem dX10_holds_82 : decode cX10_holds 82 = .ok (.isub, 1) := by decide +kernel
theorem dX10_holds_83 : decode cX10_holds 83 = .ok (.invokestatic 96, 3) := by decide +kernel
theorem dX10_holds_86 : decode cX10_holds 86 = .ok (.ifCond .eq 7, 3) := by decide +kernel
theorem dX10_holds_89 : decode cX10_holds 89 = .ok (.iconst 1, 1) := by decide +kernel
theorem dX10_holds_90 : decode cX10_holds 90 = .ok (.goto 4, 3) := by decide +kernel
theorem dX10_holds_93 : decode cX10_holds 93 = .ok (.iconst 0, 1) := by decide +kernel
theorem dX10_holds_94 : decode cX10_holds 94 = .ok (.ireturn, 1) := by decide +kernel
theorem dX10_holds_95 : decode cX10_holds 95 = .ok (.iload_n 3, 1) := by decide +kernel
theorem dX10_holds_96 : decode cX10_holds 96 = .ok (.aload_n 0, 1) := by decide +kernel
theorem dX10_holds_97 : decode cX10_holds 97 = .ok (.getfield 71, 3) := by decide +kernel
theorem dX10_holds_100 : decode cX10_holds 100 = .ok (.iload_n 1, 1) := by decide +kernel
theorem dX10_holds_101 : decode cX10_holds 101 = .ok (.iaload, 1) := by decide +kernel
theorem dX10_holds_102 : decode cX10_holds 102 = .ok (.if_icmp .lt 8, 3) := by decide +kernel
theorem dX10_holds_105 : decode cX10_holds 105 = .ok (.iload 4, 2) := by decide +kernel
theorem dX10_holds_107 : decode cX10_holds 107 = .ok (.goto 23, 3) := by decide +kernel
theorem dX10_holds_110 : decode cX10_holds 110 = .ok (.iload_n 3, 1) := by decide +kernel
theorem dX10_holds_111 : decode cX10_holds 111 = .ok (.aload_n 0, 1) := by decide +kernel
theorem dX10_holds_112 : decode cX10_holds 112 = .ok (.getfield 74, 3) := by decide +kernel
theorem dX10_holds_115 : decode cX10_holds 115 = .ok (.iload_n 1, 1) := by decide +kernel
theorem dX10_holds_116 : decode cX10_holds 116 = .ok (.iaload, 1) := by decide +kernel
theorem dX10_holds_117 : decode cX10_holds 117 = .ok (.if_icmp .ge 12, 3) := by decide +kernel
theorem dX10_holds_120 : decode cX10_holds 120 = .ok (.iload 5, 2) := by decide +kernel
theorem dX10_holds_122 : decode cX10_holds 122 = .ok (.ifCond .eq 7, 3) := by decide +kernel
theorem dX10_holds_125 : decode cX10_holds 125 = .ok (.iconst 1, 1) := by decide +kernel
theorem dX10_holds_126 : decode cX10_holds 126 = .ok (.goto 4, 3) := by decide +kernel
theorem dX10_holds_129 : decode cX10_holds 129 = .ok (.iconst 0, 1) := by decide +kernel
theorem dX10_holds_130 : decode cX10_holds 130 = .ok (.ireturn, 1) := by decide +kernel
set_option maxRecDepth 20000 in
theorem ggX10_priceOf_X10_holds : GoodIn wsX10_priceOf wsX10_holds := goodIn_r _ [9, 10, 11, 12, 13, 14, 8, 15, 16, 17, 18, 19, 20, 21, 22, 23, 24, 25, 26, 27, 28, 29, 30, 31, 32, 33, 34, 35, 36, 37, 38, 39, 40, 41, 42, 43, 44, 45, 46, 47, 48, 49] (by decide +kernel) (by decide +kernel)
set_option maxRecDepth 20000 in
theorem gX10_priceOf_X10_holds : GoodIn wsX10_priceOf (wsV RX10 191 RX10 yX10_holds wsX10_holds) := goodIn_app (goodIn_of _ (by decide +kernel)) ggX10_priceOf_X10_holds
theorem dX10_priceOf_0 : decode cX10_priceOf 0 = .ok (.aload_n 0, 1) := by decide +kernel
theorem dX10_priceOf_1 : decode cX10_priceOf 1 = .ok (.getfield 19, 3) := by decide +kernel
theorem dX10_priceOf_4 : decode cX10_priceOf 4 = .ok (.iload_n 1, 1) := by decide +kernel
theorem dX10_priceOf_5 : decode cX10_priceOf 5 = .ok (.iaload, 1) := by decide +kernel
theorem dX10_priceOf_6 : decode cX10_priceOf 6 = .ok (.istore 4, 2) := by decide +kernel
theorem dX10_priceOf_8 : decode cX10_priceOf 8 = .ok (.iconst 0, 1) := by decide +kernel
theorem dX10_priceOf_9 : decode cX10_priceOf 9 = .ok (.istore 5, 2) := by decide +kernel
theorem dX10_priceOf_11 : decode cX10_priceOf 11 = .ok (.iload 5, 2) := by decide +kernel
theorem dX10_priceOf_13 : decode cX10_priceOf 13 = .ok (.aload_n 0, 1) := by decide +kernel
theorem dX10_priceOf_14 : decode cX10_priceOf 14 = .ok (.getfield 188, 3) := by decide +kernel
theorem dX10_priceOf_17 : decode cX10_priceOf 17 = .ok (.if_icmp .ge 44, 3) := by decide +kernel
theorem dX10_priceOf_20 : decode cX10_priceOf 20 = .ok (.aload_n 0, 1) := by decide +kernel
theorem dX10_priceOf_21 : decode cX10_priceOf 21 = .ok (.iload 5, 2) := by decide +kernel
theorem dX10_priceOf_23 : decode cX10_priceOf 23 = .ok (.iload_n 2, 1) := by decide +kernel
theorem dX10_priceOf_24 : decode cX10_priceOf 24 = .ok (.iload_n 3, 1) := by decide +kernel
theorem dX10_priceOf_25 : decode cX10_priceOf 25 = .ok (.invokevirtual 191, 3) := by decide +kernel
theorem dX10_priceOf_28 : decode cX10_priceOf 28 = .ok (.ifCond .eq 23, 3) := by decide +kernel
theorem dX10_priceOf_31 : decode cX10_priceOf 31 = .ok (.aload_n 0, 1) := by decide +kernel
theorem dX10_priceOf_32 : decode cX10_priceOf 32 = .ok (.getfield 19, 3) := by decide +kernel
theorem dX10_priceOf_35 : decode cX10_priceOf 35 = .ok (.iload_n 1, 1) := by decide +kernel
theorem dX10_priceOf_36 : decode cX10_priceOf 36 = .ok (.iaload, 1) := by decide +kernel
theorem dX10_priceOf_37 : decode cX10_priceOf 37 = .ok (.aload_n 0, 1) := by decide +kernel
theorem dX10_priceOf_38 : decode cX10_priceOf 38 = .ok (.getfield 77, 3) := by decide +kernel
theorem dX10_priceOf_41 : decode cX10_priceOf 41 = .ok (.iload 5, 2) := by decide +kernel
theorem dX10_priceOf_43 : decode cX10_priceOf 43 = .ok (.iaload, 1) := by decide +kernel
theorem dX10_priceOf_44 : decode cX10_priceOf 44 = .ok (.imul, 1) := by decide +kernel
theorem dX10_priceOf_45 : decode cX10_priceOf 45 = .ok (.bipush 100, 2) := by decide +kernel
theorem dX10_priceOf_47 : decode cX10_priceOf 47 = .ok (.idiv, 1) := by decide +kernel
theorem dX10_priceOf_48 : decode cX10_priceOf 48 = .ok (.goto 5, 3) := by decide +kernel
theorem dX10_priceOf_51 : decode cX10_priceOf 51 = .ok (.iload 4, 2) := by decide +kernel
theorem dX10_priceOf_53 : decode cX10_priceOf 53 = .ok (.istore 4, 2) := by decide +kernel
theorem dX10_priceOf_55 : decode cX10_priceOf 55 = .ok (.iinc 5 1, 3) := by decide +kernel
theorem dX10_priceOf_58 : decode cX10_priceOf 58 = .ok (.goto (-47), 3) := by decide +kernel
theorem dX10_priceOf_61 : decode cX10_priceOf 61 = .ok (.iload 4, 2) := by decide +kernel
theorem dX10_priceOf_63 : decode cX10_priceOf 63 = .ok (.aload_n 0, 1) := by decide +kernel
theorem dX10_priceOf_64 : decode cX10_priceOf 64 = .ok (.getfield 29, 3) := by decide +kernel
theorem dX10_priceOf_67 : decode cX10_priceOf 67 = .ok (.iconst 4, 1) := by decide +kernel
theorem dX10_priceOf_68 : decode cX10_priceOf 68 = .ok (.iaload, 1) := by decide +kernel
theorem dX10_priceOf_69 : decode cX10_priceOf 69 = .ok (.if_icmp .ge 12, 3) := by decide +kernel
theorem dX10_priceOf_72 : decode cX10_priceOf 72 = .ok (.aload_n 0, 1) := by decide +kernel
theorem dX10_priceOf_73 : decode cX10_priceOf 73 = .ok (.getfield 29, 3) := by decide +kernel
theorem dX10_priceOf_76 : decode cX10_priceOf 76 = .ok (.iconst 4, 1) := by decide +kernel
theorem dX10_priceOf_77 : decode cX10_priceOf 77 = .ok (.iaload, 1) := by decide +kernel
theorem dX10_priceOf_78 : decode cX10_priceOf 78 = .ok (.goto 5, 3) := by decide +kernel
theorem dX10_priceOf_81 : decode cX10_priceOf 81 = .ok (.iload 4, 2) := by decide +kernel
theorem dX10_priceOf_83 : decode cX10_priceOf 83 = .ok (.ireturn, 1) := by decide +kernel
set_option maxRecDepth 20000 in
theorem ggX10_price_X10_isRecipe : GoodIn wsX10_price wsX10_isRecipe := goodIn_r _ [5, 6, 7, 8, 4, 9, 25, 26, 27, 28, 29, 30, 31, 32, 33, 34, 35, 36, 37, 38, 39, 40, 41, 42, 43, 44, 45, 46, 47, 48, 49, 50, 51, 52, 53, 54, 55, 56, 57, 58] (by decide +kernel) (by decide +kernel)
set_option maxRecDepth 20000 in
theorem gX10_price_X10_isRecipe : GoodIn wsX10_price (wsV RX10 103 RX10 yX10_isRecipe wsX10_isRecipe) := goodIn_app (goodIn_of _ (by decide +kernel)) ggX10_price_X10_isRecipe
set_option maxRecDepth 20000 in
theorem ggX10_price_X10_in : GoodIn wsX10_price wsX10_in := goodIn_r _ [9] (by decide +kernel) (by decide +kernel)
set_option maxRecDepth 20000 in
theorem gX10_price_X10_in : GoodIn wsX10_price (va_wsS RX10 96 yX10_in wsX10_in) := goodIn_app (goodIn_of _ (by decide +kernel)) ggX10_price_X10_in
set_option maxRecDepth 20000 in
theorem ggX10_price_X10_priceOf : GoodIn wsX10_price wsX10_priceOf := goodIn_r _ [13, 14, 15, 16, 17, 18, 19, 20, 4, 21, 22, 23, 24, 7, 8, 9, 25, 26, 27, 28, 29, 30, 31, 32, 33, 34, 35, 36, 37, 38, 39, 40, 41, 42, 43, 44, 45, 46, 47, 48, 49, 50, 51, 52, 53, 54, 55, 56, 57, 58] (by decide +kernel) (by decide +kernel)
set_option maxRecDepth 20000 in
theorem gX10_price_X10_priceOf : GoodIn wsX10_price (wsV RX10 144 RX10 yX10_priceOf wsX10_priceOf) := goodIn_app (goodIn_of _ (by decide +kernel)) ggX10_price_X10_priceOf
theorem dX10_price_0 : decode cX10_price 0 = .ok (.aload_n 0, 1) := by decide +kernel
theorem dX10_price_1 : decode cX10_price 1 = .ok (.iload_n 1, 1) := by decide +kernel
theorem dX10_price_2 : decode cX10_price 2 = .ok (.invokevirtual 103, 3) := by decide +kernel
theorem dX10_price_5 : decode cX10_price 5 = .ok (.ifCond .eq 34, 3) := by decide +kernel
theorem dX10_price_8 : decode cX10_price 8 = .ok (.iload_n 2, 1) := by decide +kernel
theorem dX10_price_9 : decode cX10_price 9 = .ok (.iconst 0, 1) := by decide +kernel
theorem dX10_price_10 : decode cX10_price 10 = .ok (.bipush 6, 2) := by decide +kernel
theorem dX10_price_12 : decode cX10_price 12 = .ok (.invokestatic 96, 3) := by decide +kernel
theorem dX10_price_15 : decode cX10_price 15 = .ok (.ifCond .eq 24, 3) := by decide +kernel
theorem dX10_price_18 : decode cX10_price 18 = .ok (.iload_n 3, 1) := by decide +kernel
theorem dX10_price_19 : decode cX10_price 19 = .ok (.iconst 0, 1) := by decide +kernel
theorem dX10_price_20 : decode cX10_price 20 = .ok (.sipush 1439, 3) := by decide +kernel
theorem dX10_price_23 : decode cX10_price 23 = .ok (.invokestatic 96, 3) := by decide +kernel
theorem dX10_price_26 : decode cX10_price 26 = .ok (.ifCond .eq 13, 3) := by decide +kernel
theorem dX10_price_29 : decode cX10_price 29 = .ok (.aload_n 0, 1) := by decide +kernel
theorem dX10_price_30 : decode cX10_price 30 = .ok (.iload_n 1, 1) := by decide +kernel
theorem dX10_price_31 : decode cX10_price 31 = .ok (.iload_n 2, 1) := by decide +kernel
theorem dX10_price_32 : decode cX10_price 32 = .ok (.iload_n 3, 1) := by decide +kernel
theorem dX10_price_33 : decode cX10_price 33 = .ok (.invokevirtual 144, 3) := by decide +kernel
theorem dX10_price_36 : decode cX10_price 36 = .ok (.goto 4, 3) := by decide +kernel
theorem dX10_price_39 : decode cX10_price 39 = .ok (.iconst (-1), 1) := by decide +kernel
theorem dX10_price_40 : decode cX10_price 40 = .ok (.ireturn, 1) := by decide +kernel
set_option maxRecDepth 20000 in
theorem ggX10_person_X10_in : GoodIn wsX10_person wsX10_in := goodIn_r _ [5] (by decide +kernel) (by decide +kernel)
set_option maxRecDepth 20000 in
theorem gX10_person_X10_in : GoodIn wsX10_person (va_wsS RX10 96 yX10_in wsX10_in) := goodIn_app (goodIn_of _ (by decide +kernel)) ggX10_person_X10_in
theorem dX10_person_0 : decode cX10_person 0 = .ok (.iload_n 1, 1) := by decide +kernel
theorem dX10_person_1 : decode cX10_person 1 = .ok (.iconst 0, 1) := by decide +kernel
theorem dX10_person_2 : decode cX10_person 2 = .ok (.iconst 5, 1) := by decide +kernel
theorem dX10_person_3 : decode cX10_person 3 = .ok (.invokestatic 96, 3) := by decide +kernel
theorem dX10_person_6 : decode cX10_person 6 = .ok (.ifCond .eq 24, 3) := by decide +kernel
theorem dX10_person_9 : decode cX10_person 9 = .ok (.iload_n 2, 1) := by decide +kernel
theorem dX10_person_10 : decode cX10_person 10 = .ok (.iconst 0, 1) := by decide +kernel
theorem dX10_person_11 : decode cX10_person 11 = .ok (.bipush 10, 2) := by decide +kernel
theorem dX10_person_13 : decode cX10_person 13 = .ok (.invokestatic 96, 3) := by decide +kernel
theorem dX10_person_16 : decode cX10_person 16 = .ok (.ifCond .eq 14, 3) := by decide +kernel
theorem dX10_person_19 : decode cX10_person 19 = .ok (.iload_n 3, 1) := by decide +kernel
theorem dX10_person_20 : decode cX10_person 20 = .ok (.iconst 0, 1) := by decide +kernel
theorem dX10_person_21 : decode cX10_person 21 = .ok (.sipush 1440, 3) := by decide +kernel
theorem dX10_person_24 : decode cX10_person 24 = .ok (.invokestatic 96, 3) := by decide +kernel
theorem dX10_person_27 : decode cX10_person 27 = .ok (.ifCond .ne 5, 3) := by decide +kernel
theorem dX10_person_30 : decode cX10_person 30 = .ok (.iconst (-1), 1) := by decide +kernel
theorem dX10_person_31 : decode cX10_person 31 = .ok (.ireturn, 1) := by decide +kernel
theorem dX10_person_32 : decode cX10_person 32 = .ok (.aload_n 0, 1) := by decide +kernel
theorem dX10_person_33 : decode cX10_person 33 = .ok (.getfield 80, 3) := by decide +kernel
theorem dX10_person_36 : decode cX10_person 36 = .ok (.iload_n 1, 1) := by decide +kernel
theorem dX10_person_37 : decode cX10_person 37 = .ok (.iload_n 2, 1) := by decide +kernel
theorem dX10_person_38 : decode cX10_person 38 = .ok (.iload_n 3, 1) := by decide +kernel
theorem dX10_person_39 : decode cX10_person 39 = .ok (.imul, 1) := by decide +kernel
theorem dX10_person_40 : decode cX10_person 40 = .ok (.iastore, 1) := by decide +kernel
theorem dX10_person_41 : decode cX10_person 41 = .ok (.iconst 0, 1) := by decide +kernel
theorem dX10_person_42 : decode cX10_person 42 = .ok (.ireturn, 1) := by decide +kernel
set_option maxRecDepth 20000 in
theorem ggX10_tips_X10_in : GoodIn wsX10_tips wsX10_in := goodIn_r _ [6] (by decide +kernel) (by decide +kernel)
set_option maxRecDepth 20000 in
theorem gX10_tips_X10_in : GoodIn wsX10_tips (va_wsS RX10 96 yX10_in wsX10_in) := goodIn_app (goodIn_of _ (by decide +kernel)) ggX10_tips_X10_in
theorem dX10_tips_0 : decode cX10_tips 0 = .ok (.iload_n 1, 1) := by decide +kernel
theorem dX10_tips_1 : decode cX10_tips 1 = .ok (.iconst 0, 1) := by decide +kernel
theorem dX10_tips_2 : decode cX10_tips 2 = .ok (.ldc 194, 2) := by decide +kernel
theorem dX10_tips_4 : decode cX10_tips 4 = .ok (.invokestatic 96, 3) := by decide +kernel
theorem dX10_tips_7 : decode cX10_tips 7 = .ok (.ifCond .eq 12, 3) := by decide +kernel
theorem dX10_tips_10 : decode cX10_tips 10 = .ok (.iload_n 2, 1) := by decide +kernel
theorem dX10_tips_11 : decode cX10_tips 11 = .ok (.iconst 0, 1) := by decide +kernel
theorem dX10_tips_12 : decode cX10_tips 12 = .ok (.iconst 5, 1) := by decide +kernel
theorem dX10_tips_13 : decode cX10_tips 13 = .ok (.invokestatic 96, 3) := by decide +kernel
theorem dX10_tips_16 : decode cX10_tips 16 = .ok (.ifCond .ne 5, 3) := by decide +kernel
theorem dX10_tips_19 : decode cX10_tips 19 = .ok (.iconst (-1), 1) := by decide +kernel
theorem dX10_tips_20 : decode cX10_tips 20 = .ok (.ireturn, 1) := by decide +kernel
theorem dX10_tips_21 : decode cX10_tips 21 = .ok (.lconst 0, 1) := by decide +kernel
theorem dX10_tips_22 : decode cX10_tips 22 = .ok (.lstore_n 3, 1) := by decide +kernel
theorem dX10_tips_23 : decode cX10_tips 23 = .ok (.iconst 0, 1) := by decide +kernel
theorem dX10_tips_24 : decode cX10_tips 24 = .ok (.istore 5, 2) := by decide +kernel
theorem dX10_tips_26 : decode cX10_tips 26 = .ok (.iload 5, 2) := by decide +kernel
theorem dX10_tips_28 : decode cX10_tips 28 = .ok (.bipush 6, 2) := by decide +kernel
theorem dX10_tips_30 : decode cX10_tips 30 = .ok (.if_icmp .ge 20, 3) := by decide +kernel
theorem dX10_tips_33 : decode cX10_tips 33 = .ok (.lload_n 3, 1) := by decide +kernel
theorem dX10_tips_34 : decode cX10_tips 34 = .ok (.aload_n 0, 1) := by decide +kernel
theorem dX10_tips_35 : decode cX10_tips 35 = .ok (.getfield 80, 3) := by decide +kernel
theorem dX10_tips_38 : decode cX10_tips 38 = .ok (.iload 5, 2) := by decide +kernel
theorem dX10_tips_40 : decode cX10_tips 40 = .ok (.iaload, 1) := by decide +kernel
theorem dX10_tips_41 : decode cX10_tips 41 = .ok (.i2l, 1) := by decide +kernel
theorem dX10_tips_42 : decode cX10_tips 42 = .ok (.ladd, 1) := by decide +kernel
theorem dX10_tips_43 : decode cX10_tips 43 = .ok (.lstore_n 3, 1) := by decide +kernel
theorem dX10_tips_44 : decode cX10_tips 44 = .ok (.iinc 5 1, 3) := by decide +kernel
theorem dX10_tips_47 : decode cX10_tips 47 = .ok (.goto (-21), 3) := by decide +kernel
theorem dX10_tips_50 : decode cX10_tips 50 = .ok (.lload_n 3, 1) := by decide +kernel
theorem dX10_tips_51 : decode cX10_tips 51 = .ok (.lconst 0, 1) := by decide +kernel
theorem dX10_tips_52 : decode cX10_tips 52 = .ok (.lcmp, 1) := by decide +kernel
theorem dX10_tips_53 : decode cX10_tips 53 = .ok (.ifCond .ne 6, 3) := by decide +kernel
theorem dX10_tips_56 : decode cX10_tips 56 = .ok (.bipush (-2), 2) := by decide +kernel
theorem dX10_tips_58 : decode cX10_tips 58 = .ok (.ireturn, 1) := by decide +kernel
theorem dX10_tips_59 : decode cX10_tips 59 = .ok (.iload_n 1, 1) := by decide +kernel
theorem dX10_tips_60 : decode cX10_tips 60 = .ok (.i2l, 1) := by decide +kernel
theorem dX10_tips_61 : decode cX10_tips 61 = .ok (.lstore 5, 2) := by decide +kernel
theorem dX10_tips_63 : decode cX10_tips 63 = .ok (.iconst 0, 1) := by decide +kernel
theorem dX10_tips_64 : decode cX10_tips 64 = .ok (.istore 7, 2) := by decide +kernel
theorem dX10_tips_66 : decode cX10_tips 66 = .ok (.iload_n 1, 1) := by decide +kernel
theorem dX10_tips_67 : decode cX10_tips 67 = .ok (.i2l, 1) := by decide +kernel
theorem dX10_tips_68 : decode cX10_tips 68 = .ok (.aload_n 0, 1) := by decide +kernel
theorem dX10_tips_69 : decode cX10_tips 69 = .ok (.getfield 80, 3) := by decide +kernel
theorem dX10_tips_72 : decode cX10_tips 72 = .ok (.iload_n 2, 1) := by decide +kernel
theorem dX10_tips_73 : decode cX10_tips 73 = .ok (.iaload, 1) := by decide +kernel
theorem dX10_tips_74 : decode cX10_tips 74 = .ok (.i2l, 1) := by decide +kernel
theorem dX10_tips_75 : decode cX10_tips 75 = .ok (.lmul, 1) := by decide +kernel
theorem dX10_tips_76 : decode cX10_tips 76 = .ok (.lload_n 3, 1) := by decide +kernel
theorem dX10_tips_77 : decode cX10_tips 77 = .ok (.lrem, 1) := by decide +kernel
theorem dX10_tips_78 : decode cX10_tips 78 = .ok (.lstore 8, 2) := by decide +kernel
theorem dX10_tips_80 : decode cX10_tips 80 = .ok (.iconst 0, 1) := by decide +kernel
theorem dX10_tips_81 : decode cX10_tips 81 = .ok (.istore 10, 2) := by decide +kernel
theorem dX10_tips_83 : decode cX10_tips 83 = .ok (.iload 10, 2) := by decide +kernel
theorem dX10_tips_85 : decode cX10_tips 85 = .ok (.bipush 6, 2) := by decide +kernel
theorem dX10_tips_87 : decode cX10_tips 87 = .ok (.if_icmp .ge 74, 3) := by decide +kernel
theorem dX10_tips_90 : decode cX10_tips 90 = .ok (.lload 5, 2) := by decide +kernel
theorem dX10_tips_92 : decode cX10_tips 92 = .ok (.iload_n 1, 1) := by decide +kernel
theorem dX10_tips_93 : decode cX10_tips 93 = .ok (.i2l, 1) := by decide +kernel
theorem dX10_tips_94 : decode cX10_tips 94 = .ok (.aload_n 0, 1) := by decide +kernel
theorem dX10_tips_95 : decode cX10_tips 95 = .ok (.getfield 80, 3) := by decide +kernel
theorem dX10_tips_98 : decode cX10_tips 98 = .ok (.iload 10, 2) := by decide +kernel
theorem dX10_tips_100 : decode cX10_tips 100 = .ok (.iaload, 1) := by decide +kernel
theorem dX10_tips_101 : decode cX10_tips 101 = .ok (.i2l, 1) := by decide +kernel
theorem dX10_tips_102 : decode cX10_tips 102 = .ok (.lmul, 1) := by decide +kernel
theorem dX10_tips_103 : decode cX10_tips 103 = .ok (.lload_n 3, 1) := by decide +kernel
theorem dX10_tips_104 : decode cX10_tips 104 = .ok (.ldiv, 1) := by decide +kernel
theorem dX10_tips_105 : decode cX10_tips 105 = .ok (.lsub, 1) := by decide +kernel
theorem dX10_tips_106 : decode cX10_tips 106 = .ok (.lstore 5, 2) := by decide +kernel
theorem dX10_tips_108 : decode cX10_tips 108 = .ok (.iload_n 1, 1) := by decide +kernel
theorem dX10_tips_109 : decode cX10_tips 109 = .ok (.i2l, 1) := by decide +kernel
theorem dX10_tips_110 : decode cX10_tips 110 = .ok (.aload_n 0, 1) := by decide +kernel
theorem dX10_tips_111 : decode cX10_tips 111 = .ok (.getfield 80, 3) := by decide +kernel
theorem dX10_tips_114 : decode cX10_tips 114 = .ok (.iload 10, 2) := by decide +kernel
theorem dX10_tips_116 : decode cX10_tips 116 = .ok (.iaload, 1) := by decide +kernel
theorem dX10_tips_117 : decode cX10_tips 117 = .ok (.i2l, 1) := by decide +kernel
theorem dX10_tips_118 : decode cX10_tips 118 = .ok (.lmul, 1) := by decide +kernel
theorem dX10_tips_119 : decode cX10_tips 119 = .ok (.lload_n 3, 1) := by decide +kernel
theorem dX10_tips_120 : decode cX10_tips 120 = .ok (.lrem, 1) := by decide +kernel
theorem dX10_tips_121 : decode cX10_tips 121 = .ok (.lstore 11, 2) := by decide +kernel
theorem dX10_tips_123 : decode cX10_tips 123 = .ok (.iload 7, 2) := by decide +kernel
theorem dX10_tips_125 : decode cX10_tips 125 = .ok (.lload 11, 2) := by decide +kernel
theorem dX10_tips_127 : decode cX10_tips 127 = .ok (.lload 8, 2) := by decide +kernel
theorem dX10_tips_129 : decode cX10_tips 129 = .ok (.lcmp, 1) := by decide +kernel
theorem dX10_tips_130 : decode cX10_tips 130 = .ok (.ifCond .gt 17, 3) := by decide +kernel
theorem dX10_tips_133 : decode cX10_tips 133 = .ok (.lload 11, 2) := by decide +kernel
theorem dX10_tips_135 : decode cX10_tips 135 = .ok (.lload 8, 2) := by decide +kernel
theorem dX10_tips_137 : decode cX10_tips 137 = .ok (.lcmp, 1) := by decide +kernel
theorem dX10_tips_138 : decode cX10_tips 138 = .ok (.ifCond .ne 13, 3) := by decide +kernel
theorem dX10_tips_141 : decode cX10_tips 141 = .ok (.iload 10, 2) := by decide +kernel
theorem dX10_tips_143 : decode cX10_tips 143 = .ok (.iload_n 2, 1) := by decide +kernel
theorem dX10_tips_144 : decode cX10_tips 144 = .ok (.if_icmp .ge 7, 3) := by decide +kernel
theorem dX10_tips_147 : decode cX10_tips 147 = .ok (.iconst 1, 1) := by decide +kernel
theorem dX10_tips_148 : decode cX10_tips 148 = .ok (.goto 4, 3) := by decide +kernel
theorem dX10_tips_151 : decode cX10_tips 151 = .ok (.iconst 0, 1) := by decide +kernel
theorem dX10_tips_152 : decode cX10_tips 152 = .ok (.iadd, 1) := by decide +kernel
theorem dX10_tips_153 : decode cX10_tips 153 = .ok (.istore 7, 2) := by decide +kernel
theorem dX10_tips_155 : decode cX10_tips 155 = .ok (.iinc 10 1, 3) := by decide +kernel
theorem dX10_tips_158 : decode cX10_tips 158 = .ok (.goto (-75), 3) := by decide +kernel
theorem dX10_tips_161 : decode cX10_tips 161 = .ok (.iload_n 1, 1) := by decide +kernel
theorem dX10_tips_162 : decode cX10_tips 162 = .ok (.i2l, 1) := by decide +kernel
theorem dX10_tips_163 : decode cX10_tips 163 = .ok (.aload_n 0, 1) := by decide +kernel
theorem dX10_tips_164 : decode cX10_tips 164 = .ok (.getfield 80, 3) := by decide +kernel
theorem dX10_tips_167 : decode cX10_tips 167 = .ok (.iload_n 2, 1) := by decide +kernel
theorem dX10_tips_168 : decode cX10_tips 168 = .ok (.iaload, 1) := by decide +kernel
theorem dX10_tips_169 : decode cX10_tips 169 = .ok (.i2l, 1) := by decide +kernel
theorem dX10_tips_170 : decode cX10_tips 170 = .ok (.lmul, 1) := by decide +kernel
theorem dX10_tips_171 : decode cX10_tips 171 = .ok (.lload_n 3, 1) := by decide +kernel
theorem dX10_tips_172 : decode cX10_tips 172 = .ok (.ldiv, 1) := by decide +kernel
theorem dX10_tips_173 : decode cX10_tips 173 = .ok (.l2i, 1) := by decide +kernel
theorem dX10_tips_174 : decode cX10_tips 174 = .ok (.iload 7, 2) := by decide +kernel
theorem dX10_tips_176 : decode cX10_tips 176 = .ok (.i2l, 1) := by decide +kernel
theorem dX10_tips_177 : decode cX10_tips 177 = .ok (.lload 5, 2) := by decide +kernel
theorem dX10_tips_179 : decode cX10_tips 179 = .ok (.lcmp, 1) := by decide +kernel
theorem dX10_tips_180 : decode cX10_tips 180 = .ok (.ifCond .ge 7, 3) := by decide +kernel
theorem dX10_tips_183 : decode cX10_tips 183 = .ok (.iconst 1, 1) := by decide +kernel
theorem dX10_tips_184 : decode cX10_tips 184 = .ok (.goto 4, 3) := by decide +kernel
theorem dX10_tips_187 : decode cX10_tips 187 = .ok (.iconst 0, 1) := by decide +kernel
theorem dX10_tips_188 : decode cX10_tips 188 = .ok (.iadd, 1) := by decide +kernel
theorem dX10_tips_189 : decode cX10_tips 189 = .ok (.ireturn, 1) := by decide +kernel
set_option maxRecDepth 20000 in
theorem ggX10_keg_X10_in : GoodIn wsX10_keg wsX10_in := goodIn_r _ [7] (by decide +kernel) (by decide +kernel)
set_option maxRecDepth 20000 in
theorem gX10_keg_X10_in : GoodIn wsX10_keg (va_wsS RX10 96 yX10_in wsX10_in) := goodIn_app (goodIn_of _ (by decide +kernel)) ggX10_keg_X10_in
theorem dX10_keg_0 : decode cX10_keg 0 = .ok (.iload_n 1, 1) := by decide +kernel
theorem dX10_keg_1 : decode cX10_keg 1 = .ok (.sipush 1000, 3) := by decide +kernel
theorem dX10_keg_4 : decode cX10_keg 4 = .ok (.ldc 195, 2) := by decide +kernel
theorem dX10_keg_6 : decode cX10_keg 6 = .ok (.invokestatic 96, 3) := by decide +kernel
theorem dX10_keg_9 : decode cX10_keg 9 = .ok (.ifCond .eq 13, 3) := by decide +kernel
theorem dX10_keg_12 : decode cX10_keg 12 = .ok (.iload_n 2, 1) := by decide +kernel
theorem dX10_keg_13 : decode cX10_keg 13 = .ok (.iconst 0, 1) := by decide +kernel
theorem dX10_keg_14 : decode cX10_keg 14 = .ok (.bipush 40, 2) := by decide +kernel
theorem dX10_keg_16 : decode cX10_keg 16 = .ok (.invokestatic 96, 3) := by decide +kernel
theorem dX10_keg_19 : decode cX10_keg 19 = .ok (.ifCond .ne 5, 3) := by decide +kernel
theorem dX10_keg_22 : decode cX10_keg 22 = .ok (.iconst (-1), 1) := by decide +kernel
theorem dX10_keg_23 : decode cX10_keg 23 = .ok (.ireturn, 1) := by decide +kernel
theorem dX10_keg_24 : decode cX10_keg 24 = .ok (.aload_n 0, 1) := by decide +kernel
theorem dX10_keg_25 : decode cX10_keg 25 = .ok (.getfield 29, 3) := by decide +kernel
theorem dX10_keg_28 : decode cX10_keg 28 = .ok (.iconst 5, 1) := by decide +kernel
theorem dX10_keg_29 : decode cX10_keg 29 = .ok (.iaload, 1) := by decide +kernel
theorem dX10_keg_30 : decode cX10_keg 30 = .ok (.iload_n 2, 1) := by decide +kernel
theorem dX10_keg_31 : decode cX10_keg 31 = .ok (.iconst 4, 1) := by decide +kernel
theorem dX10_keg_32 : decode cX10_keg 32 = .ok (.if_icmp .le 17, 3) := by decide +kernel
theorem dX10_keg_35 : decode cX10_keg 35 = .ok (.aload_n 0, 1) := by decide +kernel
theorem dX10_keg_36 : decode cX10_keg 36 = .ok (.getfield 29, 3) := by decide +kernel
theorem dX10_keg_39 : decode cX10_keg 39 = .ok (.bipush 6, 2) := by decide +kernel
theorem dX10_keg_41 : decode cX10_keg 41 = .ok (.iaload, 1) := by decide +kernel
theorem dX10_keg_42 : decode cX10_keg 42 = .ok (.iload_n 2, 1) := by decide +kernel
theorem dX10_keg_43 : decode cX10_keg 43 = .ok (.iconst 4, 1) := by decide +kernel
theorem dX10_keg_44 : decode cX10_keg 44 = .ok (.isub, 1) := by decide +kernel
theorem dX10_keg_45 : decode cX10_keg 45 = .ok (.imul, 1) := by decide +kernel
theorem dX10_keg_46 : decode cX10_keg 46 = .ok (.goto 4, 3) := by decide +kernel
theorem dX10_keg_49 : decode cX10_keg 49 = .ok (.iconst 0, 1) := by decide +kernel
theorem dX10_keg_50 : decode cX10_keg 50 = .ok (.iadd, 1) := by decide +kernel
theorem dX10_keg_51 : decode cX10_keg 51 = .ok (.istore_n 3, 1) := by decide +kernel
theorem dX10_keg_52 : decode cX10_keg 52 = .ok (.iload_n 3, 1) := by decide +kernel
theorem dX10_keg_53 : decode cX10_keg 53 = .ok (.bipush 90, 2) := by decide +kernel
theorem dX10_keg_55 : decode cX10_keg 55 = .ok (.if_icmp .le 8, 3) := by decide +kernel
theorem dX10_keg_58 : decode cX10_keg 58 = .ok (.bipush 90, 2) := by decide +kernel
theorem dX10_keg_60 : decode cX10_keg 60 = .ok (.goto 4, 3) := by decide +kernel
theorem dX10_keg_63 : decode cX10_keg 63 = .ok (.iload_n 3, 1) := by decide +kernel
theorem dX10_keg_64 : decode cX10_keg 64 = .ok (.istore_n 3, 1) := by decide +kernel
theorem dX10_keg_65 : decode cX10_keg 65 = .ok (.iload_n 1, 1) := by decide +kernel
theorem dX10_keg_66 : decode cX10_keg 66 = .ok (.bipush 100, 2) := by decide +kernel
theorem dX10_keg_68 : decode cX10_keg 68 = .ok (.iload_n 3, 1) := by decide +kernel
theorem dX10_keg_69 : decode cX10_keg 69 = .ok (.isub, 1) := by decide +kernel
theorem dX10_keg_70 : decode cX10_keg 70 = .ok (.imul, 1) := by decide +kernel
theorem dX10_keg_71 : decode cX10_keg 71 = .ok (.ldc 196, 2) := by decide +kernel
theorem dX10_keg_73 : decode cX10_keg 73 = .ok (.idiv, 1) := by decide +kernel
theorem dX10_keg_74 : decode cX10_keg 74 = .ok (.ireturn, 1) := by decide +kernel
set_option maxRecDepth 20000 in
theorem ggX10_deal_X10_in : GoodIn wsX10_deal wsX10_in := goodIn_r _ [8] (by decide +kernel) (by decide +kernel)
set_option maxRecDepth 20000 in
theorem gX10_deal_X10_in : GoodIn wsX10_deal (va_wsS RX10 96 yX10_in wsX10_in) := goodIn_app (goodIn_of _ (by decide +kernel)) ggX10_deal_X10_in
theorem dX10_deal_0 : decode cX10_deal 0 = .ok (.iload_n 1, 1) := by decide +kernel
theorem dX10_deal_1 : decode cX10_deal 1 = .ok (.iconst 1, 1) := by decide +kernel
theorem dX10_deal_2 : decode cX10_deal 2 = .ok (.bipush 24, 2) := by decide +kernel
theorem dX10_deal_4 : decode cX10_deal 4 = .ok (.invokestatic 96, 3) := by decide +kernel
theorem dX10_deal_7 : decode cX10_deal 7 = .ok (.ifCond .eq 13, 3) := by decide +kernel
theorem dX10_deal_10 : decode cX10_deal 10 = .ok (.iload_n 2, 1) := by decide +kernel
theorem dX10_deal_11 : decode cX10_deal 11 = .ok (.iconst 0, 1) := by decide +kernel
theorem dX10_deal_12 : decode cX10_deal 12 = .ok (.ldc 195, 2) := by decide +kernel
theorem dX10_deal_14 : decode cX10_deal 14 = .ok (.invokestatic 96, 3) := by decide +kernel
theorem dX10_deal_17 : decode cX10_deal 17 = .ok (.ifCond .ne 5, 3) := by decide +kernel
theorem dX10_deal_20 : decode cX10_deal 20 = .ok (.iconst (-1), 1) := by decide +kernel
theorem dX10_deal_21 : decode cX10_deal 21 = .ok (.ireturn, 1) := by decide +kernel
theorem dX10_deal_22 : decode cX10_deal 22 = .ok (.aload_n 0, 1) := by decide +kernel
theorem dX10_deal_23 : decode cX10_deal 23 = .ok (.getfield 197, 3) := by decide +kernel
theorem dX10_deal_26 : decode cX10_deal 26 = .ok (.iconst 5, 1) := by decide +kernel
theorem dX10_deal_27 : decode cX10_deal 27 = .ok (.if_icmp .ne 6, 3) := by decide +kernel
theorem dX10_deal_30 : decode cX10_deal 30 = .ok (.bipush (-3), 2) := by decide +kernel
theorem dX10_deal_32 : decode cX10_deal 32 = .ok (.ireturn, 1) := by decide +kernel
theorem dX10_deal_33 : decode cX10_deal 33 = .ok (.aload_n 0, 1) := by decide +kernel
theorem dX10_deal_34 : decode cX10_deal 34 = .ok (.getfield 83, 3) := by decide +kernel
theorem dX10_deal_37 : decode cX10_deal 37 = .ok (.aload_n 0, 1) := by decide +kernel
theorem dX10_deal_38 : decode cX10_deal 38 = .ok (.getfield 197, 3) := by decide +kernel
theorem dX10_deal_41 : decode cX10_deal 41 = .ok (.iload_n 1, 1) := by decide +kernel
theorem dX10_deal_42 : decode cX10_deal 42 = .ok (.iastore, 1) := by decide +kernel
theorem dX10_deal_43 : decode cX10_deal 43 = .ok (.aload_n 0, 1) := by decide +kernel
theorem dX10_deal_44 : decode cX10_deal 44 = .ok (.getfield 86, 3) := by decide +kernel
theorem dX10_deal_47 : decode cX10_deal 47 = .ok (.aload_n 0, 1) := by decide +kernel
theorem dX10_deal_48 : decode cX10_deal 48 = .ok (.getfield 197, 3) := by decide +kernel
theorem dX10_deal_51 : decode cX10_deal 51 = .ok (.iload_n 2, 1) := by decide +kernel
theorem dX10_deal_52 : decode cX10_deal 52 = .ok (.iastore, 1) := by decide +kernel
theorem dX10_deal_53 : decode cX10_deal 53 = .ok (.aload_n 0, 1) := by decide +kernel
theorem dX10_deal_54 : decode cX10_deal 54 = .ok (.dup, 1) := by decide +kernel
theorem dX10_deal_55 : decode cX10_deal 55 = .ok (.getfield 197, 3) := by decide +kernel
theorem dX10_deal_58 : decode cX10_deal 58 = .ok (.iconst 1, 1) := by decide +kernel
theorem dX10_deal_59 : decode cX10_deal 59 = .ok (.iadd, 1) := by decide +kernel
theorem dX10_deal_60 : decode cX10_deal 60 = .ok (.putfield 197, 3) := by decide +kernel
theorem dX10_deal_63 : decode cX10_deal 63 = .ok (.aload_n 0, 1) := by decide +kernel
theorem dX10_deal_64 : decode cX10_deal 64 = .ok (.getfield 197, 3) := by decide +kernel
theorem dX10_deal_67 : decode cX10_deal 67 = .ok (.ireturn, 1) := by decide +kernel
set_option maxRecDepth 20000 in
theorem ggX10_buy_X10_in : GoodIn wsX10_buy wsX10_in := goodIn_r _ [9] (by decide +kernel) (by decide +kernel)
set_option maxRecDepth 20000 in
theorem gX10_buy_X10_in : GoodIn wsX10_buy (va_wsS RX10 96 yX10_in wsX10_in) := goodIn_app (goodIn_of _ (by decide +kernel)) ggX10_buy_X10_in
theorem dX10_buy_0 : decode cX10_buy 0 = .ok (.iload_n 1, 1) := by decide +kernel
theorem dX10_buy_1 : decode cX10_buy 1 = .ok (.iconst 1, 1) := by decide +kernel
theorem dX10_buy_2 : decode cX10_buy 2 = .ok (.bipush 120, 2) := by decide +kernel
theorem dX10_buy_4 : decode cX10_buy 4 = .ok (.invokestatic 96, 3) := by decide +kernel
theorem dX10_buy_7 : decode cX10_buy 7 = .ok (.ifCond .eq 17, 3) := by decide +kernel
theorem dX10_buy_10 : decode cX10_buy 10 = .ok (.iload_n 2, 1) := by decide +kernel
theorem dX10_buy_11 : decode cX10_buy 11 = .ok (.iconst 0, 1) := by decide +kernel
theorem dX10_buy_12 : decode cX10_buy 12 = .ok (.iconst 1, 1) := by decide +kernel
theorem dX10_buy_13 : decode cX10_buy 13 = .ok (.aload_n 0, 1) := by decide +kernel
theorem dX10_buy_14 : decode cX10_buy 14 = .ok (.getfield 197, 3) := by decide +kernel
theorem dX10_buy_17 : decode cX10_buy 17 = .ok (.iadd, 1) := by decide +kernel
theorem dX10_buy_18 : decode cX10_buy 18 = .ok (.invokestatic 96, 3) := by decide +kernel
theorem dX10_buy_21 : decode cX10_buy 21 = .ok (.ifCond .ne 5, 3) := by decide +kernel
theorem dX10_buy_24 : decode cX10_buy 24 = .ok (.iconst (-1), 1) := by decide +kernel
theorem dX10_buy_25 : decode cX10_buy 25 = .ok (.ireturn, 1) := by decide +kernel
theorem dX10_buy_26 : decode cX10_buy 26 = .ok (.aload_n 0, 1) := by decide +kernel
theorem dX10_buy_27 : decode cX10_buy 27 = .ok (.getfield 197, 3) := by decide +kernel
theorem dX10_buy_30 : decode cX10_buy 30 = .ok (.ifCond .ne 6, 3) := by decide +kernel
theorem dX10_buy_33 : decode cX10_buy 33 = .ok (.bipush (-2), 2) := by decide +kernel
theorem dX10_buy_35 : decode cX10_buy 35 = .ok (.ireturn, 1) := by decide +kernel
theorem dX10_buy_36 : decode cX10_buy 36 = .ok (.aload_n 0, 1) := by decide +kernel
theorem dX10_buy_37 : decode cX10_buy 37 = .ok (.getfield 197, 3) := by decide +kernel
theorem dX10_buy_40 : decode cX10_buy 40 = .ok (.istore_n 3, 1) := by decide +kernel
theorem dX10_buy_41 : decode cX10_buy 41 = .ok (.iload_n 3, 1) := by decide +kernel
theorem dX10_buy_42 : decode cX10_buy 42 = .ok (.ifCond .lt 146, 3) := by decide +kernel
theorem dX10_buy_45 : decode cX10_buy 45 = .ok (.iconst 0, 1) := by decide +kernel
theorem dX10_buy_46 : decode cX10_buy 46 = .ok (.istore 4, 2) := by decide +kernel
theorem dX10_buy_48 : decode cX10_buy 48 = .ok (.iload 4, 2) := by decide +kernel
theorem dX10_buy_50 : decode cX10_buy 50 = .ok (.sipush 150, 3) := by decide +kernel
theorem dX10_buy_53 : decode cX10_buy 53 = .ok (.if_icmp .ge 129, 3) := by decide +kernel
theorem dX10_buy_56 : decode cX10_buy 56 = .ok (.iload_n 3, 1) := by decide +kernel
theorem dX10_buy_57 : decode cX10_buy 57 = .ok (.aload_n 0, 1) := by decide +kernel
theorem dX10_buy_58 : decode cX10_buy 58 = .ok (.getfield 197, 3) := by decide +kernel
theorem dX10_buy_61 : decode cX10_buy 61 = .ok (.if_icmp .ne 17, 3) := by decide +kernel
theorem dX10_buy_64 : decode cX10_buy 64 = .ok (.iload 4, 2) := by decide +kernel
theorem dX10_buy_66 : decode cX10_buy 66 = .ok (.ifCond .ne 7, 3) := by decide +kernel
theorem dX10_buy_69 : decode cX10_buy 69 = .ok (.iconst 0, 1) := by decide +kernel
theorem dX10_buy_70 : decode cX10_buy 70 = .ok (.goto 25, 3) := by decide +kernel
theorem dX10_buy_73 : decode cX10_buy 73 = .ok (.ldc 200, 2) := by decide +kernel
theorem dX10_buy_75 : decode cX10_buy 75 = .ok (.goto 20, 3) := by decide +kernel
theorem dX10_buy_78 : decode cX10_buy 78 = .ok (.aload_n 0, 1) := by decide +kernel
theorem dX10_buy_79 : decode cX10_buy 79 = .ok (.getfield 89, 3) := by decide +kernel
theorem dX10_buy_82 : decode cX10_buy 82 = .ok (.sipush 150, 3) := by decide +kernel
theorem dX10_buy_85 : decode cX10_buy 85 = .ok (.iload_n 3, 1) := by decide +kernel
theorem dX10_buy_86 : decode cX10_buy 86 = .ok (.imul, 1) := by decide +kernel
theorem dX10_buy_87 : decode cX10_buy 87 = .ok (.sipush 150, 3) := by decide +kernel
theorem dX10_buy_90 : decode cX10_buy 90 = .ok (.iadd, 1) := by decide +kernel
theorem dX10_buy_91 : decode cX10_buy 91 = .ok (.iload 4, 2) := by decide +kernel
theorem dX10_buy_93 : decode cX10_buy 93 = .ok (.iadd, 1) := by decide +kernel
theorem dX10_buy_94 : decode cX10_buy 94 = .ok (.iaload, 1) := by decide +kernel
theorem dX10_buy_95 : decode cX10_buy 95 = .ok (.istore 5, 2) := by decide +kernel
theorem dX10_buy_97 : decode cX10_buy 97 = .ok (.iload_n 3, 1) := by decide +kernel
theorem dX10_buy_98 : decode cX10_buy 98 = .ok (.aload_n 0, 1) := by decide +kernel
theorem dX10_buy_99 : decode cX10_buy 99 = .ok (.getfield 197, 3) := by decide +kernel
theorem dX10_buy_102 : decode cX10_buy 102 = .ok (.if_icmp .ge 59, 3) := by decide +kernel
theorem dX10_buy_105 : decode cX10_buy 105 = .ok (.iload 4, 2) := by decide +kernel
theorem dX10_buy_107 : decode cX10_buy 107 = .ok (.aload_n 0, 1) := by decide +kernel
theorem dX10_buy_108 : decode cX10_buy 108 = .ok (.getfield 83, 3) := by decide +kernel
theorem dX10_buy_111 : decode cX10_buy 111 = .ok (.iload_n 3, 1) := by decide +kernel
theorem dX10_buy_112 : decode cX10_buy 112 = .ok (.iaload, 1) := by decide +kernel
theorem dX10_buy_113 : decode cX10_buy 113 = .ok (.if_icmp .lt 48, 3) := by decide +kernel
theorem dX10_buy_116 : decode cX10_buy 116 = .ok (.aload_n 0, 1) := by decide +kernel
theorem dX10_buy_117 : decode cX10_buy 117 = .ok (.getfield 89, 3) := by decide +kernel
theorem dX10_buy_120 : decode cX10_buy 120 = .ok (.sipush 150, 3) := by decide +kernel
theorem dX10_buy_123 : decode cX10_buy 123 = .ok (.iload_n 3, 1) := by decide +kernel
theorem dX10_buy_124 : decode cX10_buy 124 = .ok (.imul, 1) := by decide +kernel
theorem dX10_buy_125 : decode cX10_buy 125 = .ok (.iload 4, 2) := by decide +kernel
theorem dX10_buy_127 : decode cX10_buy 127 = .ok (.iadd, 1) := by decide +kernel
theorem dX10_buy_128 : decode cX10_buy 128 = .ok (.aload_n 0, 1) := by decide +kernel
theorem dX10_buy_129 : decode cX10_buy 129 = .ok (.getfield 83, 3) := by decide +kernel
theorem dX10_buy_132 : decode cX10_buy 132 = .ok (.iload_n 3, 1) := by decide +kernel
theorem dX10_buy_133 : decode cX10_buy 133 = .ok (.iaload, 1) := by decide +kernel
theorem dX10_buy_134 : decode cX10_buy 134 = .ok (.isub, 1) := by decide +kernel
theorem dX10_buy_135 : decode cX10_buy 135 = .ok (.iaload, 1) := by decide +kernel
theorem dX10_buy_136 : decode cX10_buy 136 = .ok (.aload_n 0, 1) := by decide +kernel
theorem dX10_buy_137 : decode cX10_buy 137 = .ok (.getfield 86, 3) := by decide +kernel
theorem dX10_buy_140 : decode cX10_buy 140 = .ok (.iload_n 3, 1) := by decide +kernel
theorem dX10_buy_141 : decode cX10_buy 141 = .ok (.iaload, 1) := by decide +kernel
theorem dX10_buy_142 : decode cX10_buy 142 = .ok (.iadd, 1) := by decide +kernel
theorem dX10_buy_143 : decode cX10_buy 143 = .ok (.istore 6, 2) := by decide +kernel
theorem dX10_buy_145 : decode cX10_buy 145 = .ok (.iload 6, 2) := by decide +kernel
theorem dX10_buy_147 : decode cX10_buy 147 = .ok (.iload 5, 2) := by decide +kernel
theorem dX10_buy_149 : decode cX10_buy 149 = .ok (.if_icmp .ge 8, 3) := by decide +kernel
theorem dX10_buy_152 : decode cX10_buy 152 = .ok (.iload 6, 2) := by decide +kernel
theorem dX10_buy_154 : decode cX10_buy 154 = .ok (.goto 5, 3) := by decide +kernel
theorem dX10_buy_157 : decode cX10_buy 157 = .ok (.iload 5, 2) := by decide +kernel
theorem dX10_buy_159 : decode cX10_buy 159 = .ok (.istore 5, 2) := by decide +kernel
theorem dX10_buy_161 : decode cX10_buy 161 = .ok (.aload_n 0, 1) := by decide +kernel
theorem dX10_buy_162 : decode cX10_buy 162 = .ok (.getfield 89, 3) := by decide +kernel
theorem dX10_buy_165 : decode cX10_buy 165 = .ok (.sipush 150, 3) := by decide +kernel
theorem dX10_buy_168 : decode cX10_buy 168 = .ok (.iload_n 3, 1) := by decide +kernel
theorem dX10_buy_169 : decode cX10_buy 169 = .ok (.imul, 1) := by decide +kernel
theorem dX10_buy_170 : decode cX10_buy 170 = .ok (.iload 4, 2) := by decide +kernel
theorem dX10_buy_172 : decode cX10_buy 172 = .ok (.iadd, 1) := by decide +kernel
theorem dX10_buy_173 : decode cX10_buy 173 = .ok (.iload 5, 2) := by decide +kernel
theorem dX10_buy_175 : decode cX10_buy 175 = .ok (.iastore, 1) := by decide +kernel
theorem dX10_buy_176 : decode cX10_buy 176 = .ok (.iinc 4 1, 3) := by decide +kernel
theorem dX10_buy_179 : decode cX10_buy 179 = .ok (.goto (-131), 3) := by decide +kernel
theorem dX10_buy_182 : decode cX10_buy 182 = .ok (.iinc 3 (-1), 3) := by decide +kernel
theorem dX10_buy_185 : decode cX10_buy 185 = .ok (.goto (-144), 3) := by decide +kernel
theorem dX10_buy_188 : decode cX10_buy 188 = .ok (.iload_n 1, 1) := by decide +kernel
theorem dX10_buy_189 : decode cX10_buy 189 = .ok (.istore_n 3, 1) := by decide +kernel
theorem dX10_buy_190 : decode cX10_buy 190 = .ok (.iload_n 1, 1) := by decide +kernel
theorem dX10_buy_191 : decode cX10_buy 191 = .ok (.istore 4, 2) := by decide +kernel
theorem dX10_buy_193 : decode cX10_buy 193 = .ok (.iload 4, 2) := by decide +kernel
theorem dX10_buy_195 : decode cX10_buy 195 = .ok (.sipush 150, 3) := by decide +kernel
theorem dX10_buy_198 : decode cX10_buy 198 = .ok (.if_icmp .ge 32, 3) := by decide +kernel
theorem dX10_buy_201 : decode cX10_buy 201 = .ok (.aload_n 0, 1) := by decide +kernel
theorem dX10_buy_202 : decode cX10_buy 202 = .ok (.getfield 89, 3) := by decide +kernel
theorem dX10_buy_205 : decode cX10_buy 205 = .ok (.iload 4, 2) := by decide +kernel
theorem dX10_buy_207 : decode cX10_buy 207 = .ok (.iaload, 1) := by decide +kernel
theorem dX10_buy_208 : decode cX10_buy 208 = .ok (.aload_n 0, 1) := by decide +kernel
theorem dX10_buy_209 : decode cX10_buy 209 = .ok (.getfield 89, 3) := by decide +kernel
theorem dX10_buy_212 : decode cX10_buy 212 = .ok (.iload_n 3, 1) := by decide +kernel
theorem dX10_buy_213 : decode cX10_buy 213 = .ok (.iaload, 1) := by decide +kernel
theorem dX10_buy_214 : decode cX10_buy 214 = .ok (.if_icmp .ge 8, 3) := by decide +kernel
theorem dX10_buy_217 : decode cX10_buy 217 = .ok (.iload 4, 2) := by decide +kernel
theorem dX10_buy_219 : decode cX10_buy 219 = .ok (.goto 4, 3) := by decide +kernel
theorem dX10_buy_222 : decode cX10_buy 222 = .ok (.iload_n 3, 1) := by decide +kernel
theorem dX10_buy_223 : decode cX10_buy 223 = .ok (.istore_n 3, 1) := by decide +kernel
theorem dX10_buy_224 : decode cX10_buy 224 = .ok (.iinc 4 1, 3) := by decide +kernel
theorem dX10_buy_227 : decode cX10_buy 227 = .ok (.goto (-34), 3) := by decide +kernel
theorem dX10_buy_230 : decode cX10_buy 230 = .ok (.iload_n 2, 1) := by decide +kernel
theorem dX10_buy_231 : decode cX10_buy 231 = .ok (.iconst 2, 1) := by decide +kernel
theorem dX10_buy_232 : decode cX10_buy 232 = .ok (.if_icmp .ge 18, 3) := by decide +kernel
theorem dX10_buy_235 : decode cX10_buy 235 = .ok (.iload_n 2, 1) := by decide +kernel
theorem dX10_buy_236 : decode cX10_buy 236 = .ok (.ifCond .ne 12, 3) := by decide +kernel
theorem dX10_buy_239 : decode cX10_buy 239 = .ok (.aload_n 0, 1) := by decide +kernel
theorem dX10_buy_240 : decode cX10_buy 240 = .ok (.getfield 89, 3) := by decide +kernel
theorem dX10_buy_243 : decode cX10_buy 243 = .ok (.iload_n 3, 1) := by decide +kernel
theorem dX10_buy_244 : decode cX10_buy 244 = .ok (.iaload, 1) := by decide +kernel
theorem dX10_buy_245 : decode cX10_buy 245 = .ok (.goto 4, 3) := by decide +kernel
theorem dX10_buy_248 : decode cX10_buy 248 = .ok (.iload_n 3, 1) := by decide +kernel
theorem dX10_buy_249 : decode cX10_buy 249 = .ok (.ireturn, 1) := by decide +kernel
theorem dX10_buy_250 : decode cX10_buy 250 = .ok (.iload_n 3, 1) := by decide +kernel
theorem dX10_buy_251 : decode cX10_buy 251 = .ok (.istore 4, 2) := by decide +kernel
theorem dX10_buy_253 : decode cX10_buy 253 = .ok (.iconst 0, 1) := by decide +kernel
theorem dX10_buy_254 : decode cX10_buy 254 = .ok (.istore 5, 2) := by decide +kernel
theorem dX10_buy_256 : decode cX10_buy 256 = .ok (.iconst 0, 1) := by decide +kernel
theorem dX10_buy_257 : decode cX10_buy 257 = .ok (.istore 6, 2) := by decide +kernel
theorem dX10_buy_259 : decode cX10_buy 259 = .ok (.iload 6, 2) := by decide +kernel
theorem dX10_buy_261 : decode cX10_buy 261 = .ok (.iload_n 2, 1) := by decide +kernel
theorem dX10_buy_262 : decode cX10_buy 262 = .ok (.iconst 2, 1) := by decide +kernel
theorem dX10_buy_263 : decode cX10_buy 263 = .ok (.isub, 1) := by decide +kernel
theorem dX10_buy_264 : decode cX10_buy 264 = .ok (.if_icmp .gt 99, 3) := by decide +kernel
theorem dX10_buy_267 : decode cX10_buy 267 = .ok (.iload 4, 2) := by decide +kernel
theorem dX10_buy_269 : decode cX10_buy 269 = .ok (.aload_n 0, 1) := by decide +kernel
theorem dX10_buy_270 : decode cX10_buy 270 = .ok (.getfield 83, 3) := by decide +kernel
theorem dX10_buy_273 : decode cX10_buy 273 = .ok (.iload 6, 2) := by decide +kernel
theorem dX10_buy_275 : decode cX10_buy 275 = .ok (.iaload, 1) := by decide +kernel
theorem dX10_buy_276 : decode cX10_buy 276 = .ok (.idiv, 1) := by decide +kernel
theorem dX10_buy_277 : decode cX10_buy 277 = .ok (.istore 5, 2) := by decide +kernel
theorem dX10_buy_279 : decode cX10_buy 279 = .ok (.aload_n 0, 1) := by decide +kernel
theorem dX10_buy_280 : decode cX10_buy 280 = .ok (.getfield 89, 3) := by decide +kernel
theorem dX10_buy_283 : decode cX10_buy 283 = .ok (.sipush 150, 3) := by decide +kernel
theorem dX10_buy_286 : decode cX10_buy 286 = .ok (.iload 6, 2) := by decide +kernel
theorem dX10_buy_288 : decode cX10_buy 288 = .ok (.imul, 1) := by decide +kernel
theorem dX10_buy_289 : decode cX10_buy 289 = .ok (.sipush 150, 3) := by decide +kernel
theorem dX10_buy_292 : decode cX10_buy 292 = .ok (.iadd, 1) := by decide +kernel
theorem dX10_buy_293 : decode cX10_buy 293 = .ok (.iload 4, 2) := by decide +kernel
theorem dX10_buy_295 : decode cX10_buy 295 = .ok (.iadd, 1) := by decide +kernel
theorem dX10_buy_296 : decode cX10_buy 296 = .ok (.iload 5, 2) := by decide +kernel
theorem dX10_buy_298 : decode cX10_buy 298 = .ok (.aload_n 0, 1) := by decide +kernel
theorem dX10_buy_299 : decode cX10_buy 299 = .ok (.getfield 83, 3) := by decide +kernel
theorem dX10_buy_302 : decode cX10_buy 302 = .ok (.iload 6, 2) := by decide +kernel
theorem dX10_buy_304 : decode cX10_buy 304 = .ok (.iaload, 1) := by decide +kernel
theorem dX10_buy_305 : decode cX10_buy 305 = .ok (.imul, 1) := by decide +kernel
theorem dX10_buy_306 : decode cX10_buy 306 = .ok (.isub, 1) := by decide +kernel
theorem dX10_buy_307 : decode cX10_buy 307 = .ok (.iaload, 1) := by decide +kernel
theorem dX10_buy_308 : decode cX10_buy 308 = .ok (.iload 5, 2) := by decide +kernel
theorem dX10_buy_310 : decode cX10_buy 310 = .ok (.aload_n 0, 1) := by decide +kernel
theorem dX10_buy_311 : decode cX10_buy 311 = .ok (.getfield 86, 3) := by decide +kernel
theorem dX10_buy_314 : decode cX10_buy 314 = .ok (.iload 6, 2) := by decide +kernel
theorem dX10_buy_316 : decode cX10_buy 316 = .ok (.iaload, 1) := by decide +kernel
theorem dX10_buy_317 : decode cX10_buy 317 = .ok (.imul, 1) := by decide +kernel
theorem dX10_buy_318 : decode cX10_buy 318 = .ok (.iadd, 1) := by decide +kernel
theorem dX10_buy_319 : decode cX10_buy 319 = .ok (.aload_n 0, 1) := by decide +kernel
theorem dX10_buy_320 : decode cX10_buy 320 = .ok (.getfield 89, 3) := by decide +kernel
theorem dX10_buy_323 : decode cX10_buy 323 = .ok (.sipush 150, 3) := by decide +kernel
theorem dX10_buy_326 : decode cX10_buy 326 = .ok (.iload 6, 2) := by decide +kernel
theorem dX10_buy_328 : decode cX10_buy 328 = .ok (.imul, 1) := by decide +kernel
theorem dX10_buy_329 : decode cX10_buy 329 = .ok (.iload 4, 2) := by decide +kernel
theorem dX10_buy_331 : decode cX10_buy 331 = .ok (.iadd, 1) := by decide +kernel
theorem dX10_buy_332 : decode cX10_buy 332 = .ok (.iaload, 1) := by decide +kernel
theorem dX10_buy_333 : decode cX10_buy 333 = .ok (.if_icmp .eq 9, 3) := by decide +kernel
theorem dX10_buy_336 : decode cX10_buy 336 = .ok (.iinc 5 (-1), 3) := by decide +kernel
theorem dX10_buy_339 : decode cX10_buy 339 = .ok (.goto (-60), 3) := by decide +kernel
theorem dX10_buy_342 : decode cX10_buy 342 = .ok (.iload 4, 2) := by decide +kernel
theorem dX10_buy_344 : decode cX10_buy 344 = .ok (.iload 5, 2) := by decide +kernel
theorem dX10_buy_346 : decode cX10_buy 346 = .ok (.aload_n 0, 1) := by decide +kernel
theorem dX10_buy_347 : decode cX10_buy 347 = .ok (.getfield 83, 3) := by decide +kernel
theorem dX10_buy_350 : decode cX10_buy 350 = .ok (.iload 6, 2) := by decide +kernel
theorem dX10_buy_352 : decode cX10_buy 352 = .ok (.iaload, 1) := by decide +kernel
theorem dX10_buy_353 : decode cX10_buy 353 = .ok (.imul, 1) := by decide +kernel
theorem dX10_buy_354 : decode cX10_buy 354 = .ok (.isub, 1) := by decide +kernel
theorem dX10_buy_355 : decode cX10_buy 355 = .ok (.istore 4, 2) := by decide +kernel
theorem dX10_buy_357 : decode cX10_buy 357 = .ok (.iinc 6 1, 3) := by decide +kernel
theorem dX10_buy_360 : decode cX10_buy 360 = .ok (.goto (-101), 3) := by decide +kernel
theorem dX10_buy_363 : decode cX10_buy 363 = .ok (.iload 5, 2) := by decide +kernel
theorem dX10_buy_365 : decode cX10_buy 365 = .ok (.ireturn, 1) := by decide +kernel
theorem dX10_count_0 : decode cX10_count 0 = .ok (.iload_n 1, 1) := by decide +kernel
theorem dX10_count_1 : decode cX10_count 1 = .ok (.tableswitch 78 0 6 #[43, 48, 53, 58, 63, 68, 73], 43) := by decide +kernel
theorem dX10_count_44 : decode cX10_count 44 = .ok (.aload_n 0, 1) := by decide +kernel
theorem dX10_count_45 : decode cX10_count 45 = .ok (.getfield 92, 3) := by decide +kernel
theorem dX10_count_48 : decode cX10_count 48 = .ok (.ireturn, 1) := by decide +kernel
theorem dX10_count_49 : decode cX10_count 49 = .ok (.aload_n 0, 1) := by decide +kernel
theorem dX10_count_50 : decode cX10_count 50 = .ok (.getfield 100, 3) := by decide +kernel
theorem dX10_count_53 : decode cX10_count 53 = .ok (.ireturn, 1) := by decide +kernel
theorem dX10_count_54 : decode cX10_count 54 = .ok (.aload_n 0, 1) := by decide +kernel
theorem dX10_count_55 : decode cX10_count 55 = .ok (.getfield 117, 3) := by decide +kernel
theorem dX10_count_58 : decode cX10_count 58 = .ok (.ireturn, 1) := by decide +kernel
theorem dX10_count_59 : decode cX10_count 59 = .ok (.aload_n 0, 1) := by decide +kernel
theorem dX10_count_60 : decode cX10_count 60 = .ok (.getfield 114, 3) := by decide +kernel
theorem dX10_count_63 : decode cX10_count 63 = .ok (.ireturn, 1) := by decide +kernel
theorem dX10_count_64 : decode cX10_count 64 = .ok (.aload_n 0, 1) := by decide +kernel
theorem dX10_count_65 : decode cX10_count 65 = .ok (.getfield 188, 3) := by decide +kernel
theorem dX10_count_68 : decode cX10_count 68 = .ok (.ireturn, 1) := by decide +kernel
theorem dX10_count_69 : decode cX10_count 69 = .ok (.aload_n 0, 1) := by decide +kernel
theorem dX10_count_70 : decode cX10_count 70 = .ok (.getfield 197, 3) := by decide +kernel
theorem dX10_count_73 : decode cX10_count 73 = .ok (.ireturn, 1) := by decide +kernel
theorem dX10_count_74 : decode cX10_count 74 = .ok (.aload_n 0, 1) := by decide +kernel
theorem dX10_count_75 : decode cX10_count 75 = .ok (.getfield 176, 3) := by decide +kernel
theorem dX10_count_78 : decode cX10_count 78 = .ok (.ireturn, 1) := by decide +kernel
theorem dX10_count_79 : decode cX10_count 79 = .ok (.iconst (-1), 1) := by decide +kernel
theorem dX10_count_80 : decode cX10_count 80 = .ok (.ireturn, 1) := by decide +kernel
theorem dJ6_bitCount_0f7a4_0 : decode cJ6_bitCount_0f7a4 0 = .ok (.iload_n 0, 1) := by decide +kernel
theorem dJ6_bitCount_0f7a4_1 : decode cJ6_bitCount_0f7a4 1 = .ok (.iload_n 0, 1) := by decide +kernel
theorem dJ6_bitCount_0f7a4_2 : decode cJ6_bitCount_0f7a4 2 = .ok (.iconst 1, 1) := by decide +kernel
theorem dJ6_bitCount_0f7a4_3 : decode cJ6_bitCount_0f7a4 3 = .ok (.iushr, 1) := by decide +kernel
theorem dJ6_bitCount_0f7a4_4 : decode cJ6_bitCount_0f7a4 4 = .ok (.ldc_w 265, 3) := by decide +kernel
theorem dJ6_bitCount_0f7a4_7 : decode cJ6_bitCount_0f7a4 7 = .ok (.iand, 1) := by decide +kernel
theorem dJ6_bitCount_0f7a4_8 : decode cJ6_bitCount_0f7a4 8 = .ok (.isub, 1) := by decide +kernel
theorem dJ6_bitCount_0f7a4_9 : decode cJ6_bitCount_0f7a4 9 = .ok (.istore_n 0, 1) := by decide +kernel
theorem dJ6_bitCount_0f7a4_10 : decode cJ6_bitCount_0f7a4 10 = .ok (.iload_n 0, 1) := by decide +kernel
theorem dJ6_bitCount_0f7a4_11 : decode cJ6_bitCount_0f7a4 11 = .ok (.ldc_w 266, 3) := by decide +kernel
theorem dJ6_bitCount_0f7a4_14 : decode cJ6_bitCount_0f7a4 14 = .ok (.iand, 1) := by decide +kernel
theorem dJ6_bitCount_0f7a4_15 : decode cJ6_bitCount_0f7a4 15 = .ok (.iload_n 0, 1) := by decide +kernel
theorem dJ6_bitCount_0f7a4_16 : decode cJ6_bitCount_0f7a4 16 = .ok (.iconst 2, 1) := by decide +kernel
theorem dJ6_bitCount_0f7a4_17 : decode cJ6_bitCount_0f7a4 17 = .ok (.iushr, 1) := by decide +kernel
theorem dJ6_bitCount_0f7a4_18 : decode cJ6_bitCount_0f7a4 18 = .ok (.ldc_w 266, 3) := by decide +kernel
theorem dJ6_bitCount_0f7a4_21 : decode cJ6_bitCount_0f7a4 21 = .ok (.iand, 1) := by decide +kernel
theorem dJ6_bitCount_0f7a4_22 : decode cJ6_bitCount_0f7a4 22 = .ok (.iadd, 1) := by decide +kernel
theorem dJ6_bitCount_0f7a4_23 : decode cJ6_bitCount_0f7a4 23 = .ok (.istore_n 0, 1) := by decide +kernel
theorem dJ6_bitCount_0f7a4_24 : decode cJ6_bitCount_0f7a4 24 = .ok (.iload_n 0, 1) := by decide +kernel
theorem dJ6_bitCount_0f7a4_25 : decode cJ6_bitCount_0f7a4 25 = .ok (.iload_n 0, 1) := by decide +kernel
theorem dJ6_bitCount_0f7a4_26 : decode cJ6_bitCount_0f7a4 26 = .ok (.iconst 4, 1) := by decide +kernel
theorem dJ6_bitCount_0f7a4_27 : decode cJ6_bitCount_0f7a4 27 = .ok (.iushr, 1) := by decide +kernel
theorem dJ6_bitCount_0f7a4_28 : decode cJ6_bitCount_0f7a4 28 = .ok (.iadd, 1) := by decide +kernel
theorem dJ6_bitCount_0f7a4_29 : decode cJ6_bitCount_0f7a4 29 = .ok (.ldc_w 267, 3) := by decide +kernel
theorem dJ6_bitCount_0f7a4_32 : decode cJ6_bitCount_0f7a4 32 = .ok (.iand, 1) := by decide +kernel
theorem dJ6_bitCount_0f7a4_33 : decode cJ6_bitCount_0f7a4 33 = .ok (.istore_n 0, 1) := by decide +kernel
theorem dJ6_bitCount_0f7a4_34 : decode cJ6_bitCount_0f7a4 34 = .ok (.iload_n 0, 1) := by decide +kernel
theorem dJ6_bitCount_0f7a4_35 : decode cJ6_bitCount_0f7a4 35 = .ok (.iload_n 0, 1) := by decide +kernel
theorem dJ6_bitCount_0f7a4_36 : decode cJ6_bitCount_0f7a4 36 = .ok (.bipush 8, 2) := by decide +kernel
theorem dJ6_bitCount_0f7a4_38 : decode cJ6_bitCount_0f7a4 38 = .ok (.iushr, 1) := by decide +kernel
theorem dJ6_bitCount_0f7a4_39 : decode cJ6_bitCount_0f7a4 39 = .ok (.iadd, 1) := by decide +kernel
theorem dJ6_bitCount_0f7a4_40 : decode cJ6_bitCount_0f7a4 40 = .ok (.istore_n 0, 1) := by decide +kernel
theorem dJ6_bitCount_0f7a4_41 : decode cJ6_bitCount_0f7a4 41 = .ok (.iload_n 0, 1) := by decide +kernel
theorem dJ6_bitCount_0f7a4_42 : decode cJ6_bitCount_0f7a4 42 = .ok (.iload_n 0, 1) := by decide +kernel
theorem dJ6_bitCount_0f7a4_43 : decode cJ6_bitCount_0f7a4 43 = .ok (.bipush 16, 2) := by decide +kernel
theorem dJ6_bitCount_0f7a4_45 : decode cJ6_bitCount_0f7a4 45 = .ok (.iushr, 1) := by decide +kernel
theorem dJ6_bitCount_0f7a4_46 : decode cJ6_bitCount_0f7a4 46 = .ok (.iadd, 1) := by decide +kernel
theorem dJ6_bitCount_0f7a4_47 : decode cJ6_bitCount_0f7a4 47 = .ok (.istore_n 0, 1) := by decide +kernel
theorem dJ6_bitCount_0f7a4_48 : decode cJ6_bitCount_0f7a4 48 = .ok (.iload_n 0, 1) := by decide +kernel
theorem dJ6_bitCount_0f7a4_49 : decode cJ6_bitCount_0f7a4 49 = .ok (.bipush 63, 2) := by decide +kernel
theorem dJ6_bitCount_0f7a4_51 : decode cJ6_bitCount_0f7a4 51 = .ok (.iand, 1) := by decide +kernel
theorem dJ6_bitCount_0f7a4_52 : decode cJ6_bitCount_0f7a4 52 = .ok (.ireturn, 1) := by decide +kernel
theorem dJ9_abs_0f7a4_0 : decode cJ9_abs_0f7a4 0 = .ok (.iload_n 0, 1) := by decide +kernel
theorem dJ9_abs_0f7a4_1 : decode cJ9_abs_0f7a4 1 = .ok (.ifCond .ge 8, 3) := by decide +kernel
theorem dJ9_abs_0f7a4_4 : decode cJ9_abs_0f7a4 4 = .ok (.iload_n 0, 1) := by decide +kernel
theorem dJ9_abs_0f7a4_5 : decode cJ9_abs_0f7a4 5 = .ok (.ineg, 1) := by decide +kernel
theorem dJ9_abs_0f7a4_6 : decode cJ9_abs_0f7a4 6 = .ok (.goto 4, 3) := by decide +kernel
theorem dJ9_abs_0f7a4_9 : decode cJ9_abs_0f7a4 9 = .ok (.iload_n 0, 1) := by decide +kernel
theorem dJ9_abs_0f7a4_10 : decode cJ9_abs_0f7a4 10 = .ok (.ireturn, 1) := by decide +kernel
theorem dJ9_abs_067f4_0 : decode cJ9_abs_067f4 0 = .ok (.lload_n 0, 1) := by decide +kernel
theorem dJ9_abs_067f4_1 : decode cJ9_abs_067f4 1 = .ok (.lconst 0, 1) := by decide +kernel
theorem dJ9_abs_067f4_2 : decode cJ9_abs_067f4 2 = .ok (.lcmp, 1) := by decide +kernel
theorem dJ9_abs_067f4_3 : decode cJ9_abs_067f4 3 = .ok (.ifCond .ge 8, 3) := by decide +kernel
theorem dJ9_abs_067f4_6 : decode cJ9_abs_067f4 6 = .ok (.lload_n 0, 1) := by decide +kernel
theorem dJ9_abs_067f4_7 : decode cJ9_abs_067f4 7 = .ok (.lneg, 1) := by decide +kernel
theorem dJ9_abs_067f4_8 : decode cJ9_abs_067f4 8 = .ok (.goto 4, 3) := by decide +kernel
theorem dJ9_abs_067f4_11 : decode cJ9_abs_067f4 11 = .ok (.lload_n 0, 1) := by decide +kernel
theorem dJ9_abs_067f4_12 : decode cJ9_abs_067f4 12 = .ok (.lreturn, 1) := by decide +kernel
theorem dJ9_max_7cf53_0 : decode cJ9_max_7cf53 0 = .ok (.iload_n 0, 1) := by decide +kernel
theorem dJ9_max_7cf53_1 : decode cJ9_max_7cf53 1 = .ok (.iload_n 1, 1) := by decide +kernel
theorem dJ9_max_7cf53_2 : decode cJ9_max_7cf53 2 = .ok (.if_icmp .lt 7, 3) := by decide +kernel
theorem dJ9_max_7cf53_5 : decode cJ9_max_7cf53 5 = .ok (.iload_n 0, 1) := by decide +kernel
theorem dJ9_max_7cf53_6 : decode cJ9_max_7cf53 6 = .ok (.goto 4, 3) := by decide +kernel
theorem dJ9_max_7cf53_9 : decode cJ9_max_7cf53 9 = .ok (.iload_n 1, 1) := by decide +kernel
theorem dJ9_max_7cf53_10 : decode cJ9_max_7cf53 10 = .ok (.ireturn, 1) := by decide +kernel
theorem dJ9_min_7cf53_0 : decode cJ9_min_7cf53 0 = .ok (.iload_n 0, 1) := by decide +kernel
theorem dJ9_min_7cf53_1 : decode cJ9_min_7cf53 1 = .ok (.iload_n 1, 1) := by decide +kernel
theorem dJ9_min_7cf53_2 : decode cJ9_min_7cf53 2 = .ok (.if_icmp .gt 7, 3) := by decide +kernel
theorem dJ9_min_7cf53_5 : decode cJ9_min_7cf53 5 = .ok (.iload_n 0, 1) := by decide +kernel
theorem dJ9_min_7cf53_6 : decode cJ9_min_7cf53 6 = .ok (.goto 4, 3) := by decide +kernel
theorem dJ9_min_7cf53_9 : decode cJ9_min_7cf53 9 = .ok (.iload_n 1, 1) := by decide +kernel
theorem dJ9_min_7cf53_10 : decode cJ9_min_7cf53 10 = .ok (.ireturn, 1) := by decide +kernel
set_option maxRecDepth 20000 in
theorem ggL_law_X9_init : GoodIn wsL_law wsX9_init := goodIn_r _ [8, 9, 10, 11, 12, 13, 14, 15, 16, 17, 18, 19, 20, 21, 22, 23, 24, 25, 26, 27, 28, 29, 30, 31, 32, 33, 34, 35, 36, 37, 38, 39, 40, 41, 42, 43, 44, 45, 46, 47, 48, 49, 50, 51, 52, 53, 54, 55, 56, 57, 58, 59, 60, 61, 62, 63, 64, 65, 66, 67, 68, 69, 70, 71, 72, 73, 74, 75, 76, 77, 78, 79, 80, 81, 82, 83, 84, 85, 86, 87, 88, 89, 90, 91, 92, 93, 94, 95, 96, 97, 98, 99, 100, 101, 102, 103, 104, 105, 106, 107, 108, 109, 110, 111, 112, 113, 114, 115, 116, 117, 118, 119, 120, 121, 122, 123, 124, 125, 126, 742, 743, 744, 745, 746, 747, 748, 749, 750, 751, 752, 753, 754, 755, 790, 791, 792, 793, 794, 795, 796, 797, 798, 799, 800, 801, 802, 803, 804, 805, 806, 807, 808, 809, 810, 811, 812, 813, 814, 815, 816, 817, 818, 819, 820, 821, 822, 823, 824, 825] (by decide +kernel) (by decide +kernel)
set_option maxRecDepth 20000 in
theorem gL_law_X9_init : GoodIn wsL_law (wsX9_init) := ggL_law_X9_init
set_option maxRecDepth 20000 in
theorem ggL_law_X10_init : GoodIn wsL_law wsX10_init := goodIn_r _ [129, 130, 10, 11, 33, 131, 132, 133, 134, 135, 116, 136, 137, 138, 139, 140, 141, 142, 143, 144, 145, 146, 147, 148, 149, 150, 151, 152, 153, 154, 155, 156, 157, 756, 757, 758, 759, 760, 761, 762, 763, 764, 765, 766, 767, 768, 769, 770, 771, 772, 773, 774, 775, 776, 777, 778, 779, 780, 781, 782, 783, 784, 785, 786, 787, 788, 789] (by decide +kernel) (by decide +kernel)
set_option maxRecDepth 20000 in
theorem gL_law_X10_init : GoodIn wsL_law (wsX10_init) := ggL_law_X10_init
set_option maxRecDepth 20000 in
theorem ggL_law_X9_kind : GoodIn wsL_law wsX9_kind := goodIn_r _ [161, 14, 13, 162, 163, 164, 165, 166, 2, 167, 742, 743, 744, 745, 746, 747, 748, 749, 750, 751, 752, 753, 754, 755, 801, 802, 803, 804, 805, 806, 807] (by decide +kernel) (by decide +kernel)
set_option maxRecDepth 20000 in
theorem gL_law_X9_kind : GoodIn wsL_law (wsV RL 13 RX9 yX9_kind wsX9_kind) := goodIn_app (goodIn_of _ (by decide +kernel)) ggL_law_X9_kind
set_option maxRecDepth 20000 in
theorem ggL_law_X10_kind : GoodIn wsL_law wsX10_kind := goodIn_r _ [171, 172, 131, 132, 133, 173, 174, 5, 175, 756, 757, 758, 759, 760, 761, 762, 763, 764, 765, 766, 767, 768, 769, 770, 771, 772, 773, 774, 775, 776, 777, 778, 779, 780, 781, 782, 783, 784, 785, 786, 787, 788, 789] (by decide +kernel) (by decide +kernel)
set_option maxRecDepth 20000 in
theorem gL_law_X10_kind : GoodIn wsL_law (wsV RL 17 RX10 yX10_kind wsX10_kind) := goodIn_app (goodIn_of _ (by decide +kernel)) ggL_law_X10_kind
set_option maxRecDepth 20000 in
theorem ggL_law_X9_recipe : GoodIn wsL_law wsX9_recipe := goodIn_r _ [179, 17, 16, 180, 165, 166, 2, 167, 742, 743, 744, 745, 746, 747, 748, 749, 750, 751, 752, 753, 754, 755, 808, 809, 810, 811] (by decide +kernel) (by decide +kernel)
set_option maxRecDepth 20000 in
theorem gL_law_X9_recipe : GoodIn wsL_law (wsV RL 18 RX9 yX9_recipe wsX9_recipe) := goodIn_app (goodIn_of _ (by decide +kernel)) ggL_law_X9_recipe
set_option maxRecDepth 20000 in
theorem ggL_law_X10_recipe : GoodIn wsL_law wsX10_recipe := goodIn_r _ [184, 185, 134, 173, 174, 5, 175, 756, 757, 758, 759, 760, 761, 762, 763, 764, 765, 766, 767, 768, 769, 770, 771, 772, 773, 774, 775, 776, 777, 778, 779, 780, 781, 782, 783, 784, 785, 786, 787, 788, 789] (by decide +kernel) (by decide +kernel)
set_option maxRecDepth 20000 in
theorem gL_law_X10_recipe : GoodIn wsL_law (wsV RL 22 RX10 yX10_recipe wsX10_recipe) := goodIn_app (goodIn_of _ (by decide +kernel)) ggL_law_X10_recipe
set_option maxRecDepth 20000 in
theorem ggL_law_X9_part : GoodIn wsL_law wsX9_part := goodIn_r _ [189, 16, 190, 28, 191, 192, 193, 2, 194, 17, 165, 166, 167, 195, 196, 197, 198, 14, 199, 200, 201, 53, 202, 110, 109, 742, 743, 744, 745, 746, 747, 748, 749, 750, 751, 752, 753, 754, 755, 808, 809, 810, 811] (by decide +kernel) (by decide +kernel)
set_option maxRecDepth 20000 in
theorem gL_law_X9_part : GoodIn wsL_law (wsV RL 23 RX9 yX9_part wsX9_part) := goodIn_app (goodIn_of _ (by decide +kernel)) ggL_law_X9_part
set_option maxRecDepth 20000 in
theorem ggL_law_X10_part : GoodIn wsL_law wsX10_part := goodIn_r _ [206, 136, 135, 207, 208, 209, 5, 210, 185, 173, 174, 175, 211, 212, 213, 214, 172, 756, 757, 758, 759, 760, 761, 762, 763, 764, 765, 766, 767, 768, 769, 770, 771, 772, 773, 774, 775, 776, 777, 778, 779, 780, 781, 782, 783, 784, 785, 786, 787, 788, 789] (by decide +kernel) (by decide +kernel)
set_option maxRecDepth 20000 in
theorem gL_law_X10_part : GoodIn wsL_law (wsV RL 26 RX10 yX10_part wsX10_part) := goodIn_app (goodIn_of _ (by decide +kernel)) ggL_law_X10_part
set_option maxRecDepth 20000 in
theorem ggL_law_X9_rule : GoodIn wsL_law wsX9_rule := goodIn_r _ [218, 25, 219, 165, 166, 2, 167, 742, 743, 744, 745, 746, 747, 748, 749, 750, 751, 752, 753, 754, 755] (by decide +kernel) (by decide +kernel)
set_option maxRecDepth 20000 in
theorem gL_law_X9_rule : GoodIn wsL_law (wsV RL 27 RX9 yX9_rule wsX9_rule) := goodIn_app (goodIn_of _ (by decide +kernel)) ggL_law_X9_rule
set_option maxRecDepth 20000 in
theorem ggL_law_X10_rule : GoodIn wsL_law wsX10_rule := goodIn_r _ [223, 137, 173, 174, 5, 175, 224, 225, 226, 756, 757, 758, 759, 760, 761, 762, 763, 764, 765, 766, 767, 768, 769, 770, 771, 772, 773, 774, 775, 776, 777, 778, 779, 780, 781, 782, 783, 784, 785, 786, 787, 788, 789] (by decide +kernel) (by decide +kernel)
set_option maxRecDepth 20000 in
theorem gL_law_X10_rule : GoodIn wsL_law (wsV RL 31 RX10 yX10_rule wsX10_rule) := goodIn_app (goodIn_of _ (by decide +kernel)) ggL_law_X10_rule
set_option maxRecDepth 20000 in
theorem ggL_law_X9_receive : GoodIn wsL_law wsX9_receive := goodIn_r _ [230, 13, 231, 195, 196, 197, 2, 198, 14, 165, 166, 167, 232, 233, 234, 235, 32, 236, 237, 238, 239, 240, 241, 242, 243, 31, 244, 63, 65, 64, 245, 246, 247, 248, 249, 250, 251, 252, 28, 253, 254, 255, 256, 257, 258, 27, 259, 260, 261, 262, 16, 263, 264, 34, 265, 266, 267, 51, 268, 100, 101, 102, 98, 103, 742, 743, 744, 745, 746, 747, 748, 749, 750, 751, 752, 753, 754, 755, 801, 802, 803, 804, 805, 806, 807, 821, 822, 823, 824, 825, 790, 791, 792, 812, 813, 814, 815, 816, 808, 809, 810, 811] (by decide +kernel) (by decide +kernel)
set_option maxRecDepth 20000 in
theorem gL_law_X9_receive : GoodIn wsL_law (wsV RL 32 RX9 yX9_receive wsX9_receive) := goodIn_app (goodIn_of _ (by decide +kernel)) ggL_law_X9_receive
set_option maxRecDepth 20000 in
theorem ggL_law_X10_receive : GoodIn wsL_law wsX10_receive := goodIn_r _ [272, 138, 211, 212, 213, 5, 214, 172, 173, 174, 175, 273, 274, 275, 276, 145, 277, 278, 279, 280, 281, 147, 756, 757, 758, 759, 760, 761, 762, 763, 764, 765, 766, 767, 768, 769, 770, 771, 772, 773, 774, 775, 776, 777, 778, 779, 780, 781, 782, 783, 784, 785, 786, 787, 788, 789] (by decide +kernel) (by decide +kernel)
set_option maxRecDepth 20000 in
theorem gL_law_X10_receive : GoodIn wsL_law (wsV RL 35 RX10 yX10_receive wsX10_receive) := goodIn_app (goodIn_of _ (by decide +kernel)) ggL_law_X10_receive
set_option maxRecDepth 20000 in
theorem ggL_law_X9_issue : GoodIn wsL_law wsX9_issue := goodIn_r _ [285, 286, 13, 231, 287, 288, 289, 290, 2, 291, 165, 166, 167, 195, 196, 197, 198, 14, 232, 233, 234, 235, 32, 236, 237, 238, 239, 240, 241, 242, 243, 31, 244, 63, 65, 64, 245, 246, 247, 248, 249, 250, 251, 252, 28, 253, 254, 255, 256, 257, 258, 27, 259, 260, 261, 262, 16, 263, 264, 34, 265, 266, 267, 51, 268, 100, 101, 102, 98, 103, 742, 743, 744, 745, 746, 747, 748, 749, 750, 751, 752, 753, 754, 755, 801, 802, 803, 804, 805, 806, 807, 821, 822, 823, 824, 825, 790, 791, 792, 812, 813, 814, 815, 816, 808, 809, 810, 811] (by decide +kernel) (by decide +kernel)
set_option maxRecDepth 20000 in
theorem gL_law_X9_issue : GoodIn wsL_law (wsV RL 36 RX9 yX9_issue wsX9_issue) := goodIn_app (goodIn_of _ (by decide +kernel)) ggL_law_X9_issue
set_option maxRecDepth 20000 in
theorem ggL_law_X10_issue : GoodIn wsL_law wsX10_issue := goodIn_r _ [295, 296, 138, 297, 139, 298, 299, 5, 300, 173, 174, 175, 211, 212, 213, 214, 172, 301, 302, 303, 304, 132, 277, 278, 279, 280, 281, 147, 756, 757, 758, 759, 760, 761, 762, 763, 764, 765, 766, 767, 768, 769, 770, 771, 772, 773, 774, 775, 776, 777, 778, 779, 780, 781, 782, 783, 784, 785, 786, 787, 788, 789] (by decide +kernel) (by decide +kernel)
set_option maxRecDepth 20000 in
theorem gL_law_X10_issue : GoodIn wsL_law (wsV RL 39 RX10 yX10_issue wsX10_issue) := goodIn_app (goodIn_of _ (by decide +kernel)) ggL_law_X10_issue
set_option maxRecDepth 20000 in
theorem ggL_law_X9_lend : GoodIn wsL_law wsX9_lend := goodIn_r _ [308, 286, 13, 288, 287, 289, 290, 2, 291, 165, 166, 167, 195, 196, 197, 198, 14, 232, 233, 234, 235, 32, 236, 237, 238, 239, 240, 241, 242, 243, 31, 244, 63, 65, 64, 245, 246, 247, 248, 249, 250, 251, 252, 28, 253, 254, 255, 256, 257, 258, 27, 259, 260, 261, 262, 16, 263, 264, 34, 265, 266, 267, 51, 268, 100, 101, 102, 98, 103, 742, 743, 744, 745, 746, 747, 748, 749, 750, 751, 752, 753, 754, 755, 801, 802, 803, 804, 805, 806, 807, 821, 822, 823, 824, 825, 790, 791, 792, 812, 813, 814, 815, 816, 808, 809, 810, 811] (by decide +kernel) (by decide +kernel)
set_option maxRecDepth 20000 in
theorem gL_law_X9_lend : GoodIn wsL_law (wsV RL 40 RX9 yX9_lend wsX9_lend) := goodIn_app (goodIn_of _ (by decide +kernel)) ggL_law_X9_lend
set_option maxRecDepth 20000 in
theorem ggL_law_X10_lend : GoodIn wsL_law wsX10_lend := goodIn_r _ [312, 296, 139, 297, 298, 299, 5, 300, 173, 174, 175, 211, 212, 213, 214, 172, 313, 314, 315, 316, 277, 278, 279, 280, 281, 147, 756, 757, 758, 759, 760, 761, 762, 763, 764, 765, 766, 767, 768, 769, 770, 771, 772, 773, 774, 775, 776, 777, 778, 779, 780, 781, 782, 783, 784, 785, 786, 787, 788, 789] (by decide +kernel) (by decide +kernel)
set_option maxRecDepth 20000 in
theorem gL_law_X10_lend : GoodIn wsL_law (wsV RL 43 RX10 yX10_lend wsX10_lend) := goodIn_app (goodIn_of _ (by decide +kernel)) ggL_law_X10_lend
set_option maxRecDepth 20000 in
theorem ggL_law_X9_sell : GoodIn wsL_law wsX9_sell := goodIn_r _ [320, 16, 28, 190, 289, 290, 2, 291, 165, 166, 167, 191, 192, 193, 194, 17, 321, 322, 323, 324, 325, 326, 327, 180, 41, 40, 25, 328, 329, 330, 247, 331, 332, 333, 334, 57, 335, 124, 125, 336, 337, 338, 339, 123, 232, 233, 234, 235, 32, 236, 237, 238, 239, 240, 241, 242, 243, 31, 244, 63, 65, 64, 245, 246, 248, 249, 250, 251, 252, 253, 254, 13, 255, 256, 257, 258, 27, 259, 260, 261, 262, 14, 263, 264, 34, 265, 266, 267, 51, 268, 100, 101, 102, 98, 103, 742, 743, 744, 745, 746, 747, 748, 749, 750, 751, 752, 753, 754, 755, 808, 809, 810, 811, 817, 818, 819, 820, 821, 822, 823, 824, 825, 790, 791, 792, 812, 813, 814, 815, 816, 801, 802, 803, 804, 805, 806, 807] (by decide +kernel) (by decide +kernel)
set_option maxRecDepth 20000 in
theorem gL_law_X9_sell : GoodIn wsL_law (wsV RL 44 RX9 yX9_sell wsX9_sell) := goodIn_app (goodIn_of _ (by decide +kernel)) ggL_law_X9_sell
set_option maxRecDepth 20000 in
theorem ggL_law_X10_sell : GoodIn wsL_law wsX10_sell := goodIn_r _ [343, 136, 298, 299, 5, 300, 173, 174, 175, 207, 208, 209, 210, 185, 344, 345, 346, 347, 134, 348, 153, 137, 349, 350, 351, 352, 150, 152, 151, 353, 354, 355, 356, 172, 135, 139, 145, 142, 357, 146, 358, 359, 360, 277, 278, 279, 280, 281, 147, 756, 757, 758, 759, 760, 761, 762, 763, 764, 765, 766, 767, 768, 769, 770, 771, 772, 773, 774, 775, 776, 777, 778, 779, 780, 781, 782, 783, 784, 785, 786, 787, 788, 789] (by decide +kernel) (by decide +kernel)
set_option maxRecDepth 20000 in
theorem gL_law_X10_sell : GoodIn wsL_law (wsV RL 48 RX10 yX10_sell wsX10_sell) := goodIn_app (goodIn_of _ (by decide +kernel)) ggL_law_X10_sell
set_option maxRecDepth 20000 in
theorem ggL_law_X9_lose : GoodIn wsL_law wsX9_lose := goodIn_r _ [364, 286, 13, 288, 289, 290, 2, 291, 165, 166, 167, 195, 196, 197, 198, 14, 232, 233, 234, 235, 32, 236, 237, 238, 239, 240, 241, 242, 243, 31, 244, 63, 65, 64, 245, 246, 247, 248, 249, 250, 251, 252, 28, 253, 254, 255, 256, 257, 258, 27, 259, 260, 261, 262, 16, 263, 264, 34, 265, 266, 267, 51, 268, 100, 101, 102, 98, 103, 742, 743, 744, 745, 746, 747, 748, 749, 750, 751, 752, 753, 754, 755, 801, 802, 803, 804, 805, 806, 807, 821, 822, 823, 824, 825, 790, 791, 792, 812, 813, 814, 815, 816, 808, 809, 810, 811] (by decide +kernel) (by decide +kernel)
set_option maxRecDepth 20000 in
theorem gL_law_X9_lose : GoodIn wsL_law (wsV RL 49 RX9 yX9_lose wsX9_lose) := goodIn_app (goodIn_of _ (by decide +kernel)) ggL_law_X9_lose
set_option maxRecDepth 20000 in
theorem ggL_law_X10_lose : GoodIn wsL_law wsX10_lose := goodIn_r _ [368, 296, 139, 298, 299, 5, 300, 173, 174, 175, 211, 212, 213, 214, 172, 369, 370, 371, 372, 145, 277, 278, 279, 280, 281, 147, 756, 757, 758, 759, 760, 761, 762, 763, 764, 765, 766, 767, 768, 769, 770, 771, 772, 773, 774, 775, 776, 777, 778, 779, 780, 781, 782, 783, 784, 785, 786, 787, 788, 789] (by decide +kernel) (by decide +kernel)
set_option maxRecDepth 20000 in
theorem gL_law_X10_lose : GoodIn wsL_law (wsV RL 53 RX10 yX10_lose wsX10_lose) := goodIn_app (goodIn_of _ (by decide +kernel)) ggL_law_X10_lose
set_option maxRecDepth 20000 in
theorem ggL_law_X9_weigh : GoodIn wsL_law wsX9_weigh := goodIn_r _ [376, 286, 28, 253, 287, 13, 288, 377, 289, 290, 2, 291, 165, 166, 167, 195, 196, 197, 198, 14, 255, 256, 257, 258, 27, 378, 379, 380, 51, 381, 98, 97, 382, 330, 247, 331, 99, 383, 384, 385, 386, 25, 264, 387, 388, 389, 390, 232, 233, 234, 235, 32, 236, 237, 238, 239, 240, 241, 242, 243, 31, 244, 63, 65, 64, 245, 246, 248, 249, 250, 251, 252, 254, 259, 260, 261, 262, 16, 263, 34, 265, 266, 267, 268, 100, 101, 102, 103, 742, 743, 744, 745, 746, 747, 748, 749, 750, 751, 752, 753, 754, 755, 812, 813, 814, 815, 816, 801, 802, 803, 804, 805, 806, 807, 821, 822, 823, 824, 825, 790, 791, 792, 808, 809, 810, 811] (by decide +kernel) (by decide +kernel)
set_option maxRecDepth 20000 in
theorem gL_law_X9_weigh : GoodIn wsL_law (wsV RL 54 RX9 yX9_weigh wsX9_weigh) := goodIn_app (goodIn_of _ (by decide +kernel)) ggL_law_X9_weigh
set_option maxRecDepth 20000 in
theorem ggL_law_X10_weigh : GoodIn wsL_law wsX10_weigh := goodIn_r _ [394, 296, 357, 141, 297, 131, 132, 133, 139, 140, 143, 145, 298, 299, 5, 300, 173, 174, 175, 211, 212, 213, 214, 172, 358, 359, 360, 395, 396, 397, 398, 137, 142, 277, 278, 279, 280, 281, 147, 756, 757, 758, 759, 760, 761, 762, 763, 764, 765, 766, 767, 768, 769, 770, 771, 772, 773, 774, 775, 776, 777, 778, 779, 780, 781, 782, 783, 784, 785, 786, 787, 788, 789] (by decide +kernel) (by decide +kernel)
set_option maxRecDepth 20000 in
theorem gL_law_X10_weigh : GoodIn wsL_law (wsV RL 57 RX10 yX10_weigh wsX10_weigh) := goodIn_app (goodIn_of _ (by decide +kernel)) ggL_law_X10_weigh
set_option maxRecDepth 20000 in
theorem ggL_law_X9_undo : GoodIn wsL_law wsX9_undo := goodIn_r _ [402, 32, 403, 236, 404, 405, 406, 31, 407, 65, 64, 63, 249, 250, 251, 2, 252, 28, 237, 253, 238, 254, 239, 13, 255, 256, 257, 258, 27, 259, 260, 261, 262, 16, 14, 263, 264, 34, 240, 265, 266, 267, 51, 268, 100, 101, 102, 98, 103, 742, 743, 744, 745, 746, 747, 748, 749, 750, 751, 752, 753, 754, 755, 790, 791, 792, 821, 822, 823, 824, 825, 812, 813, 814, 815, 816, 808, 809, 810, 811, 801, 802, 803, 804, 805, 806, 807] (by decide +kernel) (by decide +kernel)
set_option maxRecDepth 20000 in
theorem gL_law_X9_undo : GoodIn wsL_law (wsV RL 58 RX9 yX9_undo wsX9_undo) := goodIn_app (goodIn_of _ (by decide +kernel)) ggL_law_X9_undo
set_option maxRecDepth 20000 in
theorem ggL_law_X10_undo : GoodIn wsL_law wsX10_undo := goodIn_r _ [411, 281, 147, 139, 145, 141, 357, 273, 274, 275, 5, 276, 138, 301, 302, 303, 304, 132, 313, 314, 315, 316, 353, 354, 355, 356, 172, 135, 142, 146, 358, 359, 360, 369, 370, 371, 372, 756, 757, 758, 759, 760, 761, 762, 763, 764, 765, 766, 767, 768, 769, 770, 771, 772, 773, 774, 775, 776, 777, 778, 779, 780, 781, 782, 783, 784, 785, 786, 787, 788, 789] (by decide +kernel) (by decide +kernel)
set_option maxRecDepth 20000 in
theorem gL_law_X10_undo : GoodIn wsL_law (wsV RL 62 RX10 yX10_undo wsX10_undo) := goodIn_app (goodIn_of _ (by decide +kernel)) ggL_law_X10_undo
set_option maxRecDepth 20000 in
theorem ggL_law_X9_keeper : GoodIn wsL_law wsX9_keeper := goodIn_r _ [415, 28, 416, 289, 290, 2, 291, 165, 166, 167, 417, 418, 419, 255, 256, 257, 258, 27, 742, 743, 744, 745, 746, 747, 748, 749, 750, 751, 752, 753, 754, 755, 812, 813, 814, 815, 816] (by decide +kernel) (by decide +kernel)
set_option maxRecDepth 20000 in
theorem gL_law_X9_keeper : GoodIn wsL_law (wsV RL 63 RX9 yX9_keeper wsX9_keeper) := goodIn_app (goodIn_of _ (by decide +kernel)) ggL_law_X9_keeper
set_option maxRecDepth 20000 in
theorem ggL_law_X10_keeper : GoodIn wsL_law wsX10_keeper := goodIn_r _ [423, 144, 357, 298, 299, 5, 300, 173, 174, 175, 756, 757, 758, 759, 760, 761, 762, 763, 764, 765, 766, 767, 768, 769, 770, 771, 772, 773, 774, 775, 776, 777, 778, 779, 780, 781, 782, 783, 784, 785, 786, 787, 788, 789] (by decide +kernel) (by decide +kernel)
set_option maxRecDepth 20000 in
theorem gL_law_X10_keeper : GoodIn wsL_law (wsV RL 66 RX10 yX10_keeper wsX10_keeper) := goodIn_app (goodIn_of _ (by decide +kernel)) ggL_law_X10_keeper
set_option maxRecDepth 20000 in
theorem ggL_law_X9_night : GoodIn wsL_law wsX9_night := goodIn_r _ [427, 28, 416, 32, 403, 255, 256, 257, 2, 258, 27, 742, 743, 744, 745, 746, 747, 748, 749, 750, 751, 752, 753, 754, 755, 812, 813, 814, 815, 816, 790, 791, 792] (by decide +kernel) (by decide +kernel)
set_option maxRecDepth 20000 in
theorem gL_law_X9_night : GoodIn wsL_law (wsV RL 67 RX9 yX9_night wsX9_night) := goodIn_app (goodIn_of _ (by decide +kernel)) ggL_law_X9_night
set_option maxRecDepth 20000 in
theorem ggL_law_X10_night : GoodIn wsL_law wsX10_night := goodIn_r _ [431, 357, 144, 281, 136, 756, 757, 758, 759, 760, 761, 762, 763, 764, 765, 766, 767, 768, 769, 770, 771, 772, 773, 774, 775, 776, 777, 778, 779, 780, 781, 782, 783, 784, 785, 786, 787, 788, 789] (by decide +kernel) (by decide +kernel)
set_option maxRecDepth 20000 in
theorem gL_law_X10_night : GoodIn wsL_law (wsV RL 70 RX10 yX10_night wsX10_night) := goodIn_app (goodIn_of _ (by decide +kernel)) ggL_law_X10_night
set_option maxRecDepth 20000 in
theorem ggL_law_X9_has : GoodIn wsL_law wsX9_has := goodIn_r _ [435, 286, 13, 231, 288, 165, 166, 2, 167, 195, 196, 197, 198, 14, 742, 743, 744, 745, 746, 747, 748, 749, 750, 751, 752, 753, 754, 755, 801, 802, 803, 804, 805, 806, 807] (by decide +kernel) (by decide +kernel)
set_option maxRecDepth 20000 in
theorem gL_law_X9_has : GoodIn wsL_law (wsV RL 71 RX9 yX9_has wsX9_has) := goodIn_app (goodIn_of _ (by decide +kernel)) ggL_law_X9_has
set_option maxRecDepth 20000 in
theorem ggL_law_X10_has : GoodIn wsL_law wsX10_has := goodIn_r _ [439, 296, 138, 139, 173, 174, 5, 175, 211, 212, 213, 214, 172, 756, 757, 758, 759, 760, 761, 762, 763, 764, 765, 766, 767, 768, 769, 770, 771, 772, 773, 774, 775, 776, 777, 778, 779, 780, 781, 782, 783, 784, 785, 786, 787, 788, 789] (by decide +kernel) (by decide +kernel)
set_option maxRecDepth 20000 in
theorem gL_law_X10_has : GoodIn wsL_law (wsV RL 74 RX10 yX10_has wsX10_has) := goodIn_app (goodIn_of _ (by decide +kernel)) ggL_law_X10_has
set_option maxRecDepth 20000 in
theorem ggL_law_X9_all : GoodIn wsL_law wsX9_all := goodIn_r _ [443, 286, 13, 444, 445, 195, 196, 197, 2, 198, 14, 165, 166, 167, 742, 743, 744, 745, 746, 747, 748, 749, 750, 751, 752, 753, 754, 755, 801, 802, 803, 804, 805, 806, 807] (by decide +kernel) (by decide +kernel)
set_option maxRecDepth 20000 in
theorem gL_law_X9_all : GoodIn wsL_law (wsV RL 75 RX9 yX9_all wsX9_all) := goodIn_app (goodIn_of _ (by decide +kernel)) ggL_law_X9_all
set_option maxRecDepth 20000 in
theorem ggL_law_X10_all : GoodIn wsL_law wsX10_all := goodIn_r _ [449, 145, 296, 211, 212, 213, 5, 214, 172, 173, 174, 175, 756, 757, 758, 759, 760, 761, 762, 763, 764, 765, 766, 767, 768, 769, 770, 771, 772, 773, 774, 775, 776, 777, 778, 779, 780, 781, 782, 783, 784, 785, 786, 787, 788, 789] (by decide +kernel) (by decide +kernel)
set_option maxRecDepth 20000 in
theorem gL_law_X10_all : GoodIn wsL_law (wsV RL 78 RX10 yX10_all wsX10_all) := goodIn_app (goodIn_of _ (by decide +kernel)) ggL_law_X10_all
set_option maxRecDepth 20000 in
theorem ggL_law_X9_gap : GoodIn wsL_law wsX9_gap := goodIn_r _ [453, 28, 286, 253, 254, 454, 377, 264, 416, 165, 166, 2, 167, 289, 290, 291, 195, 196, 197, 198, 14, 255, 256, 257, 258, 27, 383, 384, 385, 386, 13, 25, 387, 388, 389, 51, 390, 99, 455, 456, 457, 55, 458, 117, 118, 459, 460, 247, 461, 119, 742, 743, 744, 745, 746, 747, 748, 749, 750, 751, 752, 753, 754, 755, 812, 813, 814, 815, 816, 801, 802, 803, 804, 805, 806, 807] (by decide +kernel) (by decide +kernel)
set_option maxRecDepth 20000 in
theorem gL_law_X9_gap : GoodIn wsL_law (wsV RL 79 RX9 yX9_gap wsX9_gap) := goodIn_app (goodIn_of _ (by decide +kernel)) ggL_law_X9_gap
set_option maxRecDepth 20000 in
theorem ggL_law_X10_gap : GoodIn wsL_law wsX10_gap := goodIn_r _ [465, 357, 296, 141, 140, 466, 142, 144, 173, 174, 5, 175, 298, 299, 300, 211, 212, 213, 214, 172, 358, 359, 360, 467, 468, 469, 470, 143, 395, 396, 397, 398, 137, 133, 471, 472, 473, 474, 756, 757, 758, 759, 760, 761, 762, 763, 764, 765, 766, 767, 768, 769, 770, 771, 772, 773, 774, 775, 776, 777, 778, 779, 780, 781, 782, 783, 784, 785, 786, 787, 788, 789] (by decide +kernel) (by decide +kernel)
set_option maxRecDepth 20000 in
theorem gL_law_X10_gap : GoodIn wsL_law (wsV RL 82 RX10 yX10_gap wsX10_gap) := goodIn_app (goodIn_of _ (by decide +kernel)) ggL_law_X10_gap
set_option maxRecDepth 20000 in
theorem ggL_law_X9_over : GoodIn wsL_law wsX9_over := goodIn_r _ [478, 479, 27, 264, 254, 480, 481, 482, 247, 483, 417, 418, 2, 419, 165, 166, 167, 195, 196, 197, 198, 14, 484, 485, 486, 487, 28, 488, 489, 490, 55, 491, 114, 117, 115, 492, 493, 494, 742, 743, 744, 745, 746, 747, 748, 749, 750, 751, 752, 753, 754, 755, 812, 813, 814, 815, 816] (by decide +kernel) (by decide +kernel)
set_option maxRecDepth 20000 in
theorem gL_law_X9_over : GoodIn wsL_law (wsV RL 83 RX9 yX9_over wsX9_over) := goodIn_app (goodIn_of _ (by decide +kernel)) ggL_law_X9_over
set_option maxRecDepth 20000 in
theorem ggL_law_X10_over : GoodIn wsL_law wsX10_over := goodIn_r _ [498, 499, 357, 142, 140, 500, 173, 174, 5, 175, 211, 212, 213, 214, 172, 501, 502, 503, 504, 144, 141, 358, 359, 360, 505, 506, 507, 756, 757, 758, 759, 760, 761, 762, 763, 764, 765, 766, 767, 768, 769, 770, 771, 772, 773, 774, 775, 776, 777, 778, 779, 780, 781, 782, 783, 784, 785, 786, 787, 788, 789] (by decide +kernel) (by decide +kernel)
set_option maxRecDepth 20000 in
theorem gL_law_X10_over : GoodIn wsL_law (wsV RL 87 RX10 yX10_over wsX10_over) := goodIn_app (goodIn_of _ (by decide +kernel)) ggL_law_X10_over
set_option maxRecDepth 20000 in
theorem ggL_law_X9_leans : GoodIn wsL_law wsX9_leans := goodIn_r _ [511, 27, 417, 418, 2, 419, 165, 166, 167, 195, 196, 197, 198, 14, 484, 485, 486, 487, 28, 488, 489, 490, 55, 491, 114, 117, 115, 455, 456, 457, 458, 118, 459, 460, 247, 461, 119, 742, 743, 744, 745, 746, 747, 748, 749, 750, 751, 752, 753, 754, 755, 812, 813, 814, 815, 816] (by decide +kernel) (by decide +kernel)
set_option maxRecDepth 20000 in
theorem gL_law_X9_leans : GoodIn wsL_law (wsV RL 88 RX9 yX9_leans wsX9_leans) := goodIn_app (goodIn_of _ (by decide +kernel)) ggL_law_X9_leans
set_option maxRecDepth 20000 in
theorem ggL_law_X10_leans : GoodIn wsL_law wsX10_leans := goodIn_r _ [515, 357, 173, 174, 5, 175, 211, 212, 213, 214, 172, 501, 502, 503, 504, 144, 141, 142, 358, 359, 360, 471, 472, 473, 474, 140, 467, 468, 469, 470, 143, 395, 396, 397, 398, 137, 133, 756, 757, 758, 759, 760, 761, 762, 763, 764, 765, 766, 767, 768, 769, 770, 771, 772, 773, 774, 775, 776, 777, 778, 779, 780, 781, 782, 783, 784, 785, 786, 787, 788, 789] (by decide +kernel) (by decide +kernel)
set_option maxRecDepth 20000 in
theorem gL_law_X10_leans : GoodIn wsL_law (wsV RL 91 RX10 yX10_leans wsX10_leans) := goodIn_app (goodIn_of _ (by decide +kernel)) ggL_law_X10_leans
set_option maxRecDepth 20000 in
theorem ggL_law_X9_takings : GoodIn wsL_law wsX9_takings := goodIn_r _ [519, 34, 289, 290, 2, 291, 165, 166, 167, 742, 743, 744, 745, 746, 747, 748, 749, 750, 751, 752, 753, 754, 755] (by decide +kernel) (by decide +kernel)
set_option maxRecDepth 20000 in
theorem gL_law_X9_takings : GoodIn wsL_law (wsV RL 92 RX9 yX9_takings wsX9_takings) := goodIn_app (goodIn_of _ (by decide +kernel)) ggL_law_X9_takings
set_option maxRecDepth 20000 in
theorem ggL_law_X10_takings : GoodIn wsL_law wsX10_takings := goodIn_r _ [523, 146, 298, 299, 5, 300, 173, 174, 175, 756, 757, 758, 759, 760, 761, 762, 763, 764, 765, 766, 767, 768, 769, 770, 771, 772, 773, 774, 775, 776, 777, 778, 779, 780, 781, 782, 783, 784, 785, 786, 787, 788, 789] (by decide +kernel) (by decide +kernel)
set_option maxRecDepth 20000 in
theorem gL_law_X10_takings : GoodIn wsL_law (wsV RL 95 RX10 yX10_takings wsX10_takings) := goodIn_app (goodIn_of _ (by decide +kernel)) ggL_law_X10_takings
set_option maxRecDepth 20000 in
theorem ggL_law_X9_foretell : GoodIn wsL_law wsX9_foretell := goodIn_r _ [527, 38, 528, 165, 166, 2, 167, 529, 530, 531, 37, 532, 79, 81, 80, 742, 743, 744, 745, 746, 747, 748, 749, 750, 751, 752, 753, 754, 755, 793, 794, 795] (by decide +kernel) (by decide +kernel)
set_option maxRecDepth 20000 in
theorem gL_law_X9_foretell : GoodIn wsL_law (wsV RL 96 RX9 yX9_foretell wsX9_foretell) := goodIn_app (goodIn_of _ (by decide +kernel)) ggL_law_X9_foretell
set_option maxRecDepth 20000 in
theorem ggL_law_X10_foretell : GoodIn wsL_law wsX10_foretell := goodIn_r _ [536, 537, 148, 149, 173, 174, 5, 175, 756, 757, 758, 759, 760, 761, 762, 763, 764, 765, 766, 767, 768, 769, 770, 771, 772, 773, 774, 775, 776, 777, 778, 779, 780, 781, 782, 783, 784, 785, 786, 787, 788, 789] (by decide +kernel) (by decide +kernel)
set_option maxRecDepth 20000 in
theorem gL_law_X10_foretell : GoodIn wsL_law (wsV RL 99 RX10 yX10_foretell wsX10_foretell) := goodIn_app (goodIn_of _ (by decide +kernel)) ggL_law_X10_foretell
set_option maxRecDepth 20000 in
theorem ggL_law_X9_forget : GoodIn wsL_law wsX9_forget := goodIn_r _ [541, 38, 528, 742, 743, 744, 745, 746, 747, 748, 749, 750, 751, 752, 753, 754, 755, 793, 794, 795] (by decide +kernel) (by decide +kernel)
set_option maxRecDepth 20000 in
theorem gL_law_X9_forget : GoodIn wsL_law (wsV RL 100 RX9 yX9_forget wsX9_forget) := goodIn_app (goodIn_of _ (by decide +kernel)) ggL_law_X9_forget
set_option maxRecDepth 20000 in
theorem ggL_law_X10_forget : GoodIn wsL_law wsX10_forget := goodIn_r _ [545, 537, 756, 757, 758, 759, 760, 761, 762, 763, 764, 765, 766, 767, 768, 769, 770, 771, 772, 773, 774, 775, 776, 777, 778, 779, 780, 781, 782, 783, 784, 785, 786, 787, 788, 789] (by decide +kernel) (by decide +kernel)
set_option maxRecDepth 20000 in
theorem gL_law_X10_forget : GoodIn wsL_law (wsV RL 103 RX10 yX10_forget wsX10_forget) := goodIn_app (goodIn_of _ (by decide +kernel)) ggL_law_X10_forget
set_option maxRecDepth 20000 in
theorem ggL_law_X9_press : GoodIn wsL_law wsX9_press := goodIn_r _ [549, 38, 528, 25, 165, 166, 2, 167, 550, 551, 552, 37, 553, 554, 555, 556, 557, 81, 79, 558, 330, 247, 331, 80, 559, 742, 743, 744, 745, 746, 747, 748, 749, 750, 751, 752, 753, 754, 755, 793, 794, 795] (by decide +kernel) (by decide +kernel)
set_option maxRecDepth 20000 in
theorem gL_law_X9_press : GoodIn wsL_law (wsV RL 104 RX9 yX9_press wsX9_press) := goodIn_app (goodIn_of _ (by decide +kernel)) ggL_law_X9_press
set_option maxRecDepth 20000 in
theorem ggL_law_X10_press : GoodIn wsL_law wsX10_press := goodIn_r _ [563, 537, 173, 174, 5, 175, 564, 565, 566, 567, 148, 149, 137, 756, 757, 758, 759, 760, 761, 762, 763, 764, 765, 766, 767, 768, 769, 770, 771, 772, 773, 774, 775, 776, 777, 778, 779, 780, 781, 782, 783, 784, 785, 786, 787, 788, 789] (by decide +kernel) (by decide +kernel)
set_option maxRecDepth 20000 in
theorem gL_law_X10_press : GoodIn wsL_law (wsV RL 107 RX10 yX10_press wsX10_press) := goodIn_app (goodIn_of _ (by decide +kernel)) ggL_law_X10_press
set_option maxRecDepth 20000 in
theorem ggL_law_X9_makes : GoodIn wsL_law wsX9_makes := goodIn_r _ [571, 572, 573, 574, 2, 575, 14, 165, 166, 167, 576, 577, 578, 579, 17, 16, 580, 581, 582, 53, 583, 109, 742, 743, 744, 745, 746, 747, 748, 749, 750, 751, 752, 753, 754, 755, 808, 809, 810, 811] (by decide +kernel) (by decide +kernel)
set_option maxRecDepth 20000 in
theorem gL_law_X9_makes : GoodIn wsL_law (wsV RL 108 RX9 yX9_makes wsX9_makes) := goodIn_app (goodIn_of _ (by decide +kernel)) ggL_law_X9_makes
set_option maxRecDepth 20000 in
theorem ggL_law_X10_makes : GoodIn wsL_law wsX10_makes := goodIn_r _ [587, 172, 173, 174, 5, 175, 588, 589, 590, 591, 185, 135, 756, 757, 758, 759, 760, 761, 762, 763, 764, 765, 766, 767, 768, 769, 770, 771, 772, 773, 774, 775, 776, 777, 778, 779, 780, 781, 782, 783, 784, 785, 786, 787, 788, 789] (by decide +kernel) (by decide +kernel)
set_option maxRecDepth 20000 in
theorem gL_law_X10_makes : GoodIn wsL_law (wsV RL 111 RX10 yX10_makes wsX10_makes) := goodIn_app (goodIn_of _ (by decide +kernel)) ggL_law_X10_makes
set_option maxRecDepth 20000 in
theorem ggL_law_X9_fewest : GoodIn wsL_law wsX9_fewest := goodIn_r _ [595, 165, 166, 2, 167, 572, 573, 574, 575, 14, 596, 597, 598, 599, 600, 601, 602, 576, 577, 578, 579, 17, 16, 580, 581, 582, 53, 583, 109, 742, 743, 744, 745, 746, 747, 748, 749, 750, 751, 752, 753, 754, 755, 808, 809, 810, 811] (by decide +kernel) (by decide +kernel)
set_option maxRecDepth 20000 in
theorem gL_law_X9_fewest : GoodIn wsL_law (wsV RL 112 RX9 yX9_fewest wsX9_fewest) := goodIn_app (goodIn_of _ (by decide +kernel)) ggL_law_X9_fewest
set_option maxRecDepth 20000 in
theorem ggL_law_X10_fewest : GoodIn wsL_law wsX10_fewest := goodIn_r _ [606, 172, 173, 174, 5, 175, 607, 608, 609, 588, 589, 590, 591, 185, 135, 756, 757, 758, 759, 760, 761, 762, 763, 764, 765, 766, 767, 768, 769, 770, 771, 772, 773, 774, 775, 776, 777, 778, 779, 780, 781, 782, 783, 784, 785, 786, 787, 788, 789] (by decide +kernel) (by decide +kernel)
set_option maxRecDepth 20000 in
theorem gL_law_X10_fewest : GoodIn wsL_law (wsV RL 115 RX10 yX10_fewest wsX10_fewest) := goodIn_app (goodIn_of _ (by decide +kernel)) ggL_law_X10_fewest
set_option maxRecDepth 20000 in
theorem ggL_law_X9_most : GoodIn wsL_law wsX9_most := goodIn_r _ [613, 14, 165, 166, 2, 167, 572, 573, 574, 575, 596, 597, 598, 599, 600, 601, 602, 576, 577, 578, 579, 17, 16, 580, 581, 582, 53, 583, 109, 742, 743, 744, 745, 746, 747, 748, 749, 750, 751, 752, 753, 754, 755, 808, 809, 810, 811] (by decide +kernel) (by decide +kernel)
set_option maxRecDepth 20000 in
theorem gL_law_X9_most : GoodIn wsL_law (wsV RL 116 RX9 yX9_most wsX9_most) := goodIn_app (goodIn_of _ (by decide +kernel)) ggL_law_X9_most
set_option maxRecDepth 20000 in
theorem ggL_law_X10_most : GoodIn wsL_law wsX10_most := goodIn_r _ [617, 172, 173, 174, 5, 175, 607, 608, 609, 588, 589, 590, 591, 185, 135, 756, 757, 758, 759, 760, 761, 762, 763, 764, 765, 766, 767, 768, 769, 770, 771, 772, 773, 774, 775, 776, 777, 778, 779, 780, 781, 782, 783, 784, 785, 786, 787, 788, 789] (by decide +kernel) (by decide +kernel)
set_option maxRecDepth 20000 in
theorem gL_law_X10_most : GoodIn wsL_law (wsV RL 119 RX10 yX10_most wsX10_most) := goodIn_app (goodIn_of _ (by decide +kernel)) ggL_law_X10_most
set_option maxRecDepth 20000 in
theorem ggL_law_X9_priceRule : GoodIn wsL_law wsX9_priceRule := goodIn_r _ [621, 41, 40, 622, 623, 624, 328, 165, 166, 2, 167, 742, 743, 744, 745, 746, 747, 748, 749, 750, 751, 752, 753, 754, 755, 817, 818, 819, 820] (by decide +kernel) (by decide +kernel)
set_option maxRecDepth 20000 in
theorem gL_law_X9_priceRule : GoodIn wsL_law (wsV RL 120 RX9 yX9_priceRule wsX9_priceRule) := goodIn_app (goodIn_of _ (by decide +kernel)) ggL_law_X9_priceRule
set_option maxRecDepth 20000 in
theorem ggL_law_X10_priceRule : GoodIn wsL_law wsX10_priceRule := goodIn_r _ [628, 348, 150, 151, 152, 153, 173, 174, 5, 175, 756, 757, 758, 759, 760, 761, 762, 763, 764, 765, 766, 767, 768, 769, 770, 771, 772, 773, 774, 775, 776, 777, 778, 779, 780, 781, 782, 783, 784, 785, 786, 787, 788, 789] (by decide +kernel) (by decide +kernel)
set_option maxRecDepth 20000 in
theorem gL_law_X10_priceRule : GoodIn wsL_law (wsV RL 123 RX10 yX10_priceRule wsX10_priceRule) := goodIn_app (goodIn_of _ (by decide +kernel)) ggL_law_X10_priceRule
set_option maxRecDepth 20000 in
theorem ggL_law_X9_price : GoodIn wsL_law wsX9_price := goodIn_r _ [632, 191, 192, 193, 2, 194, 17, 165, 166, 167, 321, 322, 323, 324, 325, 326, 327, 16, 180, 41, 40, 25, 328, 329, 330, 247, 331, 332, 333, 334, 57, 335, 124, 125, 336, 337, 338, 339, 123, 742, 743, 744, 745, 746, 747, 748, 749, 750, 751, 752, 753, 754, 755, 808, 809, 810, 811, 817, 818, 819, 820] (by decide +kernel) (by decide +kernel)
set_option maxRecDepth 20000 in
theorem gL_law_X9_price : GoodIn wsL_law (wsV RL 124 RX9 yX9_price wsX9_price) := goodIn_app (goodIn_of _ (by decide +kernel)) ggL_law_X9_price
set_option maxRecDepth 20000 in
theorem ggL_law_X10_price : GoodIn wsL_law wsX10_price := goodIn_r _ [636, 207, 208, 209, 5, 210, 185, 173, 174, 175, 344, 345, 346, 347, 134, 348, 153, 137, 349, 350, 351, 352, 150, 152, 151, 756, 757, 758, 759, 760, 761, 762, 763, 764, 765, 766, 767, 768, 769, 770, 771, 772, 773, 774, 775, 776, 777, 778, 779, 780, 781, 782, 783, 784, 785, 786, 787, 788, 789] (by decide +kernel) (by decide +kernel)
set_option maxRecDepth 20000 in
theorem gL_law_X10_price : GoodIn wsL_law (wsV RL 127 RX10 yX10_price wsX10_price) := goodIn_app (goodIn_of _ (by decide +kernel)) ggL_law_X10_price
set_option maxRecDepth 20000 in
theorem ggL_law_X9_person : GoodIn wsL_law wsX9_person := goodIn_r _ [640, 45, 641, 165, 166, 2, 167, 742, 743, 744, 745, 746, 747, 748, 749, 750, 751, 752, 753, 754, 755, 796] (by decide +kernel) (by decide +kernel)
set_option maxRecDepth 20000 in
theorem gL_law_X9_person : GoodIn wsL_law (wsV RL 128 RX9 yX9_person wsX9_person) := goodIn_app (goodIn_of _ (by decide +kernel)) ggL_law_X9_person
set_option maxRecDepth 20000 in
theorem ggL_law_X10_person : GoodIn wsL_law wsX10_person := goodIn_r _ [645, 154, 173, 174, 5, 175, 756, 757, 758, 759, 760, 761, 762, 763, 764, 765, 766, 767, 768, 769, 770, 771, 772, 773, 774, 775, 776, 777, 778, 779, 780, 781, 782, 783, 784, 785, 786, 787, 788, 789] (by decide +kernel) (by decide +kernel)
set_option maxRecDepth 20000 in
theorem gL_law_X10_person : GoodIn wsL_law (wsV RL 131 RX10 yX10_person wsX10_person) := goodIn_app (goodIn_of _ (by decide +kernel)) ggL_law_X10_person
set_option maxRecDepth 20000 in
theorem ggL_law_X9_tips : GoodIn wsL_law wsX9_tips := goodIn_r _ [649, 650, 45, 165, 166, 2, 167, 651, 652, 653, 44, 654, 85, 655, 656, 657, 658, 659, 660, 661, 662, 663, 664, 665, 666, 742, 743, 744, 745, 746, 747, 748, 749, 750, 751, 752, 753, 754, 755, 796] (by decide +kernel) (by decide +kernel)
set_option maxRecDepth 20000 in
theorem gL_law_X9_tips : GoodIn wsL_law (wsV RL 132 RX9 yX9_tips wsX9_tips) := goodIn_app (goodIn_of _ (by decide +kernel)) ggL_law_X9_tips
set_option maxRecDepth 20000 in
theorem ggL_law_X10_tips : GoodIn wsL_law wsX10_tips := goodIn_r _ [670, 671, 154, 173, 174, 5, 175, 756, 757, 758, 759, 760, 761, 762, 763, 764, 765, 766, 767, 768, 769, 770, 771, 772, 773, 774, 775, 776, 777, 778, 779, 780, 781, 782, 783, 784, 785, 786, 787, 788, 789] (by decide +kernel) (by decide +kernel)
set_option maxRecDepth 20000 in
theorem gL_law_X10_tips : GoodIn wsL_law (wsV RL 135 RX10 yX10_tips wsX10_tips) := goodIn_app (goodIn_of _ (by decide +kernel)) ggL_law_X10_tips
set_option maxRecDepth 20000 in
theorem ggL_law_X9_keg : GoodIn wsL_law wsX9_keg := goodIn_r _ [675, 676, 25, 329, 330, 247, 331, 677, 246, 248, 678, 165, 166, 2, 167, 742, 743, 744, 745, 746, 747, 748, 749, 750, 751, 752, 753, 754, 755] (by decide +kernel) (by decide +kernel)
set_option maxRecDepth 20000 in
theorem gL_law_X9_keg : GoodIn wsL_law (wsV RL 136 RX9 yX9_keg wsX9_keg) := goodIn_app (goodIn_of _ (by decide +kernel)) ggL_law_X9_keg
set_option maxRecDepth 20000 in
theorem ggL_law_X10_keg : GoodIn wsL_law wsX10_keg := goodIn_r _ [682, 683, 137, 684, 173, 174, 5, 175, 756, 757, 758, 759, 760, 761, 762, 763, 764, 765, 766, 767, 768, 769, 770, 771, 772, 773, 774, 775, 776, 777, 778, 779, 780, 781, 782, 783, 784, 785, 786, 787, 788, 789] (by decide +kernel) (by decide +kernel)
set_option maxRecDepth 20000 in
theorem gL_law_X10_keg : GoodIn wsL_law (wsV RL 139 RX10 yX10_keg wsX10_keg) := goodIn_app (goodIn_of _ (by decide +kernel)) ggL_law_X10_keg
set_option maxRecDepth 20000 in
theorem ggL_law_X9_deal : GoodIn wsL_law wsX9_deal := goodIn_r _ [688, 676, 49, 689, 165, 166, 2, 167, 690, 691, 692, 48, 693, 89, 91, 90, 742, 743, 744, 745, 746, 747, 748, 749, 750, 751, 752, 753, 754, 755, 797, 798, 799, 800] (by decide +kernel) (by decide +kernel)
set_option maxRecDepth 20000 in
theorem gL_law_X9_deal : GoodIn wsL_law (wsV RL 140 RX9 yX9_deal wsX9_deal) := goodIn_app (goodIn_of _ (by decide +kernel)) ggL_law_X9_deal
set_option maxRecDepth 20000 in
theorem ggL_law_X10_deal : GoodIn wsL_law wsX10_deal := goodIn_r _ [697, 683, 698, 155, 156, 173, 174, 5, 175, 756, 757, 758, 759, 760, 761, 762, 763, 764, 765, 766, 767, 768, 769, 770, 771, 772, 773, 774, 775, 776, 777, 778, 779, 780, 781, 782, 783, 784, 785, 786, 787, 788, 789] (by decide +kernel) (by decide +kernel)
set_option maxRecDepth 20000 in
theorem gL_law_X10_deal : GoodIn wsL_law (wsV RL 143 RX10 yX10_deal wsX10_deal) := goodIn_app (goodIn_of _ (by decide +kernel)) ggL_law_X10_deal
set_option maxRecDepth 20000 in
theorem ggL_law_X9_buy : GoodIn wsL_law wsX9_buy := goodIn_r _ [702, 49, 689, 165, 166, 2, 167, 703, 704, 705, 48, 706, 93, 91, 707, 708, 246, 247, 248, 709, 710, 711, 712, 89, 90, 713, 714, 715, 716, 717, 718, 719, 720, 721, 722, 723, 724, 725, 726, 727, 728, 742, 743, 744, 745, 746, 747, 748, 749, 750, 751, 752, 753, 754, 755, 797, 798, 799, 800] (by decide +kernel) (by decide +kernel)
set_option maxRecDepth 20000 in
theorem gL_law_X9_buy : GoodIn wsL_law (wsV RL 144 RX9 yX9_buy wsX9_buy) := goodIn_app (goodIn_of _ (by decide +kernel)) ggL_law_X9_buy
set_option maxRecDepth 20000 in
theorem ggL_law_X10_buy : GoodIn wsL_law wsX10_buy := goodIn_r _ [732, 698, 733, 157, 155, 156, 173, 174, 5, 175, 756, 757, 758, 759, 760, 761, 762, 763, 764, 765, 766, 767, 768, 769, 770, 771, 772, 773, 774, 775, 776, 777, 778, 779, 780, 781, 782, 783, 784, 785, 786, 787, 788, 789] (by decide +kernel) (by decide +kernel)
set_option maxRecDepth 20000 in
theorem gL_law_X10_buy : GoodIn wsL_law (wsV RL 147 RX10 yX10_buy wsX10_buy) := goodIn_app (goodIn_of _ (by decide +kernel)) ggL_law_X10_buy
set_option maxRecDepth 20000 in
theorem ggL_law_X9_count : GoodIn wsL_law wsX9_count := goodIn_r _ [737, 14, 17, 28, 32, 403, 41, 49, 689, 38, 528, 742, 743, 744, 745, 746, 747, 748, 749, 750, 751, 752, 753, 754, 755, 790, 791, 792, 797, 798, 799, 800, 793, 794, 795] (by decide +kernel) (by decide +kernel)
set_option maxRecDepth 20000 in
theorem gL_law_X9_count : GoodIn wsL_law (wsV RL 148 RX9 yX9_count wsX9_count) := goodIn_app (goodIn_of _ (by decide +kernel)) ggL_law_X9_count
set_option maxRecDepth 20000 in
theorem ggL_law_X10_count : GoodIn wsL_law wsX10_count := goodIn_r _ [741, 172, 185, 357, 281, 348, 698, 537, 756, 757, 758, 759, 760, 761, 762, 763, 764, 765, 766, 767, 768, 769, 770, 771, 772, 773, 774, 775, 776, 777, 778, 779, 780, 781, 782, 783, 784, 785, 786, 787, 788, 789] (by decide +kernel) (by decide +kernel)
set_option maxRecDepth 20000 in
theorem gL_law_X10_count : GoodIn wsL_law (wsV RL 151 RX10 yX10_count wsX10_count) := goodIn_app (goodIn_of _ (by decide +kernel)) ggL_law_X10_count
theorem dL_law_0 : decode cL_law 0 = .ok (.new 7, 3) := by decide +kernel
theorem dL_law_3 : decode cL_law 3 = .ok (.dup, 1) := by decide +kernel
theorem dL_law_4 : decode cL_law 4 = .ok (.invokespecial 9, 3) := by decide +kernel
theorem dL_law_7 : decode cL_law 7 = .ok (.astore_n 1, 1) := by decide +kernel
theorem dL_law_8 : decode cL_law 8 = .ok (.new 10, 3) := by decide +kernel
theorem dL_law_11 : decode cL_law 11 = .ok (.dup, 1) := by decide +kernel
theorem dL_law_12 : decode cL_law 12 = .ok (.invokespecial 12, 3) := by decide +kernel
theorem dL_law_15 : decode cL_law 15 = .ok (.astore_n 2, 1) := by decide +kernel
theorem dL_law_16 : decode cL_law 16 = .ok (.iconst 0, 1) := by decide +kernel
theorem dL_law_17 : decode cL_law 17 = .ok (.istore_n 3, 1) := by decide +kernel
theorem dL_law_18 : decode cL_law 18 = .ok (.iload_n 3, 1) := by decide +kernel
theorem dL_law_19 : decode cL_law 19 = .ok (.aload_n 0, 1) := by decide +kernel
theorem dL_law_20 : decode cL_law 20 = .ok (.arraylength, 1) := by decide +kernel
theorem dL_law_21 : decode cL_law 21 = .ok (.bipush 6, 2) := by decide +kernel
theorem dL_law_23 : decode cL_law 23 = .ok (.isub, 1) := by decide +kernel
theorem dL_law_24 : decode cL_law 24 = .ok (.if_icmp .gt 1302, 3) := by decide +kernel
theorem dL_law_27 : decode cL_law 27 = .ok (.aload_n 0, 1) := by decide +kernel
theorem dL_law_28 : decode cL_law 28 = .ok (.iload_n 3, 1) := by decide +kernel
theorem dL_law_29 : decode cL_law 29 = .ok (.iaload, 1) := by decide +kernel
theorem dL_law_30 : decode cL_law 30 = .ok (.bipush 63, 2) := by decide +kernel
theorem dL_law_32 : decode cL_law 32 = .ok (.iand, 1) := by decide +kernel
theorem dL_law_33 : decode cL_law 33 = .ok (.tableswitch 1287 0 32 #[147, 190, 213, 256, 289, 322, 365, 408, 471, 524, 577, 590, 623, 636, 669, 702, 755, 799, 832, 855, 888, 901, 924, 947, 970, 993, 1046, 1089, 1132, 1165, 1198, 1231, 1264], 147) := by decide +kernel
theorem dL_law_180 : decode cL_law 180 = .ok (.aload_n 1, 1) := by decide +kernel
theorem dL_law_181 : decode cL_law 181 = .ok (.aload_n 0, 1) := by decide +kernel
theorem dL_law_182 : decode cL_law 182 = .ok (.iload_n 3, 1) := by decide +kernel
theorem dL_law_183 : decode cL_law 183 = .ok (.iconst 1, 1) := by decide +kernel
theorem dL_law_184 : decode cL_law 184 = .ok (.iadd, 1) := by decide +kernel
theorem dL_law_185 : decode cL_law 185 = .ok (.iaload, 1) := by decide +kernel
theorem dL_law_186 : decode cL_law 186 = .ok (.aload_n 0, 1) := by decide +kernel
theorem dL_law_187 : decode cL_law 187 = .ok (.iload_n 3, 1) := by decide +kernel
theorem dL_law_188 : decode cL_law 188 = .ok (.iconst 2, 1) := by decide +kernel
theorem dL_law_189 : decode cL_law 189 = .ok (.iadd, 1) := by decide +kernel
theorem dL_law_190 : decode cL_law 190 = .ok (.iaload, 1) := by decide +kernel
theorem dL_law_191 : decode cL_law 191 = .ok (.aload_n 0, 1) := by decide +kernel
theorem dL_law_192 : decode cL_law 192 = .ok (.iload_n 3, 1) := by decide +kernel
theorem dL_law_193 : decode cL_law 193 = .ok (.iconst 3, 1) := by decide +kernel
theorem dL_law_194 : decode cL_law 194 = .ok (.iadd, 1) := by decide +kernel
theorem dL_law_195 : decode cL_law 195 = .ok (.iaload, 1) := by decide +kernel
theorem dL_law_196 : decode cL_law 196 = .ok (.invokevirtual 13, 3) := by decide +kernel
theorem dL_law_199 : decode cL_law 199 = .ok (.aload_n 2, 1) := by decide +kernel
theorem dL_law_200 : decode cL_law 200 = .ok (.aload_n 0, 1) := by decide +kernel
theorem dL_law_201 : decode cL_law 201 = .ok (.iload_n 3, 1) := by decide +kernel
theorem dL_law_202 : decode cL_law 202 = .ok (.iconst 1, 1) := by decide +kernel
theorem dL_law_203 : decode cL_law 203 = .ok (.iadd, 1) := by decide +kernel
theorem dL_law_204 : decode cL_law 204 = .ok (.iaload, 1) := by decide +kernel
theorem dL_law_205 : decode cL_law 205 = .ok (.aload_n 0, 1) := by decide +kernel
theorem dL_law_206 : decode cL_law 206 = .ok (.iload_n 3, 1) := by decide +kernel
theorem dL_law_207 : decode cL_law 207 = .ok (.iconst 2, 1) := by decide +kernel
theorem dL_law_208 : decode cL_law 208 = .ok (.iadd, 1) := by decide +kernel
theorem dL_law_209 : decode cL_law 209 = .ok (.iaload, 1) := by decide +kernel
theorem dL_law_210 : decode cL_law 210 = .ok (.aload_n 0, 1) := by decide +kernel
theorem dL_law_211 : decode cL_law 211 = .ok (.iload_n 3, 1) := by decide +kernel
theorem dL_law_212 : decode cL_law 212 = .ok (.iconst 3, 1) := by decide +kernel
theorem dL_law_213 : decode cL_law 213 = .ok (.iadd, 1) := by decide +kernel
theorem dL_law_214 : decode cL_law 214 = .ok (.iaload, 1) := by decide +kernel
theorem dL_law_215 : decode cL_law 215 = .ok (.invokevirtual 17, 3) := by decide +kernel
theorem dL_law_218 : decode cL_law 218 = .ok (.if_icmp .eq 1102, 3) := by decide +kernel
theorem dL_law_221 : decode cL_law 221 = .ok (.iconst 0, 1) := by decide +kernel
theorem dL_law_222 : decode cL_law 222 = .ok (.ireturn, 1) := by decide +kernel
theorem dL_law_223 : decode cL_law 223 = .ok (.aload_n 1, 1) := by decide +kernel
theorem dL_law_224 : decode cL_law 224 = .ok (.aload_n 0, 1) := by decide +kernel
theorem dL_law_225 : decode cL_law 225 = .ok (.iload_n 3, 1) := by decide +kernel
theorem dL_law_226 : decode cL_law 226 = .ok (.iconst 1, 1) := by decide +kernel
theorem dL_law_227 : decode cL_law 227 = .ok (.iadd, 1) := by decide +kernel
theorem dL_law_228 : decode cL_law 228 = .ok (.iaload, 1) := by decide +kernel
theorem dL_law_229 : decode cL_law 229 = .ok (.invokevirtual 18, 3) := by decide +kernel
theorem dL_law_232 : decode cL_law 232 = .ok (.aload_n 2, 1) := by decide +kernel
theorem dL_law_233 : decode cL_law 233 = .ok (.aload_n 0, 1) := by decide +kernel
theorem dL_law_234 : decode cL_law 234 = .ok (.iload_n 3, 1) := by decide +kernel
theorem dL_law_235 : decode cL_law 235 = .ok (.iconst 1, 1) := by decide +kernel
theorem dL_law_236 : decode cL_law 236 = .ok (.iadd, 1) := by decide +kernel
theorem dL_law_237 : decode cL_law 237 = .ok (.iaload, 1) := by decide +kernel
theorem dL_law_238 : decode cL_law 238 = .ok (.invokevirtual 22, 3) := by decide +kernel
theorem dL_law_241 : decode cL_law 241 = .ok (.if_icmp .eq 1079, 3) := by decide +kernel
theorem dL_law_244 : decode cL_law 244 = .ok (.iconst 0, 1) := by decide +kernel
theorem dL_law_245 : decode cL_law 245 = .ok (.ireturn, 1) := by decide +kernel
theorem dL_law_246 : decode cL_law 246 = .ok (.aload_n 1, 1) := by decide +kernel
theorem dL_law_247 : decode cL_law 247 = .ok (.aload_n 0, 1) := by decide +kernel
theorem dL_law_248 : decode cL_law 248 = .ok (.iload_n 3, 1) := by decide +kernel
theorem dL_law_249 : decode cL_law 249 = .ok (.iconst 1, 1) := by decide +kernel
theorem dL_law_250 : decode cL_law 250 = .ok (.iadd, 1) := by decide +kernel
theorem dL_law_251 : decode cL_law 251 = .ok (.iaload, 1) := by decide +kernel
theorem dL_law_252 : decode cL_law 252 = .ok (.aload_n 0, 1) := by decide +kernel
theorem dL_law_253 : decode cL_law 253 = .ok (.iload_n 3, 1) := by decide +kernel
theorem dL_law_254 : decode cL_law 254 = .ok (.iconst 2, 1) := by decide +kernel
theorem dL_law_255 : decode cL_law 255 = .ok (.iadd, 1) := by decide +kernel
theorem dL_law_256 : decode cL_law 256 = .ok (.iaload, 1) := by decide +kernel
theorem dL_law_257 : decode cL_law 257 = .ok (.aload_n 0, 1) := by decide +kernel
theorem dL_law_258 : decode cL_law 258 = .ok (.iload_n 3, 1) := by decide +kernel
theorem dL_law_259 : decode cL_law 259 = .ok (.iconst 3, 1) := by decide +kernel
theorem dL_law_260 : decode cL_law 260 = .ok (.iadd, 1) := by decide +kernel
theorem dL_law_261 : decode cL_law 261 = .ok (.iaload, 1) := by decide +kernel
theorem dL_law_262 : decode cL_law 262 = .ok (.invokevirtual 23, 3) := by decide +kernel
theorem dL_law_265 : decode cL_law 265 = .ok (.aload_n 2, 1) := by decide +kernel
theorem dL_law_266 : decode cL_law 266 = .ok (.aload_n 0, 1) := by decide +kernel
theorem dL_law_267 : decode cL_law 267 = .ok (.iload_n 3, 1) := by decide +kernel
theorem dL_law_268 : decode cL_law 268 = .ok (.iconst 1, 1) := by decide +kernel
theorem dL_law_269 : decode cL_law 269 = .ok (.iadd, 1) := by decide +kernel
theorem dL_law_270 : decode cL_law 270 = .ok (.iaload, 1) := by decide +kernel
theorem dL_law_271 : decode cL_law 271 = .ok (.aload_n 0, 1) := by decide +kernel
theorem dL_law_272 : decode cL_law 272 = .ok (.iload_n 3, 1) := by decide +kernel
theorem dL_law_273 : decode cL_law 273 = .ok (.iconst 2, 1) := by decide +kernel
theorem dL_law_274 : decode cL_law 274 = .ok (.iadd, 1) := by decide +kernel
theorem dL_law_275 : decode cL_law 275 = .ok (.iaload, 1) := by decide +kernel
theorem dL_law_276 : decode cL_law 276 = .ok (.aload_n 0, 1) := by decide +kernel
theorem dL_law_277 : decode cL_law 277 = .ok (.iload_n 3, 1) := by decide +kernel
theorem dL_law_278 : decode cL_law 278 = .ok (.iconst 3, 1) := by decide +kernel
theorem dL_law_279 : decode cL_law 279 = .ok (.iadd, 1) := by decide +kernel
theorem dL_law_280 : decode cL_law 280 = .ok (.iaload, 1) := by decide +kernel
theorem dL_law_281 : decode cL_law 281 = .ok (.invokevirtual 26, 3) := by decide +kernel
theorem dL_law_284 : decode cL_law 284 = .ok (.if_icmp .eq 1036, 3) := by decide +kernel
theorem dL_law_287 : decode cL_law 287 = .ok (.iconst 0, 1) := by decide +kernel
theorem dL_law_288 : decode cL_law 288 = .ok (.ireturn, 1) := by decide +kernel
theorem dL_law_289 : decode cL_law 289 = .ok (.aload_n 1, 1) := by decide +kernel
theorem dL_law_290 : decode cL_law 290 = .ok (.aload_n 0, 1) := by decide +kernel
theorem dL_law_291 : decode cL_law 291 = .ok (.iload_n 3, 1) := by decide +kernel
theorem dL_law_292 : decode cL_law 292 = .ok (.iconst 1, 1) := by decide +kernel
theorem dL_law_293 : decode cL_law 293 = .ok (.iadd, 1) := by decide +kernel
theorem dL_law_294 : decode cL_law 294 = .ok (.iaload, 1) := by decide +kernel
theorem dL_law_295 : decode cL_law 295 = .ok (.aload_n 0, 1) := by decide +kernel
theorem dL_law_296 : decode cL_law 296 = .ok (.iload_n 3, 1) := by decide +kernel
theorem dL_law_297 : decode cL_law 297 = .ok (.iconst 2, 1) := by decide +kernel
theorem dL_law_298 : decode cL_law 298 = .ok (.iadd, 1) := by decide +kernel
theorem dL_law_299 : decode cL_law 299 = .ok (.iaload, 1) := by decide +kernel
theorem dL_law_300 : decode cL_law 300 = .ok (.invokevirtual 27, 3) := by decide +kernel
theorem dL_law_303 : decode cL_law 303 = .ok (.aload_n 2, 1) := by decide +kernel
theorem dL_law_304 : decode cL_law 304 = .ok (.aload_n 0, 1) := by decide +kernel
theorem dL_law_305 : decode cL_law 305 = .ok (.iload_n 3, 1) := by decide +kernel
theorem dL_law_306 : decode cL_law 306 = .ok (.iconst 1, 1) := by decide +kernel
theorem dL_law_307 : decode cL_law 307 = .ok (.iadd, 1) := by decide +kernel
theorem dL_law_308 : decode cL_law 308 = .ok (.iaload, 1) := by decide +kernel
theorem dL_law_309 : decode cL_law 309 = .ok (.aload_n 0, 1) := by decide +kernel
theorem dL_law_310 : decode cL_law 310 = .ok (.iload_n 3, 1) := by decide +kernel
theorem dL_law_311 : decode cL_law 311 = .ok (.iconst 2, 1) := by decide +kernel
theorem dL_law_312 : decode cL_law 312 = .ok (.iadd, 1) := by decide +kernel
theorem dL_law_313 : decode cL_law 313 = .ok (.iaload, 1) := by decide +kernel
theorem dL_law_314 : decode cL_law 314 = .ok (.invokevirtual 31, 3) := by decide +kernel
theorem dL_law_317 : decode cL_law 317 = .ok (.if_icmp .eq 1003, 3) := by decide +kernel
theorem dL_law_320 : decode cL_law 320 = .ok (.iconst 0, 1) := by decide +kernel
theorem dL_law_321 : decode cL_law 321 = .ok (.ireturn, 1) := by decide +kernel
theorem dL_law_322 : decode cL_law 322 = .ok (.aload_n 1, 1) := by decide +kernel
theorem dL_law_323 : decode cL_law 323 = .ok (.aload_n 0, 1) := by decide +kernel
theorem dL_law_324 : decode cL_law 324 = .ok (.iload_n 3, 1) := by decide +kernel
theorem dL_law_325 : decode cL_law 325 = .ok (.iconst 1, 1) := by decide +kernel
theorem dL_law_326 : decode cL_law 326 = .ok (.iadd, 1) := by decide +kernel
theorem dL_law_327 : decode cL_law 327 = .ok (.iaload, 1) := by decide +kernel
theorem dL_law_328 : decode cL_law 328 = .ok (.aload_n 0, 1) := by decide +kernel
theorem dL_law_329 : decode cL_law 329 = .ok (.iload_n 3, 1) := by decide +kernel
theorem dL_law_330 : decode cL_law 330 = .ok (.iconst 2, 1) := by decide +kernel
theorem dL_law_331 : decode cL_law 331 = .ok (.iadd, 1) := by decide +kernel
theorem dL_law_332 : decode cL_law 332 = .ok (.iaload, 1) := by decide +kernel
theorem dL_law_333 : decode cL_law 333 = .ok (.invokevirtual 32, 3) := by decide +kernel
theorem dL_law_336 : decode cL_law 336 = .ok (.aload_n 2, 1) := by decide +kernel
theorem dL_law_337 : decode cL_law 337 = .ok (.aload_n 0, 1) := by decide +kernel
theorem dL_law_338 : decode cL_law 338 = .ok (.iload_n 3, 1) := by decide +kernel
theorem dL_law_339 : decode cL_law 339 = .ok (.iconst 1, 1) := by decide +kernel
theorem dL_law_340 : decode cL_law 340 = .ok (.iadd, 1) := by decide +kernel
theorem dL_law_341 : decode cL_law 341 = .ok (.iaload, 1) := by decide +kernel
theorem dL_law_342 : decode cL_law 342 = .ok (.aload_n 0, 1) := by decide +kernel
theorem dL_law_343 : decode cL_law 343 = .ok (.iload_n 3, 1) := by decide +kernel
theorem dL_law_344 : decode cL_law 344 = .ok (.iconst 2, 1) := by decide +kernel
theorem dL_law_345 : decode cL_law 345 = .ok (.iadd, 1) := by decide +kernel
theorem dL_law_346 : decode cL_law 346 = .ok (.iaload, 1) := by decide +kernel
theorem dL_law_347 : decode cL_law 347 = .ok (.invokevirtual 35, 3) := by decide +kernel
theorem dL_law_350 : decode cL_law 350 = .ok (.if_icmp .eq 970, 3) := by decide +kernel
theorem dL_law_353 : decode cL_law 353 = .ok (.iconst 0, 1) := by decide +kernel
theorem dL_law_354 : decode cL_law 354 = .ok (.ireturn, 1) := by decide +kernel
theorem dL_law_355 : decode cL_law 355 = .ok (.aload_n 1, 1) := by decide +kernel
theorem dL_law_356 : decode cL_law 356 = .ok (.aload_n 0, 1) := by decide +kernel
theorem dL_law_357 : decode cL_law 357 = .ok (.iload_n 3, 1) := by decide +kernel
theorem dL_law_358 : decode cL_law 358 = .ok (.iconst 1, 1) := by decide +kernel
theorem dL_law_359 : decode cL_law 359 = .ok (.iadd, 1) := by decide +kernel
theorem dL_law_360 : decode cL_law 360 = .ok (.iaload, 1) := by decide +kernel
theorem dL_law_361 : decode cL_law 361 = .ok (.aload_n 0, 1) := by decide +kernel
theorem dL_law_362 : decode cL_law 362 = .ok (.iload_n 3, 1) := by decide +kernel
theorem dL_law_363 : decode cL_law 363 = .ok (.iconst 2, 1) := by decide +kernel
theorem dL_law_364 : decode cL_law 364 = .ok (.iadd, 1) := by decide +kernel
theorem dL_law_365 : decode cL_law 365 = .ok (.iaload, 1) := by decide +kernel
theorem dL_law_366 : decode cL_law 366 = .ok (.aload_n 0, 1) := by decide +kernel
theorem dL_law_367 : decode cL_law 367 = .ok (.iload_n 3, 1) := by decide +kernel
theorem dL_law_368 : decode cL_law 368 = .ok (.iconst 3, 1) := by decide +kernel
theorem dL_law_369 : decode cL_law 369 = .ok (.iadd, 1) := by decide +kernel
theorem dL_law_370 : decode cL_law 370 = .ok (.iaload, 1) := by decide +kernel
theorem dL_law_371 : decode cL_law 371 = .ok (.invokevirtual 36, 3) := by decide +kernel
theorem dL_law_374 : decode cL_law 374 = .ok (.aload_n 2, 1) := by decide +kernel
theorem dL_law_375 : decode cL_law 375 = .ok (.aload_n 0, 1) := by decide +kernel
theorem dL_law_376 : decode cL_law 376 = .ok (.iload_n 3, 1) := by decide +kernel
theorem dL_law_377 : decode cL_law 377 = .ok (.iconst 1, 1) := by decide +kernel
theorem dL_law_378 : decode cL_law 378 = .ok (.iadd, 1) := by decide +kernel
theorem dL_law_379 : decode cL_law 379 = .ok (.iaload, 1) := by decide +kernel
theorem dL_law_380 : decode cL_law 380 = .ok (.aload_n 0, 1) := by decide +kernel
theorem dL_law_381 : decode cL_law 381 = .ok (.iload_n 3, 1) := by decide +kernel
theorem dL_law_382 : decode cL_law 382 = .ok (.iconst 2, 1) := by decide +kernel
theorem dL_law_383 : decode cL_law 383 = .ok (.iadd, 1) := by decide +kernel
theorem dL_law_384 : decode cL_law 384 = .ok (.iaload, 1) := by decide +kernel
theorem dL_law_385 : decode cL_law 385 = .ok (.aload_n 0, 1) := by decide +kernel
theorem dL_law_386 : decode cL_law 386 = .ok (.iload_n 3, 1) := by decide +kernel
theorem dL_law_387 : decode cL_law 387 = .ok (.iconst 3, 1) := by decide +kernel
theorem dL_law_388 : decode cL_law 388 = .ok (.iadd, 1) := by decide +kernel
theorem dL_law_389 : decode cL_law 389 = .ok (.iaload, 1) := by decide +kernel
theorem dL_law_390 : decode cL_law 390 = .ok (.invokevirtual 39, 3) := by decide +kernel
theorem dL_law_393 : decode cL_law 393 = .ok (.if_icmp .eq 927, 3) := by decide +kernel
theorem dL_law_396 : decode cL_law 396 = .ok (.iconst 0, 1) := by decide +kernel
theorem dL_law_397 : decode cL_law 397 = .ok (.ireturn, 1) := by decide +kernel
theorem dL_law_398 : decode cL_law 398 = .ok (.aload_n 1, 1) := by decide +kernel
theorem dL_law_399 : decode cL_law 399 = .ok (.aload_n 0, 1) := by decide +kernel
theorem dL_law_400 : decode cL_law 400 = .ok (.iload_n 3, 1) := by decide +kernel
theorem dL_law_401 : decode cL_law 401 = .ok (.iconst 1, 1) := by decide +kernel
theorem dL_law_402 : decode cL_law 402 = .ok (.iadd, 1) := by decide +kernel
theorem dL_law_403 : decode cL_law 403 = .ok (.iaload, 1) := by decide +kernel
theorem dL_law_404 : decode cL_law 404 = .ok (.aload_n 0, 1) := by decide +kernel
theorem dL_law_405 : decode cL_law 405 = .ok (.iload_n 3, 1) := by decide +kernel
theorem dL_law_406 : decode cL_law 406 = .ok (.iconst 2, 1) := by decide +kernel
theorem dL_law_407 : decode cL_law 407 = .ok (.iadd, 1) := by decide +kernel
theorem dL_law_408 : decode cL_law 408 = .ok (.iaload, 1) := by decide +kernel
theorem dL_law_409 : decode cL_law 409 = .ok (.aload_n 0, 1) := by decide +kernel
theorem dL_law_410 : decode cL_law 410 = .ok (.iload_n 3, 1) := by decide +kernel
theorem dL_law_411 : decode cL_law 411 = .ok (.iconst 3, 1) := by decide +kernel
theorem dL_law_412 : decode cL_law 412 = .ok (.iadd, 1) := by decide +kernel
theorem dL_law_413 : decode cL_law 413 = .ok (.iaload, 1) := by decide +kernel
theorem dL_law_414 : decode cL_law 414 = .ok (.invokevirtual 40, 3) := by decide +kernel
theorem dL_law_417 : decode cL_law 417 = .ok (.aload_n 2, 1) := by decide +kernel
theorem dL_law_418 : decode cL_law 418 = .ok (.aload_n 0, 1) := by decide +kernel
theorem dL_law_419 : decode cL_law 419 = .ok (.iload_n 3, 1) := by decide +kernel
theorem dL_law_420 : decode cL_law 420 = .ok (.iconst 1, 1) := by decide +kernel
theorem dL_law_421 : decode cL_law 421 = .ok (.iadd, 1) := by decide +kernel
theorem dL_law_422 : decode cL_law 422 = .ok (.iaload, 1) := by decide +kernel
theorem dL_law_423 : decode cL_law 423 = .ok (.aload_n 0, 1) := by decide +kernel
theorem dL_law_424 : decode cL_law 424 = .ok (.iload_n 3, 1) := by decide +kernel
theorem dL_law_425 : decode cL_law 425 = .ok (.iconst 2, 1) := by decide +kernel
theorem dL_law_426 : decode cL_law 426 = .ok (.iadd, 1) := by decide +kernel
theorem dL_law_427 : decode cL_law 427 = .ok (.iaload, 1) := by decide +kernel
theorem dL_law_428 : decode cL_law 428 = .ok (.aload_n 0, 1) := by decide +kernel
theorem dL_law_429 : decode cL_law 429 = .ok (.iload_n 3, 1) := by decide +kernel
theorem dL_law_430 : decode cL_law 430 = .ok (.iconst 3, 1) := by decide +kernel
theorem dL_law_431 : decode cL_law 431 = .ok (.iadd, 1) := by decide +kernel
theorem dL_law_432 : decode cL_law 432 = .ok (.iaload, 1) := by decide +kernel
theorem dL_law_433 : decode cL_law 433 = .ok (.invokevirtual 43, 3) := by decide +kernel
theorem dL_law_436 : decode cL_law 436 = .ok (.if_icmp .eq 884, 3) := by decide +kernel
theorem dL_law_439 : decode cL_law 439 = .ok (.iconst 0, 1) := by decide +kernel
theorem dL_law_440 : decode cL_law 440 = .ok (.ireturn, 1) := by decide +kernel
theorem dL_law_441 : decode cL_law 441 = .ok (.aload_n 1, 1) := by decide +kernel
theorem dL_law_442 : decode cL_law 442 = .ok (.aload_n 0, 1) := by decide +kernel
theorem dL_law_443 : decode cL_law 443 = .ok (.iload_n 3, 1) := by decide +kernel
theorem dL_law_444 : decode cL_law 444 = .ok (.iconst 1, 1) := by decide +kernel
theorem dL_law_445 : decode cL_law 445 = .ok (.iadd, 1) := by decide +kernel
theorem dL_law_446 : decode cL_law 446 = .ok (.iaload, 1) := by decide +kernel
theorem dL_law_447 : decode cL_law 447 = .ok (.aload_n 0, 1) := by decide +kernel
theorem dL_law_448 : decode cL_law 448 = .ok (.iload_n 3, 1) := by decide +kernel
theorem dL_law_449 : decode cL_law 449 = .ok (.iconst 2, 1) := by decide +kernel
theorem dL_law_450 : decode cL_law 450 = .ok (.iadd, 1) := by decide +kernel
theorem dL_law_451 : decode cL_law 451 = .ok (.iaload, 1) := by decide +kernel
theorem dL_law_452 : decode cL_law 452 = .ok (.aload_n 0, 1) := by decide +kernel
theorem dL_law_453 : decode cL_law 453 = .ok (.iload_n 3, 1) := by decide +kernel
theorem dL_law_454 : decode cL_law 454 = .ok (.iconst 3, 1) := by decide +kernel
theorem dL_law_455 : decode cL_law 455 = .ok (.iadd, 1) := by decide +kernel
theorem dL_law_456 : decode cL_law 456 = .ok (.iaload, 1) := by decide +kernel
theorem dL_law_457 : decode cL_law 457 = .ok (.aload_n 0, 1) := by decide +kernel
theorem dL_law_458 : decode cL_law 458 = .ok (.iload_n 3, 1) := by decide +kernel
theorem dL_law_459 : decode cL_law 459 = .ok (.iconst 4, 1) := by decide +kernel
theorem dL_law_460 : decode cL_law 460 = .ok (.iadd, 1) := by decide +kernel
theorem dL_law_461 : decode cL_law 461 = .ok (.iaload, 1) := by decide +kernel
theorem dL_law_462 : decode cL_law 462 = .ok (.aload_n 0, 1) := by decide +kernel
theorem dL_law_463 : decode cL_law 463 = .ok (.iload_n 3, 1) := by decide +kernel
theorem dL_law_464 : decode cL_law 464 = .ok (.iconst 5, 1) := by decide +kernel
theorem dL_law_465 : decode cL_law 465 = .ok (.iadd, 1) := by decide +kernel
theorem dL_law_466 : decode cL_law 466 = .ok (.iaload, 1) := by decide +kernel
theorem dL_law_467 : decode cL_law 467 = .ok (.invokevirtual 44, 3) := by decide +kernel
theorem dL_law_470 : decode cL_law 470 = .ok (.aload_n 2, 1) := by decide +kernel
theorem dL_law_471 : decode cL_law 471 = .ok (.aload_n 0, 1) := by decide +kernel
theorem dL_law_472 : decode cL_law 472 = .ok (.iload_n 3, 1) := by decide +kernel
theorem dL_law_473 : decode cL_law 473 = .ok (.iconst 1, 1) := by decide +kernel
theorem dL_law_474 : decode cL_law 474 = .ok (.iadd, 1) := by decide +kernel
theorem dL_law_475 : decode cL_law 475 = .ok (.iaload, 1) := by decide +kernel
theorem dL_law_476 : decode cL_law 476 = .ok (.aload_n 0, 1) := by decide +kernel
theorem dL_law_477 : decode cL_law 477 = .ok (.iload_n 3, 1) := by decide +kernel
theorem dL_law_478 : decode cL_law 478 = .ok (.iconst 2, 1) := by decide +kernel
theorem dL_law_479 : decode cL_law 479 = .ok (.iadd, 1) := by decide +kernel
theorem dL_law_480 : decode cL_law 480 = .ok (.iaload, 1) := by decide +kernel
theorem dL_law_481 : decode cL_law 481 = .ok (.aload_n 0, 1) := by decide +kernel
theorem dL_law_482 : decode cL_law 482 = .ok (.iload_n 3, 1) := by decide +kernel
theorem dL_law_483 : decode cL_law 483 = .ok (.iconst 3, 1) := by decide +kernel
theorem dL_law_484 : decode cL_law 484 = .ok (.iadd, 1) := by decide +kernel
theorem dL_law_485 : decode cL_law 485 = .ok (.iaload, 1) := by decide +kernel
theorem dL_law_486 : decode cL_law 486 = .ok (.aload_n 0, 1) := by decide +kernel
theorem dL_law_487 : decode cL_law 487 = .ok (.iload_n 3, 1) := by decide +kernel
theorem dL_law_488 : decode cL_law 488 = .ok (.iconst 4, 1) := by decide +kernel
theorem dL_law_489 : decode cL_law 489 = .ok (.iadd, 1) := by decide +kernel
theorem dL_law_490 : decode cL_law 490 = .ok (.iaload, 1) := by decide +kernel
theorem dL_law_491 : decode cL_law 491 = .ok (.aload_n 0, 1) := by decide +kernel
theorem dL_law_492 : decode cL_law 492 = .ok (.iload_n 3, 1) := by decide +kernel
theorem dL_law_493 : decode cL_law 493 = .ok (.iconst 5, 1) := by decide +kernel
theorem dL_law_494 : decode cL_law 494 = .ok (.iadd, 1) := by decide +kernel
theorem dL_law_495 : decode cL_law 495 = .ok (.iaload, 1) := by decide +kernel
theorem dL_law_496 : decode cL_law 496 = .ok (.invokevirtual 48, 3) := by decide +kernel
theorem dL_law_499 : decode cL_law 499 = .ok (.if_icmp .eq 821, 3) := by decide +kernel
theorem dL_law_502 : decode cL_law 502 = .ok (.iconst 0, 1) := by decide +kernel
theorem dL_law_503 : decode cL_law 503 = .ok (.ireturn, 1) := by decide +kernel
theorem dL_law_504 : decode cL_law 504 = .ok (.aload_n 1, 1) := by decide +kernel
theorem dL_law_505 : decode cL_law 505 = .ok (.aload_n 0, 1) := by decide +kernel
theorem dL_law_506 : decode cL_law 506 = .ok (.iload_n 3, 1) := by decide +kernel
theorem dL_law_507 : decode cL_law 507 = .ok (.iconst 1, 1) := by decide +kernel
theorem dL_law_508 : decode cL_law 508 = .ok (.iadd, 1) := by decide +kernel
theorem dL_law_509 : decode cL_law 509 = .ok (.iaload, 1) := by decide +kernel
theorem dL_law_510 : decode cL_law 510 = .ok (.aload_n 0, 1) := by decide +kernel
theorem dL_law_511 : decode cL_law 511 = .ok (.iload_n 3, 1) := by decide +kernel
theorem dL_law_512 : decode cL_law 512 = .ok (.iconst 2, 1) := by decide +kernel
theorem dL_law_513 : decode cL_law 513 = .ok (.iadd, 1) := by decide +kernel
theorem dL_law_514 : decode cL_law 514 = .ok (.iaload, 1) := by decide +kernel
theorem dL_law_515 : decode cL_law 515 = .ok (.aload_n 0, 1) := by decide +kernel
theorem dL_law_516 : decode cL_law 516 = .ok (.iload_n 3, 1) := by decide +kernel
theorem dL_law_517 : decode cL_law 517 = .ok (.iconst 3, 1) := by decide +kernel
theorem dL_law_518 : decode cL_law 518 = .ok (.iadd, 1) := by decide +kernel
theorem dL_law_519 : decode cL_law 519 = .ok (.iaload, 1) := by decide +kernel
theorem dL_law_520 : decode cL_law 520 = .ok (.aload_n 0, 1) := by decide +kernel
theorem dL_law_521 : decode cL_law 521 = .ok (.iload_n 3, 1) := by decide +kernel
theorem dL_law_522 : decode cL_law 522 = .ok (.iconst 4, 1) := by decide +kernel
theorem dL_law_523 : decode cL_law 523 = .ok (.iadd, 1) := by decide +kernel
theorem dL_law_524 : decode cL_law 524 = .ok (.iaload, 1) := by decide +kernel
theorem dL_law_525 : decode cL_law 525 = .ok (.invokevirtual 49, 3) := by decide +kernel
theorem dL_law_528 : decode cL_law 528 = .ok (.aload_n 2, 1) := by decide +kernel
theorem dL_law_529 : decode cL_law 529 = .ok (.aload_n 0, 1) := by decide +kernel
theorem dL_law_530 : decode cL_law 530 = .ok (.iload_n 3, 1) := by decide +kernel
theorem dL_law_531 : decode cL_law 531 = .ok (.iconst 1, 1) := by decide +kernel
theorem dL_law_532 : decode cL_law 532 = .ok (.iadd, 1) := by decide +kernel
theorem dL_law_533 : decode cL_law 533 = .ok (.iaload, 1) := by decide +kernel
theorem dL_law_534 : decode cL_law 534 = .ok (.aload_n 0, 1) := by decide +kernel
theorem dL_law_535 : decode cL_law 535 = .ok (.iload_n 3, 1) := by decide +kernel
theorem dL_law_536 : decode cL_law 536 = .ok (.iconst 2, 1) := by decide +kernel
theorem dL_law_537 : decode cL_law 537 = .ok (.iadd, 1) := by decide +kernel
theorem dL_law_538 : decode cL_law 538 = .ok (.iaload, 1) := by decide +kernel
theorem dL_law_539 : decode cL_law 539 = .ok (.aload_n 0, 1) := by decide +kernel
theorem dL_law_540 : decode cL_law 540 = .ok (.iload_n 3, 1) := by decide +kernel
theorem dL_law_541 : decode cL_law 541 = .ok (.iconst 3, 1) := by decide +kernel
theorem dL_law_542 : decode cL_law 542 = .ok (.iadd, 1) := by decide +kernel
theorem dL_law_543 : decode cL_law 543 = .ok (.iaload, 1) := by decide +kernel
theorem dL_law_544 : decode cL_law 544 = .ok (.aload_n 0, 1) := by decide +kernel
theorem dL_law_545 : decode cL_law 545 = .ok (.iload_n 3, 1) := by decide +kernel
theorem dL_law_546 : decode cL_law 546 = .ok (.iconst 4, 1) := by decide +kernel
theorem dL_law_547 : decode cL_law 547 = .ok (.iadd, 1) := by decide +kernel
theorem dL_law_548 : decode cL_law 548 = .ok (.iaload, 1) := by decide +kernel
theorem dL_law_549 : decode cL_law 549 = .ok (.invokevirtual 53, 3) := by decide +kernel
theorem dL_law_552 : decode cL_law 552 = .ok (.if_icmp .eq 768, 3) := by decide +kernel
theorem dL_law_555 : decode cL_law 555 = .ok (.iconst 0, 1) := by decide +kernel
theorem dL_law_556 : decode cL_law 556 = .ok (.ireturn, 1) := by decide +kernel
theorem dL_law_557 : decode cL_law 557 = .ok (.aload_n 1, 1) := by decide +kernel
theorem dL_law_558 : decode cL_law 558 = .ok (.aload_n 0, 1) := by decide +kernel
theorem dL_law_559 : decode cL_law 559 = .ok (.iload_n 3, 1) := by decide +kernel
theorem dL_law_560 : decode cL_law 560 = .ok (.iconst 1, 1) := by decide +kernel
theorem dL_law_561 : decode cL_law 561 = .ok (.iadd, 1) := by decide +kernel
theorem dL_law_562 : decode cL_law 562 = .ok (.iaload, 1) := by decide +kernel
theorem dL_law_563 : decode cL_law 563 = .ok (.aload_n 0, 1) := by decide +kernel
theorem dL_law_564 : decode cL_law 564 = .ok (.iload_n 3, 1) := by decide +kernel
theorem dL_law_565 : decode cL_law 565 = .ok (.iconst 2, 1) := by decide +kernel
theorem dL_law_566 : decode cL_law 566 = .ok (.iadd, 1) := by decide +kernel
theorem dL_law_567 : decode cL_law 567 = .ok (.iaload, 1) := by decide +kernel
theorem dL_law_568 : decode cL_law 568 = .ok (.aload_n 0, 1) := by decide +kernel
theorem dL_law_569 : decode cL_law 569 = .ok (.iload_n 3, 1) := by decide +kernel
theorem dL_law_570 : decode cL_law 570 = .ok (.iconst 3, 1) := by decide +kernel
theorem dL_law_571 : decode cL_law 571 = .ok (.iadd, 1) := by decide +kernel
theorem dL_law_572 : decode cL_law 572 = .ok (.iaload, 1) := by decide +kernel
theorem dL_law_573 : decode cL_law 573 = .ok (.aload_n 0, 1) := by decide +kernel
theorem dL_law_574 : decode cL_law 574 = .ok (.iload_n 3, 1) := by decide +kernel
theorem dL_law_575 : decode cL_law 575 = .ok (.iconst 4, 1) := by decide +kernel
theorem dL_law_576 : decode cL_law 576 = .ok (.iadd, 1) := by decide +kernel
theorem dL_law_577 : decode cL_law 577 = .ok (.iaload, 1) := by decide +kernel
theorem dL_law_578 : decode cL_law 578 = .ok (.invokevirtual 54, 3) := by decide +kernel
theorem dL_law_581 : decode cL_law 581 = .ok (.aload_n 2, 1) := by decide +kernel
theorem dL_law_582 : decode cL_law 582 = .ok (.aload_n 0, 1) := by decide +kernel
theorem dL_law_583 : decode cL_law 583 = .ok (.iload_n 3, 1) := by decide +kernel
theorem dL_law_584 : decode cL_law 584 = .ok (.iconst 1, 1) := by decide +kernel
theorem dL_law_585 : decode cL_law 585 = .ok (.iadd, 1) := by decide +kernel
theorem dL_law_586 : decode cL_law 586 = .ok (.iaload, 1) := by decide +kernel
theorem dL_law_587 : decode cL_law 587 = .ok (.aload_n 0, 1) := by decide +kernel
theorem dL_law_588 : decode cL_law 588 = .ok (.iload_n 3, 1) := by decide +kernel
theorem dL_law_589 : decode cL_law 589 = .ok (.iconst 2, 1) := by decide +kernel
theorem dL_law_590 : decode cL_law 590 = .ok (.iadd, 1) := by decide +kernel
theorem dL_law_591 : decode cL_law 591 = .ok (.iaload, 1) := by decide +kernel
theorem dL_law_592 : decode cL_law 592 = .ok (.aload_n 0, 1) := by decide +kernel
theorem dL_law_593 : decode cL_law 593 = .ok (.iload_n 3, 1) := by decide +kernel
theorem dL_law_594 : decode cL_law 594 = .ok (.iconst 3, 1) := by decide +kernel
theorem dL_law_595 : decode cL_law 595 = .ok (.iadd, 1) := by decide +kernel
theorem dL_law_596 : decode cL_law 596 = .ok (.iaload, 1) := by decide +kernel
theorem dL_law_597 : decode cL_law 597 = .ok (.aload_n 0, 1) := by decide +kernel
theorem dL_law_598 : decode cL_law 598 = .ok (.iload_n 3, 1) := by decide +kernel
theorem dL_law_599 : decode cL_law 599 = .ok (.iconst 4, 1) := by decide +kernel
theorem dL_law_600 : decode cL_law 600 = .ok (.iadd, 1) := by decide +kernel
theorem dL_law_601 : decode cL_law 601 = .ok (.iaload, 1) := by decide +kernel
theorem dL_law_602 : decode cL_law 602 = .ok (.invokevirtual 57, 3) := by decide +kernel
theorem dL_law_605 : decode cL_law 605 = .ok (.if_icmp .eq 715, 3) := by decide +kernel
theorem dL_law_608 : decode cL_law 608 = .ok (.iconst 0, 1) := by decide +kernel
theorem dL_law_609 : decode cL_law 609 = .ok (.ireturn, 1) := by decide +kernel
theorem dL_law_610 : decode cL_law 610 = .ok (.aload_n 1, 1) := by decide +kernel
theorem dL_law_611 : decode cL_law 611 = .ok (.invokevirtual 58, 3) := by decide +kernel
theorem dL_law_614 : decode cL_law 614 = .ok (.aload_n 2, 1) := by decide +kernel
theorem dL_law_615 : decode cL_law 615 = .ok (.invokevirtual 62, 3) := by decide +kernel
theorem dL_law_618 : decode cL_law 618 = .ok (.if_icmp .eq 702, 3) := by decide +kernel
theorem dL_law_621 : decode cL_law 621 = .ok (.iconst 0, 1) := by decide +kernel
theorem dL_law_622 : decode cL_law 622 = .ok (.ireturn, 1) := by decide +kernel
theorem dL_law_623 : decode cL_law 623 = .ok (.aload_n 1, 1) := by decide +kernel
theorem dL_law_624 : decode cL_law 624 = .ok (.aload_n 0, 1) := by decide +kernel
theorem dL_law_625 : decode cL_law 625 = .ok (.iload_n 3, 1) := by decide +kernel
theorem dL_law_626 : decode cL_law 626 = .ok (.iconst 1, 1) := by decide +kernel
theorem dL_law_627 : decode cL_law 627 = .ok (.iadd, 1) := by decide +kernel
theorem dL_law_628 : decode cL_law 628 = .ok (.iaload, 1) := by decide +kernel
theorem dL_law_629 : decode cL_law 629 = .ok (.aload_n 0, 1) := by decide +kernel
theorem dL_law_630 : decode cL_law 630 = .ok (.iload_n 3, 1) := by decide +kernel
theorem dL_law_631 : decode cL_law 631 = .ok (.iconst 2, 1) := by decide +kernel
theorem dL_law_632 : decode cL_law 632 = .ok (.iadd, 1) := by decide +kernel
theorem dL_law_633 : decode cL_law 633 = .ok (.iaload, 1) := by decide +kernel
theorem dL_law_634 : decode cL_law 634 = .ok (.invokevirtual 63, 3) := by decide +kernel
theorem dL_law_637 : decode cL_law 637 = .ok (.aload_n 2, 1) := by decide +kernel
theorem dL_law_638 : decode cL_law 638 = .ok (.aload_n 0, 1) := by decide +kernel
theorem dL_law_639 : decode cL_law 639 = .ok (.iload_n 3, 1) := by decide +kernel
theorem dL_law_640 : decode cL_law 640 = .ok (.iconst 1, 1) := by decide +kernel
theorem dL_law_641 : decode cL_law 641 = .ok (.iadd, 1) := by decide +kernel
theorem dL_law_642 : decode cL_law 642 = .ok (.iaload, 1) := by decide +kernel
theorem dL_law_643 : decode cL_law 643 = .ok (.aload_n 0, 1) := by decide +kernel
theorem dL_law_644 : decode cL_law 644 = .ok (.iload_n 3, 1) := by decide +kernel
theorem dL_law_645 : decode cL_law 645 = .ok (.iconst 2, 1) := by decide +kernel
theorem dL_law_646 : decode cL_law 646 = .ok (.iadd, 1) := by decide +kernel
theorem dL_law_647 : decode cL_law 647 = .ok (.iaload, 1) := by decide +kernel
theorem dL_law_648 : decode cL_law 648 = .ok (.invokevirtual 66, 3) := by decide +kernel
theorem dL_law_651 : decode cL_law 651 = .ok (.if_icmp .eq 669, 3) := by decide +kernel
theorem dL_law_654 : decode cL_law 654 = .ok (.iconst 0, 1) := by decide +kernel
theorem dL_law_655 : decode cL_law 655 = .ok (.ireturn, 1) := by decide +kernel
theorem dL_law_656 : decode cL_law 656 = .ok (.aload_n 1, 1) := by decide +kernel
theorem dL_law_657 : decode cL_law 657 = .ok (.invokevirtual 67, 3) := by decide +kernel
theorem dL_law_660 : decode cL_law 660 = .ok (.aload_n 2, 1) := by decide +kernel
theorem dL_law_661 : decode cL_law 661 = .ok (.invokevirtual 70, 3) := by decide +kernel
theorem dL_law_664 : decode cL_law 664 = .ok (.if_icmp .eq 656, 3) := by decide +kernel
theorem dL_law_667 : decode cL_law 667 = .ok (.iconst 0, 1) := by decide +kernel
theorem dL_law_668 : decode cL_law 668 = .ok (.ireturn, 1) := by decide +kernel
theorem dL_law_669 : decode cL_law 669 = .ok (.aload_n 1, 1) := by decide +kernel
theorem dL_law_670 : decode cL_law 670 = .ok (.aload_n 0, 1) := by decide +kernel
theorem dL_law_671 : decode cL_law 671 = .ok (.iload_n 3, 1) := by decide +kernel
theorem dL_law_672 : decode cL_law 672 = .ok (.iconst 1, 1) := by decide +kernel
theorem dL_law_673 : decode cL_law 673 = .ok (.iadd, 1) := by decide +kernel
theorem dL_law_674 : decode cL_law 674 = .ok (.iaload, 1) := by decide +kernel
theorem dL_law_675 : decode cL_law 675 = .ok (.aload_n 0, 1) := by decide +kernel
theorem dL_law_676 : decode cL_law 676 = .ok (.iload_n 3, 1) := by decide +kernel
theorem dL_law_677 : decode cL_law 677 = .ok (.iconst 2, 1) := by decide +kernel
theorem dL_law_678 : decode cL_law 678 = .ok (.iadd, 1) := by decide +kernel
theorem dL_law_679 : decode cL_law 679 = .ok (.iaload, 1) := by decide +kernel
theorem dL_law_680 : decode cL_law 680 = .ok (.invokevirtual 71, 3) := by decide +kernel
theorem dL_law_683 : decode cL_law 683 = .ok (.aload_n 2, 1) := by decide +kernel
theorem dL_law_684 : decode cL_law 684 = .ok (.aload_n 0, 1) := by decide +kernel
theorem dL_law_685 : decode cL_law 685 = .ok (.iload_n 3, 1) := by decide +kernel
theorem dL_law_686 : decode cL_law 686 = .ok (.iconst 1, 1) := by decide +kernel
theorem dL_law_687 : decode cL_law 687 = .ok (.iadd, 1) := by decide +kernel
theorem dL_law_688 : decode cL_law 688 = .ok (.iaload, 1) := by decide +kernel
theorem dL_law_689 : decode cL_law 689 = .ok (.aload_n 0, 1) := by decide +kernel
theorem dL_law_690 : decode cL_law 690 = .ok (.iload_n 3, 1) := by decide +kernel
theorem dL_law_691 : decode cL_law 691 = .ok (.iconst 2, 1) := by decide +kernel
theorem dL_law_692 : decode cL_law 692 = .ok (.iadd, 1) := by decide +kernel
theorem dL_law_693 : decode cL_law 693 = .ok (.iaload, 1) := by decide +kernel
theorem dL_law_694 : decode cL_law 694 = .ok (.invokevirtual 74, 3) := by decide +kernel
theorem dL_law_697 : decode cL_law 697 = .ok (.if_icmp .eq 623, 3) := by decide +kernel
theorem dL_law_700 : decode cL_law 700 = .ok (.iconst 0, 1) := by decide +kernel
theorem dL_law_701 : decode cL_law 701 = .ok (.ireturn, 1) := by decide +kernel
theorem dL_law_702 : decode cL_law 702 = .ok (.aload_n 1, 1) := by decide +kernel
theorem dL_law_703 : decode cL_law 703 = .ok (.aload_n 0, 1) := by decide +kernel
theorem dL_law_704 : decode cL_law 704 = .ok (.iload_n 3, 1) := by decide +kernel
theorem dL_law_705 : decode cL_law 705 = .ok (.iconst 1, 1) := by decide +kernel
theorem dL_law_706 : decode cL_law 706 = .ok (.iadd, 1) := by decide +kernel
theorem dL_law_707 : decode cL_law 707 = .ok (.iaload, 1) := by decide +kernel
theorem dL_law_708 : decode cL_law 708 = .ok (.aload_n 0, 1) := by decide +kernel
theorem dL_law_709 : decode cL_law 709 = .ok (.iload_n 3, 1) := by decide +kernel
theorem dL_law_710 : decode cL_law 710 = .ok (.iconst 2, 1) := by decide +kernel
theorem dL_law_711 : decode cL_law 711 = .ok (.iadd, 1) := by decide +kernel
theorem dL_law_712 : decode cL_law 712 = .ok (.iaload, 1) := by decide +kernel
theorem dL_law_713 : decode cL_law 713 = .ok (.invokevirtual 75, 3) := by decide +kernel
theorem dL_law_716 : decode cL_law 716 = .ok (.aload_n 2, 1) := by decide +kernel
theorem dL_law_717 : decode cL_law 717 = .ok (.aload_n 0, 1) := by decide +kernel
theorem dL_law_718 : decode cL_law 718 = .ok (.iload_n 3, 1) := by decide +kernel
theorem dL_law_719 : decode cL_law 719 = .ok (.iconst 1, 1) := by decide +kernel
theorem dL_law_720 : decode cL_law 720 = .ok (.iadd, 1) := by decide +kernel
theorem dL_law_721 : decode cL_law 721 = .ok (.iaload, 1) := by decide +kernel
theorem dL_law_722 : decode cL_law 722 = .ok (.aload_n 0, 1) := by decide +kernel
theorem dL_law_723 : decode cL_law 723 = .ok (.iload_n 3, 1) := by decide +kernel
theorem dL_law_724 : decode cL_law 724 = .ok (.iconst 2, 1) := by decide +kernel
theorem dL_law_725 : decode cL_law 725 = .ok (.iadd, 1) := by decide +kernel
theorem dL_law_726 : decode cL_law 726 = .ok (.iaload, 1) := by decide +kernel
theorem dL_law_727 : decode cL_law 727 = .ok (.invokevirtual 78, 3) := by decide +kernel
theorem dL_law_730 : decode cL_law 730 = .ok (.if_icmp .eq 590, 3) := by decide +kernel
theorem dL_law_733 : decode cL_law 733 = .ok (.iconst 0, 1) := by decide +kernel
theorem dL_law_734 : decode cL_law 734 = .ok (.ireturn, 1) := by decide +kernel
theorem dL_law_735 : decode cL_law 735 = .ok (.aload_n 1, 1) := by decide +kernel
theorem dL_law_736 : decode cL_law 736 = .ok (.aload_n 0, 1) := by decide +kernel
theorem dL_law_737 : decode cL_law 737 = .ok (.iload_n 3, 1) := by decide +kernel
theorem dL_law_738 : decode cL_law 738 = .ok (.iconst 1, 1) := by decide +kernel
theorem dL_law_739 : decode cL_law 739 = .ok (.iadd, 1) := by decide +kernel
theorem dL_law_740 : decode cL_law 740 = .ok (.iaload, 1) := by decide +kernel
theorem dL_law_741 : decode cL_law 741 = .ok (.aload_n 0, 1) := by decide +kernel
theorem dL_law_742 : decode cL_law 742 = .ok (.iload_n 3, 1) := by decide +kernel
theorem dL_law_743 : decode cL_law 743 = .ok (.iconst 2, 1) := by decide +kernel
theorem dL_law_744 : decode cL_law 744 = .ok (.iadd, 1) := by decide +kernel
theorem dL_law_745 : decode cL_law 745 = .ok (.iaload, 1) := by decide +kernel
theorem dL_law_746 : decode cL_law 746 = .ok (.aload_n 0, 1) := by decide +kernel
theorem dL_law_747 : decode cL_law 747 = .ok (.iload_n 3, 1) := by decide +kernel
theorem dL_law_748 : decode cL_law 748 = .ok (.iconst 3, 1) := by decide +kernel
theorem dL_law_749 : decode cL_law 749 = .ok (.iadd, 1) := by decide +kernel
theorem dL_law_750 : decode cL_law 750 = .ok (.iaload, 1) := by decide +kernel
theorem dL_law_751 : decode cL_law 751 = .ok (.aload_n 0, 1) := by decide +kernel
theorem dL_law_752 : decode cL_law 752 = .ok (.iload_n 3, 1) := by decide +kernel
theorem dL_law_753 : decode cL_law 753 = .ok (.iconst 4, 1) := by decide +kernel
theorem dL_law_754 : decode cL_law 754 = .ok (.iadd, 1) := by decide +kernel
theorem dL_law_755 : decode cL_law 755 = .ok (.iaload, 1) := by decide +kernel
theorem dL_law_756 : decode cL_law 756 = .ok (.invokevirtual 79, 3) := by decide +kernel
theorem dL_law_759 : decode cL_law 759 = .ok (.aload_n 2, 1) := by decide +kernel
theorem dL_law_760 : decode cL_law 760 = .ok (.aload_n 0, 1) := by decide +kernel
theorem dL_law_761 : decode cL_law 761 = .ok (.iload_n 3, 1) := by decide +kernel
theorem dL_law_762 : decode cL_law 762 = .ok (.iconst 1, 1) := by decide +kernel
theorem dL_law_763 : decode cL_law 763 = .ok (.iadd, 1) := by decide +kernel
theorem dL_law_764 : decode cL_law 764 = .ok (.iaload, 1) := by decide +kernel
theorem dL_law_765 : decode cL_law 765 = .ok (.aload_n 0, 1) := by decide +kernel
theorem dL_law_766 : decode cL_law 766 = .ok (.iload_n 3, 1) := by decide +kernel
theorem dL_law_767 : decode cL_law 767 = .ok (.iconst 2, 1) := by decide +kernel
theorem dL_law_768 : decode cL_law 768 = .ok (.iadd, 1) := by decide +kernel
theorem dL_law_769 : decode cL_law 769 = .ok (.iaload, 1) := by decide +kernel
theorem dL_law_770 : decode cL_law 770 = .ok (.aload_n 0, 1) := by decide +kernel
theorem dL_law_771 : decode cL_law 771 = .ok (.iload_n 3, 1) := by decide +kernel
theorem dL_law_772 : decode cL_law 772 = .ok (.iconst 3, 1) := by decide +kernel
theorem dL_law_773 : decode cL_law 773 = .ok (.iadd, 1) := by decide +kernel
theorem dL_law_774 : decode cL_law 774 = .ok (.iaload, 1) := by decide +kernel
theorem dL_law_775 : decode cL_law 775 = .ok (.aload_n 0, 1) := by decide +kernel
theorem dL_law_776 : decode cL_law 776 = .ok (.iload_n 3, 1) := by decide +kernel
theorem dL_law_777 : decode cL_law 777 = .ok (.iconst 4, 1) := by decide +kernel
theorem dL_law_778 : decode cL_law 778 = .ok (.iadd, 1) := by decide +kernel
theorem dL_law_779 : decode cL_law 779 = .ok (.iaload, 1) := by decide +kernel
theorem dL_law_780 : decode cL_law 780 = .ok (.invokevirtual 82, 3) := by decide +kernel
theorem dL_law_783 : decode cL_law 783 = .ok (.if_icmp .eq 537, 3) := by decide +kernel
theorem dL_law_786 : decode cL_law 786 = .ok (.iconst 0, 1) := by decide +kernel
theorem dL_law_787 : decode cL_law 787 = .ok (.ireturn, 1) := by decide +kernel
theorem dL_law_788 : decode cL_law 788 = .ok (.aload_n 1, 1) := by decide +kernel
theorem dL_law_789 : decode cL_law 789 = .ok (.aload_n 0, 1) := by decide +kernel
theorem dL_law_790 : decode cL_law 790 = .ok (.iload_n 3, 1) := by decide +kernel
theorem dL_law_791 : decode cL_law 791 = .ok (.iconst 1, 1) := by decide +kernel
theorem dL_law_792 : decode cL_law 792 = .ok (.iadd, 1) := by decide +kernel
theorem dL_law_793 : decode cL_law 793 = .ok (.iaload, 1) := by decide +kernel
theorem dL_law_794 : decode cL_law 794 = .ok (.aload_n 0, 1) := by decide +kernel
theorem dL_law_795 : decode cL_law 795 = .ok (.iload_n 3, 1) := by decide +kernel
theorem dL_law_796 : decode cL_law 796 = .ok (.iconst 2, 1) := by decide +kernel
theorem dL_law_797 : decode cL_law 797 = .ok (.iadd, 1) := by decide +kernel
theorem dL_law_798 : decode cL_law 798 = .ok (.iaload, 1) := by decide +kernel
theorem dL_law_799 : decode cL_law 799 = .ok (.aload_n 0, 1) := by decide +kernel
theorem dL_law_800 : decode cL_law 800 = .ok (.iload_n 3, 1) := by decide +kernel
theorem dL_law_801 : decode cL_law 801 = .ok (.iconst 3, 1) := by decide +kernel
theorem dL_law_802 : decode cL_law 802 = .ok (.iadd, 1) := by decide +kernel
theorem dL_law_803 : decode cL_law 803 = .ok (.iaload, 1) := by decide +kernel
theorem dL_law_804 : decode cL_law 804 = .ok (.invokevirtual 83, 3) := by decide +kernel
theorem dL_law_807 : decode cL_law 807 = .ok (.aload_n 2, 1) := by decide +kernel
theorem dL_law_808 : decode cL_law 808 = .ok (.aload_n 0, 1) := by decide +kernel
theorem dL_law_809 : decode cL_law 809 = .ok (.iload_n 3, 1) := by decide +kernel
theorem dL_law_810 : decode cL_law 810 = .ok (.iconst 1, 1) := by decide +kernel
theorem dL_law_811 : decode cL_law 811 = .ok (.iadd, 1) := by decide +kernel
theorem dL_law_812 : decode cL_law 812 = .ok (.iaload, 1) := by decide +kernel
theorem dL_law_813 : decode cL_law 813 = .ok (.aload_n 0, 1) := by decide +kernel
theorem dL_law_814 : decode cL_law 814 = .ok (.iload_n 3, 1) := by decide +kernel
theorem dL_law_815 : decode cL_law 815 = .ok (.iconst 2, 1) := by decide +kernel
theorem dL_law_816 : decode cL_law 816 = .ok (.iadd, 1) := by decide +kernel
theorem dL_law_817 : decode cL_law 817 = .ok (.iaload, 1) := by decide +kernel
theorem dL_law_818 : decode cL_law 818 = .ok (.aload_n 0, 1) := by decide +kernel
theorem dL_law_819 : decode cL_law 819 = .ok (.iload_n 3, 1) := by decide +kernel
theorem dL_law_820 : decode cL_law 820 = .ok (.iconst 3, 1) := by decide +kernel
theorem dL_law_821 : decode cL_law 821 = .ok (.iadd, 1) := by decide +kernel
theorem dL_law_822 : decode cL_law 822 = .ok (.iaload, 1) := by decide +kernel
theorem dL_law_823 : decode cL_law 823 = .ok (.invokevirtual 87, 3) := by decide +kernel
theorem dL_law_826 : decode cL_law 826 = .ok (.lcmp, 1) := by decide +kernel
theorem dL_law_827 : decode cL_law 827 = .ok (.ifCond .eq 493, 3) := by decide +kernel
theorem dL_law_830 : decode cL_law 830 = .ok (.iconst 0, 1) := by decide +kernel
theorem dL_law_831 : decode cL_law 831 = .ok (.ireturn, 1) := by decide +kernel
theorem dL_law_832 : decode cL_law 832 = .ok (.aload_n 1, 1) := by decide +kernel
theorem dL_law_833 : decode cL_law 833 = .ok (.aload_n 0, 1) := by decide +kernel
theorem dL_law_834 : decode cL_law 834 = .ok (.iload_n 3, 1) := by decide +kernel
theorem dL_law_835 : decode cL_law 835 = .ok (.iconst 1, 1) := by decide +kernel
theorem dL_law_836 : decode cL_law 836 = .ok (.iadd, 1) := by decide +kernel
theorem dL_law_837 : decode cL_law 837 = .ok (.iaload, 1) := by decide +kernel
theorem dL_law_838 : decode cL_law 838 = .ok (.aload_n 0, 1) := by decide +kernel
theorem dL_law_839 : decode cL_law 839 = .ok (.iload_n 3, 1) := by decide +kernel
theorem dL_law_840 : decode cL_law 840 = .ok (.iconst 2, 1) := by decide +kernel
theorem dL_law_841 : decode cL_law 841 = .ok (.iadd, 1) := by decide +kernel
theorem dL_law_842 : decode cL_law 842 = .ok (.iaload, 1) := by decide +kernel
theorem dL_law_843 : decode cL_law 843 = .ok (.invokevirtual 88, 3) := by decide +kernel
theorem dL_law_846 : decode cL_law 846 = .ok (.aload_n 2, 1) := by decide +kernel
theorem dL_law_847 : decode cL_law 847 = .ok (.aload_n 0, 1) := by decide +kernel
theorem dL_law_848 : decode cL_law 848 = .ok (.iload_n 3, 1) := by decide +kernel
theorem dL_law_849 : decode cL_law 849 = .ok (.iconst 1, 1) := by decide +kernel
theorem dL_law_850 : decode cL_law 850 = .ok (.iadd, 1) := by decide +kernel
theorem dL_law_851 : decode cL_law 851 = .ok (.iaload, 1) := by decide +kernel
theorem dL_law_852 : decode cL_law 852 = .ok (.aload_n 0, 1) := by decide +kernel
theorem dL_law_853 : decode cL_law 853 = .ok (.iload_n 3, 1) := by decide +kernel
theorem dL_law_854 : decode cL_law 854 = .ok (.iconst 2, 1) := by decide +kernel
theorem dL_law_855 : decode cL_law 855 = .ok (.iadd, 1) := by decide +kernel
theorem dL_law_856 : decode cL_law 856 = .ok (.iaload, 1) := by decide +kernel
theorem dL_law_857 : decode cL_law 857 = .ok (.invokevirtual 91, 3) := by decide +kernel
theorem dL_law_860 : decode cL_law 860 = .ok (.if_icmp .eq 460, 3) := by decide +kernel
theorem dL_law_863 : decode cL_law 863 = .ok (.iconst 0, 1) := by decide +kernel
theorem dL_law_864 : decode cL_law 864 = .ok (.ireturn, 1) := by decide +kernel
theorem dL_law_865 : decode cL_law 865 = .ok (.aload_n 1, 1) := by decide +kernel
theorem dL_law_866 : decode cL_law 866 = .ok (.aload_n 0, 1) := by decide +kernel
theorem dL_law_867 : decode cL_law 867 = .ok (.iload_n 3, 1) := by decide +kernel
theorem dL_law_868 : decode cL_law 868 = .ok (.iconst 1, 1) := by decide +kernel
theorem dL_law_869 : decode cL_law 869 = .ok (.iadd, 1) := by decide +kernel
theorem dL_law_870 : decode cL_law 870 = .ok (.iaload, 1) := by decide +kernel
theorem dL_law_871 : decode cL_law 871 = .ok (.invokevirtual 92, 3) := by decide +kernel
theorem dL_law_874 : decode cL_law 874 = .ok (.aload_n 2, 1) := by decide +kernel
theorem dL_law_875 : decode cL_law 875 = .ok (.aload_n 0, 1) := by decide +kernel
theorem dL_law_876 : decode cL_law 876 = .ok (.iload_n 3, 1) := by decide +kernel
theorem dL_law_877 : decode cL_law 877 = .ok (.iconst 1, 1) := by decide +kernel
theorem dL_law_878 : decode cL_law 878 = .ok (.iadd, 1) := by decide +kernel
theorem dL_law_879 : decode cL_law 879 = .ok (.iaload, 1) := by decide +kernel
theorem dL_law_880 : decode cL_law 880 = .ok (.invokevirtual 95, 3) := by decide +kernel
theorem dL_law_883 : decode cL_law 883 = .ok (.if_icmp .eq 437, 3) := by decide +kernel
theorem dL_law_886 : decode cL_law 886 = .ok (.iconst 0, 1) := by decide +kernel
theorem dL_law_887 : decode cL_law 887 = .ok (.ireturn, 1) := by decide +kernel
theorem dL_law_888 : decode cL_law 888 = .ok (.aload_n 1, 1) := by decide +kernel
theorem dL_law_889 : decode cL_law 889 = .ok (.aload_n 0, 1) := by decide +kernel
theorem dL_law_890 : decode cL_law 890 = .ok (.iload_n 3, 1) := by decide +kernel
theorem dL_law_891 : decode cL_law 891 = .ok (.iconst 1, 1) := by decide +kernel
theorem dL_law_892 : decode cL_law 892 = .ok (.iadd, 1) := by decide +kernel
theorem dL_law_893 : decode cL_law 893 = .ok (.iaload, 1) := by decide +kernel
theorem dL_law_894 : decode cL_law 894 = .ok (.aload_n 0, 1) := by decide +kernel
theorem dL_law_895 : decode cL_law 895 = .ok (.iload_n 3, 1) := by decide +kernel
theorem dL_law_896 : decode cL_law 896 = .ok (.iconst 2, 1) := by decide +kernel
theorem dL_law_897 : decode cL_law 897 = .ok (.iadd, 1) := by decide +kernel
theorem dL_law_898 : decode cL_law 898 = .ok (.iaload, 1) := by decide +kernel
theorem dL_law_899 : decode cL_law 899 = .ok (.invokevirtual 96, 3) := by decide +kernel
theorem dL_law_902 : decode cL_law 902 = .ok (.aload_n 2, 1) := by decide +kernel
theorem dL_law_903 : decode cL_law 903 = .ok (.aload_n 0, 1) := by decide +kernel
theorem dL_law_904 : decode cL_law 904 = .ok (.iload_n 3, 1) := by decide +kernel
theorem dL_law_905 : decode cL_law 905 = .ok (.iconst 1, 1) := by decide +kernel
theorem dL_law_906 : decode cL_law 906 = .ok (.iadd, 1) := by decide +kernel
theorem dL_law_907 : decode cL_law 907 = .ok (.iaload, 1) := by decide +kernel
theorem dL_law_908 : decode cL_law 908 = .ok (.aload_n 0, 1) := by decide +kernel
theorem dL_law_909 : decode cL_law 909 = .ok (.iload_n 3, 1) := by decide +kernel
theorem dL_law_910 : decode cL_law 910 = .ok (.iconst 2, 1) := by decide +kernel
theorem dL_law_911 : decode cL_law 911 = .ok (.iadd, 1) := by decide +kernel
theorem dL_law_912 : decode cL_law 912 = .ok (.iaload, 1) := by decide +kernel
theorem dL_law_913 : decode cL_law 913 = .ok (.invokevirtual 99, 3) := by decide +kernel
theorem dL_law_916 : decode cL_law 916 = .ok (.if_icmp .eq 404, 3) := by decide +kernel
theorem dL_law_919 : decode cL_law 919 = .ok (.iconst 0, 1) := by decide +kernel
theorem dL_law_920 : decode cL_law 920 = .ok (.ireturn, 1) := by decide +kernel
theorem dL_law_921 : decode cL_law 921 = .ok (.aload_n 1, 1) := by decide +kernel
theorem dL_law_922 : decode cL_law 922 = .ok (.invokevirtual 100, 3) := by decide +kernel
theorem dL_law_925 : decode cL_law 925 = .ok (.aload_n 2, 1) := by decide +kernel
theorem dL_law_926 : decode cL_law 926 = .ok (.invokevirtual 103, 3) := by decide +kernel
theorem dL_law_929 : decode cL_law 929 = .ok (.if_icmp .eq 391, 3) := by decide +kernel
theorem dL_law_932 : decode cL_law 932 = .ok (.iconst 0, 1) := by decide +kernel
theorem dL_law_933 : decode cL_law 933 = .ok (.ireturn, 1) := by decide +kernel
theorem dL_law_934 : decode cL_law 934 = .ok (.aload_n 1, 1) := by decide +kernel
theorem dL_law_935 : decode cL_law 935 = .ok (.aload_n 0, 1) := by decide +kernel
theorem dL_law_936 : decode cL_law 936 = .ok (.iload_n 3, 1) := by decide +kernel
theorem dL_law_937 : decode cL_law 937 = .ok (.iconst 1, 1) := by decide +kernel
theorem dL_law_938 : decode cL_law 938 = .ok (.iadd, 1) := by decide +kernel
theorem dL_law_939 : decode cL_law 939 = .ok (.iaload, 1) := by decide +kernel
theorem dL_law_940 : decode cL_law 940 = .ok (.invokevirtual 104, 3) := by decide +kernel
theorem dL_law_943 : decode cL_law 943 = .ok (.aload_n 2, 1) := by decide +kernel
theorem dL_law_944 : decode cL_law 944 = .ok (.aload_n 0, 1) := by decide +kernel
theorem dL_law_945 : decode cL_law 945 = .ok (.iload_n 3, 1) := by decide +kernel
theorem dL_law_946 : decode cL_law 946 = .ok (.iconst 1, 1) := by decide +kernel
theorem dL_law_947 : decode cL_law 947 = .ok (.iadd, 1) := by decide +kernel
theorem dL_law_948 : decode cL_law 948 = .ok (.iaload, 1) := by decide +kernel
theorem dL_law_949 : decode cL_law 949 = .ok (.invokevirtual 107, 3) := by decide +kernel
theorem dL_law_952 : decode cL_law 952 = .ok (.if_icmp .eq 368, 3) := by decide +kernel
theorem dL_law_955 : decode cL_law 955 = .ok (.iconst 0, 1) := by decide +kernel
theorem dL_law_956 : decode cL_law 956 = .ok (.ireturn, 1) := by decide +kernel
theorem dL_law_957 : decode cL_law 957 = .ok (.aload_n 1, 1) := by decide +kernel
theorem dL_law_958 : decode cL_law 958 = .ok (.aload_n 0, 1) := by decide +kernel
theorem dL_law_959 : decode cL_law 959 = .ok (.iload_n 3, 1) := by decide +kernel
theorem dL_law_960 : decode cL_law 960 = .ok (.iconst 1, 1) := by decide +kernel
theorem dL_law_961 : decode cL_law 961 = .ok (.iadd, 1) := by decide +kernel
theorem dL_law_962 : decode cL_law 962 = .ok (.iaload, 1) := by decide +kernel
theorem dL_law_963 : decode cL_law 963 = .ok (.invokevirtual 108, 3) := by decide +kernel
theorem dL_law_966 : decode cL_law 966 = .ok (.aload_n 2, 1) := by decide +kernel
theorem dL_law_967 : decode cL_law 967 = .ok (.aload_n 0, 1) := by decide +kernel
theorem dL_law_968 : decode cL_law 968 = .ok (.iload_n 3, 1) := by decide +kernel
theorem dL_law_969 : decode cL_law 969 = .ok (.iconst 1, 1) := by decide +kernel
theorem dL_law_970 : decode cL_law 970 = .ok (.iadd, 1) := by decide +kernel
theorem dL_law_971 : decode cL_law 971 = .ok (.iaload, 1) := by decide +kernel
theorem dL_law_972 : decode cL_law 972 = .ok (.invokevirtual 111, 3) := by decide +kernel
theorem dL_law_975 : decode cL_law 975 = .ok (.if_icmp .eq 345, 3) := by decide +kernel
theorem dL_law_978 : decode cL_law 978 = .ok (.iconst 0, 1) := by decide +kernel
theorem dL_law_979 : decode cL_law 979 = .ok (.ireturn, 1) := by decide +kernel
theorem dL_law_980 : decode cL_law 980 = .ok (.aload_n 1, 1) := by decide +kernel
theorem dL_law_981 : decode cL_law 981 = .ok (.aload_n 0, 1) := by decide +kernel
theorem dL_law_982 : decode cL_law 982 = .ok (.iload_n 3, 1) := by decide +kernel
theorem dL_law_983 : decode cL_law 983 = .ok (.iconst 1, 1) := by decide +kernel
theorem dL_law_984 : decode cL_law 984 = .ok (.iadd, 1) := by decide +kernel
theorem dL_law_985 : decode cL_law 985 = .ok (.iaload, 1) := by decide +kernel
theorem dL_law_986 : decode cL_law 986 = .ok (.invokevirtual 112, 3) := by decide +kernel
theorem dL_law_989 : decode cL_law 989 = .ok (.aload_n 2, 1) := by decide +kernel
theorem dL_law_990 : decode cL_law 990 = .ok (.aload_n 0, 1) := by decide +kernel
theorem dL_law_991 : decode cL_law 991 = .ok (.iload_n 3, 1) := by decide +kernel
theorem dL_law_992 : decode cL_law 992 = .ok (.iconst 1, 1) := by decide +kernel
theorem dL_law_993 : decode cL_law 993 = .ok (.iadd, 1) := by decide +kernel
theorem dL_law_994 : decode cL_law 994 = .ok (.iaload, 1) := by decide +kernel
theorem dL_law_995 : decode cL_law 995 = .ok (.invokevirtual 115, 3) := by decide +kernel
theorem dL_law_998 : decode cL_law 998 = .ok (.if_icmp .eq 322, 3) := by decide +kernel
theorem dL_law_1001 : decode cL_law 1001 = .ok (.iconst 0, 1) := by decide +kernel
theorem dL_law_1002 : decode cL_law 1002 = .ok (.ireturn, 1) := by decide +kernel
theorem dL_law_1003 : decode cL_law 1003 = .ok (.aload_n 1, 1) := by decide +kernel
theorem dL_law_1004 : decode cL_law 1004 = .ok (.aload_n 0, 1) := by decide +kernel
theorem dL_law_1005 : decode cL_law 1005 = .ok (.iload_n 3, 1) := by decide +kernel
theorem dL_law_1006 : decode cL_law 1006 = .ok (.iconst 1, 1) := by decide +kernel
theorem dL_law_1007 : decode cL_law 1007 = .ok (.iadd, 1) := by decide +kernel
theorem dL_law_1008 : decode cL_law 1008 = .ok (.iaload, 1) := by decide +kernel
theorem dL_law_1009 : decode cL_law 1009 = .ok (.invokevirtual 116, 3) := by decide +kernel
theorem dL_law_1012 : decode cL_law 1012 = .ok (.aload_n 2, 1) := by decide +kernel
theorem dL_law_1013 : decode cL_law 1013 = .ok (.aload_n 0, 1) := by decide +kernel
theorem dL_law_1014 : decode cL_law 1014 = .ok (.iload_n 3, 1) := by decide +kernel
theorem dL_law_1015 : decode cL_law 1015 = .ok (.iconst 1, 1) := by decide +kernel
theorem dL_law_1016 : decode cL_law 1016 = .ok (.iadd, 1) := by decide +kernel
theorem dL_law_1017 : decode cL_law 1017 = .ok (.iaload, 1) := by decide +kernel
theorem dL_law_1018 : decode cL_law 1018 = .ok (.invokevirtual 119, 3) := by decide +kernel
theorem dL_law_1021 : decode cL_law 1021 = .ok (.if_icmp .eq 299, 3) := by decide +kernel
theorem dL_law_1024 : decode cL_law 1024 = .ok (.iconst 0, 1) := by decide +kernel
theorem dL_law_1025 : decode cL_law 1025 = .ok (.ireturn, 1) := by decide +kernel
theorem dL_law_1026 : decode cL_law 1026 = .ok (.aload_n 1, 1) := by decide +kernel
theorem dL_law_1027 : decode cL_law 1027 = .ok (.aload_n 0, 1) := by decide +kernel
theorem dL_law_1028 : decode cL_law 1028 = .ok (.iload_n 3, 1) := by decide +kernel
theorem dL_law_1029 : decode cL_law 1029 = .ok (.iconst 1, 1) := by decide +kernel
theorem dL_law_1030 : decode cL_law 1030 = .ok (.iadd, 1) := by decide +kernel
theorem dL_law_1031 : decode cL_law 1031 = .ok (.iaload, 1) := by decide +kernel
theorem dL_law_1032 : decode cL_law 1032 = .ok (.aload_n 0, 1) := by decide +kernel
theorem dL_law_1033 : decode cL_law 1033 = .ok (.iload_n 3, 1) := by decide +kernel
theorem dL_law_1034 : decode cL_law 1034 = .ok (.iconst 2, 1) := by decide +kernel
theorem dL_law_1035 : decode cL_law 1035 = .ok (.iadd, 1) := by decide +kernel
theorem dL_law_1036 : decode cL_law 1036 = .ok (.iaload, 1) := by decide +kernel
theorem dL_law_1037 : decode cL_law 1037 = .ok (.aload_n 0, 1) := by decide +kernel
theorem dL_law_1038 : decode cL_law 1038 = .ok (.iload_n 3, 1) := by decide +kernel
theorem dL_law_1039 : decode cL_law 1039 = .ok (.iconst 3, 1) := by decide +kernel
theorem dL_law_1040 : decode cL_law 1040 = .ok (.iadd, 1) := by decide +kernel
theorem dL_law_1041 : decode cL_law 1041 = .ok (.iaload, 1) := by decide +kernel
theorem dL_law_1042 : decode cL_law 1042 = .ok (.aload_n 0, 1) := by decide +kernel
theorem dL_law_1043 : decode cL_law 1043 = .ok (.iload_n 3, 1) := by decide +kernel
theorem dL_law_1044 : decode cL_law 1044 = .ok (.iconst 4, 1) := by decide +kernel
theorem dL_law_1045 : decode cL_law 1045 = .ok (.iadd, 1) := by decide +kernel
theorem dL_law_1046 : decode cL_law 1046 = .ok (.iaload, 1) := by decide +kernel
theorem dL_law_1047 : decode cL_law 1047 = .ok (.invokevirtual 120, 3) := by decide +kernel
theorem dL_law_1050 : decode cL_law 1050 = .ok (.aload_n 2, 1) := by decide +kernel
theorem dL_law_1051 : decode cL_law 1051 = .ok (.aload_n 0, 1) := by decide +kernel
theorem dL_law_1052 : decode cL_law 1052 = .ok (.iload_n 3, 1) := by decide +kernel
theorem dL_law_1053 : decode cL_law 1053 = .ok (.iconst 1, 1) := by decide +kernel
theorem dL_law_1054 : decode cL_law 1054 = .ok (.iadd, 1) := by decide +kernel
theorem dL_law_1055 : decode cL_law 1055 = .ok (.iaload, 1) := by decide +kernel
theorem dL_law_1056 : decode cL_law 1056 = .ok (.aload_n 0, 1) := by decide +kernel
theorem dL_law_1057 : decode cL_law 1057 = .ok (.iload_n 3, 1) := by decide +kernel
theorem dL_law_1058 : decode cL_law 1058 = .ok (.iconst 2, 1) := by decide +kernel
theorem dL_law_1059 : decode cL_law 1059 = .ok (.iadd, 1) := by decide +kernel
theorem dL_law_1060 : decode cL_law 1060 = .ok (.iaload, 1) := by decide +kernel
theorem dL_law_1061 : decode cL_law 1061 = .ok (.aload_n 0, 1) := by decide +kernel
theorem dL_law_1062 : decode cL_law 1062 = .ok (.iload_n 3, 1) := by decide +kernel
theorem dL_law_1063 : decode cL_law 1063 = .ok (.iconst 3, 1) := by decide +kernel
theorem dL_law_1064 : decode cL_law 1064 = .ok (.iadd, 1) := by decide +kernel
theorem dL_law_1065 : decode cL_law 1065 = .ok (.iaload, 1) := by decide +kernel
theorem dL_law_1066 : decode cL_law 1066 = .ok (.aload_n 0, 1) := by decide +kernel
theorem dL_law_1067 : decode cL_law 1067 = .ok (.iload_n 3, 1) := by decide +kernel
theorem dL_law_1068 : decode cL_law 1068 = .ok (.iconst 4, 1) := by decide +kernel
theorem dL_law_1069 : decode cL_law 1069 = .ok (.iadd, 1) := by decide +kernel
theorem dL_law_1070 : decode cL_law 1070 = .ok (.iaload, 1) := by decide +kernel
theorem dL_law_1071 : decode cL_law 1071 = .ok (.invokevirtual 123, 3) := by decide +kernel
theorem dL_law_1074 : decode cL_law 1074 = .ok (.if_icmp .eq 246, 3) := by decide +kernel
theorem dL_law_1077 : decode cL_law 1077 = .ok (.iconst 0, 1) := by decide +kernel
theorem dL_law_1078 : decode cL_law 1078 = .ok (.ireturn, 1) := by decide +kernel
theorem dL_law_1079 : decode cL_law 1079 = .ok (.aload_n 1, 1) := by decide +kernel
theorem dL_law_1080 : decode cL_law 1080 = .ok (.aload_n 0, 1) := by decide +kernel
theorem dL_law_1081 : decode cL_law 1081 = .ok (.iload_n 3, 1) := by decide +kernel
theorem dL_law_1082 : decode cL_law 1082 = .ok (.iconst 1, 1) := by decide +kernel
theorem dL_law_1083 : decode cL_law 1083 = .ok (.iadd, 1) := by decide +kernel
theorem dL_law_1084 : decode cL_law 1084 = .ok (.iaload, 1) := by decide +kernel
theorem dL_law_1085 : decode cL_law 1085 = .ok (.aload_n 0, 1) := by decide +kernel
theorem dL_law_1086 : decode cL_law 1086 = .ok (.iload_n 3, 1) := by decide +kernel
theorem dL_law_1087 : decode cL_law 1087 = .ok (.iconst 2, 1) := by decide +kernel
theorem dL_law_1088 : decode cL_law 1088 = .ok (.iadd, 1) := by decide +kernel
theorem dL_law_1089 : decode cL_law 1089 = .ok (.iaload, 1) := by decide +kernel
theorem dL_law_1090 : decode cL_law 1090 = .ok (.aload_n 0, 1) := by decide +kernel
theorem dL_law_1091 : decode cL_law 1091 = .ok (.iload_n 3, 1) := by decide +kernel
theorem dL_law_1092 : decode cL_law 1092 = .ok (.iconst 3, 1) := by decide +kernel
theorem dL_law_1093 : decode cL_law 1093 = .ok (.iadd, 1) := by decide +kernel
theorem dL_law_1094 : decode cL_law 1094 = .ok (.iaload, 1) := by decide +kernel
theorem dL_law_1095 : decode cL_law 1095 = .ok (.invokevirtual 124, 3) := by decide +kernel
theorem dL_law_1098 : decode cL_law 1098 = .ok (.aload_n 2, 1) := by decide +kernel
theorem dL_law_1099 : decode cL_law 1099 = .ok (.aload_n 0, 1) := by decide +kernel
theorem dL_law_1100 : decode cL_law 1100 = .ok (.iload_n 3, 1) := by decide +kernel
theorem dL_law_1101 : decode cL_law 1101 = .ok (.iconst 1, 1) := by decide +kernel
theorem dL_law_1102 : decode cL_law 1102 = .ok (.iadd, 1) := by decide +kernel
theorem dL_law_1103 : decode cL_law 1103 = .ok (.iaload, 1) := by decide +kernel
theorem dL_law_1104 : decode cL_law 1104 = .ok (.aload_n 0, 1) := by decide +kernel
theorem dL_law_1105 : decode cL_law 1105 = .ok (.iload_n 3, 1) := by decide +kernel
theorem dL_law_1106 : decode cL_law 1106 = .ok (.iconst 2, 1) := by decide +kernel
theorem dL_law_1107 : decode cL_law 1107 = .ok (.iadd, 1) := by decide +kernel
theorem dL_law_1108 : decode cL_law 1108 = .ok (.iaload, 1) := by decide +kernel
theorem dL_law_1109 : decode cL_law 1109 = .ok (.aload_n 0, 1) := by decide +kernel
theorem dL_law_1110 : decode cL_law 1110 = .ok (.iload_n 3, 1) := by decide +kernel
theorem dL_law_1111 : decode cL_law 1111 = .ok (.iconst 3, 1) := by decide +kernel
theorem dL_law_1112 : decode cL_law 1112 = .ok (.iadd, 1) := by decide +kernel
theorem dL_law_1113 : decode cL_law 1113 = .ok (.iaload, 1) := by decide +kernel
theorem dL_law_1114 : decode cL_law 1114 = .ok (.invokevirtual 127, 3) := by decide +kernel
theorem dL_law_1117 : decode cL_law 1117 = .ok (.if_icmp .eq 203, 3) := by decide +kernel
theorem dL_law_1120 : decode cL_law 1120 = .ok (.iconst 0, 1) := by decide +kernel
theorem dL_law_1121 : decode cL_law 1121 = .ok (.ireturn, 1) := by decide +kernel
theorem dL_law_1122 : decode cL_law 1122 = .ok (.aload_n 1, 1) := by decide +kernel
theorem dL_law_1123 : decode cL_law 1123 = .ok (.aload_n 0, 1) := by decide +kernel
theorem dL_law_1124 : decode cL_law 1124 = .ok (.iload_n 3, 1) := by decide +kernel
theorem dL_law_1125 : decode cL_law 1125 = .ok (.iconst 1, 1) := by decide +kernel
theorem dL_law_1126 : decode cL_law 1126 = .ok (.iadd, 1) := by decide +kernel
theorem dL_law_1127 : decode cL_law 1127 = .ok (.iaload, 1) := by decide +kernel
theorem dL_law_1128 : decode cL_law 1128 = .ok (.aload_n 0, 1) := by decide +kernel
theorem dL_law_1129 : decode cL_law 1129 = .ok (.iload_n 3, 1) := by decide +kernel
theorem dL_law_1130 : decode cL_law 1130 = .ok (.iconst 2, 1) := by decide +kernel
theorem dL_law_1131 : decode cL_law 1131 = .ok (.iadd, 1) := by decide +kernel
theorem dL_law_1132 : decode cL_law 1132 = .ok (.iaload, 1) := by decide +kernel
theorem dL_law_1133 : decode cL_law 1133 = .ok (.aload_n 0, 1) := by decide +kernel
theorem dL_law_1134 : decode cL_law 1134 = .ok (.iload_n 3, 1) := by decide +kernel
theorem dL_law_1135 : decode cL_law 1135 = .ok (.iconst 3, 1) := by decide +kernel
theorem dL_law_1136 : decode cL_law 1136 = .ok (.iadd, 1) := by decide +kernel
theorem dL_law_1137 : decode cL_law 1137 = .ok (.iaload, 1) := by decide +kernel
theorem dL_law_1138 : decode cL_law 1138 = .ok (.invokevirtual 128, 3) := by decide +kernel
theorem dL_law_1141 : decode cL_law 1141 = .ok (.aload_n 2, 1) := by decide +kernel
theorem dL_law_1142 : decode cL_law 1142 = .ok (.aload_n 0, 1) := by decide +kernel
theorem dL_law_1143 : decode cL_law 1143 = .ok (.iload_n 3, 1) := by decide +kernel
theorem dL_law_1144 : decode cL_law 1144 = .ok (.iconst 1, 1) := by decide +kernel
theorem dL_law_1145 : decode cL_law 1145 = .ok (.iadd, 1) := by decide +kernel
theorem dL_law_1146 : decode cL_law 1146 = .ok (.iaload, 1) := by decide +kernel
theorem dL_law_1147 : decode cL_law 1147 = .ok (.aload_n 0, 1) := by decide +kernel
theorem dL_law_1148 : decode cL_law 1148 = .ok (.iload_n 3, 1) := by decide +kernel
theorem dL_law_1149 : decode cL_law 1149 = .ok (.iconst 2, 1) := by decide +kernel
theorem dL_law_1150 : decode cL_law 1150 = .ok (.iadd, 1) := by decide +kernel
theorem dL_law_1151 : decode cL_law 1151 = .ok (.iaload, 1) := by decide +kernel
theorem dL_law_1152 : decode cL_law 1152 = .ok (.aload_n 0, 1) := by decide +kernel
theorem dL_law_1153 : decode cL_law 1153 = .ok (.iload_n 3, 1) := by decide +kernel
theorem dL_law_1154 : decode cL_law 1154 = .ok (.iconst 3, 1) := by decide +kernel
theorem dL_law_1155 : decode cL_law 1155 = .ok (.iadd, 1) := by decide +kernel
theorem dL_law_1156 : decode cL_law 1156 = .ok (.iaload, 1) := by decide +kernel
theorem dL_law_1157 : decode cL_law 1157 = .ok (.invokevirtual 131, 3) := by decide +kernel
theorem dL_law_1160 : decode cL_law 1160 = .ok (.if_icmp .eq 160, 3) := by decide +kernel
theorem dL_law_1163 : decode cL_law 1163 = .ok (.iconst 0, 1) := by decide +kernel
theorem dL_law_1164 : decode cL_law 1164 = .ok (.ireturn, 1) := by decide +kernel
theorem dL_law_1165 : decode cL_law 1165 = .ok (.aload_n 1, 1) := by decide +kernel
theorem dL_law_1166 : decode cL_law 1166 = .ok (.aload_n 0, 1) := by decide +kernel
theorem dL_law_1167 : decode cL_law 1167 = .ok (.iload_n 3, 1) := by decide +kernel
theorem dL_law_1168 : decode cL_law 1168 = .ok (.iconst 1, 1) := by decide +kernel
theorem dL_law_1169 : decode cL_law 1169 = .ok (.iadd, 1) := by decide +kernel
theorem dL_law_1170 : decode cL_law 1170 = .ok (.iaload, 1) := by decide +kernel
theorem dL_law_1171 : decode cL_law 1171 = .ok (.aload_n 0, 1) := by decide +kernel
theorem dL_law_1172 : decode cL_law 1172 = .ok (.iload_n 3, 1) := by decide +kernel
theorem dL_law_1173 : decode cL_law 1173 = .ok (.iconst 2, 1) := by decide +kernel
theorem dL_law_1174 : decode cL_law 1174 = .ok (.iadd, 1) := by decide +kernel
theorem dL_law_1175 : decode cL_law 1175 = .ok (.iaload, 1) := by decide +kernel
theorem dL_law_1176 : decode cL_law 1176 = .ok (.invokevirtual 132, 3) := by decide +kernel
theorem dL_law_1179 : decode cL_law 1179 = .ok (.aload_n 2, 1) := by decide +kernel
theorem dL_law_1180 : decode cL_law 1180 = .ok (.aload_n 0, 1) := by decide +kernel
theorem dL_law_1181 : decode cL_law 1181 = .ok (.iload_n 3, 1) := by decide +kernel
theorem dL_law_1182 : decode cL_law 1182 = .ok (.iconst 1, 1) := by decide +kernel
theorem dL_law_1183 : decode cL_law 1183 = .ok (.iadd, 1) := by decide +kernel
theorem dL_law_1184 : decode cL_law 1184 = .ok (.iaload, 1) := by decide +kernel
theorem dL_law_1185 : decode cL_law 1185 = .ok (.aload_n 0, 1) := by decide +kernel
theorem dL_law_1186 : decode cL_law 1186 = .ok (.iload_n 3, 1) := by decide +kernel
theorem dL_law_1187 : decode cL_law 1187 = .ok (.iconst 2, 1) := by decide +kernel
theorem dL_law_1188 : decode cL_law 1188 = .ok (.iadd, 1) := by decide +kernel
theorem dL_law_1189 : decode cL_law 1189 = .ok (.iaload, 1) := by decide +kernel
theorem dL_law_1190 : decode cL_law 1190 = .ok (.invokevirtual 135, 3) := by decide +kernel
theorem dL_law_1193 : decode cL_law 1193 = .ok (.if_icmp .eq 127, 3) := by decide +kernel
theorem dL_law_1196 : decode cL_law 1196 = .ok (.iconst 0, 1) := by decide +kernel
theorem dL_law_1197 : decode cL_law 1197 = .ok (.ireturn, 1) := by decide +kernel
theorem dL_law_1198 : decode cL_law 1198 = .ok (.aload_n 1, 1) := by decide +kernel
theorem dL_law_1199 : decode cL_law 1199 = .ok (.aload_n 0, 1) := by decide +kernel
theorem dL_law_1200 : decode cL_law 1200 = .ok (.iload_n 3, 1) := by decide +kernel
theorem dL_law_1201 : decode cL_law 1201 = .ok (.iconst 1, 1) := by decide +kernel
theorem dL_law_1202 : decode cL_law 1202 = .ok (.iadd, 1) := by decide +kernel
theorem dL_law_1203 : decode cL_law 1203 = .ok (.iaload, 1) := by decide +kernel
theorem dL_law_1204 : decode cL_law 1204 = .ok (.aload_n 0, 1) := by decide +kernel
theorem dL_law_1205 : decode cL_law 1205 = .ok (.iload_n 3, 1) := by decide +kernel
theorem dL_law_1206 : decode cL_law 1206 = .ok (.iconst 2, 1) := by decide +kernel
theorem dL_law_1207 : decode cL_law 1207 = .ok (.iadd, 1) := by decide +kernel
theorem dL_law_1208 : decode cL_law 1208 = .ok (.iaload, 1) := by decide +kernel
theorem dL_law_1209 : decode cL_law 1209 = .ok (.invokevirtual 136, 3) := by decide +kernel
theorem dL_law_1212 : decode cL_law 1212 = .ok (.aload_n 2, 1) := by decide +kernel
theorem dL_law_1213 : decode cL_law 1213 = .ok (.aload_n 0, 1) := by decide +kernel
theorem dL_law_1214 : decode cL_law 1214 = .ok (.iload_n 3, 1) := by decide +kernel
theorem dL_law_1215 : decode cL_law 1215 = .ok (.iconst 1, 1) := by decide +kernel
theorem dL_law_1216 : decode cL_law 1216 = .ok (.iadd, 1) := by decide +kernel
theorem dL_law_1217 : decode cL_law 1217 = .ok (.iaload, 1) := by decide +kernel
theorem dL_law_1218 : decode cL_law 1218 = .ok (.aload_n 0, 1) := by decide +kernel
theorem dL_law_1219 : decode cL_law 1219 = .ok (.iload_n 3, 1) := by decide +kernel
theorem dL_law_1220 : decode cL_law 1220 = .ok (.iconst 2, 1) := by decide +kernel
theorem dL_law_1221 : decode cL_law 1221 = .ok (.iadd, 1) := by decide +kernel
theorem dL_law_1222 : decode cL_law 1222 = .ok (.iaload, 1) := by decide +kernel
theorem dL_law_1223 : decode cL_law 1223 = .ok (.invokevirtual 139, 3) := by decide +kernel
theorem dL_law_1226 : decode cL_law 1226 = .ok (.if_icmp .eq 94, 3) := by decide +kernel
theorem dL_law_1229 : decode cL_law 1229 = .ok (.iconst 0, 1) := by decide +kernel
theorem dL_law_1230 : decode cL_law 1230 = .ok (.ireturn, 1) := by decide +kernel
theorem dL_law_1231 : decode cL_law 1231 = .ok (.aload_n 1, 1) := by decide +kernel
theorem dL_law_1232 : decode cL_law 1232 = .ok (.aload_n 0, 1) := by decide +kernel
theorem dL_law_1233 : decode cL_law 1233 = .ok (.iload_n 3, 1) := by decide +kernel
theorem dL_law_1234 : decode cL_law 1234 = .ok (.iconst 1, 1) := by decide +kernel
theorem dL_law_1235 : decode cL_law 1235 = .ok (.iadd, 1) := by decide +kernel
theorem dL_law_1236 : decode cL_law 1236 = .ok (.iaload, 1) := by decide +kernel
theorem dL_law_1237 : decode cL_law 1237 = .ok (.aload_n 0, 1) := by decide +kernel
theorem dL_law_1238 : decode cL_law 1238 = .ok (.iload_n 3, 1) := by decide +kernel
theorem dL_law_1239 : decode cL_law 1239 = .ok (.iconst 2, 1) := by decide +kernel
theorem dL_law_1240 : decode cL_law 1240 = .ok (.iadd, 1) := by decide +kernel
theorem dL_law_1241 : decode cL_law 1241 = .ok (.iaload, 1) := by decide +kernel
theorem dL_law_1242 : decode cL_law 1242 = .ok (.invokevirtual 140, 3) := by decide +kernel
theorem dL_law_1245 : decode cL_law 1245 = .ok (.aload_n 2, 1) := by decide +kernel
theorem dL_law_1246 : decode cL_law 1246 = .ok (.aload_n 0, 1) := by decide +kernel
theorem dL_law_1247 : decode cL_law 1247 = .ok (.iload_n 3, 1) := by decide +kernel
theorem dL_law_1248 : decode cL_law 1248 = .ok (.iconst 1, 1) := by decide +kernel
theorem dL_law_1249 : decode cL_law 1249 = .ok (.iadd, 1) := by decide +kernel
theorem dL_law_1250 : decode cL_law 1250 = .ok (.iaload, 1) := by decide +kernel
theorem dL_law_1251 : decode cL_law 1251 = .ok (.aload_n 0, 1) := by decide +kernel
theorem dL_law_1252 : decode cL_law 1252 = .ok (.iload_n 3, 1) := by decide +kernel
theorem dL_law_1253 : decode cL_law 1253 = .ok (.iconst 2, 1) := by decide +kernel
theorem dL_law_1254 : decode cL_law 1254 = .ok (.iadd, 1) := by decide +kernel
theorem dL_law_1255 : decode cL_law 1255 = .ok (.iaload, 1) := by decide +kernel
theorem dL_law_1256 : decode cL_law 1256 = .ok (.invokevirtual 143, 3) := by decide +kernel
theorem dL_law_1259 : decode cL_law 1259 = .ok (.if_icmp .eq 61, 3) := by decide +kernel
theorem dL_law_1262 : decode cL_law 1262 = .ok (.iconst 0, 1) := by decide +kernel
theorem dL_law_1263 : decode cL_law 1263 = .ok (.ireturn, 1) := by decide +kernel
theorem dL_law_1264 : decode cL_law 1264 = .ok (.aload_n 1, 1) := by decide +kernel
theorem dL_law_1265 : decode cL_law 1265 = .ok (.aload_n 0, 1) := by decide +kernel
theorem dL_law_1266 : decode cL_law 1266 = .ok (.iload_n 3, 1) := by decide +kernel
theorem dL_law_1267 : decode cL_law 1267 = .ok (.iconst 1, 1) := by decide +kernel
theorem dL_law_1268 : decode cL_law 1268 = .ok (.iadd, 1) := by decide +kernel
theorem dL_law_1269 : decode cL_law 1269 = .ok (.iaload, 1) := by decide +kernel
theorem dL_law_1270 : decode cL_law 1270 = .ok (.aload_n 0, 1) := by decide +kernel
theorem dL_law_1271 : decode cL_law 1271 = .ok (.iload_n 3, 1) := by decide +kernel
theorem dL_law_1272 : decode cL_law 1272 = .ok (.iconst 2, 1) := by decide +kernel
theorem dL_law_1273 : decode cL_law 1273 = .ok (.iadd, 1) := by decide +kernel
theorem dL_law_1274 : decode cL_law 1274 = .ok (.iaload, 1) := by decide +kernel
theorem dL_law_1275 : decode cL_law 1275 = .ok (.invokevirtual 144, 3) := by decide +kernel
theorem dL_law_1278 : decode cL_law 1278 = .ok (.aload_n 2, 1) := by decide +kernel
theorem dL_law_1279 : decode cL_law 1279 = .ok (.aload_n 0, 1) := by decide +kernel
theorem dL_law_1280 : decode cL_law 1280 = .ok (.iload_n 3, 1) := by decide +kernel
theorem dL_law_1281 : decode cL_law 1281 = .ok (.iconst 1, 1) := by decide +kernel
theorem dL_law_1282 : decode cL_law 1282 = .ok (.iadd, 1) := by decide +kernel
theorem dL_law_1283 : decode cL_law 1283 = .ok (.iaload, 1) := by decide +kernel
theorem dL_law_1284 : decode cL_law 1284 = .ok (.aload_n 0, 1) := by decide +kernel
theorem dL_law_1285 : decode cL_law 1285 = .ok (.iload_n 3, 1) := by decide +kernel
theorem dL_law_1286 : decode cL_law 1286 = .ok (.iconst 2, 1) := by decide +kernel
theorem dL_law_1287 : decode cL_law 1287 = .ok (.iadd, 1) := by decide +kernel
theorem dL_law_1288 : decode cL_law 1288 = .ok (.iaload, 1) := by decide +kernel
theorem dL_law_1289 : decode cL_law 1289 = .ok (.invokevirtual 147, 3) := by decide +kernel
theorem dL_law_1292 : decode cL_law 1292 = .ok (.if_icmp .eq 28, 3) := by decide +kernel
theorem dL_law_1295 : decode cL_law 1295 = .ok (.iconst 0, 1) := by decide +kernel
theorem dL_law_1296 : decode cL_law 1296 = .ok (.ireturn, 1) := by decide +kernel
theorem dL_law_1297 : decode cL_law 1297 = .ok (.aload_n 1, 1) := by decide +kernel
theorem dL_law_1298 : decode cL_law 1298 = .ok (.aload_n 0, 1) := by decide +kernel
theorem dL_law_1299 : decode cL_law 1299 = .ok (.iload_n 3, 1) := by decide +kernel
theorem dL_law_1300 : decode cL_law 1300 = .ok (.iconst 1, 1) := by decide +kernel
theorem dL_law_1301 : decode cL_law 1301 = .ok (.iadd, 1) := by decide +kernel
theorem dL_law_1302 : decode cL_law 1302 = .ok (.iaload, 1) := by decide +kernel
theorem dL_law_1303 : decode cL_law 1303 = .ok (.invokevirtual 148, 3) := by decide +kernel
theorem dL_law_1306 : decode cL_law 1306 = .ok (.aload_n 2, 1) := by decide +kernel
theorem dL_law_1307 : decode cL_law 1307 = .ok (.aload_n 0, 1) := by decide +kernel
theorem dL_law_1308 : decode cL_law 1308 = .ok (.iload_n 3, 1) := by decide +kernel
theorem dL_law_1309 : decode cL_law 1309 = .ok (.iconst 1, 1) := by decide +kernel
theorem dL_law_1310 : decode cL_law 1310 = .ok (.iadd, 1) := by decide +kernel
theorem dL_law_1311 : decode cL_law 1311 = .ok (.iaload, 1) := by decide +kernel
theorem dL_law_1312 : decode cL_law 1312 = .ok (.invokevirtual 151, 3) := by decide +kernel
theorem dL_law_1315 : decode cL_law 1315 = .ok (.if_icmp .eq 5, 3) := by decide +kernel
theorem dL_law_1318 : decode cL_law 1318 = .ok (.iconst 0, 1) := by decide +kernel
theorem dL_law_1319 : decode cL_law 1319 = .ok (.ireturn, 1) := by decide +kernel
theorem dL_law_1320 : decode cL_law 1320 = .ok (.iinc 3 6, 3) := by decide +kernel
theorem dL_law_1323 : decode cL_law 1323 = .ok (.goto (-1305), 3) := by decide +kernel
theorem dL_law_1326 : decode cL_law 1326 = .ok (.iconst 1, 1) := by decide +kernel
theorem dL_law_1327 : decode cL_law 1327 = .ok (.ireturn, 1) := by decide +kernel
abbrev vwCl : List vw_C := [(RX0, TX0, 5), (RX1, TX1, 3), (RX2, TX2, 4), (RX3, TX3, 3), (RX4, TX4, 7), (RX5, TX5, 4), (RX6, TX6, 4), (RX7, TX7, 5), (RX8, TX8, 1), (RX9, TX9, 14), (RX10, TX10, 34)]
