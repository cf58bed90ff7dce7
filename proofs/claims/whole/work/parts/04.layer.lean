/-! ===== the layer: the heap as one memory of ints over families of cells (a tag, a place in the family), the references fixed ===== -/
abbrev mh_M : Type := Nat → Nat → Nat → Int32
def mh_up (M : mh_M) (t i k : Nat) (v : Int32) : mh_M := fun t' i' k' => if t' = t ∧ i' = i ∧ k' = k then v else M t' i' k'
/-- the fixed form of a cell: an object (class, fields, which fields are references), an array of ints, an array of references -/
abbrev mh_E : Type := (Nat × Nat × (Nat → Option Nat)) ⊕ ((ClassId × Nat) ⊕ (ClassId × Nat × (Nat → Nat)))
def mh_f (r : Nat → Option Nat) (f : Nat → Int32) (k : Nat) : Value := match r k with
  | some a => .ref a
  | none => .int (f k)
def mh_e (sh : mh_E) (f : Nat → Int32) : va_E := match sh with
  | .inl (ci, N, r) => .inr (ci, (List.range N).map (mh_f r f))
  | .inr (.inl (cA, n)) => .inl (cA, n, .inl f)
  | .inr (.inr (cA, n, r)) => .inl (cA, n, .inr (.inr (.inr (.inr (fun k => some (r k))))))
/-- what is fixed once the objects are made: class numbers and slots, array classes, addresses -/
abbrev mh_G : Type := va_G × (Nat → ClassId) × (Nat → Nat → Nat)
def rr0 (G : mh_G) (_ : Nat) : Nat → Option Nat := fun k => match k with | 0 => some (G.2.2 1 0) | 2 => some (G.2.2 2 0) | 4 => some (G.2.2 3 0) | 5 => some (G.2.2 4 0) | 7 => some (G.2.2 5 0) | 8 => some (G.2.2 7 0) | 9 => some (G.2.2 8 0) | 10 => some (G.2.2 11 0) | 12 => some (G.2.2 13 0) | 13 => some (G.2.2 15 0) | _ => none
def rr5 (G : mh_G) (_ : Nat) : Nat → Option Nat := fun k => match k with | 0 => some (G.2.2 6 0) | _ => none
def rr8 (G : mh_G) (_ : Nat) : Nat → Option Nat := fun k => match k with | 0 => some (G.2.2 9 0) | 1 => some (G.2.2 10 0) | _ => none
def rr13 (G : mh_G) (_ : Nat) : Nat → Option Nat := fun k => match k with | 0 => some (G.2.2 14 0) | _ => none
def rr15 (G : mh_G) (_ : Nat) : Nat → Option Nat := fun k => match k with | 0 => some (G.2.2 16 0) | 1 => some (G.2.2 17 0) | 3 => some (G.2.2 18 0) | _ => none
def rr20 (G : mh_G) (i : Nat) : Nat → Option Nat := fun k => match k with | 5 => some (G.2.2 21 i) | 6 => some (G.2.2 22 i) | _ => none
def rr23 (G : mh_G) (i : Nat) : Nat → Option Nat := fun k => match k with | 3 => some (G.2.2 24 i) | _ => none
def rr25 (G : mh_G) (i : Nat) : Nat → Option Nat := fun k => match k with | 1 => some (G.2.2 26 i) | 2 => some (G.2.2 27 i) | 3 => some (G.2.2 28 i) | 4 => some (G.2.2 29 i) | _ => none
def rr30 (G : mh_G) (_ : Nat) : Nat → Option Nat := fun k => match k with | _ => none
def rr31 (G : mh_G) (_ : Nat) : Nat → Option Nat := fun k => match k with | _ => none
def rr40 (G : mh_G) (_ : Nat) : Nat → Option Nat := fun k => match k with | 1 => some (G.2.2 42 0) | 2 => some (G.2.2 43 0) | 3 => some (G.2.2 44 0) | 5 => some (G.2.2 46 0) | 6 => some (G.2.2 47 0) | 7 => some (G.2.2 48 0) | 8 => some (G.2.2 49 0) | 9 => some (G.2.2 50 0) | 10 => some (G.2.2 51 0) | 12 => some (G.2.2 53 0) | 13 => some (G.2.2 54 0) | 14 => some (G.2.2 55 0) | 15 => some (G.2.2 56 0) | 16 => some (G.2.2 57 0) | 17 => some (G.2.2 58 0) | 18 => some (G.2.2 59 0) | 20 => some (G.2.2 61 0) | 22 => some (G.2.2 63 0) | 23 => some (G.2.2 64 0) | 25 => some (G.2.2 66 0) | 26 => some (G.2.2 67 0) | 27 => some (G.2.2 68 0) | 28 => some (G.2.2 69 0) | 29 => some (G.2.2 70 0) | 31 => some (G.2.2 72 0) | 32 => some (G.2.2 73 0) | 33 => some (G.2.2 74 0) | _ => none
/-- a row of the table: how many there are, and the form of each -/
def mh_tab (G : mh_G) : List (Nat × (Nat → mh_E)) := [
  (1, fun i => .inl (9, 14, rr0 G i)),
  (1, fun _ => .inr (.inr (G.2.1 2, 10, G.2.2 20))),
  (1, fun _ => .inr (.inr (G.2.1 3, 12, G.2.2 23))),
  (1, fun _ => .inr (.inl (G.2.1 0, 7))),
  (1, fun _ => .inr (.inr (G.2.1 4, 40, G.2.2 25))),
  (1, fun i => .inl (1, 3, rr5 G i)),
  (1, fun _ => .inr (.inr (G.2.1 5, 40, G.2.2 30))),
  (1, fun _ => .inr (.inl (G.2.1 0, 2))),
  (1, fun i => .inl (3, 3, rr8 G i)),
  (1, fun _ => .inr (.inl (G.2.1 0, 8))),
  (1, fun _ => .inr (.inl (G.2.1 0, 8))),
  (1, fun _ => .inr (.inr (G.2.1 6, 12, G.2.2 31))),
  (0, fun _ => .inr (.inl (G.2.1 0, 0))),
  (1, fun i => .inl (8, 1, rr13 G i)),
  (1, fun _ => .inr (.inl (G.2.1 0, 6))),
  (1, fun i => .inl (2, 4, rr15 G i)),
  (1, fun _ => .inr (.inl (G.2.1 0, 5))),
  (1, fun _ => .inr (.inl (G.2.1 0, 5))),
  (1, fun _ => .inr (.inr (G.2.1 7, 6, G.2.2 19))),
  (6, fun _ => .inr (.inl (G.2.1 0, 144))),
  (10, fun i => .inl (4, 7, rr20 G i)),
  (10, fun _ => .inr (.inl (G.2.1 0, 2))),
  (10, fun _ => .inr (.inl (G.2.1 0, 4))),
  (12, fun i => .inl (6, 4, rr23 G i)),
  (12, fun _ => .inr (.inl (G.2.1 0, 10))),
  (40, fun i => .inl (7, 5, rr25 G i)),
  (40, fun _ => .inr (.inl (G.2.1 0, 10))),
  (40, fun _ => .inr (.inl (G.2.1 1, 10))),
  (40, fun _ => .inr (.inl (G.2.1 0, 10))),
  (40, fun _ => .inr (.inl (G.2.1 0, 10))),
  (40, fun i => .inl (0, 5, rr30 G i)),
  (12, fun i => .inl (5, 4, rr31 G i)),
  (0, fun _ => .inr (.inl (G.2.1 0, 0))),
  (0, fun _ => .inr (.inl (G.2.1 0, 0))),
  (0, fun _ => .inr (.inl (G.2.1 0, 0))),
  (0, fun _ => .inr (.inl (G.2.1 0, 0))),
  (0, fun _ => .inr (.inl (G.2.1 0, 0))),
  (0, fun _ => .inr (.inl (G.2.1 0, 0))),
  (0, fun _ => .inr (.inl (G.2.1 0, 0))),
  (0, fun _ => .inr (.inl (G.2.1 0, 0))),
  (1, fun i => .inl (10, 34, rr40 G i)),
  (0, fun _ => .inr (.inl (G.2.1 0, 0))),
  (1, fun _ => .inr (.inl (G.2.1 0, 10))),
  (1, fun _ => .inr (.inl (G.2.1 0, 10))),
  (1, fun _ => .inr (.inl (G.2.1 0, 10))),
  (0, fun _ => .inr (.inl (G.2.1 0, 0))),
  (1, fun _ => .inr (.inl (G.2.1 0, 12))),
  (1, fun _ => .inr (.inl (G.2.1 0, 120))),
  (1, fun _ => .inr (.inl (G.2.1 1, 12))),
  (1, fun _ => .inr (.inl (G.2.1 0, 7))),
  (1, fun _ => .inr (.inl (G.2.1 0, 10))),
  (1, fun _ => .inr (.inl (G.2.1 0, 20))),
  (0, fun _ => .inr (.inl (G.2.1 0, 0))),
  (1, fun _ => .inr (.inl (G.2.1 0, 400))),
  (1, fun _ => .inr (.inl (G.2.1 1, 400))),
  (1, fun _ => .inr (.inl (G.2.1 0, 400))),
  (1, fun _ => .inr (.inl (G.2.1 0, 400))),
  (1, fun _ => .inr (.inl (G.2.1 0, 40))),
  (1, fun _ => .inr (.inl (G.2.1 0, 50))),
  (1, fun _ => .inr (.inl (G.2.1 0, 2))),
  (0, fun _ => .inr (.inl (G.2.1 0, 0))),
  (1, fun _ => .inr (.inl (G.2.1 0, 240))),
  (0, fun _ => .inr (.inl (G.2.1 0, 0))),
  (1, fun _ => .inr (.inl (G.2.1 0, 8))),
  (1, fun _ => .inr (.inl (G.2.1 0, 8))),
  (0, fun _ => .inr (.inl (G.2.1 0, 0))),
  (1, fun _ => .inr (.inl (G.2.1 0, 12))),
  (1, fun _ => .inr (.inl (G.2.1 0, 12))),
  (1, fun _ => .inr (.inl (G.2.1 0, 12))),
  (1, fun _ => .inr (.inl (G.2.1 0, 12))),
  (1, fun _ => .inr (.inl (G.2.1 0, 6))),
  (0, fun _ => .inr (.inl (G.2.1 0, 0))),
  (1, fun _ => .inr (.inl (G.2.1 0, 5))),
  (1, fun _ => .inr (.inl (G.2.1 0, 5))),
  (1, fun _ => .inr (.inl (G.2.1 0, 900)))]
def mh_Z (G : mh_G) (t i : Nat) : Option mh_E := match (mh_tab G)[t]? with
  | some (n, f) => if i < n then some (f i) else none
  | none => none
theorem mh_z {G : mh_G} {t i n : Nat} {f : Nat → mh_E} (h : (mh_tab G)[t]? = some (n, f)) (hi : i < n) : mh_Z G t i = some (f i) := by
  unfold mh_Z
  rw [h]
  exact if_pos hi
theorem zz0 {G : mh_G} {i : Nat} (h : i < 1) : mh_Z G 0 i = some (.inl (9, 14, rr0 G i)) := show (if i < 1 then some (.inl (9, 14, rr0 G i) : mh_E) else none) = some (.inl (9, 14, rr0 G i)) from if_pos h
theorem zz1 {G : mh_G} {i : Nat} (h : i < 1) : mh_Z G 1 i = some (.inr (.inr (G.2.1 2, 10, G.2.2 20))) := show (if i < 1 then some (.inr (.inr (G.2.1 2, 10, G.2.2 20)) : mh_E) else none) = some (.inr (.inr (G.2.1 2, 10, G.2.2 20))) from if_pos h
theorem zz2 {G : mh_G} {i : Nat} (h : i < 1) : mh_Z G 2 i = some (.inr (.inr (G.2.1 3, 12, G.2.2 23))) := show (if i < 1 then some (.inr (.inr (G.2.1 3, 12, G.2.2 23)) : mh_E) else none) = some (.inr (.inr (G.2.1 3, 12, G.2.2 23))) from if_pos h
theorem zz3 {G : mh_G} {i : Nat} (h : i < 1) : mh_Z G 3 i = some (.inr (.inl (G.2.1 0, 7))) := show (if i < 1 then some (.inr (.inl (G.2.1 0, 7)) : mh_E) else none) = some (.inr (.inl (G.2.1 0, 7))) from if_pos h
theorem zz4 {G : mh_G} {i : Nat} (h : i < 1) : mh_Z G 4 i = some (.inr (.inr (G.2.1 4, 40, G.2.2 25))) := show (if i < 1 then some (.inr (.inr (G.2.1 4, 40, G.2.2 25)) : mh_E) else none) = some (.inr (.inr (G.2.1 4, 40, G.2.2 25))) from if_pos h
theorem zz5 {G : mh_G} {i : Nat} (h : i < 1) : mh_Z G 5 i = some (.inl (1, 3, rr5 G i)) := show (if i < 1 then some (.inl (1, 3, rr5 G i) : mh_E) else none) = some (.inl (1, 3, rr5 G i)) from if_pos h
theorem zz6 {G : mh_G} {i : Nat} (h : i < 1) : mh_Z G 6 i = some (.inr (.inr (G.2.1 5, 40, G.2.2 30))) := show (if i < 1 then some (.inr (.inr (G.2.1 5, 40, G.2.2 30)) : mh_E) else none) = some (.inr (.inr (G.2.1 5, 40, G.2.2 30))) from if_pos h
theorem zz7 {G : mh_G} {i : Nat} (h : i < 1) : mh_Z G 7 i = some (.inr (.inl (G.2.1 0, 2))) := show (if i < 1 then some (.inr (.inl (G.2.1 0, 2)) : mh_E) else none) = some (.inr (.inl (G.2.1 0, 2))) from if_pos h
theorem zz8 {G : mh_G} {i : Nat} (h : i < 1) : mh_Z G 8 i = some (.inl (3, 3, rr8 G i)) := show (if i < 1 then some (.inl (3, 3, rr8 G i) : mh_E) else none) = some (.inl (3, 3, rr8 G i)) from if_pos h
theorem zz9 {G : mh_G} {i : Nat} (h : i < 1) : mh_Z G 9 i = some (.inr (.inl (G.2.1 0, 8))) := show (if i < 1 then some (.inr (.inl (G.2.1 0, 8)) : mh_E) else none) = some (.inr (.inl (G.2.1 0, 8))) from if_pos h
theorem zz10 {G : mh_G} {i : Nat} (h : i < 1) : mh_Z G 10 i = some (.inr (.inl (G.2.1 0, 8))) := show (if i < 1 then some (.inr (.inl (G.2.1 0, 8)) : mh_E) else none) = some (.inr (.inl (G.2.1 0, 8))) from if_pos h
theorem zz11 {G : mh_G} {i : Nat} (h : i < 1) : mh_Z G 11 i = some (.inr (.inr (G.2.1 6, 12, G.2.2 31))) := show (if i < 1 then some (.inr (.inr (G.2.1 6, 12, G.2.2 31)) : mh_E) else none) = some (.inr (.inr (G.2.1 6, 12, G.2.2 31))) from if_pos h
theorem zz13 {G : mh_G} {i : Nat} (h : i < 1) : mh_Z G 13 i = some (.inl (8, 1, rr13 G i)) := show (if i < 1 then some (.inl (8, 1, rr13 G i) : mh_E) else none) = some (.inl (8, 1, rr13 G i)) from if_pos h
theorem zz14 {G : mh_G} {i : Nat} (h : i < 1) : mh_Z G 14 i = some (.inr (.inl (G.2.1 0, 6))) := show (if i < 1 then some (.inr (.inl (G.2.1 0, 6)) : mh_E) else none) = some (.inr (.inl (G.2.1 0, 6))) from if_pos h
theorem zz15 {G : mh_G} {i : Nat} (h : i < 1) : mh_Z G 15 i = some (.inl (2, 4, rr15 G i)) := show (if i < 1 then some (.inl (2, 4, rr15 G i) : mh_E) else none) = some (.inl (2, 4, rr15 G i)) from if_pos h
theorem zz16 {G : mh_G} {i : Nat} (h : i < 1) : mh_Z G 16 i = some (.inr (.inl (G.2.1 0, 5))) := show (if i < 1 then some (.inr (.inl (G.2.1 0, 5)) : mh_E) else none) = some (.inr (.inl (G.2.1 0, 5))) from if_pos h
theorem zz17 {G : mh_G} {i : Nat} (h : i < 1) : mh_Z G 17 i = some (.inr (.inl (G.2.1 0, 5))) := show (if i < 1 then some (.inr (.inl (G.2.1 0, 5)) : mh_E) else none) = some (.inr (.inl (G.2.1 0, 5))) from if_pos h
theorem zz18 {G : mh_G} {i : Nat} (h : i < 1) : mh_Z G 18 i = some (.inr (.inr (G.2.1 7, 6, G.2.2 19))) := show (if i < 1 then some (.inr (.inr (G.2.1 7, 6, G.2.2 19)) : mh_E) else none) = some (.inr (.inr (G.2.1 7, 6, G.2.2 19))) from if_pos h
theorem zz19 {G : mh_G} {i : Nat} (h : i < 6) : mh_Z G 19 i = some (.inr (.inl (G.2.1 0, 144))) := show (if i < 6 then some (.inr (.inl (G.2.1 0, 144)) : mh_E) else none) = some (.inr (.inl (G.2.1 0, 144))) from if_pos h
theorem zz20 {G : mh_G} {i : Nat} (h : i < 10) : mh_Z G 20 i = some (.inl (4, 7, rr20 G i)) := show (if i < 10 then some (.inl (4, 7, rr20 G i) : mh_E) else none) = some (.inl (4, 7, rr20 G i)) from if_pos h
theorem zz21 {G : mh_G} {i : Nat} (h : i < 10) : mh_Z G 21 i = some (.inr (.inl (G.2.1 0, 2))) := show (if i < 10 then some (.inr (.inl (G.2.1 0, 2)) : mh_E) else none) = some (.inr (.inl (G.2.1 0, 2))) from if_pos h
theorem zz22 {G : mh_G} {i : Nat} (h : i < 10) : mh_Z G 22 i = some (.inr (.inl (G.2.1 0, 4))) := show (if i < 10 then some (.inr (.inl (G.2.1 0, 4)) : mh_E) else none) = some (.inr (.inl (G.2.1 0, 4))) from if_pos h
theorem zz23 {G : mh_G} {i : Nat} (h : i < 12) : mh_Z G 23 i = some (.inl (6, 4, rr23 G i)) := show (if i < 12 then some (.inl (6, 4, rr23 G i) : mh_E) else none) = some (.inl (6, 4, rr23 G i)) from if_pos h
theorem zz24 {G : mh_G} {i : Nat} (h : i < 12) : mh_Z G 24 i = some (.inr (.inl (G.2.1 0, 10))) := show (if i < 12 then some (.inr (.inl (G.2.1 0, 10)) : mh_E) else none) = some (.inr (.inl (G.2.1 0, 10))) from if_pos h
theorem zz25 {G : mh_G} {i : Nat} (h : i < 40) : mh_Z G 25 i = some (.inl (7, 5, rr25 G i)) := show (if i < 40 then some (.inl (7, 5, rr25 G i) : mh_E) else none) = some (.inl (7, 5, rr25 G i)) from if_pos h
theorem zz26 {G : mh_G} {i : Nat} (h : i < 40) : mh_Z G 26 i = some (.inr (.inl (G.2.1 0, 10))) := show (if i < 40 then some (.inr (.inl (G.2.1 0, 10)) : mh_E) else none) = some (.inr (.inl (G.2.1 0, 10))) from if_pos h
theorem zz27 {G : mh_G} {i : Nat} (h : i < 40) : mh_Z G 27 i = some (.inr (.inl (G.2.1 1, 10))) := show (if i < 40 then some (.inr (.inl (G.2.1 1, 10)) : mh_E) else none) = some (.inr (.inl (G.2.1 1, 10))) from if_pos h
theorem zz28 {G : mh_G} {i : Nat} (h : i < 40) : mh_Z G 28 i = some (.inr (.inl (G.2.1 0, 10))) := show (if i < 40 then some (.inr (.inl (G.2.1 0, 10)) : mh_E) else none) = some (.inr (.inl (G.2.1 0, 10))) from if_pos h
theorem zz29 {G : mh_G} {i : Nat} (h : i < 40) : mh_Z G 29 i = some (.inr (.inl (G.2.1 0, 10))) := show (if i < 40 then some (.inr (.inl (G.2.1 0, 10)) : mh_E) else none) = some (.inr (.inl (G.2.1 0, 10))) from if_pos h
theorem zz30 {G : mh_G} {i : Nat} (h : i < 40) : mh_Z G 30 i = some (.inl (0, 5, rr30 G i)) := show (if i < 40 then some (.inl (0, 5, rr30 G i) : mh_E) else none) = some (.inl (0, 5, rr30 G i)) from if_pos h
theorem zz31 {G : mh_G} {i : Nat} (h : i < 12) : mh_Z G 31 i = some (.inl (5, 4, rr31 G i)) := show (if i < 12 then some (.inl (5, 4, rr31 G i) : mh_E) else none) = some (.inl (5, 4, rr31 G i)) from if_pos h
theorem zz40 {G : mh_G} {i : Nat} (h : i < 1) : mh_Z G 40 i = some (.inl (10, 34, rr40 G i)) := show (if i < 1 then some (.inl (10, 34, rr40 G i) : mh_E) else none) = some (.inl (10, 34, rr40 G i)) from if_pos h
theorem zz42 {G : mh_G} {i : Nat} (h : i < 1) : mh_Z G 42 i = some (.inr (.inl (G.2.1 0, 10))) := show (if i < 1 then some (.inr (.inl (G.2.1 0, 10)) : mh_E) else none) = some (.inr (.inl (G.2.1 0, 10))) from if_pos h
theorem zz43 {G : mh_G} {i : Nat} (h : i < 1) : mh_Z G 43 i = some (.inr (.inl (G.2.1 0, 10))) := show (if i < 1 then some (.inr (.inl (G.2.1 0, 10)) : mh_E) else none) = some (.inr (.inl (G.2.1 0, 10))) from if_pos h
theorem zz44 {G : mh_G} {i : Nat} (h : i < 1) : mh_Z G 44 i = some (.inr (.inl (G.2.1 0, 10))) := show (if i < 1 then some (.inr (.inl (G.2.1 0, 10)) : mh_E) else none) = some (.inr (.inl (G.2.1 0, 10))) from if_pos h
theorem zz46 {G : mh_G} {i : Nat} (h : i < 1) : mh_Z G 46 i = some (.inr (.inl (G.2.1 0, 12))) := show (if i < 1 then some (.inr (.inl (G.2.1 0, 12)) : mh_E) else none) = some (.inr (.inl (G.2.1 0, 12))) from if_pos h
theorem zz47 {G : mh_G} {i : Nat} (h : i < 1) : mh_Z G 47 i = some (.inr (.inl (G.2.1 0, 120))) := show (if i < 1 then some (.inr (.inl (G.2.1 0, 120)) : mh_E) else none) = some (.inr (.inl (G.2.1 0, 120))) from if_pos h
theorem zz48 {G : mh_G} {i : Nat} (h : i < 1) : mh_Z G 48 i = some (.inr (.inl (G.2.1 1, 12))) := show (if i < 1 then some (.inr (.inl (G.2.1 1, 12)) : mh_E) else none) = some (.inr (.inl (G.2.1 1, 12))) from if_pos h
theorem zz49 {G : mh_G} {i : Nat} (h : i < 1) : mh_Z G 49 i = some (.inr (.inl (G.2.1 0, 7))) := show (if i < 1 then some (.inr (.inl (G.2.1 0, 7)) : mh_E) else none) = some (.inr (.inl (G.2.1 0, 7))) from if_pos h
theorem zz50 {G : mh_G} {i : Nat} (h : i < 1) : mh_Z G 50 i = some (.inr (.inl (G.2.1 0, 10))) := show (if i < 1 then some (.inr (.inl (G.2.1 0, 10)) : mh_E) else none) = some (.inr (.inl (G.2.1 0, 10))) from if_pos h
theorem zz51 {G : mh_G} {i : Nat} (h : i < 1) : mh_Z G 51 i = some (.inr (.inl (G.2.1 0, 20))) := show (if i < 1 then some (.inr (.inl (G.2.1 0, 20)) : mh_E) else none) = some (.inr (.inl (G.2.1 0, 20))) from if_pos h
theorem zz53 {G : mh_G} {i : Nat} (h : i < 1) : mh_Z G 53 i = some (.inr (.inl (G.2.1 0, 400))) := show (if i < 1 then some (.inr (.inl (G.2.1 0, 400)) : mh_E) else none) = some (.inr (.inl (G.2.1 0, 400))) from if_pos h
theorem zz54 {G : mh_G} {i : Nat} (h : i < 1) : mh_Z G 54 i = some (.inr (.inl (G.2.1 1, 400))) := show (if i < 1 then some (.inr (.inl (G.2.1 1, 400)) : mh_E) else none) = some (.inr (.inl (G.2.1 1, 400))) from if_pos h
theorem zz55 {G : mh_G} {i : Nat} (h : i < 1) : mh_Z G 55 i = some (.inr (.inl (G.2.1 0, 400))) := show (if i < 1 then some (.inr (.inl (G.2.1 0, 400)) : mh_E) else none) = some (.inr (.inl (G.2.1 0, 400))) from if_pos h
theorem zz56 {G : mh_G} {i : Nat} (h : i < 1) : mh_Z G 56 i = some (.inr (.inl (G.2.1 0, 400))) := show (if i < 1 then some (.inr (.inl (G.2.1 0, 400)) : mh_E) else none) = some (.inr (.inl (G.2.1 0, 400))) from if_pos h
theorem zz57 {G : mh_G} {i : Nat} (h : i < 1) : mh_Z G 57 i = some (.inr (.inl (G.2.1 0, 40))) := show (if i < 1 then some (.inr (.inl (G.2.1 0, 40)) : mh_E) else none) = some (.inr (.inl (G.2.1 0, 40))) from if_pos h
theorem zz58 {G : mh_G} {i : Nat} (h : i < 1) : mh_Z G 58 i = some (.inr (.inl (G.2.1 0, 50))) := show (if i < 1 then some (.inr (.inl (G.2.1 0, 50)) : mh_E) else none) = some (.inr (.inl (G.2.1 0, 50))) from if_pos h
theorem zz59 {G : mh_G} {i : Nat} (h : i < 1) : mh_Z G 59 i = some (.inr (.inl (G.2.1 0, 2))) := show (if i < 1 then some (.inr (.inl (G.2.1 0, 2)) : mh_E) else none) = some (.inr (.inl (G.2.1 0, 2))) from if_pos h
theorem zz61 {G : mh_G} {i : Nat} (h : i < 1) : mh_Z G 61 i = some (.inr (.inl (G.2.1 0, 240))) := show (if i < 1 then some (.inr (.inl (G.2.1 0, 240)) : mh_E) else none) = some (.inr (.inl (G.2.1 0, 240))) from if_pos h
theorem zz63 {G : mh_G} {i : Nat} (h : i < 1) : mh_Z G 63 i = some (.inr (.inl (G.2.1 0, 8))) := show (if i < 1 then some (.inr (.inl (G.2.1 0, 8)) : mh_E) else none) = some (.inr (.inl (G.2.1 0, 8))) from if_pos h
theorem zz64 {G : mh_G} {i : Nat} (h : i < 1) : mh_Z G 64 i = some (.inr (.inl (G.2.1 0, 8))) := show (if i < 1 then some (.inr (.inl (G.2.1 0, 8)) : mh_E) else none) = some (.inr (.inl (G.2.1 0, 8))) from if_pos h
theorem zz66 {G : mh_G} {i : Nat} (h : i < 1) : mh_Z G 66 i = some (.inr (.inl (G.2.1 0, 12))) := show (if i < 1 then some (.inr (.inl (G.2.1 0, 12)) : mh_E) else none) = some (.inr (.inl (G.2.1 0, 12))) from if_pos h
theorem zz67 {G : mh_G} {i : Nat} (h : i < 1) : mh_Z G 67 i = some (.inr (.inl (G.2.1 0, 12))) := show (if i < 1 then some (.inr (.inl (G.2.1 0, 12)) : mh_E) else none) = some (.inr (.inl (G.2.1 0, 12))) from if_pos h
theorem zz68 {G : mh_G} {i : Nat} (h : i < 1) : mh_Z G 68 i = some (.inr (.inl (G.2.1 0, 12))) := show (if i < 1 then some (.inr (.inl (G.2.1 0, 12)) : mh_E) else none) = some (.inr (.inl (G.2.1 0, 12))) from if_pos h
theorem zz69 {G : mh_G} {i : Nat} (h : i < 1) : mh_Z G 69 i = some (.inr (.inl (G.2.1 0, 12))) := show (if i < 1 then some (.inr (.inl (G.2.1 0, 12)) : mh_E) else none) = some (.inr (.inl (G.2.1 0, 12))) from if_pos h
theorem zz70 {G : mh_G} {i : Nat} (h : i < 1) : mh_Z G 70 i = some (.inr (.inl (G.2.1 0, 6))) := show (if i < 1 then some (.inr (.inl (G.2.1 0, 6)) : mh_E) else none) = some (.inr (.inl (G.2.1 0, 6))) from if_pos h
theorem zz72 {G : mh_G} {i : Nat} (h : i < 1) : mh_Z G 72 i = some (.inr (.inl (G.2.1 0, 5))) := show (if i < 1 then some (.inr (.inl (G.2.1 0, 5)) : mh_E) else none) = some (.inr (.inl (G.2.1 0, 5))) from if_pos h
theorem zz73 {G : mh_G} {i : Nat} (h : i < 1) : mh_Z G 73 i = some (.inr (.inl (G.2.1 0, 5))) := show (if i < 1 then some (.inr (.inl (G.2.1 0, 5)) : mh_E) else none) = some (.inr (.inl (G.2.1 0, 5))) from if_pos h
theorem zz74 {G : mh_G} {i : Nat} (h : i < 1) : mh_Z G 74 i = some (.inr (.inl (G.2.1 0, 900))) := show (if i < 1 then some (.inr (.inl (G.2.1 0, 900)) : mh_E) else none) = some (.inr (.inl (G.2.1 0, 900))) from if_pos h
def mh_Pw (G : mh_G) (M : mh_M) (H : Heap) : Prop := ∀ (t i : Nat) (sh : mh_E), mh_Z G t i = some sh → va_at G.1 vwCl (G.2.2 t i, mh_e sh (M t i)) H
def mh_inj (G : mh_G) : Prop := ∀ (t i t' i' : Nat) (sh sh' : mh_E), mh_Z G t i = some sh → mh_Z G t' i' = some sh' → G.2.2 t i = G.2.2 t' i' → t = t' ∧ i = i'
def mh_dom (G : mh_G) (q : Nat) : Prop := ∃ (t i : Nat) (sh : mh_E), mh_Z G t i = some sh ∧ G.2.2 t i = q
def mh_tys (G : mh_G) : List (ClassId × FieldType) := [(G.2.1 0, .int), (G.2.1 1, .boolean), (G.2.1 2, .object "BarMeasure$Kind"), (G.2.1 3, .object "BarMeasure$Recipe"), (G.2.1 4, .object "BarMeasure$Sheet"), (G.2.1 5, .object "BarMeasure$Act"), (G.2.1 6, .object "BarMeasure$PriceRule"), (G.2.1 7, .array .int)]
def mh_B (G : mh_G) (M : mh_M) (U : State) : Prop := mh_inj G ∧ mh_Pw G M U.heap ∧ va_K G.1 vwCl (mh_tys G) U
theorem mh_e_get {ci N k : Nat} {r : Nat → Option Nat} {f : Nat → Int32} (hk : k < N) : ((List.range N).map (mh_f r f))[k]? = some (mh_f r f k) := by
  rw [List.getElem?_map, List.getElem?_range hk]
  rfl
theorem mh_up_self (M : mh_M) (t i k : Nat) (v : Int32) : mh_up M t i k v t i k = v := by simp [mh_up]
theorem mh_up_row (M : mh_M) (t i k : Nat) (v : Int32) : mh_up M t i k v t i = upd (M t i) k v := by
  funext j
  by_cases h : j = k
  · simp [mh_up, upd, h]
  · simp [mh_up, upd, h]
theorem mh_up_other {M : mh_M} {t i k t' i' : Nat} {v : Int32} (h : ¬ (t' = t ∧ i' = i)) : mh_up M t i k v t' i' = M t' i' := by
  funext j
  simp only [mh_up]
  rw [if_neg (fun q => h ⟨q.1, q.2.1⟩)]
theorem mh_e_set {N k : Nat} {r : Nat → Option Nat} {f : Nat → Int32} {v : Int32} (hk : k < N) (hr : r k = none) : ((List.range N).map (mh_f r f)).set k (.int v) = (List.range N).map (mh_f r (upd f k v)) := by
  apply List.ext_getElem?
  intro j
  by_cases hj : j = k
  · subst hj
    rw [List.getElem?_set_self (by simpa using hk), mh_e_get (ci := 0) hk]
    simp [mh_f, hr, upd]
  · rw [List.getElem?_set_ne (Ne.symm hj)]
    by_cases hn : j < N
    · rw [mh_e_get (ci := 0) hn, mh_e_get (ci := 0) hn]
      simp [mh_f, upd, hj]
    · rw [List.getElem?_eq_none (by simpa using hn), List.getElem?_eq_none (by simpa using hn)]
/-- a cell is written anew: the memory has the new number, all else stays -/
theorem mh_Pw_put {G : mh_G} {M : mh_M} {H H1 : Heap} {t i k : Nat} {v : Int32} {sh : mh_E} (hG : mh_inj G) (hP : mh_Pw G M H) (hz : mh_Z G t i = some sh) (hn : va_at G.1 vwCl (G.2.2 t i, mh_e sh (upd (M t i) k v)) H1) (ho : ∀ q : Nat, q ≠ G.2.2 t i → H1[q]? = H[q]?) : mh_Pw G (mh_up M t i k v) H1 := by
  intro t' i' sh' hz'
  by_cases h : t' = t ∧ i' = i
  · obtain ⟨rfl, rfl⟩ := h
    rw [hz] at hz'
    cases hz'
    rw [mh_up_row]
    exact hn
  · rw [mh_up_other h]
    exact (hP t' i' sh' hz').kept (ho _ (fun q => h (hG t' i' t i sh' sh hz' hz q)))
/-- the machine at a method's body, as one -/
abbrev mh_X : Type _ := Program × Launch × Env × State × MethodId × Array Value × List Frame × Method × Code × Nat × Nat × (State → Prop) × mh_G
abbrev xp (X : mh_X) : Program := X.1
abbrev xl (X : mh_X) : Launch := X.2.1
abbrev xe (X : mh_X) : Env := X.2.2.1
abbrev xs (X : mh_X) : State := X.2.2.2.1
abbrev xm (X : mh_X) : MethodId := X.2.2.2.2.1
abbrev xa (X : mh_X) : Array Value := X.2.2.2.2.2.1
abbrev xb (X : mh_X) : List Frame := X.2.2.2.2.2.2.1
abbrev xt (X : mh_X) : Method := X.2.2.2.2.2.2.2.1
abbrev xc (X : mh_X) : Code := X.2.2.2.2.2.2.2.2.1
abbrev xk (X : mh_X) : Nat := X.2.2.2.2.2.2.2.2.2.1
abbrev xn (X : mh_X) : Nat := X.2.2.2.2.2.2.2.2.2.2.1
abbrev xq (X : mh_X) : State → Prop := X.2.2.2.2.2.2.2.2.2.2.2.1
abbrev xg (X : mh_X) : mh_G := X.2.2.2.2.2.2.2.2.2.2.2.2
/-- an address -/
abbrev xad (X : mh_X) (t i : Nat) : Nat := (xg X).2.2 t i
def mh_C (X : mh_X) (R : Room) (cc : ByteArray) (ws : List Cond) (own : String) (nL : Nat) : Prop :=
  (xp X).tables.exec = Jvm.exec ∧ (xc X).code = cc ∧ (∀ w ∈ ws, w.before (xa X) (xs X) = true) ∧ (xs X).vm.findClass own = some (xm X).cls ∧ mh_inj (xg X) ∧ va_K (xg X).1 vwCl (mh_tys (xg X)) (xs X) ∧ (xc X).maxLocals = nL ∧ xk X ≤ R.cells ∧ xn X ≤ R.slots
/-- what the method computes, and the marks in it: a named value, a test that must hold, a call -/
def pl {α β : Type} (a : α) (k : α → β) : β := k a
def ck {α : Type} (b : Bool) (o : Option α) : Option α := match b with
  | true => o
  | false => none
def bd {α β : Type} (o : Option α) (k : α → Option β) : Option β := match o with
  | none => none
  | some a => k a
def inb (i : Int32) (n : Nat) : Bool := decide (¬ (i < 0 ∨ n ≤ i.toNatClampNeg))
theorem inb_in {i : Int32} {n : Nat} (h : inb i n = true) : vp_in i n := (of_decide_eq_true h : ¬ (i < 0 ∨ n ≤ i.toNatClampNeg))
theorem inb_lt {i : Int32} {n : Nat} (h : inb i n = true) : i.toNatClampNeg < n := Nat.not_le.mp fun q => (of_decide_eq_true h : ¬ (i < 0 ∨ n ≤ i.toNatClampNeg)) (Or.inr q)
/-- from here on, if the rest of the computation gives z, the machine comes to its end, from every heap of which Wd says what it says -/
def mw_W {ρ : Type} (X : mh_X) (R : Room) (nL : Nat) (o : Option ρ) (z : ρ) (Wd : Heap → List Loc → Prop) (pc : Nat) (L : List (Nat × Value)) (st : List Value) : Prop :=
  o = some z → ∀ (H : Heap) (locs : List Loc), Wd H locs → ∀ ls : Array Slot, lv_has ls nL L →
    W (xp X) (xl X) (xe X) R (xs X) (xm X) (xa X) (xb X) (xt X) (xc X) H locs (xk X) (xn X) (xq X) (F0 (xm X) pc ls st)
def mh_wd (X : mh_X) (M : mh_M) (H : Heap) (locs : List Loc) : Prop := mh_Pw (xg X) M H ∧ va_S (mh_dom (xg X)) (xs X).heap H locs
abbrev mh_W {ρ : Type} (X : mh_X) (R : Room) (nL : Nat) (o : Option ρ) (z : ρ) (M : mh_M) (pc : Nat) (L : List (Nat × Value)) (st : List Value) : Prop := mw_W X R nL o z (mh_wd X M) pc L st
