/-! THE CORE: one word list for all methods, a memory of numbers for the cells, V: the machine at a frame over a memory, and a row an instruction. -/
def GW : List Cond := lw_tbl.filter goodWord
theorem gw_in {w : Cond} (i : Nat) (h : lw_tbl[i]? = some w) (hg : goodWord w = true) : w ∈ GW := List.mem_filter.mpr ⟨List.mem_of_getElem? h, hg⟩
theorem gw_good {a b : Cond} (hb : b ∈ GW) : GoodIn (a :: GW) (b :: GW) := by
  intro w hw
  rcases List.mem_cons.mp hw with rfl | h
  · exact ⟨List.mem_cons_of_mem _ hb, good_of_word (List.mem_filter.mp hb).2⟩
  · exact ⟨List.mem_cons_of_mem _ h, good_of_word (List.mem_filter.mp h).2⟩
theorem gw_app {a : Cond} {xs ys : List Cond} (hx : ∀ w ∈ xs, w ∈ GW) (hy : GoodIn (a :: GW) ys) : GoodIn (a :: GW) (xs ++ ys) := by
  intro w hw
  rcases List.mem_append.mp hw with h | h
  · exact ⟨List.mem_cons_of_mem _ (hx w h), good_of_word (List.mem_filter.mp (hx w h)).2⟩
  · exact hy w h
/-- the memory: numbers (small, never below 0), ints, longs; by kind of cell, its number, its place -/
abbrev Mem : Type := (Nat → Nat → Nat → Nat) × (Nat → Nat → Nat → Int32) × (Nat → Nat → Nat → Int64)
/-- class numbers, slots, array classes, addresses -/
abbrev Gm : Type := (Nat → ClassId) × (Nat → Nat → Nat) × (Nat → ClassId) × (Nat → Nat → Nat)
def ad (G : Gm) (k i : Nat) : Nat := G.2.2.2 k i
def u3 {α : Type} (f : Nat → Nat → Nat → α) (k i j : Nat) (v : α) : Nat → Nat → Nat → α := fun a b c => if a = k ∧ b = i ∧ c = j then v else f a b c
def gN (M : Mem) (k i j : Nat) : Nat := M.1 k i j
def gI (M : Mem) (k i j : Nat) : Int32 := M.2.1 k i j
def gJ (M : Mem) (k i j : Nat) : Int64 := M.2.2 k i j
def sN (M : Mem) (k i j : Nat) (v : Nat) : Mem := (u3 M.1 k i j v, M.2.1, M.2.2)
def sI (M : Mem) (k i j : Nat) (v : Int32) : Mem := (M.1, u3 M.2.1 k i j v, M.2.2)
def sJ (M : Mem) (k i j : Nat) (v : Int64) : Mem := (M.1, M.2.1, u3 M.2.2 k i j v)
theorem gNN (M : Mem) (k i j v a b c : Nat) : gN (sN M k i j v) a b c = if a = k ∧ b = i ∧ c = j then v else gN M a b c := rfl
theorem gNI (M : Mem) (k i j : Nat) (v : Int32) (a b c : Nat) : gN (sI M k i j v) a b c = gN M a b c := rfl
theorem gNJ (M : Mem) (k i j : Nat) (v : Int64) (a b c : Nat) : gN (sJ M k i j v) a b c = gN M a b c := rfl
theorem gIN (M : Mem) (k i j v a b c : Nat) : gI (sN M k i j v) a b c = gI M a b c := rfl
theorem gII (M : Mem) (k i j : Nat) (v : Int32) (a b c : Nat) : gI (sI M k i j v) a b c = if a = k ∧ b = i ∧ c = j then v else gI M a b c := rfl
theorem gIJ (M : Mem) (k i j : Nat) (v : Int64) (a b c : Nat) : gI (sJ M k i j v) a b c = gI M a b c := rfl
theorem gJN (M : Mem) (k i j v a b c : Nat) : gJ (sN M k i j v) a b c = gJ M a b c := rfl
theorem gJI (M : Mem) (k i j : Nat) (v : Int32) (a b c : Nat) : gJ (sI M k i j v) a b c = gJ M a b c := rfl
theorem gJJ (M : Mem) (k i j : Nat) (v : Int64) (a b c : Nat) : gJ (sJ M k i j v) a b c = if a = k ∧ b = i ∧ c = j then v else gJ M a b c := rfl
/-- an int array of numbers, of ints; a long array; arrays of cells -/
def aN (G : Gm) (n : Nat) (N : Nat → Nat) : va_E := .inl (G.2.2.1 0, n, .inl (fun j => nI (N j)))
def aI (G : Gm) (n : Nat) (I : Nat → Int32) : va_E := .inl (G.2.2.1 0, n, .inl I)
def aJ (G : Gm) (n : Nat) (J : Nat → Int64) : va_E := .inl (G.2.2.1 1, n, .inr (.inl J))
def aR (G : Gm) (t k n : Nat) : va_E := .inl (G.2.2.1 t, n, .inr (.inr (.inr (.inr (fun j => some (ad G k j))))))
/-- what a cell holds, by its kind -/
def encL (G : Gm) (k i : Nat) (N : Nat → Nat) (I : Nat → Int32) (J : Nat → Int64) : va_E := match k with
  | 0 => .inr (9, [.ref (ad G 1 0), .ref (ad G 2 0), .ref (ad G 3 0), .ref (ad G 4 0)])
  | 1 => .inr (5, [.ref (ad G 5 0), .int (nI (N 1))])
  | 2 => .inr (2, [.ref (ad G 1 0), .ref (ad G 6 0), .ref (ad G 7 0), .int (nI (N 3)), .int (I 4), .int (I 5), .int (I 6)])
  | 3 => .inr (3, [])
  | 4 => .inr (6, [])
  | 5 => aR G 2 10 6
  | 6 => aR G 3 30 12
  | 7 => .inr (8, [.int (nI (N 0)), .int (nI (N 1)), .int (nI (N 2)), .int (I 3), .int (nI (N 4)), .int (nI (N 5)), .int (nI (N 6)), .int (I 7), .int (nI (N 8)), .long (J 9)])
  | 10 => .inr (0, [.ref (ad G 11 i), .ref (ad G 12 i), .ref (ad G 13 i), .ref (ad G 14 i), .int (nI (N 4)), .ref (ad G 15 i), .ref (ad G 16 i), .ref (ad G 17 i), .ref (ad G 18 i), .int (nI (N 9)), .ref (ad G 19 i)])
  | 11 => aN G 40 N
  | 12 => aN G 40 N
  | 13 => aN G 40 N
  | 14 => aJ G 40 J
  | 15 => aN G 4 N
  | 16 => aN G 4 N
  | 17 => aN G 4 N
  | 18 => aI G 4 I
  | 19 => .inr (4, [.ref (ad G 20 i), .ref (ad G 21 i), .ref (ad G 22 i), .ref (ad G 23 i), .ref (ad G 24 i), .int (nI (N 5)), .int (nI (N 6)), .int (nI (N 7))])
  | 20 => aN G 70 N
  | 21 => aN G 70 N
  | 22 => aI G 70 I
  | 23 => aN G 41 N
  | 24 => aN G 4 N
  | 30 => .inr (1, [.ref (ad G 31 i), .ref (ad G 32 i), .ref (ad G 33 i), .ref (ad G 10 (N 3)), .int (nI (N 4)), .int (nI (N 5)), .int (nI (N 6)), .int (nI (N 7)), .int (I 8)])
  | 31 => aJ G 4 J
  | 32 => aN G 3 N
  | 33 => .inr (7, [.ref (ad G 34 i), .int (I 1), .int (nI (N 2))])
  | 34 => aJ G 200 J
  | 40 => .inr (10, [.int (nI (N 0)), .ref (ad G 41 0), .ref (ad G 42 0), .ref (ad G 43 0), .ref (ad G 44 0), .ref (ad G 45 0), .ref (ad G 46 0), .ref (ad G 47 0), .ref (ad G 48 0), .ref (ad G 49 0), .ref (ad G 50 0), .int (nI (N 11)), .ref (ad G 51 0), .ref (ad G 52 0), .ref (ad G 53 0), .ref (ad G 54 0), .ref (ad G 55 0), .ref (ad G 56 0), .ref (ad G 57 0), .ref (ad G 58 0), .ref (ad G 59 0), .ref (ad G 60 0), .int (nI (N 22)), .int (nI (N 23)), .int (nI (N 24)), .int (nI (N 25)), .int (nI (N 26)), .int (I 27), .long (J 28), .int (nI (N 29)), .int (nI (N 30)), .int (nI (N 31)), .int (nI (N 32)), .int (I 33), .int (I 34), .int (nI (N 35)), .ref (ad G 61 0), .ref (ad G 62 0), .ref (ad G 63 0), .int (nI (N 39))])
  | 41 => aN G 6 N
  | 42 => aN G 240 N
  | 43 => aN G 240 N
  | 44 => aN G 240 N
  | 45 => aJ G 240 J
  | 46 => aN G 6 N
  | 47 => aN G 24 N
  | 48 => aN G 24 N
  | 49 => aN G 24 N
  | 50 => aI G 24 I
  | 51 => aN G 12 N
  | 52 => aN G 12 N
  | 53 => aJ G 48 J
  | 54 => aI G 12 I
  | 55 => aN G 12 N
  | 56 => aN G 12 N
  | 57 => aN G 12 N
  | 58 => aI G 12 I
  | 59 => aN G 36 N
  | 60 => aJ G 256 J
  | 61 => aN G 70 N
  | 62 => aN G 70 N
  | 63 => aI G 70 I
  | _ => .inr (3, [])
def enc (G : Gm) (M : Mem) (k i : Nat) : va_E := encL G k i (gN M k i) (gI M k i) (gJ M k i)
/-- the world of the cells ro over a memory -/
def wl (G : Gm) (ro : List (Nat × Nat)) (M : Mem) : va_W := ro.map (fun q => (ad G q.1 q.2, enc G M q.1 q.2))
def Inj (G : Gm) (ro : List (Nat × Nat)) : Prop := ro.Nodup ∧ ∀ q ∈ ro, ∀ q' ∈ ro, ad G q.1 q.2 = ad G q'.1 q'.2 → q = q'
def AA (G : Gm) (ro : List (Nat × Nat)) (sz : Nat) : Nat → Prop := fun a => (∃ q ∈ ro, a = ad G q.1 q.2) ∨ sz ≤ a
theorem wl_at {G : Gm} {ro : List (Nat × Nat)} {M : Mem} {k i : Nat} (h : (k, i) ∈ ro) : ∃ n : Nat, ro[n]? = some (k, i) ∧ (wl G ro M)[n]? = some (ad G k i, enc G M k i) := by
  obtain ⟨n, hn⟩ := List.getElem?_of_mem h
  exact ⟨n, hn, by simp [wl, List.getElem?_map, hn]⟩
theorem wl_D {G : Gm} {ro : List (Nat × Nat)} {M : Mem} {sz : Nat} (h : Inj G ro) : va_D (AA G ro sz) (wl G ro M) := by
  obtain ⟨hnd, hinj⟩ := h
  constructor
  · intro i j p q hp hq e
    simp only [wl, List.getElem?_map, Option.map_eq_some_iff] at hp hq
    obtain ⟨a, ha, rfl⟩ := hp
    obtain ⟨b, hb, rfl⟩ := hq
    have hab := hinj a (List.mem_of_getElem? ha) b (List.mem_of_getElem? hb) e
    subst hab
    obtain ⟨hi, ha'⟩ := List.getElem?_eq_some_iff.mp ha
    exact (List.getElem?_inj hi hnd).mp (ha.trans hb.symm)
  · intro k q hq
    simp only [wl, List.getElem?_map, Option.map_eq_some_iff] at hq
    obtain ⟨a, ha, rfl⟩ := hq
    exact Or.inl ⟨a, List.mem_of_getElem? ha, rfl⟩
theorem wl_set {G : Gm} {ro : List (Nat × Nat)} {M M' : Mem} {k i n : Nat} (hnd : ro.Nodup) (hn : ro[n]? = some (k, i)) (hl : ∀ a b, (a, b) ≠ (k, i) → enc G M' a b = enc G M a b) : (wl G ro M).set n (ad G k i, enc G M' k i) = wl G ro M' := by
  apply List.ext_getElem?
  intro j
  rw [List.getElem?_set]
  obtain ⟨hlt, hval⟩ := List.getElem?_eq_some_iff.mp hn
  by_cases h : n = j
  · subst h
    simp [wl, hlt, hval]
  · rw [if_neg h]
    simp only [wl, List.getElem?_map]
    cases hj : ro[j]? with
    | none => rfl
    | some q =>
      obtain ⟨a, b⟩ := q
      have hne : (a, b) ≠ (k, i) := by
        intro e
        exact h ((List.getElem?_inj hlt hnd).mp (by rw [hn, hj, e]))
      simp [hl a b hne]
theorem u3_ne {α : Type} {f : Nat → Nat → Nat → α} {k i j a b : Nat} {v : α} (h : (a, b) ≠ (k, i)) : u3 f k i j v a b = f a b := by
  funext c
  unfold u3
  rw [if_neg]
  rintro ⟨rfl, rfl, -⟩
  exact h rfl
theorem u3_eq {α : Type} {f : Nat → Nat → Nat → α} {k i j : Nat} {v : α} : u3 f k i j v k i = fun c => if c = j then v else f k i c := by
  funext c
  unfold u3
  simp
theorem enc_sN {G : Gm} {M : Mem} {k i j v a b : Nat} (h : (a, b) ≠ (k, i)) : enc G (sN M k i j v) a b = enc G M a b := by
  show encL G a b (u3 M.1 k i j v a b) (M.2.1 a b) (M.2.2 a b) = encL G a b (M.1 a b) (M.2.1 a b) (M.2.2 a b)
  rw [u3_ne h]
theorem enc_sI {G : Gm} {M : Mem} {k i j a b : Nat} {v : Int32} (h : (a, b) ≠ (k, i)) : enc G (sI M k i j v) a b = enc G M a b := by
  show encL G a b (M.1 a b) (u3 M.2.1 k i j v a b) (M.2.2 a b) = encL G a b (M.1 a b) (M.2.1 a b) (M.2.2 a b)
  rw [u3_ne h]
theorem enc_sJ {G : Gm} {M : Mem} {k i j a b : Nat} {v : Int64} (h : (a, b) ≠ (k, i)) : enc G (sJ M k i j v) a b = enc G M a b := by
  show encL G a b (M.1 a b) (M.2.1 a b) (u3 M.2.2 k i j v a b) = encL G a b (M.1 a b) (M.2.1 a b) (M.2.2 a b)
  rw [u3_ne h]
theorem enc_sN' {G : Gm} {M : Mem} {k i j v : Nat} : enc G (sN M k i j v) k i = encL G k i (fun c => if c = j then v else gN M k i c) (gI M k i) (gJ M k i) := by
  show encL G k i (u3 M.1 k i j v k i) (M.2.1 k i) (M.2.2 k i) = _
  rw [u3_eq]; rfl
theorem enc_sI' {G : Gm} {M : Mem} {k i j : Nat} {v : Int32} : enc G (sI M k i j v) k i = encL G k i (gN M k i) (fun c => if c = j then v else gI M k i c) (gJ M k i) := by
  show encL G k i (M.1 k i) (u3 M.2.1 k i j v k i) (M.2.2 k i) = _
  rw [u3_eq]; rfl
theorem enc_sJ' {G : Gm} {M : Mem} {k i j : Nat} {v : Int64} : enc G (sJ M k i j v) k i = encL G k i (gN M k i) (gI M k i) (fun c => if c = j then v else gJ M k i c) := by
  show encL G k i (M.1 k i) (M.2.1 k i) (u3 M.2.2 k i j v k i) = _
  rw [u3_eq]; rfl
/-- the array classes of the world -/
abbrev tys (G : Gm) : List (ClassId × FieldType) := [(G.2.2.1 0, .int), (G.2.2.1 1, .long), (G.2.2.1 2, .object "StepMarks$Code"), (G.2.2.1 3, .object "StepMarks$Frame")]
/-- words that don't lie in GW: links among nest mates -/
def isNest : Cond → Bool
  | .fieldLinkNest .. => true
  | .methodLinkNest .. => true
  | _ => false
def NestW : List Cond := lw_tbl.filter isNest
theorem nw_in {w : Cond} (i : Nat) (h : lw_tbl[i]? = some w) (hg : isNest w = true) : w ∈ NestW := List.mem_filter.mpr ⟨List.mem_of_getElem? h, hg⟩
abbrev pcM (n d : String) : MethodName := ⟨"StepMarks$Pacer", n, d⟩
def FwAll (U : State) : Prop :=
  (va_Fw RX3 (pcM "enter" "(LStepMarks$Frame;LStepMarks$Tally;)Z") yX3_enter U ∧ va_Fw RX7 (pcM "enter" "(LStepMarks$Frame;LStepMarks$Tally;)Z") yX7_enter U) ∧
  (va_Fw RX3 (pcM "fetch" "(LStepMarks$Frame;LStepMarks$Tally;)Z") yX3_fetch U ∧ va_Fw RX7 (pcM "fetch" "(LStepMarks$Frame;LStepMarks$Tally;)Z") yX7_fetch U) ∧
  (va_Fw RX3 (pcM "jump" "(LStepMarks$Frame;LStepMarks$Tally;)Z") yX3_jump U ∧ va_Fw RX7 (pcM "jump" "(LStepMarks$Frame;LStepMarks$Tally;)Z") yX7_jump U) ∧
  (va_Fw RX3 (pcM "take" "(LStepMarks$Frame;ILStepMarks$Tally;)Z") yX3_take U ∧ va_Fw RX7 (pcM "take" "(LStepMarks$Frame;ILStepMarks$Tally;)Z") yX7_take U)
/-- what stands of the tables -/
def Kx (G : Gm) (U : State) : Prop := va_K (G.1, G.2.1) vwCl (tys G) U ∧ (∀ w ∈ NestW, va_Nw w U) ∧ FwAll U
theorem FwAll.moved {u U : State} (hvm : u.vm.Alike U.vm) (h : FwAll u) : FwAll U := by
  obtain ⟨⟨a1, a2⟩, ⟨a3, a4⟩, ⟨a5, a6⟩, a7, a8⟩ := h
  have hd : ("StepMarks$Pacer" : String) ≠ "java/lang/invoke/MethodHandle" ∧ ("StepMarks$Pacer" : String) ≠ "java/lang/invoke/VarHandle" := by decide +kernel
  exact ⟨⟨va_Fw.moved hd hvm a1, va_Fw.moved hd hvm a2⟩, ⟨va_Fw.moved hd hvm a3, va_Fw.moved hd hvm a4⟩, ⟨va_Fw.moved hd hvm a5, va_Fw.moved hd hvm a6⟩, va_Fw.moved hd hvm a7, va_Fw.moved hd hvm a8⟩
theorem Kx.warm {G : Gm} {s U : State} (hW : s.WarmedH U.vm) (h : Kx G s) : Kx G U := by
  refine ⟨va_K.moved hW.alike h.1, fun w hw => ?_, FwAll.moved hW.alike h.2.2⟩
  have h1 := h.2.1 w hw
  have h2 := (List.mem_filter.mp hw).2
  cases w <;> first | (simp [isNest] at h2; done) | exact va_Nw.warmF hW h1 | exact va_Nw.warmM hW h1
theorem Kx.calling {G : Gm} {U : State} (g : JFrame) (mk : MethodId) (a : Array Value) (h : Kx G U) : Kx G (U.calling g mk a) := by
  refine ⟨va_K.moved (u := U) (U := U.calling g mk a) (Vm.Alike.refl U.vm) h.1, fun w hw => ?_, FwAll.moved (u := U) (U := U.calling g mk a) (Vm.Alike.refl U.vm) h.2.2⟩
  have h1 := h.2.1 w hw
  have h2 := (List.mem_filter.mp hw).2
  cases w <;> first | (simp [isNest] at h2; done) | exact va_Nw.same (u := U) (U := U.calling g mk a) rfl rfl h1
