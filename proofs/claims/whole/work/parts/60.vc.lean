/-! constructors: a world that grows -/
def Kx2 (G : Gm) (U : State) : Prop := Kx G U ∧ va_AO "StepMarks$Code" U ∧ va_AO "StepMarks$Frame" U
theorem Kx2.warm {G : Gm} {s U : State} (hW : s.WarmedH U.vm) (h : Kx2 G s) : Kx2 G U := ⟨Kx.warm hW h.1, va_AO.moved hW.alike h.2.1, va_AO.moved hW.alike h.2.2⟩
theorem Kx2.calling {G : Gm} {U : State} (g : JFrame) (mk : MethodId) (a : Array Value) (h : Kx2 G U) : Kx2 G (U.calling g mk a) := ⟨Kx.calling g mk a h.1, va_AO.moved (u := U) (U := U.calling g mk a) (Vm.Alike.refl U.vm) h.2.1, va_AO.moved (u := U) (U := U.calling g mk a) (Vm.Alike.refl U.vm) h.2.2⟩
def CxI (p : Program) (s : State) (m : MethodId) (args : Array Value) (meth : Method) (c : Code) (cc : ByteArray) (own : String) (nL : Nat) (G : Gm) (a0 : Cond) (A : Nat → Prop) : Prop :=
  p.tables.exec = Jvm.exec ∧ c.code = cc ∧ c.maxLocals = nL ∧ s.vm.findClass own = some m.cls ∧ (∀ w ∈ a0 :: GW, w.before args s = true) ∧ Kx2 G s ∧ (∀ q, s.heap.size ≤ q → A q) ∧ meth.name = "<init>"
def VC (p : Program) (l : Launch) (e : Env) (R : Room) (s : State) (m : MethodId) (args : Array Value) (below : List Frame) (meth : Method) (c : Code) (G : Gm) (A : Nat → Prop) (nL : Nat) (Q : State → Prop) (cells slots : Nat) (ws : va_W) (pc : Nat) (lv : List (Nat × Value)) (st : List Value) : Prop :=
  ∀ (H : Heap) (locs : List Loc) (ls : Array Slot), va_P (G.1, G.2.1) vwCl ws H → va_D A ws → va_S A s.heap H locs → lv_has ls nL lv → W p l e R s m args below meth c H locs cells slots Q (F0 m pc ls st)
def PcI (G : Gm) (w0 : va_W) (sz : Nat) (U : State) : Prop := U.heap.size = sz ∧ va_P (G.1, G.2.1) vwCl w0 U.heap ∧ Kx2 G U ∧ va_D (fun _ => True) w0
def CtI (l : Launch) (G : Gm) (y : MethodName) (ws : List Cond) (rm : Room) (av : List Value) (w0 : va_W) (post : va_W → Prop) : Prop :=
  ∀ sz : Nat, Met l y ws rm (va_Pc av (PcI G w0 sz)) (va_Qv (S := va_W) post (fun w1 t => va_P (G.1, G.2.1) vwCl w1 t.heap ∧ va_D (va_A w0 sz) w1) (va_A w0 sz)) rm.cells rm.slots (va_A w0 sz)
theorem PcI_blind {G : Gm} {w0 : va_W} {av : List Value} {sz : Nat} : FrameBlind (va_Pc av (PcI G w0 sz)) := by
  intro a U g mk h
  obtain ⟨h0, h1, h2, h3, h4⟩ := h
  exact ⟨h0, h1, h2, Kx2.calling g mk a h3, h4⟩
theorem va_D_iff {A : Nat → Prop} {ws : va_W} : va_D A ws ↔ (ws.map (fun q => q.1)).Nodup ∧ ∀ q ∈ ws, A q.1 := by
  constructor
  · intro h
    refine ⟨?_, fun q hq => ?_⟩
    · show List.Pairwise (· ≠ ·) _
      rw [List.pairwise_iff_getElem]
      intro i j hi hj hij e
      simp only [List.length_map] at hi hj
      simp only [List.getElem_map] at e
      have := h.1 i j _ _ (List.getElem?_eq_getElem hi) (List.getElem?_eq_getElem hj) e
      omega
    · obtain ⟨i, hi⟩ := List.getElem?_of_mem hq
      exact h.2 i q hi
  · intro h
    refine ⟨fun i j p q hp hq e => ?_, fun k q hq => h.2 q (List.mem_of_getElem? hq)⟩
    have hi := (List.getElem?_eq_some_iff.mp hp).1
    have e1 : (ws.map (fun q => q.1))[i]? = some p.1 := by rw [List.getElem?_map, hp]; rfl
    have e2 : (ws.map (fun q => q.1))[j]? = some q.1 := by rw [List.getElem?_map, hq]; rfl
    exact (List.getElem?_inj (by rw [List.length_map]; exact hi) h.1).mp (by rw [e1, e2, e])
theorem va_D_perm {A : Nat → Prop} {ws ws' : va_W} (h : va_D A ws) (hp : ws.Perm ws') : va_D A ws' := by
  rw [va_D_iff] at h ⊢
  exact ⟨((hp.map _).nodup_iff).mp h.1, fun q hq => h.2 q (hp.mem_iff.mpr hq)⟩
theorem va_P_mem {D : va_G} {cl : List vw_C} {ws ws' : va_W} {H : Heap} (h : va_P D cl ws H) (hm : ∀ q ∈ ws', q ∈ ws) : va_P D cl ws' H := by
  intro k q hq
  obtain ⟨i, hi⟩ := List.getElem?_of_mem (hm q (List.mem_of_getElem? hq))
  exact h i q hi
theorem perm_idx {α : Type} {l : List α} {is : List Nat} (n : Nat) (h : is.Perm (List.range n)) {l' : List α} (h1 : (List.range n).filterMap (fun i => l[i]?) = l) (h2 : is.filterMap (fun i => l[i]?) = l') : l.Perm l' := by
  have := h.filterMap (fun i => l[i]?)
  rw [h1, h2] at this
  exact this.symm
section VCR
variable {p : Program} {l : Launch} {e : Env} {R : Room} {s : State} {m : MethodId} {args : Array Value} {below : List Frame} {meth : Method} {c : Code} {G : Gm} {A : Nat → Prop} {nL : Nat} {Q : State → Prop} {cells slots : Nat} {ws : va_W} {pc : Nat} {lv : List (Nat × Value)} {st : List Value} {cc : ByteArray} {own : String} {a0 : Cond}
theorem VC_eq {pc' : Nat} {lv' : List (Nat × Value)} {st' : List Value} {ws' : va_W} {k n : Nat} (h1 : pc = pc') (h2 : lv = lv') (h3 : st = st') (h4 : ws = ws') (h5 : cells = k) (h6 : slots = n) (kk : VC p l e R s m args below meth c G A nL Q k n ws' pc' lv' st') : VC p l e R s m args below meth c G A nL Q cells slots ws pc lv st := by
  subst h1; subst h2; subst h3; subst h4; subst h5; subst h6; exact kk
theorem VC_w (ws' : va_W) (h : ws = ws') (kk : VC p l e R s m args below meth c G A nL Q cells slots ws' pc lv st) : VC p l e R s m args below meth c G A nL Q cells slots ws pc lv st := by subst h; exact kk
theorem VC_perm {ws' : va_W} (h : ws.Perm ws') (kk : VC p l e R s m args below meth c G A nL Q cells slots ws' pc lv st) : VC p l e R s m args below meth c G A nL Q cells slots ws pc lv st :=
  fun H locs ls hP hD hS hl => kk H locs ls (va_P_mem hP (fun q hq => h.mem_iff.mpr hq)) (va_D_perm hD h) hS hl
theorem VC_lv {lv' : List (Nat × Value)} (ks : List Nat) (h : lv_pick lv ks = lv') (k : VC p l e R s m args below meth c G A nL Q cells slots ws pc lv' st) : VC p l e R s m args below meth c G A nL Q cells slots ws pc lv st :=
  fun H locs ls hP hD hS hl => k H locs ls hP hD hS (lv_sub hl ks h)
theorem VC_aload_n (C : CxI p s m args meth c cc own nL G a0 A) {k : Fin 4} {i : Nat} {x : Nat} (d : decode cc pc = .ok (.aload_n k, 1)) (hi : (k : Nat) = i) (hl : lkp lv i = some (.ref x)) (kk : VC p l e R s m args below meth c G A nL Q cells slots ws (pc + 1) lv (.ref x :: st)) : VC p l e R s m args below meth c G A nL Q cells slots ws pc lv st := fun H locs ls hP hD hS h => lv_aload_n C.1 C.2.1 d hi (lkp_at h hl) (kk H locs ls hP hD hS h)
theorem VC_iload_n (C : CxI p s m args meth c cc own nL G a0 A) {k : Fin 4} {i : Nat} {x : Int32} (d : decode cc pc = .ok (.iload_n k, 1)) (hi : (k : Nat) = i) (hl : lkp lv i = some (.int x)) (kk : VC p l e R s m args below meth c G A nL Q cells slots ws (pc + 1) lv (.int x :: st)) : VC p l e R s m args below meth c G A nL Q cells slots ws pc lv st := fun H locs ls hP hD hS h => lv_iload_n C.1 C.2.1 d hi (lkp_at h hl) (kk H locs ls hP hD hS h)
theorem VC_istore_n (C : CxI p s m args meth c cc own nL G a0 A) {k : Fin 4} {i : Nat} {x : Int32} {lv' : List (Nat × Value)} (d : decode cc pc = .ok (.istore_n k, 1)) (hi : (k : Nat) = i) (hn : i < nL) (hl : (i, Value.int x) :: lv.filter (fun q => !(q.1 == i) && !(q.1 + 1 == i && q.2.category == 2)) = lv') (kk : VC p l e R s m args below meth c G A nL Q cells slots ws (pc + 1) lv' st) : VC p l e R s m args below meth c G A nL Q cells slots ws pc lv (.int x :: st) := fun H locs ls hP hD hS h => lv_istore_n C.1 C.2.1 d hi h hn hl (fun ls h => kk H locs ls hP hD hS h)
theorem VC_iinc (C : CxI p s m args meth c cc own nL G a0 A) {i : Nat} {n : Int} {a b k : Nat} {lv' : List (Nat × Value)} (d : decode cc pc = .ok (.iinc i n, 3)) (hk : lv[k]? = some (i, .int (nI a))) (hb : Int32.ofInt n = nI b) (hn : i < nL) (hl : (i, Value.int (nI (a + b))) :: lv.filter (fun q => !(q.1 == i) && !(q.1 + 1 == i && q.2.category == 2)) = lv') (kk : VC p l e R s m args below meth c G A nL Q cells slots ws (pc + 3) lv' st) : VC p l e R s m args below meth c G A nL Q cells slots ws pc lv st := fun H locs ls hP hD hS h => lv_iinc (k := k) (v := nI (a + b)) C.1 C.2.1 d h hk (by rw [hb, nI_add]) hn hl (fun ls h => kk H locs ls hP hD hS h)
theorem VC_iconst (C : CxI p s m args meth c cc own nL G a0 A) {n : Int} (v : Int32) (d : decode cc pc = .ok (.iconst n, 1)) (hv : Int32.ofInt n = v) (kk : VC p l e R s m args below meth c G A nL Q cells slots ws (pc + 1) lv (.int v :: st)) : VC p l e R s m args below meth c G A nL Q cells slots ws pc lv st := fun H locs ls hP hD hS h => lv_iconst C.1 C.2.1 d hv (kk H locs ls hP hD hS h)
theorem VC_bipush (C : CxI p s m args meth c cc own nL G a0 A) {n : Int} (v : Int32) (d : decode cc pc = .ok (.bipush n, 2)) (hv : (Int8.ofInt n).toInt32 = v) (kk : VC p l e R s m args below meth c G A nL Q cells slots ws (pc + 2) lv (.int v :: st)) : VC p l e R s m args below meth c G A nL Q cells slots ws pc lv st := fun H locs ls hP hD hS h => lv_bipush C.1 C.2.1 d hv (kk H locs ls hP hD hS h)
theorem VC_sipush (C : CxI p s m args meth c cc own nL G a0 A) {n : Int} (v : Int32) (d : decode cc pc = .ok (.sipush n, 3)) (hv : (Int16.ofInt n).toInt32 = v) (kk : VC p l e R s m args below meth c G A nL Q cells slots ws (pc + 3) lv (.int v :: st)) : VC p l e R s m args below meth c G A nL Q cells slots ws pc lv st := fun H locs ls hP hD hS h => lv_sipush C.1 C.2.1 d hv (kk H locs ls hP hD hS h)
theorem VC_lconst (C : CxI p s m args meth c cc own nL G a0 A) {n : Fin 2} (v : Int64) (d : decode cc pc = .ok (.lconst n, 1)) (hv : Int64.ofNat (n : Nat) = v) (kk : VC p l e R s m args below meth c G A nL Q cells slots ws (pc + 1) lv (.long v :: st)) : VC p l e R s m args below meth c G A nL Q cells slots ws pc lv st := fun H locs ls hP hD hS h => lv_lconst C.1 C.2.1 d hv (kk H locs ls hP hD hS h)
theorem VC_dup (C : CxI p s m args meth c cc own nL G a0 A) {v : Value} (d : decode cc pc = .ok (.dup, 1)) (hv : v.category = 1) (kk : VC p l e R s m args below meth c G A nL Q cells slots ws (pc + 1) lv (v :: v :: st)) : VC p l e R s m args below meth c G A nL Q cells slots ws pc lv (v :: st) := fun H locs ls hP hD hS h => lv_dup C.1 C.2.1 d hv (kk H locs ls hP hD hS h)
theorem VC_goto (C : CxI p s m args meth c cc own nL G a0 A) {off : Int} {tgt : Nat} (d : decode cc pc = .ok (.goto off, 3)) (ht : (pc : Int) + off = (tgt : Int)) (kk : VC p l e R s m args below meth c G A nL Q cells slots ws tgt lv st) : VC p l e R s m args below meth c G A nL Q cells slots ws pc lv st := fun H locs ls hP hD hS h => lv_goto C.1 C.2.1 d ht (kk H locs ls hP hD hS h)
theorem VC_icmpN_ge (C : CxI p s m args meth c cc own nL G a0 A) {a b : Nat} {off : Int} {tgt : Nat} (d : decode cc pc = .ok (.if_icmp .ge off, 3)) (ha : a < 2 ^ 31) (hb : b < 2 ^ 31) (ht : (pc : Int) + off = (tgt : Int)) (kt : b ≤ a → VC p l e R s m args below meth c G A nL Q cells slots ws tgt lv st) (kf : ¬ b ≤ a → VC p l e R s m args below meth c G A nL Q cells slots ws (pc + 3) lv st) : VC p l e R s m args below meth c G A nL Q cells slots ws pc lv (.int (nI b) :: .int (nI a) :: st) := fun H locs ls hP hD hS h => lv_icmp_ge C.1 C.2.1 d ht (fun q => kt ((nI_leI hb ha).mp q) H locs ls hP hD hS h) (fun q => kf (fun z => q ((nI_leI hb ha).mpr z)) H locs ls hP hD hS h)
theorem VC_objInit (C : CxI p s m args meth c cc own nL G a0 A) {idx : Nat} {a : Nat} (lk : Cond.methodLink own idx objectInit ∈ GW) (h1 : Cond.instanceMethod objectInit ∈ GW) (h2 : Cond.code objectInit ⟨#[0xb1]⟩ 1 none ∈ GW) (d : decode cc pc = .ok (.invokespecial idx, 3)) (hf : 1 ≤ R.frames) (hl : 12 ≤ R.locals) (kk : VC p l e R s m args below meth c G A nL Q cells slots ws (pc + 3) lv []) : VC p l e R s m args below meth c G A nL Q cells slots ws pc lv [.ref a] := by
  intro H locs ls hP hD hS h
  have g : ∀ w ∈ GW, w.before args s = true := fun w hw => C.2.2.2.2.1 w (List.mem_cons_of_mem _ hw)
  refine W.objInit C.1 C.2.1 C.2.2.2.1 (g _ lk) (g _ h1) (g _ h2) (g := F0 m pc ls [.ref a]) rfl (by rw [C.2.2.1]; exact h.1) rfl d hf ?_ ?_
  · exact hl
  · exact W.eq (g2 := F0 m (pc + 3) ls []) rfl (kk H locs ls hP hD hS h)
theorem VC_new (C : CxI p s m args meth c cc own nL G a0 A) {Cn : String} {T : u_T} {N ci index : Nat} {fs : List Value} (hin : ∀ w ∈ u_ws Cn T N, w ∈ GW) (ty : Nat → FieldType) (hty : ∀ k, k < N → parseFieldDescriptor (T k).2.2.1 = some (ty k)) (hcl : Cond.classLink own index Cn ∈ GW) (hinst : Cond.instantiable Cn N ∈ GW) (hini : Cond.initialized Cn ∈ GW) (hc : vwCl[ci]? = some (Cn, T, N)) (hfs : ∀ j, j < N → defaultValue (ty j) = vp_V fs j) (hcells : cells + 1 ≤ R.cells) (hslots : slots + N ≤ R.slots) (d : decode cc pc = .ok (.new index, 3))
    (kk : ∀ q : Nat, VC p l e R s m args below meth c G A nL Q (cells + 1) (slots + N) (ws ++ [(q, .inr (ci, fs))]) (pc + 3) lv (.ref q :: st)) : VC p l e R s m args below meth c G A nL Q cells slots ws pc lv st := by
  intro H locs ls hP hD hS h
  have g : ∀ w ∈ GW, w.before args s = true := fun w hw => C.2.2.2.2.1 w (List.mem_cons_of_mem _ hw)
  exact va_new C.1 C.2.1 C.2.2.2.2.1 (fun w hw => List.mem_cons_of_mem _ (hin w hw)) ty hty C.2.2.2.1 (g _ hcl) (g _ hinst) (g _ hini) C.2.2.2.2.2.1.1.1 hP hD hS C.2.2.2.2.2.2.1 hc hfs hcells hslots d (fun q H1 hP hD hS => kk q H1 locs ls hP hD hS h)
theorem VC_newI (C : CxI p s m args meth c cc own nL G a0 A) {n : Nat} (ha : Cond.arrayClass .int ∈ GW) (hn : n ≤ 1000) (hcells : cells + 1 ≤ R.cells) (hslots : slots + n ≤ R.slots) (d : decode cc pc = .ok (.newarray .int, 2))
    (kk : ∀ q : Nat, VC p l e R s m args below meth c G A nL Q (cells + 1) (slots + n) (ws ++ [(q, aI G n (fun _ => nI 0))]) (pc + 2) lv (.ref q :: st)) : VC p l e R s m args below meth c G A nL Q cells slots ws pc lv (.int (nI n) :: st) := by
  intro H locs ls hP hD hS h
  have g : ∀ w ∈ GW, w.before args s = true := fun w hw => C.2.2.2.2.1 w (List.mem_cons_of_mem _ hw)
  refine va_newa (atype := .int) (a0 := (n, .inl (fun _ => nI 0))) C.1 C.2.1 (g _ ha) rfl C.2.2.2.2.2.1.1.1 hP hD hS C.2.2.2.2.2.2.1 (fun cA => rfl) (n := nI n) (N' := n) ?_ ?_ ?_ hcells hslots d (fun q cA H1 hK hP hD hS => ?_)
  · rw [Int32.lt_iff_toInt_lt, nI_toInt (by omega)]; show ¬ (n : Int) < 0; omega
  · unfold Int32.toNatClampNeg; rw [nI_toInt (by omega)]; omega
  · show n * 4 ≤ _; omega
  · have e : cA = G.2.2.1 0 := Option.some.inj (((hK.2 4 (cA, .int) rfl).2 : s.vm.findClass _ = some cA).symm.trans ((C.2.2.2.2.2.1.1.1.2 0 (G.2.2.1 0, .int) rfl).2 : s.vm.findClass _ = some (G.2.2.1 0)))
    subst e
    exact kk q H1 locs ls hP hD hS h
theorem VC_newJ (C : CxI p s m args meth c cc own nL G a0 A) {n : Nat} (ha : Cond.arrayClass .long ∈ GW) (hn : n ≤ 1000) (hcells : cells + 1 ≤ R.cells) (hslots : slots + n ≤ R.slots) (d : decode cc pc = .ok (.newarray .long, 2))
    (kk : ∀ q : Nat, VC p l e R s m args below meth c G A nL Q (cells + 1) (slots + n) (ws ++ [(q, aJ G n (fun _ => lN 0))]) (pc + 2) lv (.ref q :: st)) : VC p l e R s m args below meth c G A nL Q cells slots ws pc lv (.int (nI n) :: st) := by
  intro H locs ls hP hD hS h
  have g : ∀ w ∈ GW, w.before args s = true := fun w hw => C.2.2.2.2.1 w (List.mem_cons_of_mem _ hw)
  refine va_newa (atype := .long) (a0 := (n, .inr (.inl (fun _ => lN 0)))) C.1 C.2.1 (g _ ha) rfl C.2.2.2.2.2.1.1.1 hP hD hS C.2.2.2.2.2.2.1 (fun cA => rfl) (n := nI n) (N' := n) ?_ ?_ ?_ hcells hslots d (fun q cA H1 hK hP hD hS => ?_)
  · rw [Int32.lt_iff_toInt_lt, nI_toInt (by omega)]; show ¬ (n : Int) < 0; omega
  · unfold Int32.toNatClampNeg; rw [nI_toInt (by omega)]; omega
  · show n * 8 ≤ _; omega
  · have e : cA = G.2.2.1 1 := Option.some.inj (((hK.2 4 (cA, .long) rfl).2 : s.vm.findClass _ = some cA).symm.trans ((C.2.2.2.2.2.1.1.1.2 1 (G.2.2.1 1, .long) rfl).2 : s.vm.findClass _ = some (G.2.2.1 1)))
    subst e
    exact kk q H1 locs ls hP hD hS h
/-- an array of references, all null -/
def aQ (cA : ClassId) (n : Nat) (f : Nat → Option Nat) : va_E := .inl (cA, n, .inr (.inr (.inr (.inr f))))
theorem VC_newq (C : CxI p s m args meth c cc own nL G a0 A) {n t index : Nat} {Cn : String} (ht : (tys G)[t]? = some (G.2.2.1 t, .object Cn)) (hov : va_AO Cn s) (hcl : Cond.classLink own index Cn ∈ GW) (hn : n ≤ 1000) (hcells : cells + 1 ≤ R.cells) (hslots : slots + n ≤ R.slots) (d : decode cc pc = .ok (.anewarray index, 3))
    (kk : ∀ q : Nat, VC p l e R s m args below meth c G A nL Q (cells + 1) (slots + n) (ws ++ [(q, aQ (G.2.2.1 t) n (fun _ => none))]) (pc + 3) lv (.ref q :: st)) : VC p l e R s m args below meth c G A nL Q cells slots ws pc lv (.int (nI n) :: st) := by
  intro H locs ls hP hD hS h
  have g : ∀ w ∈ GW, w.before args s = true := fun w hw => C.2.2.2.2.1 w (List.mem_cons_of_mem _ hw)
  refine va_newq C.1 C.2.1 C.2.2.2.1 (g _ hcl) hov C.2.2.2.2.2.1.1.1 hP hD hS C.2.2.2.2.2.2.1 (n := nI n) (N' := n) ?_ ?_ ?_ hcells hslots d (fun q cA H1 hK hP hD hS => ?_)
  · rw [Int32.lt_iff_toInt_lt, nI_toInt (by omega)]; show ¬ (n : Int) < 0; omega
  · unfold Int32.toNatClampNeg; rw [nI_toInt (by omega)]; omega
  · omega
  · obtain ⟨_, _, _, _, _, e1⟩ := ((hK.2 4 (cA, .object Cn) rfl).2 : va_RA s cA (.object Cn))
    obtain ⟨_, _, _, _, _, e2⟩ := ((C.2.2.2.2.2.1.1.1.2 t (G.2.2.1 t, .object Cn) ht).2 : va_RA s (G.2.2.1 t) (.object Cn))
    have e : cA = G.2.2.1 t := Option.some.inj (e1.symm.trans e2)
    subst e
    exact kk q H1 locs ls hP hD hS h
theorem VC_putf (C : CxI p s m args meth c cc own nL G a0 A) {a ci index j N : Nat} {fs : List Value} {Cn ref : String} {T : u_T} {ty0 : Nat → FieldType} {v : Value} (q0 : Nat) (ws' : va_W) (he : ws[q0]? = some (a, .inr (ci, fs))) (hw : ws.set q0 (a, .inr (ci, fs.set j v)) = ws') (hc : vwCl[ci]? = some (Cn, T, N)) (hin : ∀ w ∈ u_ws Cn T N, w ∈ GW) (hty : ∀ k, k < N → parseFieldDescriptor (T k).2.2.1 = some (ty0 k)) (hnm : ∀ a, a < N → ∀ b, b < N → a ≠ b → (T a).2.1 ≠ (T b).2.1) (hj : j < N) (hl : Cond.fieldLink own index ref (T j).2.1 (T j).2.2.1 ∈ GW) (hr : (T j).1 = ref) (hfin : (T j).2.2.2 = false) (hn : narrow (ty0 j) v = v) (hfit : fits (ty0 j) v = true) (hlen : j < fs.length) (d : decode cc pc = .ok (.putfield index, 3)) (kk : VC p l e R s m args below meth c G A nL Q cells slots ws' (pc + 3) lv st) : VC p l e R s m args below meth c G A nL Q cells slots ws pc lv (v :: .ref a :: st) := by
  intro H locs ls hP hD hS h
  subst hw
  exact va_put C.1 C.2.1 C.2.2.2.2.1 (fun w hw => List.mem_cons_of_mem _ (hin w hw)) ty0 hty hnm C.2.2.2.1 C.2.2.2.2.2.1.1.1 hP hD hS q0 he hc j hj (C.2.2.2.2.1 _ (List.mem_cons_of_mem _ hl)) (fun x hx => by rw [← hr]; exact hx) hfin (hty j hj) hn hfit hlen d (fun H1 locs1 hP1 hD1 hS1 => kk H1 locs1 ls hP1 hD1 hS1 h)
theorem VC_putF (C : CxI p s m args meth c cc own nL G a0 A) {a ci index j N : Nat} {fs : List Value} {Cn ref : String} {T : u_T} {ty0 : Nat → FieldType} {v : Value} (q0 : Nat) (ws' : va_W) (he : ws[q0]? = some (a, .inr (ci, fs))) (hw : ws.set q0 (a, .inr (ci, fs.set j v)) = ws') (hc : vwCl[ci]? = some (Cn, T, N)) (hin : ∀ w ∈ u_ws Cn T N, w ∈ GW) (hty : ∀ k, k < N → parseFieldDescriptor (T k).2.2.1 = some (ty0 k)) (hnm : ∀ a, a < N → ∀ b, b < N → a ≠ b → (T a).2.1 ≠ (T b).2.1) (hj : j < N) (hl : Cond.fieldLink own index ref (T j).2.1 (T j).2.2.1 ∈ GW) (hr : (T j).1 = ref) (hfin : (T j).2.2.2 = true) (hdecl : (T j).1 = own) (hn : narrow (ty0 j) v = v) (hfit : fits (ty0 j) v = true) (hlen : j < fs.length) (d : decode cc pc = .ok (.putfield index, 3)) (kk : VC p l e R s m args below meth c G A nL Q cells slots ws' (pc + 3) lv st) : VC p l e R s m args below meth c G A nL Q cells slots ws pc lv (v :: .ref a :: st) := by
  intro H locs ls hP hD hS h
  subst hw
  exact va_putF C.1 C.2.1 C.2.2.2.2.1 (fun w hw => List.mem_cons_of_mem _ (hin w hw)) ty0 hty hnm C.2.2.2.1 C.2.2.2.2.2.1.1.1 hP hD hS q0 he hc j hj (C.2.2.2.2.1 _ (List.mem_cons_of_mem _ hl)) (fun x hx => by rw [← hr]; exact hx) hfin C.2.2.2.2.2.2.2 hdecl (hty j hj) hn hfit hlen d (fun H1 locs1 hP1 hD1 hS1 => kk H1 locs1 ls hP1 hD1 hS1 h)
theorem VC_getf (C : CxI p s m args meth c cc own nL G a0 A) {a ci index j N : Nat} {fs : List Value} {Cn ref : String} {T : u_T} {v : Value} (q0 : Nat) (he : ws[q0]? = some (a, .inr (ci, fs))) (hc : vwCl[ci]? = some (Cn, T, N)) (hin : ∀ w ∈ u_ws Cn T N, w ∈ GW) (hj : j < N) (hl : Cond.fieldLink own index ref (T j).2.1 (T j).2.2.1 ∈ GW) (hr : (T j).1 = ref) (hv : fs[j]? = some v) (d : decode cc pc = .ok (.getfield index, 3)) (kk : VC p l e R s m args below meth c G A nL Q cells slots ws (pc + 3) lv (v :: st)) : VC p l e R s m args below meth c G A nL Q cells slots ws pc lv (.ref a :: st) :=
  fun H locs ls hP hD hS h => va_get C.1 C.2.1 C.2.2.2.2.1 (fun w hw => List.mem_cons_of_mem _ (hin w hw)) C.2.2.2.1 C.2.2.2.2.2.1.1.1 hP q0 he hc j hj (C.2.2.2.2.1 _ (List.mem_cons_of_mem _ hl)) (fun x hx => by rw [← hr]; exact hx) hv d (kk H locs ls hP hD hS h)
theorem VC_getfN (C : CxI p s m args meth c cc own nL G a0 A) {a ci index j N : Nat} {fs : List Value} {Cn ref host : String} {T : u_T} {v : Value} (q0 : Nat) (he : ws[q0]? = some (a, .inr (ci, fs))) (hc : vwCl[ci]? = some (Cn, T, N)) (hin : ∀ w ∈ u_ws Cn T N, w ∈ GW) (hj : j < N) (hl : Cond.fieldLinkNest own index ref (T j).2.1 (T j).2.2.1 host ∈ NestW) (hr : (T j).1 = ref) (hv : fs[j]? = some v) (d : decode cc pc = .ok (.getfield index, 3)) (kk : VC p l e R s m args below meth c G A nL Q cells slots ws (pc + 3) lv (v :: st)) : VC p l e R s m args below meth c G A nL Q cells slots ws pc lv (.ref a :: st) :=
  fun H locs ls hP hD hS h => va_getN C.1 C.2.1 C.2.2.2.2.1 (fun w hw => List.mem_cons_of_mem _ (hin w hw)) C.2.2.2.1 C.2.2.2.2.2.1.1.1 hP q0 he hc j hj (va_Nw.use rfl (C.2.2.2.2.2.1.1.2.1 _ hl)) (fun x hx => by rw [← hr]; exact hx) hv d (kk H locs ls hP hD hS h)
theorem vin_nI {i n : Nat} (hi : i < n) (hn : n ≤ 1000) : vp_in (nI i) n ∧ (nI i).toNatClampNeg = i := by
  have e : (nI i).toNatClampNeg = i := by unfold Int32.toNatClampNeg; rw [nI_toInt (by omega)]; omega
  refine ⟨?_, e⟩
  rintro (h | h)
  · rw [Int32.lt_iff_toInt_lt, nI_toInt (by omega)] at h
    have : (i : Int) < 0 := h
    omega
  · rw [e] at h; omega
theorem VC_aald (C : CxI p s m args meth c cc own nL G a0 A) {a t n i v : Nat} {Cn : String} {f : Nat → Option Nat} (q0 : Nat) (he : ws[q0]? = some (a, aQ (G.2.2.1 t) n f)) (ht : (tys G)[t]? = some (G.2.2.1 t, .object Cn)) (hi : i < n) (hn : n ≤ 1000) (hf : f i = some v) (d : decode cc pc = .ok (.aaload, 1)) (kk : VC p l e R s m args below meth c G A nL Q cells slots ws (pc + 1) lv (.ref v :: st)) : VC p l e R s m args below meth c G A nL Q cells slots ws pc lv (.int (nI i) :: .ref a :: st) := by
  intro H locs ls hP hD hS h
  refine va_aldq C.1 C.2.1 C.2.2.2.2.2.1.1.1 hP q0 t he ht (vin_nI hi hn).1 d ?_
  rw [(vin_nI hi hn).2, hf]
  exact kk H locs ls hP hD hS h
theorem VC_aast (C : CxI p s m args meth c cc own nL G a0 A) {a t n i v ci : Nat} {r : vw_C} {vs : List Value} {f : Nat → Option Nat} (q0 qk : Nat) (ws' : va_W) (he : ws[q0]? = some (a, aQ (G.2.2.1 t) n f)) (ht : (tys G)[t]? = some (G.2.2.1 t, .object r.1)) (hv : ws[qk]? = some (v, .inr (ci, vs))) (hc : vwCl[ci]? = some r) (hi : i < n) (hn : n ≤ 1000) (hw : ws.set q0 (a, aQ (G.2.2.1 t) n (va_up f i (some v))) = ws') (d : decode cc pc = .ok (.aastore, 1)) (kk : VC p l e R s m args below meth c G A nL Q cells slots ws' (pc + 1) lv st) : VC p l e R s m args below meth c G A nL Q cells slots ws pc lv (.ref v :: .int (nI i) :: .ref a :: st) := by
  intro H locs ls hP hD hS h
  subst hw
  refine va_astq C.1 C.2.1 C.2.2.2.2.2.1.1.1 hP hD hS q0 t qk ci he ht hv hc (vin_nI hi hn).1 d (fun H1 locs1 hP1 hD1 hS1 => ?_)
  rw [(vin_nI hi hn).2] at hP1 hD1
  exact kk H1 locs1 ls hP1 hD1 hS1 h
theorem VC_iast (C : CxI p s m args meth c cc own nL G a0 A) {a n i : Nat} {x : Int32} {f : Nat → Int32} (q0 : Nat) (ws' : va_W) (he : ws[q0]? = some (a, aI G n f)) (hi : i < n) (hn : n ≤ 1000) (hw : ws.set q0 (a, aI G n (upd f i x)) = ws') (d : decode cc pc = .ok (.iastore, 1)) (kk : VC p l e R s m args below meth c G A nL Q cells slots ws' (pc + 1) lv st) : VC p l e R s m args below meth c G A nL Q cells slots ws pc lv (.int x :: .int (nI i) :: .ref a :: st) := by
  intro H locs ls hP hD hS h
  subst hw
  refine va_iast C.1 C.2.1 C.2.2.2.2.2.1.1.1 hP hD hS q0 0 he rfl (vin_nI hi hn).1 d (fun H1 locs1 hP1 hD1 hS1 => ?_)
  rw [(vin_nI hi hn).2] at hP1 hD1
  exact kk H1 locs1 ls hP1 hD1 hS1 h
theorem VC_vret (C : CxI p s m args meth c cc own nL G a0 A) (E : Rx meth none) {post : va_W → Prop} (d : decode cc pc = .ok (.return_, 1)) (hp : post ws) : VC p l e R s m args below meth c G A nL (MQ below (va_Qv (S := va_W) post (fun w1 t => va_P (G.1, G.2.1) vwCl w1 t.heap ∧ va_D A w1) A) args s cells slots A) cells slots ws pc lv [] :=
  fun H locs ls hP hD hS _ => W.vret C.1 C.2.1 E.1 (fun t ht _ => ⟨⟨ws, rfl, hp, by rw [ht]; exact hP, hD⟩, hS.F ht⟩) hS.2.2 d E.2
theorem CtI_of {y : MethodName} {maxL : Nat} {rm : Room} {av : List Value} {w0 : va_W} {post : va_W → Prop} (hy : plainName y.cls = true) (hyn : y.name = "<init>") (lv0 : List (Nat × Value)) (hlv : lv_args 0 av = lv0) (hlen : (lg_sl av).length ≤ maxL)
    (body : ∀ (p : Program) (e : Env) (s : State) (m : MethodId) (args : Array Value) (below : List Frame) (meth : Method) (c : Code) (A : Nat → Prop), CxI p s m args meth c cc y.cls maxL G (.code y cc maxL none) A → Rx meth none → VC p l e rm s m args below meth c G A maxL (MQ below (va_Qv (S := va_W) post (fun w1 t => va_P (G.1, G.2.1) vwCl w1 t.heap ∧ va_D A w1) A) args s rm.cells rm.slots A) 0 0 w0 0 lv0 []) : CtI l G y (.code y cc maxL none :: GW) rm av w0 post := by
  intro sz
  refine Met.ofW (cc := cc) (maxL := maxL) (ret := none) hy rfl ?_
  intro p e s m args below meth c s₁ B hml hv
  obtain ⟨rfl, hsz, hP, hK, hD0⟩ := hv
  subst hsz
  have hts := atoms_spec (ws := .code y cc maxL none :: GW) B.pre
  have hown : s.vm.findClass y.cls = some m.cls := findClass_of_methodNamed B.named
  have hin : meth.name = "<init>" := (name_of_methodNamed B.named B.method).1.trans hyn
  have hl := lv_entry av (n := maxL) hlen
  rw [hlv] at hl
  rw [lg_entry_eq]
  exact body p e s m _ below meth c (va_A w0 s.heap.size) ⟨B.exec, B.bytes, hml, hown, hts, hK, fun q h => Or.inr h, hin⟩ ⟨B.returns, B.notSynchronized⟩ s.heap [] _ hP hD0.self va_S.rf hl
/-- what a caller needs of a constructor -/
def CalI (y : MethodName) (bytes : ByteArray) (maxL : Nat) (n : Nat) : Prop :=
  Cond.instanceMethod y ∈ GW ∧ Cond.initialized y.cls ∈ GW ∧ Cond.code y bytes maxL none ∈ GW ∧ (y.cls ≠ "java/lang/invoke/MethodHandle" ∧ y.cls ≠ "java/lang/invoke/VarHandle" ∧ (parseMethodDescriptor y.desc).map (fun d => d.parameters.length) = some n) ∧ y.name = "<init>"
theorem VC_ran {H : Heap} {locs : List Loc} {ls : Array Slot} {st0 rest : List Value} {post : va_W → Prop} {a : Array Value} {mc ms : Nat} {X wc wr pl : va_W} (isC isR : List Nat)
    (hr : va_Run p l e R s m args below meth c H locs cells slots mc ms (F0 m pc ls st0) rest (va_Qv (S := va_W) post (fun w1 t => va_P (G.1, G.2.1) vwCl w1 t.heap ∧ va_D (va_A wc H.size) w1) (va_A wc H.size) a) (va_A wc H.size)) (hA : ∀ q, s.heap.size ≤ q → A q) (hP : va_P (G.1, G.2.1) vwCl (X ++ pl) H) (hD : va_D A (X ++ pl)) (hS : va_S A s.heap H locs) (hl : lv_has ls nL lv)
    (hC : isC.map (fun i => X[i]?) = wc.map some) (hC2 : isC.map (fun i => (X ++ pl)[i]?) = wc.map some) (hR : isR.map (fun i => X[i]?) = wr.map some) (hn : va_nd isR = true) (hdis : ∀ i ∈ isR, i ∉ isC)
    (kk : ∀ w1, post w1 → VC p l e R s m args below meth c G A nL Q (cells + mc) (slots + ms) ((wr ++ w1) ++ pl) (pc + 3) lv rest) : W p l e R s m args below meth c H locs cells slots Q (F0 m pc ls st0) := by
  have hF := va_free (wc := wc) hD hS hA isC hC2
  refine va_callv hr hS (fun q _ h => hF q h) hF (fun w1 t H1 locs1 ht hvm hp hB hz hk hS1 => ?_)
  obtain ⟨hP1, hD1⟩ := hB
  rw [ht] at hP1
  obtain ⟨hP2, hD2⟩ := va_joinQ hP hD isC isR hC hR hn hdis hk hF hP1 hD1
  exact kk w1 hp H1 locs1 ls hP2 hD2 hS1 hl
theorem wc_of {X wc : va_W} {isC : List Nat} (hC2 : isC.map (fun i => X[i]?) = wc.map some) : isC.filterMap (fun i => X[i]?) = wc := by
  have := congrArg (List.filterMap id) hC2
  simpa [List.filterMap_map, Function.comp_def] using this
theorem VC_callI (C : CxI p s m args meth c cc own nL G a0 A) {y : MethodName} {bytes : ByteArray} {maxL n index b : Nat} {rm : Room} {post : va_W → Prop} {wc wr : va_W} {rest : List Value} (X pl : va_W) (hX : ws = X ++ pl) (As : List Value) (ct : CtI l G y (.code y bytes maxL none :: GW) rm (.ref b :: As) wc post) (cv : CalI y bytes maxL n) (lk : Cond.methodLink own index y ∈ GW) (hRm : rm.frames + 1 ≤ R.frames ∧ 8 + (maxL + 11) + rm.locals ≤ R.locals) (hn : As.length = n) (hst : st = As.reverse ++ .ref b :: rest) (hW : (rest.map fun v => v.category).sum ≤ 8) (isC isR : List Nat) (hC : isC.map (fun i => X[i]?) = wc.map some) (hC2 : isC.map (fun i => (X ++ pl)[i]?) = wc.map some) (hnC : va_nd isC = true) (hR : isR.map (fun i => X[i]?) = wr.map some) (hnR : va_nd isR = true) (hdis : ∀ i ∈ isR, i ∉ isC) (hcs : cells + rm.cells ≤ R.cells ∧ slots + rm.slots ≤ R.slots) (d : decode cc pc = .ok (.invokespecial index, 3))
    (kk : ∀ w1, post w1 → VC p l e R s m args below meth c G A nL Q (cells + rm.cells) (slots + rm.slots) ((wr ++ w1) ++ pl) (pc + 3) lv rest) : VC p l e R s m args below meth c G A nL Q cells slots ws pc lv st := by
  intro H locs ls hP hD hS h
  subst hX
  subst hst
  obtain ⟨c1, c2, c3, c4, c5⟩ := cv
  have g : ∀ w ∈ GW, w.before args s = true := fun w hw => C.2.2.2.2.1 w (List.mem_cons_of_mem _ hw)
  have hPc := hP.sub isC (wc_of hC2)
  have hDc := hD.sub isC hnC hC2
  exact VC_ran isC isR (va_runI (g := F0 m pc ls _) (As := As) (rest := rest) (b := b) ⟨C.1, C.2.1, C.2.2.1, C.2.2.2.1, C.2.2.2.2.1⟩ (ct H.size) (cwI n C.2.2.2.2.1 (gw_good c3) rfl rfl rfl (g _ c2) (g _ lk) (g _ c1) c5 c4 hRm) ⟨PcI_blind, fun U hU hW => ⟨rfl, by rw [hU], by rw [hU]; exact hPc, Kx2.warm hW C.2.2.2.2.2.1, hDc.weaken (fun _ _ _ _ => trivial)⟩⟩ rfl hn h.1 rfl (lv_room hW) d hcs) C.2.2.2.2.2.2.1 hP hD hS h hC hC2 hR hnR hdis kk
theorem VC_callIN (C : CxI p s m args meth c cc own nL G a0 A) {y : MethodName} {bytes : ByteArray} {maxL n index b : Nat} {rm : Room} {host : String} {post : va_W → Prop} {wc wr : va_W} {rest : List Value} (X pl : va_W) (hX : ws = X ++ pl) (As : List Value) (ct : CtI l G y (.code y bytes maxL none :: GW) rm (.ref b :: As) wc post) (cv : CalI y bytes maxL n) (lk : Cond.methodLinkNest own index y host ∈ NestW) (hRm : rm.frames + 1 ≤ R.frames ∧ 8 + (maxL + 11) + rm.locals ≤ R.locals) (hn : As.length = n) (hst : st = As.reverse ++ .ref b :: rest) (hW : (rest.map fun v => v.category).sum ≤ 8) (isC isR : List Nat) (hC : isC.map (fun i => X[i]?) = wc.map some) (hC2 : isC.map (fun i => (X ++ pl)[i]?) = wc.map some) (hnC : va_nd isC = true) (hR : isR.map (fun i => X[i]?) = wr.map some) (hnR : va_nd isR = true) (hdis : ∀ i ∈ isR, i ∉ isC) (hcs : cells + rm.cells ≤ R.cells ∧ slots + rm.slots ≤ R.slots) (d : decode cc pc = .ok (.invokespecial index, 3))
    (kk : ∀ w1, post w1 → VC p l e R s m args below meth c G A nL Q (cells + rm.cells) (slots + rm.slots) ((wr ++ w1) ++ pl) (pc + 3) lv rest) : VC p l e R s m args below meth c G A nL Q cells slots ws pc lv st := by
  intro H locs ls hP hD hS h
  subst hX
  subst hst
  obtain ⟨c1, c2, c3, c4, c5⟩ := cv
  have g : ∀ w ∈ GW, w.before args s = true := fun w hw => C.2.2.2.2.1 w (List.mem_cons_of_mem _ hw)
  have hPc := hP.sub isC (wc_of hC2)
  have hDc := hD.sub isC hnC hC2
  exact VC_ran isC isR (va_runIN (g := F0 m pc ls _) (As := As) (rest := rest) (b := b) ⟨C.1, C.2.1, C.2.2.1, C.2.2.2.1, C.2.2.2.2.1⟩ (ct H.size) ⟨va_cnB n C.2.2.2.2.1 (gw_good c3) rfl rfl rfl (C.2.2.2.2.2.1.1.2.1 _ lk) (g _ c2) c4 hRm, c5, g _ c1⟩ ⟨PcI_blind, fun U hU hW => ⟨rfl, by rw [hU], by rw [hU]; exact hPc, Kx2.warm hW C.2.2.2.2.2.1, hDc.weaken (fun _ _ _ _ => trivial)⟩⟩ rfl hn h.1 rfl (lv_room hW) d hcs) C.2.2.2.2.2.2.1 hP hD hS h hC hC2 hR hnR hdis kk
end VCR
