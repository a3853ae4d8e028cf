section VR3
variable {p : Program} {l : Launch} {e : Env} {R : Room} {s : State} {m : MethodId} {args : Array Value} {below : List Frame} {meth : Method} {c : Code} {G : Gm} {ro : List (Nat × Nat)} {nL : Nat} {Q : State → Prop} {M : Mem} {pc : Nat} {lv : List (Nat × Value)} {st : List Value} {cc : ByteArray} {own : String} {a0 : Cond}
def Rx (meth : Method) (ret : Option FieldType) : Prop := meth.sig.returnType = ret ∧ meth.locks = false
/-- a method's end -/
theorem V_iret (C : Cx p s m args c cc own nL G ro a0) (E : Rx meth (some .int)) {post : Option Value → Mem → Prop} {v : Int32} (d : decode cc pc = .ok (.ireturn, 1)) (hp : post (some (.int v)) M) : V p l e R s m args below meth c G ro nL (MQ below (QcG G ro post (AA G ro s.heap.size)) args s 0 0 (AA G ro s.heap.size)) M pc lv [.int v] :=
  fun H locs ls hP hS _ => W.iret C.1 C.2.1 E.1 (fun t ht _ => ⟨⟨_, M, rfl, hp, by rw [ht]; exact hP⟩, hS.F ht⟩) hS.2.2 d E.2
theorem V_zret (C : Cx p s m args c cc own nL G ro a0) (E : Rx meth (some .boolean)) {post : Option Value → Mem → Prop} {n : Nat} (d : decode cc pc = .ok (.ireturn, 1)) (hn : n ≤ 1) (hp : post (some (.int (nI n))) M) : V p l e R s m args below meth c G ro nL (MQ below (QcG G ro post (AA G ro s.heap.size)) args s 0 0 (AA G ro s.heap.size)) M pc lv [.int (nI n)] :=
  fun H locs ls hP hS _ => W.zret C.1 C.2.1 E.1 (by rcases (show n = 0 ∨ n = 1 by omega) with rfl | rfl <;> decide +kernel) (fun t ht _ => ⟨⟨_, M, rfl, hp, by rw [ht]; exact hP⟩, hS.F ht⟩) hS.2.2 d E.2
theorem V_lret (C : Cx p s m args c cc own nL G ro a0) (E : Rx meth (some .long)) {post : Option Value → Mem → Prop} {v : Int64} (d : decode cc pc = .ok (.lreturn, 1)) (hp : post (some (.long v)) M) : V p l e R s m args below meth c G ro nL (MQ below (QcG G ro post (AA G ro s.heap.size)) args s 0 0 (AA G ro s.heap.size)) M pc lv [.long v] :=
  fun H locs ls hP hS _ => W.lret C.1 C.2.1 E.1 (fun t ht _ => ⟨⟨_, M, rfl, hp, by rw [ht]; exact hP⟩, hS.F ht⟩) hS.2.2 d E.2
theorem V_vret (C : Cx p s m args c cc own nL G ro a0) (E : Rx meth none) {post : Option Value → Mem → Prop} (d : decode cc pc = .ok (.return_, 1)) (hp : post none M) : V p l e R s m args below meth c G ro nL (MQ below (QcG G ro post (AA G ro s.heap.size)) args s 0 0 (AA G ro s.heap.size)) M pc lv [] :=
  fun H locs ls hP hS _ => W.vret C.1 C.2.1 E.1 (fun t ht _ => ⟨⟨_, M, rfl, hp, by rw [ht]; exact hP⟩, hS.F ht⟩) hS.2.2 d E.2
theorem V_aret (C : Cx p s m args c cc own nL G ro a0) {n : String} (E : Rx meth (some (.object n))) {post : Option Value → Mem → Prop} {v : Value} (d : decode cc pc = .ok (.areturn, 1)) (hv : v = .null ∨ ∃ a, v = .ref a) (hp : post (some v) M) : V p l e R s m args below meth c G ro nL (MQ below (QcG G ro post (AA G ro s.heap.size)) args s 0 0 (AA G ro s.heap.size)) M pc lv [v] :=
  fun H locs ls hP hS _ => W.aret C.1 C.2.1 E.1 (Or.inl ⟨n, rfl⟩) hv (fun t ht _ => ⟨⟨_, M, rfl, hp, by rw [ht]; exact hP⟩, hS.F ht⟩) hS.2.2 d E.2
/-- a contract out of a walk -/
theorem Ct_of {y : MethodName} {maxL : Nat} {ret : Option FieldType} {rm : Room} {av : List Value} {post : Option Value → Mem → Prop} (hy : plainName y.cls = true) (lv0 : List (Nat × Value)) (hlv : lv_args 0 av = lv0) (hlen : (lg_sl av).length ≤ maxL)
    (body : ∀ (p : Program) (e : Env) (s : State) (m : MethodId) (args : Array Value) (below : List Frame) (meth : Method) (c : Code), Cx p s m args c cc y.cls maxL G ro (.code y cc maxL ret) → Rx meth ret → V p l e rm s m args below meth c G ro maxL (MQ below (QcG G ro post (AA G ro s.heap.size)) args s 0 0 (AA G ro s.heap.size)) M 0 lv0 []) : Ct l G ro y (.code y cc maxL ret :: GW) rm av M post := by
  intro sz
  refine Met.ofW (cc := cc) (maxL := maxL) (ret := ret) hy rfl ?_
  intro p e s m args below meth c s₁ B hml hv
  obtain ⟨rfl, hsz, hP, hK, hI⟩ := hv
  subst hsz
  have hts := atoms_spec (ws := .code y cc maxL ret :: GW) B.pre
  have hown : s.vm.findClass y.cls = some m.cls := findClass_of_methodNamed B.named
  have hl := lv_entry av (n := maxL) hlen
  rw [hlv] at hl
  rw [lg_entry_eq]
  exact body p e s m _ below meth c ⟨B.exec, B.bytes, hml, hown, hts, hK, hI⟩ ⟨B.returns, B.notSynchronized⟩ s.heap [] _ hP va_S.rf hl
/-- a call -/
theorem AA_in {H H0 : Heap} {locs : List Loc} (hS : va_S (AA G ro H0.size) H0 H locs) : (∀ q, AA G ro H.size q → AA G ro H0.size q) := by
  intro q hq
  rcases hq with h | h
  · exact Or.inl h
  · exact Or.inr (Nat.le_trans hS.1 h)
theorem V_ran {H : Heap} {locs : List Loc} {ls : Array Slot} {st0 rest : List Value} {post : Option Value → Mem → Prop} {a : Array Value}
    (hr : va_Run p l e R s m args below meth c H locs 0 0 0 0 (F0 m pc ls st0) rest (QcG G ro post (AA G ro H.size) a) (AA G ro H.size)) (hS : va_S (AA G ro s.heap.size) s.heap H locs) (hl : lv_has ls nL lv)
    (kk : ∀ (r : Option Value) (M' : Mem), post r M' → V p l e R s m args below meth c G ro nL Q M' (pc + 3) lv (rcons r rest)) : W p l e R s m args below meth c H locs 0 0 Q (F0 m pc ls st0) := by
  intro T hT X
  obtain ⟨v, st₀, t, T', L, h0, X', hL, e1, e2, ⟨⟨r, M', hv, hp, hb⟩, hz, hk⟩, stp⟩ := hr T hT X
  cases hv
  rw [h0] at hz hk
  have hS' : va_S (AA G ro s.heap.size) s.heap T'.heap (locs ++ L) := by
    refine ⟨Nat.le_trans hS.1 (by rw [e1]; exact hz), fun q h1 h2 => ?_, fun q hq => ?_⟩
    · rw [e1, hk q (Nat.lt_of_lt_of_le h1 hS.1) (fun z => h2 (AA_in hS q z))]
      exact hS.2.1 q h1 h2
    · rcases List.mem_append.mp hq with h | h
      · exact hS.2.2 q h
      · exact AA_in hS _ (hL q h)
  obtain ⟨t2, a1, b1⟩ := kk v M' hp T'.heap (locs ++ L) ls (by rw [e1]; exact hb) hS' hl T' rfl X'
  refine ⟨t2, stp t2 ?_, b1⟩
  cases v <;> exact a1
theorem V_ran5 {H : Heap} {locs : List Loc} {ls : Array Slot} {st0 rest : List Value} {post : Option Value → Mem → Prop} {a : Array Value}
    (hr : va_Run5 p l e R s m args below meth c H locs 0 0 0 0 (F0 m pc ls st0) rest (QcG G ro post (AA G ro H.size) a) (AA G ro H.size)) (hS : va_S (AA G ro s.heap.size) s.heap H locs) (hl : lv_has ls nL lv)
    (kk : ∀ (r : Option Value) (M' : Mem), post r M' → V p l e R s m args below meth c G ro nL Q M' (pc + 5) lv (rcons r rest)) : W p l e R s m args below meth c H locs 0 0 Q (F0 m pc ls st0) := by
  intro T hT X
  obtain ⟨v, st₀, t, T', L, h0, X', hL, e1, e2, ⟨⟨r, M', hv, hp, hb⟩, hz, hk⟩, stp⟩ := hr T hT X
  cases hv
  rw [h0] at hz hk
  have hS' : va_S (AA G ro s.heap.size) s.heap T'.heap (locs ++ L) := by
    refine ⟨Nat.le_trans hS.1 (by rw [e1]; exact hz), fun q h1 h2 => ?_, fun q hq => ?_⟩
    · rw [e1, hk q (Nat.lt_of_lt_of_le h1 hS.1) (fun z => h2 (AA_in hS q z))]
      exact hS.2.1 q h1 h2
    · rcases List.mem_append.mp hq with h | h
      · exact hS.2.2 q h
      · exact AA_in hS _ (hL q h)
  obtain ⟨t2, a1, b1⟩ := kk v M' hp T'.heap (locs ++ L) ls (by rw [e1]; exact hb) hS' hl T' rfl X'
  refine ⟨t2, stp t2 ?_, b1⟩
  cases v <;> exact a1
theorem PcG_blind {av : List Value} {sz : Nat} : FrameBlind (va_Pc av (PcG G ro M sz)) := by
  intro a U g mk h
  obtain ⟨h0, h1, h2, h3, h4⟩ := h
  exact ⟨h0, h1, h2, Kx.calling g mk a h3, h4⟩
theorem PcG_at (C : Cx p s m args c cc own nL G ro a0) {av : List Value} {H : Heap} (hP : va_P (G.1, G.2.1) vwCl (wl G ro M) H) (U : State) (hU : U.heap = H) (hW : s.WarmedH U.vm) : va_Pc av (PcG G ro M H.size) av.toArray U :=
  ⟨rfl, by rw [hU], by rw [hU]; exact hP, Kx.warm hW C.2.2.2.2.2.1, C.2.2.2.2.2.2⟩
/-- what a caller needs of a method -/
def CalV (y : MethodName) (bytes : ByteArray) (maxL : Nat) (ret : Option FieldType) (rm : Room) (n : Nat) (Cn : String) : Prop :=
  Cond.instanceMethod y ∈ GW ∧ Cond.selects Cn y y ∈ GW ∧ Cond.initialized Cn ∈ GW ∧ Cond.code y bytes maxL ret ∈ GW ∧ (y.cls = Cn ∧ y.cls ≠ "java/lang/invoke/MethodHandle" ∧ y.cls ≠ "java/lang/invoke/VarHandle" ∧ (parseMethodDescriptor y.desc).map (fun d => d.parameters.length) = some n) ∧ rm.cells = 0 ∧ rm.slots = 0
theorem V_callV (C : Cx p s m args c cc own nL G ro a0) {y : MethodName} {bytes : ByteArray} {maxL n index : Nat} {ret : Option FieldType} {rm : Room} {Cn : String} {k i ci N : Nat} {fs : List Value} {T : u_T} {rest : List Value} {post : Option Value → Mem → Prop} (As : List Value) (ct : Ct l G ro y (.code y bytes maxL ret :: GW) rm (.ref (ad G k i) :: As) M post) (cv : CalV y bytes maxL ret rm n Cn) (lk : Cond.methodLink own index y ∈ GW) (hm : (k, i) ∈ ro) (he : enc G M k i = .inr (ci, fs)) (hc : vwCl[ci]? = some (Cn, T, N)) (hR : rm.frames + 1 ≤ R.frames ∧ 8 + (maxL + 11) + rm.locals ≤ R.locals) (hn : As.length = n) (hst : st = As.reverse ++ .ref (ad G k i) :: rest) (hW : (rest.map fun v => v.category).sum ≤ 8) (d : decode cc pc = .ok (.invokevirtual index, 3))
    (kk : ∀ (r : Option Value) (M' : Mem), post r M' → V p l e R s m args below meth c G ro nL Q M' (pc + 3) lv (rcons r rest)) : V p l e R s m args below meth c G ro nL Q M pc lv st := by
  intro H locs ls hP hS h
  obtain ⟨c1, c2, c3, c4, c5, c6, c7⟩ := cv
  subst hst
  obtain ⟨q, -, hq⟩ := wl_at (G := G) (M := M) hm
  rw [he] at hq
  have hG : GoodIn (a0 :: GW) (wsV own index Cn y (.code y bytes maxL ret :: GW)) := by
    refine gw_app (fun w hw => ?_) (gw_good c4)
    simp only [List.mem_cons, List.not_mem_nil, or_false] at hw
    rcases hw with rfl | rfl | rfl | rfl
    · exact lk
    · exact c1
    · exact c2
    · exact c3
  exact V_ran (va_runV (g := F0 m pc ls _) (As := As) (rest := rest) (b := ad G k i) ⟨C.1, C.2.1, C.2.2.1, C.2.2.2.1, C.2.2.2.2.1⟩ (ct H.size) (cwV n C.2.2.2.2.1 hG rfl c6 c7 c5 hR) ⟨PcG_blind, va_recv C.2.2.2.2.2.1.1 hP hc hq, PcG_at C hP⟩ rfl hn h.1 rfl (lv_room hW) d ⟨Nat.zero_le _, Nat.zero_le _⟩) hS h kk
/-- a static method of the class itself -/
def CalS (y : MethodName) (bytes : ByteArray) (maxL : Nat) (ret : Option FieldType) (rm : Room) (n : Nat) : Prop :=
  Cond.static y ∈ GW ∧ Cond.initialized y.cls ∈ GW ∧ Cond.code y bytes maxL ret ∈ GW ∧ (y.cls ≠ "java/lang/invoke/MethodHandle" ∧ y.cls ≠ "java/lang/invoke/VarHandle" ∧ (parseMethodDescriptor y.desc).map (fun d => d.parameters.length) = some n) ∧ rm.cells = 0 ∧ rm.slots = 0
theorem V_callS (C : Cx p s m args c cc own nL G ro a0) {y : MethodName} {bytes : ByteArray} {maxL n index : Nat} {ret : Option FieldType} {rm : Room} {rest : List Value} {post : Option Value → Mem → Prop} (As : List Value) (ct : Ct l G ro y (.code y bytes maxL ret :: GW) rm As M post) (cv : CalS y bytes maxL ret rm n) (ho : y.cls = own) (lk : Cond.methodLink own index y ∈ GW) (hR : rm.frames + 1 ≤ R.frames ∧ 8 + (maxL + 11) + rm.locals ≤ R.locals) (hn : As.length = n) (hst : st = As.reverse ++ rest) (hW : (rest.map fun v => v.category).sum ≤ 8) (d : decode cc pc = .ok (.invokestatic index, 3))
    (kk : ∀ (r : Option Value) (M' : Mem), post r M' → V p l e R s m args below meth c G ro nL Q M' (pc + 3) lv (rcons r rest)) : V p l e R s m args below meth c G ro nL Q M pc lv st := by
  intro H locs ls hP hS h
  obtain ⟨c1, c2, c3, c4, c5, c6⟩ := cv
  subst hst
  have hG : GoodIn (a0 :: GW) (wsS own index y (.code y bytes maxL ret :: GW)) := by
    refine gw_app (fun w hw => ?_) (gw_good c3)
    simp only [List.mem_cons, List.not_mem_nil, or_false] at hw
    rcases hw with rfl | rfl | rfl
    · exact lk
    · exact c1
    · rw [← ho]; exact c2
  exact V_ran (va_runS (g := F0 m pc ls _) (As := As) (rest := rest) ⟨C.1, C.2.1, C.2.2.1, C.2.2.2.1, C.2.2.2.2.1⟩ (ct H.size) (cwS n C.2.2.2.2.1 hG rfl c5 c6 ⟨ho, c4⟩ hR) ⟨PcG_blind, PcG_at C hP⟩ rfl hn h.1 rfl (lv_room hW) d ⟨Nat.zero_le _, Nat.zero_le _⟩) hS h kk
/-- a static method of a nest mate -/
theorem V_callSN (C : Cx p s m args c cc own nL G ro a0) {y : MethodName} {bytes : ByteArray} {maxL n index : Nat} {ret : Option FieldType} {rm : Room} {host : String} {rest : List Value} {post : Option Value → Mem → Prop} (As : List Value) (ct : Ct l G ro y (.code y bytes maxL ret :: GW) rm As M post) (cv : CalS y bytes maxL ret rm n) (lk : Cond.methodLinkNest own index y host ∈ NestW) (hR : rm.frames + 1 ≤ R.frames ∧ 8 + (maxL + 11) + rm.locals ≤ R.locals) (hn : As.length = n) (hst : st = As.reverse ++ rest) (hW : (rest.map fun v => v.category).sum ≤ 8) (d : decode cc pc = .ok (.invokestatic index, 3))
    (kk : ∀ (r : Option Value) (M' : Mem), post r M' → V p l e R s m args below meth c G ro nL Q M' (pc + 3) lv (rcons r rest)) : V p l e R s m args below meth c G ro nL Q M pc lv st := by
  intro H locs ls hP hS h
  obtain ⟨c1, c2, c3, c4, c5, c6⟩ := cv
  subst hst
  have g : ∀ w ∈ GW, w.before args s = true := fun w hw => C.2.2.2.2.1 w (List.mem_cons_of_mem _ hw)
  exact V_ran (va_runSN (g := F0 m pc ls _) (As := As) (rest := rest) ⟨C.1, C.2.1, C.2.2.1, C.2.2.2.1, C.2.2.2.2.1⟩ (ct H.size) ⟨va_cnB n C.2.2.2.2.1 (gw_good c3) rfl c5 c6 (C.2.2.2.2.2.1.2.1 _ lk) (g _ c2) c4 hR, g _ c1, trivial⟩ ⟨PcG_blind, PcG_at C hP⟩ rfl hn h.1 rfl (lv_room hW) d ⟨Nat.zero_le _, Nat.zero_le _⟩) hS h kk
/-- a method of an interface -/
def CalF (x y : MethodName) (bytes : ByteArray) (maxL : Nat) (ret : Option FieldType) (rm : Room) (n : Nat) (Cn : String) : Prop :=
  Cond.selects Cn x y ∈ GW ∧ Cond.instanceMethod y ∈ GW ∧ Cond.initialized y.cls ∈ GW ∧ Cond.code y bytes maxL ret ∈ GW ∧ (x.cls ≠ "java/lang/invoke/MethodHandle" ∧ x.cls ≠ "java/lang/invoke/VarHandle" ∧ (parseMethodDescriptor x.desc).map (fun d => d.parameters.length) = some n) ∧ rm.cells = 0 ∧ rm.slots = 0
theorem V_callF (C : Cx p s m args c cc own nL G ro a0) {x y : MethodName} {bytes : ByteArray} {maxL n index count : Nat} {ret : Option FieldType} {rm : Room} {Cn : String} {k i ci N : Nat} {fs : List Value} {T : u_T} {rest : List Value} {post : Option Value → Mem → Prop} (As : List Value) (ct : Ct l G ro y (.code y bytes maxL ret :: GW) rm (.ref (ad G k i) :: As) M post) (cv : CalF x y bytes maxL ret rm n Cn) (hF : va_Fw Cn x y s) (lk : Cond.methodLink own index x ∈ GW) (hm : (k, i) ∈ ro) (he : enc G M k i = .inr (ci, fs)) (hc : vwCl[ci]? = some (Cn, T, N)) (hR : rm.frames + 1 ≤ R.frames ∧ 8 + (maxL + 11) + rm.locals ≤ R.locals) (hn : As.length = n) (hst : st = As.reverse ++ .ref (ad G k i) :: rest) (hW : (rest.map fun v => v.category).sum ≤ 8) (d : decode cc pc = .ok (.invokeinterface index count, 5))
    (kk : ∀ (r : Option Value) (M' : Mem), post r M' → V p l e R s m args below meth c G ro nL Q M' (pc + 5) lv (rcons r rest)) : V p l e R s m args below meth c G ro nL Q M pc lv st := by
  intro H locs ls hP hS h
  obtain ⟨c1, c2, c3, c4, c5, c6, c7⟩ := cv
  subst hst
  obtain ⟨q, -, hq⟩ := wl_at (G := G) (M := M) hm
  rw [he] at hq
  have hG : GoodIn (a0 :: GW) (va_wsF own index Cn x y (.code y bytes maxL ret :: GW)) := by
    refine gw_app (fun w hw => ?_) (gw_good c4)
    simp only [List.mem_cons, List.not_mem_nil, or_false] at hw
    rcases hw with rfl | rfl | rfl | rfl
    · exact lk
    · exact c1
    · exact c2
    · exact c3
  have hat := (C.2.2.2.2.2.1.1.1 ci _ hc).2
  exact V_ran5 (va_runF hat (g := F0 m pc ls _) (As := As) (rest := rest) (b := ad G k i) ⟨C.1, C.2.1, C.2.2.1, C.2.2.2.1, C.2.2.2.2.1⟩ (ct H.size) (va_cwF n C.2.2.2.2.1 hG rfl c6 c7 hF c5 hR) ⟨PcG_blind, va_recv C.2.2.2.2.2.1.1 hP hc hq, PcG_at C hP⟩ rfl hn h.1 rfl (lv_room hW) d ⟨Nat.zero_le _, Nat.zero_le _⟩) hS h kk
/-- Math -/
theorem V_mmax (C : Cx p s m args c cc own nL G ro a0) {index : Nat} (lk : Cond.methodLink own index Lib.Math.max.name ∈ GW) (h1 : Cond.static Lib.Math.max.name ∈ GW) (h2 : Cond.initialized "java/lang/Math" ∈ GW) (h3 : Cond.code Lib.Math.max.name Lib.Math.max.code 2 (some .int) ∈ GW) (hR : 1 ≤ R.frames) (hL : (st.map fun v => v.category).sum + 13 ≤ R.locals) {x y : Int32} (d : decode cc pc = .ok (.invokestatic index, 3)) (kk : V p l e R s m args below meth c G ro nL Q M (pc + 3) lv (.int (if x < y then y else x) :: st)) : V p l e R s m args below meth c G ro nL Q M pc lv (.int y :: .int x :: st) := by
  intro H locs ls hP hS h
  have g : ∀ w ∈ GW, w.before args s = true := fun w hw => C.2.2.2.2.1 w (List.mem_cons_of_mem _ hw)
  exact va_mmax C.1 C.2.1 (C.2.2.1.trans h.1.symm) C.2.2.2.1 (g _ lk) (g _ h1) (g _ h2) (g _ h3) hR hL (Nat.zero_le _) (Nat.zero_le _) d (kk H locs ls hP hS h)
theorem V_mmin (C : Cx p s m args c cc own nL G ro a0) {index : Nat} (lk : Cond.methodLink own index Lib.Math.min.name ∈ GW) (h1 : Cond.static Lib.Math.min.name ∈ GW) (h2 : Cond.initialized "java/lang/Math" ∈ GW) (h3 : Cond.code Lib.Math.min.name Lib.Math.min.code 2 (some .int) ∈ GW) (hR : 1 ≤ R.frames) (hL : (st.map fun v => v.category).sum + 13 ≤ R.locals) {x y : Int32} (d : decode cc pc = .ok (.invokestatic index, 3)) (kk : V p l e R s m args below meth c G ro nL Q M (pc + 3) lv (.int (if y < x then y else x) :: st)) : V p l e R s m args below meth c G ro nL Q M pc lv (.int y :: .int x :: st) := by
  intro H locs ls hP hS h
  have g : ∀ w ∈ GW, w.before args s = true := fun w hw => C.2.2.2.2.1 w (List.mem_cons_of_mem _ hw)
  exact va_mmin C.1 C.2.1 (C.2.2.1.trans h.1.symm) C.2.2.2.1 (g _ lk) (g _ h1) (g _ h2) (g _ h3) hR hL (Nat.zero_le _) (Nat.zero_le _) d (kk H locs ls hP hS h)
theorem V_mminL (C : Cx p s m args c cc own nL G ro a0) {index : Nat} (lk : Cond.methodLink own index Lib.MathLoose.min_long.x ∈ GW) (h1 : Cond.static Lib.MathLoose.min_long.x ∈ GW) (h2 : Cond.initialized "java/lang/Math" ∈ GW) (h3 : Cond.code Lib.MathLoose.min_long.x Lib.MathLoose.min_long.code 4 (some .long) ∈ GW) (hR : 1 ≤ R.frames) (hL : (st.map fun v => v.category).sum + 15 ≤ R.locals) {x y : Int64} (d : decode cc pc = .ok (.invokestatic index, 3)) (kk : V p l e R s m args below meth c G ro nL Q M (pc + 3) lv (.long (if y < x then y else x) :: st)) : V p l e R s m args below meth c G ro nL Q M pc lv (.long y :: .long x :: st) := by
  intro H locs ls hP hS h
  have g : ∀ w ∈ GW, w.before args s = true := fun w hw => C.2.2.2.2.1 w (List.mem_cons_of_mem _ hw)
  exact va_mmin_long C.1 C.2.1 (C.2.2.1.trans h.1.symm) C.2.2.2.1 (g _ lk) (g _ h1) (g _ h2) (g _ h3) hR hL (Nat.zero_le _) (Nat.zero_le _) d (kk H locs ls hP hS h)
theorem V_mmaxL (C : Cx p s m args c cc own nL G ro a0) {index : Nat} (lk : Cond.methodLink own index Lib.MathLoose.max_long.x ∈ GW) (h1 : Cond.static Lib.MathLoose.max_long.x ∈ GW) (h2 : Cond.initialized "java/lang/Math" ∈ GW) (h3 : Cond.code Lib.MathLoose.max_long.x Lib.MathLoose.max_long.code 4 (some .long) ∈ GW) (hR : 1 ≤ R.frames) (hL : (st.map fun v => v.category).sum + 15 ≤ R.locals) {x y : Int64} (d : decode cc pc = .ok (.invokestatic index, 3)) (kk : V p l e R s m args below meth c G ro nL Q M (pc + 3) lv (.long (if y < x then x else y) :: st)) : V p l e R s m args below meth c G ro nL Q M pc lv (.long y :: .long x :: st) := by
  intro H locs ls hP hS h
  have g : ∀ w ∈ GW, w.before args s = true := fun w hw => C.2.2.2.2.1 w (List.mem_cons_of_mem _ hw)
  exact va_mmax_long C.1 C.2.1 (C.2.2.1.trans h.1.symm) C.2.2.2.1 (g _ lk) (g _ h1) (g _ h2) (g _ h3) hR hL (Nat.zero_le _) (Nat.zero_le _) d (kk H locs ls hP hS h)
end VR3
