def CxL (p : Program) (s : State) (m : MethodId) (b : Nat) (meth : Method) (c : Code) (G : Gm) (L : Nat) (xs : Nat → Int32) : Prop :=
  Cx p s m #[Value.ref b] c code RL 4 G rX (.initialized RX0) ∧ Cx p s m #[Value.ref b] c code RL 4 G rM (.initialized RX0) ∧ (∀ q ∈ rX, s.heap.size ≤ ad G q.1 q.2) ∧ (∀ q ∈ rM, s.heap.size ≤ ad G q.1 q.2) ∧ (∀ q ∈ rX, ∀ q' ∈ rM, ad G q.1 q.2 ≠ ad G q'.1 q'.2) ∧ va_X b L xs s s.heap ∧ b < s.heap.size
section CXL
variable {p : Program} {s : State} {m : MethodId} {b : Nat} {meth : Method} {c : Code} {G : Gm} {L : Nat} {xs : Nat → Int32}
theorem CxL.x (C : CxL p s m b meth c G L xs) : Cx p s m #[Value.ref b] c code RL 4 G rX (.initialized RX0) := C.1
theorem CxL.y (C : CxL p s m b meth c G L xs) : Cx p s m #[Value.ref b] c code RL 4 G rM (.initialized RX0) := C.2.1
theorem CxL.fX (C : CxL p s m b meth c G L xs) : ∀ q ∈ rX, s.heap.size ≤ ad G q.1 q.2 := C.2.2.1
theorem CxL.fM (C : CxL p s m b meth c G L xs) : ∀ q ∈ rM, s.heap.size ≤ ad G q.1 q.2 := C.2.2.2.1
theorem CxL.dj (C : CxL p s m b meth c G L xs) : ∀ q ∈ rX, ∀ q' ∈ rM, ad G q.1 q.2 ≠ ad G q'.1 q'.2 := C.2.2.2.2.1
theorem CxL.sc (C : CxL p s m b meth c G L xs) : va_X b L xs s s.heap := C.2.2.2.2.2.1
theorem CxL.sb (C : CxL p s m b meth c G L xs) : b < s.heap.size := C.2.2.2.2.2.2
end CXL
def VL (p : Program) (l : Launch) (e : Env) (s : State) (m : MethodId) (b : Nat) (below : List Frame) (meth : Method) (c : Code) (G : Gm) (cells slots : Nat) (M N : Mem) (pc : Nat) (lv : List (Nat × Value)) (st : List Value) : Prop :=
  ∀ (H : Heap) (locs : List Loc) (ls : Array Slot), va_P (G.1, G.2.1) vwCl (wl G rX M) H → va_P (G.1, G.2.1) vwCl (wl G rM N) H → va_S (fun q : Nat => s.heap.size ≤ q) s.heap H locs → lv_has ls 4 lv → W p l e room_1 s m #[Value.ref b] below meth c H locs cells slots (lw_Z below #[Value.ref b] s) (F0 m pc ls st)
section VLR
variable {p : Program} {l : Launch} {e : Env} {s : State} {m : MethodId} {b : Nat} {below : List Frame} {meth : Method} {c : Code} {G : Gm} {cells slots : Nat} {M N : Mem} {pc : Nat} {lv : List (Nat × Value)} {st : List Value} {L : Nat} {xs : Nat → Int32}
theorem VL_lv {lv' : List (Nat × Value)} (ks : List Nat) (h : lv_pick lv ks = lv') (k : VL p l e s m b below meth c G cells slots M N pc lv' st) : VL p l e s m b below meth c G cells slots M N pc lv st := fun H locs ls hX hM hS hl => k H locs ls hX hM hS (lv_sub hl ks h)
theorem VL_aload_n (C : CxL p s m b meth c G L xs) {k : Fin 4} {i : Nat} {x : Nat} (d : decode cL_law pc = .ok (.aload_n k, 1)) (hi : (k : Nat) = i) (hl : lkp lv i = some (.ref x)) (kk : VL p l e s m b below meth c G cells slots M N (pc + 1) lv (.ref x :: st)) : VL p l e s m b below meth c G cells slots M N pc lv st := fun H locs ls hX hM hS h => lv_aload_n C.x.1 C.x.2.1 d hi (lkp_at h hl) (kk H locs ls hX hM hS h)
theorem VL_iload_n (C : CxL p s m b meth c G L xs) {k : Fin 4} {i : Nat} {x : Int32} (d : decode cL_law pc = .ok (.iload_n k, 1)) (hi : (k : Nat) = i) (hl : lkp lv i = some (.int x)) (kk : VL p l e s m b below meth c G cells slots M N (pc + 1) lv (.int x :: st)) : VL p l e s m b below meth c G cells slots M N pc lv st := fun H locs ls hX hM hS h => lv_iload_n C.x.1 C.x.2.1 d hi (lkp_at h hl) (kk H locs ls hX hM hS h)
theorem VL_iconst (C : CxL p s m b meth c G L xs) {n : Int} (v : Int32) (d : decode cL_law pc = .ok (.iconst n, 1)) (hv : Int32.ofInt n = v) (kk : VL p l e s m b below meth c G cells slots M N (pc + 1) lv (.int v :: st)) : VL p l e s m b below meth c G cells slots M N pc lv st := fun H locs ls hX hM hS h => lv_iconst C.x.1 C.x.2.1 d hv (kk H locs ls hX hM hS h)
theorem VL_bipush (C : CxL p s m b meth c G L xs) {n : Int} (v : Int32) (d : decode cL_law pc = .ok (.bipush n, 2)) (hv : (Int8.ofInt n).toInt32 = v) (kk : VL p l e s m b below meth c G cells slots M N (pc + 2) lv (.int v :: st)) : VL p l e s m b below meth c G cells slots M N pc lv st := fun H locs ls hX hM hS h => lv_bipush C.x.1 C.x.2.1 d hv (kk H locs ls hX hM hS h)
theorem VL_ldc2 (C : CxL p s m b meth c G L xs) {index : Nat} {v : Int64} (hw : Cond.constantLong RL index v ∈ GW) (d : decode cL_law pc = .ok (.ldc2_w index, 3)) (kk : VL p l e s m b below meth c G cells slots M N (pc + 3) lv (.long v :: st)) : VL p l e s m b below meth c G cells slots M N pc lv st := fun H locs ls hX hM hS h => lv_ldc2 C.x.1 C.x.2.1 C.x.2.2.2.1 (C.x.2.2.2.2.1 _ (List.mem_cons_of_mem _ hw)) d (kk H locs ls hX hM hS h)
theorem VL_iaddN (C : CxL p s m b meth c G L xs) {a k : Nat} (d : decode cL_law pc = .ok (.iadd, 1)) (kk : VL p l e s m b below meth c G cells slots M N (pc + 1) lv (.int (nI (a + k)) :: st)) : VL p l e s m b below meth c G cells slots M N pc lv (.int (nI k) :: .int (nI a) :: st) := fun H locs ls hX hM hS h => lv_iadd C.x.1 C.x.2.1 d (by rw [nI_add]; exact kk H locs ls hX hM hS h)
theorem VL_isub (C : CxL p s m b meth c G L xs) {x y : Int32} (d : decode cL_law pc = .ok (.isub, 1)) (kk : VL p l e s m b below meth c G cells slots M N (pc + 1) lv (.int (x - y) :: st)) : VL p l e s m b below meth c G cells slots M N pc lv (.int y :: .int x :: st) := fun H locs ls hX hM hS h => lv_isub C.x.1 C.x.2.1 d (kk H locs ls hX hM hS h)
theorem VL_iand (C : CxL p s m b meth c G L xs) {x y : Int32} (d : decode cL_law pc = .ok (.iand, 1)) (kk : VL p l e s m b below meth c G cells slots M N (pc + 1) lv (.int (x &&& y) :: st)) : VL p l e s m b below meth c G cells slots M N pc lv (.int y :: .int x :: st) := fun H locs ls hX hM hS h => lv_iand C.x.1 C.x.2.1 d (kk H locs ls hX hM hS h)
theorem VL_i2l (C : CxL p s m b meth c G L xs) {x : Int32} (d : decode cL_law pc = .ok (.i2l, 1)) (kk : VL p l e s m b below meth c G cells slots M N (pc + 1) lv (.long x.toInt64 :: st)) : VL p l e s m b below meth c G cells slots M N pc lv (.int x :: st) := fun H locs ls hX hM hS h => lv_i2l C.x.1 C.x.2.1 d rfl (kk H locs ls hX hM hS h)
theorem VL_lshl (C : CxL p s m b meth c G L xs) {x : Int64} {y : Int32} (d : decode cL_law pc = .ok (.lshl, 1)) (kk : VL p l e s m b below meth c G cells slots M N (pc + 1) lv (.long (x <<< (y.toInt64 &&& 63)) :: st)) : VL p l e s m b below meth c G cells slots M N pc lv (.int y :: .long x :: st) := fun H locs ls hX hM hS h => lv_lshl C.x.1 C.x.2.1 d rfl (kk H locs ls hX hM hS h)
theorem VL_land (C : CxL p s m b meth c G L xs) {x y : Int64} (d : decode cL_law pc = .ok (.land, 1)) (kk : VL p l e s m b below meth c G cells slots M N (pc + 1) lv (.long (x &&& y) :: st)) : VL p l e s m b below meth c G cells slots M N pc lv (.long y :: .long x :: st) := fun H locs ls hX hM hS h => lv_land C.x.1 C.x.2.1 d (kk H locs ls hX hM hS h)
theorem VL_lor (C : CxL p s m b meth c G L xs) {x y : Int64} (d : decode cL_law pc = .ok (.lor, 1)) (kk : VL p l e s m b below meth c G cells slots M N (pc + 1) lv (.long (x ||| y) :: st)) : VL p l e s m b below meth c G cells slots M N pc lv (.long y :: .long x :: st) := fun H locs ls hX hM hS h => lv_lor C.x.1 C.x.2.1 d (kk H locs ls hX hM hS h)
theorem VL_lcmp (C : CxL p s m b meth c G L xs) {x y : Int64} (d : decode cL_law pc = .ok (.lcmp, 1)) (kk : VL p l e s m b below meth c G cells slots M N (pc + 1) lv (.int (lg_cmp x y) :: st)) : VL p l e s m b below meth c G cells slots M N pc lv (.long y :: .long x :: st) := fun H locs ls hX hM hS h => W.lcmp C.x.1 C.x.2.1 d (kk H locs ls hX hM hS h)
theorem VL_ifLe (C : CxL p s m b meth c G L xs) {x : Int64} {off : Int} {tgt : Nat} (d : decode cL_law pc = .ok (.ifCond .eq off, 3)) (ht : (pc : Int) + off = (tgt : Int)) (kt : VL p l e s m b below meth c G cells slots M N tgt lv st) : VL p l e s m b below meth c G cells slots M N pc lv (.int (lg_cmp x x) :: st) := fun H locs ls hX hM hS h => lv_if_eq C.x.1 C.x.2.1 d ht (fun _ => kt H locs ls hX hM hS h) (fun q => absurd ((lg_cmp_eq x x).mpr rfl) q)
theorem VL_icmpE (C : CxL p s m b meth c G L xs) {x : Int32} {off : Int} {tgt : Nat} (d : decode cL_law pc = .ok (.if_icmp .eq off, 3)) (ht : (pc : Int) + off = (tgt : Int)) (kt : VL p l e s m b below meth c G cells slots M N tgt lv st) : VL p l e s m b below meth c G cells slots M N pc lv (.int x :: .int x :: st) := fun H locs ls hX hM hS h => lv_icmp_eq C.x.1 C.x.2.1 d ht (fun _ => kt H locs ls hX hM hS h) (fun q => absurd rfl q)
theorem VL_icmp_gt (C : CxL p s m b meth c G L xs) {x y : Int32} {off : Int} {tgt : Nat} (d : decode cL_law pc = .ok (.if_icmp .gt off, 3)) (ht : (pc : Int) + off = (tgt : Int)) (kt : y < x → VL p l e s m b below meth c G cells slots M N tgt lv st) (kf : ¬ y < x → VL p l e s m b below meth c G cells slots M N (pc + 3) lv st) : VL p l e s m b below meth c G cells slots M N pc lv (.int y :: .int x :: st) := fun H locs ls hX hM hS h => lv_icmp_gt C.x.1 C.x.2.1 d ht (fun q => kt q H locs ls hX hM hS h) (fun q => kf q H locs ls hX hM hS h)
theorem VL_goto (C : CxL p s m b meth c G L xs) {off : Int} {tgt : Nat} (d : decode cL_law pc = .ok (.goto off, 3)) (ht : (pc : Int) + off = (tgt : Int)) (kk : VL p l e s m b below meth c G cells slots M N tgt lv st) : VL p l e s m b below meth c G cells slots M N pc lv st := fun H locs ls hX hM hS h => lv_goto C.x.1 C.x.2.1 d ht (kk H locs ls hX hM hS h)
theorem VL_iinc (C : CxL p s m b meth c G L xs) {i : Nat} {n : Int} {a k : Nat} {j : Nat} {lv' : List (Nat × Value)} (d : decode cL_law pc = .ok (.iinc i n, 3)) (hk : lv[j]? = some (i, .int (nI a))) (hb : Int32.ofInt n = nI k) (hn : i < 4) (hl : (i, Value.int (nI (a + k))) :: lv.filter (fun q => !(q.1 == i) && !(q.1 + 1 == i && q.2.category == 2)) = lv') (kk : VL p l e s m b below meth c G cells slots M N (pc + 3) lv' st) : VL p l e s m b below meth c G cells slots M N pc lv st := fun H locs ls hX hM hS h => lv_iinc (k := j) (v := nI (a + k)) C.x.1 C.x.2.1 d h hk (by rw [hb, nI_add]) hn hl (fun ls h => kk H locs ls hX hM hS h)
theorem VL_tabIn (C : CxL p s m b meth c G L xs) {dflt lo hi : Int} {offs : Array Int} {len : Nat} {x : Int32} {off : Int} {tgt : Nat} (d : decode cL_law pc = .ok (.tableswitch dflt lo hi offs, len)) (n : Int) (hx : x.toInt = n) (h1 : ¬ n < lo) (h2 : ¬ hi < n) (ho : offs[(n - lo).toNat]? = some off) (ht : (pc : Int) + off = (tgt : Int)) (kk : VL p l e s m b below meth c G cells slots M N tgt lv st) : VL p l e s m b below meth c G cells slots M N pc lv (.int x :: st) := fun H locs ls hX hM hS h => lv_tableIn C.x.1 C.x.2.1 d (by rw [hx]; exact h1) (by rw [hx]; exact h2) (by rw [hx]; exact ho) ht (kk H locs ls hX hM hS h)
theorem VL_tabOut (C : CxL p s m b meth c G L xs) {dflt lo hi : Int} {offs : Array Int} {len : Nat} {x : Int32} {tgt : Nat} (d : decode cL_law pc = .ok (.tableswitch dflt lo hi offs, len)) (h : x.toInt < lo ∨ hi < x.toInt) (ht : (pc : Int) + dflt = (tgt : Int)) (kk : VL p l e s m b below meth c G cells slots M N tgt lv st) : VL p l e s m b below meth c G cells slots M N pc lv (.int x :: st) := fun H locs ls hX hM hS hh => lv_tableOut C.x.1 C.x.2.1 d h ht (kk H locs ls hX hM hS hh)
theorem VL_iald (C : CxL p s m b meth c G L xs) {j : Nat} (hj : j < L) (hL : L ≤ 3584) (d : decode cL_law pc = .ok (.iaload, 1)) (kk : VL p l e s m b below meth c G cells slots M N (pc + 1) lv (.int (xs j) :: st)) : VL p l e s m b below meth c G cells slots M N pc lv (.int (nI j) :: .ref b :: st) := by
  intro H locs ls hX hM hS h
  have e : (nI j).toNatClampNeg = j := by unfold Int32.toNatClampNeg; rw [nI_toInt (by omega)]; omega
  refine va_sld C.x.1 C.x.2.1 C.sc C.sb (Nat.not_le.mpr C.sb) hS ?_ d ?_
  · rintro (q | q)
    · rw [Int32.lt_iff_toInt_lt, nI_toInt (by omega)] at q
      have : (j : Int) < 0 := q
      omega
    · rw [e] at q; omega
  · rw [e]; exact kk H locs ls hX hM hS h
theorem VL_alen (C : CxL p s m b meth c G L xs) (d : decode cL_law pc = .ok (.arraylength, 1)) (kk : VL p l e s m b below meth c G cells slots M N (pc + 1) lv (.int (nI L) :: st)) : VL p l e s m b below meth c G cells slots M N pc lv (.ref b :: st) :=
  fun H locs ls hX hM hS h => va_slen C.x.1 C.x.2.1 C.sc C.sb (Nat.not_le.mpr C.sb) hS d (kk H locs ls hX hM hS h)
theorem P_other {ro ro' : List (Nat × Nat)} {N' : Mem} {H H1 : Heap} (hd : ∀ q ∈ ro, ∀ q' ∈ ro', ad G q.1 q.2 ≠ ad G q'.1 q'.2) (hk : ∀ q : Nat, q < H.size → ¬ AA G ro H.size q → H1[q]? = H[q]?) (hP : va_P (G.1, G.2.1) vwCl (wl G ro' N') H) : va_P (G.1, G.2.1) vwCl (wl G ro' N') H1 := by
  refine hP.kept (fun k x hx => ?_)
  have hlt := (hP k x hx).lt
  refine hk x.1 hlt (fun q => ?_)
  have hm := List.mem_of_getElem? hx
  simp only [wl, List.mem_map] at hm
  obtain ⟨q', hq', rfl⟩ := hm
  rcases q with ⟨q0, h0, e⟩ | h
  · exact hd q0 h0 q' hq' e.symm
  · omega
theorem VL_callX (C : CxL p s m b meth c G L xs) {y : MethodName} {bytes : ByteArray} {maxL n index : Nat} {ret : Option FieldType} {rm : Room} {Cn : String} {k i ci NN : Nat} {fs : List Value} {T : u_T} {rest : List Value} {post : Option Value → Mem → Prop} (As : List Value) (ct : Ct l G rX y (.code y bytes maxL ret :: GW) rm (.ref (ad G k i) :: As) M post) (cv : CalV y bytes maxL ret rm n Cn) (lk : Cond.methodLink RL index y ∈ GW) (hm : (k, i) ∈ rX) (he : enc G M k i = .inr (ci, fs)) (hc : vwCl[ci]? = some (Cn, T, NN)) (hR : rm.frames + 1 ≤ room_1.frames ∧ 8 + (maxL + 11) + rm.locals ≤ room_1.locals) (hcs : cells ≤ room_1.cells ∧ slots ≤ room_1.slots) (hn : As.length = n) (hst : st = As.reverse ++ .ref (ad G k i) :: rest) (hW : (rest.map fun v => v.category).sum ≤ 8) (d : decode cL_law pc = .ok (.invokevirtual index, 3))
    (kk : ∀ (r : Option Value) (M' : Mem), post r M' → VL p l e s m b below meth c G cells slots M' N (pc + 3) lv (rcons r rest)) : VL p l e s m b below meth c G cells slots M N pc lv st := by
  intro H locs ls hX hM hS h
  obtain ⟨c1, c2, c3, c4, c5, c6, c7⟩ := cv
  subst hst
  obtain ⟨q, -, hq⟩ := wl_at (G := G) (M := M) hm
  rw [he] at hq
  have hG : GoodIn (.initialized RX0 :: GW) (wsV RL index Cn y (.code y bytes maxL ret :: GW)) := by
    refine gw_app (fun w hw => ?_) (gw_good c4)
    simp only [List.mem_cons, List.not_mem_nil, or_false] at hw
    rcases hw with rfl | rfl | rfl | rfl
    · exact lk
    · exact c1
    · exact c2
    · exact c3
  have hr := va_runV (l := l) (e := e) (below := below) (meth := meth) (locs := locs) (cells := cells) (slots := slots) (R := room_1) (g := F0 m pc ls (As.reverse ++ .ref (ad G k i) :: rest)) (As := As) (rest := rest) (b := ad G k i) ⟨C.x.1, C.x.2.1, C.x.2.2.1, C.x.2.2.2.1, C.x.2.2.2.2.1⟩ (ct H.size) (cwV n C.x.2.2.2.2.1 hG rfl c6 c7 c5 hR) ⟨PcG_blind, va_recv C.x.2.2.2.2.2.1.1 hX hc hq, PcG_at C.x hX⟩ rfl hn h.1 rfl (lv_room hW) d ⟨hcs.1, hcs.2⟩
  have hin : ∀ q, AA G rX H.size q → s.heap.size ≤ q := fun q hq => by
    rcases hq with ⟨q0, h0, rfl⟩ | hq
    · exact C.fX q0 h0
    · exact Nat.le_trans hS.1 hq
  intro T0 hT X
  obtain ⟨v, st₀, t, T', L', h0, X', hL, e1, e2, ⟨⟨r, M', hv, hp, hb⟩, hz, hk⟩, stp⟩ := hr T0 hT X
  cases hv
  rw [h0] at hz hk
  have hS' : va_S (fun q : Nat => s.heap.size ≤ q) s.heap T'.heap (locs ++ L') := by
    refine ⟨Nat.le_trans hS.1 (by rw [e1]; exact hz), fun q h1 h2 => ?_, fun q hq => ?_⟩
    · rw [e1, hk q (Nat.lt_of_lt_of_le h1 hS.1) (fun z => h2 (hin q z))]
      exact hS.2.1 q h1 h2
    · rcases List.mem_append.mp hq with h | h
      · exact hS.2.2 q h
      · exact hin _ (hL q h)
  obtain ⟨t2, a1, b1⟩ := kk v M' hp T'.heap (locs ++ L') ls (by rw [e1]; exact hb) (P_other C.dj (fun q h1 h2 => by rw [e1]; exact hk q h1 h2) hM) hS' h T' rfl X'
  refine ⟨t2, stp t2 ?_, b1⟩
  cases v <;> exact a1
theorem VL_callM (C : CxL p s m b meth c G L xs) {y : MethodName} {bytes : ByteArray} {maxL n index : Nat} {ret : Option FieldType} {rm : Room} {Cn : String} {k i ci NN : Nat} {fs : List Value} {T : u_T} {rest : List Value} {post : Option Value → Mem → Prop} (As : List Value) (ct : Ct l G rM y (.code y bytes maxL ret :: GW) rm (.ref (ad G k i) :: As) N post) (cv : CalV y bytes maxL ret rm n Cn) (lk : Cond.methodLink RL index y ∈ GW) (hm : (k, i) ∈ rM) (he : enc G N k i = .inr (ci, fs)) (hc : vwCl[ci]? = some (Cn, T, NN)) (hR : rm.frames + 1 ≤ room_1.frames ∧ 8 + (maxL + 11) + rm.locals ≤ room_1.locals) (hcs : cells ≤ room_1.cells ∧ slots ≤ room_1.slots) (hn : As.length = n) (hst : st = As.reverse ++ .ref (ad G k i) :: rest) (hW : (rest.map fun v => v.category).sum ≤ 8) (d : decode cL_law pc = .ok (.invokevirtual index, 3))
    (kk : ∀ (r : Option Value) (N' : Mem), post r N' → VL p l e s m b below meth c G cells slots M N' (pc + 3) lv (rcons r rest)) : VL p l e s m b below meth c G cells slots M N pc lv st := by
  intro H locs ls hX hM hS h
  obtain ⟨c1, c2, c3, c4, c5, c6, c7⟩ := cv
  subst hst
  obtain ⟨q, -, hq⟩ := wl_at (G := G) (M := N) hm
  rw [he] at hq
  have hG : GoodIn (.initialized RX0 :: GW) (wsV RL index Cn y (.code y bytes maxL ret :: GW)) := by
    refine gw_app (fun w hw => ?_) (gw_good c4)
    simp only [List.mem_cons, List.not_mem_nil, or_false] at hw
    rcases hw with rfl | rfl | rfl | rfl
    · exact lk
    · exact c1
    · exact c2
    · exact c3
  have hr := va_runV (l := l) (e := e) (below := below) (meth := meth) (locs := locs) (cells := cells) (slots := slots) (R := room_1) (g := F0 m pc ls (As.reverse ++ .ref (ad G k i) :: rest)) (As := As) (rest := rest) (b := ad G k i) ⟨C.y.1, C.y.2.1, C.y.2.2.1, C.y.2.2.2.1, C.y.2.2.2.2.1⟩ (ct H.size) (cwV n C.y.2.2.2.2.1 hG rfl c6 c7 c5 hR) ⟨PcG_blind, va_recv C.y.2.2.2.2.2.1.1 hM hc hq, PcG_at C.y hM⟩ rfl hn h.1 rfl (lv_room hW) d ⟨hcs.1, hcs.2⟩
  have hin : ∀ q, AA G rM H.size q → s.heap.size ≤ q := fun q hq => by
    rcases hq with ⟨q0, h0, rfl⟩ | hq
    · exact C.fM q0 h0
    · exact Nat.le_trans hS.1 hq
  intro T0 hT X
  obtain ⟨v, st₀, t, T', L', h0, X', hL, e1, e2, ⟨⟨r, M', hv, hp, hb⟩, hz, hk⟩, stp⟩ := hr T0 hT X
  cases hv
  rw [h0] at hz hk
  have hS' : va_S (fun q : Nat => s.heap.size ≤ q) s.heap T'.heap (locs ++ L') := by
    refine ⟨Nat.le_trans hS.1 (by rw [e1]; exact hz), fun q h1 h2 => ?_, fun q hq => ?_⟩
    · rw [e1, hk q (Nat.lt_of_lt_of_le h1 hS.1) (fun z => h2 (hin q z))]
      exact hS.2.1 q h1 h2
    · rcases List.mem_append.mp hq with h | h
      · exact hS.2.2 q h
      · exact hin _ (hL q h)
  obtain ⟨t2, a1, b1⟩ := kk v M' hp T'.heap (locs ++ L') ls (P_other (fun q h1 q' h2 e => C.dj q' h2 q h1 e.symm) (fun q h1 h2 => by rw [e1]; exact hk q h1 h2) hX) (by rw [e1]; exact hb) hS' h T' rfl X'
  refine ⟨t2, stp t2 ?_, b1⟩
  cases v <;> exact a1
theorem VL_end (C : CxL p s m b meth c G L xs) (hr : meth.sig.returnType = ret) (hlocks : meth.locks = false) (hcs : cells ≤ 600000 ∧ slots ≤ 7302250) (d : decode cL_law pc = .ok (.ireturn, 1)) : VL p l e s m b below meth c G cells slots M N pc lv [.int (nI 1)] :=
  fun H locs ls hX hM hS h => va_forget hS.2.2 (W.widen hcs.1 hcs.2 (lw_ret C.x.1 C.x.2.1 hr hlocks d))
theorem lt_L7 {i L : Nat} (hi : i ≤ 4000) (hL : L ≤ 3584) : nI L - nI 7 < nI i ↔ L < i + 7 := by
  by_cases h : 7 ≤ L
  · rw [pk_sub h, nI_ltI (by omega) (by omega)]
    omega
  · refine ⟨fun _ => by omega, fun _ => ?_⟩
    have e : (nI L - nI 7).toInt < 0 := by
      rcases (show L = 0 ∨ L = 1 ∨ L = 2 ∨ L = 3 ∨ L = 4 ∨ L = 5 ∨ L = 6 by omega) with rfl | rfl | rfl | rfl | rfl | rfl | rfl <;> decide
    rw [Int32.lt_iff_toInt_lt, nI_toInt (by omega)]
    have : (0 : Int) ≤ (i : Int) := Int.natCast_nonneg i
    omega
end VLR
theorem wl_k18 : Cond.constantLong RL 18 (4294967295) ∈ GW := gw_in 1021 (by decide +kernel) (by decide +kernel)
