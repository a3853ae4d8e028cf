section VR2
variable {p : Program} {l : Launch} {e : Env} {R : Room} {s : State} {m : MethodId} {args : Array Value} {below : List Frame} {meth : Method} {c : Code} {G : Gm} {ro : List (Nat × Nat)} {nL : Nat} {Q : State → Prop} {M : Mem} {pc : Nat} {lv : List (Nat × Value)} {st : List Value} {cc : ByteArray} {own : String} {a0 : Cond}
theorem V_iconst (C : Cx p s m args c cc own nL G ro a0) {n : Int} (v : Int32) (d : decode cc pc = .ok (.iconst n, 1)) (hv : Int32.ofInt n = v) (kk : V p l e R s m args below meth c G ro nL Q M (pc + 1) lv (.int v :: st)) : V p l e R s m args below meth c G ro nL Q M pc lv st := fun H locs ls hP hS h => lv_iconst C.1 C.2.1 d hv (kk H locs ls hP hS h)
theorem V_bipush (C : Cx p s m args c cc own nL G ro a0) {n : Int} (v : Int32) (d : decode cc pc = .ok (.bipush n, 2)) (hv : (Int8.ofInt n).toInt32 = v) (kk : V p l e R s m args below meth c G ro nL Q M (pc + 2) lv (.int v :: st)) : V p l e R s m args below meth c G ro nL Q M pc lv st := fun H locs ls hP hS h => lv_bipush C.1 C.2.1 d hv (kk H locs ls hP hS h)
theorem V_sipush (C : Cx p s m args c cc own nL G ro a0) {n : Int} (v : Int32) (d : decode cc pc = .ok (.sipush n, 3)) (hv : (Int16.ofInt n).toInt32 = v) (kk : V p l e R s m args below meth c G ro nL Q M (pc + 3) lv (.int v :: st)) : V p l e R s m args below meth c G ro nL Q M pc lv st := fun H locs ls hP hS h => lv_sipush C.1 C.2.1 d hv (kk H locs ls hP hS h)
theorem V_lconst (C : Cx p s m args c cc own nL G ro a0) {n : Fin 2} (v : Int64) (d : decode cc pc = .ok (.lconst n, 1)) (hv : Int64.ofNat (n : Nat) = v) (kk : V p l e R s m args below meth c G ro nL Q M (pc + 1) lv (.long v :: st)) : V p l e R s m args below meth c G ro nL Q M pc lv st := fun H locs ls hP hS h => lv_lconst C.1 C.2.1 d hv (kk H locs ls hP hS h)
theorem V_ldc2 (C : Cx p s m args c cc own nL G ro a0) {index : Nat} {v : Int64} (hw : Cond.constantLong own index v ∈ GW) (d : decode cc pc = .ok (.ldc2_w index, 3)) (kk : V p l e R s m args below meth c G ro nL Q M (pc + 3) lv (.long v :: st)) : V p l e R s m args below meth c G ro nL Q M pc lv st := fun H locs ls hP hS h => lv_ldc2 C.1 C.2.1 C.2.2.2.1 (C.2.2.2.2.1 _ (List.mem_cons_of_mem _ hw)) d (kk H locs ls hP hS h)
theorem V_iaddN (C : Cx p s m args c cc own nL G ro a0) {a b : Nat} (d : decode cc pc = .ok (.iadd, 1)) (kk : V p l e R s m args below meth c G ro nL Q M (pc + 1) lv (.int (nI (a + b)) :: st)) : V p l e R s m args below meth c G ro nL Q M pc lv (.int (nI b) :: .int (nI a) :: st) := V_iadd C d (by rw [nI_add]; exact kk)
theorem V_isubN (C : Cx p s m args c cc own nL G ro a0) {a b : Nat} (d : decode cc pc = .ok (.isub, 1)) (hle : b ≤ a) (kk : V p l e R s m args below meth c G ro nL Q M (pc + 1) lv (.int (nI (a - b)) :: st)) : V p l e R s m args below meth c G ro nL Q M pc lv (.int (nI b) :: .int (nI a) :: st) := V_isub C d (by rw [pk_sub hle]; exact kk)
theorem V_imulN (C : Cx p s m args c cc own nL G ro a0) {a b : Nat} (d : decode cc pc = .ok (.imul, 1)) (kk : V p l e R s m args below meth c G ro nL Q M (pc + 1) lv (.int (nI (a * b)) :: st)) : V p l e R s m args below meth c G ro nL Q M pc lv (.int (nI b) :: .int (nI a) :: st) := V_imul C d (by rw [pk_mul]; exact kk)
theorem V_i2lN (C : Cx p s m args c cc own nL G ro a0) {a : Nat} (d : decode cc pc = .ok (.i2l, 1)) (h : a < 2 ^ 31) (kk : V p l e R s m args below meth c G ro nL Q M (pc + 1) lv (.long (lN a) :: st)) : V p l e R s m args below meth c G ro nL Q M pc lv (.int (nI a) :: st) := V_i2l C d (by rw [nI_l h]; exact kk)
theorem V_l2iN (C : Cx p s m args c cc own nL G ro a0) {a : Nat} {x : Int64} (d : decode cc pc = .ok (.l2i, 1)) (h : x = lN a) (kk : V p l e R s m args below meth c G ro nL Q M (pc + 1) lv (.int (nI a) :: st)) : V p l e R s m args below meth c G ro nL Q M pc lv (.long x :: st) := V_l2i C d (by rw [h, lN_i]; exact kk)
theorem V_iincN (C : Cx p s m args c cc own nL G ro a0) {i : Nat} {n : Int} {a b : Nat} {lv' : List (Nat × Value)} (d : decode cc pc = .ok (.iinc i n, 3)) (ha : lkp lv i = some (.int (nI a))) (hb : Int32.ofInt n = nI b) (hn : i < nL) (hl : (i, Value.int (nI (a + b))) :: lv.filter (fun q => !(q.1 == i) && !(q.1 + 1 == i && q.2.category == 2)) = lv') (kk : V p l e R s m args below meth c G ro nL Q M (pc + 3) lv' st) : V p l e R s m args below meth c G ro nL Q M pc lv st := by
  intro H locs ls hP hS h
  have hm : ∀ (l : List (Nat × Value)), lkp l i = some (.int (nI a)) → ∃ k : Nat, l[k]? = some (i, .int (nI a)) := by
    intro l
    induction l with
    | nil => intro h; cases h
    | cons q t ih =>
      obtain ⟨j, w⟩ := q
      intro h
      unfold lkp at h
      cases hb : Nat.beq j i with
      | true =>
        rw [hb] at h
        have e := Nat.eq_of_beq_eq_true hb
        subst e
        cases h
        exact ⟨0, rfl⟩
      | false =>
        rw [hb] at h
        obtain ⟨k, hk⟩ := ih h
        exact ⟨k + 1, hk⟩
  obtain ⟨k, hk⟩ := hm lv ha
  exact lv_iinc (k := k) (v := nI (a + b)) C.1 C.2.1 d h hk (by rw [hb, nI_add]) hn hl (fun ls h => kk H locs ls hP hS h)
theorem V_ifnullR (C : Cx p s m args c cc own nL G ro a0) {x : Nat} {off : Int} (d : decode cc pc = .ok (.ifnull off, 3)) (kk : V p l e R s m args below meth c G ro nL Q M (pc + 3) lv st) : V p l e R s m args below meth c G ro nL Q M pc lv (.ref x :: st) := fun H locs ls hP hS h => lv_ifnull C.1 C.2.1 d (kk H locs ls hP hS h)
theorem V_ifnullN (C : Cx p s m args c cc own nL G ro a0) {off : Int} {tgt : Nat} (d : decode cc pc = .ok (.ifnull off, 3)) (ht : (pc : Int) + off = (tgt : Int)) (kk : V p l e R s m args below meth c G ro nL Q M tgt lv st) : V p l e R s m args below meth c G ro nL Q M pc lv (.null :: st) := fun H locs ls hP hS h => lv_ifnullN C.1 C.2.1 d ht (kk H locs ls hP hS h)
theorem V_ifnonnullR (C : Cx p s m args c cc own nL G ro a0) {x : Nat} {off : Int} {tgt : Nat} (d : decode cc pc = .ok (.ifnonnull off, 3)) (ht : (pc : Int) + off = (tgt : Int)) (kk : V p l e R s m args below meth c G ro nL Q M tgt lv st) : V p l e R s m args below meth c G ro nL Q M pc lv (.ref x :: st) := fun H locs ls hP hS h => lv_ifnonnull C.1 C.2.1 d ht (kk H locs ls hP hS h)
theorem V_ifnonnullN (C : Cx p s m args c cc own nL G ro a0) {off : Int} (d : decode cc pc = .ok (.ifnonnull off, 3)) (kk : V p l e R s m args below meth c G ro nL Q M (pc + 3) lv st) : V p l e R s m args below meth c G ro nL Q M pc lv (.null :: st) := fun H locs ls hP hS h => lv_ifnonnullN C.1 C.2.1 d (kk H locs ls hP hS h)
theorem V_tabIn (C : Cx p s m args c cc own nL G ro a0) {dflt lo hi : Int} {offs : Array Int} {len : Nat} {x : Int32} {off : Int} {tgt : Nat} (d : decode cc pc = .ok (.tableswitch dflt lo hi offs, len)) (n : Int) (hx : x.toInt = n) (h1 : ¬ n < lo) (h2 : ¬ hi < n) (ho : offs[(n - lo).toNat]? = some off) (ht : (pc : Int) + off = (tgt : Int)) (kk : V p l e R s m args below meth c G ro nL Q M tgt lv st) : V p l e R s m args below meth c G ro nL Q M pc lv (.int x :: st) := fun H locs ls hP hS h => lv_tableIn C.1 C.2.1 d (by rw [hx]; exact h1) (by rw [hx]; exact h2) (by rw [hx]; exact ho) ht (kk H locs ls hP hS h)
theorem V_tabOut (C : Cx p s m args c cc own nL G ro a0) {dflt lo hi : Int} {offs : Array Int} {len : Nat} {x : Int32} {tgt : Nat} (d : decode cc pc = .ok (.tableswitch dflt lo hi offs, len)) (h : x.toInt < lo ∨ hi < x.toInt) (ht : (pc : Int) + dflt = (tgt : Int)) (kk : V p l e R s m args below meth c G ro nL Q M tgt lv st) : V p l e R s m args below meth c G ro nL Q M pc lv (.int x :: st) := fun H locs ls hP hS hh => lv_tableOut C.1 C.2.1 d h ht (kk H locs ls hP hS hh)
theorem V_icmpN_eq (C : Cx p s m args c cc own nL G ro a0) {a b : Nat} {off : Int} {tgt : Nat} (d : decode cc pc = .ok (.if_icmp .eq off, 3)) (ha : a < 2 ^ 31) (hb : b < 2 ^ 31) (ht : (pc : Int) + off = (tgt : Int)) (kt : a = b → V p l e R s m args below meth c G ro nL Q M tgt lv st) (kf : ¬ a = b → V p l e R s m args below meth c G ro nL Q M (pc + 3) lv st) : V p l e R s m args below meth c G ro nL Q M pc lv (.int (nI b) :: .int (nI a) :: st) := V_icmp_eq C d ht (fun q => kt ((nI_eq ha hb).mp q)) (fun q => kf (fun z => q ((nI_eq ha hb).mpr z)))
theorem V_icmpN_ne (C : Cx p s m args c cc own nL G ro a0) {a b : Nat} {off : Int} {tgt : Nat} (d : decode cc pc = .ok (.if_icmp .ne off, 3)) (ha : a < 2 ^ 31) (hb : b < 2 ^ 31) (ht : (pc : Int) + off = (tgt : Int)) (kt : ¬ a = b → V p l e R s m args below meth c G ro nL Q M tgt lv st) (kf : a = b → V p l e R s m args below meth c G ro nL Q M (pc + 3) lv st) : V p l e R s m args below meth c G ro nL Q M pc lv (.int (nI b) :: .int (nI a) :: st) := V_icmp_ne C d ht (fun q => kt (fun z => q ((nI_eq ha hb).mpr z))) (fun q => kf ((nI_eq ha hb).mp q))
theorem V_icmpN_lt (C : Cx p s m args c cc own nL G ro a0) {a b : Nat} {off : Int} {tgt : Nat} (d : decode cc pc = .ok (.if_icmp .lt off, 3)) (ha : a < 2 ^ 31) (hb : b < 2 ^ 31) (ht : (pc : Int) + off = (tgt : Int)) (kt : a < b → V p l e R s m args below meth c G ro nL Q M tgt lv st) (kf : ¬ a < b → V p l e R s m args below meth c G ro nL Q M (pc + 3) lv st) : V p l e R s m args below meth c G ro nL Q M pc lv (.int (nI b) :: .int (nI a) :: st) := V_icmp_lt C d ht (fun q => kt ((nI_ltI ha hb).mp q)) (fun q => kf (fun z => q ((nI_ltI ha hb).mpr z)))
theorem V_icmpN_ge (C : Cx p s m args c cc own nL G ro a0) {a b : Nat} {off : Int} {tgt : Nat} (d : decode cc pc = .ok (.if_icmp .ge off, 3)) (ha : a < 2 ^ 31) (hb : b < 2 ^ 31) (ht : (pc : Int) + off = (tgt : Int)) (kt : b ≤ a → V p l e R s m args below meth c G ro nL Q M tgt lv st) (kf : ¬ b ≤ a → V p l e R s m args below meth c G ro nL Q M (pc + 3) lv st) : V p l e R s m args below meth c G ro nL Q M pc lv (.int (nI b) :: .int (nI a) :: st) := V_icmp_ge C d ht (fun q => kt ((nI_leI hb ha).mp q)) (fun q => kf (fun z => q ((nI_leI hb ha).mpr z)))
theorem V_icmpN_gt (C : Cx p s m args c cc own nL G ro a0) {a b : Nat} {off : Int} {tgt : Nat} (d : decode cc pc = .ok (.if_icmp .gt off, 3)) (ha : a < 2 ^ 31) (hb : b < 2 ^ 31) (ht : (pc : Int) + off = (tgt : Int)) (kt : b < a → V p l e R s m args below meth c G ro nL Q M tgt lv st) (kf : ¬ b < a → V p l e R s m args below meth c G ro nL Q M (pc + 3) lv st) : V p l e R s m args below meth c G ro nL Q M pc lv (.int (nI b) :: .int (nI a) :: st) := V_icmp_gt C d ht (fun q => kt ((nI_ltI hb ha).mp q)) (fun q => kf (fun z => q ((nI_ltI hb ha).mpr z)))
theorem V_icmpN_le (C : Cx p s m args c cc own nL G ro a0) {a b : Nat} {off : Int} {tgt : Nat} (d : decode cc pc = .ok (.if_icmp .le off, 3)) (ha : a < 2 ^ 31) (hb : b < 2 ^ 31) (ht : (pc : Int) + off = (tgt : Int)) (kt : a ≤ b → V p l e R s m args below meth c G ro nL Q M tgt lv st) (kf : ¬ a ≤ b → V p l e R s m args below meth c G ro nL Q M (pc + 3) lv st) : V p l e R s m args below meth c G ro nL Q M pc lv (.int (nI b) :: .int (nI a) :: st) := V_icmp_le C d ht (fun q => kt ((nI_leI ha hb).mp q)) (fun q => kf (fun z => q ((nI_leI ha hb).mpr z)))
theorem nI_z {a : Nat} (ha : a < 2 ^ 31) : nI a = 0 ↔ a = 0 := by rw [← nI_0]; exact nI_eq ha (by decide)
theorem nI_p {a : Nat} (ha : a < 2 ^ 31) : 0 < nI a ↔ 0 < a := by rw [← nI_0]; exact nI_ltI (by decide) ha
theorem nI_b {P : Prop} [Decidable P] : nI (bN P) = 0 ↔ ¬ P := by
  unfold bN
  by_cases h : P
  · simp only [h, if_true, not_true_eq_false, iff_false]; decide
  · simp only [h, if_false, not_false_eq_true, iff_true]; decide
theorem V_ifN_eq (C : Cx p s m args c cc own nL G ro a0) {a : Nat} {off : Int} {tgt : Nat} (d : decode cc pc = .ok (.ifCond .eq off, 3)) (ha : a < 2 ^ 31) (ht : (pc : Int) + off = (tgt : Int)) (kt : a = 0 → V p l e R s m args below meth c G ro nL Q M tgt lv st) (kf : ¬ a = 0 → V p l e R s m args below meth c G ro nL Q M (pc + 3) lv st) : V p l e R s m args below meth c G ro nL Q M pc lv (.int (nI a) :: st) := V_if_eq C d ht (fun q => kt ((nI_z ha).mp q)) (fun q => kf (fun z => q ((nI_z ha).mpr z)))
theorem V_ifN_ne (C : Cx p s m args c cc own nL G ro a0) {a : Nat} {off : Int} {tgt : Nat} (d : decode cc pc = .ok (.ifCond .ne off, 3)) (ha : a < 2 ^ 31) (ht : (pc : Int) + off = (tgt : Int)) (kt : ¬ a = 0 → V p l e R s m args below meth c G ro nL Q M tgt lv st) (kf : a = 0 → V p l e R s m args below meth c G ro nL Q M (pc + 3) lv st) : V p l e R s m args below meth c G ro nL Q M pc lv (.int (nI a) :: st) := V_if_ne C d ht (fun q => kt (fun z => q ((nI_z ha).mpr z))) (fun q => kf ((nI_z ha).mp q))
theorem V_ifN_gt (C : Cx p s m args c cc own nL G ro a0) {a : Nat} {off : Int} {tgt : Nat} (d : decode cc pc = .ok (.ifCond .gt off, 3)) (ha : a < 2 ^ 31) (ht : (pc : Int) + off = (tgt : Int)) (kt : 0 < a → V p l e R s m args below meth c G ro nL Q M tgt lv st) (kf : ¬ 0 < a → V p l e R s m args below meth c G ro nL Q M (pc + 3) lv st) : V p l e R s m args below meth c G ro nL Q M pc lv (.int (nI a) :: st) := V_if_gt C d ht (fun q => kt ((nI_p ha).mp q)) (fun q => kf (fun z => q ((nI_p ha).mpr z)))
theorem V_ifN_le (C : Cx p s m args c cc own nL G ro a0) {a : Nat} {off : Int} {tgt : Nat} (d : decode cc pc = .ok (.ifCond .le off, 3)) (ha : a < 2 ^ 31) (ht : (pc : Int) + off = (tgt : Int)) (kt : ¬ 0 < a → V p l e R s m args below meth c G ro nL Q M tgt lv st) (kf : 0 < a → V p l e R s m args below meth c G ro nL Q M (pc + 3) lv st) : V p l e R s m args below meth c G ro nL Q M pc lv (.int (nI a) :: st) := V_if_le C d ht (fun q => kt (fun z => absurd q (Int32.not_le.mpr ((nI_p ha).mpr z)))) (fun q => kf ((nI_p ha).mp (Int32.not_le.mp q)))
theorem V_ifB_eq (C : Cx p s m args c cc own nL G ro a0) {P : Prop} [Decidable P] {off : Int} {tgt : Nat} (d : decode cc pc = .ok (.ifCond .eq off, 3)) (ht : (pc : Int) + off = (tgt : Int)) (kt : ¬ P → V p l e R s m args below meth c G ro nL Q M tgt lv st) (kf : P → V p l e R s m args below meth c G ro nL Q M (pc + 3) lv st) : V p l e R s m args below meth c G ro nL Q M pc lv (.int (nI (bN P)) :: st) := V_if_eq C d ht (fun q => kt (nI_b.mp q)) (fun q => kf (Decidable.byContradiction fun z => q (nI_b.mpr z)))
theorem V_ifB_ne (C : Cx p s m args c cc own nL G ro a0) {P : Prop} [Decidable P] {off : Int} {tgt : Nat} (d : decode cc pc = .ok (.ifCond .ne off, 3)) (ht : (pc : Int) + off = (tgt : Int)) (kt : P → V p l e R s m args below meth c G ro nL Q M tgt lv st) (kf : ¬ P → V p l e R s m args below meth c G ro nL Q M (pc + 3) lv st) : V p l e R s m args below meth c G ro nL Q M pc lv (.int (nI (bN P)) :: st) := V_if_ne C d ht (fun q => kt (Decidable.byContradiction fun z => q (nI_b.mpr z))) (fun q => kf (nI_b.mp q))
theorem V_ifL_eq (C : Cx p s m args c cc own nL G ro a0) {x y : Int64} {off : Int} {tgt : Nat} (d : decode cc pc = .ok (.ifCond .eq off, 3)) (ht : (pc : Int) + off = (tgt : Int)) (kt : x = y → V p l e R s m args below meth c G ro nL Q M tgt lv st) (kf : ¬ x = y → V p l e R s m args below meth c G ro nL Q M (pc + 3) lv st) : V p l e R s m args below meth c G ro nL Q M pc lv (.int (lg_cmp x y) :: st) := V_if_eq C d ht (fun q => kt ((lg_cmp_eq x y).mp q)) (fun q => kf (fun z => q ((lg_cmp_eq x y).mpr z)))
theorem V_ifL_ne (C : Cx p s m args c cc own nL G ro a0) {x y : Int64} {off : Int} {tgt : Nat} (d : decode cc pc = .ok (.ifCond .ne off, 3)) (ht : (pc : Int) + off = (tgt : Int)) (kt : ¬ x = y → V p l e R s m args below meth c G ro nL Q M tgt lv st) (kf : x = y → V p l e R s m args below meth c G ro nL Q M (pc + 3) lv st) : V p l e R s m args below meth c G ro nL Q M pc lv (.int (lg_cmp x y) :: st) := V_if_ne C d ht (fun q => kt (fun z => q ((lg_cmp_eq x y).mpr z))) (fun q => kf ((lg_cmp_eq x y).mp q))
theorem V_ifL_lt (C : Cx p s m args c cc own nL G ro a0) {x y : Int64} {off : Int} {tgt : Nat} (d : decode cc pc = .ok (.ifCond .lt off, 3)) (ht : (pc : Int) + off = (tgt : Int)) (kt : x < y → V p l e R s m args below meth c G ro nL Q M tgt lv st) (kf : ¬ x < y → V p l e R s m args below meth c G ro nL Q M (pc + 3) lv st) : V p l e R s m args below meth c G ro nL Q M pc lv (.int (lg_cmp x y) :: st) := V_if_lt C d ht (fun q => kt ((lg_cmp_lt x y).mp q)) (fun q => kf (fun z => q ((lg_cmp_lt x y).mpr z)))
theorem V_ifL_ge (C : Cx p s m args c cc own nL G ro a0) {x y : Int64} {off : Int} {tgt : Nat} (d : decode cc pc = .ok (.ifCond .ge off, 3)) (ht : (pc : Int) + off = (tgt : Int)) (kt : y ≤ x → V p l e R s m args below meth c G ro nL Q M tgt lv st) (kf : ¬ y ≤ x → V p l e R s m args below meth c G ro nL Q M (pc + 3) lv st) : V p l e R s m args below meth c G ro nL Q M pc lv (.int (lg_cmp x y) :: st) := V_if_ge C d ht (fun q => kt ((lg_cmp_ge x y).mp q)) (fun q => kf (fun z => q ((lg_cmp_ge x y).mpr z)))
theorem V_ifL_gt (C : Cx p s m args c cc own nL G ro a0) {x y : Int64} {off : Int} {tgt : Nat} (d : decode cc pc = .ok (.ifCond .gt off, 3)) (ht : (pc : Int) + off = (tgt : Int)) (kt : y < x → V p l e R s m args below meth c G ro nL Q M tgt lv st) (kf : ¬ y < x → V p l e R s m args below meth c G ro nL Q M (pc + 3) lv st) : V p l e R s m args below meth c G ro nL Q M pc lv (.int (lg_cmp x y) :: st) := V_if_gt C d ht (fun q => kt ((lg_cmp_gt x y).mp q)) (fun q => kf (fun z => q ((lg_cmp_gt x y).mpr z)))
theorem V_ifL_le (C : Cx p s m args c cc own nL G ro a0) {x y : Int64} {off : Int} {tgt : Nat} (d : decode cc pc = .ok (.ifCond .le off, 3)) (ht : (pc : Int) + off = (tgt : Int)) (kt : x ≤ y → V p l e R s m args below meth c G ro nL Q M tgt lv st) (kf : ¬ x ≤ y → V p l e R s m args below meth c G ro nL Q M (pc + 3) lv st) : V p l e R s m args below meth c G ro nL Q M pc lv (.int (lg_cmp x y) :: st) := V_if_le C d ht (fun q => kt ((lg_cmp_le x y).mp q)) (fun q => kf (fun z => q ((lg_cmp_le x y).mpr z)))
/-- fields -/
theorem V_getf (C : Cx p s m args c cc own nL G ro a0) {k i ci index j N : Nat} {fs : List Value} {Cn ref : String} {T : u_T} {v : Value} (hm : (k, i) ∈ ro) (he : enc G M k i = .inr (ci, fs)) (hc : vwCl[ci]? = some (Cn, T, N)) (hin : ∀ w ∈ u_ws Cn T N, w ∈ GW) (hj : j < N) (hl : Cond.fieldLink own index ref (T j).2.1 (T j).2.2.1 ∈ GW) (hr : (T j).1 = ref) (hv : fs[j]? = some v) (d : decode cc pc = .ok (.getfield index, 3)) (kk : V p l e R s m args below meth c G ro nL Q M (pc + 3) lv (v :: st)) : V p l e R s m args below meth c G ro nL Q M pc lv (.ref (ad G k i) :: st) := by
  intro H locs ls hP hS h
  obtain ⟨n, -, hn⟩ := wl_at (G := G) (M := M) hm
  rw [he] at hn
  exact va_get C.1 C.2.1 C.2.2.2.2.1 (fun w hw => List.mem_cons_of_mem _ (hin w hw)) C.2.2.2.1 C.2.2.2.2.2.1.1 hP n hn hc j hj (C.2.2.2.2.1 _ (List.mem_cons_of_mem _ hl)) (fun x hx => by rw [← hr]; exact hx) hv d (kk H locs ls hP hS h)
theorem V_getfN (C : Cx p s m args c cc own nL G ro a0) {k i ci index j N : Nat} {fs : List Value} {Cn ref host : String} {T : u_T} {v : Value} (hm : (k, i) ∈ ro) (he : enc G M k i = .inr (ci, fs)) (hc : vwCl[ci]? = some (Cn, T, N)) (hin : ∀ w ∈ u_ws Cn T N, w ∈ GW) (hj : j < N) (hl : Cond.fieldLinkNest own index ref (T j).2.1 (T j).2.2.1 host ∈ NestW) (hr : (T j).1 = ref) (hv : fs[j]? = some v) (d : decode cc pc = .ok (.getfield index, 3)) (kk : V p l e R s m args below meth c G ro nL Q M (pc + 3) lv (v :: st)) : V p l e R s m args below meth c G ro nL Q M pc lv (.ref (ad G k i) :: st) := by
  intro H locs ls hP hS h
  obtain ⟨n, -, hn⟩ := wl_at (G := G) (M := M) hm
  rw [he] at hn
  exact va_getN C.1 C.2.1 C.2.2.2.2.1 (fun w hw => List.mem_cons_of_mem _ (hin w hw)) C.2.2.2.1 C.2.2.2.2.2.1.1 hP n hn hc j hj (va_Nw.use rfl (C.2.2.2.2.2.1.2.1 _ hl)) (fun x hx => by rw [← hr]; exact hx) hv d (kk H locs ls hP hS h)
theorem V_putf (C : Cx p s m args c cc own nL G ro a0) {k i ci index j N : Nat} {fs : List Value} {Cn ref : String} {T : u_T} {ty0 : Nat → FieldType} {v : Value} (M' : Mem) (hm : (k, i) ∈ ro) (he : enc G M k i = .inr (ci, fs)) (he' : enc G M' k i = .inr (ci, fs.set j v)) (hloc : ∀ a b, (a, b) ≠ (k, i) → enc G M' a b = enc G M a b) (hc : vwCl[ci]? = some (Cn, T, N)) (hin : ∀ w ∈ u_ws Cn T N, w ∈ GW) (hty : ∀ k, k < N → parseFieldDescriptor (T k).2.2.1 = some (ty0 k)) (hnm : ∀ a, a < N → ∀ b, b < N → a ≠ b → (T a).2.1 ≠ (T b).2.1) (hj : j < N) (hl : Cond.fieldLink own index ref (T j).2.1 (T j).2.2.1 ∈ GW) (hr : (T j).1 = ref) (hfin : (T j).2.2.2 = false) (hn : narrow (ty0 j) v = v) (hfit : fits (ty0 j) v = true) (hlen : j < fs.length) (d : decode cc pc = .ok (.putfield index, 3)) (kk : V p l e R s m args below meth c G ro nL Q M' (pc + 3) lv st) : V p l e R s m args below meth c G ro nL Q M pc lv (v :: .ref (ad G k i) :: st) := by
  intro H locs ls hP hS h
  obtain ⟨n, hn0, hn1⟩ := wl_at (G := G) (M := M) hm
  have hset := wl_set (G := G) (M := M) (M' := M') C.2.2.2.2.2.2.1 hn0 hloc
  rw [he'] at hset
  rw [he] at hn1
  refine va_put C.1 C.2.1 C.2.2.2.2.1 (fun w hw => List.mem_cons_of_mem _ (hin w hw)) ty0 hty hnm C.2.2.2.1 C.2.2.2.2.2.1.1 hP (wl_D C.2.2.2.2.2.2) hS n hn1 hc j hj (C.2.2.2.2.1 _ (List.mem_cons_of_mem _ hl)) (fun x hx => by rw [← hr]; exact hx) hfin (hty j hj) hn hfit hlen d (fun H1 locs1 hP1 _ hS1 => ?_)
  rw [hset] at hP1
  exact kk H1 locs1 ls hP1 hS1 h
theorem V_putfN (C : Cx p s m args c cc own nL G ro a0) {k i ci index j N : Nat} {fs : List Value} {Cn ref host : String} {T : u_T} {ty0 : Nat → FieldType} {v : Value} (M' : Mem) (hm : (k, i) ∈ ro) (he : enc G M k i = .inr (ci, fs)) (he' : enc G M' k i = .inr (ci, fs.set j v)) (hloc : ∀ a b, (a, b) ≠ (k, i) → enc G M' a b = enc G M a b) (hc : vwCl[ci]? = some (Cn, T, N)) (hin : ∀ w ∈ u_ws Cn T N, w ∈ GW) (hty : ∀ k, k < N → parseFieldDescriptor (T k).2.2.1 = some (ty0 k)) (hnm : ∀ a, a < N → ∀ b, b < N → a ≠ b → (T a).2.1 ≠ (T b).2.1) (hj : j < N) (hl : Cond.fieldLinkNest own index ref (T j).2.1 (T j).2.2.1 host ∈ NestW) (hr : (T j).1 = ref) (hfin : (T j).2.2.2 = false) (hn : narrow (ty0 j) v = v) (hfit : fits (ty0 j) v = true) (hlen : j < fs.length) (d : decode cc pc = .ok (.putfield index, 3)) (kk : V p l e R s m args below meth c G ro nL Q M' (pc + 3) lv st) : V p l e R s m args below meth c G ro nL Q M pc lv (v :: .ref (ad G k i) :: st) := by
  intro H locs ls hP hS h
  obtain ⟨n, hn0, hn1⟩ := wl_at (G := G) (M := M) hm
  have hset := wl_set (G := G) (M := M) (M' := M') C.2.2.2.2.2.2.1 hn0 hloc
  rw [he'] at hset
  rw [he] at hn1
  refine va_putN C.1 C.2.1 C.2.2.2.2.1 (fun w hw => List.mem_cons_of_mem _ (hin w hw)) ty0 hty hnm C.2.2.2.1 C.2.2.2.2.2.1.1 hP (wl_D C.2.2.2.2.2.2) hS n hn1 hc j hj (va_Nw.use rfl (C.2.2.2.2.2.1.2.1 _ hl)) (fun x hx => by rw [← hr]; exact hx) hfin (hty j hj) hn hfit hlen d (fun H1 locs1 hP1 _ hS1 => ?_)
  rw [hset] at hP1
  exact kk H1 locs1 ls hP1 hS1 h
/-- arrays -/
theorem V_aldN (C : Cx p s m args c cc own nL G ro a0) {k i n j : Nat} (hm : (k, i) ∈ ro) (he : enc G M k i = aN G n (gN M k i)) (hj : j < n) (hn : n < 2 ^ 31) (d : decode cc pc = .ok (.iaload, 1)) (kk : V p l e R s m args below meth c G ro nL Q M (pc + 1) lv (.int (nI (gN M k i j)) :: st)) : V p l e R s m args below meth c G ro nL Q M pc lv (.int (nI j) :: .ref (ad G k i) :: st) := by
  intro H locs ls hP hS h
  obtain ⟨q, -, hq⟩ := wl_at (G := G) (M := M) hm
  rw [he] at hq
  refine va_iald C.1 C.2.1 C.2.2.2.2.2.1.1 hP q 0 hq rfl (vp_in_nI hj hn) d ?_
  rw [nI_clamp (by omega)]
  exact kk H locs ls hP hS h
theorem V_aldI (C : Cx p s m args c cc own nL G ro a0) {k i n j : Nat} (hm : (k, i) ∈ ro) (he : enc G M k i = aI G n (gI M k i)) (hj : j < n) (hn : n < 2 ^ 31) (d : decode cc pc = .ok (.iaload, 1)) (kk : V p l e R s m args below meth c G ro nL Q M (pc + 1) lv (.int (gI M k i j) :: st)) : V p l e R s m args below meth c G ro nL Q M pc lv (.int (nI j) :: .ref (ad G k i) :: st) := by
  intro H locs ls hP hS h
  obtain ⟨q, -, hq⟩ := wl_at (G := G) (M := M) hm
  rw [he] at hq
  refine va_iald C.1 C.2.1 C.2.2.2.2.2.1.1 hP q 0 hq rfl (vp_in_nI hj hn) d ?_
  rw [nI_clamp (by omega)]
  exact kk H locs ls hP hS h
theorem V_aldJ (C : Cx p s m args c cc own nL G ro a0) {k i n j : Nat} (hm : (k, i) ∈ ro) (he : enc G M k i = aJ G n (gJ M k i)) (hj : j < n) (hn : n < 2 ^ 31) (d : decode cc pc = .ok (.laload, 1)) (kk : V p l e R s m args below meth c G ro nL Q M (pc + 1) lv (.long (gJ M k i j) :: st)) : V p l e R s m args below meth c G ro nL Q M pc lv (.int (nI j) :: .ref (ad G k i) :: st) := by
  intro H locs ls hP hS h
  obtain ⟨q, -, hq⟩ := wl_at (G := G) (M := M) hm
  rw [he] at hq
  refine va_lald C.1 C.2.1 C.2.2.2.2.2.1.1 hP q 1 hq rfl (vp_in_nI hj hn) d ?_
  rw [nI_clamp (by omega)]
  exact kk H locs ls hP hS h
theorem V_aldR (C : Cx p s m args c cc own nL G ro a0) {k i n j t k2 : Nat} {Cn : String} (hm : (k, i) ∈ ro) (he : enc G M k i = aR G t k2 n) (ht : (tys G)[t]? = some (G.2.2.1 t, .object Cn)) (hj : j < n) (hn : n < 2 ^ 31) (d : decode cc pc = .ok (.aaload, 1)) (kk : V p l e R s m args below meth c G ro nL Q M (pc + 1) lv (.ref (ad G k2 j) :: st)) : V p l e R s m args below meth c G ro nL Q M pc lv (.int (nI j) :: .ref (ad G k i) :: st) := by
  intro H locs ls hP hS h
  obtain ⟨q, -, hq⟩ := wl_at (G := G) (M := M) hm
  rw [he] at hq
  refine va_aldq C.1 C.2.1 C.2.2.2.2.2.1.1 hP q t hq ht (vp_in_nI hj hn) d ?_
  rw [nI_clamp (by omega)]
  exact kk H locs ls hP hS h
theorem upd_nI (f : Nat → Nat) (j v : Nat) : upd (fun j => nI (f j)) j (nI v) = fun q => nI (if q = j then v else f q) := by
  funext q
  unfold upd
  by_cases h : q = j <;> simp [h]
theorem V_astN (C : Cx p s m args c cc own nL G ro a0) {k i n j v : Nat} (hm : (k, i) ∈ ro) (he : ∀ (N : Nat → Nat) (I : Nat → Int32) (J : Nat → Int64), encL G k i N I J = aN G n N) (hj : j < n) (hn : n < 2 ^ 31) (d : decode cc pc = .ok (.iastore, 1)) (kk : V p l e R s m args below meth c G ro nL Q (sN M k i j v) (pc + 1) lv st) : V p l e R s m args below meth c G ro nL Q M pc lv (.int (nI v) :: .int (nI j) :: .ref (ad G k i) :: st) := by
  intro H locs ls hP hS h
  obtain ⟨q, hq0, hq⟩ := wl_at (G := G) (M := M) hm
  have hset := wl_set (G := G) (M := M) (M' := sN M k i j v) C.2.2.2.2.2.2.1 hq0 (fun a b hne => enc_sN hne)
  rw [enc_sN', he] at hset
  rw [show enc G M k i = aN G n (gN M k i) from he _ _ _] at hq
  refine va_iast C.1 C.2.1 C.2.2.2.2.2.1.1 hP (wl_D C.2.2.2.2.2.2) hS q 0 hq rfl (vp_in_nI hj hn) d (fun H1 locs1 hP1 _ hS1 => ?_)
  rw [nI_clamp (by omega), upd_nI] at hP1
  exact kk H1 locs1 ls (by rw [← hset]; exact hP1) hS1 h
theorem V_astI (C : Cx p s m args c cc own nL G ro a0) {k i n j : Nat} {v : Int32} (hm : (k, i) ∈ ro) (he : ∀ (N : Nat → Nat) (I : Nat → Int32) (J : Nat → Int64), encL G k i N I J = aI G n I) (hj : j < n) (hn : n < 2 ^ 31) (d : decode cc pc = .ok (.iastore, 1)) (kk : V p l e R s m args below meth c G ro nL Q (sI M k i j v) (pc + 1) lv st) : V p l e R s m args below meth c G ro nL Q M pc lv (.int v :: .int (nI j) :: .ref (ad G k i) :: st) := by
  intro H locs ls hP hS h
  obtain ⟨q, hq0, hq⟩ := wl_at (G := G) (M := M) hm
  have hset := wl_set (G := G) (M := M) (M' := sI M k i j v) C.2.2.2.2.2.2.1 hq0 (fun a b hne => enc_sI hne)
  rw [enc_sI', he] at hset
  rw [show enc G M k i = aI G n (gI M k i) from he _ _ _] at hq
  refine va_iast C.1 C.2.1 C.2.2.2.2.2.1.1 hP (wl_D C.2.2.2.2.2.2) hS q 0 hq rfl (vp_in_nI hj hn) d (fun H1 locs1 hP1 _ hS1 => ?_)
  rw [nI_clamp (by omega)] at hP1
  exact kk H1 locs1 ls (by rw [← hset]; exact hP1) hS1 h
theorem V_astJ (C : Cx p s m args c cc own nL G ro a0) {k i n j : Nat} {v : Int64} (hm : (k, i) ∈ ro) (he : ∀ (N : Nat → Nat) (I : Nat → Int32) (J : Nat → Int64), encL G k i N I J = aJ G n J) (hj : j < n) (hn : n < 2 ^ 31) (d : decode cc pc = .ok (.lastore, 1)) (kk : V p l e R s m args below meth c G ro nL Q (sJ M k i j v) (pc + 1) lv st) : V p l e R s m args below meth c G ro nL Q M pc lv (.long v :: .int (nI j) :: .ref (ad G k i) :: st) := by
  intro H locs ls hP hS h
  obtain ⟨q, hq0, hq⟩ := wl_at (G := G) (M := M) hm
  have hset := wl_set (G := G) (M := M) (M' := sJ M k i j v) C.2.2.2.2.2.2.1 hq0 (fun a b hne => enc_sJ hne)
  rw [enc_sJ', he] at hset
  rw [show enc G M k i = aJ G n (gJ M k i) from he _ _ _] at hq
  refine va_last C.1 C.2.1 C.2.2.2.2.2.1.1 hP (wl_D C.2.2.2.2.2.2) hS q 1 hq rfl (vp_in_nI hj hn) d (fun H1 locs1 hP1 _ hS1 => ?_)
  rw [nI_clamp (by omega)] at hP1
  exact kk H1 locs1 ls (by rw [← hset]; exact hP1) hS1 h
end VR2
