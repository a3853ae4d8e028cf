section VR5
variable {p : Program} {l : Launch} {e : Env} {R : Room} {s : State} {m : MethodId} {args : Array Value} {below : List Frame} {meth : Method} {c : Code} {G : Gm} {ro : List (Nat × Nat)} {nL : Nat} {Q : State → Prop} {M : Mem} {pc : Nat} {lv : List (Nat × Value)} {st : List Value} {cc : ByteArray} {own : String} {a0 : Cond}
theorem V_aload_nN (C : Cx p s m args c cc own nL G ro a0) {k : Fin 4} {i : Nat} (d : decode cc pc = .ok (.aload_n k, 1)) (hi : (k : Nat) = i) (hl : lkp lv i = some .null) (kk : V p l e R s m args below meth c G ro nL Q M (pc + 1) lv (.null :: st)) : V p l e R s m args below meth c G ro nL Q M pc lv st := fun H locs ls hP hS h => lv_aload_nN C.1 C.2.1 d hi (lkp_at h hl) (kk H locs ls hP hS h)
theorem V_aloadN (C : Cx p s m args c cc own nL G ro a0) {i : Nat} (d : decode cc pc = .ok (.aload i, 2)) (hl : lkp lv i = some .null) (kk : V p l e R s m args below meth c G ro nL Q M (pc + 2) lv (.null :: st)) : V p l e R s m args below meth c G ro nL Q M pc lv st := fun H locs ls hP hS h => lv_aloadN C.1 C.2.1 d (lkp_at h hl) (kk H locs ls hP hS h)
end VR5
/-- an INSTRUCTION, a HANDLER more; a METHOD emptied -/
def aIns (M : Mem) (c a r s : Nat) (v : Int64) : Mem := sN (sJ (sN (sN (sN M 11 c (gN M 10 c 4) a) 12 c (gN M 10 c 4) r) 13 c (gN M 10 c 4) s) 14 c (gN M 10 c 4) v) 10 c 4 (gN M 10 c 4 + 1)
def aHnd (M : Mem) (c f t a : Nat) (m : Int32) : Mem := sN (sI (sN (sN (sN M 15 c (gN M 10 c 9) f) 16 c (gN M 10 c 9) t) 17 c (gN M 10 c 9) a) 18 c (gN M 10 c 9) m) 10 c 9 (gN M 10 c 9 + 1)
def eM (M : Mem) (c : Nat) : Mem := sN (sN M 10 c 4 0) 10 c 9 0
theorem CI_aIns {M : Mem} {c d a r s : Nat} {v : Int64} (h : CI M d) (hz : gN M 10 c 4 < 40) (ha : a ≤ 18) (hr : r ≤ 3) (hs : s ≤ 3) (hv : nOK a v) : CI (aIns M c a r s v) d := by
  by_cases hd : d = c
  · subst hd
    obtain ⟨h1, h2, h3, h4, h5⟩ := h
    unfold CI aIns
    refine ⟨by simp [gNN]; omega, by simp [gNN, gNJ]; omega, fun k hk => ?_, fun k hk => ?_, fun k hk => ?_⟩
    · have := h3 k hk
      simp only [gNN, gNJ, Nat.reduceEqDiff, false_and, true_and, if_false]
      refine ⟨?_, ?_, ?_⟩ <;> split <;> omega
    · have := h4 k hk
      simp only [gNN, gNJ, Nat.reduceEqDiff, false_and, if_false]
      exact this
    · simp only [gNN, gNJ, gJN, gJJ, Nat.reduceEqDiff, false_and, true_and, if_false, if_true] at hk ⊢
      by_cases e : k = gN M 10 d 4
      · rw [if_pos e, if_pos e]; exact hv
      · rw [if_neg e, if_neg e]; exact h5 k (by omega)
  · refine CI_of (fun k j h1 h2 => ?_) (fun j => ?_) h
    · unfold aIns; simp only [gNN, gNJ, hd, false_and, and_false, if_false]
    · unfold aIns; simp only [gJN, gJJ, hd, false_and, and_false, if_false]
theorem CI_aHnd {M : Mem} {c d f t a : Nat} {m : Int32} (h : CI M d) (hz : gN M 10 c 9 < 4) (hf : f ≤ 40) (ht : t ≤ 40) (ha : a ≤ 40) : CI (aHnd M c f t a m) d := by
  by_cases hd : d = c
  · subst hd
    obtain ⟨h1, h2, h3, h4, h5⟩ := h
    unfold CI aHnd
    refine ⟨by simp [gNN, gNI]; omega, by simp [gNN]; omega, fun k hk => ?_, fun k hk => ?_, fun k hk => ?_⟩
    · have := h3 k hk
      simp only [gNN, gNI, Nat.reduceEqDiff, false_and, if_false]
      exact this
    · have := h4 k hk
      simp only [gNN, gNI, Nat.reduceEqDiff, false_and, true_and, if_false]
      refine ⟨?_, ?_, ?_⟩ <;> split <;> omega
    · simp only [gNN, gNI, gJN, gJI, Nat.reduceEqDiff, false_and, and_false, if_false] at hk ⊢
      exact h5 k hk
  · refine CI_of (fun k j h1 h2 => ?_) (fun j => ?_) h
    · unfold aHnd; simp only [gNN, gNI, hd, false_and, and_false, if_false]
    · rfl
theorem CI_eM {M : Mem} {c d : Nat} (h : CI M d) : CI (eM M c) d := by
  by_cases hd : d = c
  · subst hd
    obtain ⟨h1, h2, h3, h4, h5⟩ := h
    unfold CI eM
    refine ⟨by simp [gNN], by simp [gNN], fun k hk => ?_, fun k hk => ?_, fun k hk => ?_⟩
    · have := h3 k hk
      simp only [gNN, Nat.reduceEqDiff, false_and, if_false]
      exact this
    · have := h4 k hk
      simp only [gNN, Nat.reduceEqDiff, false_and, if_false]
      exact this
    · simp [gNN] at hk
  · refine CI_of (fun k j h1 h2 => ?_) (fun j => ?_) h
    · unfold eM; simp only [gNN, hd, false_and, and_false, if_false]
    · rfl
/-- the class's METHODS are in order -/
def PI (M : Mem) : Prop := gN M 1 0 1 ≤ 6 ∧ (∀ c, c < 6 → CI M c) ∧ (∀ c, c < gN M 1 0 1 → MkOK M c)
def OKI (n : Nat) (m a r s : Int32) (v : Int64) : Prop := isM n m ∧ isM 19 a ∧ isM 4 r ∧ isM 4 s ∧ nfit a.toInt.toNat v = 1
def OKH (n : Nat) (m f t a k : Int32) : Prop := isM n m ∧ isM 41 f ∧ isM 41 t ∧ isM 41 a ∧ k &&& (-511) = 0
def totV (M : Mem) (c : Nat) : Nat := tot (gN M 11 c) (gJ M 14 c) (gN M 10 c 4) (gN M 10 c 9)
def ent (M : Mem) (c w j : Nat) : Int32 := if w = 0 then nI (gN M 20 c j) else if w = 1 then nI (gN M 21 c j) else gI M 22 c j
def abt (M : Mem) (c w : Nat) : Int32 := if w = 0 then nI (gN M 10 c 4) else if w = 1 then nI (gN M 10 c 9) else if 70 < totV M c then -4 else nI (1 + mkc (gN M 11 c) (gN M 10 c 4) + bks (gN M 11 c) (gJ M 14 c) (gN M 10 c 4) + gN M 10 c 9)
theorem MkOK.big {M : Mem} {c : Nat} (h : MkOK M c) (hl : ¬ gN M 19 c 7 = 0) : 70 < totV M c := by
  rcases h with h | h
  · exact h.1
  · exact absurd h.2.1 hl
theorem MkOK.small {M : Mem} {c : Nat} (h : MkOK M c) (hl : gN M 19 c 7 = 0) : ¬ 70 < totV M c ∧ gN M 19 c 5 = totV M c ∧ gN M 19 c 6 = 1 + mkc (gN M 11 c) (gN M 10 c 4) + bks (gN M 11 c) (gJ M 14 c) (gN M 10 c 4) + gN M 10 c 9 := by
  rcases h with h | h
  · omega
  · exact ⟨Nat.not_lt.mpr h.1, h.2.2.1, h.2.2.2.1⟩
theorem MkOK.lg {M : Mem} {c : Nat} (h : MkOK M c) : gN M 19 c 7 ≤ 1 := by
  rcases h with h | h
  · omega
  · omega
set_option maxRecDepth 20000 in
set_option maxHeartbeats 4000000 in
theorem ct_X0_empty {l : Launch} {G : Gm} {M : Mem} {c : Nat} (hc : c < 6) (hi : CI M c) : Ct l G rX yX0_empty (.code yX0_empty cX0_empty 1 none :: GW) rmX0_empty [.ref (ad G 10 c)] M (fun r M' => none = r ∧ Sm (eM M c) M' c ∧ MkOK M' c) := by
  refine Ct_of (cc := cX0_empty) (by decide) [(0, _)] rfl (Nat.le_of_ble_eq_true rfl) (fun pp ee ss mm aa bb mt cd C E => ?_)
  refine V_aload_n C dX0_empty_0 rfl rfl ?_
  refine V_iconst C (nI 0) dX0_empty_1 (by decide) ?_
  refine pf_X0_25 C (by omega) dX0_empty_2 ?_
  refine V_aload_n C dX0_empty_5 rfl rfl ?_
  refine V_iconst C (nI 0) dX0_empty_6 (by decide) ?_
  refine pf_X0_41 C (by omega) dX0_empty_7 ?_
  refine V_aload_n C dX0_empty_10 rfl rfl ?_
  refine gf_X0_47 C (by omega) dX0_empty_11 ?_
  refine V_aload_n C dX0_empty_14 rfl rfl ?_
  refine V_callV C [_] (ct_X4_build hc (CI_eM hi)) cv_X4_build lk_X0_51 (in_19 (by omega)) rfl rfl ⟨Nat.le_of_ble_eq_true rfl, Nat.le_of_ble_eq_true rfl⟩ rfl rfl (Nat.le_of_ble_eq_true rfl) dX0_empty_15 (fun r M' hr => ?_)
  obtain ⟨rfl, hSm, hMk⟩ := hr
  refine V_vret C E dX0_empty_18 ?_
  exact ⟨rfl, hSm, hMk⟩

set_option maxRecDepth 20000 in
set_option maxHeartbeats 4000000 in
theorem ct_X0_addInstruction {l : Launch} {G : Gm} {M : Mem} {c a r s : Nat} {v : Int64} (hc : c < 6) (hi : CI M c) (ha : a ≤ 18) (hr2 : r ≤ 3) (hs2 : s ≤ 3) (hv : nOK a v) : Ct l G rX yX0_addInstruction (.code yX0_addInstruction cX0_addInstruction 6 (some .int) :: GW) rmX0_addInstruction [.ref (ad G 10 c), .int (nI a), .int (nI r), .int (nI s), .long v] M (fun ra M' => (gN M 10 c 4 = 40 ∧ some (.int (-3)) = ra ∧ M = M') ∨ (gN M 10 c 4 < 40 ∧ some (.int (nI (gN M 10 c 4))) = ra ∧ Sm (aIns M c a r s v) M' c ∧ MkOK M' c)) := by
  have hs := hi.1
  have hh4 := hi.2.1
  refine Ct_of (cc := cX0_addInstruction) (by decide) [(0, _), (1, _), (2, _), (3, _), (4, _)] rfl (Nat.le_of_ble_eq_true rfl) (fun pp ee ss mm aa bb mt cd C E => ?_)
  refine V_aload_n C dX0_addInstruction_0 rfl rfl ?_
  refine gf_X0_25 C (by omega) dX0_addInstruction_1 ?_
  try simp only [gNN, gNI, gNJ, gIN, gII, gIJ, gJN, gJI, gJJ, Nat.reduceEqDiff, false_and, and_false, true_and, and_true, if_false, if_true]
  refine V_bipush C (nI 40) dX0_addInstruction_4 (by decide) ?_
  refine V_icmpN_lt (tgt := 12) C dX0_addInstruction_6 (by omega) (by omega) (by decide) (fun h6 => ?_) (fun h6 => ?_)
  · skip
    refine V_aload_n C dX0_addInstruction_12 rfl rfl ?_
    refine gf_X0_9 C (by omega) dX0_addInstruction_13 ?_
    try simp only [gNN, gNI, gNJ, gIN, gII, gIJ, gJN, gJI, gJJ, Nat.reduceEqDiff, false_and, and_false, true_and, and_true, if_false, if_true]
    refine V_aload_n C dX0_addInstruction_16 rfl rfl ?_
    refine gf_X0_25 C (by omega) dX0_addInstruction_17 ?_
    try simp only [gNN, gNI, gNJ, gIN, gII, gIJ, gJN, gJI, gJJ, Nat.reduceEqDiff, false_and, and_false, true_and, and_true, if_false, if_true]
    refine V_iload_n C dX0_addInstruction_20 rfl rfl ?_
    refine st_11 C (by omega) (by omega) dX0_addInstruction_21 ?_
    refine V_aload_n C dX0_addInstruction_22 rfl rfl ?_
    refine gf_X0_15 C (by omega) dX0_addInstruction_23 ?_
    try simp only [gNN, gNI, gNJ, gIN, gII, gIJ, gJN, gJI, gJJ, Nat.reduceEqDiff, false_and, and_false, true_and, and_true, if_false, if_true]
    refine V_aload_n C dX0_addInstruction_26 rfl rfl ?_
    refine gf_X0_25 C (by omega) dX0_addInstruction_27 ?_
    try simp only [gNN, gNI, gNJ, gIN, gII, gIJ, gJN, gJI, gJJ, Nat.reduceEqDiff, false_and, and_false, true_and, and_true, if_false, if_true]
    refine V_iload_n C dX0_addInstruction_30 rfl rfl ?_
    refine st_12 C (by omega) (by omega) dX0_addInstruction_31 ?_
    refine V_aload_n C dX0_addInstruction_32 rfl rfl ?_
    refine gf_X0_18 C (by omega) dX0_addInstruction_33 ?_
    try simp only [gNN, gNI, gNJ, gIN, gII, gIJ, gJN, gJI, gJJ, Nat.reduceEqDiff, false_and, and_false, true_and, and_true, if_false, if_true]
    refine V_aload_n C dX0_addInstruction_36 rfl rfl ?_
    refine gf_X0_25 C (by omega) dX0_addInstruction_37 ?_
    try simp only [gNN, gNI, gNJ, gIN, gII, gIJ, gJN, gJI, gJJ, Nat.reduceEqDiff, false_and, and_false, true_and, and_true, if_false, if_true]
    refine V_iload_n C dX0_addInstruction_40 rfl rfl ?_
    refine st_13 C (by omega) (by omega) dX0_addInstruction_41 ?_
    refine V_aload_n C dX0_addInstruction_42 rfl rfl ?_
    refine gf_X0_21 C (by omega) dX0_addInstruction_43 ?_
    try simp only [gNN, gNI, gNJ, gIN, gII, gIJ, gJN, gJI, gJJ, Nat.reduceEqDiff, false_and, and_false, true_and, and_true, if_false, if_true]
    refine V_aload_n C dX0_addInstruction_46 rfl rfl ?_
    refine gf_X0_25 C (by omega) dX0_addInstruction_47 ?_
    try simp only [gNN, gNI, gNJ, gIN, gII, gIJ, gJN, gJI, gJJ, Nat.reduceEqDiff, false_and, and_false, true_and, and_true, if_false, if_true]
    refine V_lload C dX0_addInstruction_50 rfl ?_
    refine st_14 C (by omega) (by omega) dX0_addInstruction_52 ?_
    refine V_aload_n C dX0_addInstruction_53 rfl rfl ?_
    refine V_dup C dX0_addInstruction_54 rfl ?_
    refine gf_X0_25 C (by omega) dX0_addInstruction_55 ?_
    try simp only [gNN, gNI, gNJ, gIN, gII, gIJ, gJN, gJI, gJJ, Nat.reduceEqDiff, false_and, and_false, true_and, and_true, if_false, if_true]
    refine V_iconst C (nI 1) dX0_addInstruction_58 (by decide) ?_
    refine V_iaddN C dX0_addInstruction_59 ?_
    refine pf_X0_25 C (by omega) dX0_addInstruction_60 ?_
    refine V_aload_n C dX0_addInstruction_63 rfl rfl ?_
    refine gf_X0_47 C (by omega) dX0_addInstruction_64 ?_
    try simp only [gNN, gNI, gNJ, gIN, gII, gIJ, gJN, gJI, gJJ, Nat.reduceEqDiff, false_and, and_false, true_and, and_true, if_false, if_true]
    refine V_aload_n C dX0_addInstruction_67 rfl rfl ?_
    refine V_callV C [_] (ct_X4_build hc (CI_aIns hi (by omega) ha hr2 hs2 hv)) cv_X4_build lk_X0_51 (in_19 (by omega)) rfl rfl ⟨Nat.le_of_ble_eq_true rfl, Nat.le_of_ble_eq_true rfl⟩ rfl rfl (Nat.le_of_ble_eq_true rfl) dX0_addInstruction_68 (fun r M' hr => ?_)
    obtain ⟨rfl, hSm, hMk⟩ := hr
    have hz : gN M' 10 c 4 = gN M 10 c 4 + 1 := (hSm.1 10 c 4 (by omega)).trans (by simp [aIns, gNN])
    try simp only [gNN, gNI, gNJ, gIN, gII, gIJ, gJN, gJI, gJJ, Nat.reduceEqDiff, false_and, and_false, true_and, and_true, if_false, if_true]
    refine V_aload_n C dX0_addInstruction_71 rfl rfl ?_
    refine gf_X0_25 C (by omega) dX0_addInstruction_72 ?_
    try simp only [gNN, gNI, gNJ, gIN, gII, gIJ, gJN, gJI, gJJ, Nat.reduceEqDiff, false_and, and_false, true_and, and_true, if_false, if_true]
    refine V_iconst C (nI 1) dX0_addInstruction_75 (by decide) ?_
    refine V_isubN C dX0_addInstruction_76 (by omega) ?_
    refine V_iret C E dX0_addInstruction_77 ?_
    exact Or.inr ⟨by omega, by rw [hz]; rfl, hSm, hMk⟩
  · skip
    refine V_bipush C (-3) dX0_addInstruction_9 (by decide) ?_
    refine V_iret C E dX0_addInstruction_11 ?_
    exact Or.inl ⟨by omega, rfl, rfl⟩

set_option maxRecDepth 20000 in
set_option maxHeartbeats 4000000 in
theorem ct_X0_addHandler {l : Launch} {G : Gm} {M : Mem} {c f t a : Nat} {k : Int32} (hc : c < 6) (hi : CI M c) (hf : f ≤ 40) (ht : t ≤ 40) (ha : a ≤ 40) : Ct l G rX yX0_addHandler (.code yX0_addHandler cX0_addHandler 5 (some .int) :: GW) rmX0_addHandler [.ref (ad G 10 c), .int (nI f), .int (nI t), .int (nI a), .int k] M (fun ra M' => (gN M 10 c 9 = 4 ∧ some (.int (-3)) = ra ∧ M = M') ∨ (gN M 10 c 9 < 4 ∧ some (.int (nI (gN M 10 c 9))) = ra ∧ Sm (aHnd M c f t a k) M' c ∧ MkOK M' c)) := by
  have hs := hi.1
  have hh4 := hi.2.1
  refine Ct_of (cc := cX0_addHandler) (by decide) [(0, _), (1, _), (2, _), (3, _), (4, _)] rfl (Nat.le_of_ble_eq_true rfl) (fun pp ee ss mm aa bb mt cd C E => ?_)
  refine V_aload_n C dX0_addHandler_0 rfl rfl ?_
  refine gf_X0_41 C (by omega) dX0_addHandler_1 ?_
  try simp only [gNN, gNI, gNJ, gIN, gII, gIJ, gJN, gJI, gJJ, Nat.reduceEqDiff, false_and, and_false, true_and, and_true, if_false, if_true]
  refine V_iconst C (nI 4) dX0_addHandler_4 (by decide) ?_
  refine V_icmpN_lt (tgt := 11) C dX0_addHandler_5 (by omega) (by omega) (by decide) (fun h5 => ?_) (fun h5 => ?_)
  · skip
    refine V_aload_n C dX0_addHandler_11 rfl rfl ?_
    refine gf_X0_29 C (by omega) dX0_addHandler_12 ?_
    try simp only [gNN, gNI, gNJ, gIN, gII, gIJ, gJN, gJI, gJJ, Nat.reduceEqDiff, false_and, and_false, true_and, and_true, if_false, if_true]
    refine V_aload_n C dX0_addHandler_15 rfl rfl ?_
    refine gf_X0_41 C (by omega) dX0_addHandler_16 ?_
    try simp only [gNN, gNI, gNJ, gIN, gII, gIJ, gJN, gJI, gJJ, Nat.reduceEqDiff, false_and, and_false, true_and, and_true, if_false, if_true]
    refine V_iload_n C dX0_addHandler_19 rfl rfl ?_
    refine st_15 C (by omega) (by omega) dX0_addHandler_20 ?_
    refine V_aload_n C dX0_addHandler_21 rfl rfl ?_
    refine gf_X0_32 C (by omega) dX0_addHandler_22 ?_
    try simp only [gNN, gNI, gNJ, gIN, gII, gIJ, gJN, gJI, gJJ, Nat.reduceEqDiff, false_and, and_false, true_and, and_true, if_false, if_true]
    refine V_aload_n C dX0_addHandler_25 rfl rfl ?_
    refine gf_X0_41 C (by omega) dX0_addHandler_26 ?_
    try simp only [gNN, gNI, gNJ, gIN, gII, gIJ, gJN, gJI, gJJ, Nat.reduceEqDiff, false_and, and_false, true_and, and_true, if_false, if_true]
    refine V_iload_n C dX0_addHandler_29 rfl rfl ?_
    refine st_16 C (by omega) (by omega) dX0_addHandler_30 ?_
    refine V_aload_n C dX0_addHandler_31 rfl rfl ?_
    refine gf_X0_35 C (by omega) dX0_addHandler_32 ?_
    try simp only [gNN, gNI, gNJ, gIN, gII, gIJ, gJN, gJI, gJJ, Nat.reduceEqDiff, false_and, and_false, true_and, and_true, if_false, if_true]
    refine V_aload_n C dX0_addHandler_35 rfl rfl ?_
    refine gf_X0_41 C (by omega) dX0_addHandler_36 ?_
    try simp only [gNN, gNI, gNJ, gIN, gII, gIJ, gJN, gJI, gJJ, Nat.reduceEqDiff, false_and, and_false, true_and, and_true, if_false, if_true]
    refine V_iload_n C dX0_addHandler_39 rfl rfl ?_
    refine st_17 C (by omega) (by omega) dX0_addHandler_40 ?_
    refine V_aload_n C dX0_addHandler_41 rfl rfl ?_
    refine gf_X0_38 C (by omega) dX0_addHandler_42 ?_
    try simp only [gNN, gNI, gNJ, gIN, gII, gIJ, gJN, gJI, gJJ, Nat.reduceEqDiff, false_and, and_false, true_and, and_true, if_false, if_true]
    refine V_aload_n C dX0_addHandler_45 rfl rfl ?_
    refine gf_X0_41 C (by omega) dX0_addHandler_46 ?_
    try simp only [gNN, gNI, gNJ, gIN, gII, gIJ, gJN, gJI, gJJ, Nat.reduceEqDiff, false_and, and_false, true_and, and_true, if_false, if_true]
    refine V_iload C dX0_addHandler_49 rfl ?_
    refine st_18 C (by omega) (by omega) dX0_addHandler_51 ?_
    refine V_aload_n C dX0_addHandler_52 rfl rfl ?_
    refine V_dup C dX0_addHandler_53 rfl ?_
    refine gf_X0_41 C (by omega) dX0_addHandler_54 ?_
    try simp only [gNN, gNI, gNJ, gIN, gII, gIJ, gJN, gJI, gJJ, Nat.reduceEqDiff, false_and, and_false, true_and, and_true, if_false, if_true]
    refine V_iconst C (nI 1) dX0_addHandler_57 (by decide) ?_
    refine V_iaddN C dX0_addHandler_58 ?_
    refine pf_X0_41 C (by omega) dX0_addHandler_59 ?_
    refine V_aload_n C dX0_addHandler_62 rfl rfl ?_
    refine gf_X0_47 C (by omega) dX0_addHandler_63 ?_
    try simp only [gNN, gNI, gNJ, gIN, gII, gIJ, gJN, gJI, gJJ, Nat.reduceEqDiff, false_and, and_false, true_and, and_true, if_false, if_true]
    refine V_aload_n C dX0_addHandler_66 rfl rfl ?_
    refine V_callV C [_] (ct_X4_build hc (CI_aHnd hi (by omega) hf ht ha)) cv_X4_build lk_X0_51 (in_19 (by omega)) rfl rfl ⟨Nat.le_of_ble_eq_true rfl, Nat.le_of_ble_eq_true rfl⟩ rfl rfl (Nat.le_of_ble_eq_true rfl) dX0_addHandler_67 (fun r M' hr => ?_)
    obtain ⟨rfl, hSm, hMk⟩ := hr
    have hz : gN M' 10 c 9 = gN M 10 c 9 + 1 := (hSm.1 10 c 9 (by omega)).trans (by simp [aHnd, gNN])
    try simp only [gNN, gNI, gNJ, gIN, gII, gIJ, gJN, gJI, gJJ, Nat.reduceEqDiff, false_and, and_false, true_and, and_true, if_false, if_true]
    refine V_aload_n C dX0_addHandler_70 rfl rfl ?_
    refine gf_X0_41 C (by omega) dX0_addHandler_71 ?_
    try simp only [gNN, gNI, gNJ, gIN, gII, gIJ, gJN, gJI, gJJ, Nat.reduceEqDiff, false_and, and_false, true_and, and_true, if_false, if_true]
    refine V_iconst C (nI 1) dX0_addHandler_74 (by decide) ?_
    refine V_isubN C dX0_addHandler_75 (by omega) ?_
    refine V_iret C E dX0_addHandler_76 ?_
    exact Or.inr ⟨by omega, by rw [hz]; rfl, hSm, hMk⟩
  · skip
    refine V_bipush C (-3) dX0_addHandler_8 (by decide) ?_
    refine V_iret C E dX0_addHandler_10 ?_
    exact Or.inl ⟨by omega, rfl, rfl⟩

set_option maxRecDepth 20000 in
set_option maxHeartbeats 4000000 in
theorem ct_X5_add {l : Launch} {G : Gm} {M : Mem} (hp : PI M) : Ct l G rX yX5_add (.code yX5_add cX5_add 1 (some .int) :: GW) rmX5_add [.ref (ad G 1 0)] M (fun r M' => (gN M 1 0 1 = 6 ∧ some (.int (-3)) = r ∧ M = M') ∨ (gN M 1 0 1 < 6 ∧ some (.int (nI (gN M 1 0 1))) = r ∧ ∃ X, Sm (eM M (gN M 1 0 1)) X (gN M 1 0 1) ∧ MkOK X (gN M 1 0 1) ∧ sN X 1 0 1 (gN M 1 0 1 + 1) = M')) := by
  have h6 := hp.1
  refine Ct_of (cc := cX5_add) (by decide) [(0, _)] rfl (Nat.le_of_ble_eq_true rfl) (fun pp ee ss mm aa bb mt cd C E => ?_)
  refine V_aload_n C dX5_add_0 rfl rfl ?_
  refine gf_X5_17 C dX5_add_1 ?_
  refine V_bipush C (nI 6) dX5_add_4 (by decide) ?_
  refine V_icmpN_lt (tgt := 12) C dX5_add_6 (by omega) (by omega) (by decide) (fun h6 => ?_) (fun h6 => ?_)
  · skip
    refine V_aload_n C dX5_add_12 rfl rfl ?_
    refine gf_X5_11 C dX5_add_13 ?_
    refine V_aload_n C dX5_add_16 rfl rfl ?_
    refine gf_X5_17 C dX5_add_17 ?_
    refine ld_5 C (by omega) dX5_add_20 ?_
    refine V_callV C [] (ct_X0_empty (by omega) (hp.2.1 _ (by omega))) cv_X0_empty lk_X5_22 (in_10 (by omega)) rfl rfl ⟨Nat.le_of_ble_eq_true rfl, Nat.le_of_ble_eq_true rfl⟩ rfl rfl (Nat.le_of_ble_eq_true rfl) dX5_add_21 (fun r M' hr => ?_)
    obtain ⟨rfl, hSm, hMk⟩ := hr
    have hz : gN M' 1 0 1 = gN M 1 0 1 := (hSm.1 1 0 1 (by omega)).trans (by simp [eM, gNN])
    refine V_aload_n C dX5_add_24 rfl rfl ?_
    refine V_dup C dX5_add_25 rfl ?_
    refine gf_X5_17 C dX5_add_26 ?_
    refine V_iconst C (nI 1) dX5_add_29 (by decide) ?_
    refine V_iaddN C dX5_add_30 ?_
    rw [hz]
    refine pf_X5_17 C dX5_add_31 ?_
    refine V_aload_n C dX5_add_34 rfl rfl ?_
    refine gf_X5_17 C dX5_add_35 ?_
    rw [show gN (sN M' 1 0 1 (gN M 1 0 1 + 1)) 1 0 1 = gN M 1 0 1 + 1 by simp [gNN]]
    refine V_iconst C (nI 1) dX5_add_38 (by decide) ?_
    refine V_isubN C dX5_add_39 (by omega) ?_
    refine V_iret C E dX5_add_40 ?_
    exact Or.inr ⟨by omega, rfl, M', hSm, hMk, rfl⟩
  · skip
    refine V_bipush C (-3) dX5_add_9 (by decide) ?_
    refine V_iret C E dX5_add_11 ?_
    exact Or.inl ⟨by omega, rfl, rfl⟩

set_option maxRecDepth 20000 in
set_option maxHeartbeats 4000000 in
theorem ct_X5_drop {l : Launch} {G : Gm} {M : Mem}  : Ct l G rX yX5_drop (.code yX5_drop cX5_drop 2 (some .int) :: GW) rmX5_drop [.ref (ad G 1 0)] M (fun r M' => some (.int (nI (gN M 1 0 1))) = r ∧ sN M 1 0 1 0 = M') := by
  refine Ct_of (cc := cX5_drop) (by decide) [(0, _)] rfl (Nat.le_of_ble_eq_true rfl) (fun pp ee ss mm aa bb mt cd C E => ?_)
  refine V_aload_n C dX5_drop_0 rfl rfl ?_
  refine gf_X5_17 C dX5_drop_1 ?_
  refine V_istore_n (lv' := [(1, _), (0, _)]) C dX5_drop_4 rfl (by decide) rfl ?_
  refine V_aload_n C dX5_drop_5 rfl rfl ?_
  refine V_iconst C (nI 0) dX5_drop_6 (by decide) ?_
  refine pf_X5_17 C dX5_drop_7 ?_
  refine V_iload_n C dX5_drop_10 rfl rfl ?_
  refine V_iret C E dX5_drop_11 ?_
  exact ⟨rfl, rfl⟩

set_option maxRecDepth 20000 in
set_option maxHeartbeats 4000000 in
theorem ct_X4_tell {l : Launch} {G : Gm} {M : Mem} {c w : Nat} {x : Int32} (hc : c < 6) (hs : gN M 19 c 5 ≤ 70) (hw : w ≤ 2) : Ct l G rX yX4_tell (.code yX4_tell cX4_tell 3 (some .int) :: GW) rmX4_tell [.ref (ad G 19 c), .int x, .int (nI w)] M (fun r M' => M = M' ∧ ((∃ j, j < gN M 19 c 5 ∧ x = nI j ∧ some (.int (ent M c w j)) = r) ∨ (¬ isM (gN M 19 c 5) x ∧ some (.int (-1)) = r))) := by
  refine Ct_of (cc := cX4_tell) (by decide) [(0, _), (1, _), (2, _)] rfl (Nat.le_of_ble_eq_true rfl) (fun pp ee ss mm aa bb mt cd C E => ?_)
  refine V_iload_n C dX4_tell_0 rfl rfl ?_
  refine V_ifN_ne (tgt := 10) C dX4_tell_1 (by omega) (by decide) (fun h1 => ?_) (fun h1 => ?_)
  · skip
    refine V_iload_n C dX4_tell_10 rfl rfl ?_
    refine V_iconst C (nI 1) dX4_tell_11 (by decide) ?_
    refine V_icmpN_ne (tgt := 23) C dX4_tell_12 (by omega) (by omega) (by decide) (fun h12 => ?_) (fun h12 => ?_)
    · skip
      refine V_aload_n C dX4_tell_23 rfl rfl ?_
      refine V_iload_n C dX4_tell_24 rfl rfl ?_
      refine V_callV C [_] (ct_X4_goal (by omega) (by omega)) cv_X4_goal lk_X4_91 (in_19 (by omega)) rfl rfl ⟨Nat.le_of_ble_eq_true rfl, Nat.le_of_ble_eq_true rfl⟩ rfl rfl (Nat.le_of_ble_eq_true rfl) dX4_tell_25 (fun r M' hr => ?_)
      rcases hr with ⟨rfl, ⟨j, hj, hx, rfl⟩ | ⟨hx, rfl⟩⟩
      · skip
        refine V_iret C E dX4_tell_28 ?_
        unfold ent
        first | exact ⟨rfl, Or.inr ⟨hx, rfl⟩⟩ | exact ⟨rfl, Or.inl ⟨j, hj, hx, by rw [if_pos (by omega)]⟩⟩ | exact ⟨rfl, Or.inl ⟨j, hj, hx, by rw [if_neg (by omega), if_pos (by omega)]⟩⟩ | exact ⟨rfl, Or.inl ⟨j, hj, hx, by rw [if_neg (by omega), if_neg (by omega)]⟩⟩
      · skip
        refine V_iret C E dX4_tell_28 ?_
        unfold ent
        first | exact ⟨rfl, Or.inr ⟨hx, rfl⟩⟩ | exact ⟨rfl, Or.inl ⟨j, hj, hx, by rw [if_pos (by omega)]⟩⟩ | exact ⟨rfl, Or.inl ⟨j, hj, hx, by rw [if_neg (by omega), if_pos (by omega)]⟩⟩ | exact ⟨rfl, Or.inl ⟨j, hj, hx, by rw [if_neg (by omega), if_neg (by omega)]⟩⟩
    · skip
      refine V_aload_n C dX4_tell_15 rfl rfl ?_
      refine V_iload_n C dX4_tell_16 rfl rfl ?_
      refine V_callV C [_] (ct_X4_number (by omega) (by omega)) cv_X4_number lk_X4_88 (in_19 (by omega)) rfl rfl ⟨Nat.le_of_ble_eq_true rfl, Nat.le_of_ble_eq_true rfl⟩ rfl rfl (Nat.le_of_ble_eq_true rfl) dX4_tell_17 (fun r M' hr => ?_)
      rcases hr with ⟨rfl, ⟨j, hj, hx, rfl⟩ | ⟨hx, rfl⟩⟩
      · skip
        refine V_goto (tgt := 28) C dX4_tell_20 (by decide) ?_
        refine V_iret C E dX4_tell_28 ?_
        unfold ent
        first | exact ⟨rfl, Or.inr ⟨hx, rfl⟩⟩ | exact ⟨rfl, Or.inl ⟨j, hj, hx, by rw [if_pos (by omega)]⟩⟩ | exact ⟨rfl, Or.inl ⟨j, hj, hx, by rw [if_neg (by omega), if_pos (by omega)]⟩⟩ | exact ⟨rfl, Or.inl ⟨j, hj, hx, by rw [if_neg (by omega), if_neg (by omega)]⟩⟩
      · skip
        refine V_goto (tgt := 28) C dX4_tell_20 (by decide) ?_
        refine V_iret C E dX4_tell_28 ?_
        unfold ent
        first | exact ⟨rfl, Or.inr ⟨hx, rfl⟩⟩ | exact ⟨rfl, Or.inl ⟨j, hj, hx, by rw [if_pos (by omega)]⟩⟩ | exact ⟨rfl, Or.inl ⟨j, hj, hx, by rw [if_neg (by omega), if_pos (by omega)]⟩⟩ | exact ⟨rfl, Or.inl ⟨j, hj, hx, by rw [if_neg (by omega), if_neg (by omega)]⟩⟩
  · skip
    refine V_aload_n C dX4_tell_4 rfl rfl ?_
    refine V_iload_n C dX4_tell_5 rfl rfl ?_
    refine V_callV C [_] (ct_X4_sort (by omega) (by omega)) cv_X4_sort lk_X4_85 (in_19 (by omega)) rfl rfl ⟨Nat.le_of_ble_eq_true rfl, Nat.le_of_ble_eq_true rfl⟩ rfl rfl (Nat.le_of_ble_eq_true rfl) dX4_tell_6 (fun r M' hr => ?_)
    rcases hr with ⟨rfl, ⟨j, hj, hx, rfl⟩ | ⟨hx, rfl⟩⟩
    · skip
      refine V_iret C E dX4_tell_9 ?_
      unfold ent
      first | exact ⟨rfl, Or.inr ⟨hx, rfl⟩⟩ | exact ⟨rfl, Or.inl ⟨j, hj, hx, by rw [if_pos (by omega)]⟩⟩ | exact ⟨rfl, Or.inl ⟨j, hj, hx, by rw [if_neg (by omega), if_pos (by omega)]⟩⟩ | exact ⟨rfl, Or.inl ⟨j, hj, hx, by rw [if_neg (by omega), if_neg (by omega)]⟩⟩
    · skip
      refine V_iret C E dX4_tell_9 ?_
      unfold ent
      first | exact ⟨rfl, Or.inr ⟨hx, rfl⟩⟩ | exact ⟨rfl, Or.inl ⟨j, hj, hx, by rw [if_pos (by omega)]⟩⟩ | exact ⟨rfl, Or.inl ⟨j, hj, hx, by rw [if_neg (by omega), if_pos (by omega)]⟩⟩ | exact ⟨rfl, Or.inl ⟨j, hj, hx, by rw [if_neg (by omega), if_neg (by omega)]⟩⟩

set_option maxRecDepth 20000 in
set_option maxHeartbeats 4000000 in
theorem ct_X10_method {l : Launch} {G : Gm} {M : Mem} (hp : PI M) : Ct l G rX yX10_method (.code yX10_method cX10_method 1 (some .int) :: GW) rmX10_method [.ref (ad G 0 0)] M (fun r M' => (gN M 1 0 1 = 6 ∧ some (.int (-3)) = r ∧ M = M') ∨ (gN M 1 0 1 < 6 ∧ some (.int (nI (gN M 1 0 1))) = r ∧ ∃ X, Sm (eM M (gN M 1 0 1)) X (gN M 1 0 1) ∧ MkOK X (gN M 1 0 1) ∧ sN X 1 0 1 (gN M 1 0 1 + 1) = M')) := by
  refine Ct_of (cc := cX10_method) (by decide) [(0, _)] rfl (Nat.le_of_ble_eq_true rfl) (fun pp ee ss mm aa bb mt cd C E => ?_)
  refine V_aload_n C dX10_method_0 rfl rfl ?_
  refine gf_X10_10 C dX10_method_1 ?_
  refine V_callV C [] (ct_X5_add hp) cv_X5_add lk_X10_38 in_1 rfl rfl ⟨Nat.le_of_ble_eq_true rfl, Nat.le_of_ble_eq_true rfl⟩ rfl rfl (Nat.le_of_ble_eq_true rfl) dX10_method_4 (fun r M' hr => ?_)
  obtain ⟨y, rfl⟩ : ∃ y : Int32, r = some (.int y) := by rcases hr with ⟨_, h, _⟩ | ⟨_, h, _⟩ <;> exact ⟨_, h.symm⟩
  refine V_iret C E dX10_method_7 ?_
  exact hr

set_option maxRecDepth 20000 in
set_option maxHeartbeats 4000000 in
theorem ct_X10_clear {l : Launch} {G : Gm} {M : Mem}  : Ct l G rX yX10_clear (.code yX10_clear cX10_clear 1 (some .int) :: GW) rmX10_clear [.ref (ad G 0 0)] M (fun r M' => some (.int (nI (gN M 1 0 1))) = r ∧ sN M 1 0 1 0 = M') := by
  refine Ct_of (cc := cX10_clear) (by decide) [(0, _)] rfl (Nat.le_of_ble_eq_true rfl) (fun pp ee ss mm aa bb mt cd C E => ?_)
  refine V_aload_n C dX10_clear_0 rfl rfl ?_
  refine gf_X10_10 C dX10_clear_1 ?_
  refine V_callV C [] (ct_X5_drop) cv_X5_drop lk_X10_118 in_1 rfl rfl ⟨Nat.le_of_ble_eq_true rfl, Nat.le_of_ble_eq_true rfl⟩ rfl rfl (Nat.le_of_ble_eq_true rfl) dX10_clear_4 (fun r M' hr => ?_)
  obtain ⟨rfl, rfl⟩ := hr
  refine V_iret C E dX10_clear_7 ?_
  exact ⟨rfl, rfl⟩

set_option maxRecDepth 20000 in
set_option maxHeartbeats 4000000 in
theorem ct_X10_answer {l : Launch} {G : Gm} {M : Mem}  : Ct l G rX yX10_answer (.code yX10_answer cX10_answer 1 (some .long) :: GW) rmX10_answer [.ref (ad G 0 0)] M (fun r M' => some (.long (gJ M 7 0 9)) = r ∧ M = M') := by
  refine Ct_of (cc := cX10_answer) (by decide) [(0, _)] rfl (Nat.le_of_ble_eq_true rfl) (fun pp ee ss mm aa bb mt cd C E => ?_)
  refine V_aload_n C dX10_answer_0 rfl rfl ?_
  refine gf_X10_21 C dX10_answer_1 ?_
  refine gf_X10_78 C dX10_answer_4 ?_
  refine gf_X10_82 C dX10_answer_7 ?_
  refine V_lret C E dX10_answer_10 ?_
  exact ⟨rfl, rfl⟩

set_option maxRecDepth 20000 in
set_option maxHeartbeats 4000000 in
theorem ct_X10_told {l : Launch} {G : Gm} {M : Mem} {x : Int32} : Ct l G rX yX10_told (.code yX10_told cX10_told 2 (some .int) :: GW) rmX10_told [.ref (ad G 0 0), .int x] M (fun r M' => some (.int (tel (nI (gN M 7 0 1)) (nI (gN M 7 0 2)) (gI M 7 0 3) (nI (gN M 7 0 4)) (nI (gN M 7 0 5)) (nI (gN M 7 0 6)) (gI M 7 0 7) (nI (gN M 7 0 8)) x)) = r ∧ M = M') := by
  refine Ct_of (cc := cX10_told) (by decide) [(0, _), (1, _)] rfl (Nat.le_of_ble_eq_true rfl) (fun pp ee ss mm aa bb mt cd C E => ?_)
  refine V_aload_n C dX10_told_0 rfl rfl ?_
  refine gf_X10_21 C dX10_told_1 ?_
  refine gf_X10_78 C dX10_told_4 ?_
  refine V_iload_n C dX10_told_7 rfl rfl ?_
  refine V_callV C [_] (ct_X9_tell) cv_X9_tell lk_X10_88 in_7 rfl rfl ⟨Nat.le_of_ble_eq_true rfl, Nat.le_of_ble_eq_true rfl⟩ rfl rfl (Nat.le_of_ble_eq_true rfl) dX10_told_8 (fun r M' hr => ?_)
  obtain ⟨rfl, rfl⟩ := hr
  refine V_iret C E dX10_told_11 ?_
  exact ⟨rfl, rfl⟩

set_option maxRecDepth 20000 in
set_option maxHeartbeats 4000000 in
theorem ct_X10_entries {l : Launch} {G : Gm} {M : Mem} {m : Int32} (hp : PI M) : Ct l G rX yX10_entries (.code yX10_entries cX10_entries 3 (some .int) :: GW) rmX10_entries [.ref (ad G 0 0), .int m] M (fun r M' => M = M' ∧ ((∃ c, c < gN M 1 0 1 ∧ m = nI c ∧ some (.int (if 70 < totV M c then -4 else nI (totV M c))) = r) ∨ (¬ isM (gN M 1 0 1) m ∧ some (.int (-2)) = r))) := by
  refine Ct_of (cc := cX10_entries) (by decide) [(0, _), (1, _)] rfl (Nat.le_of_ble_eq_true rfl) (fun pp ee ss mm aa bb mt cd C E => ?_)
  refine V_aload_n C dX10_entries_0 rfl rfl ?_
  refine gf_X10_10 C dX10_entries_1 ?_
  refine V_iload_n C dX10_entries_4 rfl rfl ?_
  refine V_callV C [_] (ct_X5_at (by have := hp.1; omega)) cv_X5_at lk_X10_42 in_1 rfl rfl ⟨Nat.le_of_ble_eq_true rfl, Nat.le_of_ble_eq_true rfl⟩ rfl rfl (Nat.le_of_ble_eq_true rfl) dX10_entries_5 (fun r M' hr => ?_)
  rcases hr with ⟨c, hc, hx, rfl, rfl⟩ | ⟨hx, rfl, rfl⟩
  · skip
    have hc6 : c < 6 := by have := hp.1; omega
    refine V_astore_n (lv' := [(2, _), (0, _), (1, _)]) C dX10_entries_8 rfl (by decide) rfl ?_
    refine V_aload_n C dX10_entries_9 rfl rfl ?_
    refine V_ifnonnullR (tgt := 16) C dX10_entries_10 (by decide) ?_
    have hmk := hp.2.2 c hc
    have hlg := hmk.lg
    refine V_aload_n C dX10_entries_16 rfl rfl ?_
    refine gf_X10_92 C (by omega) dX10_entries_17 ?_
    refine gf_X10_96 C (by omega) dX10_entries_20 ?_
    refine V_ifN_eq (tgt := 31) C dX10_entries_23 (by omega) (by decide) (fun h23 => ?_) (fun h23 => ?_)
    · skip
      refine V_aload_n C dX10_entries_31 rfl rfl ?_
      refine gf_X10_92 C (by omega) dX10_entries_32 ?_
      refine gf_X10_102 C (by omega) dX10_entries_35 ?_
      refine V_iret C E dX10_entries_38 ?_
      first | exact ⟨rfl, Or.inl ⟨c, hc, hx, by rw [if_pos (hmk.big h23)]⟩⟩ | exact ⟨rfl, Or.inl ⟨c, hc, hx, by rw [if_neg (hmk.small h23).1, (hmk.small h23).2.1]⟩⟩
    · skip
      refine V_bipush C (-4) dX10_entries_26 (by decide) ?_
      refine V_goto (tgt := 38) C dX10_entries_28 (by decide) ?_
      refine V_iret C E dX10_entries_38 ?_
      first | exact ⟨rfl, Or.inl ⟨c, hc, hx, by rw [if_pos (hmk.big h23)]⟩⟩ | exact ⟨rfl, Or.inl ⟨c, hc, hx, by rw [if_neg (hmk.small h23).1, (hmk.small h23).2.1]⟩⟩
  · skip
    refine V_astore_nN (lv' := [(2, _), (0, _), (1, _)]) C dX10_entries_8 rfl (by decide) rfl ?_
    refine V_aload_nN C dX10_entries_9 rfl rfl ?_
    refine V_ifnonnullN C dX10_entries_10 ?_
    refine V_bipush C (-2) dX10_entries_13 (by decide) ?_
    refine V_iret C E dX10_entries_15 ?_
    exact ⟨rfl, Or.inr ⟨hx, rfl⟩⟩

set_option maxRecDepth 20000 in
set_option maxHeartbeats 4000000 in
theorem ct_X10_about {l : Launch} {G : Gm} {M : Mem} {m x : Int32} (hp : PI M) : Ct l G rX yX10_about (.code yX10_about cX10_about 4 (some .int) :: GW) rmX10_about [.ref (ad G 0 0), .int m, .int x] M (fun r M' => M = M' ∧ ((∃ c w, c < gN M 1 0 1 ∧ m = nI c ∧ w ≤ 2 ∧ x = nI w ∧ some (.int (abt M c w)) = r) ∨ (¬ (isM (gN M 1 0 1) m ∧ isM 3 x) ∧ some (.int (-2)) = r))) := by
  refine Ct_of (cc := cX10_about) (by decide) [(0, _), (1, _), (2, _)] rfl (Nat.le_of_ble_eq_true rfl) (fun pp ee ss mm aa bb mt cd C E => ?_)
  refine V_aload_n C dX10_about_0 rfl rfl ?_
  refine gf_X10_10 C dX10_about_1 ?_
  refine V_iload_n C dX10_about_4 rfl rfl ?_
  refine V_callV C [_] (ct_X5_at (by have := hp.1; omega)) cv_X5_at lk_X10_42 in_1 rfl rfl ⟨Nat.le_of_ble_eq_true rfl, Nat.le_of_ble_eq_true rfl⟩ rfl rfl (Nat.le_of_ble_eq_true rfl) dX10_about_5 (fun r M' hr => ?_)
  rcases hr with ⟨c, hc, hx, rfl, rfl⟩ | ⟨hx, rfl, rfl⟩
  · skip
    have hc6 : c < 6 := by have := hp.1; omega
    refine V_astore_n (lv' := [(3, _), (0, _), (1, _), (2, _)]) C dX10_about_8 rfl (by decide) rfl ?_
    refine V_aload_n C dX10_about_9 rfl rfl ?_
    refine V_ifnullR C dX10_about_10 ?_
    refine V_iload_n C dX10_about_13 rfl rfl ?_
    refine V_i2l C dX10_about_14 ?_
    refine V_lconst C (lN 0) dX10_about_15 (by decide) ?_
    refine V_ldc2 C kL_X10_106 dX10_about_16 ?_
    refine V_callS C [_, _, _] (ct_X10_within) cs_X10_within rfl lk_X10_48 ⟨Nat.le_of_ble_eq_true rfl, Nat.le_of_ble_eq_true rfl⟩ rfl rfl (Nat.le_of_ble_eq_true rfl) dX10_about_19 (fun r M' hr => ?_)
    obtain ⟨rfl, rfl⟩ := hr
    refine V_ifB_ne (tgt := 28) C dX10_about_22 (by decide) (fun h22 => ?_) (fun h22 => ?_)
    · skip
      obtain ⟨w, hw, rfl⟩ := isM_of ((w0_iff (by decide)).mp h22) (by decide)
      have hmk := hp.2.2 c hc
      have hlg := hmk.lg
      refine V_iload_n C dX10_about_28 rfl rfl ?_
      refine V_ifN_ne (tgt := 37) C dX10_about_29 (by omega) (by decide) (fun h29 => ?_) (fun h29 => ?_)
      · skip
        refine V_iload_n C dX10_about_37 rfl rfl ?_
        refine V_iconst C (nI 1) dX10_about_38 (by decide) ?_
        refine V_icmpN_ne (tgt := 47) C dX10_about_39 (by omega) (by omega) (by decide) (fun h39 => ?_) (fun h39 => ?_)
        · skip
          refine V_aload_n C dX10_about_47 rfl rfl ?_
          refine gf_X10_92 C (by omega) dX10_about_48 ?_
          refine gf_X10_96 C (by omega) dX10_about_51 ?_
          refine V_ifN_eq (tgt := 62) C dX10_about_54 (by omega) (by decide) (fun h54 => ?_) (fun h54 => ?_)
          · skip
            refine V_aload_n C dX10_about_62 rfl rfl ?_
            refine gf_X10_92 C (by omega) dX10_about_63 ?_
            refine gf_X10_115 C (by omega) dX10_about_66 ?_
            refine V_iret C E dX10_about_69 ?_
            first | exact ⟨rfl, Or.inl ⟨c, w, hc, hx, by omega, rfl, by unfold abt; rw [if_neg h29, if_neg h39, if_pos (hmk.big h54)]⟩⟩ | exact ⟨rfl, Or.inl ⟨c, w, hc, hx, by omega, rfl, by unfold abt; rw [if_neg h29, if_neg h39, if_neg (hmk.small h54).1, (hmk.small h54).2.2]⟩⟩
          · skip
            refine V_bipush C (-4) dX10_about_57 (by decide) ?_
            refine V_goto (tgt := 69) C dX10_about_59 (by decide) ?_
            refine V_iret C E dX10_about_69 ?_
            first | exact ⟨rfl, Or.inl ⟨c, w, hc, hx, by omega, rfl, by unfold abt; rw [if_neg h29, if_neg h39, if_pos (hmk.big h54)]⟩⟩ | exact ⟨rfl, Or.inl ⟨c, w, hc, hx, by omega, rfl, by unfold abt; rw [if_neg h29, if_neg h39, if_neg (hmk.small h54).1, (hmk.small h54).2.2]⟩⟩
        · skip
          refine V_aload_n C dX10_about_42 rfl rfl ?_
          refine gf_X10_112 C (by omega) dX10_about_43 ?_
          refine V_iret C E dX10_about_46 ?_
          exact ⟨rfl, Or.inl ⟨c, w, hc, hx, by omega, rfl, by unfold abt; rw [if_neg h29, if_pos h39]⟩⟩
      · skip
        refine V_aload_n C dX10_about_32 rfl rfl ?_
        refine gf_X10_111 C (by omega) dX10_about_33 ?_
        refine V_iret C E dX10_about_36 ?_
        exact ⟨rfl, Or.inl ⟨c, w, hc, hx, by omega, rfl, by unfold abt; rw [if_pos h29]⟩⟩
    · skip
      refine V_bipush C (-2) dX10_about_25 (by decide) ?_
      refine V_iret C E dX10_about_27 ?_
      first | exact ⟨rfl, Or.inr ⟨fun q => hx q.1, rfl⟩⟩ | exact ⟨rfl, Or.inr ⟨fun q => h22 ((w0_iff (by decide)).mpr q.2), rfl⟩⟩
  · skip
    refine V_astore_nN (lv' := [(3, _), (0, _), (1, _), (2, _)]) C dX10_about_8 rfl (by decide) rfl ?_
    refine V_aload_nN C dX10_about_9 rfl rfl ?_
    refine V_ifnullN (tgt := 25) C dX10_about_10 (by decide) ?_
    refine V_bipush C (-2) dX10_about_25 (by decide) ?_
    refine V_iret C E dX10_about_27 ?_
    first | exact ⟨rfl, Or.inr ⟨fun q => hx q.1, rfl⟩⟩ | exact ⟨rfl, Or.inr ⟨fun q => h22 ((w0_iff (by decide)).mpr q.2), rfl⟩⟩

set_option maxRecDepth 20000 in
set_option maxHeartbeats 4000000 in
theorem ct_X10_entry {l : Launch} {G : Gm} {M : Mem} {m i x : Int32} (hp : PI M) : Ct l G rX yX10_entry (.code yX10_entry cX10_entry 5 (some .int) :: GW) rmX10_entry [.ref (ad G 0 0), .int m, .int i, .int x] M (fun r M' => M = M' ∧ ((∃ c w, c < gN M 1 0 1 ∧ m = nI c ∧ w ≤ 2 ∧ x = nI w ∧ ((70 < totV M c ∧ some (.int (-4)) = r) ∨ (¬ 70 < totV M c ∧ ((∃ j, j < totV M c ∧ i = nI j ∧ some (.int (ent M c w j)) = r) ∨ (¬ isM (totV M c) i ∧ some (.int (-1)) = r))))) ∨ (¬ (isM (gN M 1 0 1) m ∧ isM 3 x) ∧ some (.int (-2)) = r))) := by
  refine Ct_of (cc := cX10_entry) (by decide) [(0, _), (1, _), (2, _), (3, _)] rfl (Nat.le_of_ble_eq_true rfl) (fun pp ee ss mm aa bb mt cd C E => ?_)
  refine V_aload_n C dX10_entry_0 rfl rfl ?_
  refine gf_X10_10 C dX10_entry_1 ?_
  refine V_iload_n C dX10_entry_4 rfl rfl ?_
  refine V_callV C [_] (ct_X5_at (by have := hp.1; omega)) cv_X5_at lk_X10_42 in_1 rfl rfl ⟨Nat.le_of_ble_eq_true rfl, Nat.le_of_ble_eq_true rfl⟩ rfl rfl (Nat.le_of_ble_eq_true rfl) dX10_entry_5 (fun r M' hr => ?_)
  rcases hr with ⟨c, hc, hx, rfl, rfl⟩ | ⟨hx, rfl, rfl⟩
  · skip
    have hc6 : c < 6 := by have := hp.1; omega
    refine V_astore (lv' := [(4, _), (0, _), (1, _), (2, _), (3, _)]) C dX10_entry_8 (by decide) rfl ?_
    refine V_aload C dX10_entry_10 rfl ?_
    refine V_ifnullR C dX10_entry_12 ?_
    refine V_iload_n C dX10_entry_15 rfl rfl ?_
    refine V_i2l C dX10_entry_16 ?_
    refine V_lconst C (lN 0) dX10_entry_17 (by decide) ?_
    refine V_ldc2 C kL_X10_106 dX10_entry_18 ?_
    refine V_callS C [_, _, _] (ct_X10_within) cs_X10_within rfl lk_X10_48 ⟨Nat.le_of_ble_eq_true rfl, Nat.le_of_ble_eq_true rfl⟩ rfl rfl (Nat.le_of_ble_eq_true rfl) dX10_entry_21 (fun r M' hr => ?_)
    obtain ⟨rfl, rfl⟩ := hr
    refine V_ifB_ne (tgt := 30) C dX10_entry_24 (by decide) (fun h24 => ?_) (fun h24 => ?_)
    · skip
      obtain ⟨w, hw, rfl⟩ := isM_of ((w0_iff (by decide)).mp h24) (by decide)
      have hmk := hp.2.2 c hc
      have hlg := hmk.lg
      refine V_aload C dX10_entry_30 rfl ?_
      refine gf_X10_92 C (by omega) dX10_entry_32 ?_
      refine gf_X10_96 C (by omega) dX10_entry_35 ?_
      refine V_ifN_eq (tgt := 46) C dX10_entry_38 (by omega) (by decide) (fun h38 => ?_) (fun h38 => ?_)
      · skip
        refine V_aload C dX10_entry_46 rfl ?_
        refine gf_X10_92 C (by omega) dX10_entry_48 ?_
        refine V_iload_n C dX10_entry_51 rfl rfl ?_
        refine V_iload_n C dX10_entry_52 rfl rfl ?_
        refine V_callV C [_, _] (ct_X4_tell hc6 (by rw [(hmk.small h38).2.1]; exact Nat.le_of_not_lt (hmk.small h38).1) (by omega)) cv_X4_tell lk_X10_108 (in_19 (by omega)) rfl rfl ⟨Nat.le_of_ble_eq_true rfl, Nat.le_of_ble_eq_true rfl⟩ rfl rfl (Nat.le_of_ble_eq_true rfl) dX10_entry_53 (fun r M' hr => ?_)
        obtain ⟨rfl, hr⟩ := hr
        rw [(hmk.small h38).2.1] at hr
        obtain ⟨y, rfl⟩ : ∃ y : Int32, r = some (.int y) := by rcases hr with ⟨_, _, _, h⟩ | ⟨_, h⟩ <;> exact ⟨_, h.symm⟩
        refine V_iret C E dX10_entry_56 ?_
        first | exact ⟨rfl, Or.inl ⟨c, w, hc, hx, by omega, rfl, Or.inl ⟨hmk.big h38, rfl⟩⟩⟩ | (refine ⟨rfl, Or.inl ⟨c, w, hc, hx, by omega, rfl, Or.inr ⟨(hmk.small h38).1, ?_⟩⟩⟩; rcases hr with ⟨j, a1, a2, a3⟩ | ⟨a1, a2⟩ <;> first | exact Or.inl ⟨j, a1, a2, by rw [a3]⟩ | exact Or.inr ⟨a1, by rw [a2]⟩)
      · skip
        refine V_bipush C (-4) dX10_entry_41 (by decide) ?_
        refine V_goto (tgt := 56) C dX10_entry_43 (by decide) ?_
        refine V_iret C E dX10_entry_56 ?_
        first | exact ⟨rfl, Or.inl ⟨c, w, hc, hx, by omega, rfl, Or.inl ⟨hmk.big h38, rfl⟩⟩⟩ | (refine ⟨rfl, Or.inl ⟨c, w, hc, hx, by omega, rfl, Or.inr ⟨(hmk.small h38).1, ?_⟩⟩⟩; rcases hr with ⟨j, a1, a2, a3⟩ | ⟨a1, a2⟩ <;> first | exact Or.inl ⟨j, a1, a2, by rw [a3]⟩ | exact Or.inr ⟨a1, by rw [a2]⟩)
    · skip
      refine V_bipush C (-2) dX10_entry_27 (by decide) ?_
      refine V_iret C E dX10_entry_29 ?_
      first | exact ⟨rfl, Or.inr ⟨fun q => hx q.1, rfl⟩⟩ | exact ⟨rfl, Or.inr ⟨fun q => h24 ((w0_iff (by decide)).mpr q.2), rfl⟩⟩
  · skip
    refine V_astoreN (lv' := [(4, _), (0, _), (1, _), (2, _), (3, _)]) C dX10_entry_8 (by decide) rfl ?_
    refine V_aloadN C dX10_entry_10 rfl ?_
    refine V_ifnullN (tgt := 27) C dX10_entry_12 (by decide) ?_
    refine V_bipush C (-2) dX10_entry_27 (by decide) ?_
    refine V_iret C E dX10_entry_29 ?_
    first | exact ⟨rfl, Or.inr ⟨fun q => hx q.1, rfl⟩⟩ | exact ⟨rfl, Or.inr ⟨fun q => h24 ((w0_iff (by decide)).mpr q.2), rfl⟩⟩

set_option maxRecDepth 20000 in
set_option maxHeartbeats 4000000 in
theorem ct_X10_instruction {l : Launch} {G : Gm} {M : Mem} {m a r s : Int32} {v : Int64} (hp : PI M) : Ct l G rX yX10_instruction (.code yX10_instruction cX10_instruction 8 (some .int) :: GW) rmX10_instruction [.ref (ad G 0 0), .int m, .int a, .int r, .int s, .long v] M (fun ra M' => (∃ c a' r' s', c < gN M 1 0 1 ∧ m = nI c ∧ a' ≤ 18 ∧ a = nI a' ∧ r' ≤ 3 ∧ r = nI r' ∧ s' ≤ 3 ∧ s = nI s' ∧ nfit a' v = 1 ∧ ((gN M 10 c 4 = 40 ∧ some (.int (-3)) = ra ∧ M = M') ∨ (gN M 10 c 4 < 40 ∧ some (.int (nI (gN M 10 c 4))) = ra ∧ Sm (aIns M c a' r' s' v) M' c ∧ MkOK M' c))) ∨ (¬ OKI (gN M 1 0 1) m a r s v ∧ some (.int (-2)) = ra ∧ M = M')) := by
  refine Ct_of (cc := cX10_instruction) (by decide) [(0, _), (1, _), (2, _), (3, _), (4, _), (5, _)] rfl (Nat.le_of_ble_eq_true rfl) (fun pp ee ss mm aa bb mt cd C E => ?_)
  refine V_aload_n C dX10_instruction_0 rfl rfl ?_
  refine gf_X10_10 C dX10_instruction_1 ?_
  refine V_iload_n C dX10_instruction_4 rfl rfl ?_
  refine V_callV C [_] (ct_X5_at (by have := hp.1; omega)) cv_X5_at lk_X10_42 in_1 rfl rfl ⟨Nat.le_of_ble_eq_true rfl, Nat.le_of_ble_eq_true rfl⟩ rfl rfl (Nat.le_of_ble_eq_true rfl) dX10_instruction_5 (fun r M' hr => ?_)
  rcases hr with ⟨c, hc, hx, rfl, rfl⟩ | ⟨hx, rfl, rfl⟩
  · skip
    have hc6 : c < 6 := by have := hp.1; omega
    refine V_astore (lv' := [(7, _), (0, _), (1, _), (2, _), (3, _), (4, _), (5, _)]) C dX10_instruction_8 (by decide) rfl ?_
    refine V_aload C dX10_instruction_10 rfl ?_
    refine V_ifnullR C dX10_instruction_12 ?_
    refine V_iload_n C dX10_instruction_15 rfl rfl ?_
    refine V_i2l C dX10_instruction_16 ?_
    refine V_lconst C (lN 0) dX10_instruction_17 (by decide) ?_
    refine V_ldc2 C kL_X10_46 dX10_instruction_18 ?_
    refine V_callS C [_, _, _] (ct_X10_within) cs_X10_within rfl lk_X10_48 ⟨Nat.le_of_ble_eq_true rfl, Nat.le_of_ble_eq_true rfl⟩ rfl rfl (Nat.le_of_ble_eq_true rfl) dX10_instruction_21 (fun r M' hr => ?_)
    obtain ⟨rfl, rfl⟩ := hr
    refine V_ifB_eq (tgt := 51) C dX10_instruction_24 (by decide) (fun h24 => ?_) (fun h24 => ?_)
    · skip
      refine V_bipush C (-2) dX10_instruction_51 (by decide) ?_
      refine V_iret C E dX10_instruction_53 ?_
      refine Or.inr ⟨fun q => ?_, rfl, rfl⟩
      obtain ⟨q1, q2, q3, q4, q5⟩ := q
      first | exact hx q1 | exact h24 ((w0_iff (by decide)).mpr q2) | exact h31 ((w0_iff (by decide)).mpr q3) | exact h39 ((w0_iff (by decide)).mpr q4) | (rw [nI_toInt (by omega), Int.toNat_natCast] at q5; omega)
    · skip
      obtain ⟨a', ha, rfl⟩ := isM_of ((w0_iff (by decide)).mp h24) (by decide)
      refine V_iload_n C dX10_instruction_27 rfl rfl ?_
      refine V_callS C [_] (ct_X10_isRegister) cs_X10_isRegister rfl lk_X10_52 ⟨Nat.le_of_ble_eq_true rfl, Nat.le_of_ble_eq_true rfl⟩ rfl rfl (Nat.le_of_ble_eq_true rfl) dX10_instruction_28 (fun r M' hr => ?_)
      obtain ⟨rfl, rfl⟩ := hr
      refine V_ifB_eq (tgt := 51) C dX10_instruction_31 (by decide) (fun h31 => ?_) (fun h31 => ?_)
      · skip
        refine V_bipush C (-2) dX10_instruction_51 (by decide) ?_
        refine V_iret C E dX10_instruction_53 ?_
        refine Or.inr ⟨fun q => ?_, rfl, rfl⟩
        obtain ⟨q1, q2, q3, q4, q5⟩ := q
        first | exact hx q1 | exact h24 ((w0_iff (by decide)).mpr q2) | exact h31 ((w0_iff (by decide)).mpr q3) | exact h39 ((w0_iff (by decide)).mpr q4) | (rw [nI_toInt (by omega), Int.toNat_natCast] at q5; omega)
      · skip
        obtain ⟨r', hr', rfl⟩ := isM_of ((w0_iff (by decide)).mp h31) (by decide)
        refine V_iload C dX10_instruction_34 rfl ?_
        refine V_callS C [_] (ct_X10_isRegister) cs_X10_isRegister rfl lk_X10_52 ⟨Nat.le_of_ble_eq_true rfl, Nat.le_of_ble_eq_true rfl⟩ rfl rfl (Nat.le_of_ble_eq_true rfl) dX10_instruction_36 (fun r M' hr => ?_)
        obtain ⟨rfl, rfl⟩ := hr
        refine V_ifB_eq (tgt := 51) C dX10_instruction_39 (by decide) (fun h39 => ?_) (fun h39 => ?_)
        · skip
          refine V_bipush C (-2) dX10_instruction_51 (by decide) ?_
          refine V_iret C E dX10_instruction_53 ?_
          refine Or.inr ⟨fun q => ?_, rfl, rfl⟩
          obtain ⟨q1, q2, q3, q4, q5⟩ := q
          first | exact hx q1 | exact h24 ((w0_iff (by decide)).mpr q2) | exact h31 ((w0_iff (by decide)).mpr q3) | exact h39 ((w0_iff (by decide)).mpr q4) | (rw [nI_toInt (by omega), Int.toNat_natCast] at q5; omega)
        · skip
          obtain ⟨s', hs', rfl⟩ := isM_of ((w0_iff (by decide)).mp h39) (by decide)
          have hnl := nfit_le a' v
          refine V_iload_n C dX10_instruction_42 rfl rfl ?_
          refine V_lload C dX10_instruction_43 rfl ?_
          refine V_callS C [_, _] (ct_X10_numberFits (a := a') (by omega)) cs_X10_numberFits rfl lk_X10_56 ⟨Nat.le_of_ble_eq_true rfl, Nat.le_of_ble_eq_true rfl⟩ rfl rfl (Nat.le_of_ble_eq_true rfl) dX10_instruction_45 (fun r M' hr => ?_)
          obtain ⟨rfl, rfl⟩ := hr
          refine V_ifN_ne (tgt := 54) C dX10_instruction_48 (by omega) (by decide) (fun h48 => ?_) (fun h48 => ?_)
          · skip
            have hnf : nfit a' v = 1 := by omega
            refine V_aload C dX10_instruction_54 rfl ?_
            refine V_iload_n C dX10_instruction_56 rfl rfl ?_
            refine V_iload_n C dX10_instruction_57 rfl rfl ?_
            refine V_iload C dX10_instruction_58 rfl ?_
            refine V_lload C dX10_instruction_60 rfl ?_
            refine V_callV C [_, _, _, _] (ct_X0_addInstruction hc6 (hp.2.1 c hc6) (by omega) (by omega) (by omega) (nOK_of hnf)) cv_X0_addInstruction lk_X10_60 (in_10 (by omega)) rfl rfl ⟨Nat.le_of_ble_eq_true rfl, Nat.le_of_ble_eq_true rfl⟩ rfl rfl (Nat.le_of_ble_eq_true rfl) dX10_instruction_62 (fun r M' hr => ?_)
            obtain ⟨y, rfl⟩ : ∃ y : Int32, r = some (.int y) := by rcases hr with ⟨_, h, _⟩ | ⟨_, h, _⟩ <;> exact ⟨_, h.symm⟩
            refine V_iret C E dX10_instruction_65 ?_
            exact Or.inl ⟨c, a', r', s', hc, hx, by omega, rfl, by omega, rfl, by omega, rfl, hnf, hr⟩
          · skip
            refine V_bipush C (-2) dX10_instruction_51 (by decide) ?_
            refine V_iret C E dX10_instruction_53 ?_
            refine Or.inr ⟨fun q => ?_, rfl, rfl⟩
            obtain ⟨q1, q2, q3, q4, q5⟩ := q
            first | exact hx q1 | exact h24 ((w0_iff (by decide)).mpr q2) | exact h31 ((w0_iff (by decide)).mpr q3) | exact h39 ((w0_iff (by decide)).mpr q4) | (rw [nI_toInt (by omega), Int.toNat_natCast] at q5; omega)
  · skip
    refine V_astoreN (lv' := [(7, _), (0, _), (1, _), (2, _), (3, _), (4, _), (5, _)]) C dX10_instruction_8 (by decide) rfl ?_
    refine V_aloadN C dX10_instruction_10 rfl ?_
    refine V_ifnullN (tgt := 51) C dX10_instruction_12 (by decide) ?_
    refine V_bipush C (-2) dX10_instruction_51 (by decide) ?_
    refine V_iret C E dX10_instruction_53 ?_
    refine Or.inr ⟨fun q => ?_, rfl, rfl⟩
    obtain ⟨q1, q2, q3, q4, q5⟩ := q
    first | exact hx q1 | exact h24 ((w0_iff (by decide)).mpr q2) | exact h31 ((w0_iff (by decide)).mpr q3) | exact h39 ((w0_iff (by decide)).mpr q4) | (rw [nI_toInt (by omega), Int.toNat_natCast] at q5; omega)

set_option maxRecDepth 20000 in
set_option maxHeartbeats 4000000 in
theorem ct_X10_handler {l : Launch} {G : Gm} {M : Mem} {m f t a k : Int32} (hp : PI M) : Ct l G rX yX10_handler (.code yX10_handler cX10_handler 7 (some .int) :: GW) rmX10_handler [.ref (ad G 0 0), .int m, .int f, .int t, .int a, .int k] M (fun ra M' => (∃ c f' t' a', c < gN M 1 0 1 ∧ m = nI c ∧ f' ≤ 40 ∧ f = nI f' ∧ t' ≤ 40 ∧ t = nI t' ∧ a' ≤ 40 ∧ a = nI a' ∧ k &&& (-511) = 0 ∧ ((gN M 10 c 9 = 4 ∧ some (.int (-3)) = ra ∧ M = M') ∨ (gN M 10 c 9 < 4 ∧ some (.int (nI (gN M 10 c 9))) = ra ∧ Sm (aHnd M c f' t' a' k) M' c ∧ MkOK M' c))) ∨ (¬ OKH (gN M 1 0 1) m f t a k ∧ some (.int (-2)) = ra ∧ M = M')) := by
  refine Ct_of (cc := cX10_handler) (by decide) [(0, _), (1, _), (2, _), (3, _), (4, _), (5, _)] rfl (Nat.le_of_ble_eq_true rfl) (fun pp ee ss mm aa bb mt cd C E => ?_)
  refine V_aload_n C dX10_handler_0 rfl rfl ?_
  refine gf_X10_10 C dX10_handler_1 ?_
  refine V_iload_n C dX10_handler_4 rfl rfl ?_
  refine V_callV C [_] (ct_X5_at (by have := hp.1; omega)) cv_X5_at lk_X10_42 in_1 rfl rfl ⟨Nat.le_of_ble_eq_true rfl, Nat.le_of_ble_eq_true rfl⟩ rfl rfl (Nat.le_of_ble_eq_true rfl) dX10_handler_5 (fun r M' hr => ?_)
  rcases hr with ⟨c, hc, hx, rfl, rfl⟩ | ⟨hx, rfl, rfl⟩
  · skip
    have hc6 : c < 6 := by have := hp.1; omega
    refine V_astore (lv' := [(6, _), (0, _), (1, _), (2, _), (3, _), (4, _), (5, _)]) C dX10_handler_8 (by decide) rfl ?_
    refine V_aload C dX10_handler_10 rfl ?_
    refine V_ifnullR C dX10_handler_12 ?_
    refine V_iload_n C dX10_handler_15 rfl rfl ?_
    refine V_i2l C dX10_handler_16 ?_
    refine V_callS C [_] (ct_X10_isPlace) cs_X10_isPlace rfl lk_X10_66 ⟨Nat.le_of_ble_eq_true rfl, Nat.le_of_ble_eq_true rfl⟩ rfl rfl (Nat.le_of_ble_eq_true rfl) dX10_handler_17 (fun r M' hr => ?_)
    obtain ⟨rfl, rfl⟩ := hr
    refine V_ifB_eq (tgt := 49) C dX10_handler_20 (by decide) (fun h20 => ?_) (fun h20 => ?_)
    · skip
      refine V_bipush C (-2) dX10_handler_49 (by decide) ?_
      refine V_iret C E dX10_handler_51 ?_
      refine Or.inr ⟨fun q => ?_, rfl, rfl⟩
      obtain ⟨q1, q2, q3, q4, q5⟩ := q
      first | exact hx q1 | exact h20 ((w0_iff (by decide)).mpr q2) | exact h28 ((w0_iff (by decide)).mpr q3) | exact h37 ((w0_iff (by decide)).mpr q4) | exact h46 q5
    · skip
      obtain ⟨f', hf', rfl⟩ := isM_of ((w0_iff (by decide)).mp h20) (by decide)
      refine V_iload_n C dX10_handler_23 rfl rfl ?_
      refine V_i2l C dX10_handler_24 ?_
      refine V_callS C [_] (ct_X10_isPlace) cs_X10_isPlace rfl lk_X10_66 ⟨Nat.le_of_ble_eq_true rfl, Nat.le_of_ble_eq_true rfl⟩ rfl rfl (Nat.le_of_ble_eq_true rfl) dX10_handler_25 (fun r M' hr => ?_)
      obtain ⟨rfl, rfl⟩ := hr
      refine V_ifB_eq (tgt := 49) C dX10_handler_28 (by decide) (fun h28 => ?_) (fun h28 => ?_)
      · skip
        refine V_bipush C (-2) dX10_handler_49 (by decide) ?_
        refine V_iret C E dX10_handler_51 ?_
        refine Or.inr ⟨fun q => ?_, rfl, rfl⟩
        obtain ⟨q1, q2, q3, q4, q5⟩ := q
        first | exact hx q1 | exact h20 ((w0_iff (by decide)).mpr q2) | exact h28 ((w0_iff (by decide)).mpr q3) | exact h37 ((w0_iff (by decide)).mpr q4) | exact h46 q5
      · skip
        obtain ⟨t', ht', rfl⟩ := isM_of ((w0_iff (by decide)).mp h28) (by decide)
        refine V_iload C dX10_handler_31 rfl ?_
        refine V_i2l C dX10_handler_33 ?_
        refine V_callS C [_] (ct_X10_isPlace) cs_X10_isPlace rfl lk_X10_66 ⟨Nat.le_of_ble_eq_true rfl, Nat.le_of_ble_eq_true rfl⟩ rfl rfl (Nat.le_of_ble_eq_true rfl) dX10_handler_34 (fun r M' hr => ?_)
        obtain ⟨rfl, rfl⟩ := hr
        refine V_ifB_eq (tgt := 49) C dX10_handler_37 (by decide) (fun h37 => ?_) (fun h37 => ?_)
        · skip
          refine V_bipush C (-2) dX10_handler_49 (by decide) ?_
          refine V_iret C E dX10_handler_51 ?_
          refine Or.inr ⟨fun q => ?_, rfl, rfl⟩
          obtain ⟨q1, q2, q3, q4, q5⟩ := q
          first | exact hx q1 | exact h20 ((w0_iff (by decide)).mpr q2) | exact h28 ((w0_iff (by decide)).mpr q3) | exact h37 ((w0_iff (by decide)).mpr q4) | exact h46 q5
        · skip
          obtain ⟨a', ha', rfl⟩ := isM_of ((w0_iff (by decide)).mp h37) (by decide)
          refine V_iload C dX10_handler_40 rfl ?_
          refine V_sipush C (-511) dX10_handler_42 (by decide) ?_
          refine V_iand C dX10_handler_45 ?_
          refine V_if_eq (tgt := 52) C dX10_handler_46 (by decide) (fun h46 => ?_) (fun h46 => ?_)
          · skip
            refine V_aload C dX10_handler_52 rfl ?_
            refine V_iload_n C dX10_handler_54 rfl rfl ?_
            refine V_iload_n C dX10_handler_55 rfl rfl ?_
            refine V_iload C dX10_handler_56 rfl ?_
            refine V_iload C dX10_handler_58 rfl ?_
            refine V_callV C [_, _, _, _] (ct_X0_addHandler hc6 (hp.2.1 c hc6) (by omega) (by omega) (by omega)) cv_X0_addHandler lk_X10_70 (in_10 (by omega)) rfl rfl ⟨Nat.le_of_ble_eq_true rfl, Nat.le_of_ble_eq_true rfl⟩ rfl rfl (Nat.le_of_ble_eq_true rfl) dX10_handler_60 (fun r M' hr => ?_)
            obtain ⟨y, rfl⟩ : ∃ y : Int32, r = some (.int y) := by rcases hr with ⟨_, h, _⟩ | ⟨_, h, _⟩ <;> exact ⟨_, h.symm⟩
            refine V_iret C E dX10_handler_63 ?_
            exact Or.inl ⟨c, f', t', a', hc, hx, by omega, rfl, by omega, rfl, by omega, rfl, h46, hr⟩
          · skip
            refine V_bipush C (-2) dX10_handler_49 (by decide) ?_
            refine V_iret C E dX10_handler_51 ?_
            refine Or.inr ⟨fun q => ?_, rfl, rfl⟩
            obtain ⟨q1, q2, q3, q4, q5⟩ := q
            first | exact hx q1 | exact h20 ((w0_iff (by decide)).mpr q2) | exact h28 ((w0_iff (by decide)).mpr q3) | exact h37 ((w0_iff (by decide)).mpr q4) | exact h46 q5
  · skip
    refine V_astoreN (lv' := [(6, _), (0, _), (1, _), (2, _), (3, _), (4, _), (5, _)]) C dX10_handler_8 (by decide) rfl ?_
    refine V_aloadN C dX10_handler_10 rfl ?_
    refine V_ifnullN (tgt := 49) C dX10_handler_12 (by decide) ?_
    refine V_bipush C (-2) dX10_handler_49 (by decide) ?_
    refine V_iret C E dX10_handler_51 ?_
    refine Or.inr ⟨fun q => ?_, rfl, rfl⟩
    obtain ⟨q1, q2, q3, q4, q5⟩ := q
    first | exact hx q1 | exact h20 ((w0_iff (by decide)).mpr q2) | exact h28 ((w0_iff (by decide)).mpr q3) | exact h37 ((w0_iff (by decide)).mpr q4) | exact h46 q5
