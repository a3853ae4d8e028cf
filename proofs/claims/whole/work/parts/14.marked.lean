/-- an entry is added -/
def addE (M : Mem) (c a n : Nat) (g : Int32) : Mem := if a = 1 ∨ a = 2 then sN (sN (sI (sN (sN M 20 c (gN M 19 c 5) a) 21 c (gN M 19 c 5) n) 22 c (gN M 19 c 5) g) 19 c 5 (gN M 19 c 5 + 1)) 19 c 6 (gN M 19 c 6 + 1) else sN (sI (sN (sN M 20 c (gN M 19 c 5) a) 21 c (gN M 19 c 5) n) 22 c (gN M 19 c 5) g) 19 c 5 (gN M 19 c 5 + 1)
/-- all stays but the entries of the METHOD c -/
def Sm (M M' : Mem) (c : Nat) : Prop := (∀ k i j, (k < 19 ∨ 24 < k ∨ i ≠ c) → gN M' k i j = gN M k i j) ∧ (∀ k i j, (k ≠ 22 ∨ i ≠ c) → gI M' k i j = gI M k i j) ∧ (∀ k i j, gJ M' k i j = gJ M k i j)
theorem Sm_rf {M : Mem} {c : Nat} : Sm M M c := ⟨fun _ _ _ _ => rfl, fun _ _ _ _ => rfl, fun _ _ _ => rfl⟩
theorem Sm.tr {M M' M'' : Mem} {c : Nat} (h : Sm M M' c) (h2 : Sm M' M'' c) : Sm M M'' c := ⟨fun k i j q => (h2.1 k i j q).trans (h.1 k i j q), fun k i j q => (h2.2.1 k i j q).trans (h.2.1 k i j q), fun k i j => (h2.2.2 k i j).trans (h.2.2 k i j)⟩
theorem Sm_sN {M : Mem} {c k j v : Nat} (h : 19 ≤ k ∧ k ≤ 24) : Sm M (sN M k c j v) c := ⟨fun a i b q => by rw [gNN, if_neg (by omega)], fun _ _ _ _ => rfl, fun _ _ _ => rfl⟩
theorem Sm_sI {M : Mem} {c j : Nat} {v : Int32} : Sm M (sI M 22 c j v) c := ⟨fun _ _ _ _ => rfl, fun a i b q => by rw [gII, if_neg (by omega)], fun _ _ _ => rfl⟩
theorem Sm_add {M : Mem} {c a n : Nat} {g : Int32} : Sm M (addE M c a n g) c := by
  have h : Sm M (sN (sI (sN (sN M 20 c (gN M 19 c 5) a) 21 c (gN M 19 c 5) n) 22 c (gN M 19 c 5) g) 19 c 5 (gN M 19 c 5 + 1)) c := ((Sm_sN (by omega)).tr ((Sm_sN (by omega)).tr (Sm_sI.tr (Sm_sN (by omega)))))
  unfold addE
  split
  · exact h.tr (Sm_sN (by omega))
  · exact h
theorem CI_Sm {M M' : Mem} {c d : Nat} (h : Sm M M' d) (hi : CI M c) : CI M' c := CI_of (fun k j h1 h2 => h.1 k c j (by omega)) (fun j => h.2.2 14 c j) hi
theorem addE_sz {M : Mem} {c a n : Nat} {g : Int32} : gN (addE M c a n g) 19 c 5 = gN M 19 c 5 + 1 := by
  unfold addE; split <;> simp [gNN, gNI]
theorem addE_mk {M : Mem} {c a n : Nat} {g : Int32} : gN (addE M c a n g) 19 c 6 = gN M 19 c 6 + (if a = 1 ∨ a = 2 then 1 else 0) := by
  unfold addE; split <;> simp [gNN, gNI]
theorem addE_lg {M : Mem} {c a n : Nat} {g : Int32} : gN (addE M c a n g) 19 c 7 = gN M 19 c 7 := by
  unfold addE; split <;> simp [gNN, gNI]
theorem addE_20 {M : Mem} {c a n : Nat} {g : Int32} (j : Nat) : gN (addE M c a n g) 20 c j = if j = gN M 19 c 5 then a else gN M 20 c j := by
  unfold addE; split <;> simp [gNN, gNI]
theorem addE_21 {M : Mem} {c a n : Nat} {g : Int32} (j : Nat) : gN (addE M c a n g) 21 c j = if j = gN M 19 c 5 then n else gN M 21 c j := by
  unfold addE; split <;> simp [gNN, gNI]
theorem addE_22 {M : Mem} {c a n : Nat} {g : Int32} (j : Nat) : gI (addE M c a n g) 22 c j = if j = gN M 19 c 5 then g else gI M 22 c j := by
  unfold addE; split <;> simp [gII, gIN]
theorem addE_23 {M : Mem} {c a n : Nat} {g : Int32} (j : Nat) : gN (addE M c a n g) 23 c j = gN M 23 c j := by
  unfold addE; split <;> simp [gNN, gNI]
theorem addE_24 {M : Mem} {c a n : Nat} {g : Int32} (j : Nat) : gN (addE M c a n g) 24 c j = gN M 24 c j := by
  unfold addE; split <;> simp [gNN, gNI]
def mkc (ac : Nat → Nat) : Nat → Nat
  | 0 => 0
  | n + 1 => mkc ac n + mk1 ac n
/-- the entries of a PLACE: their sorts and numbers -/
def PlE (ac fs S Nn : Nat → Nat) (k : Nat) : Prop := (ac k = 8 → S (beg ac k) = 2 ∧ Nn (beg ac k) = fs k) ∧ S (beg ac k + mk1 ac k) = 0 ∧ Nn (beg ac k + mk1 ac k) = k
theorem PlE.keep {ac fs S Nn S' Nn' : Nat → Nat} {k z : Nat} (h : PlE ac fs S Nn k) (hz : beg ac k + mk1 ac k < z) (h1 : ∀ j, j < z → S' j = S j) (h2 : ∀ j, j < z → Nn' j = Nn j) : PlE ac fs S' Nn' k := by
  refine ⟨fun q => ?_, ?_, ?_⟩
  · rw [h1 _ (by omega), h2 _ (by omega)]; exact h.1 q
  · rw [h1 _ hz]; exact h.2.1
  · rw [h2 _ hz]; exact h.2.2
def PInv (ac fs : Nat → Nat) (M X : Mem) (c p : Nat) : Prop :=
  Sm M X c ∧ gN X 19 c 5 = beg ac p ∧ gN X 19 c 6 = gN M 19 c 6 + mkc ac p ∧ gN X 19 c 7 = gN M 19 c 7 ∧ (∀ k, k < p → gN X 23 c k = beg ac k ∧ PlE ac fs (gN X 20 c) (gN X 21 c) k ∧ (ac k = 8 → gI X 22 c (beg ac k) = -1) ∧ gI X 22 c (beg ac k + mk1 ac k) = -1) ∧ gN X 20 c 0 = gN M 20 c 0 ∧ gN X 21 c 0 = gN M 21 c 0 ∧ gI X 22 c 0 = gI M 22 c 0
theorem beg_pos (ac : Nat → Nat) (n : Nat) : 1 ≤ beg ac n := by
  induction n with
  | zero => exact Nat.le_refl 1
  | succ n ih => show 1 ≤ beg ac n + 1 + mk1 ac n; omega
theorem PInv.step {ac fs : Nat → Nat} {M X : Mem} {c p : Nat} (h : PInv ac fs M X c p) :
    (ac p = 8 → PInv ac fs M (addE (addE (sN X 23 c p (gN X 19 c 5)) c 2 (fs p) (-1)) c 0 p (-1)) c (p + 1)) ∧ (¬ ac p = 8 → PInv ac fs M (addE (sN X 23 c p (gN X 19 c 5)) c 0 p (-1)) c (p + 1)) := by
  obtain ⟨h1, h2, h3, h4, h5, h6, h7, h8⟩ := h
  have hb := beg_pos ac p
  have z0 : gN (sN X 23 c p (gN X 19 c 5)) 19 c 5 = beg ac p := by rw [gNN, if_neg (by omega), h2]
  constructor
  · intro ha
    have hm : mk1 ac p = 1 := by unfold mk1; rw [if_pos ha]
    refine ⟨h1.tr ((Sm_sN (by omega)).tr (Sm_add.tr Sm_add)), ?_, ?_, ?_, fun k hk => ?_, ?_, ?_, ?_⟩
    · rw [addE_sz, addE_sz, z0]; show _ = beg ac p + 1 + mk1 ac p; omega
    · rw [addE_mk, addE_mk, gNN, if_neg (by omega), h3, if_pos (by omega), if_neg (by omega)]; show _ = gN M 19 c 6 + (mkc ac p + mk1 ac p); omega
    · rw [addE_lg, addE_lg, gNN, if_neg (by omega), h4]
    · by_cases hkp : k = p
      · subst hkp
        refine ⟨?_, ⟨fun _ => ?_, ?_, ?_⟩, fun _ => ?_, ?_⟩
        · rw [addE_23, addE_23, gNN, if_pos ⟨rfl, rfl, rfl⟩, h2]
        · rw [addE_20, addE_sz, z0, if_neg (by omega), addE_20, z0, if_pos rfl, addE_21, addE_sz, z0, if_neg (by omega), addE_21, z0, if_pos rfl]; exact ⟨rfl, rfl⟩
        · rw [addE_20, addE_sz, z0, if_pos (by omega)]
        · rw [addE_21, addE_sz, z0, if_pos (by omega)]
        · rw [addE_22, addE_sz, z0, if_neg (by omega), addE_22, z0, if_pos rfl]
        · rw [addE_22, addE_sz, z0, if_pos (by omega)]
      · have hlt : k < p := by omega
        obtain ⟨g1, g2, g3, g4⟩ := h5 k hlt
        have hbm := beg_mono ac hlt
        refine ⟨?_, g2.keep (z := beg ac p) (by omega) (fun j hj => ?_) (fun j hj => ?_), fun q => ?_, ?_⟩
        · rw [addE_23, addE_23, gNN, if_neg (by omega), g1]
        · rw [addE_20, addE_sz, z0, if_neg (by omega), addE_20, z0, if_neg (by omega), gNN, if_neg (by omega)]
        · rw [addE_21, addE_sz, z0, if_neg (by omega), addE_21, z0, if_neg (by omega), gNN, if_neg (by omega)]
        · rw [addE_22, addE_sz, z0, if_neg (by omega), addE_22, z0, if_neg (by omega), gIN]; exact g3 q
        · rw [addE_22, addE_sz, z0, if_neg (by omega), addE_22, z0, if_neg (by omega), gIN]; exact g4
    · rw [addE_20, addE_sz, z0, if_neg (by omega), addE_20, z0, if_neg (by omega), gNN, if_neg (by omega), h6]
    · rw [addE_21, addE_sz, z0, if_neg (by omega), addE_21, z0, if_neg (by omega), gNN, if_neg (by omega), h7]
    · rw [addE_22, addE_sz, z0, if_neg (by omega), addE_22, z0, if_neg (by omega), gIN, h8]
  · intro ha
    have hm : mk1 ac p = 0 := by unfold mk1; rw [if_neg ha]
    refine ⟨h1.tr ((Sm_sN (by omega)).tr Sm_add), ?_, ?_, ?_, fun k hk => ?_, ?_, ?_, ?_⟩
    · rw [addE_sz, z0]; show _ = beg ac p + 1 + mk1 ac p; omega
    · rw [addE_mk, gNN, if_neg (by omega), h3, if_neg (by omega)]; show _ = gN M 19 c 6 + (mkc ac p + mk1 ac p); omega
    · rw [addE_lg, gNN, if_neg (by omega), h4]
    · by_cases hkp : k = p
      · subst hkp
        refine ⟨?_, ⟨fun q => absurd q ha, ?_, ?_⟩, fun q => absurd q ha, ?_⟩
        · rw [addE_23, gNN, if_pos ⟨rfl, rfl, rfl⟩, h2]
        · rw [addE_20, z0, if_pos (by omega)]
        · rw [addE_21, z0, if_pos (by omega)]
        · rw [addE_22, z0, if_pos (by omega)]
      · have hlt : k < p := by omega
        obtain ⟨g1, g2, g3, g4⟩ := h5 k hlt
        have hbm := beg_mono ac hlt
        refine ⟨?_, g2.keep (z := beg ac p) (by omega) (fun j hj => ?_) (fun j hj => ?_), fun q => ?_, ?_⟩
        · rw [addE_23, gNN, if_neg (by omega), g1]
        · rw [addE_20, z0, if_neg (by omega), gNN, if_neg (by omega)]
        · rw [addE_21, z0, if_neg (by omega), gNN, if_neg (by omega)]
        · rw [addE_22, z0, if_neg (by omega), gIN]; exact g3 q
        · rw [addE_22, z0, if_neg (by omega), gIN]; exact g4
    · rw [addE_20, z0, if_neg (by omega), gNN, if_neg (by omega), h6]
    · rw [addE_21, z0, if_neg (by omega), gNN, if_neg (by omega), h7]
    · rw [addE_22, z0, if_neg (by omega), gIN, h8]
set_option maxRecDepth 20000 in
set_option maxHeartbeats 4000000 in
theorem ct_X4_add {l : Launch} {G : Gm} {M : Mem} {c a n : Nat} {g : Int32} (hc : c < 6) (ha : a ≤ 3) (hz : gN M 19 c 5 < 70) : Ct l G rX yX4_add (.code yX4_add cX4_add 4 none :: GW) rmX4_add [.ref (ad G 19 c), .int (nI a), .int (nI n), .int g] M (fun r M' => none = r ∧ addE M c a n g = M') := by
  refine Ct_of (cc := cX4_add) (by decide) [(0, _), (1, _), (2, _), (3, _)] rfl (Nat.le_of_ble_eq_true rfl) (fun pp ee ss mm aa bb mt cd C E => ?_)
  refine V_aload_n C dX4_add_0 rfl rfl ?_
  refine gf_X4_27 C (by omega) dX4_add_1 ?_
  try simp only [gNN, gNI, gNJ, gIN, gII, gIJ, gJN, gJI, gJJ, Nat.reduceEqDiff, false_and, and_false, true_and, and_true, if_false, if_true]
  refine V_bipush C (nI 70) dX4_add_4 (by decide) ?_
  refine V_icmpN_lt (tgt := 10) C dX4_add_6 (by omega) (by omega) (by decide) (fun h6 => ?_) (fun h6 => ?_)
  · skip
    refine V_aload_n C dX4_add_10 rfl rfl ?_
    refine gf_X4_9 C (by omega) dX4_add_11 ?_
    try simp only [gNN, gNI, gNJ, gIN, gII, gIJ, gJN, gJI, gJJ, Nat.reduceEqDiff, false_and, and_false, true_and, and_true, if_false, if_true]
    refine V_aload_n C dX4_add_14 rfl rfl ?_
    refine gf_X4_27 C (by omega) dX4_add_15 ?_
    try simp only [gNN, gNI, gNJ, gIN, gII, gIJ, gJN, gJI, gJJ, Nat.reduceEqDiff, false_and, and_false, true_and, and_true, if_false, if_true]
    refine V_iload_n C dX4_add_18 rfl rfl ?_
    refine st_20 C (by omega) (by omega) dX4_add_19 ?_
    refine V_aload_n C dX4_add_20 rfl rfl ?_
    refine gf_X4_15 C (by omega) dX4_add_21 ?_
    try simp only [gNN, gNI, gNJ, gIN, gII, gIJ, gJN, gJI, gJJ, Nat.reduceEqDiff, false_and, and_false, true_and, and_true, if_false, if_true]
    refine V_aload_n C dX4_add_24 rfl rfl ?_
    refine gf_X4_27 C (by omega) dX4_add_25 ?_
    try simp only [gNN, gNI, gNJ, gIN, gII, gIJ, gJN, gJI, gJJ, Nat.reduceEqDiff, false_and, and_false, true_and, and_true, if_false, if_true]
    refine V_iload_n C dX4_add_28 rfl rfl ?_
    refine st_21 C (by omega) (by omega) dX4_add_29 ?_
    refine V_aload_n C dX4_add_30 rfl rfl ?_
    refine gf_X4_18 C (by omega) dX4_add_31 ?_
    try simp only [gNN, gNI, gNJ, gIN, gII, gIJ, gJN, gJI, gJJ, Nat.reduceEqDiff, false_and, and_false, true_and, and_true, if_false, if_true]
    refine V_aload_n C dX4_add_34 rfl rfl ?_
    refine gf_X4_27 C (by omega) dX4_add_35 ?_
    try simp only [gNN, gNI, gNJ, gIN, gII, gIJ, gJN, gJI, gJJ, Nat.reduceEqDiff, false_and, and_false, true_and, and_true, if_false, if_true]
    refine V_iload_n C dX4_add_38 rfl rfl ?_
    refine st_22 C (by omega) (by omega) dX4_add_39 ?_
    refine V_aload_n C dX4_add_40 rfl rfl ?_
    refine V_dup C dX4_add_41 rfl ?_
    refine gf_X4_27 C (by omega) dX4_add_42 ?_
    try simp only [gNN, gNI, gNJ, gIN, gII, gIJ, gJN, gJI, gJJ, Nat.reduceEqDiff, false_and, and_false, true_and, and_true, if_false, if_true]
    refine V_iconst C (nI 1) dX4_add_45 (by decide) ?_
    refine V_iaddN C dX4_add_46 ?_
    refine pf_X4_27 C (by omega) dX4_add_47 ?_
    refine V_iload_n C dX4_add_50 rfl rfl ?_
    refine V_iconst C (nI 1) dX4_add_51 (by decide) ?_
    refine V_icmpN_eq (tgt := 60) C dX4_add_52 (by omega) (by omega) (by decide) (fun h52 => ?_) (fun h52 => ?_)
    · skip
      refine V_aload_n C dX4_add_60 rfl rfl ?_
      refine V_dup C dX4_add_61 rfl ?_
      refine gf_X4_31 C (by omega) dX4_add_62 ?_
      try simp only [gNN, gNI, gNJ, gIN, gII, gIJ, gJN, gJI, gJJ, Nat.reduceEqDiff, false_and, and_false, true_and, and_true, if_false, if_true]
      refine V_iconst C (nI 1) dX4_add_65 (by decide) ?_
      refine V_iaddN C dX4_add_66 ?_
      refine pf_X4_31 C (by omega) dX4_add_67 ?_
      refine V_vret C E dX4_add_70 ?_
      first | omega | (refine ⟨rfl, ?_⟩; unfold addE; first | rw [if_pos (by omega)] | rw [if_neg (by omega)])
    · skip
      refine V_iload_n C dX4_add_55 rfl rfl ?_
      refine V_iconst C (nI 2) dX4_add_56 (by decide) ?_
      refine V_icmpN_ne (tgt := 70) C dX4_add_57 (by omega) (by omega) (by decide) (fun h57 => ?_) (fun h57 => ?_)
      · skip
        refine V_vret C E dX4_add_70 ?_
        first | omega | (refine ⟨rfl, ?_⟩; unfold addE; first | rw [if_pos (by omega)] | rw [if_neg (by omega)])
      · skip
        refine V_aload_n C dX4_add_60 rfl rfl ?_
        refine V_dup C dX4_add_61 rfl ?_
        refine gf_X4_31 C (by omega) dX4_add_62 ?_
        try simp only [gNN, gNI, gNJ, gIN, gII, gIJ, gJN, gJI, gJJ, Nat.reduceEqDiff, false_and, and_false, true_and, and_true, if_false, if_true]
        refine V_iconst C (nI 1) dX4_add_65 (by decide) ?_
        refine V_iaddN C dX4_add_66 ?_
        refine pf_X4_31 C (by omega) dX4_add_67 ?_
        refine V_vret C E dX4_add_70 ?_
        first | omega | (refine ⟨rfl, ?_⟩; unfold addE; first | rw [if_pos (by omega)] | rw [if_neg (by omega)])
  · skip
    refine V_vret C E dX4_add_9 ?_
    first | omega | (refine ⟨rfl, ?_⟩; unfold addE; first | rw [if_pos (by omega)] | rw [if_neg (by omega)])

set_option maxRecDepth 20000 in
set_option maxHeartbeats 4000000 in
theorem ct_X4_addLead {l : Launch} {G : Gm} {M : Mem} {c b : Nat} (hc : c < 6) (hz : gN M 19 c 5 < 69) : Ct l G rX yX4_addLead (.code yX4_addLead cX4_addLead 3 (some .int) :: GW) rmX4_addLead [.ref (ad G 19 c), .int (nI b)] M (fun r M' => some (.int (nI (gN M 19 c 5))) = r ∧ addE (addE M c 1 0 (-1)) c 3 b (nI b) = M') := by
  refine Ct_of (cc := cX4_addLead) (by decide) [(0, _), (1, _)] rfl (Nat.le_of_ble_eq_true rfl) (fun pp ee ss mm aa bb mt cd C E => ?_)
  refine V_aload_n C dX4_addLead_0 rfl rfl ?_
  refine gf_X4_27 C (by omega) dX4_addLead_1 ?_
  refine V_istore_n (lv' := [(2, _), (0, _), (1, _)]) C dX4_addLead_4 rfl (by decide) rfl ?_
  refine V_aload_n C dX4_addLead_5 rfl rfl ?_
  refine V_iconst C (nI 1) dX4_addLead_6 (by decide) ?_
  refine V_iconst C (nI 0) dX4_addLead_7 (by decide) ?_
  refine V_iconst C (-1) dX4_addLead_8 (by decide) ?_
  refine V_callV C [_, _, _] (ct_X4_add (by omega) (by omega) (by omega)) cv_X4_add lk_X4_44 (in_19 (by omega)) rfl rfl ⟨Nat.le_of_ble_eq_true rfl, Nat.le_of_ble_eq_true rfl⟩ rfl rfl (Nat.le_of_ble_eq_true rfl) dX4_addLead_9 (fun r M' hr => ?_)
  obtain ⟨rfl, rfl⟩ := hr
  refine V_aload_n C dX4_addLead_12 rfl rfl ?_
  refine V_iconst C (nI 3) dX4_addLead_13 (by decide) ?_
  refine V_iload_n C dX4_addLead_14 rfl rfl ?_
  refine V_iload_n C dX4_addLead_15 rfl rfl ?_
  refine V_callV C [_, _, _] (ct_X4_add (by omega) (by omega) (by rw [addE_sz]; omega)) cv_X4_add lk_X4_44 (in_19 (by omega)) rfl rfl ⟨Nat.le_of_ble_eq_true rfl, Nat.le_of_ble_eq_true rfl⟩ rfl rfl (Nat.le_of_ble_eq_true rfl) dX4_addLead_16 (fun r M' hr => ?_)
  obtain ⟨rfl, rfl⟩ := hr
  refine V_iload_n C dX4_addLead_19 rfl rfl ?_
  refine V_iret C E dX4_addLead_20 ?_
  exact ⟨rfl, rfl⟩

set_option maxRecDepth 20000 in
set_option maxHeartbeats 4000000 in
theorem ct_X4_addPlaces {l : Launch} {G : Gm} {M : Mem} {c : Nat} (hc : c < 6) (hi : CI M c) (h0 : gN M 19 c 5 = 1) (hb : beg (gN M 11 c) (gN M 10 c 4) < 70) : Ct l G rX yX4_addPlaces (.code yX4_addPlaces cX4_addPlaces 3 none :: GW) rmX4_addPlaces [.ref (ad G 19 c), .ref (ad G 10 c)] M (fun r M' => none = r ∧ ∃ X, PInv (gN M 11 c) (gN M 12 c) M X c (gN M 10 c 4) ∧ addE (sN X 23 c (gN M 10 c 4) (gN X 19 c 5)) c 0 (gN M 10 c 4) (-1) = M') := by
  have hs := hi.1
  have hh4 := hi.2.1
  refine Ct_of (cc := cX4_addPlaces) (by decide) [(0, _), (1, _)] rfl (Nat.le_of_ble_eq_true rfl) (fun pp ee ss mm aa bb mt cd C E => ?_)
  refine V_iconst C (nI 0) dX4_addPlaces_0 (by decide) ?_
  refine V_istore_n (lv' := [(2, _), (0, _), (1, _)]) C dX4_addPlaces_1 rfl (by decide) rfl ?_
  have LP2 : ∀ (fu : Nat) (p : Nat) (X : Mem), gN M 10 c 4 - p < fu → p ≤ gN M 10 c 4 → PInv (gN M 11 c) (gN M 12 c) M X c p → V pp l ee rmX4_addPlaces ss mm aa bb mt cd G rX 3 (MQ bb (QcG G rX (fun r M' => none = r ∧ ∃ X, PInv (gN M 11 c) (gN M 12 c) M X c (gN M 10 c 4) ∧ addE (sN X 23 c (gN M 10 c 4) (gN X 19 c 5)) c 0 (gN M 10 c 4) (-1) = M') (AA G rX ss.heap.size)) aa ss 0 0 (AA G rX ss.heap.size)) X 2 [(2, .int (nI p)), (0, .ref (ad G 19 c)), (1, .ref (ad G 10 c))] [] := by
    intro fu
    induction fu with
    | zero => intros; omega
    | succ fu ih =>
      intro p X hfu hle hI
      have hI0 := hI
      obtain ⟨i1, i2, i3, i4, i5, i6⟩ := hI0
      have hsz : gN X 10 c 4 = gN M 10 c 4 := i1.1 10 c 4 (by omega)
      have hcx := CI_Sm i1 hi
      have hbp : beg (gN M 11 c) p ≤ beg (gN M 11 c) (gN M 10 c 4) := by rcases Nat.lt_or_eq_of_le hle with q | q; (have := beg_mono (gN M 11 c) q; omega); (rw [q]; omega)
      refine V_iload_n C dX4_addPlaces_2 rfl rfl ?_
      refine V_aload_n C dX4_addPlaces_3 rfl rfl ?_
      refine gf_X4_58 C (by omega) dX4_addPlaces_4 ?_
      refine V_icmpN_ge (tgt := 54) C dX4_addPlaces_7 (by omega) (by omega) (by decide) (fun h7 => ?_) (fun h7 => ?_)
      · skip
        refine V_aload_n C dX4_addPlaces_54 rfl rfl ?_
        refine gf_X4_21 C (by omega) dX4_addPlaces_55 ?_
        refine V_aload_n C dX4_addPlaces_58 rfl rfl ?_
        refine gf_X4_58 C (by omega) dX4_addPlaces_59 ?_
        refine V_aload_n C dX4_addPlaces_62 rfl rfl ?_
        refine gf_X4_27 C (by omega) dX4_addPlaces_63 ?_
        refine st_23 C (by omega) (by omega) dX4_addPlaces_66 ?_
        refine V_aload_n C dX4_addPlaces_67 rfl rfl ?_
        refine V_iconst C (nI 0) dX4_addPlaces_68 (by decide) ?_
        refine V_aload_n C dX4_addPlaces_69 rfl rfl ?_
        refine gf_X4_58 C (by omega) dX4_addPlaces_70 ?_
        refine V_iconst C (-1) dX4_addPlaces_73 (by decide) ?_
        refine V_callV C [_, _, _] (ct_X4_add (by omega) (by omega) (by rw [gNN, if_neg (by omega), i2]; omega)) cv_X4_add lk_X4_44 (in_19 (by omega)) rfl rfl ⟨Nat.le_of_ble_eq_true rfl, Nat.le_of_ble_eq_true rfl⟩ rfl rfl (Nat.le_of_ble_eq_true rfl) dX4_addPlaces_74 (fun r M' hr => ?_)
        obtain ⟨rfl, rfl⟩ := hr
        refine V_vret C E dX4_addPlaces_77 ?_
        have hp : p = gN M 10 c 4 := by omega
        subst hp
        refine ⟨rfl, X, hI, ?_⟩
        first | rfl | simp [gNN, hsz]
      · skip
        have hbm := beg_mono (gN M 11 c) (show p < gN M 10 c 4 by omega)
        have hm1 := mk1_le (gN M 11 c) p
        have hax : gN X 11 c p = gN M 11 c p := i1.1 11 c p (by omega)
        have hfx : gN X 12 c p = gN M 12 c p := i1.1 12 c p (by omega)
        have hal := (hi.2.2.1 p (by omega)).1
        have h8m : gN M 11 c p = 8 → mk1 (gN M 11 c) p = 1 := fun q => by unfold mk1; rw [if_pos q]
        have hcy := CI_Sm (Sm_sN (c := c) (k := 23) (j := p) (v := gN X 19 c 5) (by omega)) hcx
        have hsy : gN (sN X 23 c p (gN X 19 c 5)) 10 c 4 = gN M 10 c 4 := by rw [gNN, if_neg (by omega), hsz]
        have hzy : gN (sN X 23 c p (gN X 19 c 5)) 19 c 5 = beg (gN M 11 c) p := by rw [gNN, if_neg (by omega), i2]
        refine V_aload_n C dX4_addPlaces_10 rfl rfl ?_
        refine gf_X4_21 C (by omega) dX4_addPlaces_11 ?_
        refine V_iload_n C dX4_addPlaces_14 rfl rfl ?_
        refine V_aload_n C dX4_addPlaces_15 rfl rfl ?_
        refine gf_X4_27 C (by omega) dX4_addPlaces_16 ?_
        refine st_23 C (by omega) (by omega) dX4_addPlaces_19 ?_
        refine V_aload_n C dX4_addPlaces_20 rfl rfl ?_
        refine V_iload_n C dX4_addPlaces_21 rfl rfl ?_
        refine V_callV C [_] (ct_X0_act (by omega) hcy (by omega)) cv_X0_act lk_X4_59 (in_10 (by omega)) rfl rfl ⟨Nat.le_of_ble_eq_true rfl, Nat.le_of_ble_eq_true rfl⟩ rfl rfl (Nat.le_of_ble_eq_true rfl) dX4_addPlaces_22 (fun r M' hr => ?_)
        obtain ⟨rfl, rfl⟩ := hr
        rw [if_pos (by omega), show gN (sN X 23 c p (gN X 19 c 5)) 11 c p = gN M 11 c p by rw [gNN, if_neg (by omega), hax]]
        refine V_bipush C (nI 8) dX4_addPlaces_25 (by decide) ?_
        refine V_icmpN_ne (tgt := 41) C dX4_addPlaces_27 (by omega) (by omega) (by decide) (fun h27 => ?_) (fun h27 => ?_)
        · skip
          refine V_aload_n C dX4_addPlaces_41 rfl rfl ?_
          refine V_iconst C (nI 0) dX4_addPlaces_42 (by decide) ?_
          refine V_iload_n C dX4_addPlaces_43 rfl rfl ?_
          refine V_iconst C (-1) dX4_addPlaces_44 (by decide) ?_
          refine V_callV C [_, _, _] (ct_X4_add (by omega) (by omega) (by first | omega | (rw [addE_sz]; have := h8m (by assumption); omega))) cv_X4_add lk_X4_44 (in_19 (by omega)) rfl rfl ⟨Nat.le_of_ble_eq_true rfl, Nat.le_of_ble_eq_true rfl⟩ rfl rfl (Nat.le_of_ble_eq_true rfl) dX4_addPlaces_45 (fun r M' hr => ?_)
          obtain ⟨rfl, rfl⟩ := hr
          refine V_iincN (lv' := [(2, _), (0, _), (1, _)]) C dX4_addPlaces_48 rfl (b := 1) (by decide) (by decide) rfl ?_
          refine V_goto (tgt := 2) C dX4_addPlaces_51 (by decide) ?_
          refine V_lv [0, 1, 2] rfl ?_
          exact ih _ _ (by omega) (by omega) (by first | exact hI.step.1 h27 | exact hI.step.2 h27)
        · skip
          refine V_aload_n C dX4_addPlaces_30 rfl rfl ?_
          refine V_iconst C (nI 2) dX4_addPlaces_31 (by decide) ?_
          refine V_aload_n C dX4_addPlaces_32 rfl rfl ?_
          refine V_iload_n C dX4_addPlaces_33 rfl rfl ?_
          refine V_callV C [_] (ct_X0_first (by omega) hcy (by omega)) cv_X0_first lk_X4_63 (in_10 (by omega)) rfl rfl ⟨Nat.le_of_ble_eq_true rfl, Nat.le_of_ble_eq_true rfl⟩ rfl rfl (Nat.le_of_ble_eq_true rfl) dX4_addPlaces_34 (fun r M' hr => ?_)
          obtain ⟨rfl, rfl⟩ := hr
          rw [if_pos (by omega), show gN (sN X 23 c p (gN X 19 c 5)) 12 c p = gN M 12 c p by rw [gNN, if_neg (by omega), hfx]]
          refine V_iconst C (-1) dX4_addPlaces_37 (by decide) ?_
          refine V_callV C [_, _, _] (ct_X4_add (by omega) (by omega) (by omega)) cv_X4_add lk_X4_44 (in_19 (by omega)) rfl rfl ⟨Nat.le_of_ble_eq_true rfl, Nat.le_of_ble_eq_true rfl⟩ rfl rfl (Nat.le_of_ble_eq_true rfl) dX4_addPlaces_38 (fun r M' hr => ?_)
          obtain ⟨rfl, rfl⟩ := hr
          refine V_aload_n C dX4_addPlaces_41 rfl rfl ?_
          refine V_iconst C (nI 0) dX4_addPlaces_42 (by decide) ?_
          refine V_iload_n C dX4_addPlaces_43 rfl rfl ?_
          refine V_iconst C (-1) dX4_addPlaces_44 (by decide) ?_
          refine V_callV C [_, _, _] (ct_X4_add (by omega) (by omega) (by first | omega | (rw [addE_sz]; have := h8m (by assumption); omega))) cv_X4_add lk_X4_44 (in_19 (by omega)) rfl rfl ⟨Nat.le_of_ble_eq_true rfl, Nat.le_of_ble_eq_true rfl⟩ rfl rfl (Nat.le_of_ble_eq_true rfl) dX4_addPlaces_45 (fun r M' hr => ?_)
          obtain ⟨rfl, rfl⟩ := hr
          refine V_iincN (lv' := [(2, _), (0, _), (1, _)]) C dX4_addPlaces_48 rfl (b := 1) (by decide) (by decide) rfl ?_
          refine V_goto (tgt := 2) C dX4_addPlaces_51 (by decide) ?_
          refine V_lv [0, 1, 2] rfl ?_
          exact ih _ _ (by omega) (by omega) (by first | exact hI.step.1 h27 | exact hI.step.2 h27)
  refine V_lv [0, 1, 2] rfl ?_
  exact LP2 _ 0 M (Nat.lt_succ_self _) (Nat.zero_le _) ⟨Sm_rf, h0, rfl, rfl, fun _ q => absurd q (by omega), rfl, rfl, rfl⟩
