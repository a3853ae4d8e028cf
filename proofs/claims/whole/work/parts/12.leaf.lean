set_option maxRecDepth 20000 in
set_option maxHeartbeats 4000000 in
theorem ct_X10_within {l : Launch} {G : Gm} {M : Mem} {v lo hi : Int64} : Ct l G rX yX10_within (.code yX10_within cX10_within 6 (some .boolean) :: GW) rmX10_within [.long v, .long lo, .long hi] M (fun r M' => some (.int (nI (bN (lo ≤ v ∧ v ≤ hi)))) = r ∧ M = M') := by
  refine Ct_of (cc := cX10_within) (by decide) [(0, _), (2, _), (4, _)] rfl (Nat.le_of_ble_eq_true rfl) (fun pp ee ss mm aa bb mt cd C E => ?_)
  refine V_lload_n C dX10_within_0 rfl rfl ?_
  refine V_lload_n C dX10_within_1 rfl rfl ?_
  refine V_lcmp C dX10_within_2 ?_
  refine V_ifL_gt (tgt := 17) C dX10_within_3 (by decide) (fun h3 => ?_) (fun h3 => ?_)
  · skip
    refine V_iconst C (nI 0) dX10_within_17 (by decide) ?_
    refine V_zret C E dX10_within_18 (by first | decide | (unfold bN; split <;> omega)) ?_
    first | (rw [bN_t (by simp only [Int64.lt_iff_toInt_lt, Int64.le_iff_toInt_le] at *; omega)]; exact ⟨rfl, rfl⟩) | (rw [bN_f (by simp only [Int64.lt_iff_toInt_lt, Int64.le_iff_toInt_le] at *; omega)]; exact ⟨rfl, rfl⟩)
  · skip
    refine V_lload_n C dX10_within_6 rfl rfl ?_
    refine V_lload C dX10_within_7 rfl ?_
    refine V_lcmp C dX10_within_9 ?_
    refine V_ifL_gt (tgt := 17) C dX10_within_10 (by decide) (fun h10 => ?_) (fun h10 => ?_)
    · skip
      refine V_iconst C (nI 0) dX10_within_17 (by decide) ?_
      refine V_zret C E dX10_within_18 (by first | decide | (unfold bN; split <;> omega)) ?_
      first | (rw [bN_t (by simp only [Int64.lt_iff_toInt_lt, Int64.le_iff_toInt_le] at *; omega)]; exact ⟨rfl, rfl⟩) | (rw [bN_f (by simp only [Int64.lt_iff_toInt_lt, Int64.le_iff_toInt_le] at *; omega)]; exact ⟨rfl, rfl⟩)
    · skip
      refine V_iconst C (nI 1) dX10_within_13 (by decide) ?_
      refine V_goto (tgt := 18) C dX10_within_14 (by decide) ?_
      refine V_zret C E dX10_within_18 (by first | decide | (unfold bN; split <;> omega)) ?_
      first | (rw [bN_t (by simp only [Int64.lt_iff_toInt_lt, Int64.le_iff_toInt_le] at *; omega)]; exact ⟨rfl, rfl⟩) | (rw [bN_f (by simp only [Int64.lt_iff_toInt_lt, Int64.le_iff_toInt_le] at *; omega)]; exact ⟨rfl, rfl⟩)

set_option maxRecDepth 20000 in
set_option maxHeartbeats 4000000 in
theorem ct_X10_isRegister {l : Launch} {G : Gm} {M : Mem} {x : Int32} : Ct l G rX yX10_isRegister (.code yX10_isRegister cX10_isRegister 1 (some .boolean) :: GW) rmX10_isRegister [.int x] M (fun r M' => some (.int (nI (bN (lN 0 ≤ x.toInt64 ∧ x.toInt64 ≤ lN 3)))) = r ∧ M = M') := by
  refine Ct_of (cc := cX10_isRegister) (by decide) [(0, _)] rfl (Nat.le_of_ble_eq_true rfl) (fun pp ee ss mm aa bb mt cd C E => ?_)
  refine V_iload_n C dX10_isRegister_0 rfl rfl ?_
  refine V_i2l C dX10_isRegister_1 ?_
  refine V_lconst C (lN 0) dX10_isRegister_2 (by decide) ?_
  refine V_ldc2 C kL_X10_121 dX10_isRegister_3 ?_
  refine V_callS C [_, _, _] (ct_X10_within) cs_X10_within rfl lk_X10_48 ⟨Nat.le_of_ble_eq_true rfl, Nat.le_of_ble_eq_true rfl⟩ rfl rfl (Nat.le_of_ble_eq_true rfl) dX10_isRegister_6 (fun r M' hr => ?_)
  obtain ⟨rfl, rfl⟩ := hr
  refine V_zret C E dX10_isRegister_9 (bN_le _) ?_
  exact ⟨rfl, rfl⟩

set_option maxRecDepth 20000 in
set_option maxHeartbeats 4000000 in
theorem ct_X10_isPlace {l : Launch} {G : Gm} {M : Mem} {v : Int64} : Ct l G rX yX10_isPlace (.code yX10_isPlace cX10_isPlace 2 (some .boolean) :: GW) rmX10_isPlace [.long v] M (fun r M' => some (.int (nI (bN (lN 0 ≤ v ∧ v ≤ lN 40)))) = r ∧ M = M') := by
  refine Ct_of (cc := cX10_isPlace) (by decide) [(0, _)] rfl (Nat.le_of_ble_eq_true rfl) (fun pp ee ss mm aa bb mt cd C E => ?_)
  refine V_lload_n C dX10_isPlace_0 rfl rfl ?_
  refine V_lconst C (lN 0) dX10_isPlace_1 (by decide) ?_
  refine V_ldc2 C kL_X10_123 dX10_isPlace_2 ?_
  refine V_callS C [_, _, _] (ct_X10_within) cs_X10_within rfl lk_X10_48 ⟨Nat.le_of_ble_eq_true rfl, Nat.le_of_ble_eq_true rfl⟩ rfl rfl (Nat.le_of_ble_eq_true rfl) dX10_isPlace_5 (fun r M' hr => ?_)
  obtain ⟨rfl, rfl⟩ := hr
  refine V_zret C E dX10_isPlace_8 (bN_le _) ?_
  exact ⟨rfl, rfl⟩

set_option maxRecDepth 20000 in
set_option maxHeartbeats 4000000 in
theorem ct_X10_numberFits {l : Launch} {G : Gm} {M : Mem} {a : Nat} {v : Int64} (ha : a ≤ 18) : Ct l G rX yX10_numberFits (.code yX10_numberFits cX10_numberFits 3 (some .boolean) :: GW) rmX10_numberFits [.int (nI a), .long v] M (fun r M' => some (.int (nI (nfit a v))) = r ∧ M = M') := by
  refine Ct_of (cc := cX10_numberFits) (by decide) [(0, _), (1, _)] rfl (Nat.le_of_ble_eq_true rfl) (fun pp ee ss mm aa bb mt cd C E => ?_)
  refine V_iload_n C dX10_numberFits_0 rfl rfl ?_
  by_cases h1_6 : a = 6
  · refine V_tabIn (tgt := 68) C dX10_numberFits_1 (6) (by rw [h1_6]; decide) (by decide) (by decide) rfl (by decide) ?_
    subst h1_6
    refine V_lload_n C dX10_numberFits_68 rfl rfl ?_
    refine V_callS C [_] (ct_X10_isPlace) cs_X10_isPlace rfl lk_X10_66 ⟨Nat.le_of_ble_eq_true rfl, Nat.le_of_ble_eq_true rfl⟩ rfl rfl (Nat.le_of_ble_eq_true rfl) dX10_numberFits_69 (fun r M' hr => ?_)
    obtain ⟨rfl, rfl⟩ := hr
    refine V_zret C E dX10_numberFits_72 (by first | exact bN_le _ | exact Nat.le_refl 1) ?_
    exact ⟨by first | rfl | (simp [nfit]; done) | (unfold nfit; rw [if_neg (by omega), if_neg (by omega), if_neg (by omega), if_neg (by omega)]), rfl⟩
  by_cases h1_7 : a = 7
  · refine V_tabIn (tgt := 68) C dX10_numberFits_1 (7) (by rw [h1_7]; decide) (by decide) (by decide) rfl (by decide) ?_
    subst h1_7
    refine V_lload_n C dX10_numberFits_68 rfl rfl ?_
    refine V_callS C [_] (ct_X10_isPlace) cs_X10_isPlace rfl lk_X10_66 ⟨Nat.le_of_ble_eq_true rfl, Nat.le_of_ble_eq_true rfl⟩ rfl rfl (Nat.le_of_ble_eq_true rfl) dX10_numberFits_69 (fun r M' hr => ?_)
    obtain ⟨rfl, rfl⟩ := hr
    refine V_zret C E dX10_numberFits_72 (by first | exact bN_le _ | exact Nat.le_refl 1) ?_
    exact ⟨by first | rfl | (simp [nfit]; done) | (unfold nfit; rw [if_neg (by omega), if_neg (by omega), if_neg (by omega), if_neg (by omega)]), rfl⟩
  by_cases h1_8 : a = 8
  · refine V_tabIn (tgt := 73) C dX10_numberFits_1 (8) (by rw [h1_8]; decide) (by decide) (by decide) rfl (by decide) ?_
    subst h1_8
    refine V_lload_n C dX10_numberFits_73 rfl rfl ?_
    refine V_lconst C (lN 0) dX10_numberFits_74 (by decide) ?_
    refine V_ldc2 C kL_X10_125 dX10_numberFits_75 ?_
    refine V_callS C [_, _, _] (ct_X10_within) cs_X10_within rfl lk_X10_48 ⟨Nat.le_of_ble_eq_true rfl, Nat.le_of_ble_eq_true rfl⟩ rfl rfl (Nat.le_of_ble_eq_true rfl) dX10_numberFits_78 (fun r M' hr => ?_)
    obtain ⟨rfl, rfl⟩ := hr
    refine V_zret C E dX10_numberFits_81 (by first | exact bN_le _ | exact Nat.le_refl 1) ?_
    exact ⟨by first | rfl | (simp [nfit]; done) | (unfold nfit; rw [if_neg (by omega), if_neg (by omega), if_neg (by omega), if_neg (by omega)]), rfl⟩
  by_cases h1_11 : a = 11
  · refine V_tabIn (tgt := 73) C dX10_numberFits_1 (11) (by rw [h1_11]; decide) (by decide) (by decide) rfl (by decide) ?_
    subst h1_11
    refine V_lload_n C dX10_numberFits_73 rfl rfl ?_
    refine V_lconst C (lN 0) dX10_numberFits_74 (by decide) ?_
    refine V_ldc2 C kL_X10_125 dX10_numberFits_75 ?_
    refine V_callS C [_, _, _] (ct_X10_within) cs_X10_within rfl lk_X10_48 ⟨Nat.le_of_ble_eq_true rfl, Nat.le_of_ble_eq_true rfl⟩ rfl rfl (Nat.le_of_ble_eq_true rfl) dX10_numberFits_78 (fun r M' hr => ?_)
    obtain ⟨rfl, rfl⟩ := hr
    refine V_zret C E dX10_numberFits_81 (by first | exact bN_le _ | exact Nat.le_refl 1) ?_
    exact ⟨by first | rfl | (simp [nfit]; done) | (unfold nfit; rw [if_neg (by omega), if_neg (by omega), if_neg (by omega), if_neg (by omega)]), rfl⟩
  by_cases h1_13 : a = 13
  · refine V_tabIn (tgt := 82) C dX10_numberFits_1 (13) (by rw [h1_13]; decide) (by decide) (by decide) rfl (by decide) ?_
    subst h1_13
    refine V_lload_n C dX10_numberFits_82 rfl rfl ?_
    refine V_lconst C (lN 0) dX10_numberFits_83 (by decide) ?_
    refine V_ldc2 C kL_X10_127 dX10_numberFits_84 ?_
    refine V_callS C [_, _, _] (ct_X10_within) cs_X10_within rfl lk_X10_48 ⟨Nat.le_of_ble_eq_true rfl, Nat.le_of_ble_eq_true rfl⟩ rfl rfl (Nat.le_of_ble_eq_true rfl) dX10_numberFits_87 (fun r M' hr => ?_)
    obtain ⟨rfl, rfl⟩ := hr
    refine V_zret C E dX10_numberFits_90 (by first | exact bN_le _ | exact Nat.le_refl 1) ?_
    exact ⟨by first | rfl | (simp [nfit]; done) | (unfold nfit; rw [if_neg (by omega), if_neg (by omega), if_neg (by omega), if_neg (by omega)]), rfl⟩
  by_cases h1_17 : a = 17
  · refine V_tabIn (tgt := 91) C dX10_numberFits_1 (17) (by rw [h1_17]; decide) (by decide) (by decide) rfl (by decide) ?_
    subst h1_17
    refine V_lload_n C dX10_numberFits_91 rfl rfl ?_
    refine V_lconst C (lN 0) dX10_numberFits_92 (by decide) ?_
    refine V_ldc2 C kL_X10_106 dX10_numberFits_93 ?_
    refine V_callS C [_, _, _] (ct_X10_within) cs_X10_within rfl lk_X10_48 ⟨Nat.le_of_ble_eq_true rfl, Nat.le_of_ble_eq_true rfl⟩ rfl rfl (Nat.le_of_ble_eq_true rfl) dX10_numberFits_96 (fun r M' hr => ?_)
    obtain ⟨rfl, rfl⟩ := hr
    refine V_zret C E dX10_numberFits_99 (by first | exact bN_le _ | exact Nat.le_refl 1) ?_
    exact ⟨by first | rfl | (simp [nfit]; done) | (unfold nfit; rw [if_neg (by omega), if_neg (by omega), if_neg (by omega), if_neg (by omega)]), rfl⟩
  by_cases h1_18 : a = 18
  · refine V_tabIn (tgt := 91) C dX10_numberFits_1 (18) (by rw [h1_18]; decide) (by decide) (by decide) rfl (by decide) ?_
    subst h1_18
    refine V_lload_n C dX10_numberFits_91 rfl rfl ?_
    refine V_lconst C (lN 0) dX10_numberFits_92 (by decide) ?_
    refine V_ldc2 C kL_X10_106 dX10_numberFits_93 ?_
    refine V_callS C [_, _, _] (ct_X10_within) cs_X10_within rfl lk_X10_48 ⟨Nat.le_of_ble_eq_true rfl, Nat.le_of_ble_eq_true rfl⟩ rfl rfl (Nat.le_of_ble_eq_true rfl) dX10_numberFits_96 (fun r M' hr => ?_)
    obtain ⟨rfl, rfl⟩ := hr
    refine V_zret C E dX10_numberFits_99 (by first | exact bN_le _ | exact Nat.le_refl 1) ?_
    exact ⟨by first | rfl | (simp [nfit]; done) | (unfold nfit; rw [if_neg (by omega), if_neg (by omega), if_neg (by omega), if_neg (by omega)]), rfl⟩
  by_cases h1_9 : a = 9
  · refine V_tabIn (tgt := 100) C dX10_numberFits_1 (9) (by rw [h1_9]; decide) (by decide) (by decide) rfl (by decide) ?_
    subst h1_9
    refine V_iconst C (nI 1) dX10_numberFits_100 (by decide) ?_
    refine V_zret C E dX10_numberFits_101 (by first | exact bN_le _ | exact Nat.le_refl 1) ?_
    exact ⟨by first | rfl | (simp [nfit]; done) | (unfold nfit; rw [if_neg (by omega), if_neg (by omega), if_neg (by omega), if_neg (by omega)]), rfl⟩
  by_cases h1_10 : a = 10
  · refine V_tabIn (tgt := 100) C dX10_numberFits_1 (10) (by rw [h1_10]; decide) (by decide) (by decide) rfl (by decide) ?_
    subst h1_10
    refine V_iconst C (nI 1) dX10_numberFits_100 (by decide) ?_
    refine V_zret C E dX10_numberFits_101 (by first | exact bN_le _ | exact Nat.le_refl 1) ?_
    exact ⟨by first | rfl | (simp [nfit]; done) | (unfold nfit; rw [if_neg (by omega), if_neg (by omega), if_neg (by omega), if_neg (by omega)]), rfl⟩
  by_cases h1_12 : a = 12
  · refine V_tabIn (tgt := 100) C dX10_numberFits_1 (12) (by rw [h1_12]; decide) (by decide) (by decide) rfl (by decide) ?_
    subst h1_12
    refine V_iconst C (nI 1) dX10_numberFits_100 (by decide) ?_
    refine V_zret C E dX10_numberFits_101 (by first | exact bN_le _ | exact Nat.le_refl 1) ?_
    exact ⟨by first | rfl | (simp [nfit]; done) | (unfold nfit; rw [if_neg (by omega), if_neg (by omega), if_neg (by omega), if_neg (by omega)]), rfl⟩
  by_cases h1_14 : a = 14
  · refine V_tabIn (tgt := 100) C dX10_numberFits_1 (14) (by rw [h1_14]; decide) (by decide) (by decide) rfl (by decide) ?_
    subst h1_14
    refine V_iconst C (nI 1) dX10_numberFits_100 (by decide) ?_
    refine V_zret C E dX10_numberFits_101 (by first | exact bN_le _ | exact Nat.le_refl 1) ?_
    exact ⟨by first | rfl | (simp [nfit]; done) | (unfold nfit; rw [if_neg (by omega), if_neg (by omega), if_neg (by omega), if_neg (by omega)]), rfl⟩
  by_cases h1_15 : a = 15
  · refine V_tabIn (tgt := 100) C dX10_numberFits_1 (15) (by rw [h1_15]; decide) (by decide) (by decide) rfl (by decide) ?_
    subst h1_15
    refine V_iconst C (nI 1) dX10_numberFits_100 (by decide) ?_
    refine V_zret C E dX10_numberFits_101 (by first | exact bN_le _ | exact Nat.le_refl 1) ?_
    exact ⟨by first | rfl | (simp [nfit]; done) | (unfold nfit; rw [if_neg (by omega), if_neg (by omega), if_neg (by omega), if_neg (by omega)]), rfl⟩
  by_cases h1_16 : a = 16
  · refine V_tabIn (tgt := 100) C dX10_numberFits_1 (16) (by rw [h1_16]; decide) (by decide) (by decide) rfl (by decide) ?_
    subst h1_16
    refine V_iconst C (nI 1) dX10_numberFits_100 (by decide) ?_
    refine V_zret C E dX10_numberFits_101 (by first | exact bN_le _ | exact Nat.le_refl 1) ?_
    exact ⟨by first | rfl | (simp [nfit]; done) | (unfold nfit; rw [if_neg (by omega), if_neg (by omega), if_neg (by omega), if_neg (by omega)]), rfl⟩
  refine V_tabOut (tgt := 100) C dX10_numberFits_1 (by rw [nI_toInt (show a < 2 ^ 31 by omega)]; omega) (by decide) ?_
  refine V_iconst C (nI 1) dX10_numberFits_100 (by decide) ?_
  refine V_zret C E dX10_numberFits_101 (by first | exact bN_le _ | exact Nat.le_refl 1) ?_
  exact ⟨by first | rfl | (simp [nfit]; done) | (unfold nfit; rw [if_neg (by omega), if_neg (by omega), if_neg (by omega), if_neg (by omega)]), rfl⟩

set_option maxRecDepth 20000 in
set_option maxHeartbeats 4000000 in
theorem ct_X5_at {l : Launch} {G : Gm} {M : Mem} {x : Int32} (hn : gN M 1 0 1 ≤ 6) : Ct l G rX yX5_at (.code yX5_at cX5_at 2 (some (.object "StepMarks$Code")) :: GW) rmX5_at [.ref (ad G 1 0), .int x] M (fun r M' => (∃ c, c < gN M 1 0 1 ∧ x = nI c ∧ some (.ref (ad G 10 c)) = r ∧ M = M') ∨ (¬ isM (gN M 1 0 1) x ∧ some .null = r ∧ M = M')) := by
  refine Ct_of (cc := cX5_at) (by decide) [(0, _), (1, _)] rfl (Nat.le_of_ble_eq_true rfl) (fun pp ee ss mm aa bb mt cd C E => ?_)
  refine V_iload_n C dX5_at_0 rfl rfl ?_
  refine V_i2l C dX5_at_1 ?_
  refine V_lconst C (lN 0) dX5_at_2 (by decide) ?_
  refine V_aload_n C dX5_at_3 rfl rfl ?_
  refine gf_X5_17 C dX5_at_4 ?_
  refine V_iconst C (nI 1) dX5_at_7 (by decide) ?_
  refine V_isub C dX5_at_8 ?_
  refine V_i2l C dX5_at_9 ?_
  refine V_callSN C [_, _, _] (ct_X10_within) cs_X10_within lk_X5_25 ⟨Nat.le_of_ble_eq_true rfl, Nat.le_of_ble_eq_true rfl⟩ rfl rfl (Nat.le_of_ble_eq_true rfl) dX5_at_10 (fun r M' hr => ?_)
  obtain ⟨rfl, rfl⟩ := hr
  refine V_ifB_eq (tgt := 25) C dX5_at_13 (by decide) (fun h13 => ?_) (fun h13 => ?_)
  · skip
    refine V_null C dX5_at_25 ?_
    refine V_aret C E dX5_at_26 (Or.inl rfl) ?_
    first | exact Or.inl ⟨_, hc, rfl, rfl, rfl⟩ | exact Or.inr ⟨fun q => h13 ((wi_iff (by omega)).mpr q), rfl, rfl⟩
  · skip
    obtain ⟨c, hc, rfl⟩ := isM_of ((wi_iff (by omega)).mp h13) (by omega)
    refine V_aload_n C dX5_at_16 rfl rfl ?_
    refine gf_X5_11 C dX5_at_17 ?_
    refine V_iload_n C dX5_at_20 rfl rfl ?_
    refine ld_5 C (by omega) dX5_at_21 ?_
    refine V_goto (tgt := 26) C dX5_at_22 (by decide) ?_
    refine V_aret C E dX5_at_26 (Or.inr ⟨_, rfl⟩) ?_
    first | exact Or.inl ⟨_, hc, rfl, rfl, rfl⟩ | exact Or.inr ⟨fun q => h13 ((wi_iff (by omega)).mpr q), rfl, rfl⟩

set_option maxRecDepth 20000 in
set_option maxHeartbeats 4000000 in
theorem ct_X0_act {l : Launch} {G : Gm} {M : Mem} {c pl : Nat} (hc : c < 6) (hi : CI M c) (hp : pl < 2 ^ 31) : Ct l G rX yX0_act (.code yX0_act cX0_act 2 (some .int) :: GW) rmX0_act [.ref (ad G 10 c), .int (nI pl)] M (fun r M' => some (.int (nI (if pl < gN M 10 c 4 then gN M 11 c pl else 14))) = r ∧ M = M') := by
  have hs := hi.1
  have hh4 := hi.2.1
  refine Ct_of (cc := cX0_act) (by decide) [(0, _), (1, _)] rfl (Nat.le_of_ble_eq_true rfl) (fun pp ee ss mm aa bb mt cd C E => ?_)
  refine V_iconst C (nI 0) dX0_act_0 (by decide) ?_
  refine V_iload_n C dX0_act_1 rfl rfl ?_
  refine V_icmpN_gt (tgt := 22) C dX0_act_2 (by omega) (by omega) (by decide) (fun h2 => ?_) (fun h2 => ?_)
  · skip
    refine V_bipush C (nI 14) dX0_act_22 (by decide) ?_
    refine V_iret C E dX0_act_24 ?_
    first | (rw [if_pos (by omega)]; exact ⟨rfl, rfl⟩) | (rw [if_neg (by omega)]; exact ⟨rfl, rfl⟩) | omega
  · skip
    refine V_iload_n C dX0_act_5 rfl rfl ?_
    refine V_aload_n C dX0_act_6 rfl rfl ?_
    refine gf_X0_25 C (by omega) dX0_act_7 ?_
    refine V_icmpN_ge (tgt := 22) C dX0_act_10 (by omega) (by omega) (by decide) (fun h10 => ?_) (fun h10 => ?_)
    · skip
      refine V_bipush C (nI 14) dX0_act_22 (by decide) ?_
      refine V_iret C E dX0_act_24 ?_
      first | (rw [if_pos (by omega)]; exact ⟨rfl, rfl⟩) | (rw [if_neg (by omega)]; exact ⟨rfl, rfl⟩) | omega
    · skip
      refine V_aload_n C dX0_act_13 rfl rfl ?_
      refine gf_X0_9 C (by omega) dX0_act_14 ?_
      refine V_iload_n C dX0_act_17 rfl rfl ?_
      refine ld_11 C (by omega) (by omega) dX0_act_18 ?_
      refine V_goto (tgt := 24) C dX0_act_19 (by decide) ?_
      refine V_iret C E dX0_act_24 ?_
      first | (rw [if_pos (by omega)]; exact ⟨rfl, rfl⟩) | (rw [if_neg (by omega)]; exact ⟨rfl, rfl⟩) | omega

set_option maxRecDepth 20000 in
set_option maxHeartbeats 4000000 in
theorem ct_X0_first {l : Launch} {G : Gm} {M : Mem} {c pl : Nat} (hc : c < 6) (hi : CI M c) (hp : pl < 2 ^ 31) : Ct l G rX yX0_first (.code yX0_first cX0_first 2 (some .int) :: GW) rmX0_first [.ref (ad G 10 c), .int (nI pl)] M (fun r M' => some (.int (nI (if pl < gN M 10 c 4 then gN M 12 c pl else 0))) = r ∧ M = M') := by
  have hs := hi.1
  have hh4 := hi.2.1
  refine Ct_of (cc := cX0_first) (by decide) [(0, _), (1, _)] rfl (Nat.le_of_ble_eq_true rfl) (fun pp ee ss mm aa bb mt cd C E => ?_)
  refine V_iconst C (nI 0) dX0_first_0 (by decide) ?_
  refine V_iload_n C dX0_first_1 rfl rfl ?_
  refine V_icmpN_gt (tgt := 22) C dX0_first_2 (by omega) (by omega) (by decide) (fun h2 => ?_) (fun h2 => ?_)
  · skip
    refine V_iconst C (nI 0) dX0_first_22 (by decide) ?_
    refine V_iret C E dX0_first_23 ?_
    first | (rw [if_pos (by omega)]; exact ⟨rfl, rfl⟩) | (rw [if_neg (by omega)]; exact ⟨rfl, rfl⟩) | omega
  · skip
    refine V_iload_n C dX0_first_5 rfl rfl ?_
    refine V_aload_n C dX0_first_6 rfl rfl ?_
    refine gf_X0_25 C (by omega) dX0_first_7 ?_
    refine V_icmpN_ge (tgt := 22) C dX0_first_10 (by omega) (by omega) (by decide) (fun h10 => ?_) (fun h10 => ?_)
    · skip
      refine V_iconst C (nI 0) dX0_first_22 (by decide) ?_
      refine V_iret C E dX0_first_23 ?_
      first | (rw [if_pos (by omega)]; exact ⟨rfl, rfl⟩) | (rw [if_neg (by omega)]; exact ⟨rfl, rfl⟩) | omega
    · skip
      refine V_aload_n C dX0_first_13 rfl rfl ?_
      refine gf_X0_15 C (by omega) dX0_first_14 ?_
      refine V_iload_n C dX0_first_17 rfl rfl ?_
      refine ld_12 C (by omega) (by omega) dX0_first_18 ?_
      refine V_goto (tgt := 23) C dX0_first_19 (by decide) ?_
      refine V_iret C E dX0_first_23 ?_
      first | (rw [if_pos (by omega)]; exact ⟨rfl, rfl⟩) | (rw [if_neg (by omega)]; exact ⟨rfl, rfl⟩) | omega

set_option maxRecDepth 20000 in
set_option maxHeartbeats 4000000 in
theorem ct_X0_second {l : Launch} {G : Gm} {M : Mem} {c pl : Nat} (hc : c < 6) (hi : CI M c) (hp : pl < 2 ^ 31) : Ct l G rX yX0_second (.code yX0_second cX0_second 2 (some .int) :: GW) rmX0_second [.ref (ad G 10 c), .int (nI pl)] M (fun r M' => some (.int (nI (if pl < gN M 10 c 4 then gN M 13 c pl else 0))) = r ∧ M = M') := by
  have hs := hi.1
  have hh4 := hi.2.1
  refine Ct_of (cc := cX0_second) (by decide) [(0, _), (1, _)] rfl (Nat.le_of_ble_eq_true rfl) (fun pp ee ss mm aa bb mt cd C E => ?_)
  refine V_iconst C (nI 0) dX0_second_0 (by decide) ?_
  refine V_iload_n C dX0_second_1 rfl rfl ?_
  refine V_icmpN_gt (tgt := 22) C dX0_second_2 (by omega) (by omega) (by decide) (fun h2 => ?_) (fun h2 => ?_)
  · skip
    refine V_iconst C (nI 0) dX0_second_22 (by decide) ?_
    refine V_iret C E dX0_second_23 ?_
    first | (rw [if_pos (by omega)]; exact ⟨rfl, rfl⟩) | (rw [if_neg (by omega)]; exact ⟨rfl, rfl⟩) | omega
  · skip
    refine V_iload_n C dX0_second_5 rfl rfl ?_
    refine V_aload_n C dX0_second_6 rfl rfl ?_
    refine gf_X0_25 C (by omega) dX0_second_7 ?_
    refine V_icmpN_ge (tgt := 22) C dX0_second_10 (by omega) (by omega) (by decide) (fun h10 => ?_) (fun h10 => ?_)
    · skip
      refine V_iconst C (nI 0) dX0_second_22 (by decide) ?_
      refine V_iret C E dX0_second_23 ?_
      first | (rw [if_pos (by omega)]; exact ⟨rfl, rfl⟩) | (rw [if_neg (by omega)]; exact ⟨rfl, rfl⟩) | omega
    · skip
      refine V_aload_n C dX0_second_13 rfl rfl ?_
      refine gf_X0_18 C (by omega) dX0_second_14 ?_
      refine V_iload_n C dX0_second_17 rfl rfl ?_
      refine ld_13 C (by omega) (by omega) dX0_second_18 ?_
      refine V_goto (tgt := 23) C dX0_second_19 (by decide) ?_
      refine V_iret C E dX0_second_23 ?_
      first | (rw [if_pos (by omega)]; exact ⟨rfl, rfl⟩) | (rw [if_neg (by omega)]; exact ⟨rfl, rfl⟩) | omega

set_option maxRecDepth 20000 in
set_option maxHeartbeats 4000000 in
theorem ct_X0_number {l : Launch} {G : Gm} {M : Mem} {c pl : Nat} (hc : c < 6) (hi : CI M c) (hp : pl < 2 ^ 31) : Ct l G rX yX0_number (.code yX0_number cX0_number 2 (some .long) :: GW) rmX0_number [.ref (ad G 10 c), .int (nI pl)] M (fun r M' => some (.long (if pl < gN M 10 c 4 then gJ M 14 c pl else lN 0)) = r ∧ M = M') := by
  have hs := hi.1
  have hh4 := hi.2.1
  refine Ct_of (cc := cX0_number) (by decide) [(0, _), (1, _)] rfl (Nat.le_of_ble_eq_true rfl) (fun pp ee ss mm aa bb mt cd C E => ?_)
  refine V_iconst C (nI 0) dX0_number_0 (by decide) ?_
  refine V_iload_n C dX0_number_1 rfl rfl ?_
  refine V_icmpN_gt (tgt := 22) C dX0_number_2 (by omega) (by omega) (by decide) (fun h2 => ?_) (fun h2 => ?_)
  · skip
    refine V_lconst C (lN 0) dX0_number_22 (by decide) ?_
    refine V_lret C E dX0_number_23 ?_
    first | (rw [if_pos (by omega)]; exact ⟨rfl, rfl⟩) | (rw [if_neg (by omega)]; exact ⟨rfl, rfl⟩) | omega
  · skip
    refine V_iload_n C dX0_number_5 rfl rfl ?_
    refine V_aload_n C dX0_number_6 rfl rfl ?_
    refine gf_X0_25 C (by omega) dX0_number_7 ?_
    refine V_icmpN_ge (tgt := 22) C dX0_number_10 (by omega) (by omega) (by decide) (fun h10 => ?_) (fun h10 => ?_)
    · skip
      refine V_lconst C (lN 0) dX0_number_22 (by decide) ?_
      refine V_lret C E dX0_number_23 ?_
      first | (rw [if_pos (by omega)]; exact ⟨rfl, rfl⟩) | (rw [if_neg (by omega)]; exact ⟨rfl, rfl⟩) | omega
    · skip
      refine V_aload_n C dX0_number_13 rfl rfl ?_
      refine gf_X0_21 C (by omega) dX0_number_14 ?_
      refine V_iload_n C dX0_number_17 rfl rfl ?_
      refine ld_14 C (by omega) (by omega) dX0_number_18 ?_
      refine V_goto (tgt := 23) C dX0_number_19 (by decide) ?_
      refine V_lret C E dX0_number_23 ?_
      first | (rw [if_pos (by omega)]; exact ⟨rfl, rfl⟩) | (rw [if_neg (by omega)]; exact ⟨rfl, rfl⟩) | omega

set_option maxRecDepth 20000 in
set_option maxHeartbeats 4000000 in
theorem ct_X0_isJump {l : Launch} {G : Gm} {M : Mem} {c pl : Nat} (hc : c < 6) (hi : CI M c) (hp : pl < 2 ^ 31) : Ct l G rX yX0_isJump (.code yX0_isJump cX0_isJump 2 (some .boolean) :: GW) rmX0_isJump [.ref (ad G 10 c), .int (nI pl)] M (fun r M' => some (.int (nI (bN (pl < gN M 10 c 4 ∧ (gN M 11 c pl = 6 ∨ gN M 11 c pl = 7))))) = r ∧ M = M') := by
  have hs := hi.1
  have hh4 := hi.2.1
  refine Ct_of (cc := cX0_isJump) (by decide) [(0, _), (1, _)] rfl (Nat.le_of_ble_eq_true rfl) (fun pp ee ss mm aa bb mt cd C E => ?_)
  refine V_iconst C (nI 0) dX0_isJump_0 (by decide) ?_
  refine V_iload_n C dX0_isJump_1 rfl rfl ?_
  refine V_icmpN_gt (tgt := 39) C dX0_isJump_2 (by omega) (by omega) (by decide) (fun h2 => ?_) (fun h2 => ?_)
  · skip
    refine V_iconst C (nI 0) dX0_isJump_39 (by decide) ?_
    refine V_zret C E dX0_isJump_40 (by first | decide | (unfold bN; split <;> omega)) ?_
    first | (rw [bN_t (by omega)]; exact ⟨rfl, rfl⟩) | (rw [bN_f (by omega)]; exact ⟨rfl, rfl⟩)
  · skip
    refine V_iload_n C dX0_isJump_5 rfl rfl ?_
    refine V_aload_n C dX0_isJump_6 rfl rfl ?_
    refine gf_X0_25 C (by omega) dX0_isJump_7 ?_
    refine V_icmpN_ge (tgt := 39) C dX0_isJump_10 (by omega) (by omega) (by decide) (fun h10 => ?_) (fun h10 => ?_)
    · skip
      refine V_iconst C (nI 0) dX0_isJump_39 (by decide) ?_
      refine V_zret C E dX0_isJump_40 (by first | decide | (unfold bN; split <;> omega)) ?_
      first | (rw [bN_t (by omega)]; exact ⟨rfl, rfl⟩) | (rw [bN_f (by omega)]; exact ⟨rfl, rfl⟩)
    · skip
      have hac := (hi.2.2.1 pl (by omega)).1
      refine V_aload_n C dX0_isJump_13 rfl rfl ?_
      refine gf_X0_9 C (by omega) dX0_isJump_14 ?_
      refine V_iload_n C dX0_isJump_17 rfl rfl ?_
      refine ld_11 C (by omega) (by omega) dX0_isJump_18 ?_
      refine V_bipush C (nI 6) dX0_isJump_19 (by decide) ?_
      refine V_icmpN_eq (tgt := 35) C dX0_isJump_21 (by omega) (by omega) (by decide) (fun h21 => ?_) (fun h21 => ?_)
      · skip
        refine V_iconst C (nI 1) dX0_isJump_35 (by decide) ?_
        refine V_goto (tgt := 40) C dX0_isJump_36 (by decide) ?_
        refine V_zret C E dX0_isJump_40 (by first | decide | (unfold bN; split <;> omega)) ?_
        first | (rw [bN_t (by omega)]; exact ⟨rfl, rfl⟩) | (rw [bN_f (by omega)]; exact ⟨rfl, rfl⟩)
      · skip
        refine V_aload_n C dX0_isJump_24 rfl rfl ?_
        refine gf_X0_9 C (by omega) dX0_isJump_25 ?_
        refine V_iload_n C dX0_isJump_28 rfl rfl ?_
        refine ld_11 C (by omega) (by omega) dX0_isJump_29 ?_
        refine V_bipush C (nI 7) dX0_isJump_30 (by decide) ?_
        refine V_icmpN_ne (tgt := 39) C dX0_isJump_32 (by omega) (by omega) (by decide) (fun h32 => ?_) (fun h32 => ?_)
        · skip
          refine V_iconst C (nI 0) dX0_isJump_39 (by decide) ?_
          refine V_zret C E dX0_isJump_40 (by first | decide | (unfold bN; split <;> omega)) ?_
          first | (rw [bN_t (by omega)]; exact ⟨rfl, rfl⟩) | (rw [bN_f (by omega)]; exact ⟨rfl, rfl⟩)
        · skip
          refine V_iconst C (nI 1) dX0_isJump_35 (by decide) ?_
          refine V_goto (tgt := 40) C dX0_isJump_36 (by decide) ?_
          refine V_zret C E dX0_isJump_40 (by first | decide | (unfold bN; split <;> omega)) ?_
          first | (rw [bN_t (by omega)]; exact ⟨rfl, rfl⟩) | (rw [bN_f (by omega)]; exact ⟨rfl, rfl⟩)

set_option maxRecDepth 20000 in
set_option maxHeartbeats 4000000 in
theorem ct_X0_leadsBack {l : Launch} {G : Gm} {M : Mem} {c pl : Nat} (hc : c < 6) (hi : CI M c) (hp : pl < 2 ^ 31) : Ct l G rX yX0_leadsBack (.code yX0_leadsBack cX0_leadsBack 2 (some .boolean) :: GW) rmX0_leadsBack [.ref (ad G 10 c), .int (nI pl)] M (fun r M' => some (.int (nI (bN (pl < gN M 10 c 4 ∧ (gN M 11 c pl = 6 ∨ gN M 11 c pl = 7) ∧ gJ M 14 c pl ≤ lN pl)))) = r ∧ M = M') := by
  have hs := hi.1
  have hh4 := hi.2.1
  refine Ct_of (cc := cX0_leadsBack) (by decide) [(0, _), (1, _)] rfl (Nat.le_of_ble_eq_true rfl) (fun pp ee ss mm aa bb mt cd C E => ?_)
  refine V_aload_n C dX0_leadsBack_0 rfl rfl ?_
  refine V_iload_n C dX0_leadsBack_1 rfl rfl ?_
  refine V_callV C [_] (ct_X0_isJump (by omega) (by first | assumption | (simp only [CI_sN, CI_sI, CI_sJ, true_or, or_true, Nat.reduceLT]; assumption)) (by omega)) cv_X0_isJump lk_X0_55 (in_10 (by omega)) rfl rfl ⟨Nat.le_of_ble_eq_true rfl, Nat.le_of_ble_eq_true rfl⟩ rfl rfl (Nat.le_of_ble_eq_true rfl) dX0_leadsBack_2 (fun r M' hr => ?_)
  obtain ⟨rfl, rfl⟩ := hr
  refine V_ifB_eq (tgt := 23) C dX0_leadsBack_5 (by decide) (fun h5 => ?_) (fun h5 => ?_)
  · skip
    refine V_iconst C (nI 0) dX0_leadsBack_23 (by decide) ?_
    refine V_zret C E dX0_leadsBack_24 (by first | decide | (unfold bN; split <;> omega)) ?_
    first | (rw [bN_t ⟨h5.1, h5.2, Int64.not_lt.mp h16⟩]; exact ⟨rfl, rfl⟩) | (rw [bN_f (fun q => absurd q.2.2 (Int64.not_le.mpr h16))]; exact ⟨rfl, rfl⟩) | (rw [bN_f (fun q => h5 ⟨q.1, q.2.1⟩)]; exact ⟨rfl, rfl⟩)
  · skip
    have hpl := h5.1
    refine V_aload_n C dX0_leadsBack_8 rfl rfl ?_
    refine V_iload_n C dX0_leadsBack_9 rfl rfl ?_
    refine V_callV C [_] (ct_X0_number (by omega) (by first | assumption | (simp only [CI_sN, CI_sI, CI_sJ, true_or, or_true, Nat.reduceLT]; assumption)) (by omega)) cv_X0_number lk_X0_59 (in_10 (by omega)) rfl rfl ⟨Nat.le_of_ble_eq_true rfl, Nat.le_of_ble_eq_true rfl⟩ rfl rfl (Nat.le_of_ble_eq_true rfl) dX0_leadsBack_10 (fun r M' hr => ?_)
    obtain ⟨rfl, rfl⟩ := hr
    rw [if_pos hpl]
    refine V_iload_n C dX0_leadsBack_13 rfl rfl ?_
    refine V_i2lN C dX0_leadsBack_14 (by omega) ?_
    refine V_lcmp C dX0_leadsBack_15 ?_
    refine V_ifL_gt (tgt := 23) C dX0_leadsBack_16 (by decide) (fun h16 => ?_) (fun h16 => ?_)
    · skip
      refine V_iconst C (nI 0) dX0_leadsBack_23 (by decide) ?_
      refine V_zret C E dX0_leadsBack_24 (by first | decide | (unfold bN; split <;> omega)) ?_
      first | (rw [bN_t ⟨h5.1, h5.2, Int64.not_lt.mp h16⟩]; exact ⟨rfl, rfl⟩) | (rw [bN_f (fun q => absurd q.2.2 (Int64.not_le.mpr h16))]; exact ⟨rfl, rfl⟩) | (rw [bN_f (fun q => h5 ⟨q.1, q.2.1⟩)]; exact ⟨rfl, rfl⟩)
    · skip
      refine V_iconst C (nI 1) dX0_leadsBack_19 (by decide) ?_
      refine V_goto (tgt := 24) C dX0_leadsBack_20 (by decide) ?_
      refine V_zret C E dX0_leadsBack_24 (by first | decide | (unfold bN; split <;> omega)) ?_
      first | (rw [bN_t ⟨h5.1, h5.2, Int64.not_lt.mp h16⟩]; exact ⟨rfl, rfl⟩) | (rw [bN_f (fun q => absurd q.2.2 (Int64.not_le.mpr h16))]; exact ⟨rfl, rfl⟩) | (rw [bN_f (fun q => h5 ⟨q.1, q.2.1⟩)]; exact ⟨rfl, rfl⟩)

set_option maxRecDepth 20000 in
set_option maxHeartbeats 4000000 in
theorem ct_X0_jumpPlace {l : Launch} {G : Gm} {M : Mem} {c pl v : Nat} (hc : c < 6) (hi : CI M c) (hp : pl < gN M 10 c 4) (hv : gJ M 14 c pl = lN v) (hv2 : v ≤ 40) : Ct l G rX yX0_jumpPlace (.code yX0_jumpPlace cX0_jumpPlace 2 (some .int) :: GW) rmX0_jumpPlace [.ref (ad G 10 c), .int (nI pl)] M (fun r M' => some (.int (nI (min v (gN M 10 c 4)))) = r ∧ M = M') := by
  have hs := hi.1
  have hh4 := hi.2.1
  refine Ct_of (cc := cX0_jumpPlace) (by decide) [(0, _), (1, _)] rfl (Nat.le_of_ble_eq_true rfl) (fun pp ee ss mm aa bb mt cd C E => ?_)
  refine V_aload_n C dX0_jumpPlace_0 rfl rfl ?_
  refine V_iload_n C dX0_jumpPlace_1 rfl rfl ?_
  refine V_callV C [_] (ct_X0_number (by omega) (by first | assumption | (simp only [CI_sN, CI_sI, CI_sJ, true_or, or_true, Nat.reduceLT]; assumption)) (by omega)) cv_X0_number lk_X0_59 (in_10 (by omega)) rfl rfl ⟨Nat.le_of_ble_eq_true rfl, Nat.le_of_ble_eq_true rfl⟩ rfl rfl (Nat.le_of_ble_eq_true rfl) dX0_jumpPlace_2 (fun r M' hr => ?_)
  obtain ⟨rfl, rfl⟩ := hr
  rw [if_pos hp, hv]
  refine V_aload_n C dX0_jumpPlace_5 rfl rfl ?_
  refine gf_X0_25 C (by omega) dX0_jumpPlace_6 ?_
  refine V_i2lN C dX0_jumpPlace_9 (by omega) ?_
  refine V_mminL C lk_X0_63 ms_minL mi_Math mc_minL (by decide) (Nat.le_of_ble_eq_true rfl) dX0_jumpPlace_10 ?_
  rw [min_lN (by omega) (by omega)]
  refine V_l2iN C dX0_jumpPlace_13 rfl ?_
  refine V_iret C E dX0_jumpPlace_14 ?_
  exact ⟨rfl, rfl⟩

set_option maxRecDepth 20000 in
set_option maxHeartbeats 4000000 in
theorem ct_X0_handlerPlace {l : Launch} {G : Gm} {M : Mem} {c h : Nat} (hc : c < 6) (hi : CI M c) (hh : h < gN M 10 c 9) : Ct l G rX yX0_handlerPlace (.code yX0_handlerPlace cX0_handlerPlace 2 (some .int) :: GW) rmX0_handlerPlace [.ref (ad G 10 c), .int (nI h)] M (fun r M' => some (.int (nI (min (gN M 17 c h) (gN M 10 c 4)))) = r ∧ M = M') := by
  have hs := hi.1
  have hh4 := hi.2.1
  have ha := (hi.2.2.2.1 h (by omega)).2.2
  refine Ct_of (cc := cX0_handlerPlace) (by decide) [(0, _), (1, _)] rfl (Nat.le_of_ble_eq_true rfl) (fun pp ee ss mm aa bb mt cd C E => ?_)
  refine V_iconst C (nI 0) dX0_handlerPlace_0 (by decide) ?_
  refine V_iload_n C dX0_handlerPlace_1 rfl rfl ?_
  refine V_icmpN_gt (tgt := 29) C dX0_handlerPlace_2 (by omega) (by omega) (by decide) (fun h2 => ?_) (fun h2 => ?_)
  · skip
    refine V_aload_n C dX0_handlerPlace_29 rfl rfl ?_
    refine gf_X0_25 C (by omega) dX0_handlerPlace_30 ?_
    refine V_iret C E dX0_handlerPlace_33 ?_
    first | exact ⟨rfl, rfl⟩ | omega
  · skip
    refine V_iload_n C dX0_handlerPlace_5 rfl rfl ?_
    refine V_aload_n C dX0_handlerPlace_6 rfl rfl ?_
    refine gf_X0_41 C (by omega) dX0_handlerPlace_7 ?_
    refine V_icmpN_ge (tgt := 29) C dX0_handlerPlace_10 (by omega) (by omega) (by decide) (fun h10 => ?_) (fun h10 => ?_)
    · skip
      refine V_aload_n C dX0_handlerPlace_29 rfl rfl ?_
      refine gf_X0_25 C (by omega) dX0_handlerPlace_30 ?_
      refine V_iret C E dX0_handlerPlace_33 ?_
      first | exact ⟨rfl, rfl⟩ | omega
    · skip
      refine V_aload_n C dX0_handlerPlace_13 rfl rfl ?_
      refine gf_X0_35 C (by omega) dX0_handlerPlace_14 ?_
      refine V_iload_n C dX0_handlerPlace_17 rfl rfl ?_
      refine ld_17 C (by omega) (by omega) dX0_handlerPlace_18 ?_
      refine V_aload_n C dX0_handlerPlace_19 rfl rfl ?_
      refine gf_X0_25 C (by omega) dX0_handlerPlace_20 ?_
      refine V_mmin C lk_X0_69 ms_min mi_Math mc_min (by decide) (Nat.le_of_ble_eq_true rfl) dX0_handlerPlace_23 ?_
      rw [min_nI (by omega) (by omega)]
      refine V_goto (tgt := 33) C dX0_handlerPlace_26 (by decide) ?_
      refine V_iret C E dX0_handlerPlace_33 ?_
      first | exact ⟨rfl, rfl⟩ | omega

set_option maxRecDepth 20000 in
set_option maxHeartbeats 4000000 in
theorem ct_X0_handlerFor {l : Launch} {G : Gm} {M : Mem} {c pl kd : Nat} (hc : c < 6) (hi : CI M c) (hp : pl < 2 ^ 31) : Ct l G rX yX0_handlerFor (.code yX0_handlerFor cX0_handlerFor 4 (some .int) :: GW) rmX0_handlerFor [.ref (ad G 10 c), .int (nI pl), .int (nI kd)] M (fun r M' => M = M' ∧ ((∃ h, h < gN M 10 c 9 ∧ (gN M 15 c h ≤ pl ∧ pl < gN M 16 c h ∧ ¬ ((gI M 18 c h >>> (nI kd &&& 31)) &&& nI 1) = 0) ∧ (∀ h', h' < h → ¬ (gN M 15 c h' ≤ pl ∧ pl < gN M 16 c h' ∧ ¬ ((gI M 18 c h' >>> (nI kd &&& 31)) &&& nI 1) = 0)) ∧ some (.int (nI h)) = r) ∨ ((∀ h, h < gN M 10 c 9 → ¬ (gN M 15 c h ≤ pl ∧ pl < gN M 16 c h ∧ ¬ ((gI M 18 c h >>> (nI kd &&& 31)) &&& nI 1) = 0)) ∧ some (.int (-1)) = r))) := by
  have hs := hi.1
  have hh4 := hi.2.1
  refine Ct_of (cc := cX0_handlerFor) (by decide) [(0, _), (1, _), (2, _)] rfl (Nat.le_of_ble_eq_true rfl) (fun pp ee ss mm aa bb mt cd C E => ?_)
  refine V_iconst C (nI 0) dX0_handlerFor_0 (by decide) ?_
  refine V_istore_n (lv' := [(3, _), (0, _), (1, _), (2, _)]) C dX0_handlerFor_1 rfl (by decide) rfl ?_
  have LP2 : ∀ (fu : Nat) (h : Nat), gN M 10 c 9 - h < fu → h ≤ gN M 10 c 9 → (∀ h', h' < h → ¬ (gN M 15 c h' ≤ pl ∧ pl < gN M 16 c h' ∧ ¬ ((gI M 18 c h' >>> (nI kd &&& 31)) &&& nI 1) = 0)) → V pp l ee rmX0_handlerFor ss mm aa bb mt cd G rX 4 (MQ bb (QcG G rX (fun r M' => M = M' ∧ ((∃ h, h < gN M 10 c 9 ∧ (gN M 15 c h ≤ pl ∧ pl < gN M 16 c h ∧ ¬ ((gI M 18 c h >>> (nI kd &&& 31)) &&& nI 1) = 0) ∧ (∀ h', h' < h → ¬ (gN M 15 c h' ≤ pl ∧ pl < gN M 16 c h' ∧ ¬ ((gI M 18 c h' >>> (nI kd &&& 31)) &&& nI 1) = 0)) ∧ some (.int (nI h)) = r) ∨ ((∀ h, h < gN M 10 c 9 → ¬ (gN M 15 c h ≤ pl ∧ pl < gN M 16 c h ∧ ¬ ((gI M 18 c h >>> (nI kd &&& 31)) &&& nI 1) = 0)) ∧ some (.int (-1)) = r))) (AA G rX ss.heap.size)) aa ss 0 0 (AA G rX ss.heap.size)) M 2 [(3, .int (nI h)), (0, .ref (ad G 10 c)), (1, .int (nI pl)), (2, .int (nI kd))] [] := by
    intro fu
    induction fu with
    | zero => intros; omega
    | succ fu ih =>
      intro h hf hle hno
      refine V_iload_n C dX0_handlerFor_2 rfl rfl ?_
      refine V_aload_n C dX0_handlerFor_3 rfl rfl ?_
      refine gf_X0_41 C (by omega) dX0_handlerFor_4 ?_
      refine V_icmpN_ge (tgt := 51) C dX0_handlerFor_7 (by omega) (by omega) (by decide) (fun h7 => ?_) (fun h7 => ?_)
      · skip
        refine V_iconst C (-1) dX0_handlerFor_51 (by decide) ?_
        refine V_iret C E dX0_handlerFor_52 ?_
        exact ⟨rfl, Or.inr ⟨fun h2 q => hno h2 (by omega), rfl⟩⟩
      · skip
        have hb := hi.2.2.2.1 h (by omega)
        refine V_aload_n C dX0_handlerFor_10 rfl rfl ?_
        refine gf_X0_29 C (by omega) dX0_handlerFor_11 ?_
        refine V_iload_n C dX0_handlerFor_14 rfl rfl ?_
        refine ld_15 C (by omega) (by omega) dX0_handlerFor_15 ?_
        refine V_iload_n C dX0_handlerFor_16 rfl rfl ?_
        refine V_icmpN_gt (tgt := 45) C dX0_handlerFor_17 (by omega) (by omega) (by decide) (fun h17 => ?_) (fun h17 => ?_)
        · skip
          refine V_iincN (lv' := [(3, _), (0, _), (1, _), (2, _)]) C dX0_handlerFor_45 rfl (b := 1) (by decide) (by decide) rfl ?_
          refine V_goto (tgt := 2) C dX0_handlerFor_48 (by decide) ?_
          refine V_lv [0, 1, 2, 3] rfl ?_
          exact ih _ (by omega) (by omega) (lt_s hno (by first | omega | exact fun q => q.2.2 h40))
        · skip
          refine V_iload_n C dX0_handlerFor_20 rfl rfl ?_
          refine V_aload_n C dX0_handlerFor_21 rfl rfl ?_
          refine gf_X0_32 C (by omega) dX0_handlerFor_22 ?_
          refine V_iload_n C dX0_handlerFor_25 rfl rfl ?_
          refine ld_16 C (by omega) (by omega) dX0_handlerFor_26 ?_
          refine V_icmpN_ge (tgt := 45) C dX0_handlerFor_27 (by omega) (by omega) (by decide) (fun h27 => ?_) (fun h27 => ?_)
          · skip
            refine V_iincN (lv' := [(3, _), (0, _), (1, _), (2, _)]) C dX0_handlerFor_45 rfl (b := 1) (by decide) (by decide) rfl ?_
            refine V_goto (tgt := 2) C dX0_handlerFor_48 (by decide) ?_
            refine V_lv [0, 1, 2, 3] rfl ?_
            exact ih _ (by omega) (by omega) (lt_s hno (by first | omega | exact fun q => q.2.2 h40))
          · skip
            refine V_aload_n C dX0_handlerFor_30 rfl rfl ?_
            refine gf_X0_38 C (by omega) dX0_handlerFor_31 ?_
            refine V_iload_n C dX0_handlerFor_34 rfl rfl ?_
            refine ld_18 C (by omega) (by omega) dX0_handlerFor_35 ?_
            refine V_iload_n C dX0_handlerFor_36 rfl rfl ?_
            refine V_ishr C dX0_handlerFor_37 ?_
            refine V_iconst C (nI 1) dX0_handlerFor_38 (by decide) ?_
            refine V_iand C dX0_handlerFor_39 ?_
            refine V_if_eq (tgt := 45) C dX0_handlerFor_40 (by decide) (fun h40 => ?_) (fun h40 => ?_)
            · skip
              refine V_iincN (lv' := [(3, _), (0, _), (1, _), (2, _)]) C dX0_handlerFor_45 rfl (b := 1) (by decide) (by decide) rfl ?_
              refine V_goto (tgt := 2) C dX0_handlerFor_48 (by decide) ?_
              refine V_lv [0, 1, 2, 3] rfl ?_
              exact ih _ (by omega) (by omega) (lt_s hno (by first | omega | exact fun q => q.2.2 h40))
            · skip
              refine V_iload_n C dX0_handlerFor_43 rfl rfl ?_
              refine V_iret C E dX0_handlerFor_44 ?_
              exact ⟨rfl, Or.inl ⟨h, by omega, ⟨by omega, by omega, h40⟩, hno, rfl⟩⟩
  refine V_lv [0, 1, 2, 3] rfl ?_
  exact LP2 _ 0 (Nat.lt_succ_self _) (Nat.zero_le _) (fun _ q => absurd q (by omega))

set_option maxRecDepth 20000 in
set_option maxHeartbeats 4000000 in
theorem ct_X0_entriesNeeded {l : Launch} {G : Gm} {M : Mem} {c : Nat} (hc : c < 6) (hi : CI M c) : Ct l G rX yX0_entriesNeeded (.code yX0_entriesNeeded cX0_entriesNeeded 3 (some .int) :: GW) rmX0_entriesNeeded [.ref (ad G 10 c)] M (fun r M' => some (.int (nI (tot (gN M 11 c) (gJ M 14 c) (gN M 10 c 4) (gN M 10 c 9)))) = r ∧ M = M') := by
  have hs := hi.1
  have hh4 := hi.2.1
  refine Ct_of (cc := cX0_entriesNeeded) (by decide) [(0, _)] rfl (Nat.le_of_ble_eq_true rfl) (fun pp ee ss mm aa bb mt cd C E => ?_)
  refine V_iconst C (nI 2) dX0_entriesNeeded_0 (by decide) ?_
  refine V_aload_n C dX0_entriesNeeded_1 rfl rfl ?_
  refine gf_X0_25 C (by omega) dX0_entriesNeeded_2 ?_
  refine V_iaddN C dX0_entriesNeeded_5 ?_
  refine V_iconst C (nI 2) dX0_entriesNeeded_6 (by decide) ?_
  refine V_aload_n C dX0_entriesNeeded_7 rfl rfl ?_
  refine gf_X0_41 C (by omega) dX0_entriesNeeded_8 ?_
  refine V_imulN C dX0_entriesNeeded_11 ?_
  refine V_iaddN C dX0_entriesNeeded_12 ?_
  refine V_istore_n (lv' := [(1, _), (0, _)]) C dX0_entriesNeeded_13 rfl (by decide) rfl ?_
  refine V_iconst C (nI 0) dX0_entriesNeeded_14 (by decide) ?_
  refine V_istore_n (lv' := [(2, _), (1, _), (0, _)]) C dX0_entriesNeeded_15 rfl (by decide) rfl ?_
  have LP16 : ∀ (fu : Nat) (a k : Nat), gN M 10 c 4 - k < fu → k ≤ gN M 10 c 4 → a = 2 + gN M 10 c 4 + 2 * gN M 10 c 9 + need (gN M 11 c) (gJ M 14 c) k → V pp l ee rmX0_entriesNeeded ss mm aa bb mt cd G rX 3 (MQ bb (QcG G rX (fun r M' => some (.int (nI (tot (gN M 11 c) (gJ M 14 c) (gN M 10 c 4) (gN M 10 c 9)))) = r ∧ M = M') (AA G rX ss.heap.size)) aa ss 0 0 (AA G rX ss.heap.size)) M 16 [(2, .int (nI k)), (1, .int (nI a)), (0, .ref (ad G 10 c))] [] := by
    intro fu
    induction fu with
    | zero => intros; omega
    | succ fu ih =>
      intro a k hf hle ha
      refine V_iload_n C dX0_entriesNeeded_16 rfl rfl ?_
      refine V_aload_n C dX0_entriesNeeded_17 rfl rfl ?_
      refine gf_X0_25 C (by omega) dX0_entriesNeeded_18 ?_
      refine V_icmpN_ge (tgt := 55) C dX0_entriesNeeded_21 (by omega) (by omega) (by decide) (fun h21 => ?_) (fun h21 => ?_)
      · skip
        have hk : k = gN M 10 c 4 := by omega
        subst ha
        refine V_iload_n C dX0_entriesNeeded_55 rfl rfl ?_
        refine V_iret C E dX0_entriesNeeded_56 ?_
        exact ⟨by rw [tot, hk], rfl⟩
      · skip
        have hac := (hi.2.2.1 k (by omega)).1
        refine V_aload_n C dX0_entriesNeeded_24 rfl rfl ?_
        refine gf_X0_9 C (by omega) dX0_entriesNeeded_25 ?_
        refine V_iload_n C dX0_entriesNeeded_28 rfl rfl ?_
        refine ld_11 C (by omega) (by omega) dX0_entriesNeeded_29 ?_
        refine V_bipush C (nI 8) dX0_entriesNeeded_30 (by decide) ?_
        refine V_icmpN_ne (tgt := 38) C dX0_entriesNeeded_32 (by omega) (by omega) (by decide) (fun h32 => ?_) (fun h32 => ?_)
        · skip
          refine V_aload_n C dX0_entriesNeeded_38 rfl rfl ?_
          refine V_iload_n C dX0_entriesNeeded_39 rfl rfl ?_
          refine V_callV C [_] (ct_X0_leadsBack (by omega) (by first | assumption | (simp only [CI_sN, CI_sI, CI_sJ, true_or, or_true, Nat.reduceLT]; assumption)) (by omega)) cv_X0_leadsBack lk_X0_72 (in_10 (by omega)) rfl rfl ⟨Nat.le_of_ble_eq_true rfl, Nat.le_of_ble_eq_true rfl⟩ rfl rfl (Nat.le_of_ble_eq_true rfl) dX0_entriesNeeded_40 (fun r M' hr => ?_)
          obtain ⟨rfl, rfl⟩ := hr
          refine V_ifB_eq (tgt := 49) C dX0_entriesNeeded_43 (by decide) (fun h43 => ?_) (fun h43 => ?_)
          · skip
            refine V_iincN (lv' := [(2, _), (1, _), (0, _)]) C dX0_entriesNeeded_49 rfl (b := 1) (by decide) (by decide) rfl ?_
            refine V_goto (tgt := 16) C dX0_entriesNeeded_52 (by decide) ?_
            refine V_lv [0, 1, 2] rfl ?_
            exact ih _ _ (by omega) (by omega) (by rw [ha]; show _ = 2 + gN M 10 c 4 + 2 * gN M 10 c 9 + (need (gN M 11 c) (gJ M 14 c) k + mk1 (gN M 11 c) k + 2 * bk1 (gN M 11 c) (gJ M 14 c) k); simp only [mk1, bk1]; (first | rw [if_pos (by omega), if_pos h43.2] | rw [if_pos (by omega), if_neg (fun q => h43 ⟨by omega, q⟩)] | rw [if_neg (by omega), if_pos h43.2] | rw [if_neg (by omega), if_neg (fun q => h43 ⟨by omega, q⟩)]) <;> omega)
          · skip
            refine V_iincN (lv' := [(1, _), (2, _), (0, _)]) C dX0_entriesNeeded_46 rfl (b := 2) (by decide) (by decide) rfl ?_
            refine V_iincN (lv' := [(2, _), (1, _), (0, _)]) C dX0_entriesNeeded_49 rfl (b := 1) (by decide) (by decide) rfl ?_
            refine V_goto (tgt := 16) C dX0_entriesNeeded_52 (by decide) ?_
            refine V_lv [0, 1, 2] rfl ?_
            exact ih _ _ (by omega) (by omega) (by rw [ha]; show _ = 2 + gN M 10 c 4 + 2 * gN M 10 c 9 + (need (gN M 11 c) (gJ M 14 c) k + mk1 (gN M 11 c) k + 2 * bk1 (gN M 11 c) (gJ M 14 c) k); simp only [mk1, bk1]; (first | rw [if_pos (by omega), if_pos h43.2] | rw [if_pos (by omega), if_neg (fun q => h43 ⟨by omega, q⟩)] | rw [if_neg (by omega), if_pos h43.2] | rw [if_neg (by omega), if_neg (fun q => h43 ⟨by omega, q⟩)]) <;> omega)
        · skip
          refine V_iincN (lv' := [(1, _), (2, _), (0, _)]) C dX0_entriesNeeded_35 rfl (b := 1) (by decide) (by decide) rfl ?_
          refine V_aload_n C dX0_entriesNeeded_38 rfl rfl ?_
          refine V_iload_n C dX0_entriesNeeded_39 rfl rfl ?_
          refine V_callV C [_] (ct_X0_leadsBack (by omega) (by first | assumption | (simp only [CI_sN, CI_sI, CI_sJ, true_or, or_true, Nat.reduceLT]; assumption)) (by omega)) cv_X0_leadsBack lk_X0_72 (in_10 (by omega)) rfl rfl ⟨Nat.le_of_ble_eq_true rfl, Nat.le_of_ble_eq_true rfl⟩ rfl rfl (Nat.le_of_ble_eq_true rfl) dX0_entriesNeeded_40 (fun r M' hr => ?_)
          obtain ⟨rfl, rfl⟩ := hr
          refine V_ifB_eq (tgt := 49) C dX0_entriesNeeded_43 (by decide) (fun h43 => ?_) (fun h43 => ?_)
          · skip
            refine V_iincN (lv' := [(2, _), (1, _), (0, _)]) C dX0_entriesNeeded_49 rfl (b := 1) (by decide) (by decide) rfl ?_
            refine V_goto (tgt := 16) C dX0_entriesNeeded_52 (by decide) ?_
            refine V_lv [0, 1, 2] rfl ?_
            exact ih _ _ (by omega) (by omega) (by rw [ha]; show _ = 2 + gN M 10 c 4 + 2 * gN M 10 c 9 + (need (gN M 11 c) (gJ M 14 c) k + mk1 (gN M 11 c) k + 2 * bk1 (gN M 11 c) (gJ M 14 c) k); simp only [mk1, bk1]; (first | rw [if_pos (by omega), if_pos h43.2] | rw [if_pos (by omega), if_neg (fun q => h43 ⟨by omega, q⟩)] | rw [if_neg (by omega), if_pos h43.2] | rw [if_neg (by omega), if_neg (fun q => h43 ⟨by omega, q⟩)]) <;> omega)
          · skip
            refine V_iincN (lv' := [(1, _), (2, _), (0, _)]) C dX0_entriesNeeded_46 rfl (b := 2) (by decide) (by decide) rfl ?_
            refine V_iincN (lv' := [(2, _), (1, _), (0, _)]) C dX0_entriesNeeded_49 rfl (b := 1) (by decide) (by decide) rfl ?_
            refine V_goto (tgt := 16) C dX0_entriesNeeded_52 (by decide) ?_
            refine V_lv [0, 1, 2] rfl ?_
            exact ih _ _ (by omega) (by omega) (by rw [ha]; show _ = 2 + gN M 10 c 4 + 2 * gN M 10 c 9 + (need (gN M 11 c) (gJ M 14 c) k + mk1 (gN M 11 c) k + 2 * bk1 (gN M 11 c) (gJ M 14 c) k); simp only [mk1, bk1]; (first | rw [if_pos (by omega), if_pos h43.2] | rw [if_pos (by omega), if_neg (fun q => h43 ⟨by omega, q⟩)] | rw [if_neg (by omega), if_pos h43.2] | rw [if_neg (by omega), if_neg (fun q => h43 ⟨by omega, q⟩)]) <;> omega)
  refine V_lv [0, 1, 2] rfl ?_
  exact LP16 _ _ 0 (Nat.lt_succ_self _) (Nat.zero_le _) rfl

set_option maxRecDepth 20000 in
set_option maxHeartbeats 4000000 in
theorem ct_X4_sort {l : Launch} {G : Gm} {M : Mem} {c : Nat} {x : Int32} (hc : c < 6) (hs : gN M 19 c 5 ≤ 70) : Ct l G rX yX4_sort (.code yX4_sort cX4_sort 2 (some .int) :: GW) rmX4_sort [.ref (ad G 19 c), .int x] M (fun r M' => M = M' ∧ ((∃ j, j < gN M 19 c 5 ∧ x = nI j ∧ some (.int (nI (gN M 20 c j))) = r) ∨ (¬ isM (gN M 19 c 5) x ∧ some (.int (-1)) = r))) := by
  refine Ct_of (cc := cX4_sort) (by decide) [(0, _), (1, _)] rfl (Nat.le_of_ble_eq_true rfl) (fun pp ee ss mm aa bb mt cd C E => ?_)
  refine V_iconst C (nI 0) dX4_sort_0 (by decide) ?_
  refine V_iload_n C dX4_sort_1 rfl rfl ?_
  refine V_icmp_gt (tgt := 22) C dX4_sort_2 (by decide) (fun h2 => ?_) (fun h2 => ?_)
  · skip
    rw [nI_0, Int32.lt_iff_toInt_lt, Int32.toInt_zero] at h2
    refine V_iconst C (-1) dX4_sort_22 (by decide) ?_
    refine V_iret C E dX4_sort_23 ?_
    first | exact ⟨rfl, Or.inl ⟨j, hj, rfl, rfl⟩⟩ | exact ⟨rfl, Or.inr ⟨fun q => by have := q.1; have := q.2; omega, rfl⟩⟩
  · skip
    rw [nI_0, Int32.lt_iff_toInt_lt, Int32.toInt_zero] at h2
    refine V_iload_n C dX4_sort_5 rfl rfl ?_
    refine V_aload_n C dX4_sort_6 rfl rfl ?_
    refine gf_X4_27 C (by omega) dX4_sort_7 ?_
    refine V_icmp_ge (tgt := 22) C dX4_sort_10 (by decide) (fun h10 => ?_) (fun h10 => ?_)
    · skip
      rw [Int32.le_iff_toInt_le, nI_toInt (by omega)] at h10
      refine V_iconst C (-1) dX4_sort_22 (by decide) ?_
      refine V_iret C E dX4_sort_23 ?_
      first | exact ⟨rfl, Or.inl ⟨j, hj, rfl, rfl⟩⟩ | exact ⟨rfl, Or.inr ⟨fun q => by have := q.1; have := q.2; omega, rfl⟩⟩
    · skip
      rw [Int32.le_iff_toInt_le, nI_toInt (by omega)] at h10
      obtain ⟨j, hj, rfl⟩ := isM_of (n := gN M 19 c 5) (x := x) ⟨by omega, by omega⟩ (by omega)
      refine V_aload_n C dX4_sort_13 rfl rfl ?_
      refine gf_X4_9 C (by omega) dX4_sort_14 ?_
      refine V_iload_n C dX4_sort_17 rfl rfl ?_
      refine ld_20 C (by omega) (by omega) dX4_sort_18 ?_
      refine V_goto (tgt := 23) C dX4_sort_19 (by decide) ?_
      refine V_iret C E dX4_sort_23 ?_
      first | exact ⟨rfl, Or.inl ⟨j, hj, rfl, rfl⟩⟩ | exact ⟨rfl, Or.inr ⟨fun q => by have := q.1; have := q.2; omega, rfl⟩⟩

set_option maxRecDepth 20000 in
set_option maxHeartbeats 4000000 in
theorem ct_X4_sortN {l : Launch} {G : Gm} {M : Mem} {c k : Nat} (hc : c < 6) (hs : gN M 19 c 5 ≤ 70) (hk : k < gN M 19 c 5) : Ct l G rX yX4_sort (.code yX4_sort cX4_sort 2 (some .int) :: GW) rmX4_sort [.ref (ad G 19 c), .int (nI k)] M (fun r M' => some (.int (nI (gN M 20 c k))) = r ∧ M = M') := by
  refine Ct_of (cc := cX4_sort) (by decide) [(0, _), (1, _)] rfl (Nat.le_of_ble_eq_true rfl) (fun pp ee ss mm aa bb mt cd C E => ?_)
  refine V_iconst C (nI 0) dX4_sort_0 (by decide) ?_
  refine V_iload_n C dX4_sort_1 rfl rfl ?_
  refine V_icmpN_gt (tgt := 22) C dX4_sort_2 (by omega) (by omega) (by decide) (fun h2 => ?_) (fun h2 => ?_)
  · skip
    refine V_iconst C (-1) dX4_sort_22 (by decide) ?_
    refine V_iret C E dX4_sort_23 ?_
    first | exact ⟨rfl, rfl⟩ | omega
  · skip
    refine V_iload_n C dX4_sort_5 rfl rfl ?_
    refine V_aload_n C dX4_sort_6 rfl rfl ?_
    refine gf_X4_27 C (by omega) dX4_sort_7 ?_
    refine V_icmpN_ge (tgt := 22) C dX4_sort_10 (by omega) (by omega) (by decide) (fun h10 => ?_) (fun h10 => ?_)
    · skip
      refine V_iconst C (-1) dX4_sort_22 (by decide) ?_
      refine V_iret C E dX4_sort_23 ?_
      first | exact ⟨rfl, rfl⟩ | omega
    · skip
      refine V_aload_n C dX4_sort_13 rfl rfl ?_
      refine gf_X4_9 C (by omega) dX4_sort_14 ?_
      refine V_iload_n C dX4_sort_17 rfl rfl ?_
      refine ld_20 C (by omega) (by omega) dX4_sort_18 ?_
      refine V_goto (tgt := 23) C dX4_sort_19 (by decide) ?_
      refine V_iret C E dX4_sort_23 ?_
      first | exact ⟨rfl, rfl⟩ | omega

set_option maxRecDepth 20000 in
set_option maxHeartbeats 4000000 in
theorem ct_X4_number {l : Launch} {G : Gm} {M : Mem} {c : Nat} {x : Int32} (hc : c < 6) (hs : gN M 19 c 5 ≤ 70) : Ct l G rX yX4_number (.code yX4_number cX4_number 2 (some .int) :: GW) rmX4_number [.ref (ad G 19 c), .int x] M (fun r M' => M = M' ∧ ((∃ j, j < gN M 19 c 5 ∧ x = nI j ∧ some (.int (nI (gN M 21 c j))) = r) ∨ (¬ isM (gN M 19 c 5) x ∧ some (.int (-1)) = r))) := by
  refine Ct_of (cc := cX4_number) (by decide) [(0, _), (1, _)] rfl (Nat.le_of_ble_eq_true rfl) (fun pp ee ss mm aa bb mt cd C E => ?_)
  refine V_iconst C (nI 0) dX4_number_0 (by decide) ?_
  refine V_iload_n C dX4_number_1 rfl rfl ?_
  refine V_icmp_gt (tgt := 22) C dX4_number_2 (by decide) (fun h2 => ?_) (fun h2 => ?_)
  · skip
    rw [nI_0, Int32.lt_iff_toInt_lt, Int32.toInt_zero] at h2
    refine V_iconst C (-1) dX4_number_22 (by decide) ?_
    refine V_iret C E dX4_number_23 ?_
    first | exact ⟨rfl, Or.inl ⟨j, hj, rfl, rfl⟩⟩ | exact ⟨rfl, Or.inr ⟨fun q => by have := q.1; have := q.2; omega, rfl⟩⟩
  · skip
    rw [nI_0, Int32.lt_iff_toInt_lt, Int32.toInt_zero] at h2
    refine V_iload_n C dX4_number_5 rfl rfl ?_
    refine V_aload_n C dX4_number_6 rfl rfl ?_
    refine gf_X4_27 C (by omega) dX4_number_7 ?_
    refine V_icmp_ge (tgt := 22) C dX4_number_10 (by decide) (fun h10 => ?_) (fun h10 => ?_)
    · skip
      rw [Int32.le_iff_toInt_le, nI_toInt (by omega)] at h10
      refine V_iconst C (-1) dX4_number_22 (by decide) ?_
      refine V_iret C E dX4_number_23 ?_
      first | exact ⟨rfl, Or.inl ⟨j, hj, rfl, rfl⟩⟩ | exact ⟨rfl, Or.inr ⟨fun q => by have := q.1; have := q.2; omega, rfl⟩⟩
    · skip
      rw [Int32.le_iff_toInt_le, nI_toInt (by omega)] at h10
      obtain ⟨j, hj, rfl⟩ := isM_of (n := gN M 19 c 5) (x := x) ⟨by omega, by omega⟩ (by omega)
      refine V_aload_n C dX4_number_13 rfl rfl ?_
      refine gf_X4_15 C (by omega) dX4_number_14 ?_
      refine V_iload_n C dX4_number_17 rfl rfl ?_
      refine ld_21 C (by omega) (by omega) dX4_number_18 ?_
      refine V_goto (tgt := 23) C dX4_number_19 (by decide) ?_
      refine V_iret C E dX4_number_23 ?_
      first | exact ⟨rfl, Or.inl ⟨j, hj, rfl, rfl⟩⟩ | exact ⟨rfl, Or.inr ⟨fun q => by have := q.1; have := q.2; omega, rfl⟩⟩

set_option maxRecDepth 20000 in
set_option maxHeartbeats 4000000 in
theorem ct_X4_numberN {l : Launch} {G : Gm} {M : Mem} {c k : Nat} (hc : c < 6) (hs : gN M 19 c 5 ≤ 70) (hk : k < gN M 19 c 5) : Ct l G rX yX4_number (.code yX4_number cX4_number 2 (some .int) :: GW) rmX4_number [.ref (ad G 19 c), .int (nI k)] M (fun r M' => some (.int (nI (gN M 21 c k))) = r ∧ M = M') := by
  refine Ct_of (cc := cX4_number) (by decide) [(0, _), (1, _)] rfl (Nat.le_of_ble_eq_true rfl) (fun pp ee ss mm aa bb mt cd C E => ?_)
  refine V_iconst C (nI 0) dX4_number_0 (by decide) ?_
  refine V_iload_n C dX4_number_1 rfl rfl ?_
  refine V_icmpN_gt (tgt := 22) C dX4_number_2 (by omega) (by omega) (by decide) (fun h2 => ?_) (fun h2 => ?_)
  · skip
    refine V_iconst C (-1) dX4_number_22 (by decide) ?_
    refine V_iret C E dX4_number_23 ?_
    first | exact ⟨rfl, rfl⟩ | omega
  · skip
    refine V_iload_n C dX4_number_5 rfl rfl ?_
    refine V_aload_n C dX4_number_6 rfl rfl ?_
    refine gf_X4_27 C (by omega) dX4_number_7 ?_
    refine V_icmpN_ge (tgt := 22) C dX4_number_10 (by omega) (by omega) (by decide) (fun h10 => ?_) (fun h10 => ?_)
    · skip
      refine V_iconst C (-1) dX4_number_22 (by decide) ?_
      refine V_iret C E dX4_number_23 ?_
      first | exact ⟨rfl, rfl⟩ | omega
    · skip
      refine V_aload_n C dX4_number_13 rfl rfl ?_
      refine gf_X4_15 C (by omega) dX4_number_14 ?_
      refine V_iload_n C dX4_number_17 rfl rfl ?_
      refine ld_21 C (by omega) (by omega) dX4_number_18 ?_
      refine V_goto (tgt := 23) C dX4_number_19 (by decide) ?_
      refine V_iret C E dX4_number_23 ?_
      first | exact ⟨rfl, rfl⟩ | omega

set_option maxRecDepth 20000 in
set_option maxHeartbeats 4000000 in
theorem ct_X4_goal {l : Launch} {G : Gm} {M : Mem} {c : Nat} {x : Int32} (hc : c < 6) (hs : gN M 19 c 5 ≤ 70) : Ct l G rX yX4_goal (.code yX4_goal cX4_goal 2 (some .int) :: GW) rmX4_goal [.ref (ad G 19 c), .int x] M (fun r M' => M = M' ∧ ((∃ j, j < gN M 19 c 5 ∧ x = nI j ∧ some (.int (gI M 22 c j)) = r) ∨ (¬ isM (gN M 19 c 5) x ∧ some (.int (-1)) = r))) := by
  refine Ct_of (cc := cX4_goal) (by decide) [(0, _), (1, _)] rfl (Nat.le_of_ble_eq_true rfl) (fun pp ee ss mm aa bb mt cd C E => ?_)
  refine V_iconst C (nI 0) dX4_goal_0 (by decide) ?_
  refine V_iload_n C dX4_goal_1 rfl rfl ?_
  refine V_icmp_gt (tgt := 22) C dX4_goal_2 (by decide) (fun h2 => ?_) (fun h2 => ?_)
  · skip
    rw [nI_0, Int32.lt_iff_toInt_lt, Int32.toInt_zero] at h2
    refine V_iconst C (-1) dX4_goal_22 (by decide) ?_
    refine V_iret C E dX4_goal_23 ?_
    first | exact ⟨rfl, Or.inl ⟨j, hj, rfl, rfl⟩⟩ | exact ⟨rfl, Or.inr ⟨fun q => by have := q.1; have := q.2; omega, rfl⟩⟩
  · skip
    rw [nI_0, Int32.lt_iff_toInt_lt, Int32.toInt_zero] at h2
    refine V_iload_n C dX4_goal_5 rfl rfl ?_
    refine V_aload_n C dX4_goal_6 rfl rfl ?_
    refine gf_X4_27 C (by omega) dX4_goal_7 ?_
    refine V_icmp_ge (tgt := 22) C dX4_goal_10 (by decide) (fun h10 => ?_) (fun h10 => ?_)
    · skip
      rw [Int32.le_iff_toInt_le, nI_toInt (by omega)] at h10
      refine V_iconst C (-1) dX4_goal_22 (by decide) ?_
      refine V_iret C E dX4_goal_23 ?_
      first | exact ⟨rfl, Or.inl ⟨j, hj, rfl, rfl⟩⟩ | exact ⟨rfl, Or.inr ⟨fun q => by have := q.1; have := q.2; omega, rfl⟩⟩
    · skip
      rw [Int32.le_iff_toInt_le, nI_toInt (by omega)] at h10
      obtain ⟨j, hj, rfl⟩ := isM_of (n := gN M 19 c 5) (x := x) ⟨by omega, by omega⟩ (by omega)
      refine V_aload_n C dX4_goal_13 rfl rfl ?_
      refine gf_X4_18 C (by omega) dX4_goal_14 ?_
      refine V_iload_n C dX4_goal_17 rfl rfl ?_
      refine ld_22 C (by omega) (by omega) dX4_goal_18 ?_
      refine V_goto (tgt := 23) C dX4_goal_19 (by decide) ?_
      refine V_iret C E dX4_goal_23 ?_
      first | exact ⟨rfl, Or.inl ⟨j, hj, rfl, rfl⟩⟩ | exact ⟨rfl, Or.inr ⟨fun q => by have := q.1; have := q.2; omega, rfl⟩⟩

set_option maxRecDepth 20000 in
set_option maxHeartbeats 4000000 in
theorem ct_X4_goalN {l : Launch} {G : Gm} {M : Mem} {c k : Nat} (hc : c < 6) (hs : gN M 19 c 5 ≤ 70) (hk : k < gN M 19 c 5) : Ct l G rX yX4_goal (.code yX4_goal cX4_goal 2 (some .int) :: GW) rmX4_goal [.ref (ad G 19 c), .int (nI k)] M (fun r M' => some (.int (gI M 22 c k)) = r ∧ M = M') := by
  refine Ct_of (cc := cX4_goal) (by decide) [(0, _), (1, _)] rfl (Nat.le_of_ble_eq_true rfl) (fun pp ee ss mm aa bb mt cd C E => ?_)
  refine V_iconst C (nI 0) dX4_goal_0 (by decide) ?_
  refine V_iload_n C dX4_goal_1 rfl rfl ?_
  refine V_icmpN_gt (tgt := 22) C dX4_goal_2 (by omega) (by omega) (by decide) (fun h2 => ?_) (fun h2 => ?_)
  · skip
    refine V_iconst C (-1) dX4_goal_22 (by decide) ?_
    refine V_iret C E dX4_goal_23 ?_
    first | exact ⟨rfl, rfl⟩ | omega
  · skip
    refine V_iload_n C dX4_goal_5 rfl rfl ?_
    refine V_aload_n C dX4_goal_6 rfl rfl ?_
    refine gf_X4_27 C (by omega) dX4_goal_7 ?_
    refine V_icmpN_ge (tgt := 22) C dX4_goal_10 (by omega) (by omega) (by decide) (fun h10 => ?_) (fun h10 => ?_)
    · skip
      refine V_iconst C (-1) dX4_goal_22 (by decide) ?_
      refine V_iret C E dX4_goal_23 ?_
      first | exact ⟨rfl, rfl⟩ | omega
    · skip
      refine V_aload_n C dX4_goal_13 rfl rfl ?_
      refine gf_X4_18 C (by omega) dX4_goal_14 ?_
      refine V_iload_n C dX4_goal_17 rfl rfl ?_
      refine ld_22 C (by omega) (by omega) dX4_goal_18 ?_
      refine V_goto (tgt := 23) C dX4_goal_19 (by decide) ?_
      refine V_iret C E dX4_goal_23 ?_
      first | exact ⟨rfl, rfl⟩ | omega

set_option maxRecDepth 20000 in
set_option maxHeartbeats 4000000 in
theorem ct_X4_handlerMark {l : Launch} {G : Gm} {M : Mem} {c h : Nat} (hc : c < 6) (hh : h < 4) : Ct l G rX yX4_handlerMark (.code yX4_handlerMark cX4_handlerMark 2 (some .int) :: GW) rmX4_handlerMark [.ref (ad G 19 c), .int (nI h)] M (fun r M' => some (.int (nI (gN M 24 c h))) = r ∧ M = M') := by
  refine Ct_of (cc := cX4_handlerMark) (by decide) [(0, _), (1, _)] rfl (Nat.le_of_ble_eq_true rfl) (fun pp ee ss mm aa bb mt cd C E => ?_)
  refine V_iconst C (nI 0) dX4_handlerMark_0 (by decide) ?_
  refine V_iload_n C dX4_handlerMark_1 rfl rfl ?_
  refine V_icmpN_gt (tgt := 19) C dX4_handlerMark_2 (by omega) (by omega) (by decide) (fun h2 => ?_) (fun h2 => ?_)
  · skip
    refine V_iconst C (-1) dX4_handlerMark_19 (by decide) ?_
    refine V_iret C E dX4_handlerMark_20 ?_
    first | exact ⟨rfl, rfl⟩ | omega
  · skip
    refine V_iload_n C dX4_handlerMark_5 rfl rfl ?_
    refine V_iconst C (nI 4) dX4_handlerMark_6 (by decide) ?_
    refine V_icmpN_ge (tgt := 19) C dX4_handlerMark_7 (by omega) (by omega) (by decide) (fun h7 => ?_) (fun h7 => ?_)
    · skip
      refine V_iconst C (-1) dX4_handlerMark_19 (by decide) ?_
      refine V_iret C E dX4_handlerMark_20 ?_
      first | exact ⟨rfl, rfl⟩ | omega
    · skip
      refine V_aload_n C dX4_handlerMark_10 rfl rfl ?_
      refine gf_X4_24 C (by omega) dX4_handlerMark_11 ?_
      refine V_iload_n C dX4_handlerMark_14 rfl rfl ?_
      refine ld_24 C (by omega) (by omega) dX4_handlerMark_15 ?_
      refine V_goto (tgt := 20) C dX4_handlerMark_16 (by decide) ?_
      refine V_iret C E dX4_handlerMark_20 ?_
      first | exact ⟨rfl, rfl⟩ | omega
