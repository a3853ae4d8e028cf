/-- what the tallies tell -/
def tel (a0 a1 a2 a3 a4 a5 a6 a7 x : Int32) : Int32 := if x = nI 0 then a0 else if x = nI 1 then a1 else if x = nI 2 then a2 else if x = nI 3 then a3 else if x = nI 4 then a4 else if x = nI 5 then a5 else if x = nI 6 then a6 else if x = nI 7 then a7 else -2
/-- a FRAME begun anew -/
def fbegin (M : Mem) (f c : Nat) (x : Int64) : Mem := sI (sN (sN (sN (sN (sN (sI (sN (sN (sN (sJ (sJ (sJ (sJ (sJ (sN M 30 f 3 c) 31 f 0 (lN 0)) 31 f 1 (lN 0)) 31 f 2 (lN 0)) 31 f 3 (lN 0)) 31 f 0 x) 32 f 0 0) 32 f 1 0) 32 f 2 0) 33 f 1 (-1)) 33 f 2 0) 30 f 4 0) 30 f 5 0) 30 f 6 0) 30 f 7 0) 30 f 8 (nI 0)
theorem cm_1 {a b : Nat} (h1 : a ≤ b) (h2 : b ≤ 200) : (nI b - nI a - nI 1 < 0) ↔ b = a := by
  rw [pk_sub h1, Int32.lt_iff_toInt_lt, pk_sub_toInt (by omega) (by decide), Int32.toInt_zero]
  omega
theorem cm_2 {a b : Nat} {x : Int64} (h1 : a ≤ b) (h2 : b ≤ 200) : (x ≤ (nI b - nI a - nI 1).toInt64) ↔ x.toInt < (b : Int) - a := by
  rw [pk_sub h1, Int64.le_iff_toInt_le, Int32.toInt_toInt64, pk_sub_toInt (by omega) (by decide)]
  omega
theorem cm_4 {x : Int64} : (if lN 0 < x then x else lN 0) = (if lN 0 < x then x else lN 0) := rfl
theorem cm_3 {x : Int64} {d : Int} (h : x.toInt < d) : ∃ k, (if lN 0 < x then x else lN 0) = lN k ∧ cost x = 1 + k ∧ ((x.toInt < 0 ∧ k = 0) ∨ (k : Int) = x.toInt) := by
  unfold cost
  by_cases hp : lN 0 < x
  · rw [if_pos hp]
    rw [Int64.lt_iff_toInt_lt, lN_toInt (by decide)] at hp
    refine ⟨x.toInt.toNat, ?_, ?_, Or.inr (by omega)⟩
    · apply Int64.toInt_inj.mp
      rw [pk_lT (by have := Int64.toInt_lt x; omega)]
      omega
    · rw [if_neg (by omega)]
  · rw [if_neg hp]
    rw [Int64.lt_iff_toInt_lt, lN_toInt (by decide)] at hp
    refine ⟨0, rfl, ?_, ?_⟩
    · by_cases hz : x.toInt < 0
      · rw [if_pos hz]
      · rw [if_neg hz]; omega
    · by_cases hz : x.toInt < 0
      · exact Or.inl ⟨hz, rfl⟩
      · exact Or.inr (by omega)
theorem io_1 {x : Int32} {n : Nat} (h : n < 2 ^ 31) : (x.toInt64 = lN n) ↔ x = nI n := by
  constructor
  · intro e
    apply Int32.toInt_inj.mp
    rw [← Int32.toInt_toInt64, e, lN_toInt h, nI_toInt h]
  · rintro rfl
    exact nI_l h
set_option maxRecDepth 20000 in
set_option maxHeartbeats 4000000 in
theorem ct_X9_reset {l : Launch} {G : Gm} {M : Mem} {b : Nat} : Ct l G rX yX9_reset (.code yX9_reset cX9_reset 2 none :: GW) rmX9_reset [.ref (ad G 7 0), .int (nI b)] M (fun r M' => none = r ∧ sJ (sN (sI (sN (sN (sN (sI (sN (sN (sN M 7 0 0 b) 7 0 1 0) 7 0 2 0) 7 0 3 (nI 0)) 7 0 4 0) 7 0 5 0) 7 0 6 0) 7 0 7 (nI 0)) 7 0 8 0) 7 0 9 (lN 0) = M') := by
  refine Ct_of (cc := cX9_reset) (by decide) [(0, _), (1, _)] rfl (Nat.le_of_ble_eq_true rfl) (fun pp ee ss mm aa bb mt cd C E => ?_)
  refine V_aload_n C dX9_reset_0 rfl rfl ?_
  refine V_iload_n C dX9_reset_1 rfl rfl ?_
  refine pf_X9_9 C dX9_reset_2 ?_
  refine V_aload_n C dX9_reset_5 rfl rfl ?_
  refine V_iconst C (nI 0) dX9_reset_6 (by decide) ?_
  refine pf_X9_15 C dX9_reset_7 ?_
  refine V_aload_n C dX9_reset_10 rfl rfl ?_
  refine V_iconst C (nI 0) dX9_reset_11 (by decide) ?_
  refine pf_X9_18 C dX9_reset_12 ?_
  refine V_aload_n C dX9_reset_15 rfl rfl ?_
  refine V_iconst C (nI 0) dX9_reset_16 (by decide) ?_
  refine pf_X9_21 C dX9_reset_17 ?_
  refine V_aload_n C dX9_reset_20 rfl rfl ?_
  refine V_iconst C (nI 0) dX9_reset_21 (by decide) ?_
  refine pf_X9_24 C dX9_reset_22 ?_
  refine V_aload_n C dX9_reset_25 rfl rfl ?_
  refine V_iconst C (nI 0) dX9_reset_26 (by decide) ?_
  refine pf_X9_27 C dX9_reset_27 ?_
  refine V_aload_n C dX9_reset_30 rfl rfl ?_
  refine V_iconst C (nI 0) dX9_reset_31 (by decide) ?_
  refine pf_X9_30 C dX9_reset_32 ?_
  refine V_aload_n C dX9_reset_35 rfl rfl ?_
  refine V_iconst C (nI 0) dX9_reset_36 (by decide) ?_
  refine pf_X9_33 C dX9_reset_37 ?_
  refine V_aload_n C dX9_reset_40 rfl rfl ?_
  refine V_iconst C (nI 0) dX9_reset_41 (by decide) ?_
  refine pf_X9_36 C dX9_reset_42 ?_
  refine V_aload_n C dX9_reset_45 rfl rfl ?_
  refine V_lconst C (lN 0) dX9_reset_46 (by decide) ?_
  refine pf_X9_39 C dX9_reset_47 ?_
  refine V_vret C E dX9_reset_50 ?_
  exact ⟨rfl, rfl⟩

set_option maxRecDepth 20000 in
set_option maxHeartbeats 4000000 in
theorem ct_X9_countOne {l : Launch} {G : Gm} {M : Mem} (h1 : gN M 7 0 1 ≤ 200) (h2 : gN M 7 0 0 ≤ 200) : Ct l G rX yX9_countOne (.code yX9_countOne cX9_countOne 1 (some .boolean) :: GW) rmX9_countOne [.ref (ad G 7 0)] M (fun r M' => some (.int (nI (bN (gN M 7 0 1 < gN M 7 0 0)))) = r ∧ (if gN M 7 0 1 < gN M 7 0 0 then sN M 7 0 1 (gN M 7 0 1 + 1) else M) = M') := by
  refine Ct_of (cc := cX9_countOne) (by decide) [(0, _)] rfl (Nat.le_of_ble_eq_true rfl) (fun pp ee ss mm aa bb mt cd C E => ?_)
  refine V_aload_n C dX9_countOne_0 rfl rfl ?_
  refine gf_X9_15 C dX9_countOne_1 ?_
  refine V_aload_n C dX9_countOne_4 rfl rfl ?_
  refine gf_X9_9 C dX9_countOne_5 ?_
  refine V_icmpN_lt (tgt := 13) C dX9_countOne_8 (by omega) (by omega) (by decide) (fun h8 => ?_) (fun h8 => ?_)
  · skip
    refine V_aload_n C dX9_countOne_13 rfl rfl ?_
    refine V_dup C dX9_countOne_14 rfl ?_
    refine gf_X9_15 C dX9_countOne_15 ?_
    refine V_iconst C (nI 1) dX9_countOne_18 (by decide) ?_
    refine V_iaddN C dX9_countOne_19 ?_
    refine pf_X9_15 C dX9_countOne_20 ?_
    refine V_iconst C (nI 1) dX9_countOne_23 (by decide) ?_
    refine V_zret C E dX9_countOne_24 (by first | decide | (unfold bN; split <;> omega)) ?_
    first | (rw [bN_t (by omega), if_pos (by omega)]; exact ⟨rfl, rfl⟩) | (rw [bN_f (by omega), if_neg (by omega)]; exact ⟨rfl, rfl⟩)
  · skip
    refine V_iconst C (nI 0) dX9_countOne_11 (by decide) ?_
    refine V_zret C E dX9_countOne_12 (by first | decide | (unfold bN; split <;> omega)) ?_
    first | (rw [bN_t (by omega), if_pos (by omega)]; exact ⟨rfl, rfl⟩) | (rw [bN_f (by omega), if_neg (by omega)]; exact ⟨rfl, rfl⟩)

set_option maxRecDepth 20000 in
set_option maxHeartbeats 4000000 in
theorem ct_X9_countMake {l : Launch} {G : Gm} {M : Mem} {x : Int64} (h1 : gN M 7 0 1 ≤ gN M 7 0 0) (h2 : gN M 7 0 0 ≤ 200) : Ct l G rX yX9_countMake (.code yX9_countMake cX9_countMake 4 (some .boolean) :: GW) rmX9_countMake [.ref (ad G 7 0), .long x] M (fun r M' => some (.int (nI (bN (gN M 7 0 1 + cost x ≤ gN M 7 0 0)))) = r ∧ (if gN M 7 0 1 + cost x ≤ gN M 7 0 0 then sN M 7 0 1 (gN M 7 0 1 + cost x) else M) = M') := by
  refine Ct_of (cc := cX9_countMake) (by decide) [(0, _), (1, _)] rfl (Nat.le_of_ble_eq_true rfl) (fun pp ee ss mm aa bb mt cd C E => ?_)
  refine V_aload_n C dX9_countMake_0 rfl rfl ?_
  refine gf_X9_9 C dX9_countMake_1 ?_
  refine V_aload_n C dX9_countMake_4 rfl rfl ?_
  refine gf_X9_15 C dX9_countMake_5 ?_
  refine V_isub C dX9_countMake_8 ?_
  refine V_iconst C (nI 1) dX9_countMake_9 (by decide) ?_
  refine V_isub C dX9_countMake_10 ?_
  refine V_istore_n (lv' := [(3, _), (0, _), (1, _)]) C dX9_countMake_11 rfl (by decide) rfl ?_
  refine V_iload_n C dX9_countMake_12 rfl rfl ?_
  refine V_if_lt (tgt := 23) C dX9_countMake_13 (by decide) (fun h13 => ?_) (fun h13 => ?_)
  · skip
    rw [cm_1 h1 h2] at h13
    refine V_iconst C (nI 0) dX9_countMake_23 (by decide) ?_
    refine V_zret C E dX9_countMake_24 (by first | decide | (unfold bN; split <;> omega)) ?_
    first | (rw [bN_f (by unfold cost; split <;> omega), if_neg (by unfold cost; split <;> omega)]; exact ⟨rfl, rfl⟩) | (rw [hk2, bN_t (by omega), if_pos (by omega)]; exact ⟨rfl, rfl⟩)
  · skip
    rw [cm_1 h1 h2] at h13
    refine V_lload_n C dX9_countMake_16 rfl rfl ?_
    refine V_iload_n C dX9_countMake_17 rfl rfl ?_
    refine V_i2l C dX9_countMake_18 ?_
    refine V_lcmp C dX9_countMake_19 ?_
    refine V_ifL_le (tgt := 25) C dX9_countMake_20 (by decide) (fun h20 => ?_) (fun h20 => ?_)
    · skip
      rw [cm_2 h1 h2] at h20
      obtain ⟨k, hk, hk2, hk3⟩ := cm_3 (x := x) h20
      have hcm : (if lN 0 < x then x else lN 0) = lN k := hk
      refine V_aload_n C dX9_countMake_25 rfl rfl ?_
      refine V_dup C dX9_countMake_26 rfl ?_
      refine gf_X9_15 C dX9_countMake_27 ?_
      refine V_iconst C (nI 1) dX9_countMake_30 (by decide) ?_
      refine V_lload_n C dX9_countMake_31 rfl rfl ?_
      refine V_lconst C (lN 0) dX9_countMake_32 (by decide) ?_
      refine V_mmaxL C lk_X9_43 ms_maxL mi_Math mc_maxL (by decide) (Nat.le_of_ble_eq_true rfl) dX9_countMake_33 ?_
      rw [cm_4 (x := x), hcm]
      refine V_l2iN C dX9_countMake_36 rfl ?_
      refine V_iaddN C dX9_countMake_37 ?_
      refine V_iaddN C dX9_countMake_38 ?_
      refine pf_X9_15 C dX9_countMake_39 ?_
      refine V_iconst C (nI 1) dX9_countMake_42 (by decide) ?_
      refine V_zret C E dX9_countMake_43 (by first | decide | (unfold bN; split <;> omega)) ?_
      first | (rw [bN_f (by unfold cost; split <;> omega), if_neg (by unfold cost; split <;> omega)]; exact ⟨rfl, rfl⟩) | (rw [hk2, bN_t (by omega), if_pos (by omega)]; exact ⟨rfl, rfl⟩)
    · skip
      rw [cm_2 h1 h2] at h20
      refine V_iconst C (nI 0) dX9_countMake_23 (by decide) ?_
      refine V_zret C E dX9_countMake_24 (by first | decide | (unfold bN; split <;> omega)) ?_
      first | (rw [bN_f (by unfold cost; split <;> omega), if_neg (by unfold cost; split <;> omega)]; exact ⟨rfl, rfl⟩) | (rw [hk2, bN_t (by omega), if_pos (by omega)]; exact ⟨rfl, rfl⟩)

set_option maxRecDepth 20000 in
set_option maxHeartbeats 4000000 in
theorem ct_X9_beginInstruction {l : Launch} {G : Gm} {M : Mem} (h1 : gN M 7 0 8 ≤ 2000) : Ct l G rX yX9_beginInstruction (.code yX9_beginInstruction cX9_beginInstruction 1 (some .boolean) :: GW) rmX9_beginInstruction [.ref (ad G 7 0)] M (fun r M' => some (.int (nI (bN (gN M 7 0 8 < 2000)))) = r ∧ (if gN M 7 0 8 < 2000 then sN M 7 0 8 (gN M 7 0 8 + 1) else M) = M') := by
  refine Ct_of (cc := cX9_beginInstruction) (by decide) [(0, _)] rfl (Nat.le_of_ble_eq_true rfl) (fun pp ee ss mm aa bb mt cd C E => ?_)
  refine V_aload_n C dX9_beginInstruction_0 rfl rfl ?_
  refine gf_X9_36 C dX9_beginInstruction_1 ?_
  refine V_sipush C (nI 2000) dX9_beginInstruction_4 (by decide) ?_
  refine V_icmpN_lt (tgt := 12) C dX9_beginInstruction_7 (by omega) (by omega) (by decide) (fun h7 => ?_) (fun h7 => ?_)
  · skip
    refine V_aload_n C dX9_beginInstruction_12 rfl rfl ?_
    refine V_dup C dX9_beginInstruction_13 rfl ?_
    refine gf_X9_36 C dX9_beginInstruction_14 ?_
    refine V_iconst C (nI 1) dX9_beginInstruction_17 (by decide) ?_
    refine V_iaddN C dX9_beginInstruction_18 ?_
    refine pf_X9_36 C dX9_beginInstruction_19 ?_
    refine V_iconst C (nI 1) dX9_beginInstruction_22 (by decide) ?_
    refine V_zret C E dX9_beginInstruction_23 (by first | decide | (unfold bN; split <;> omega)) ?_
    first | (rw [bN_t (by omega), if_pos (by omega)]; exact ⟨rfl, rfl⟩) | (rw [bN_f (by omega), if_neg (by omega)]; exact ⟨rfl, rfl⟩)
  · skip
    refine V_iconst C (nI 0) dX9_beginInstruction_10 (by decide) ?_
    refine V_zret C E dX9_beginInstruction_11 (by first | decide | (unfold bN; split <;> omega)) ?_
    first | (rw [bN_t (by omega), if_pos (by omega)]; exact ⟨rfl, rfl⟩) | (rw [bN_f (by omega), if_neg (by omega)]; exact ⟨rfl, rfl⟩)

set_option maxRecDepth 20000 in
set_option maxHeartbeats 4000000 in
theorem ct_X9_tell {l : Launch} {G : Gm} {M : Mem} {x : Int32} : Ct l G rX yX9_tell (.code yX9_tell cX9_tell 2 (some .int) :: GW) rmX9_tell [.ref (ad G 7 0), .int x] M (fun r M' => some (.int (tel (nI (gN M 7 0 1)) (nI (gN M 7 0 2)) (gI M 7 0 3) (nI (gN M 7 0 4)) (nI (gN M 7 0 5)) (nI (gN M 7 0 6)) (gI M 7 0 7) (nI (gN M 7 0 8)) x)) = r ∧ M = M') := by
  refine Ct_of (cc := cX9_tell) (by decide) [(0, _), (1, _)] rfl (Nat.le_of_ble_eq_true rfl) (fun pp ee ss mm aa bb mt cd C E => ?_)
  refine V_iload_n C dX9_tell_0 rfl rfl ?_
  by_cases h1_0 : x = nI 0
  · refine V_tabIn (tgt := 48) C dX9_tell_1 (0) (by rw [h1_0]; decide) (by decide) (by decide) rfl (by decide) ?_
    subst h1_0
    refine V_aload_n C dX9_tell_48 rfl rfl ?_
    refine gf_X9_15 C dX9_tell_49 ?_
    refine V_iret C E dX9_tell_52 ?_
    exact ⟨by first | rfl | (unfold tel; simp only [h1_0, h1_1, h1_2, h1_3, h1_4, h1_5, h1_6, h1_7, if_false]), rfl⟩
  by_cases h1_1 : x = nI 1
  · refine V_tabIn (tgt := 53) C dX9_tell_1 (1) (by rw [h1_1]; decide) (by decide) (by decide) rfl (by decide) ?_
    subst h1_1
    refine V_aload_n C dX9_tell_53 rfl rfl ?_
    refine gf_X9_18 C dX9_tell_54 ?_
    refine V_iret C E dX9_tell_57 ?_
    exact ⟨by first | rfl | (unfold tel; simp only [h1_0, h1_1, h1_2, h1_3, h1_4, h1_5, h1_6, h1_7, if_false]), rfl⟩
  by_cases h1_2 : x = nI 2
  · refine V_tabIn (tgt := 58) C dX9_tell_1 (2) (by rw [h1_2]; decide) (by decide) (by decide) rfl (by decide) ?_
    subst h1_2
    refine V_aload_n C dX9_tell_58 rfl rfl ?_
    refine gf_X9_21 C dX9_tell_59 ?_
    refine V_iret C E dX9_tell_62 ?_
    exact ⟨by first | rfl | (unfold tel; simp only [h1_0, h1_1, h1_2, h1_3, h1_4, h1_5, h1_6, h1_7, if_false]), rfl⟩
  by_cases h1_3 : x = nI 3
  · refine V_tabIn (tgt := 63) C dX9_tell_1 (3) (by rw [h1_3]; decide) (by decide) (by decide) rfl (by decide) ?_
    subst h1_3
    refine V_aload_n C dX9_tell_63 rfl rfl ?_
    refine gf_X9_24 C dX9_tell_64 ?_
    refine V_iret C E dX9_tell_67 ?_
    exact ⟨by first | rfl | (unfold tel; simp only [h1_0, h1_1, h1_2, h1_3, h1_4, h1_5, h1_6, h1_7, if_false]), rfl⟩
  by_cases h1_4 : x = nI 4
  · refine V_tabIn (tgt := 68) C dX9_tell_1 (4) (by rw [h1_4]; decide) (by decide) (by decide) rfl (by decide) ?_
    subst h1_4
    refine V_aload_n C dX9_tell_68 rfl rfl ?_
    refine gf_X9_27 C dX9_tell_69 ?_
    refine V_iret C E dX9_tell_72 ?_
    exact ⟨by first | rfl | (unfold tel; simp only [h1_0, h1_1, h1_2, h1_3, h1_4, h1_5, h1_6, h1_7, if_false]), rfl⟩
  by_cases h1_5 : x = nI 5
  · refine V_tabIn (tgt := 73) C dX9_tell_1 (5) (by rw [h1_5]; decide) (by decide) (by decide) rfl (by decide) ?_
    subst h1_5
    refine V_aload_n C dX9_tell_73 rfl rfl ?_
    refine gf_X9_30 C dX9_tell_74 ?_
    refine V_iret C E dX9_tell_77 ?_
    exact ⟨by first | rfl | (unfold tel; simp only [h1_0, h1_1, h1_2, h1_3, h1_4, h1_5, h1_6, h1_7, if_false]), rfl⟩
  by_cases h1_6 : x = nI 6
  · refine V_tabIn (tgt := 78) C dX9_tell_1 (6) (by rw [h1_6]; decide) (by decide) (by decide) rfl (by decide) ?_
    subst h1_6
    refine V_aload_n C dX9_tell_78 rfl rfl ?_
    refine gf_X9_33 C dX9_tell_79 ?_
    refine V_iret C E dX9_tell_82 ?_
    exact ⟨by first | rfl | (unfold tel; simp only [h1_0, h1_1, h1_2, h1_3, h1_4, h1_5, h1_6, h1_7, if_false]), rfl⟩
  by_cases h1_7 : x = nI 7
  · refine V_tabIn (tgt := 83) C dX9_tell_1 (7) (by rw [h1_7]; decide) (by decide) (by decide) rfl (by decide) ?_
    subst h1_7
    refine V_aload_n C dX9_tell_83 rfl rfl ?_
    refine gf_X9_36 C dX9_tell_84 ?_
    refine V_iret C E dX9_tell_87 ?_
    exact ⟨by first | rfl | (unfold tel; simp only [h1_0, h1_1, h1_2, h1_3, h1_4, h1_5, h1_6, h1_7, if_false]), rfl⟩
  refine V_tabOut (tgt := 88) C dX9_tell_1 (sw_out (lo := 0) (hi := 7) (by decide) (by decide) (fun n h1 h2 => by rcases (show n = 0 ∨ n = 1 ∨ n = 2 ∨ n = 3 ∨ n = 4 ∨ n = 5 ∨ n = 6 ∨ n = 7 by omega) with rfl | rfl | rfl | rfl | rfl | rfl | rfl | rfl <;> assumption)) (by decide) ?_
  refine V_bipush C (-2) dX9_tell_88 (by decide) ?_
  refine V_iret C E dX9_tell_90 ?_
  exact ⟨by first | rfl | (unfold tel; simp only [h1_0, h1_1, h1_2, h1_3, h1_4, h1_5, h1_6, h1_7, if_false]), rfl⟩

set_option maxRecDepth 20000 in
set_option maxHeartbeats 4000000 in
theorem ct_X8_drop {l : Launch} {G : Gm} {M : Mem} {f : Nat} (hf : f < 12) : Ct l G rX yX8_drop (.code yX8_drop cX8_drop 1 none :: GW) rmX8_drop [.ref (ad G 33 f)] M (fun r M' => none = r ∧ sN (sI M 33 f 1 (-1)) 33 f 2 0 = M') := by
  refine Ct_of (cc := cX8_drop) (by decide) [(0, _)] rfl (Nat.le_of_ble_eq_true rfl) (fun pp ee ss mm aa bb mt cd C E => ?_)
  refine V_aload_n C dX8_drop_0 rfl rfl ?_
  refine V_iconst C (-1) dX8_drop_1 (by decide) ?_
  refine pf_X8_15 C (by omega) dX8_drop_2 ?_
  refine V_aload_n C dX8_drop_5 rfl rfl ?_
  refine V_iconst C (nI 0) dX8_drop_6 (by decide) ?_
  refine pf_X8_19 C (by omega) dX8_drop_7 ?_
  refine V_vret C E dX8_drop_10 ?_
  exact ⟨rfl, rfl⟩

set_option maxRecDepth 20000 in
set_option maxHeartbeats 4000000 in
theorem ct_X8_holdsThings {l : Launch} {G : Gm} {M : Mem} {f : Nat} (hf : f < 12) : Ct l G rX yX8_holdsThings (.code yX8_holdsThings cX8_holdsThings 1 (some .boolean) :: GW) rmX8_holdsThings [.ref (ad G 33 f)] M (fun r M' => some (.int (nI (bN (gI M 33 f 1 = nI 5 ∨ gI M 33 f 1 = nI 6)))) = r ∧ M = M') := by
  refine Ct_of (cc := cX8_holdsThings) (by decide) [(0, _)] rfl (Nat.le_of_ble_eq_true rfl) (fun pp ee ss mm aa bb mt cd C E => ?_)
  refine V_aload_n C dX8_holdsThings_0 rfl rfl ?_
  refine gf_X8_15 C (by omega) dX8_holdsThings_1 ?_
  refine V_iconst C (nI 5) dX8_holdsThings_4 (by decide) ?_
  refine V_icmp_eq (tgt := 17) C dX8_holdsThings_5 (by decide) (fun h5 => ?_) (fun h5 => ?_)
  · skip
    refine V_iconst C (nI 1) dX8_holdsThings_17 (by decide) ?_
    refine V_goto (tgt := 22) C dX8_holdsThings_18 (by decide) ?_
    refine V_zret C E dX8_holdsThings_22 (by first | decide | (unfold bN; split <;> omega)) ?_
    first | (rw [bN_t (by simp_all)]; exact ⟨rfl, rfl⟩) | (rw [bN_f (by simp_all)]; exact ⟨rfl, rfl⟩)
  · skip
    refine V_aload_n C dX8_holdsThings_8 rfl rfl ?_
    refine gf_X8_15 C (by omega) dX8_holdsThings_9 ?_
    refine V_bipush C (nI 6) dX8_holdsThings_12 (by decide) ?_
    refine V_icmp_ne (tgt := 21) C dX8_holdsThings_14 (by decide) (fun h14 => ?_) (fun h14 => ?_)
    · skip
      refine V_iconst C (nI 0) dX8_holdsThings_21 (by decide) ?_
      refine V_zret C E dX8_holdsThings_22 (by first | decide | (unfold bN; split <;> omega)) ?_
      first | (rw [bN_t (by simp_all)]; exact ⟨rfl, rfl⟩) | (rw [bN_f (by simp_all)]; exact ⟨rfl, rfl⟩)
    · skip
      refine V_iconst C (nI 1) dX8_holdsThings_17 (by decide) ?_
      refine V_goto (tgt := 22) C dX8_holdsThings_18 (by decide) ?_
      refine V_zret C E dX8_holdsThings_22 (by first | decide | (unfold bN; split <;> omega)) ?_
      first | (rw [bN_t (by simp_all)]; exact ⟨rfl, rfl⟩) | (rw [bN_f (by simp_all)]; exact ⟨rfl, rfl⟩)

set_option maxRecDepth 20000 in
set_option maxHeartbeats 4000000 in
theorem ct_X8_fitted {l : Launch} {G : Gm} {M : Mem} {f : Nat} (hf : f < 12) {v : Int64} : Ct l G rX yX8_fitted (.code yX8_fitted cX8_fitted 3 (some .long) :: GW) rmX8_fitted [.ref (ad G 33 f), .long v] M (fun r M' => some (.long (fitt (gI M 33 f 1) v)) = r ∧ M = M') := by
  refine Ct_of (cc := cX8_fitted) (by decide) [(0, _), (1, _)] rfl (Nat.le_of_ble_eq_true rfl) (fun pp ee ss mm aa bb mt cd C E => ?_)
  refine V_aload_n C dX8_fitted_0 rfl rfl ?_
  refine gf_X8_15 C (by omega) dX8_fitted_1 ?_
  by_cases h4_0 : gI M 33 f 1 = nI 0
  · refine V_tabIn (tgt := 40) C dX8_fitted_4 (0) (by rw [h4_0]; decide) (by decide) (by decide) rfl (by decide) ?_
    rw [h4_0]
    refine V_lload_n C dX8_fitted_40 rfl rfl ?_
    refine V_l2i C dX8_fitted_41 ?_
    refine V_i2b C dX8_fitted_42 ?_
    refine V_i2l C dX8_fitted_43 ?_
    refine V_lret C E dX8_fitted_44 ?_
    exact ⟨by first | rfl | (unfold fitt; simp only [h4_0, h4_1, h4_2, h4_3, h4_4, if_false]), rfl⟩
  by_cases h4_1 : gI M 33 f 1 = nI 1
  · refine V_tabIn (tgt := 45) C dX8_fitted_4 (1) (by rw [h4_1]; decide) (by decide) (by decide) rfl (by decide) ?_
    rw [h4_1]
    refine V_lload_n C dX8_fitted_45 rfl rfl ?_
    refine V_l2i C dX8_fitted_46 ?_
    refine V_i2s C dX8_fitted_47 ?_
    refine V_i2l C dX8_fitted_48 ?_
    refine V_lret C E dX8_fitted_49 ?_
    exact ⟨by first | rfl | (unfold fitt; simp only [h4_0, h4_1, h4_2, h4_3, h4_4, if_false]), rfl⟩
  by_cases h4_2 : gI M 33 f 1 = nI 2
  · refine V_tabIn (tgt := 50) C dX8_fitted_4 (2) (by rw [h4_2]; decide) (by decide) (by decide) rfl (by decide) ?_
    rw [h4_2]
    refine V_lload_n C dX8_fitted_50 rfl rfl ?_
    refine V_l2i C dX8_fitted_51 ?_
    refine V_i2l C dX8_fitted_52 ?_
    refine V_lret C E dX8_fitted_53 ?_
    exact ⟨by first | rfl | (unfold fitt; simp only [h4_0, h4_1, h4_2, h4_3, h4_4, if_false]), rfl⟩
  by_cases h4_3 : gI M 33 f 1 = nI 3
  · refine V_tabIn (tgt := 54) C dX8_fitted_4 (3) (by rw [h4_3]; decide) (by decide) (by decide) rfl (by decide) ?_
    rw [h4_3]
    refine V_lload_n C dX8_fitted_54 rfl rfl ?_
    refine V_lret C E dX8_fitted_55 ?_
    exact ⟨by first | rfl | (unfold fitt; simp only [h4_0, h4_1, h4_2, h4_3, h4_4, if_false]), rfl⟩
  by_cases h4_4 : gI M 33 f 1 = nI 4
  · refine V_tabIn (tgt := 56) C dX8_fitted_4 (4) (by rw [h4_4]; decide) (by decide) (by decide) rfl (by decide) ?_
    rw [h4_4]
    refine V_lload_n C dX8_fitted_56 rfl rfl ?_
    refine V_l2d C dX8_fitted_57 ?_
    refine V_d2l C dX8_fitted_58 ?_
    refine V_lret C E dX8_fitted_59 ?_
    exact ⟨by first | rfl | (unfold fitt; simp only [h4_0, h4_1, h4_2, h4_3, h4_4, if_false]), rfl⟩
  refine V_tabOut (tgt := 60) C dX8_fitted_4 (sw_out (lo := 0) (hi := 4) (by decide) (by decide) (fun n h1 h2 => by rcases (show n = 0 ∨ n = 1 ∨ n = 2 ∨ n = 3 ∨ n = 4 by omega) with rfl | rfl | rfl | rfl | rfl <;> assumption)) (by decide) ?_
  refine V_lload_n C dX8_fitted_60 rfl rfl ?_
  refine V_ldc2 C kL_X8_50 dX8_fitted_61 ?_
  refine V_land C dX8_fitted_64 ?_
  refine V_lret C E dX8_fitted_65 ?_
  exact ⟨by first | rfl | (unfold fitt; simp only [h4_0, h4_1, h4_2, h4_3, h4_4, if_false]), rfl⟩

set_option maxRecDepth 20000 in
set_option maxHeartbeats 4000000 in
theorem ct_X8_fault {l : Launch} {G : Gm} {M : Mem} {f : Nat} (hf : f < 12) (hn : gN M 33 f 2 ≤ 200) {i : Int64} : Ct l G rX yX8_fault (.code yX8_fault cX8_fault 3 (some .int) :: GW) rmX8_fault [.ref (ad G 33 f), .long i] M (fun r M' => some (.int (nI (flt (gI M 33 f 1) (gN M 33 f 2) i))) = r ∧ M = M') := by
  refine Ct_of (cc := cX8_fault) (by decide) [(0, _), (1, _)] rfl (Nat.le_of_ble_eq_true rfl) (fun pp ee ss mm aa bb mt cd C E => ?_)
  refine V_aload_n C dX8_fault_0 rfl rfl ?_
  refine gf_X8_15 C (by omega) dX8_fault_1 ?_
  refine V_iconst C (-1) dX8_fault_4 (by decide) ?_
  refine V_icmp_ne (tgt := 10) C dX8_fault_5 (by decide) (fun h5 => ?_) (fun h5 => ?_)
  · skip
    refine V_lload_n C dX8_fault_10 rfl rfl ?_
    refine V_lconst C (lN 0) dX8_fault_11 (by decide) ?_
    refine V_aload_n C dX8_fault_12 rfl rfl ?_
    refine gf_X8_19 C (by omega) dX8_fault_13 ?_
    refine V_iconst C (nI 1) dX8_fault_16 (by decide) ?_
    refine V_isub C dX8_fault_17 ?_
    refine V_i2l C dX8_fault_18 ?_
    refine V_callSN C [_, _, _] (ct_X10_within) cs_X10_within lk_X8_36 ⟨Nat.le_of_ble_eq_true rfl, Nat.le_of_ble_eq_true rfl⟩ rfl rfl (Nat.le_of_ble_eq_true rfl) dX8_fault_19 (fun r M' hr => ?_)
    obtain ⟨rfl, rfl⟩ := hr
    refine V_ifB_eq (tgt := 29) C dX8_fault_22 (by decide) (fun h22 => ?_) (fun h22 => ?_)
    · skip
      refine V_iconst C (nI 2) dX8_fault_29 (by decide) ?_
      refine V_iret C E dX8_fault_30 ?_
      unfold flt
      first | (rw [if_pos (by assumption)]; exact ⟨rfl, rfl⟩) | (rw [if_neg (by assumption), if_pos ((wl_iff (by omega)).mp h22)]; exact ⟨rfl, rfl⟩) | (rw [if_neg (by assumption), if_neg (fun q => h22 ((wl_iff (by omega)).mpr q))]; exact ⟨rfl, rfl⟩)
    · skip
      refine V_iconst C (nI 0) dX8_fault_25 (by decide) ?_
      refine V_goto (tgt := 30) C dX8_fault_26 (by decide) ?_
      refine V_iret C E dX8_fault_30 ?_
      unfold flt
      first | (rw [if_pos (by assumption)]; exact ⟨rfl, rfl⟩) | (rw [if_neg (by assumption), if_pos ((wl_iff (by omega)).mp h22)]; exact ⟨rfl, rfl⟩) | (rw [if_neg (by assumption), if_neg (fun q => h22 ((wl_iff (by omega)).mpr q))]; exact ⟨rfl, rfl⟩)
  · skip
    refine V_iconst C (nI 1) dX8_fault_8 (by decide) ?_
    refine V_iret C E dX8_fault_9 ?_
    unfold flt
    first | (rw [if_pos (by assumption)]; exact ⟨rfl, rfl⟩) | (rw [if_neg (by assumption), if_pos ((wl_iff (by omega)).mp h22)]; exact ⟨rfl, rfl⟩) | (rw [if_neg (by assumption), if_neg (fun q => h22 ((wl_iff (by omega)).mpr q))]; exact ⟨rfl, rfl⟩)

set_option maxRecDepth 20000 in
set_option maxHeartbeats 4000000 in
theorem ct_X8_cell {l : Launch} {G : Gm} {M : Mem} {f : Nat} (hf : f < 12) {k : Nat} (hn : gN M 33 f 2 ≤ 200) (hk : k < gN M 33 f 2) (hl : ¬ gI M 33 f 1 = -1) : Ct l G rX yX8_cell (.code yX8_cell cX8_cell 3 (some .long) :: GW) rmX8_cell [.ref (ad G 33 f), .long (lN k)] M (fun r M' => some (.long (gJ M 34 f k)) = r ∧ M = M') := by
  refine Ct_of (cc := cX8_cell) (by decide) [(0, _), (1, _)] rfl (Nat.le_of_ble_eq_true rfl) (fun pp ee ss mm aa bb mt cd C E => ?_)
  refine V_aload_n C dX8_cell_0 rfl rfl ?_
  refine V_lload_n C dX8_cell_1 rfl rfl ?_
  refine V_callV C [_] (ct_X8_fault (by omega) (by omega)) cv_X8_fault lk_X8_40 (in_33 (by omega)) rfl rfl ⟨Nat.le_of_ble_eq_true rfl, Nat.le_of_ble_eq_true rfl⟩ rfl rfl (Nat.le_of_ble_eq_true rfl) dX8_cell_2 (fun r M' hr => ?_)
  obtain ⟨rfl, rfl⟩ := hr
  have h0 : flt (gI M 33 f 1) (gN M 33 f 2) (lN k) = 0 := by unfold flt; rw [if_neg hl, if_pos ((isL_lN (by omega)).mpr hk)]
  rw [h0]
  refine V_ifN_ne (tgt := 18) C dX8_cell_5 (by omega) (by decide) (fun h5 => ?_) (fun h5 => ?_)
  · skip
    refine V_lconst C (lN 0) dX8_cell_18 (by decide) ?_
    refine V_lret C E dX8_cell_19 ?_
    first | exact ⟨rfl, rfl⟩ | omega
  · skip
    refine V_aload_n C dX8_cell_8 rfl rfl ?_
    refine gf_X8_9 C (by omega) dX8_cell_9 ?_
    refine V_lload_n C dX8_cell_12 rfl rfl ?_
    refine V_l2iN C dX8_cell_13 rfl ?_
    refine ld_34 C (by omega) (by omega) dX8_cell_14 ?_
    refine V_goto (tgt := 19) C dX8_cell_15 (by decide) ?_
    refine V_lret C E dX8_cell_19 ?_
    first | exact ⟨rfl, rfl⟩ | omega

set_option maxRecDepth 20000 in
set_option maxHeartbeats 4000000 in
theorem ct_X8_isOf {l : Launch} {G : Gm} {M : Mem} {f : Nat} (hf : f < 12) {n : Nat} (hn : n ≤ 6) : Ct l G rX yX8_isOf (.code yX8_isOf cX8_isOf 3 (some .boolean) :: GW) rmX8_isOf [.ref (ad G 33 f), .long (lN n)] M (fun r M' => some (.int (nI (bN (gI M 33 f 1 = -1 ∨ gI M 33 f 1 = nI n ∨ (gI M 33 f 1 = nI 6 ∧ n = 5))))) = r ∧ M = M') := by
  refine Ct_of (cc := cX8_isOf) (by decide) [(0, _), (1, _)] rfl (Nat.le_of_ble_eq_true rfl) (fun pp ee ss mm aa bb mt cd C E => ?_)
  refine V_aload_n C dX8_isOf_0 rfl rfl ?_
  refine gf_X8_15 C (by omega) dX8_isOf_1 ?_
  refine V_iconst C (-1) dX8_isOf_4 (by decide) ?_
  refine V_icmp_eq (tgt := 35) C dX8_isOf_5 (by decide) (fun h5 => ?_) (fun h5 => ?_)
  · skip
    refine V_iconst C (nI 1) dX8_isOf_35 (by decide) ?_
    refine V_goto (tgt := 40) C dX8_isOf_36 (by decide) ?_
    refine V_zret C E dX8_isOf_40 (by first | decide | (unfold bN; split <;> omega)) ?_
    first | (rw [bN_t (by simp_all)]; exact ⟨rfl, rfl⟩) | (rw [bN_f (by simp_all)]; exact ⟨rfl, rfl⟩)
  · skip
    refine V_aload_n C dX8_isOf_8 rfl rfl ?_
    refine gf_X8_15 C (by omega) dX8_isOf_9 ?_
    refine V_i2l C dX8_isOf_12 ?_
    refine V_lload_n C dX8_isOf_13 rfl rfl ?_
    refine V_lcmp C dX8_isOf_14 ?_
    refine V_ifL_eq (tgt := 35) C dX8_isOf_15 (by decide) (fun h15 => ?_) (fun h15 => ?_)
    · skip
      rw [io_1 (by omega)] at h15
      refine V_iconst C (nI 1) dX8_isOf_35 (by decide) ?_
      refine V_goto (tgt := 40) C dX8_isOf_36 (by decide) ?_
      refine V_zret C E dX8_isOf_40 (by first | decide | (unfold bN; split <;> omega)) ?_
      first | (rw [bN_t (by simp_all)]; exact ⟨rfl, rfl⟩) | (rw [bN_f (by simp_all)]; exact ⟨rfl, rfl⟩)
    · skip
      rw [io_1 (by omega)] at h15
      refine V_aload_n C dX8_isOf_18 rfl rfl ?_
      refine gf_X8_15 C (by omega) dX8_isOf_19 ?_
      refine V_bipush C (nI 6) dX8_isOf_22 (by decide) ?_
      refine V_icmp_ne (tgt := 39) C dX8_isOf_24 (by decide) (fun h24 => ?_) (fun h24 => ?_)
      · skip
        refine V_iconst C (nI 0) dX8_isOf_39 (by decide) ?_
        refine V_zret C E dX8_isOf_40 (by first | decide | (unfold bN; split <;> omega)) ?_
        first | (rw [bN_t (by simp_all)]; exact ⟨rfl, rfl⟩) | (rw [bN_f (by simp_all)]; exact ⟨rfl, rfl⟩)
      · skip
        refine V_lload_n C dX8_isOf_27 rfl rfl ?_
        refine V_ldc2 C kL_X8_48 dX8_isOf_28 ?_
        refine V_lcmp C dX8_isOf_31 ?_
        refine V_ifL_ne (tgt := 39) C dX8_isOf_32 (by decide) (fun h32 => ?_) (fun h32 => ?_)
        · skip
          rw [lN_eq (by omega) (by omega)] at h32
          refine V_iconst C (nI 0) dX8_isOf_39 (by decide) ?_
          refine V_zret C E dX8_isOf_40 (by first | decide | (unfold bN; split <;> omega)) ?_
          first | (rw [bN_t (by simp_all)]; exact ⟨rfl, rfl⟩) | (rw [bN_f (by simp_all)]; exact ⟨rfl, rfl⟩)
        · skip
          rw [lN_eq (by omega) (by omega)] at h32
          refine V_iconst C (nI 1) dX8_isOf_35 (by decide) ?_
          refine V_goto (tgt := 40) C dX8_isOf_36 (by decide) ?_
          refine V_zret C E dX8_isOf_40 (by first | decide | (unfold bN; split <;> omega)) ?_
          first | (rw [bN_t (by simp_all)]; exact ⟨rfl, rfl⟩) | (rw [bN_f (by simp_all)]; exact ⟨rfl, rfl⟩)

set_option maxRecDepth 20000 in
set_option maxHeartbeats 4000000 in
theorem ct_X8_put {l : Launch} {G : Gm} {M : Mem} {f : Nat} (hf : f < 12) (hn : gN M 33 f 2 ≤ 200) {i v : Int64} : Ct l G rX yX8_put (.code yX8_put cX8_put 8 (some .int) :: GW) rmX8_put [.ref (ad G 33 f), .long i, .long v] M (fun r M' => (¬ flt (gI M 33 f 1) (gN M 33 f 2) i = 0 ∧ some (.int (nI (flt (gI M 33 f 1) (gN M 33 f 2) i))) = r ∧ M = M') ∨ (∃ k, i = lN k ∧ k < gN M 33 f 2 ∧ ¬ gI M 33 f 1 = -1 ∧ ((gI M 33 f 1 = nI 6 ∧ v &&& lN 1 = lN 0 ∧ some (.int (nI 4)) = r ∧ M = M') ∨ (¬ (gI M 33 f 1 = nI 6 ∧ v &&& lN 1 = lN 0) ∧ some (.int (nI 0)) = r ∧ sJ M 34 f k (fitt (gI M 33 f 1) v) = M')))) := by
  refine Ct_of (cc := cX8_put) (by decide) [(0, _), (1, _), (3, _)] rfl (Nat.le_of_ble_eq_true rfl) (fun pp ee ss mm aa bb mt cd C E => ?_)
  refine V_aload_n C dX8_put_0 rfl rfl ?_
  refine V_lload_n C dX8_put_1 rfl rfl ?_
  refine V_callV C [_] (ct_X8_fault (by omega) (by omega)) cv_X8_fault lk_X8_40 (in_33 (by omega)) rfl rfl ⟨Nat.le_of_ble_eq_true rfl, Nat.le_of_ble_eq_true rfl⟩ rfl rfl (Nat.le_of_ble_eq_true rfl) dX8_put_2 (fun r M' hr => ?_)
  obtain ⟨rfl, rfl⟩ := hr
  have hfl := flt_le (gI M 33 f 1) (gN M 33 f 2) i
  refine V_istore (lv' := [(5, _), (0, _), (1, _), (3, _)]) C dX8_put_5 (by decide) rfl ?_
  refine V_iload C dX8_put_7 rfl ?_
  refine V_ifN_eq (tgt := 15) C dX8_put_9 (by omega) (by decide) (fun h9 => ?_) (fun h9 => ?_)
  · skip
    obtain ⟨hl, hkL⟩ := flt_0 h9
    obtain ⟨k, hk, rfl⟩ := isL_of hkL (by omega)
    refine V_aload_n C dX8_put_15 rfl rfl ?_
    refine V_lload_n C dX8_put_16 rfl rfl ?_
    refine V_callV C [_] (ct_X8_fitted (by omega)) cv_X8_fitted lk_X8_44 (in_33 (by omega)) rfl rfl ⟨Nat.le_of_ble_eq_true rfl, Nat.le_of_ble_eq_true rfl⟩ rfl rfl (Nat.le_of_ble_eq_true rfl) dX8_put_17 (fun r M' hr => ?_)
    obtain ⟨rfl, rfl⟩ := hr
    refine V_lstore (lv' := [(6, _), (5, _), (0, _), (1, _), (3, _)]) C dX8_put_20 (by decide) rfl ?_
    refine V_aload_n C dX8_put_22 rfl rfl ?_
    refine gf_X8_15 C (by omega) dX8_put_23 ?_
    refine V_bipush C (nI 6) dX8_put_26 (by decide) ?_
    refine V_icmp_ne (tgt := 42) C dX8_put_28 (by decide) (fun h28 => ?_) (fun h28 => ?_)
    · skip
      refine V_aload_n C dX8_put_42 rfl rfl ?_
      refine gf_X8_9 C (by omega) dX8_put_43 ?_
      refine V_lload_n C dX8_put_46 rfl rfl ?_
      refine V_l2iN C dX8_put_47 rfl ?_
      refine V_lload C dX8_put_48 rfl ?_
      refine st_34 C (by omega) (by omega) dX8_put_50 ?_
      refine V_iconst C (nI 0) dX8_put_51 (by decide) ?_
      refine V_iret C E dX8_put_52 ?_
      first | exact Or.inr ⟨k, rfl, hk, hl, Or.inr ⟨fun q => h28 q.1, rfl, rfl⟩⟩ | exact Or.inr ⟨k, rfl, hk, hl, Or.inr ⟨fun q => h37 q.2, rfl, rfl⟩⟩
    · skip
      rw [show fitt (gI M 33 f 1) v = v &&& lN 7 by rw [h28]; rfl]
      refine V_lload C dX8_put_31 rfl ?_
      refine V_lconst C (lN 1) dX8_put_33 (by decide) ?_
      refine V_land C dX8_put_34 ?_
      refine V_lconst C (lN 0) dX8_put_35 (by decide) ?_
      refine V_lcmp C dX8_put_36 ?_
      refine V_ifL_ne (tgt := 42) C dX8_put_37 (by decide) (fun h37 => ?_) (fun h37 => ?_)
      · skip
        rw [Int64.and_assoc, show lN 7 &&& lN 1 = lN 1 by decide] at h37
        refine V_aload_n C dX8_put_42 rfl rfl ?_
        refine gf_X8_9 C (by omega) dX8_put_43 ?_
        refine V_lload_n C dX8_put_46 rfl rfl ?_
        refine V_l2iN C dX8_put_47 rfl ?_
        refine V_lload C dX8_put_48 rfl ?_
        refine st_34 C (by omega) (by omega) dX8_put_50 ?_
        refine V_iconst C (nI 0) dX8_put_51 (by decide) ?_
        refine V_iret C E dX8_put_52 ?_
        first | exact Or.inr ⟨k, rfl, hk, hl, Or.inr ⟨fun q => h28 q.1, rfl, rfl⟩⟩ | exact Or.inr ⟨k, rfl, hk, hl, Or.inr ⟨fun q => h37 q.2, rfl, rfl⟩⟩
      · skip
        rw [Int64.and_assoc, show lN 7 &&& lN 1 = lN 1 by decide] at h37
        refine V_iconst C (nI 4) dX8_put_40 (by decide) ?_
        refine V_iret C E dX8_put_41 ?_
        exact Or.inr ⟨k, rfl, hk, hl, Or.inl ⟨h28, h37, rfl, rfl⟩⟩
  · skip
    refine V_iload C dX8_put_12 rfl ?_
    refine V_iret C E dX8_put_14 ?_
    exact Or.inl ⟨h9, rfl, rfl⟩

set_option maxRecDepth 20000 in
set_option maxHeartbeats 4000000 in
theorem ct_X8_make {l : Launch} {G : Gm} {M : Mem} {f : Nat} (hf : f < 12) {x : Int32} {a : Int64} (ha : a.toInt ≤ 200) : Ct l G rX yX8_make (.code yX8_make cX8_make 7 (some .int) :: GW) rmX8_make [.ref (ad G 33 f), .int x, .long a] M (fun r M' => (a.toInt < 0 ∧ some (.int (nI 3)) = r ∧ M = M') ∨ (∃ n, n ≤ 200 ∧ a = lN n ∧ some (.int (nI 0)) = r ∧ fJ (sI (sN M 33 f 2 n) 33 f 1 x) 34 f n (if x = nI 5 ∨ x = nI 6 then -1 else lN 0) = M')) := by
  refine Ct_of (cc := cX8_make) (by decide) [(0, _), (1, _), (2, _)] rfl (Nat.le_of_ble_eq_true rfl) (fun pp ee ss mm aa bb mt cd C E => ?_)
  refine V_lload_n C dX8_make_0 rfl rfl ?_
  refine V_lconst C (lN 0) dX8_make_1 (by decide) ?_
  refine V_lcmp C dX8_make_2 ?_
  refine V_ifL_ge (tgt := 8) C dX8_make_3 (by decide) (fun h3 => ?_) (fun h3 => ?_)
  · skip
    rw [Int64.le_iff_toInt_le, lN_toInt (by decide)] at h3
    obtain ⟨n, hn, han⟩ := isL_of (n := 201) (x := a) ⟨by omega, by omega⟩ (by decide)
    refine V_aload_n C dX8_make_8 rfl rfl ?_
    refine V_lload_n C dX8_make_9 rfl rfl ?_
    refine V_ldc2 C kL_X8_22 dX8_make_10 ?_
    refine V_mminL C lk_X8_24 ms_minL mi_Math mc_minL (by decide) (Nat.le_of_ble_eq_true rfl) dX8_make_13 ?_
    rw [show (if lN 200 < a then lN 200 else a) = lN n by rw [han, min_lN (by omega) (by decide), Nat.min_eq_left (by omega)]]
    refine V_l2iN C dX8_make_16 rfl ?_
    refine pf_X8_19 C (by omega) dX8_make_17 ?_
    refine V_aload_n C dX8_make_20 rfl rfl ?_
    refine V_iload_n C dX8_make_21 rfl rfl ?_
    refine pf_X8_15 C (by omega) dX8_make_22 ?_
    refine V_aload_n C dX8_make_25 rfl rfl ?_
    refine V_callV C [] (ct_X8_holdsThings (by omega)) cv_X8_holdsThings lk_X8_30 (in_33 (by omega)) rfl rfl ⟨Nat.le_of_ble_eq_true rfl, Nat.le_of_ble_eq_true rfl⟩ rfl rfl (Nat.le_of_ble_eq_true rfl) dX8_make_26 (fun r M' hr => ?_)
    obtain ⟨rfl, rfl⟩ := hr
    rw [show gI (sI (sN M 33 f 2 n) 33 f 1 x) 33 f 1 = x by simp [gII]]
    have JN39 : ∀ (bl : Int64), bl = (if x = nI 5 ∨ x = nI 6 then -1 else lN 0) → V pp l ee rmX8_make ss mm aa bb mt cd G rX 7 (MQ bb (QcG G rX (fun r M' => (a.toInt < 0 ∧ some (.int (nI 3)) = r ∧ M = M') ∨ (∃ n, n ≤ 200 ∧ a = lN n ∧ some (.int (nI 0)) = r ∧ fJ (sI (sN M 33 f 2 n) 33 f 1 x) 34 f n (if x = nI 5 ∨ x = nI 6 then -1 else lN 0) = M')) (AA G rX ss.heap.size)) aa ss 0 0 (AA G rX ss.heap.size)) (sI (sN M 33 f 2 n) 33 f 1 x) 39 [(0, .ref (ad G 33 f)), (1, .int x), (2, .long a)] [.long bl] := by
      intro bl hbl
      refine V_lstore (lv' := [(4, _), (0, _), (1, _), (2, _)]) C dX8_make_39 (by decide) rfl ?_
      refine V_iconst C (nI 0) dX8_make_41 (by decide) ?_
      refine V_istore (lv' := [(6, _), (4, _), (0, _), (1, _), (2, _)]) C dX8_make_42 (by decide) rfl ?_
      have LP44 : ∀ (fu : Nat) (k : Nat), n - k < fu → k ≤ n → V pp l ee rmX8_make ss mm aa bb mt cd G rX 7 (MQ bb (QcG G rX (fun r M' => (a.toInt < 0 ∧ some (.int (nI 3)) = r ∧ M = M') ∨ (∃ n, n ≤ 200 ∧ a = lN n ∧ some (.int (nI 0)) = r ∧ fJ (sI (sN M 33 f 2 n) 33 f 1 x) 34 f n (if x = nI 5 ∨ x = nI 6 then -1 else lN 0) = M')) (AA G rX ss.heap.size)) aa ss 0 0 (AA G rX ss.heap.size)) (fJ (sI (sN M 33 f 2 n) 33 f 1 x) 34 f k bl) 44 [(6, .int (nI k)), (4, .long bl), (0, .ref (ad G 33 f)), (1, .int x), (2, .long a)] [] := by
        intro fu
        induction fu with
        | zero => intros; omega
        | succ fu ih =>
          intro k hfu hle
          have hcn : gN (fJ (sI (sN M 33 f 2 n) 33 f 1 x) 34 f k bl) 33 f 2 = n := by simp [gNf, gNI, gNN]
          refine V_iload C dX8_make_44 rfl ?_
          refine V_aload_n C dX8_make_46 rfl rfl ?_
          refine gf_X8_19 C (by omega) dX8_make_47 ?_
          refine V_icmpN_ge (tgt := 68) C dX8_make_50 (by omega) (by omega) (by decide) (fun h50 => ?_) (fun h50 => ?_)
          · skip
            refine V_iconst C (nI 0) dX8_make_68 (by decide) ?_
            refine V_iret C E dX8_make_69 ?_
            exact Or.inr ⟨n, by omega, han, rfl, by rw [show k = n by omega, hbl]⟩
          · skip
            refine V_aload_n C dX8_make_53 rfl rfl ?_
            refine gf_X8_9 C (by omega) dX8_make_54 ?_
            refine V_iload C dX8_make_57 rfl ?_
            refine V_lload C dX8_make_59 rfl ?_
            refine st_34 C (by omega) (by omega) dX8_make_61 ?_
            refine V_iincN (lv' := [(6, _), (4, _), (0, _), (1, _), (2, _)]) C dX8_make_62 rfl (b := 1) (by decide) (by decide) rfl ?_
            refine V_goto (tgt := 44) C dX8_make_65 (by decide) ?_
            rw [fJ_s]
            refine V_lv [0, 1, 2, 3, 4] rfl ?_
            exact ih _ (by omega) (by omega)
      rw [← fJ_0 (M := sI (sN M 33 f 2 n) 33 f 1 x) (k := 34) (i := f) (v := bl)]
      refine V_lv [0, 1, 2, 3, 4] rfl ?_
      exact LP44 _ 0 (Nat.lt_succ_self _) (Nat.zero_le _)
    refine V_ifB_eq (tgt := 38) C dX8_make_29 (by decide) (fun h29 => ?_) (fun h29 => ?_)
    · skip
      refine V_lconst C (lN 0) dX8_make_38 (by decide) ?_
      refine V_lv [0, 1, 2] rfl ?_
      exact JN39 _ (by first | rw [if_pos h29] | rw [if_neg h29])
    · skip
      refine V_ldc2 C kL_X8_34 dX8_make_32 ?_
      refine V_goto (tgt := 39) C dX8_make_35 (by decide) ?_
      refine V_lv [0, 1, 2] rfl ?_
      exact JN39 _ (by first | rw [if_pos h29] | rw [if_neg h29])
  · skip
    rw [Int64.le_iff_toInt_le, lN_toInt (by decide)] at h3
    refine V_iconst C (nI 3) dX8_make_6 (by decide) ?_
    refine V_iret C E dX8_make_7 ?_
    exact Or.inl ⟨by omega, rfl, rfl⟩

set_option maxRecDepth 20000 in
set_option maxHeartbeats 4000000 in
theorem ct_X1_register {l : Launch} {G : Gm} {M : Mem} {f : Nat} (hf : f < 12) {r : Nat} (hr : r < 4) : Ct l G rX yX1_register (.code yX1_register cX1_register 2 (some .long) :: GW) rmX1_register [.ref (ad G 30 f), .int (nI r)] M (fun ra M' => some (.long (gJ M 31 f r)) = ra ∧ M = M') := by
  refine Ct_of (cc := cX1_register) (by decide) [(0, _), (1, _)] rfl (Nat.le_of_ble_eq_true rfl) (fun pp ee ss mm aa bb mt cd C E => ?_)
  refine V_iconst C (nI 0) dX1_register_0 (by decide) ?_
  refine V_iload_n C dX1_register_1 rfl rfl ?_
  refine V_icmpN_gt (tgt := 19) C dX1_register_2 (by omega) (by omega) (by decide) (fun h2 => ?_) (fun h2 => ?_)
  · skip
    refine V_lconst C (lN 0) dX1_register_19 (by decide) ?_
    refine V_lret C E dX1_register_20 ?_
    first | exact ⟨rfl, rfl⟩ | omega
  · skip
    refine V_iload_n C dX1_register_5 rfl rfl ?_
    refine V_iconst C (nI 4) dX1_register_6 (by decide) ?_
    refine V_icmpN_ge (tgt := 19) C dX1_register_7 (by omega) (by omega) (by decide) (fun h7 => ?_) (fun h7 => ?_)
    · skip
      refine V_lconst C (lN 0) dX1_register_19 (by decide) ?_
      refine V_lret C E dX1_register_20 ?_
      first | exact ⟨rfl, rfl⟩ | omega
    · skip
      refine V_aload_n C dX1_register_10 rfl rfl ?_
      refine gf_X1_9 C (by omega) dX1_register_11 ?_
      refine V_iload_n C dX1_register_14 rfl rfl ?_
      refine ld_31 C (by omega) (by omega) dX1_register_15 ?_
      refine V_goto (tgt := 20) C dX1_register_16 (by decide) ?_
      refine V_lret C E dX1_register_20 ?_
      first | exact ⟨rfl, rfl⟩ | omega

set_option maxRecDepth 20000 in
set_option maxHeartbeats 4000000 in
theorem ct_X1_become {l : Launch} {G : Gm} {M : Mem} {f : Nat} (hf : f < 12) {r : Nat} {v : Int64} (hr : r < 4) : Ct l G rX yX1_become (.code yX1_become cX1_become 4 none :: GW) rmX1_become [.ref (ad G 30 f), .int (nI r), .long v] M (fun ra M' => none = ra ∧ sJ M 31 f r v = M') := by
  refine Ct_of (cc := cX1_become) (by decide) [(0, _), (1, _), (2, _)] rfl (Nat.le_of_ble_eq_true rfl) (fun pp ee ss mm aa bb mt cd C E => ?_)
  refine V_iconst C (nI 0) dX1_become_0 (by decide) ?_
  refine V_iload_n C dX1_become_1 rfl rfl ?_
  refine V_icmpN_gt (tgt := 17) C dX1_become_2 (by omega) (by omega) (by decide) (fun h2 => ?_) (fun h2 => ?_)
  · skip
    refine V_vret C E dX1_become_17 ?_
    first | exact ⟨rfl, rfl⟩ | omega
  · skip
    refine V_iload_n C dX1_become_5 rfl rfl ?_
    refine V_iconst C (nI 4) dX1_become_6 (by decide) ?_
    refine V_icmpN_ge (tgt := 17) C dX1_become_7 (by omega) (by omega) (by decide) (fun h7 => ?_) (fun h7 => ?_)
    · skip
      refine V_vret C E dX1_become_17 ?_
      first | exact ⟨rfl, rfl⟩ | omega
    · skip
      refine V_aload_n C dX1_become_10 rfl rfl ?_
      refine gf_X1_9 C (by omega) dX1_become_11 ?_
      refine V_iload_n C dX1_become_14 rfl rfl ?_
      refine V_lload_n C dX1_become_15 rfl rfl ?_
      refine st_31 C (by omega) (by omega) dX1_become_16 ?_
      refine V_vret C E dX1_become_17 ?_
      first | exact ⟨rfl, rfl⟩ | omega

set_option maxRecDepth 20000 in
set_option maxHeartbeats 4000000 in
theorem ct_X1_hold {l : Launch} {G : Gm} {M : Mem} {f : Nat} (hf : f < 12) {g : Nat} (hg : g ≤ 2) : Ct l G rX yX1_hold (.code yX1_hold cX1_hold 3 (some .boolean) :: GW) rmX1_hold [.ref (ad G 30 f), .long (lN g)] M (fun r M' => some (.int (nI 1)) = r ∧ sN M 32 f g (gN M 32 f g + 1) = M') := by
  refine Ct_of (cc := cX1_hold) (by decide) [(0, _), (1, _)] rfl (Nat.le_of_ble_eq_true rfl) (fun pp ee ss mm aa bb mt cd C E => ?_)
  refine V_lload_n C dX1_hold_0 rfl rfl ?_
  refine V_lconst C (lN 0) dX1_hold_1 (by decide) ?_
  refine V_ldc2 C kL_X1_49 dX1_hold_2 ?_
  refine V_callSN C [_, _, _] (ct_X10_within) cs_X10_within lk_X1_51 ⟨Nat.le_of_ble_eq_true rfl, Nat.le_of_ble_eq_true rfl⟩ rfl rfl (Nat.le_of_ble_eq_true rfl) dX1_hold_5 (fun r M' hr => ?_)
  obtain ⟨rfl, rfl⟩ := hr
  refine V_ifB_ne (tgt := 13) C dX1_hold_8 (by decide) (fun h8 => ?_) (fun h8 => ?_)
  · skip
    refine V_aload_n C dX1_hold_13 rfl rfl ?_
    refine gf_X1_15 C (by omega) dX1_hold_14 ?_
    refine V_lload_n C dX1_hold_17 rfl rfl ?_
    refine V_l2iN C dX1_hold_18 rfl ?_
    refine V_dup2 C dX1_hold_19 rfl rfl ?_
    refine ld_32 C (by omega) (by omega) dX1_hold_20 ?_
    refine V_iconst C (nI 1) dX1_hold_21 (by decide) ?_
    refine V_iaddN C dX1_hold_22 ?_
    refine st_32 C (by omega) (by omega) dX1_hold_23 ?_
    refine V_iconst C (nI 1) dX1_hold_24 (by decide) ?_
    refine V_zret C E dX1_hold_25 (by first | decide | (unfold bN; split <;> omega)) ?_
    exact ⟨rfl, rfl⟩
  · skip
    exact absurd ((w0l_iff (by decide)).mpr ((isL_lN (by omega)).mpr (by omega))) h8

set_option maxRecDepth 20000 in
set_option maxHeartbeats 4000000 in
theorem ct_X1_let {l : Launch} {G : Gm} {M : Mem} {f : Nat} (hf : f < 12) {g : Nat} (hg : g ≤ 2) (hb : gN M 32 f g ≤ 2000) : Ct l G rX yX1_let (.code yX1_let cX1_let 3 (some .boolean) :: GW) rmX1_let [.ref (ad G 30 f), .long (lN g)] M (fun r M' => some (.int (nI (bN (0 < gN M 32 f g)))) = r ∧ (if 0 < gN M 32 f g then sN M 32 f g (gN M 32 f g - 1) else M) = M') := by
  refine Ct_of (cc := cX1_let) (by decide) [(0, _), (1, _)] rfl (Nat.le_of_ble_eq_true rfl) (fun pp ee ss mm aa bb mt cd C E => ?_)
  refine V_lload_n C dX1_let_0 rfl rfl ?_
  refine V_lconst C (lN 0) dX1_let_1 (by decide) ?_
  refine V_ldc2 C kL_X1_49 dX1_let_2 ?_
  refine V_callSN C [_, _, _] (ct_X10_within) cs_X10_within lk_X1_51 ⟨Nat.le_of_ble_eq_true rfl, Nat.le_of_ble_eq_true rfl⟩ rfl rfl (Nat.le_of_ble_eq_true rfl) dX1_let_5 (fun r M' hr => ?_)
  obtain ⟨rfl, rfl⟩ := hr
  refine V_ifB_eq (tgt := 21) C dX1_let_8 (by decide) (fun h8 => ?_) (fun h8 => ?_)
  · skip
    refine V_iconst C (nI 0) dX1_let_21 (by decide) ?_
    refine V_zret C E dX1_let_22 (by first | decide | (unfold bN; split <;> omega)) ?_
    first | (rw [bN_f (by omega), if_neg (by omega)]; exact ⟨rfl, rfl⟩) | exact absurd ((w0l_iff (by decide)).mpr ((isL_lN (by omega)).mpr (by omega))) h8
  · skip
    refine V_aload_n C dX1_let_11 rfl rfl ?_
    refine gf_X1_15 C (by omega) dX1_let_12 ?_
    refine V_lload_n C dX1_let_15 rfl rfl ?_
    refine V_l2iN C dX1_let_16 rfl ?_
    refine ld_32 C (by omega) (by omega) dX1_let_17 ?_
    refine V_ifN_gt (tgt := 23) C dX1_let_18 (by omega) (by decide) (fun h18 => ?_) (fun h18 => ?_)
    · skip
      refine V_aload_n C dX1_let_23 rfl rfl ?_
      refine gf_X1_15 C (by omega) dX1_let_24 ?_
      refine V_lload_n C dX1_let_27 rfl rfl ?_
      refine V_l2iN C dX1_let_28 rfl ?_
      refine V_dup2 C dX1_let_29 rfl rfl ?_
      refine ld_32 C (by omega) (by omega) dX1_let_30 ?_
      refine V_iconst C (nI 1) dX1_let_31 (by decide) ?_
      refine V_isubN C dX1_let_32 (by omega) ?_
      refine st_32 C (by omega) (by omega) dX1_let_33 ?_
      refine V_iconst C (nI 1) dX1_let_34 (by decide) ?_
      refine V_zret C E dX1_let_35 (by first | decide | (unfold bN; split <;> omega)) ?_
      rw [bN_t (by omega), if_pos (by omega)]; exact ⟨rfl, rfl⟩
    · skip
      refine V_iconst C (nI 0) dX1_let_21 (by decide) ?_
      refine V_zret C E dX1_let_22 (by first | decide | (unfold bN; split <;> omega)) ?_
      first | (rw [bN_f (by omega), if_neg (by omega)]; exact ⟨rfl, rfl⟩) | exact absurd ((w0l_iff (by decide)).mpr ((isL_lN (by omega)).mpr (by omega))) h8

set_option maxRecDepth 20000 in
set_option maxHeartbeats 4000000 in
theorem ct_X1_held {l : Launch} {G : Gm} {M : Mem} {f : Nat} (hf : f < 12) : Ct l G rX yX1_held (.code yX1_held cX1_held 3 (some .int) :: GW) rmX1_held [.ref (ad G 30 f)] M (fun r M' => some (.int (nI (0 + gN M 32 f 0 + gN M 32 f 1 + gN M 32 f 2))) = r ∧ M = M') := by
  refine Ct_of (cc := cX1_held) (by decide) [(0, _)] rfl (Nat.le_of_ble_eq_true rfl) (fun pp ee ss mm aa bb mt cd C E => ?_)
  refine V_iconst C (nI 0) dX1_held_0 (by decide) ?_
  refine V_istore_n (lv' := [(1, _), (0, _)]) C dX1_held_1 rfl (by decide) rfl ?_
  refine V_iconst C (nI 0) dX1_held_2 (by decide) ?_
  refine V_istore_n (lv' := [(2, _), (1, _), (0, _)]) C dX1_held_3 rfl (by decide) rfl ?_
  refine V_iload_n C dX1_held_4 rfl rfl ?_
  refine V_iconst C (nI 3) dX1_held_5 (by decide) ?_
  refine V_icmpN_ge (tgt := 24) C dX1_held_6 (by omega) (by omega) (by decide) (fun h6 => by omega) (fun h6 => ?_)
  clear h6
  refine V_iload_n C dX1_held_9 rfl rfl ?_
  refine V_aload_n C dX1_held_10 rfl rfl ?_
  refine gf_X1_15 C (by omega) dX1_held_11 ?_
  refine V_iload_n C dX1_held_14 rfl rfl ?_
  refine ld_32 C (by omega) (by omega) dX1_held_15 ?_
  refine V_iaddN C dX1_held_16 ?_
  refine V_istore_n (lv' := [(1, _), (2, _), (0, _)]) C dX1_held_17 rfl (by decide) rfl ?_
  refine V_iincN (lv' := [(2, _), (1, _), (0, _)]) C dX1_held_18 rfl (b := 1) (by decide) (by decide) rfl ?_
  refine V_goto (tgt := 4) C dX1_held_21 (by decide) ?_
  refine V_iload_n C dX1_held_4 rfl rfl ?_
  refine V_iconst C (nI 3) dX1_held_5 (by decide) ?_
  refine V_icmpN_ge (tgt := 24) C dX1_held_6 (by omega) (by omega) (by decide) (fun h6 => by omega) (fun h6 => ?_)
  clear h6
  refine V_iload_n C dX1_held_9 rfl rfl ?_
  refine V_aload_n C dX1_held_10 rfl rfl ?_
  refine gf_X1_15 C (by omega) dX1_held_11 ?_
  refine V_iload_n C dX1_held_14 rfl rfl ?_
  refine ld_32 C (by omega) (by omega) dX1_held_15 ?_
  refine V_iaddN C dX1_held_16 ?_
  refine V_istore_n (lv' := [(1, _), (2, _), (0, _)]) C dX1_held_17 rfl (by decide) rfl ?_
  refine V_iincN (lv' := [(2, _), (1, _), (0, _)]) C dX1_held_18 rfl (b := 1) (by decide) (by decide) rfl ?_
  refine V_goto (tgt := 4) C dX1_held_21 (by decide) ?_
  refine V_iload_n C dX1_held_4 rfl rfl ?_
  refine V_iconst C (nI 3) dX1_held_5 (by decide) ?_
  refine V_icmpN_ge (tgt := 24) C dX1_held_6 (by omega) (by omega) (by decide) (fun h6 => by omega) (fun h6 => ?_)
  clear h6
  refine V_iload_n C dX1_held_9 rfl rfl ?_
  refine V_aload_n C dX1_held_10 rfl rfl ?_
  refine gf_X1_15 C (by omega) dX1_held_11 ?_
  refine V_iload_n C dX1_held_14 rfl rfl ?_
  refine ld_32 C (by omega) (by omega) dX1_held_15 ?_
  refine V_iaddN C dX1_held_16 ?_
  refine V_istore_n (lv' := [(1, _), (2, _), (0, _)]) C dX1_held_17 rfl (by decide) rfl ?_
  refine V_iincN (lv' := [(2, _), (1, _), (0, _)]) C dX1_held_18 rfl (b := 1) (by decide) (by decide) rfl ?_
  refine V_goto (tgt := 4) C dX1_held_21 (by decide) ?_
  refine V_iload_n C dX1_held_4 rfl rfl ?_
  refine V_iconst C (nI 3) dX1_held_5 (by decide) ?_
  refine V_icmpN_ge (tgt := 24) C dX1_held_6 (by omega) (by omega) (by decide) (fun h6 => ?_) (fun h6 => by omega)
  clear h6
  refine V_iload_n C dX1_held_24 rfl rfl ?_
  refine V_iret C E dX1_held_25 ?_
  exact ⟨rfl, rfl⟩

set_option maxRecDepth 20000 in
set_option maxHeartbeats 4000000 in
theorem ct_X1_begin {l : Launch} {G : Gm} {M : Mem} {f : Nat} (hf : f < 12) {c : Nat} {x : Int64} (hc : c < 6) : Ct l G rX yX1_begin (.code yX1_begin cX1_begin 5 none :: GW) rmX1_begin [.ref (ad G 30 f), .ref (ad G 10 c), .long x] M (fun r M' => none = r ∧ fbegin M f c x = M') := by
  refine Ct_of (cc := cX1_begin) (by decide) [(0, _), (1, _), (2, _)] rfl (Nat.le_of_ble_eq_true rfl) (fun pp ee ss mm aa bb mt cd C E => ?_)
  refine V_aload_n C dX1_begin_0 rfl rfl ?_
  refine V_aload_n C dX1_begin_1 rfl rfl ?_
  refine pf_X1_42 C (by omega) dX1_begin_2 ?_
  refine V_iconst C (nI 0) dX1_begin_5 (by decide) ?_
  refine V_istore (lv' := [(4, _), (0, _), (1, _), (2, _)]) C dX1_begin_6 (by decide) rfl ?_
  refine V_iload C dX1_begin_8 rfl ?_
  refine V_iconst C (nI 4) dX1_begin_10 (by decide) ?_
  refine V_icmpN_ge (tgt := 28) C dX1_begin_11 (by omega) (by omega) (by decide) (fun h11 => by omega) (fun h11 => ?_)
  clear h11
  refine V_aload_n C dX1_begin_14 rfl rfl ?_
  refine gf_X1_9 C (by omega) dX1_begin_15 ?_
  refine V_iload C dX1_begin_18 rfl ?_
  refine V_lconst C (lN 0) dX1_begin_20 (by decide) ?_
  refine st_31 C (by omega) (by omega) dX1_begin_21 ?_
  refine V_iincN (lv' := [(4, _), (0, _), (1, _), (2, _)]) C dX1_begin_22 rfl (b := 1) (by decide) (by decide) rfl ?_
  refine V_goto (tgt := 8) C dX1_begin_25 (by decide) ?_
  refine V_iload C dX1_begin_8 rfl ?_
  refine V_iconst C (nI 4) dX1_begin_10 (by decide) ?_
  refine V_icmpN_ge (tgt := 28) C dX1_begin_11 (by omega) (by omega) (by decide) (fun h11 => by omega) (fun h11 => ?_)
  clear h11
  refine V_aload_n C dX1_begin_14 rfl rfl ?_
  refine gf_X1_9 C (by omega) dX1_begin_15 ?_
  refine V_iload C dX1_begin_18 rfl ?_
  refine V_lconst C (lN 0) dX1_begin_20 (by decide) ?_
  refine st_31 C (by omega) (by omega) dX1_begin_21 ?_
  refine V_iincN (lv' := [(4, _), (0, _), (1, _), (2, _)]) C dX1_begin_22 rfl (b := 1) (by decide) (by decide) rfl ?_
  refine V_goto (tgt := 8) C dX1_begin_25 (by decide) ?_
  refine V_iload C dX1_begin_8 rfl ?_
  refine V_iconst C (nI 4) dX1_begin_10 (by decide) ?_
  refine V_icmpN_ge (tgt := 28) C dX1_begin_11 (by omega) (by omega) (by decide) (fun h11 => by omega) (fun h11 => ?_)
  clear h11
  refine V_aload_n C dX1_begin_14 rfl rfl ?_
  refine gf_X1_9 C (by omega) dX1_begin_15 ?_
  refine V_iload C dX1_begin_18 rfl ?_
  refine V_lconst C (lN 0) dX1_begin_20 (by decide) ?_
  refine st_31 C (by omega) (by omega) dX1_begin_21 ?_
  refine V_iincN (lv' := [(4, _), (0, _), (1, _), (2, _)]) C dX1_begin_22 rfl (b := 1) (by decide) (by decide) rfl ?_
  refine V_goto (tgt := 8) C dX1_begin_25 (by decide) ?_
  refine V_iload C dX1_begin_8 rfl ?_
  refine V_iconst C (nI 4) dX1_begin_10 (by decide) ?_
  refine V_icmpN_ge (tgt := 28) C dX1_begin_11 (by omega) (by omega) (by decide) (fun h11 => by omega) (fun h11 => ?_)
  clear h11
  refine V_aload_n C dX1_begin_14 rfl rfl ?_
  refine gf_X1_9 C (by omega) dX1_begin_15 ?_
  refine V_iload C dX1_begin_18 rfl ?_
  refine V_lconst C (lN 0) dX1_begin_20 (by decide) ?_
  refine st_31 C (by omega) (by omega) dX1_begin_21 ?_
  refine V_iincN (lv' := [(4, _), (0, _), (1, _), (2, _)]) C dX1_begin_22 rfl (b := 1) (by decide) (by decide) rfl ?_
  refine V_goto (tgt := 8) C dX1_begin_25 (by decide) ?_
  refine V_iload C dX1_begin_8 rfl ?_
  refine V_iconst C (nI 4) dX1_begin_10 (by decide) ?_
  refine V_icmpN_ge (tgt := 28) C dX1_begin_11 (by omega) (by omega) (by decide) (fun h11 => ?_) (fun h11 => by omega)
  clear h11
  refine V_aload_n C dX1_begin_28 rfl rfl ?_
  refine gf_X1_9 C (by omega) dX1_begin_29 ?_
  refine V_iconst C (nI 0) dX1_begin_32 (by decide) ?_
  refine V_lload_n C dX1_begin_33 rfl rfl ?_
  refine st_31 C (by omega) (by omega) dX1_begin_34 ?_
  refine V_iconst C (nI 0) dX1_begin_35 (by decide) ?_
  refine V_istore (lv' := [(4, _), (0, _), (1, _), (2, _)]) C dX1_begin_36 (by decide) rfl ?_
  refine V_iload C dX1_begin_38 rfl ?_
  refine V_iconst C (nI 3) dX1_begin_40 (by decide) ?_
  refine V_icmpN_ge (tgt := 58) C dX1_begin_41 (by omega) (by omega) (by decide) (fun h41 => by omega) (fun h41 => ?_)
  clear h41
  refine V_aload_n C dX1_begin_44 rfl rfl ?_
  refine gf_X1_15 C (by omega) dX1_begin_45 ?_
  refine V_iload C dX1_begin_48 rfl ?_
  refine V_iconst C (nI 0) dX1_begin_50 (by decide) ?_
  refine st_32 C (by omega) (by omega) dX1_begin_51 ?_
  refine V_iincN (lv' := [(4, _), (0, _), (1, _), (2, _)]) C dX1_begin_52 rfl (b := 1) (by decide) (by decide) rfl ?_
  refine V_goto (tgt := 38) C dX1_begin_55 (by decide) ?_
  refine V_iload C dX1_begin_38 rfl ?_
  refine V_iconst C (nI 3) dX1_begin_40 (by decide) ?_
  refine V_icmpN_ge (tgt := 58) C dX1_begin_41 (by omega) (by omega) (by decide) (fun h41 => by omega) (fun h41 => ?_)
  clear h41
  refine V_aload_n C dX1_begin_44 rfl rfl ?_
  refine gf_X1_15 C (by omega) dX1_begin_45 ?_
  refine V_iload C dX1_begin_48 rfl ?_
  refine V_iconst C (nI 0) dX1_begin_50 (by decide) ?_
  refine st_32 C (by omega) (by omega) dX1_begin_51 ?_
  refine V_iincN (lv' := [(4, _), (0, _), (1, _), (2, _)]) C dX1_begin_52 rfl (b := 1) (by decide) (by decide) rfl ?_
  refine V_goto (tgt := 38) C dX1_begin_55 (by decide) ?_
  refine V_iload C dX1_begin_38 rfl ?_
  refine V_iconst C (nI 3) dX1_begin_40 (by decide) ?_
  refine V_icmpN_ge (tgt := 58) C dX1_begin_41 (by omega) (by omega) (by decide) (fun h41 => by omega) (fun h41 => ?_)
  clear h41
  refine V_aload_n C dX1_begin_44 rfl rfl ?_
  refine gf_X1_15 C (by omega) dX1_begin_45 ?_
  refine V_iload C dX1_begin_48 rfl ?_
  refine V_iconst C (nI 0) dX1_begin_50 (by decide) ?_
  refine st_32 C (by omega) (by omega) dX1_begin_51 ?_
  refine V_iincN (lv' := [(4, _), (0, _), (1, _), (2, _)]) C dX1_begin_52 rfl (b := 1) (by decide) (by decide) rfl ?_
  refine V_goto (tgt := 38) C dX1_begin_55 (by decide) ?_
  refine V_iload C dX1_begin_38 rfl ?_
  refine V_iconst C (nI 3) dX1_begin_40 (by decide) ?_
  refine V_icmpN_ge (tgt := 58) C dX1_begin_41 (by omega) (by omega) (by decide) (fun h41 => ?_) (fun h41 => by omega)
  clear h41
  refine V_aload_n C dX1_begin_58 rfl rfl ?_
  refine gf_X1_22 C (by omega) dX1_begin_59 ?_
  refine V_callV C [] (ct_X8_drop (by omega)) cv_X8_drop lk_X1_46 (in_33 (by omega)) rfl rfl ⟨Nat.le_of_ble_eq_true rfl, Nat.le_of_ble_eq_true rfl⟩ rfl rfl (Nat.le_of_ble_eq_true rfl) dX1_begin_62 (fun r M' hr => ?_)
  obtain ⟨rfl, rfl⟩ := hr
  refine V_aload_n C dX1_begin_65 rfl rfl ?_
  refine V_iconst C (nI 0) dX1_begin_66 (by decide) ?_
  refine pf_X1_26 C (by omega) dX1_begin_67 ?_
  refine V_aload_n C dX1_begin_70 rfl rfl ?_
  refine V_iconst C (nI 0) dX1_begin_71 (by decide) ?_
  refine pf_X1_30 C (by omega) dX1_begin_72 ?_
  refine V_aload_n C dX1_begin_75 rfl rfl ?_
  refine V_iconst C (nI 0) dX1_begin_76 (by decide) ?_
  refine pf_X1_33 C (by omega) dX1_begin_77 ?_
  refine V_aload_n C dX1_begin_80 rfl rfl ?_
  refine V_iconst C (nI 0) dX1_begin_81 (by decide) ?_
  refine pf_X1_36 C (by omega) dX1_begin_82 ?_
  refine V_aload_n C dX1_begin_85 rfl rfl ?_
  refine V_iconst C (nI 0) dX1_begin_86 (by decide) ?_
  refine pf_X1_39 C (by omega) dX1_begin_87 ?_
  refine V_vret C E dX1_begin_90 ?_
  exact ⟨rfl, rfl⟩
