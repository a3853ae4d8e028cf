/-- the reference's METHODS: what its arrays tell of the METHOD m -/
def rac (M : Mem) (m : Nat) : Nat → Nat := fun k => gN M 42 0 (40 * m + k)
def rfs (M : Mem) (m : Nat) : Nat → Nat := fun k => gN M 43 0 (40 * m + k)
def rse (M : Mem) (m : Nat) : Nat → Nat := fun k => gN M 44 0 (40 * m + k)
def rnu (M : Mem) (m : Nat) : Nat → Int64 := fun k => gJ M 45 0 (40 * m + k)
def rav (M : Mem) (m : Nat) : Nat → Nat := fun h => gN M 49 0 (4 * m + h)
def RIm (M : Mem) (m : Nat) : Prop := gN M 41 0 m ≤ 40 ∧ gN M 46 0 m ≤ 4 ∧ (∀ k, k < 40 → gN M 42 0 (40 * m + k) ≤ 18 ∧ gN M 43 0 (40 * m + k) ≤ 3 ∧ gN M 44 0 (40 * m + k) ≤ 3) ∧ (∀ h, h < 4 → gN M 47 0 (4 * m + h) ≤ 40 ∧ gN M 48 0 (4 * m + h) ≤ 40 ∧ gN M 49 0 (4 * m + h) ≤ 40) ∧ (∀ k, k < gN M 41 0 m → nOK (gN M 42 0 (40 * m + k)) (gJ M 45 0 (40 * m + k)))
def RI (M : Mem) : Prop := gN M 40 0 0 ≤ 6 ∧ ∀ m, m < 6 → RIm M m
def totR (M : Mem) (m : Nat) : Nat := tot (rac M m) (rnu M m) (gN M 41 0 m) (gN M 46 0 m)
def rIns (M : Mem) (m a r s : Nat) (v : Int64) : Mem := sN (sJ (sN (sN (sN M 42 0 (40 * m + gN M 41 0 m) a) 43 0 (40 * m + gN M 41 0 m) r) 44 0 (40 * m + gN M 41 0 m) s) 45 0 (40 * m + gN M 41 0 m) v) 41 0 m (gN M 41 0 m + 1)
def rHnd (M : Mem) (m f t a : Nat) (k : Int32) : Mem := sN (sI (sN (sN (sN M 47 0 (4 * m + gN M 46 0 m) f) 48 0 (4 * m + gN M 46 0 m) t) 49 0 (4 * m + gN M 46 0 m) a) 50 0 (4 * m + gN M 46 0 m) k) 46 0 m (gN M 46 0 m + 1)
def layE (M : Mem) (a n : Nat) (g : Int32) : Mem := sN (sI (sN (sN M 61 0 (gN M 40 0 39) a) 62 0 (gN M 40 0 39) n) 63 0 (gN M 40 0 39) g) 40 0 39 (gN M 40 0 39 + 1)
def abR (M : Mem) (m w : Nat) : Int32 := if w = 0 then nI (gN M 41 0 m) else if w = 1 then nI (gN M 46 0 m) else if 70 < totR M m then -4 else nI (1 + gN M 46 0 m + mks (rac M m) (rnu M m) (gN M 41 0 m))
set_option maxRecDepth 20000 in
set_option maxHeartbeats 4000000 in
theorem ct_X11_in {l : Launch} {G : Gm} {M : Mem} {v lo hi : Int64} : Ct l G rM yX11_in (.code yX11_in cX11_in 6 (some .boolean) :: GW) rmX11_in [.long v, .long lo, .long hi] M (fun r M' => some (.int (nI (bN (lo ≤ v ∧ v ≤ hi)))) = r ∧ M = M') := by
  refine Ct_of (cc := cX11_in) (by decide) [(0, _), (2, _), (4, _)] rfl (Nat.le_of_ble_eq_true rfl) (fun pp ee ss mm aa bb mt cd C E => ?_)
  refine V_lload_n C dX11_in_0 rfl rfl ?_
  refine V_lload_n C dX11_in_1 rfl rfl ?_
  refine V_lcmp C dX11_in_2 ?_
  refine V_ifL_lt (tgt := 17) C dX11_in_3 (by decide) (fun h3 => ?_) (fun h3 => ?_)
  · skip
    refine V_iconst C (nI 0) dX11_in_17 (by decide) ?_
    refine V_zret C E dX11_in_18 (by first | decide | (unfold bN; split <;> omega)) ?_
    first | (rw [bN_t (by simp only [Int64.lt_iff_toInt_lt, Int64.le_iff_toInt_le] at *; omega)]; exact ⟨rfl, rfl⟩) | (rw [bN_f (by simp only [Int64.lt_iff_toInt_lt, Int64.le_iff_toInt_le] at *; omega)]; exact ⟨rfl, rfl⟩)
  · skip
    refine V_lload_n C dX11_in_6 rfl rfl ?_
    refine V_lload C dX11_in_7 rfl ?_
    refine V_lcmp C dX11_in_9 ?_
    refine V_ifL_gt (tgt := 17) C dX11_in_10 (by decide) (fun h10 => ?_) (fun h10 => ?_)
    · skip
      refine V_iconst C (nI 0) dX11_in_17 (by decide) ?_
      refine V_zret C E dX11_in_18 (by first | decide | (unfold bN; split <;> omega)) ?_
      first | (rw [bN_t (by simp only [Int64.lt_iff_toInt_lt, Int64.le_iff_toInt_le] at *; omega)]; exact ⟨rfl, rfl⟩) | (rw [bN_f (by simp only [Int64.lt_iff_toInt_lt, Int64.le_iff_toInt_le] at *; omega)]; exact ⟨rfl, rfl⟩)
    · skip
      refine V_iconst C (nI 1) dX11_in_13 (by decide) ?_
      refine V_goto (tgt := 18) C dX11_in_14 (by decide) ?_
      refine V_zret C E dX11_in_18 (by first | decide | (unfold bN; split <;> omega)) ?_
      first | (rw [bN_t (by simp only [Int64.lt_iff_toInt_lt, Int64.le_iff_toInt_le] at *; omega)]; exact ⟨rfl, rfl⟩) | (rw [bN_f (by simp only [Int64.lt_iff_toInt_lt, Int64.le_iff_toInt_le] at *; omega)]; exact ⟨rfl, rfl⟩)

set_option maxRecDepth 20000 in
set_option maxHeartbeats 4000000 in
theorem ct_X11_isMethod {l : Launch} {G : Gm} {M : Mem} {x : Int32} (h6 : gN M 40 0 0 ≤ 6) : Ct l G rM yX11_isMethod (.code yX11_isMethod cX11_isMethod 2 (some .boolean) :: GW) rmX11_isMethod [.ref (ad G 40 0), .int x] M (fun r M' => some (.int (nI (bN (isM (gN M 40 0 0) x)))) = r ∧ M = M') := by
  refine Ct_of (cc := cX11_isMethod) (by decide) [(0, _), (1, _)] rfl (Nat.le_of_ble_eq_true rfl) (fun pp ee ss mm aa bb mt cd C E => ?_)
  refine V_iload_n C dX11_isMethod_0 rfl rfl ?_
  refine V_i2l C dX11_isMethod_1 ?_
  refine V_lconst C (lN 0) dX11_isMethod_2 (by decide) ?_
  refine V_aload_n C dX11_isMethod_3 rfl rfl ?_
  refine gf_X11_80 C dX11_isMethod_4 ?_
  refine V_iconst C (nI 1) dX11_isMethod_7 (by decide) ?_
  refine V_isub C dX11_isMethod_8 ?_
  refine V_i2l C dX11_isMethod_9 ?_
  refine V_callS C [_, _, _] (ct_X11_in) cs_X11_in rfl lk_X11_84 ⟨Nat.le_of_ble_eq_true rfl, Nat.le_of_ble_eq_true rfl⟩ rfl rfl (Nat.le_of_ble_eq_true rfl) dX11_isMethod_10 (fun r M' hr => ?_)
  obtain ⟨rfl, rfl⟩ := hr
  refine V_zret C E dX11_isMethod_13 (bN_le _) ?_
  exact ⟨by rw [bN_iff (wi_iff (by omega))], rfl⟩

set_option maxRecDepth 20000 in
set_option maxHeartbeats 4000000 in
theorem ct_X11_method {l : Launch} {G : Gm} {M : Mem} (h6 : gN M 40 0 0 ≤ 6) : Ct l G rM yX11_method (.code yX11_method cX11_method 1 (some .int) :: GW) rmX11_method [.ref (ad G 40 0)] M (fun r M' => (gN M 40 0 0 = 6 ∧ some (.int (-3)) = r ∧ M = M') ∨ (gN M 40 0 0 < 6 ∧ some (.int (nI (gN M 40 0 0))) = r ∧ sN (sN (sN M 41 0 (gN M 40 0 0) 0) 46 0 (gN M 40 0 0) 0) 40 0 0 (gN M 40 0 0 + 1) = M')) := by
  refine Ct_of (cc := cX11_method) (by decide) [(0, _)] rfl (Nat.le_of_ble_eq_true rfl) (fun pp ee ss mm aa bb mt cd C E => ?_)
  refine V_aload_n C dX11_method_0 rfl rfl ?_
  refine gf_X11_80 C dX11_method_1 ?_
  try simp only [gNN, gNI, gNJ, gIN, gII, gIJ, gJN, gJI, gJJ, Nat.reduceEqDiff, false_and, and_false, true_and, and_true, if_false, if_true]
  refine V_bipush C (nI 6) dX11_method_4 (by decide) ?_
  refine V_icmpN_ne (tgt := 12) C dX11_method_6 (by omega) (by omega) (by decide) (fun h6 => ?_) (fun h6 => ?_)
  · skip
    refine V_aload_n C dX11_method_12 rfl rfl ?_
    refine gf_X11_7 C dX11_method_13 ?_
    try simp only [gNN, gNI, gNJ, gIN, gII, gIJ, gJN, gJI, gJJ, Nat.reduceEqDiff, false_and, and_false, true_and, and_true, if_false, if_true]
    refine V_aload_n C dX11_method_16 rfl rfl ?_
    refine gf_X11_80 C dX11_method_17 ?_
    try simp only [gNN, gNI, gNJ, gIN, gII, gIJ, gJN, gJI, gJJ, Nat.reduceEqDiff, false_and, and_false, true_and, and_true, if_false, if_true]
    refine V_iconst C (nI 0) dX11_method_20 (by decide) ?_
    refine st_41 C (by omega) dX11_method_21 ?_
    refine V_aload_n C dX11_method_22 rfl rfl ?_
    refine gf_X11_26 C dX11_method_23 ?_
    try simp only [gNN, gNI, gNJ, gIN, gII, gIJ, gJN, gJI, gJJ, Nat.reduceEqDiff, false_and, and_false, true_and, and_true, if_false, if_true]
    refine V_aload_n C dX11_method_26 rfl rfl ?_
    refine gf_X11_80 C dX11_method_27 ?_
    try simp only [gNN, gNI, gNJ, gIN, gII, gIJ, gJN, gJI, gJJ, Nat.reduceEqDiff, false_and, and_false, true_and, and_true, if_false, if_true]
    refine V_iconst C (nI 0) dX11_method_30 (by decide) ?_
    refine st_46 C (by omega) dX11_method_31 ?_
    refine V_aload_n C dX11_method_32 rfl rfl ?_
    refine V_dup C dX11_method_33 rfl ?_
    refine gf_X11_80 C dX11_method_34 ?_
    try simp only [gNN, gNI, gNJ, gIN, gII, gIJ, gJN, gJI, gJJ, Nat.reduceEqDiff, false_and, and_false, true_and, and_true, if_false, if_true]
    refine V_iconst C (nI 1) dX11_method_37 (by decide) ?_
    refine V_iaddN C dX11_method_38 ?_
    refine pf_X11_80 C dX11_method_39 ?_
    refine V_aload_n C dX11_method_42 rfl rfl ?_
    refine gf_X11_80 C dX11_method_43 ?_
    try simp only [gNN, gNI, gNJ, gIN, gII, gIJ, gJN, gJI, gJJ, Nat.reduceEqDiff, false_and, and_false, true_and, and_true, if_false, if_true]
    refine V_iconst C (nI 1) dX11_method_46 (by decide) ?_
    refine V_isubN C dX11_method_47 (by omega) ?_
    refine V_iret C E dX11_method_48 ?_
    exact Or.inr ⟨by omega, rfl, rfl⟩
  · skip
    refine V_bipush C (-3) dX11_method_9 (by decide) ?_
    refine V_iret C E dX11_method_11 ?_
    exact Or.inl ⟨by omega, rfl, rfl⟩

set_option maxRecDepth 20000 in
set_option maxHeartbeats 4000000 in
theorem ct_X11_isRight {l : Launch} {G : Gm} {M : Mem} {a : Nat} {v : Int64} (ha : a ≤ 18) : Ct l G rM yX11_isRight (.code yX11_isRight cX11_isRight 3 (some .boolean) :: GW) rmX11_isRight [.int (nI a), .long v] M (fun r M' => some (.int (nI (nfit a v))) = r ∧ M = M') := by
  refine Ct_of (cc := cX11_isRight) (by decide) [(0, _), (1, _)] rfl (Nat.le_of_ble_eq_true rfl) (fun pp ee ss mm aa bb mt cd C E => ?_)
  refine V_iload_n C dX11_isRight_0 rfl rfl ?_
  by_cases h1_6 : a = 6
  · refine V_tabIn (tgt := 68) C dX11_isRight_1 (6) (by rw [h1_6]; decide) (by decide) (by decide) rfl (by decide) ?_
    subst h1_6
    refine V_lload_n C dX11_isRight_68 rfl rfl ?_
    refine V_lconst C (lN 0) dX11_isRight_69 (by decide) ?_
    refine V_ldc2 C kL_X11_88 dX11_isRight_70 ?_
    refine V_callS C [_, _, _] (ct_X11_in) cs_X11_in rfl lk_X11_84 ⟨Nat.le_of_ble_eq_true rfl, Nat.le_of_ble_eq_true rfl⟩ rfl rfl (Nat.le_of_ble_eq_true rfl) dX11_isRight_73 (fun r M' hr => ?_)
    obtain ⟨rfl, rfl⟩ := hr
    refine V_zret C E dX11_isRight_76 (by first | exact bN_le _ | exact Nat.le_refl 1) ?_
    exact ⟨by first | rfl | (simp [nfit]; done) | (unfold nfit; rw [if_neg (by omega), if_neg (by omega), if_neg (by omega), if_neg (by omega)]), rfl⟩
  by_cases h1_7 : a = 7
  · refine V_tabIn (tgt := 68) C dX11_isRight_1 (7) (by rw [h1_7]; decide) (by decide) (by decide) rfl (by decide) ?_
    subst h1_7
    refine V_lload_n C dX11_isRight_68 rfl rfl ?_
    refine V_lconst C (lN 0) dX11_isRight_69 (by decide) ?_
    refine V_ldc2 C kL_X11_88 dX11_isRight_70 ?_
    refine V_callS C [_, _, _] (ct_X11_in) cs_X11_in rfl lk_X11_84 ⟨Nat.le_of_ble_eq_true rfl, Nat.le_of_ble_eq_true rfl⟩ rfl rfl (Nat.le_of_ble_eq_true rfl) dX11_isRight_73 (fun r M' hr => ?_)
    obtain ⟨rfl, rfl⟩ := hr
    refine V_zret C E dX11_isRight_76 (by first | exact bN_le _ | exact Nat.le_refl 1) ?_
    exact ⟨by first | rfl | (simp [nfit]; done) | (unfold nfit; rw [if_neg (by omega), if_neg (by omega), if_neg (by omega), if_neg (by omega)]), rfl⟩
  by_cases h1_8 : a = 8
  · refine V_tabIn (tgt := 77) C dX11_isRight_1 (8) (by rw [h1_8]; decide) (by decide) (by decide) rfl (by decide) ?_
    subst h1_8
    refine V_lload_n C dX11_isRight_77 rfl rfl ?_
    refine V_lconst C (lN 0) dX11_isRight_78 (by decide) ?_
    refine V_ldc2 C kL_X11_90 dX11_isRight_79 ?_
    refine V_callS C [_, _, _] (ct_X11_in) cs_X11_in rfl lk_X11_84 ⟨Nat.le_of_ble_eq_true rfl, Nat.le_of_ble_eq_true rfl⟩ rfl rfl (Nat.le_of_ble_eq_true rfl) dX11_isRight_82 (fun r M' hr => ?_)
    obtain ⟨rfl, rfl⟩ := hr
    refine V_zret C E dX11_isRight_85 (by first | exact bN_le _ | exact Nat.le_refl 1) ?_
    exact ⟨by first | rfl | (simp [nfit]; done) | (unfold nfit; rw [if_neg (by omega), if_neg (by omega), if_neg (by omega), if_neg (by omega)]), rfl⟩
  by_cases h1_11 : a = 11
  · refine V_tabIn (tgt := 77) C dX11_isRight_1 (11) (by rw [h1_11]; decide) (by decide) (by decide) rfl (by decide) ?_
    subst h1_11
    refine V_lload_n C dX11_isRight_77 rfl rfl ?_
    refine V_lconst C (lN 0) dX11_isRight_78 (by decide) ?_
    refine V_ldc2 C kL_X11_90 dX11_isRight_79 ?_
    refine V_callS C [_, _, _] (ct_X11_in) cs_X11_in rfl lk_X11_84 ⟨Nat.le_of_ble_eq_true rfl, Nat.le_of_ble_eq_true rfl⟩ rfl rfl (Nat.le_of_ble_eq_true rfl) dX11_isRight_82 (fun r M' hr => ?_)
    obtain ⟨rfl, rfl⟩ := hr
    refine V_zret C E dX11_isRight_85 (by first | exact bN_le _ | exact Nat.le_refl 1) ?_
    exact ⟨by first | rfl | (simp [nfit]; done) | (unfold nfit; rw [if_neg (by omega), if_neg (by omega), if_neg (by omega), if_neg (by omega)]), rfl⟩
  by_cases h1_13 : a = 13
  · refine V_tabIn (tgt := 86) C dX11_isRight_1 (13) (by rw [h1_13]; decide) (by decide) (by decide) rfl (by decide) ?_
    subst h1_13
    refine V_lload_n C dX11_isRight_86 rfl rfl ?_
    refine V_lconst C (lN 0) dX11_isRight_87 (by decide) ?_
    refine V_ldc2 C kL_X11_92 dX11_isRight_88 ?_
    refine V_callS C [_, _, _] (ct_X11_in) cs_X11_in rfl lk_X11_84 ⟨Nat.le_of_ble_eq_true rfl, Nat.le_of_ble_eq_true rfl⟩ rfl rfl (Nat.le_of_ble_eq_true rfl) dX11_isRight_91 (fun r M' hr => ?_)
    obtain ⟨rfl, rfl⟩ := hr
    refine V_zret C E dX11_isRight_94 (by first | exact bN_le _ | exact Nat.le_refl 1) ?_
    exact ⟨by first | rfl | (simp [nfit]; done) | (unfold nfit; rw [if_neg (by omega), if_neg (by omega), if_neg (by omega), if_neg (by omega)]), rfl⟩
  by_cases h1_17 : a = 17
  · refine V_tabIn (tgt := 95) C dX11_isRight_1 (17) (by rw [h1_17]; decide) (by decide) (by decide) rfl (by decide) ?_
    subst h1_17
    refine V_lload_n C dX11_isRight_95 rfl rfl ?_
    refine V_lconst C (lN 0) dX11_isRight_96 (by decide) ?_
    refine V_ldc2 C kL_X11_94 dX11_isRight_97 ?_
    refine V_callS C [_, _, _] (ct_X11_in) cs_X11_in rfl lk_X11_84 ⟨Nat.le_of_ble_eq_true rfl, Nat.le_of_ble_eq_true rfl⟩ rfl rfl (Nat.le_of_ble_eq_true rfl) dX11_isRight_100 (fun r M' hr => ?_)
    obtain ⟨rfl, rfl⟩ := hr
    refine V_zret C E dX11_isRight_103 (by first | exact bN_le _ | exact Nat.le_refl 1) ?_
    exact ⟨by first | rfl | (simp [nfit]; done) | (unfold nfit; rw [if_neg (by omega), if_neg (by omega), if_neg (by omega), if_neg (by omega)]), rfl⟩
  by_cases h1_18 : a = 18
  · refine V_tabIn (tgt := 95) C dX11_isRight_1 (18) (by rw [h1_18]; decide) (by decide) (by decide) rfl (by decide) ?_
    subst h1_18
    refine V_lload_n C dX11_isRight_95 rfl rfl ?_
    refine V_lconst C (lN 0) dX11_isRight_96 (by decide) ?_
    refine V_ldc2 C kL_X11_94 dX11_isRight_97 ?_
    refine V_callS C [_, _, _] (ct_X11_in) cs_X11_in rfl lk_X11_84 ⟨Nat.le_of_ble_eq_true rfl, Nat.le_of_ble_eq_true rfl⟩ rfl rfl (Nat.le_of_ble_eq_true rfl) dX11_isRight_100 (fun r M' hr => ?_)
    obtain ⟨rfl, rfl⟩ := hr
    refine V_zret C E dX11_isRight_103 (by first | exact bN_le _ | exact Nat.le_refl 1) ?_
    exact ⟨by first | rfl | (simp [nfit]; done) | (unfold nfit; rw [if_neg (by omega), if_neg (by omega), if_neg (by omega), if_neg (by omega)]), rfl⟩
  by_cases h1_9 : a = 9
  · refine V_tabIn (tgt := 104) C dX11_isRight_1 (9) (by rw [h1_9]; decide) (by decide) (by decide) rfl (by decide) ?_
    subst h1_9
    refine V_iconst C (nI 1) dX11_isRight_104 (by decide) ?_
    refine V_zret C E dX11_isRight_105 (by first | exact bN_le _ | exact Nat.le_refl 1) ?_
    exact ⟨by first | rfl | (simp [nfit]; done) | (unfold nfit; rw [if_neg (by omega), if_neg (by omega), if_neg (by omega), if_neg (by omega)]), rfl⟩
  by_cases h1_10 : a = 10
  · refine V_tabIn (tgt := 104) C dX11_isRight_1 (10) (by rw [h1_10]; decide) (by decide) (by decide) rfl (by decide) ?_
    subst h1_10
    refine V_iconst C (nI 1) dX11_isRight_104 (by decide) ?_
    refine V_zret C E dX11_isRight_105 (by first | exact bN_le _ | exact Nat.le_refl 1) ?_
    exact ⟨by first | rfl | (simp [nfit]; done) | (unfold nfit; rw [if_neg (by omega), if_neg (by omega), if_neg (by omega), if_neg (by omega)]), rfl⟩
  by_cases h1_12 : a = 12
  · refine V_tabIn (tgt := 104) C dX11_isRight_1 (12) (by rw [h1_12]; decide) (by decide) (by decide) rfl (by decide) ?_
    subst h1_12
    refine V_iconst C (nI 1) dX11_isRight_104 (by decide) ?_
    refine V_zret C E dX11_isRight_105 (by first | exact bN_le _ | exact Nat.le_refl 1) ?_
    exact ⟨by first | rfl | (simp [nfit]; done) | (unfold nfit; rw [if_neg (by omega), if_neg (by omega), if_neg (by omega), if_neg (by omega)]), rfl⟩
  by_cases h1_14 : a = 14
  · refine V_tabIn (tgt := 104) C dX11_isRight_1 (14) (by rw [h1_14]; decide) (by decide) (by decide) rfl (by decide) ?_
    subst h1_14
    refine V_iconst C (nI 1) dX11_isRight_104 (by decide) ?_
    refine V_zret C E dX11_isRight_105 (by first | exact bN_le _ | exact Nat.le_refl 1) ?_
    exact ⟨by first | rfl | (simp [nfit]; done) | (unfold nfit; rw [if_neg (by omega), if_neg (by omega), if_neg (by omega), if_neg (by omega)]), rfl⟩
  by_cases h1_15 : a = 15
  · refine V_tabIn (tgt := 104) C dX11_isRight_1 (15) (by rw [h1_15]; decide) (by decide) (by decide) rfl (by decide) ?_
    subst h1_15
    refine V_iconst C (nI 1) dX11_isRight_104 (by decide) ?_
    refine V_zret C E dX11_isRight_105 (by first | exact bN_le _ | exact Nat.le_refl 1) ?_
    exact ⟨by first | rfl | (simp [nfit]; done) | (unfold nfit; rw [if_neg (by omega), if_neg (by omega), if_neg (by omega), if_neg (by omega)]), rfl⟩
  by_cases h1_16 : a = 16
  · refine V_tabIn (tgt := 104) C dX11_isRight_1 (16) (by rw [h1_16]; decide) (by decide) (by decide) rfl (by decide) ?_
    subst h1_16
    refine V_iconst C (nI 1) dX11_isRight_104 (by decide) ?_
    refine V_zret C E dX11_isRight_105 (by first | exact bN_le _ | exact Nat.le_refl 1) ?_
    exact ⟨by first | rfl | (simp [nfit]; done) | (unfold nfit; rw [if_neg (by omega), if_neg (by omega), if_neg (by omega), if_neg (by omega)]), rfl⟩
  refine V_tabOut (tgt := 104) C dX11_isRight_1 (by rw [nI_toInt (show a < 2 ^ 31 by omega)]; omega) (by decide) ?_
  refine V_iconst C (nI 1) dX11_isRight_104 (by decide) ?_
  refine V_zret C E dX11_isRight_105 (by first | exact bN_le _ | exact Nat.le_refl 1) ?_
  exact ⟨by first | rfl | (simp [nfit]; done) | (unfold nfit; rw [if_neg (by omega), if_neg (by omega), if_neg (by omega), if_neg (by omega)]), rfl⟩

set_option maxRecDepth 20000 in
set_option maxHeartbeats 4000000 in
theorem ct_X11_instruction {l : Launch} {G : Gm} {M : Mem} {m a r s : Int32} {v : Int64} (hp : RI M) : Ct l G rM yX11_instruction (.code yX11_instruction cX11_instruction 8 (some .int) :: GW) rmX11_instruction [.ref (ad G 40 0), .int m, .int a, .int r, .int s, .long v] M (fun ra M' => (∃ c a' r' s', c < gN M 40 0 0 ∧ m = nI c ∧ a' ≤ 18 ∧ a = nI a' ∧ r' ≤ 3 ∧ r = nI r' ∧ s' ≤ 3 ∧ s = nI s' ∧ nfit a' v = 1 ∧ ((gN M 41 0 c = 40 ∧ some (.int (-3)) = ra ∧ M = M') ∨ (gN M 41 0 c < 40 ∧ some (.int (nI (gN M 41 0 c))) = ra ∧ rIns M c a' r' s' v = M'))) ∨ (¬ OKI (gN M 40 0 0) m a r s v ∧ some (.int (-2)) = ra ∧ M = M')) := by
  have h6 := hp.1
  refine Ct_of (cc := cX11_instruction) (by decide) [(0, _), (1, _), (2, _), (3, _), (4, _), (5, _)] rfl (Nat.le_of_ble_eq_true rfl) (fun pp ee ss mm aa bb mt cd C E => ?_)
  refine V_aload_n C dX11_instruction_0 rfl rfl ?_
  refine V_iload_n C dX11_instruction_1 rfl rfl ?_
  refine V_callV C [_] (ct_X11_isMethod (by omega)) cv_X11_isMethod lk_X11_96 in_40 rfl rfl ⟨Nat.le_of_ble_eq_true rfl, Nat.le_of_ble_eq_true rfl⟩ rfl rfl (Nat.le_of_ble_eq_true rfl) dX11_instruction_2 (fun r M' hr => ?_)
  obtain ⟨rfl, rfl⟩ := hr
  try simp only [gNN, gNI, gNJ, gIN, gII, gIJ, gJN, gJI, gJJ, Nat.reduceEqDiff, false_and, and_false, true_and, and_true, if_false, if_true]
  refine V_ifB_eq (tgt := 54) C dX11_instruction_5 (by decide) (fun h5 => ?_) (fun h5 => ?_)
  · skip
    refine V_bipush C (-2) dX11_instruction_54 (by decide) ?_
    refine V_iret C E dX11_instruction_56 ?_
    refine Or.inr ⟨fun q => ?_, rfl, rfl⟩
    obtain ⟨q1, q2, q3, q4, q5⟩ := q
    first | exact h5 q1 | exact h17 ((w0_iff (by decide)).mpr q2) | exact h29 ((w0_iff (by decide)).mpr q3) | exact h42 ((w0_iff (by decide)).mpr q4) | (rw [nI_toInt (by omega), Int.toNat_natCast] at q5; omega)
  · skip
    obtain ⟨c, hc, rfl⟩ := isM_of h5 (by omega)
    refine V_iload_n C dX11_instruction_8 rfl rfl ?_
    refine V_i2l C dX11_instruction_9 ?_
    refine V_lconst C (lN 0) dX11_instruction_10 (by decide) ?_
    refine V_ldc2 C kL_X11_100 dX11_instruction_11 ?_
    refine V_callS C [_, _, _] (ct_X11_in) cs_X11_in rfl lk_X11_84 ⟨Nat.le_of_ble_eq_true rfl, Nat.le_of_ble_eq_true rfl⟩ rfl rfl (Nat.le_of_ble_eq_true rfl) dX11_instruction_14 (fun r M' hr => ?_)
    obtain ⟨rfl, rfl⟩ := hr
    try simp only [gNN, gNI, gNJ, gIN, gII, gIJ, gJN, gJI, gJJ, Nat.reduceEqDiff, false_and, and_false, true_and, and_true, if_false, if_true]
    refine V_ifB_eq (tgt := 54) C dX11_instruction_17 (by decide) (fun h17 => ?_) (fun h17 => ?_)
    · skip
      refine V_bipush C (-2) dX11_instruction_54 (by decide) ?_
      refine V_iret C E dX11_instruction_56 ?_
      refine Or.inr ⟨fun q => ?_, rfl, rfl⟩
      obtain ⟨q1, q2, q3, q4, q5⟩ := q
      first | exact h5 q1 | exact h17 ((w0_iff (by decide)).mpr q2) | exact h29 ((w0_iff (by decide)).mpr q3) | exact h42 ((w0_iff (by decide)).mpr q4) | (rw [nI_toInt (by omega), Int.toNat_natCast] at q5; omega)
    · skip
      obtain ⟨a', ha, rfl⟩ := isM_of ((w0_iff (by decide)).mp h17) (by decide)
      refine V_iload_n C dX11_instruction_20 rfl rfl ?_
      refine V_i2l C dX11_instruction_21 ?_
      refine V_lconst C (lN 0) dX11_instruction_22 (by decide) ?_
      refine V_ldc2 C kL_X11_102 dX11_instruction_23 ?_
      refine V_callS C [_, _, _] (ct_X11_in) cs_X11_in rfl lk_X11_84 ⟨Nat.le_of_ble_eq_true rfl, Nat.le_of_ble_eq_true rfl⟩ rfl rfl (Nat.le_of_ble_eq_true rfl) dX11_instruction_26 (fun r M' hr => ?_)
      obtain ⟨rfl, rfl⟩ := hr
      try simp only [gNN, gNI, gNJ, gIN, gII, gIJ, gJN, gJI, gJJ, Nat.reduceEqDiff, false_and, and_false, true_and, and_true, if_false, if_true]
      refine V_ifB_eq (tgt := 54) C dX11_instruction_29 (by decide) (fun h29 => ?_) (fun h29 => ?_)
      · skip
        refine V_bipush C (-2) dX11_instruction_54 (by decide) ?_
        refine V_iret C E dX11_instruction_56 ?_
        refine Or.inr ⟨fun q => ?_, rfl, rfl⟩
        obtain ⟨q1, q2, q3, q4, q5⟩ := q
        first | exact h5 q1 | exact h17 ((w0_iff (by decide)).mpr q2) | exact h29 ((w0_iff (by decide)).mpr q3) | exact h42 ((w0_iff (by decide)).mpr q4) | (rw [nI_toInt (by omega), Int.toNat_natCast] at q5; omega)
      · skip
        obtain ⟨r', hr', rfl⟩ := isM_of ((w0_iff (by decide)).mp h29) (by decide)
        refine V_iload C dX11_instruction_32 rfl ?_
        refine V_i2l C dX11_instruction_34 ?_
        refine V_lconst C (lN 0) dX11_instruction_35 (by decide) ?_
        refine V_ldc2 C kL_X11_102 dX11_instruction_36 ?_
        refine V_callS C [_, _, _] (ct_X11_in) cs_X11_in rfl lk_X11_84 ⟨Nat.le_of_ble_eq_true rfl, Nat.le_of_ble_eq_true rfl⟩ rfl rfl (Nat.le_of_ble_eq_true rfl) dX11_instruction_39 (fun r M' hr => ?_)
        obtain ⟨rfl, rfl⟩ := hr
        try simp only [gNN, gNI, gNJ, gIN, gII, gIJ, gJN, gJI, gJJ, Nat.reduceEqDiff, false_and, and_false, true_and, and_true, if_false, if_true]
        refine V_ifB_eq (tgt := 54) C dX11_instruction_42 (by decide) (fun h42 => ?_) (fun h42 => ?_)
        · skip
          refine V_bipush C (-2) dX11_instruction_54 (by decide) ?_
          refine V_iret C E dX11_instruction_56 ?_
          refine Or.inr ⟨fun q => ?_, rfl, rfl⟩
          obtain ⟨q1, q2, q3, q4, q5⟩ := q
          first | exact h5 q1 | exact h17 ((w0_iff (by decide)).mpr q2) | exact h29 ((w0_iff (by decide)).mpr q3) | exact h42 ((w0_iff (by decide)).mpr q4) | (rw [nI_toInt (by omega), Int.toNat_natCast] at q5; omega)
        · skip
          obtain ⟨s', hs', rfl⟩ := isM_of ((w0_iff (by decide)).mp h42) (by decide)
          have hnl := nfit_le a' v
          refine V_iload_n C dX11_instruction_45 rfl rfl ?_
          refine V_lload C dX11_instruction_46 rfl ?_
          refine V_callS C [_, _] (ct_X11_isRight (a := a') (by omega)) cs_X11_isRight rfl lk_X11_104 ⟨Nat.le_of_ble_eq_true rfl, Nat.le_of_ble_eq_true rfl⟩ rfl rfl (Nat.le_of_ble_eq_true rfl) dX11_instruction_48 (fun r M' hr => ?_)
          obtain ⟨rfl, rfl⟩ := hr
          try simp only [gNN, gNI, gNJ, gIN, gII, gIJ, gJN, gJI, gJJ, Nat.reduceEqDiff, false_and, and_false, true_and, and_true, if_false, if_true]
          refine V_ifN_ne (tgt := 57) C dX11_instruction_51 (by omega) (by decide) (fun h51 => ?_) (fun h51 => ?_)
          · skip
            have hnf : nfit a' v = 1 := by omega
            have hm := hp.2 c (by omega)
            have hz40 := hm.1
            refine V_aload_n C dX11_instruction_57 rfl rfl ?_
            refine gf_X11_7 C dX11_instruction_58 ?_
            try simp only [gNN, gNI, gNJ, gIN, gII, gIJ, gJN, gJI, gJJ, Nat.reduceEqDiff, false_and, and_false, true_and, and_true, if_false, if_true]
            refine V_iload_n C dX11_instruction_61 rfl rfl ?_
            refine ld_41 C (by omega) dX11_instruction_62 ?_
            try simp only [gNN, gNI, gNJ, gIN, gII, gIJ, gJN, gJI, gJJ, Nat.reduceEqDiff, false_and, and_false, true_and, and_true, if_false, if_true]
            refine V_bipush C (nI 40) dX11_instruction_63 (by decide) ?_
            refine V_icmpN_ne (tgt := 71) C dX11_instruction_65 (by omega) (by omega) (by decide) (fun h65 => ?_) (fun h65 => ?_)
            · skip
              refine V_bipush C (nI 40) dX11_instruction_71 (by decide) ?_
              refine V_iload_n C dX11_instruction_73 rfl rfl ?_
              refine V_imulN C dX11_instruction_74 ?_
              refine V_aload_n C dX11_instruction_75 rfl rfl ?_
              refine gf_X11_7 C dX11_instruction_76 ?_
              try simp only [gNN, gNI, gNJ, gIN, gII, gIJ, gJN, gJI, gJJ, Nat.reduceEqDiff, false_and, and_false, true_and, and_true, if_false, if_true]
              refine V_iload_n C dX11_instruction_79 rfl rfl ?_
              refine ld_41 C (by omega) dX11_instruction_80 ?_
              try simp only [gNN, gNI, gNJ, gIN, gII, gIJ, gJN, gJI, gJJ, Nat.reduceEqDiff, false_and, and_false, true_and, and_true, if_false, if_true]
              refine V_iaddN C dX11_instruction_81 ?_
              refine V_istore (lv' := [(7, _), (0, _), (1, _), (2, _), (3, _), (4, _), (5, _)]) C dX11_instruction_82 (by decide) rfl ?_
              refine V_aload_n C dX11_instruction_84 rfl rfl ?_
              refine gf_X11_13 C dX11_instruction_85 ?_
              try simp only [gNN, gNI, gNJ, gIN, gII, gIJ, gJN, gJI, gJJ, Nat.reduceEqDiff, false_and, and_false, true_and, and_true, if_false, if_true]
              refine V_iload C dX11_instruction_88 rfl ?_
              refine V_iload_n C dX11_instruction_90 rfl rfl ?_
              refine st_42 C (by omega) dX11_instruction_91 ?_
              refine V_aload_n C dX11_instruction_92 rfl rfl ?_
              refine gf_X11_16 C dX11_instruction_93 ?_
              try simp only [gNN, gNI, gNJ, gIN, gII, gIJ, gJN, gJI, gJJ, Nat.reduceEqDiff, false_and, and_false, true_and, and_true, if_false, if_true]
              refine V_iload C dX11_instruction_96 rfl ?_
              refine V_iload_n C dX11_instruction_98 rfl rfl ?_
              refine st_43 C (by omega) dX11_instruction_99 ?_
              refine V_aload_n C dX11_instruction_100 rfl rfl ?_
              refine gf_X11_19 C dX11_instruction_101 ?_
              try simp only [gNN, gNI, gNJ, gIN, gII, gIJ, gJN, gJI, gJJ, Nat.reduceEqDiff, false_and, and_false, true_and, and_true, if_false, if_true]
              refine V_iload C dX11_instruction_104 rfl ?_
              refine V_iload C dX11_instruction_106 rfl ?_
              refine st_44 C (by omega) dX11_instruction_108 ?_
              refine V_aload_n C dX11_instruction_109 rfl rfl ?_
              refine gf_X11_22 C dX11_instruction_110 ?_
              try simp only [gNN, gNI, gNJ, gIN, gII, gIJ, gJN, gJI, gJJ, Nat.reduceEqDiff, false_and, and_false, true_and, and_true, if_false, if_true]
              refine V_iload C dX11_instruction_113 rfl ?_
              refine V_lload C dX11_instruction_115 rfl ?_
              refine st_45 C (by omega) dX11_instruction_117 ?_
              refine V_aload_n C dX11_instruction_118 rfl rfl ?_
              refine gf_X11_7 C dX11_instruction_119 ?_
              try simp only [gNN, gNI, gNJ, gIN, gII, gIJ, gJN, gJI, gJJ, Nat.reduceEqDiff, false_and, and_false, true_and, and_true, if_false, if_true]
              refine V_iload_n C dX11_instruction_122 rfl rfl ?_
              refine V_dup2 C dX11_instruction_123 rfl rfl ?_
              refine ld_41 C (by omega) dX11_instruction_124 ?_
              try simp only [gNN, gNI, gNJ, gIN, gII, gIJ, gJN, gJI, gJJ, Nat.reduceEqDiff, false_and, and_false, true_and, and_true, if_false, if_true]
              refine V_iconst C (nI 1) dX11_instruction_125 (by decide) ?_
              refine V_iaddN C dX11_instruction_126 ?_
              refine st_41 C (by omega) dX11_instruction_127 ?_
              refine V_aload_n C dX11_instruction_128 rfl rfl ?_
              refine gf_X11_7 C dX11_instruction_129 ?_
              try simp only [gNN, gNI, gNJ, gIN, gII, gIJ, gJN, gJI, gJJ, Nat.reduceEqDiff, false_and, and_false, true_and, and_true, if_false, if_true]
              refine V_iload_n C dX11_instruction_132 rfl rfl ?_
              refine ld_41 C (by omega) dX11_instruction_133 ?_
              try simp only [gNN, gNI, gNJ, gIN, gII, gIJ, gJN, gJI, gJJ, Nat.reduceEqDiff, false_and, and_false, true_and, and_true, if_false, if_true]
              refine V_iconst C (nI 1) dX11_instruction_134 (by decide) ?_
              refine V_isubN C dX11_instruction_135 (by omega) ?_
              refine V_iret C E dX11_instruction_136 ?_
              exact Or.inl ⟨c, a', r', s', hc, rfl, by omega, rfl, by omega, rfl, by omega, rfl, hnf, Or.inr ⟨by omega, rfl, rfl⟩⟩
            · skip
              refine V_bipush C (-3) dX11_instruction_68 (by decide) ?_
              refine V_iret C E dX11_instruction_70 ?_
              exact Or.inl ⟨c, a', r', s', hc, rfl, by omega, rfl, by omega, rfl, by omega, rfl, hnf, Or.inl ⟨by omega, rfl, rfl⟩⟩
          · skip
            refine V_bipush C (-2) dX11_instruction_54 (by decide) ?_
            refine V_iret C E dX11_instruction_56 ?_
            refine Or.inr ⟨fun q => ?_, rfl, rfl⟩
            obtain ⟨q1, q2, q3, q4, q5⟩ := q
            first | exact h5 q1 | exact h17 ((w0_iff (by decide)).mpr q2) | exact h29 ((w0_iff (by decide)).mpr q3) | exact h42 ((w0_iff (by decide)).mpr q4) | (rw [nI_toInt (by omega), Int.toNat_natCast] at q5; omega)

set_option maxRecDepth 20000 in
set_option maxHeartbeats 4000000 in
theorem ct_X11_handler {l : Launch} {G : Gm} {M : Mem} {m f t a k : Int32} (hp : RI M) : Ct l G rM yX11_handler (.code yX11_handler cX11_handler 7 (some .int) :: GW) rmX11_handler [.ref (ad G 40 0), .int m, .int f, .int t, .int a, .int k] M (fun ra M' => (∃ c f' t' a', c < gN M 40 0 0 ∧ m = nI c ∧ f' ≤ 40 ∧ f = nI f' ∧ t' ≤ 40 ∧ t = nI t' ∧ a' ≤ 40 ∧ a = nI a' ∧ k &&& (-511) = 0 ∧ ((gN M 46 0 c = 4 ∧ some (.int (-3)) = ra ∧ M = M') ∨ (gN M 46 0 c < 4 ∧ some (.int (nI (gN M 46 0 c))) = ra ∧ rHnd M c f' t' a' k = M'))) ∨ (¬ OKH (gN M 40 0 0) m f t a k ∧ some (.int (-2)) = ra ∧ M = M')) := by
  have h6 := hp.1
  refine Ct_of (cc := cX11_handler) (by decide) [(0, _), (1, _), (2, _), (3, _), (4, _), (5, _)] rfl (Nat.le_of_ble_eq_true rfl) (fun pp ee ss mm aa bb mt cd C E => ?_)
  refine V_aload_n C dX11_handler_0 rfl rfl ?_
  refine V_iload_n C dX11_handler_1 rfl rfl ?_
  refine V_callV C [_] (ct_X11_isMethod (by omega)) cv_X11_isMethod lk_X11_96 in_40 rfl rfl ⟨Nat.le_of_ble_eq_true rfl, Nat.le_of_ble_eq_true rfl⟩ rfl rfl (Nat.le_of_ble_eq_true rfl) dX11_handler_2 (fun r M' hr => ?_)
  obtain ⟨rfl, rfl⟩ := hr
  try simp only [gNN, gNI, gNJ, gIN, gII, gIJ, gJN, gJI, gJJ, Nat.reduceEqDiff, false_and, and_false, true_and, and_true, if_false, if_true]
  refine V_ifB_eq (tgt := 54) C dX11_handler_5 (by decide) (fun h5 => ?_) (fun h5 => ?_)
  · skip
    refine V_bipush C (-2) dX11_handler_54 (by decide) ?_
    refine V_iret C E dX11_handler_56 ?_
    refine Or.inr ⟨fun q => ?_, rfl, rfl⟩
    obtain ⟨q1, q2, q3, q4, q5⟩ := q
    first | exact h5 q1 | exact h17 ((w0_iff (by decide)).mpr q2) | exact h29 ((w0_iff (by decide)).mpr q3) | exact h42 ((w0_iff (by decide)).mpr q4) | exact h51 q5
  · skip
    obtain ⟨c, hc, rfl⟩ := isM_of h5 (by omega)
    refine V_iload_n C dX11_handler_8 rfl rfl ?_
    refine V_i2l C dX11_handler_9 ?_
    refine V_lconst C (lN 0) dX11_handler_10 (by decide) ?_
    refine V_ldc2 C kL_X11_88 dX11_handler_11 ?_
    refine V_callS C [_, _, _] (ct_X11_in) cs_X11_in rfl lk_X11_84 ⟨Nat.le_of_ble_eq_true rfl, Nat.le_of_ble_eq_true rfl⟩ rfl rfl (Nat.le_of_ble_eq_true rfl) dX11_handler_14 (fun r M' hr => ?_)
    obtain ⟨rfl, rfl⟩ := hr
    try simp only [gNN, gNI, gNJ, gIN, gII, gIJ, gJN, gJI, gJJ, Nat.reduceEqDiff, false_and, and_false, true_and, and_true, if_false, if_true]
    refine V_ifB_eq (tgt := 54) C dX11_handler_17 (by decide) (fun h17 => ?_) (fun h17 => ?_)
    · skip
      refine V_bipush C (-2) dX11_handler_54 (by decide) ?_
      refine V_iret C E dX11_handler_56 ?_
      refine Or.inr ⟨fun q => ?_, rfl, rfl⟩
      obtain ⟨q1, q2, q3, q4, q5⟩ := q
      first | exact h5 q1 | exact h17 ((w0_iff (by decide)).mpr q2) | exact h29 ((w0_iff (by decide)).mpr q3) | exact h42 ((w0_iff (by decide)).mpr q4) | exact h51 q5
    · skip
      obtain ⟨f', hf', rfl⟩ := isM_of ((w0_iff (by decide)).mp h17) (by decide)
      refine V_iload_n C dX11_handler_20 rfl rfl ?_
      refine V_i2l C dX11_handler_21 ?_
      refine V_lconst C (lN 0) dX11_handler_22 (by decide) ?_
      refine V_ldc2 C kL_X11_88 dX11_handler_23 ?_
      refine V_callS C [_, _, _] (ct_X11_in) cs_X11_in rfl lk_X11_84 ⟨Nat.le_of_ble_eq_true rfl, Nat.le_of_ble_eq_true rfl⟩ rfl rfl (Nat.le_of_ble_eq_true rfl) dX11_handler_26 (fun r M' hr => ?_)
      obtain ⟨rfl, rfl⟩ := hr
      try simp only [gNN, gNI, gNJ, gIN, gII, gIJ, gJN, gJI, gJJ, Nat.reduceEqDiff, false_and, and_false, true_and, and_true, if_false, if_true]
      refine V_ifB_eq (tgt := 54) C dX11_handler_29 (by decide) (fun h29 => ?_) (fun h29 => ?_)
      · skip
        refine V_bipush C (-2) dX11_handler_54 (by decide) ?_
        refine V_iret C E dX11_handler_56 ?_
        refine Or.inr ⟨fun q => ?_, rfl, rfl⟩
        obtain ⟨q1, q2, q3, q4, q5⟩ := q
        first | exact h5 q1 | exact h17 ((w0_iff (by decide)).mpr q2) | exact h29 ((w0_iff (by decide)).mpr q3) | exact h42 ((w0_iff (by decide)).mpr q4) | exact h51 q5
      · skip
        obtain ⟨t', ht', rfl⟩ := isM_of ((w0_iff (by decide)).mp h29) (by decide)
        refine V_iload C dX11_handler_32 rfl ?_
        refine V_i2l C dX11_handler_34 ?_
        refine V_lconst C (lN 0) dX11_handler_35 (by decide) ?_
        refine V_ldc2 C kL_X11_88 dX11_handler_36 ?_
        refine V_callS C [_, _, _] (ct_X11_in) cs_X11_in rfl lk_X11_84 ⟨Nat.le_of_ble_eq_true rfl, Nat.le_of_ble_eq_true rfl⟩ rfl rfl (Nat.le_of_ble_eq_true rfl) dX11_handler_39 (fun r M' hr => ?_)
        obtain ⟨rfl, rfl⟩ := hr
        try simp only [gNN, gNI, gNJ, gIN, gII, gIJ, gJN, gJI, gJJ, Nat.reduceEqDiff, false_and, and_false, true_and, and_true, if_false, if_true]
        refine V_ifB_eq (tgt := 54) C dX11_handler_42 (by decide) (fun h42 => ?_) (fun h42 => ?_)
        · skip
          refine V_bipush C (-2) dX11_handler_54 (by decide) ?_
          refine V_iret C E dX11_handler_56 ?_
          refine Or.inr ⟨fun q => ?_, rfl, rfl⟩
          obtain ⟨q1, q2, q3, q4, q5⟩ := q
          first | exact h5 q1 | exact h17 ((w0_iff (by decide)).mpr q2) | exact h29 ((w0_iff (by decide)).mpr q3) | exact h42 ((w0_iff (by decide)).mpr q4) | exact h51 q5
        · skip
          obtain ⟨a', ha', rfl⟩ := isM_of ((w0_iff (by decide)).mp h42) (by decide)
          refine V_iload C dX11_handler_45 rfl ?_
          refine V_sipush C (-511) dX11_handler_47 (by decide) ?_
          refine V_iand C dX11_handler_50 ?_
          refine V_if_eq (tgt := 57) C dX11_handler_51 (by decide) (fun h51 => ?_) (fun h51 => ?_)
          · skip
            have hm := hp.2 c (by omega)
            have hz4 := hm.2.1
            refine V_aload_n C dX11_handler_57 rfl rfl ?_
            refine gf_X11_26 C dX11_handler_58 ?_
            try simp only [gNN, gNI, gNJ, gIN, gII, gIJ, gJN, gJI, gJJ, Nat.reduceEqDiff, false_and, and_false, true_and, and_true, if_false, if_true]
            refine V_iload_n C dX11_handler_61 rfl rfl ?_
            refine ld_46 C (by omega) dX11_handler_62 ?_
            try simp only [gNN, gNI, gNJ, gIN, gII, gIJ, gJN, gJI, gJJ, Nat.reduceEqDiff, false_and, and_false, true_and, and_true, if_false, if_true]
            refine V_iconst C (nI 4) dX11_handler_63 (by decide) ?_
            refine V_icmpN_ne (tgt := 70) C dX11_handler_64 (by omega) (by omega) (by decide) (fun h64 => ?_) (fun h64 => ?_)
            · skip
              refine V_iconst C (nI 4) dX11_handler_70 (by decide) ?_
              refine V_iload_n C dX11_handler_71 rfl rfl ?_
              refine V_imulN C dX11_handler_72 ?_
              refine V_aload_n C dX11_handler_73 rfl rfl ?_
              refine gf_X11_26 C dX11_handler_74 ?_
              try simp only [gNN, gNI, gNJ, gIN, gII, gIJ, gJN, gJI, gJJ, Nat.reduceEqDiff, false_and, and_false, true_and, and_true, if_false, if_true]
              refine V_iload_n C dX11_handler_77 rfl rfl ?_
              refine ld_46 C (by omega) dX11_handler_78 ?_
              try simp only [gNN, gNI, gNJ, gIN, gII, gIJ, gJN, gJI, gJJ, Nat.reduceEqDiff, false_and, and_false, true_and, and_true, if_false, if_true]
              refine V_iaddN C dX11_handler_79 ?_
              refine V_istore (lv' := [(6, _), (0, _), (1, _), (2, _), (3, _), (4, _), (5, _)]) C dX11_handler_80 (by decide) rfl ?_
              refine V_aload_n C dX11_handler_82 rfl rfl ?_
              refine gf_X11_29 C dX11_handler_83 ?_
              try simp only [gNN, gNI, gNJ, gIN, gII, gIJ, gJN, gJI, gJJ, Nat.reduceEqDiff, false_and, and_false, true_and, and_true, if_false, if_true]
              refine V_iload C dX11_handler_86 rfl ?_
              refine V_iload_n C dX11_handler_88 rfl rfl ?_
              refine st_47 C (by omega) dX11_handler_89 ?_
              refine V_aload_n C dX11_handler_90 rfl rfl ?_
              refine gf_X11_32 C dX11_handler_91 ?_
              try simp only [gNN, gNI, gNJ, gIN, gII, gIJ, gJN, gJI, gJJ, Nat.reduceEqDiff, false_and, and_false, true_and, and_true, if_false, if_true]
              refine V_iload C dX11_handler_94 rfl ?_
              refine V_iload_n C dX11_handler_96 rfl rfl ?_
              refine st_48 C (by omega) dX11_handler_97 ?_
              refine V_aload_n C dX11_handler_98 rfl rfl ?_
              refine gf_X11_35 C dX11_handler_99 ?_
              try simp only [gNN, gNI, gNJ, gIN, gII, gIJ, gJN, gJI, gJJ, Nat.reduceEqDiff, false_and, and_false, true_and, and_true, if_false, if_true]
              refine V_iload C dX11_handler_102 rfl ?_
              refine V_iload C dX11_handler_104 rfl ?_
              refine st_49 C (by omega) dX11_handler_106 ?_
              refine V_aload_n C dX11_handler_107 rfl rfl ?_
              refine gf_X11_38 C dX11_handler_108 ?_
              try simp only [gNN, gNI, gNJ, gIN, gII, gIJ, gJN, gJI, gJJ, Nat.reduceEqDiff, false_and, and_false, true_and, and_true, if_false, if_true]
              refine V_iload C dX11_handler_111 rfl ?_
              refine V_iload C dX11_handler_113 rfl ?_
              refine st_50 C (by omega) dX11_handler_115 ?_
              refine V_aload_n C dX11_handler_116 rfl rfl ?_
              refine gf_X11_26 C dX11_handler_117 ?_
              try simp only [gNN, gNI, gNJ, gIN, gII, gIJ, gJN, gJI, gJJ, Nat.reduceEqDiff, false_and, and_false, true_and, and_true, if_false, if_true]
              refine V_iload_n C dX11_handler_120 rfl rfl ?_
              refine V_dup2 C dX11_handler_121 rfl rfl ?_
              refine ld_46 C (by omega) dX11_handler_122 ?_
              try simp only [gNN, gNI, gNJ, gIN, gII, gIJ, gJN, gJI, gJJ, Nat.reduceEqDiff, false_and, and_false, true_and, and_true, if_false, if_true]
              refine V_iconst C (nI 1) dX11_handler_123 (by decide) ?_
              refine V_iaddN C dX11_handler_124 ?_
              refine st_46 C (by omega) dX11_handler_125 ?_
              refine V_aload_n C dX11_handler_126 rfl rfl ?_
              refine gf_X11_26 C dX11_handler_127 ?_
              try simp only [gNN, gNI, gNJ, gIN, gII, gIJ, gJN, gJI, gJJ, Nat.reduceEqDiff, false_and, and_false, true_and, and_true, if_false, if_true]
              refine V_iload_n C dX11_handler_130 rfl rfl ?_
              refine ld_46 C (by omega) dX11_handler_131 ?_
              try simp only [gNN, gNI, gNJ, gIN, gII, gIJ, gJN, gJI, gJJ, Nat.reduceEqDiff, false_and, and_false, true_and, and_true, if_false, if_true]
              refine V_iconst C (nI 1) dX11_handler_132 (by decide) ?_
              refine V_isubN C dX11_handler_133 (by omega) ?_
              refine V_iret C E dX11_handler_134 ?_
              exact Or.inl ⟨c, f', t', a', hc, rfl, by omega, rfl, by omega, rfl, by omega, rfl, h51, Or.inr ⟨by omega, rfl, rfl⟩⟩
            · skip
              refine V_bipush C (-3) dX11_handler_67 (by decide) ?_
              refine V_iret C E dX11_handler_69 ?_
              exact Or.inl ⟨c, f', t', a', hc, rfl, by omega, rfl, by omega, rfl, by omega, rfl, h51, Or.inl ⟨by omega, rfl, rfl⟩⟩
          · skip
            refine V_bipush C (-2) dX11_handler_54 (by decide) ?_
            refine V_iret C E dX11_handler_56 ?_
            refine Or.inr ⟨fun q => ?_, rfl, rfl⟩
            obtain ⟨q1, q2, q3, q4, q5⟩ := q
            first | exact h5 q1 | exact h17 ((w0_iff (by decide)).mpr q2) | exact h29 ((w0_iff (by decide)).mpr q3) | exact h42 ((w0_iff (by decide)).mpr q4) | exact h51 q5

set_option maxRecDepth 20000 in
set_option maxHeartbeats 4000000 in
theorem ct_X11_clear {l : Launch} {G : Gm} {M : Mem}  : Ct l G rM yX11_clear (.code yX11_clear cX11_clear 2 (some .int) :: GW) rmX11_clear [.ref (ad G 40 0)] M (fun r M' => some (.int (nI (gN M 40 0 0))) = r ∧ sN M 40 0 0 0 = M') := by
  refine Ct_of (cc := cX11_clear) (by decide) [(0, _)] rfl (Nat.le_of_ble_eq_true rfl) (fun pp ee ss mm aa bb mt cd C E => ?_)
  refine V_aload_n C dX11_clear_0 rfl rfl ?_
  refine gf_X11_80 C dX11_clear_1 ?_
  refine V_istore_n (lv' := [(1, _), (0, _)]) C dX11_clear_4 rfl (by decide) rfl ?_
  refine V_aload_n C dX11_clear_5 rfl rfl ?_
  refine V_iconst C (nI 0) dX11_clear_6 (by decide) ?_
  refine pf_X11_80 C dX11_clear_7 ?_
  refine V_iload_n C dX11_clear_10 rfl rfl ?_
  refine V_iret C E dX11_clear_11 ?_
  exact ⟨rfl, rfl⟩

set_option maxRecDepth 20000 in
set_option maxHeartbeats 4000000 in
theorem ct_X11_lesser {l : Launch} {G : Gm} {M : Mem} {a b : Nat} (ha : a < 2 ^ 31) (hb : b < 2 ^ 31) : Ct l G rM yX11_lesser (.code yX11_lesser cX11_lesser 2 (some .int) :: GW) rmX11_lesser [.int (nI a), .int (nI b)] M (fun r M' => some (.int (nI (min a b))) = r ∧ M = M') := by
  refine Ct_of (cc := cX11_lesser) (by decide) [(0, _), (1, _)] rfl (Nat.le_of_ble_eq_true rfl) (fun pp ee ss mm aa bb mt cd C E => ?_)
  refine V_iload_n C dX11_lesser_0 rfl rfl ?_
  refine V_iload_n C dX11_lesser_1 rfl rfl ?_
  refine V_icmpN_ge (tgt := 9) C dX11_lesser_2 (by omega) (by omega) (by decide) (fun h2 => ?_) (fun h2 => ?_)
  · skip
    refine V_iload_n C dX11_lesser_9 rfl rfl ?_
    refine V_iret C E dX11_lesser_10 ?_
    exact ⟨by congr 3; omega, rfl⟩
  · skip
    refine V_iload_n C dX11_lesser_5 rfl rfl ?_
    refine V_goto (tgt := 10) C dX11_lesser_6 (by decide) ?_
    refine V_iret C E dX11_lesser_10 ?_
    exact ⟨by congr 3; omega, rfl⟩

set_option maxRecDepth 20000 in
set_option maxHeartbeats 4000000 in
theorem ct_X11_isBack {l : Launch} {G : Gm} {M : Mem} {m : Nat} (hm6 : m < 6) (hm : RIm M m) {p : Nat} (hp : p < 40) : Ct l G rM yX11_isBack (.code yX11_isBack cX11_isBack 4 (some .boolean) :: GW) rmX11_isBack [.ref (ad G 40 0), .int (nI m), .int (nI p)] M (fun r M' => some (.int (nI (bN ((rac M m p = 6 ∨ rac M m p = 7) ∧ rnu M m p ≤ lN p)))) = r ∧ M = M') := by
  have hs := hm.1
  have hh4 := hm.2.1
  have hac := (hm.2.2.1 p hp).1
  refine Ct_of (cc := cX11_isBack) (by decide) [(0, _), (1, _), (2, _)] rfl (Nat.le_of_ble_eq_true rfl) (fun pp ee ss mm aa bb mt cd C E => ?_)
  refine V_bipush C (nI 40) dX11_isBack_0 (by decide) ?_
  refine V_iload_n C dX11_isBack_2 rfl rfl ?_
  refine V_imulN C dX11_isBack_3 ?_
  refine V_iload_n C dX11_isBack_4 rfl rfl ?_
  refine V_iaddN C dX11_isBack_5 ?_
  refine V_istore_n (lv' := [(3, _), (0, _), (1, _), (2, _)]) C dX11_isBack_6 rfl (by decide) rfl ?_
  refine V_aload_n C dX11_isBack_7 rfl rfl ?_
  refine gf_X11_13 C dX11_isBack_8 ?_
  refine V_iload_n C dX11_isBack_11 rfl rfl ?_
  refine ld_42 C (by omega) dX11_isBack_12 ?_
  refine V_bipush C (nI 6) dX11_isBack_13 (by decide) ?_
  refine V_icmpN_eq (tgt := 29) C dX11_isBack_15 (by omega) (by omega) (by decide) (fun h15 => ?_) (fun h15 => ?_)
  · skip
    refine V_aload_n C dX11_isBack_29 rfl rfl ?_
    refine gf_X11_22 C dX11_isBack_30 ?_
    refine V_iload_n C dX11_isBack_33 rfl rfl ?_
    refine ld_45 C (by omega) dX11_isBack_34 ?_
    refine V_iload_n C dX11_isBack_35 rfl rfl ?_
    refine V_i2lN C dX11_isBack_36 (by omega) ?_
    refine V_lcmp C dX11_isBack_37 ?_
    refine V_ifL_gt (tgt := 45) C dX11_isBack_38 (by decide) (fun h38 => ?_) (fun h38 => ?_)
    · skip
      refine V_iconst C (nI 0) dX11_isBack_45 (by decide) ?_
      refine V_zret C E dX11_isBack_46 (by first | decide | (unfold bN; split <;> omega)) ?_
      unfold rac rnu
      first | (rw [bN_t ⟨by omega, Int64.not_lt.mp h38⟩]; exact ⟨rfl, rfl⟩) | (rw [bN_f (fun q => absurd q.2 (Int64.not_le.mpr h38))]; exact ⟨rfl, rfl⟩) | (rw [bN_f (by omega)]; exact ⟨rfl, rfl⟩)
    · skip
      refine V_iconst C (nI 1) dX11_isBack_41 (by decide) ?_
      refine V_goto (tgt := 46) C dX11_isBack_42 (by decide) ?_
      refine V_zret C E dX11_isBack_46 (by first | decide | (unfold bN; split <;> omega)) ?_
      unfold rac rnu
      first | (rw [bN_t ⟨by omega, Int64.not_lt.mp h38⟩]; exact ⟨rfl, rfl⟩) | (rw [bN_f (fun q => absurd q.2 (Int64.not_le.mpr h38))]; exact ⟨rfl, rfl⟩) | (rw [bN_f (by omega)]; exact ⟨rfl, rfl⟩)
  · skip
    refine V_aload_n C dX11_isBack_18 rfl rfl ?_
    refine gf_X11_13 C dX11_isBack_19 ?_
    refine V_iload_n C dX11_isBack_22 rfl rfl ?_
    refine ld_42 C (by omega) dX11_isBack_23 ?_
    refine V_bipush C (nI 7) dX11_isBack_24 (by decide) ?_
    refine V_icmpN_ne (tgt := 45) C dX11_isBack_26 (by omega) (by omega) (by decide) (fun h26 => ?_) (fun h26 => ?_)
    · skip
      refine V_iconst C (nI 0) dX11_isBack_45 (by decide) ?_
      refine V_zret C E dX11_isBack_46 (by first | decide | (unfold bN; split <;> omega)) ?_
      unfold rac rnu
      first | (rw [bN_t ⟨by omega, Int64.not_lt.mp h38⟩]; exact ⟨rfl, rfl⟩) | (rw [bN_f (fun q => absurd q.2 (Int64.not_le.mpr h38))]; exact ⟨rfl, rfl⟩) | (rw [bN_f (by omega)]; exact ⟨rfl, rfl⟩)
    · skip
      refine V_aload_n C dX11_isBack_29 rfl rfl ?_
      refine gf_X11_22 C dX11_isBack_30 ?_
      refine V_iload_n C dX11_isBack_33 rfl rfl ?_
      refine ld_45 C (by omega) dX11_isBack_34 ?_
      refine V_iload_n C dX11_isBack_35 rfl rfl ?_
      refine V_i2lN C dX11_isBack_36 (by omega) ?_
      refine V_lcmp C dX11_isBack_37 ?_
      refine V_ifL_gt (tgt := 45) C dX11_isBack_38 (by decide) (fun h38 => ?_) (fun h38 => ?_)
      · skip
        refine V_iconst C (nI 0) dX11_isBack_45 (by decide) ?_
        refine V_zret C E dX11_isBack_46 (by first | decide | (unfold bN; split <;> omega)) ?_
        unfold rac rnu
        first | (rw [bN_t ⟨by omega, Int64.not_lt.mp h38⟩]; exact ⟨rfl, rfl⟩) | (rw [bN_f (fun q => absurd q.2 (Int64.not_le.mpr h38))]; exact ⟨rfl, rfl⟩) | (rw [bN_f (by omega)]; exact ⟨rfl, rfl⟩)
      · skip
        refine V_iconst C (nI 1) dX11_isBack_41 (by decide) ?_
        refine V_goto (tgt := 46) C dX11_isBack_42 (by decide) ?_
        refine V_zret C E dX11_isBack_46 (by first | decide | (unfold bN; split <;> omega)) ?_
        unfold rac rnu
        first | (rw [bN_t ⟨by omega, Int64.not_lt.mp h38⟩]; exact ⟨rfl, rfl⟩) | (rw [bN_f (fun q => absurd q.2 (Int64.not_le.mpr h38))]; exact ⟨rfl, rfl⟩) | (rw [bN_f (by omega)]; exact ⟨rfl, rfl⟩)

set_option maxRecDepth 20000 in
set_option maxHeartbeats 4000000 in
theorem ct_X11_countOf {l : Launch} {G : Gm} {M : Mem} {m : Nat} (hm6 : m < 6) (hm : RIm M m)  : Ct l G rM yX11_countOf (.code yX11_countOf cX11_countOf 4 (some .int) :: GW) rmX11_countOf [.ref (ad G 40 0), .int (nI m)] M (fun r M' => some (.int (nI (totR M m))) = r ∧ M = M') := by
  have hs := hm.1
  have hh4 := hm.2.1
  refine Ct_of (cc := cX11_countOf) (by decide) [(0, _), (1, _)] rfl (Nat.le_of_ble_eq_true rfl) (fun pp ee ss mm aa bb mt cd C E => ?_)
  refine V_iconst C (nI 2) dX11_countOf_0 (by decide) ?_
  refine V_aload_n C dX11_countOf_1 rfl rfl ?_
  refine gf_X11_7 C dX11_countOf_2 ?_
  refine V_iload_n C dX11_countOf_5 rfl rfl ?_
  refine ld_41 C (by omega) dX11_countOf_6 ?_
  refine V_iaddN C dX11_countOf_7 ?_
  refine V_iconst C (nI 2) dX11_countOf_8 (by decide) ?_
  refine V_aload_n C dX11_countOf_9 rfl rfl ?_
  refine gf_X11_26 C dX11_countOf_10 ?_
  refine V_iload_n C dX11_countOf_13 rfl rfl ?_
  refine ld_46 C (by omega) dX11_countOf_14 ?_
  refine V_imulN C dX11_countOf_15 ?_
  refine V_iaddN C dX11_countOf_16 ?_
  refine V_istore_n (lv' := [(2, _), (0, _), (1, _)]) C dX11_countOf_17 rfl (by decide) rfl ?_
  refine V_iconst C (nI 0) dX11_countOf_18 (by decide) ?_
  refine V_istore_n (lv' := [(3, _), (2, _), (0, _), (1, _)]) C dX11_countOf_19 rfl (by decide) rfl ?_
  have LP20 : ∀ (fu : Nat) (a k : Nat), gN M 41 0 m - k < fu → k ≤ gN M 41 0 m → a = 2 + gN M 41 0 m + 2 * gN M 46 0 m + need (rac M m) (rnu M m) k → V pp l ee rmX11_countOf ss mm aa bb mt cd G rM 4 (MQ bb (QcG G rM (fun r M' => some (.int (nI (totR M m))) = r ∧ M = M') (AA G rM ss.heap.size)) aa ss 0 0 (AA G rM ss.heap.size)) M 20 [(3, .int (nI k)), (2, .int (nI a)), (0, .ref (ad G 40 0)), (1, .int (nI m))] [] := by
    intro fu
    induction fu with
    | zero => intros; omega
    | succ fu ih =>
      intro a k hf hle ha
      refine V_iload_n C dX11_countOf_20 rfl rfl ?_
      refine V_aload_n C dX11_countOf_21 rfl rfl ?_
      refine gf_X11_7 C dX11_countOf_22 ?_
      refine V_iload_n C dX11_countOf_25 rfl rfl ?_
      refine ld_41 C (by omega) dX11_countOf_26 ?_
      refine V_icmpN_ge (tgt := 77) C dX11_countOf_27 (by omega) (by omega) (by decide) (fun h27 => ?_) (fun h27 => ?_)
      · skip
        have hk : k = gN M 41 0 m := by omega
        subst ha
        refine V_iload_n C dX11_countOf_77 rfl rfl ?_
        refine V_iret C E dX11_countOf_78 ?_
        exact ⟨by rw [totR, tot, hk], rfl⟩
      · skip
        have hac := (hm.2.2.1 k (by omega)).1
        refine V_iload_n C dX11_countOf_30 rfl rfl ?_
        refine V_aload_n C dX11_countOf_31 rfl rfl ?_
        refine gf_X11_13 C dX11_countOf_32 ?_
        refine V_bipush C (nI 40) dX11_countOf_35 (by decide) ?_
        refine V_iload_n C dX11_countOf_37 rfl rfl ?_
        refine V_imulN C dX11_countOf_38 ?_
        refine V_iload_n C dX11_countOf_39 rfl rfl ?_
        refine V_iaddN C dX11_countOf_40 ?_
        refine ld_42 C (by omega) dX11_countOf_41 ?_
        refine V_bipush C (nI 8) dX11_countOf_42 (by decide) ?_
        refine V_icmpN_ne (tgt := 51) C dX11_countOf_44 (by omega) (by omega) (by decide) (fun h44 => ?_) (fun h44 => ?_)
        · skip
          refine V_iconst C (nI 0) dX11_countOf_51 (by decide) ?_
          refine V_iaddN C dX11_countOf_52 ?_
          refine V_istore_n (lv' := [(2, _), (3, _), (0, _), (1, _)]) C dX11_countOf_53 rfl (by decide) rfl ?_
          refine V_iload_n C dX11_countOf_54 rfl rfl ?_
          refine V_aload_n C dX11_countOf_55 rfl rfl ?_
          refine V_iload_n C dX11_countOf_56 rfl rfl ?_
          refine V_iload_n C dX11_countOf_57 rfl rfl ?_
          refine V_callV C [_, _] (ct_X11_isBack (by omega) (by assumption) (by omega)) cv_X11_isBack lk_X11_108 in_40 rfl rfl ⟨Nat.le_of_ble_eq_true rfl, Nat.le_of_ble_eq_true rfl⟩ rfl rfl (Nat.le_of_ble_eq_true rfl) dX11_countOf_58 (fun r M' hr => ?_)
          obtain ⟨rfl, rfl⟩ := hr
          refine V_ifB_eq (tgt := 68) C dX11_countOf_61 (by decide) (fun h61 => ?_) (fun h61 => ?_)
          · skip
            refine V_iconst C (nI 0) dX11_countOf_68 (by decide) ?_
            refine V_iaddN C dX11_countOf_69 ?_
            refine V_istore_n (lv' := [(2, _), (3, _), (0, _), (1, _)]) C dX11_countOf_70 rfl (by decide) rfl ?_
            refine V_iincN (lv' := [(3, _), (2, _), (0, _), (1, _)]) C dX11_countOf_71 rfl (b := 1) (by decide) (by decide) rfl ?_
            refine V_goto (tgt := 20) C dX11_countOf_74 (by decide) ?_
            refine V_lv [0, 1, 2, 3] rfl ?_
            exact ih _ _ (by omega) (by omega) (by rw [ha]; show _ = 2 + gN M 41 0 m + 2 * gN M 46 0 m + (need (rac M m) (rnu M m) k + mk1 (rac M m) k + 2 * bk1 (rac M m) (rnu M m) k); simp only [mk1, bk1]; (first | rw [if_pos (show rac M m k = 8 by unfold rac; omega), if_pos h61] | rw [if_pos (show rac M m k = 8 by unfold rac; omega), if_neg h61] | rw [if_neg (show ¬ rac M m k = 8 by unfold rac; omega), if_pos h61] | rw [if_neg (show ¬ rac M m k = 8 by unfold rac; omega), if_neg h61]) <;> omega)
          · skip
            refine V_iconst C (nI 2) dX11_countOf_64 (by decide) ?_
            refine V_goto (tgt := 69) C dX11_countOf_65 (by decide) ?_
            refine V_iaddN C dX11_countOf_69 ?_
            refine V_istore_n (lv' := [(2, _), (3, _), (0, _), (1, _)]) C dX11_countOf_70 rfl (by decide) rfl ?_
            refine V_iincN (lv' := [(3, _), (2, _), (0, _), (1, _)]) C dX11_countOf_71 rfl (b := 1) (by decide) (by decide) rfl ?_
            refine V_goto (tgt := 20) C dX11_countOf_74 (by decide) ?_
            refine V_lv [0, 1, 2, 3] rfl ?_
            exact ih _ _ (by omega) (by omega) (by rw [ha]; show _ = 2 + gN M 41 0 m + 2 * gN M 46 0 m + (need (rac M m) (rnu M m) k + mk1 (rac M m) k + 2 * bk1 (rac M m) (rnu M m) k); simp only [mk1, bk1]; (first | rw [if_pos (show rac M m k = 8 by unfold rac; omega), if_pos h61] | rw [if_pos (show rac M m k = 8 by unfold rac; omega), if_neg h61] | rw [if_neg (show ¬ rac M m k = 8 by unfold rac; omega), if_pos h61] | rw [if_neg (show ¬ rac M m k = 8 by unfold rac; omega), if_neg h61]) <;> omega)
        · skip
          refine V_iconst C (nI 1) dX11_countOf_47 (by decide) ?_
          refine V_goto (tgt := 52) C dX11_countOf_48 (by decide) ?_
          refine V_iaddN C dX11_countOf_52 ?_
          refine V_istore_n (lv' := [(2, _), (3, _), (0, _), (1, _)]) C dX11_countOf_53 rfl (by decide) rfl ?_
          refine V_iload_n C dX11_countOf_54 rfl rfl ?_
          refine V_aload_n C dX11_countOf_55 rfl rfl ?_
          refine V_iload_n C dX11_countOf_56 rfl rfl ?_
          refine V_iload_n C dX11_countOf_57 rfl rfl ?_
          refine V_callV C [_, _] (ct_X11_isBack (by omega) (by assumption) (by omega)) cv_X11_isBack lk_X11_108 in_40 rfl rfl ⟨Nat.le_of_ble_eq_true rfl, Nat.le_of_ble_eq_true rfl⟩ rfl rfl (Nat.le_of_ble_eq_true rfl) dX11_countOf_58 (fun r M' hr => ?_)
          obtain ⟨rfl, rfl⟩ := hr
          refine V_ifB_eq (tgt := 68) C dX11_countOf_61 (by decide) (fun h61 => ?_) (fun h61 => ?_)
          · skip
            refine V_iconst C (nI 0) dX11_countOf_68 (by decide) ?_
            refine V_iaddN C dX11_countOf_69 ?_
            refine V_istore_n (lv' := [(2, _), (3, _), (0, _), (1, _)]) C dX11_countOf_70 rfl (by decide) rfl ?_
            refine V_iincN (lv' := [(3, _), (2, _), (0, _), (1, _)]) C dX11_countOf_71 rfl (b := 1) (by decide) (by decide) rfl ?_
            refine V_goto (tgt := 20) C dX11_countOf_74 (by decide) ?_
            refine V_lv [0, 1, 2, 3] rfl ?_
            exact ih _ _ (by omega) (by omega) (by rw [ha]; show _ = 2 + gN M 41 0 m + 2 * gN M 46 0 m + (need (rac M m) (rnu M m) k + mk1 (rac M m) k + 2 * bk1 (rac M m) (rnu M m) k); simp only [mk1, bk1]; (first | rw [if_pos (show rac M m k = 8 by unfold rac; omega), if_pos h61] | rw [if_pos (show rac M m k = 8 by unfold rac; omega), if_neg h61] | rw [if_neg (show ¬ rac M m k = 8 by unfold rac; omega), if_pos h61] | rw [if_neg (show ¬ rac M m k = 8 by unfold rac; omega), if_neg h61]) <;> omega)
          · skip
            refine V_iconst C (nI 2) dX11_countOf_64 (by decide) ?_
            refine V_goto (tgt := 69) C dX11_countOf_65 (by decide) ?_
            refine V_iaddN C dX11_countOf_69 ?_
            refine V_istore_n (lv' := [(2, _), (3, _), (0, _), (1, _)]) C dX11_countOf_70 rfl (by decide) rfl ?_
            refine V_iincN (lv' := [(3, _), (2, _), (0, _), (1, _)]) C dX11_countOf_71 rfl (b := 1) (by decide) (by decide) rfl ?_
            refine V_goto (tgt := 20) C dX11_countOf_74 (by decide) ?_
            refine V_lv [0, 1, 2, 3] rfl ?_
            exact ih _ _ (by omega) (by omega) (by rw [ha]; show _ = 2 + gN M 41 0 m + 2 * gN M 46 0 m + (need (rac M m) (rnu M m) k + mk1 (rac M m) k + 2 * bk1 (rac M m) (rnu M m) k); simp only [mk1, bk1]; (first | rw [if_pos (show rac M m k = 8 by unfold rac; omega), if_pos h61] | rw [if_pos (show rac M m k = 8 by unfold rac; omega), if_neg h61] | rw [if_neg (show ¬ rac M m k = 8 by unfold rac; omega), if_pos h61] | rw [if_neg (show ¬ rac M m k = 8 by unfold rac; omega), if_neg h61]) <;> omega)
  refine V_lv [0, 1, 2, 3] rfl ?_
  exact LP20 _ _ 0 (Nat.lt_succ_self _) (Nat.zero_le _) rfl

set_option maxRecDepth 20000 in
set_option maxHeartbeats 4000000 in
theorem ct_X11_isLarge {l : Launch} {G : Gm} {M : Mem} {m : Nat} (hm6 : m < 6) (hm : RIm M m)  : Ct l G rM yX11_isLarge (.code yX11_isLarge cX11_isLarge 2 (some .boolean) :: GW) rmX11_isLarge [.ref (ad G 40 0), .int (nI m)] M (fun r M' => some (.int (nI (bN (70 < totR M m)))) = r ∧ M = M') := by
  have hs := hm.1
  have hh4 := hm.2.1
  have htl := tot_le (rac M m) (rnu M m) hs hh4
  refine Ct_of (cc := cX11_isLarge) (by decide) [(0, _), (1, _)] rfl (Nat.le_of_ble_eq_true rfl) (fun pp ee ss mm aa bb mt cd C E => ?_)
  refine V_aload_n C dX11_isLarge_0 rfl rfl ?_
  refine V_iload_n C dX11_isLarge_1 rfl rfl ?_
  refine V_callV C [_] (ct_X11_countOf (by omega) (by assumption)) cv_X11_countOf lk_X11_112 in_40 rfl rfl ⟨Nat.le_of_ble_eq_true rfl, Nat.le_of_ble_eq_true rfl⟩ rfl rfl (Nat.le_of_ble_eq_true rfl) dX11_isLarge_2 (fun r M' hr => ?_)
  obtain ⟨rfl, rfl⟩ := hr
  have htl2 : totR M m ≤ 170 := htl
  refine V_bipush C (nI 70) dX11_isLarge_5 (by decide) ?_
  refine V_icmpN_le (tgt := 14) C dX11_isLarge_7 (by omega) (by omega) (by decide) (fun h7 => ?_) (fun h7 => ?_)
  · skip
    refine V_iconst C (nI 0) dX11_isLarge_14 (by decide) ?_
    refine V_zret C E dX11_isLarge_15 (by first | decide | (unfold bN; split <;> omega)) ?_
    first | (rw [bN_t (by omega)]; exact ⟨rfl, rfl⟩) | (rw [bN_f (by omega)]; exact ⟨rfl, rfl⟩)
  · skip
    refine V_iconst C (nI 1) dX11_isLarge_10 (by decide) ?_
    refine V_goto (tgt := 15) C dX11_isLarge_11 (by decide) ?_
    refine V_zret C E dX11_isLarge_15 (by first | decide | (unfold bN; split <;> omega)) ?_
    first | (rw [bN_t (by omega)]; exact ⟨rfl, rfl⟩) | (rw [bN_f (by omega)]; exact ⟨rfl, rfl⟩)

set_option maxRecDepth 20000 in
set_option maxHeartbeats 4000000 in
theorem ct_X11_beginOf {l : Launch} {G : Gm} {M : Mem} {m : Nat} (hm6 : m < 6) (hm : RIm M m) {p : Nat} (hp : p ≤ 40) : Ct l G rM yX11_beginOf (.code yX11_beginOf cX11_beginOf 6 (some .int) :: GW) rmX11_beginOf [.ref (ad G 40 0), .int (nI m), .int (nI p)] M (fun r M' => some (.int (nI (beg (rac M m) (min p (gN M 41 0 m))))) = r ∧ M = M') := by
  have hs := hm.1
  have hh4 := hm.2.1
  refine Ct_of (cc := cX11_beginOf) (by decide) [(0, _), (1, _), (2, _)] rfl (Nat.le_of_ble_eq_true rfl) (fun pp ee ss mm aa bb mt cd C E => ?_)
  refine V_iconst C (nI 1) dX11_beginOf_0 (by decide) ?_
  refine V_istore_n (lv' := [(3, _), (0, _), (1, _), (2, _)]) C dX11_beginOf_1 rfl (by decide) rfl ?_
  refine V_iload_n C dX11_beginOf_2 rfl rfl ?_
  refine V_aload_n C dX11_beginOf_3 rfl rfl ?_
  refine gf_X11_7 C dX11_beginOf_4 ?_
  refine V_iload_n C dX11_beginOf_7 rfl rfl ?_
  refine ld_41 C (by omega) dX11_beginOf_8 ?_
  refine V_callS C [_, _] (ct_X11_lesser (by omega) (by omega)) cs_X11_lesser rfl lk_X11_116 ⟨Nat.le_of_ble_eq_true rfl, Nat.le_of_ble_eq_true rfl⟩ rfl rfl (Nat.le_of_ble_eq_true rfl) dX11_beginOf_9 (fun r M' hr => ?_)
  obtain ⟨rfl, rfl⟩ := hr
  refine V_istore (lv' := [(4, _), (3, _), (0, _), (1, _), (2, _)]) C dX11_beginOf_12 (by decide) rfl ?_
  refine V_iconst C (nI 0) dX11_beginOf_14 (by decide) ?_
  refine V_istore (lv' := [(5, _), (4, _), (3, _), (0, _), (1, _), (2, _)]) C dX11_beginOf_15 (by decide) rfl ?_
  have LP17 : ∀ (fu : Nat) (a k : Nat), min p (gN M 41 0 m) - k < fu → k ≤ min p (gN M 41 0 m) → a = beg (rac M m) k → V pp l ee rmX11_beginOf ss mm aa bb mt cd G rM 6 (MQ bb (QcG G rM (fun r M' => some (.int (nI (beg (rac M m) (min p (gN M 41 0 m))))) = r ∧ M = M') (AA G rM ss.heap.size)) aa ss 0 0 (AA G rM ss.heap.size)) M 17 [(5, .int (nI k)), (4, .int (nI (min p (gN M 41 0 m)))), (3, .int (nI a)), (0, .ref (ad G 40 0)), (1, .int (nI m)), (2, .int (nI p))] [] := by
    intro fu
    induction fu with
    | zero => intros; omega
    | succ fu ih =>
      intro a k hf hle ha
      refine V_iload C dX11_beginOf_17 rfl ?_
      refine V_iload C dX11_beginOf_19 rfl ?_
      refine V_icmpN_ge (tgt := 55) C dX11_beginOf_21 (by omega) (by omega) (by decide) (fun h21 => ?_) (fun h21 => ?_)
      · skip
        have hk : k = min p (gN M 41 0 m) := by omega
        subst ha
        refine V_iload_n C dX11_beginOf_55 rfl rfl ?_
        refine V_iret C E dX11_beginOf_56 ?_
        exact ⟨by rw [hk], rfl⟩
      · skip
        have hac := (hm.2.2.1 k (by omega)).1
        refine V_iload_n C dX11_beginOf_24 rfl rfl ?_
        refine V_aload_n C dX11_beginOf_25 rfl rfl ?_
        refine gf_X11_13 C dX11_beginOf_26 ?_
        refine V_bipush C (nI 40) dX11_beginOf_29 (by decide) ?_
        refine V_iload_n C dX11_beginOf_31 rfl rfl ?_
        refine V_imulN C dX11_beginOf_32 ?_
        refine V_iload C dX11_beginOf_33 rfl ?_
        refine V_iaddN C dX11_beginOf_35 ?_
        refine ld_42 C (by omega) dX11_beginOf_36 ?_
        refine V_bipush C (nI 8) dX11_beginOf_37 (by decide) ?_
        refine V_icmpN_ne (tgt := 46) C dX11_beginOf_39 (by omega) (by omega) (by decide) (fun h39 => ?_) (fun h39 => ?_)
        · skip
          refine V_iconst C (nI 1) dX11_beginOf_46 (by decide) ?_
          refine V_iaddN C dX11_beginOf_47 ?_
          refine V_istore_n (lv' := [(3, _), (5, _), (4, _), (0, _), (1, _), (2, _)]) C dX11_beginOf_48 rfl (by decide) rfl ?_
          refine V_iincN (lv' := [(5, _), (3, _), (4, _), (0, _), (1, _), (2, _)]) C dX11_beginOf_49 rfl (b := 1) (by decide) (by decide) rfl ?_
          refine V_goto (tgt := 17) C dX11_beginOf_52 (by decide) ?_
          refine V_lv [0, 2, 1, 3, 4, 5] rfl ?_
          exact ih _ _ (by omega) (by omega) (by rw [ha]; show _ = beg (rac M m) k + 1 + mk1 (rac M m) k; simp only [mk1]; (first | rw [if_pos (show rac M m k = 8 by unfold rac; omega)] | rw [if_neg (show ¬ rac M m k = 8 by unfold rac; omega)]))
        · skip
          refine V_iconst C (nI 2) dX11_beginOf_42 (by decide) ?_
          refine V_goto (tgt := 47) C dX11_beginOf_43 (by decide) ?_
          refine V_iaddN C dX11_beginOf_47 ?_
          refine V_istore_n (lv' := [(3, _), (5, _), (4, _), (0, _), (1, _), (2, _)]) C dX11_beginOf_48 rfl (by decide) rfl ?_
          refine V_iincN (lv' := [(5, _), (3, _), (4, _), (0, _), (1, _), (2, _)]) C dX11_beginOf_49 rfl (b := 1) (by decide) (by decide) rfl ?_
          refine V_goto (tgt := 17) C dX11_beginOf_52 (by decide) ?_
          refine V_lv [0, 2, 1, 3, 4, 5] rfl ?_
          exact ih _ _ (by omega) (by omega) (by rw [ha]; show _ = beg (rac M m) k + 1 + mk1 (rac M m) k; simp only [mk1]; (first | rw [if_pos (show rac M m k = 8 by unfold rac; omega)] | rw [if_neg (show ¬ rac M m k = 8 by unfold rac; omega)]))
  refine V_lv [0, 1, 2, 3, 4, 5] rfl ?_
  exact LP17 _ _ 0 (Nat.lt_succ_self _) (Nat.zero_le _) rfl

set_option maxRecDepth 20000 in
set_option maxHeartbeats 4000000 in
theorem ct_X11_lay {l : Launch} {G : Gm} {M : Mem} {a n : Nat} {g : Int32} (hz : gN M 40 0 39 < 70) : Ct l G rM yX11_lay (.code yX11_lay cX11_lay 4 none :: GW) rmX11_lay [.ref (ad G 40 0), .int (nI a), .int (nI n), .int g] M (fun r M' => none = r ∧ layE M a n g = M') := by
  refine Ct_of (cc := cX11_lay) (by decide) [(0, _), (1, _), (2, _), (3, _)] rfl (Nat.le_of_ble_eq_true rfl) (fun pp ee ss mm aa bb mt cd C E => ?_)
  refine V_aload_n C dX11_lay_0 rfl rfl ?_
  refine gf_X11_71 C dX11_lay_1 ?_
  try simp only [gNN, gNI, gNJ, gIN, gII, gIJ, gJN, gJI, gJJ, Nat.reduceEqDiff, false_and, and_false, true_and, and_true, if_false, if_true]
  refine V_aload_n C dX11_lay_4 rfl rfl ?_
  refine gf_X11_120 C dX11_lay_5 ?_
  try simp only [gNN, gNI, gNJ, gIN, gII, gIJ, gJN, gJI, gJJ, Nat.reduceEqDiff, false_and, and_false, true_and, and_true, if_false, if_true]
  refine V_iload_n C dX11_lay_8 rfl rfl ?_
  refine st_61 C (by omega) dX11_lay_9 ?_
  refine V_aload_n C dX11_lay_10 rfl rfl ?_
  refine gf_X11_74 C dX11_lay_11 ?_
  try simp only [gNN, gNI, gNJ, gIN, gII, gIJ, gJN, gJI, gJJ, Nat.reduceEqDiff, false_and, and_false, true_and, and_true, if_false, if_true]
  refine V_aload_n C dX11_lay_14 rfl rfl ?_
  refine gf_X11_120 C dX11_lay_15 ?_
  try simp only [gNN, gNI, gNJ, gIN, gII, gIJ, gJN, gJI, gJJ, Nat.reduceEqDiff, false_and, and_false, true_and, and_true, if_false, if_true]
  refine V_iload_n C dX11_lay_18 rfl rfl ?_
  refine st_62 C (by omega) dX11_lay_19 ?_
  refine V_aload_n C dX11_lay_20 rfl rfl ?_
  refine gf_X11_77 C dX11_lay_21 ?_
  try simp only [gNN, gNI, gNJ, gIN, gII, gIJ, gJN, gJI, gJJ, Nat.reduceEqDiff, false_and, and_false, true_and, and_true, if_false, if_true]
  refine V_aload_n C dX11_lay_24 rfl rfl ?_
  refine gf_X11_120 C dX11_lay_25 ?_
  try simp only [gNN, gNI, gNJ, gIN, gII, gIJ, gJN, gJI, gJJ, Nat.reduceEqDiff, false_and, and_false, true_and, and_true, if_false, if_true]
  refine V_iload_n C dX11_lay_28 rfl rfl ?_
  refine st_63 C (by omega) dX11_lay_29 ?_
  refine V_aload_n C dX11_lay_30 rfl rfl ?_
  refine V_dup C dX11_lay_31 rfl ?_
  refine gf_X11_120 C dX11_lay_32 ?_
  try simp only [gNN, gNI, gNJ, gIN, gII, gIJ, gJN, gJI, gJJ, Nat.reduceEqDiff, false_and, and_false, true_and, and_true, if_false, if_true]
  refine V_iconst C (nI 1) dX11_lay_35 (by decide) ?_
  refine V_iaddN C dX11_lay_36 ?_
  refine pf_X11_120 C dX11_lay_37 ?_
  refine V_vret C E dX11_lay_40 ?_
  exact ⟨rfl, rfl⟩

set_option maxRecDepth 20000 in
set_option maxHeartbeats 4000000 in
theorem ct_X11_entries {l : Launch} {G : Gm} {M : Mem} {m : Int32} (hp : RI M) : Ct l G rM yX11_entries (.code yX11_entries cX11_entries 2 (some .int) :: GW) rmX11_entries [.ref (ad G 40 0), .int m] M (fun r M' => M = M' ∧ ((∃ c, c < gN M 40 0 0 ∧ m = nI c ∧ some (.int (if 70 < totR M c then -4 else nI (totR M c))) = r) ∨ (¬ isM (gN M 40 0 0) m ∧ some (.int (-2)) = r))) := by
  have h6 := hp.1
  refine Ct_of (cc := cX11_entries) (by decide) [(0, _), (1, _)] rfl (Nat.le_of_ble_eq_true rfl) (fun pp ee ss mm aa bb mt cd C E => ?_)
  refine V_aload_n C dX11_entries_0 rfl rfl ?_
  refine V_iload_n C dX11_entries_1 rfl rfl ?_
  refine V_callV C [_] (ct_X11_isMethod (by omega)) cv_X11_isMethod lk_X11_96 in_40 rfl rfl ⟨Nat.le_of_ble_eq_true rfl, Nat.le_of_ble_eq_true rfl⟩ rfl rfl (Nat.le_of_ble_eq_true rfl) dX11_entries_2 (fun r M' hr => ?_)
  obtain ⟨rfl, rfl⟩ := hr
  refine V_ifB_ne (tgt := 13) C dX11_entries_5 (by decide) (fun h5 => ?_) (fun h5 => ?_)
  · skip
    obtain ⟨c, hc, rfl⟩ := isM_of h5 (by omega)
    have hm := hp.2 c (by omega)
    refine V_aload_n C dX11_entries_13 rfl rfl ?_
    refine V_iload_n C dX11_entries_14 rfl rfl ?_
    refine V_callV C [_] (ct_X11_isLarge (by omega) (by assumption)) cv_X11_isLarge lk_X11_130 in_40 rfl rfl ⟨Nat.le_of_ble_eq_true rfl, Nat.le_of_ble_eq_true rfl⟩ rfl rfl (Nat.le_of_ble_eq_true rfl) dX11_entries_15 (fun r M' hr => ?_)
    obtain ⟨rfl, rfl⟩ := hr
    refine V_ifB_eq (tgt := 26) C dX11_entries_18 (by decide) (fun h18 => ?_) (fun h18 => ?_)
    · skip
      refine V_aload_n C dX11_entries_26 rfl rfl ?_
      refine V_iload_n C dX11_entries_27 rfl rfl ?_
      refine V_callV C [_] (ct_X11_countOf (by omega) (by assumption)) cv_X11_countOf lk_X11_112 in_40 rfl rfl ⟨Nat.le_of_ble_eq_true rfl, Nat.le_of_ble_eq_true rfl⟩ rfl rfl (Nat.le_of_ble_eq_true rfl) dX11_entries_28 (fun r M' hr => ?_)
      obtain ⟨rfl, rfl⟩ := hr
      refine V_iret C E dX11_entries_31 ?_
      first | exact ⟨rfl, Or.inr ⟨h5, rfl⟩⟩ | exact ⟨rfl, Or.inl ⟨c, hc, rfl, by rw [if_pos h18]⟩⟩ | exact ⟨rfl, Or.inl ⟨c, hc, rfl, by rw [if_neg h18]⟩⟩
    · skip
      refine V_bipush C (-4) dX11_entries_21 (by decide) ?_
      refine V_goto (tgt := 31) C dX11_entries_23 (by decide) ?_
      refine V_iret C E dX11_entries_31 ?_
      first | exact ⟨rfl, Or.inr ⟨h5, rfl⟩⟩ | exact ⟨rfl, Or.inl ⟨c, hc, rfl, by rw [if_pos h18]⟩⟩ | exact ⟨rfl, Or.inl ⟨c, hc, rfl, by rw [if_neg h18]⟩⟩
  · skip
    refine V_bipush C (-2) dX11_entries_8 (by decide) ?_
    refine V_goto (tgt := 31) C dX11_entries_10 (by decide) ?_
    refine V_iret C E dX11_entries_31 ?_
    first | exact ⟨rfl, Or.inr ⟨h5, rfl⟩⟩ | exact ⟨rfl, Or.inl ⟨c, hc, rfl, by rw [if_pos h18]⟩⟩ | exact ⟨rfl, Or.inl ⟨c, hc, rfl, by rw [if_neg h18]⟩⟩

set_option maxRecDepth 20000 in
set_option maxHeartbeats 4000000 in
theorem ct_X11_about {l : Launch} {G : Gm} {M : Mem} {m x : Int32} (hp : RI M) : Ct l G rM yX11_about (.code yX11_about cX11_about 5 (some .int) :: GW) rmX11_about [.ref (ad G 40 0), .int m, .int x] M (fun r M' => M = M' ∧ ((∃ c w, c < gN M 40 0 0 ∧ m = nI c ∧ w ≤ 2 ∧ x = nI w ∧ some (.int (abR M c w)) = r) ∨ (¬ (isM (gN M 40 0 0) m ∧ isM 3 x) ∧ some (.int (-2)) = r))) := by
  have h6 := hp.1
  refine Ct_of (cc := cX11_about) (by decide) [(0, _), (1, _), (2, _)] rfl (Nat.le_of_ble_eq_true rfl) (fun pp ee ss mm aa bb mt cd C E => ?_)
  refine V_aload_n C dX11_about_0 rfl rfl ?_
  refine V_iload_n C dX11_about_1 rfl rfl ?_
  refine V_callV C [_] (ct_X11_isMethod (by omega)) cv_X11_isMethod lk_X11_96 in_40 rfl rfl ⟨Nat.le_of_ble_eq_true rfl, Nat.le_of_ble_eq_true rfl⟩ rfl rfl (Nat.le_of_ble_eq_true rfl) dX11_about_2 (fun r M' hr => ?_)
  obtain ⟨rfl, rfl⟩ := hr
  refine V_ifB_eq (tgt := 20) C dX11_about_5 (by decide) (fun h5 => ?_) (fun h5 => ?_)
  · skip
    refine V_bipush C (-2) dX11_about_20 (by decide) ?_
    refine V_iret C E dX11_about_22 ?_
    first | exact ⟨rfl, Or.inr ⟨fun q => h5 q.1, rfl⟩⟩ | exact ⟨rfl, Or.inr ⟨fun q => h17 ((w0_iff (by decide)).mpr q.2), rfl⟩⟩
  · skip
    obtain ⟨c, hc, rfl⟩ := isM_of h5 (by omega)
    have hm := hp.2 c (by omega)
    have hs := hm.1
    have hh4 := hm.2.1
    refine V_iload_n C dX11_about_8 rfl rfl ?_
    refine V_i2l C dX11_about_9 ?_
    refine V_lconst C (lN 0) dX11_about_10 (by decide) ?_
    refine V_ldc2 C kL_X11_94 dX11_about_11 ?_
    refine V_callS C [_, _, _] (ct_X11_in) cs_X11_in rfl lk_X11_84 ⟨Nat.le_of_ble_eq_true rfl, Nat.le_of_ble_eq_true rfl⟩ rfl rfl (Nat.le_of_ble_eq_true rfl) dX11_about_14 (fun r M' hr => ?_)
    obtain ⟨rfl, rfl⟩ := hr
    refine V_ifB_ne (tgt := 23) C dX11_about_17 (by decide) (fun h17 => ?_) (fun h17 => ?_)
    · skip
      obtain ⟨w, hw, rfl⟩ := isM_of ((w0_iff (by decide)).mp h17) (by decide)
      refine V_iload_n C dX11_about_23 rfl rfl ?_
      refine V_iconst C (nI 2) dX11_about_24 (by decide) ?_
      refine V_icmpN_ge (tgt := 48) C dX11_about_25 (by omega) (by omega) (by decide) (fun h25 => ?_) (fun h25 => ?_)
      · skip
        refine V_aload_n C dX11_about_48 rfl rfl ?_
        refine V_iload_n C dX11_about_49 rfl rfl ?_
        refine V_callV C [_] (ct_X11_isLarge (by omega) (by assumption)) cv_X11_isLarge lk_X11_130 in_40 rfl rfl ⟨Nat.le_of_ble_eq_true rfl, Nat.le_of_ble_eq_true rfl⟩ rfl rfl (Nat.le_of_ble_eq_true rfl) dX11_about_50 (fun r M' hr => ?_)
        obtain ⟨rfl, rfl⟩ := hr
        refine V_ifB_eq (tgt := 59) C dX11_about_53 (by decide) (fun h53 => ?_) (fun h53 => ?_)
        · skip
          refine V_iconst C (nI 1) dX11_about_59 (by decide) ?_
          refine V_aload_n C dX11_about_60 rfl rfl ?_
          refine gf_X11_26 C dX11_about_61 ?_
          refine V_iload_n C dX11_about_64 rfl rfl ?_
          refine ld_46 C (by omega) dX11_about_65 ?_
          refine V_iaddN C dX11_about_66 ?_
          refine V_istore_n (lv' := [(3, _), (0, _), (1, _), (2, _)]) C dX11_about_67 rfl (by decide) rfl ?_
          refine V_iconst C (nI 0) dX11_about_68 (by decide) ?_
          refine V_istore (lv' := [(4, _), (3, _), (0, _), (1, _), (2, _)]) C dX11_about_69 (by decide) rfl ?_
          have LP71 : ∀ (fu : Nat) (a k : Nat), gN M 41 0 c - k < fu → k ≤ gN M 41 0 c → a = 1 + gN M 46 0 c + mks (rac M c) (rnu M c) k → V pp l ee rmX11_about ss mm aa bb mt cd G rM 5 (MQ bb (QcG G rM (fun r M' => M = M' ∧ ((∃ c_1 w_1, c_1 < gN M 40 0 0 ∧ nI c = nI c_1 ∧ w_1 ≤ 2 ∧ nI w = nI w_1 ∧ some (.int (abR M c_1 w_1)) = r) ∨ (¬ (isM (gN M 40 0 0) (nI c) ∧ isM 3 (nI w)) ∧ some (.int (-2)) = r))) (AA G rM ss.heap.size)) aa ss 0 0 (AA G rM ss.heap.size)) M 71 [(4, .int (nI k)), (3, .int (nI a)), (0, .ref (ad G 40 0)), (1, .int (nI c)), (2, .int (nI w))] [] := by
            intro fu
            induction fu with
            | zero => intros; omega
            | succ fu ih =>
              intro a k hf hle ha
              refine V_iload C dX11_about_71 rfl ?_
              refine V_aload_n C dX11_about_73 rfl rfl ?_
              refine gf_X11_7 C dX11_about_74 ?_
              refine V_iload_n C dX11_about_77 rfl rfl ?_
              refine ld_41 C (by omega) dX11_about_78 ?_
              refine V_icmpN_ge (tgt := 123) C dX11_about_79 (by omega) (by omega) (by decide) (fun h79 => ?_) (fun h79 => ?_)
              · skip
                refine V_iload_n C dX11_about_123 rfl rfl ?_
                refine V_iret C E dX11_about_124 ?_
                have hk : k = gN M 41 0 c := by omega
                subst ha
                exact ⟨rfl, Or.inl ⟨c, w, hc, rfl, by omega, rfl, by unfold abR; rw [if_neg (by omega), if_neg (by omega), if_neg h53, hk]⟩⟩
              · skip
                have hac := (hm.2.2.1 k (by omega)).1
                refine V_iload_n C dX11_about_82 rfl rfl ?_
                refine V_aload_n C dX11_about_83 rfl rfl ?_
                refine gf_X11_13 C dX11_about_84 ?_
                refine V_bipush C (nI 40) dX11_about_87 (by decide) ?_
                refine V_iload_n C dX11_about_89 rfl rfl ?_
                refine V_imulN C dX11_about_90 ?_
                refine V_iload C dX11_about_91 rfl ?_
                refine V_iaddN C dX11_about_93 ?_
                refine ld_42 C (by omega) dX11_about_94 ?_
                refine V_bipush C (nI 8) dX11_about_95 (by decide) ?_
                refine V_icmpN_eq (tgt := 110) C dX11_about_97 (by omega) (by omega) (by decide) (fun h97 => ?_) (fun h97 => ?_)
                · skip
                  refine V_iconst C (nI 1) dX11_about_110 (by decide) ?_
                  refine V_goto (tgt := 115) C dX11_about_111 (by decide) ?_
                  refine V_iaddN C dX11_about_115 ?_
                  refine V_istore_n (lv' := [(3, _), (4, _), (0, _), (1, _), (2, _)]) C dX11_about_116 rfl (by decide) rfl ?_
                  refine V_iincN (lv' := [(4, _), (3, _), (0, _), (1, _), (2, _)]) C dX11_about_117 rfl (b := 1) (by decide) (by decide) rfl ?_
                  refine V_goto (tgt := 71) C dX11_about_120 (by decide) ?_
                  refine V_lv [0, 1, 2, 3, 4] rfl ?_
                  exact ih _ _ (by omega) (by omega) (by rw [ha]; show _ = 1 + gN M 46 0 c + (mks (rac M c) (rnu M c) k + mk1 (rac M c) k + bk1 (rac M c) (rnu M c) k); simp only [mk1, bk1]; (first | rw [if_pos (show rac M c k = 8 by unfold rac; omega), if_neg (show ¬ ((rac M c k = 6 ∨ rac M c k = 7) ∧ rnu M c k ≤ lN k) by unfold rac; omega)] | rw [if_neg (show ¬ rac M c k = 8 by unfold rac; omega), if_pos h107] | rw [if_neg (show ¬ rac M c k = 8 by unfold rac; omega), if_neg h107]) <;> omega)
                · skip
                  refine V_aload_n C dX11_about_100 rfl rfl ?_
                  refine V_iload_n C dX11_about_101 rfl rfl ?_
                  refine V_iload C dX11_about_102 rfl ?_
                  refine V_callV C [_, _] (ct_X11_isBack (by omega) (by assumption) (by omega)) cv_X11_isBack lk_X11_108 in_40 rfl rfl ⟨Nat.le_of_ble_eq_true rfl, Nat.le_of_ble_eq_true rfl⟩ rfl rfl (Nat.le_of_ble_eq_true rfl) dX11_about_104 (fun r M' hr => ?_)
                  obtain ⟨rfl, rfl⟩ := hr
                  refine V_ifB_eq (tgt := 114) C dX11_about_107 (by decide) (fun h107 => ?_) (fun h107 => ?_)
                  · skip
                    refine V_iconst C (nI 0) dX11_about_114 (by decide) ?_
                    refine V_iaddN C dX11_about_115 ?_
                    refine V_istore_n (lv' := [(3, _), (4, _), (0, _), (1, _), (2, _)]) C dX11_about_116 rfl (by decide) rfl ?_
                    refine V_iincN (lv' := [(4, _), (3, _), (0, _), (1, _), (2, _)]) C dX11_about_117 rfl (b := 1) (by decide) (by decide) rfl ?_
                    refine V_goto (tgt := 71) C dX11_about_120 (by decide) ?_
                    refine V_lv [0, 1, 2, 3, 4] rfl ?_
                    exact ih _ _ (by omega) (by omega) (by rw [ha]; show _ = 1 + gN M 46 0 c + (mks (rac M c) (rnu M c) k + mk1 (rac M c) k + bk1 (rac M c) (rnu M c) k); simp only [mk1, bk1]; (first | rw [if_pos (show rac M c k = 8 by unfold rac; omega), if_neg (show ¬ ((rac M c k = 6 ∨ rac M c k = 7) ∧ rnu M c k ≤ lN k) by unfold rac; omega)] | rw [if_neg (show ¬ rac M c k = 8 by unfold rac; omega), if_pos h107] | rw [if_neg (show ¬ rac M c k = 8 by unfold rac; omega), if_neg h107]) <;> omega)
                  · skip
                    refine V_iconst C (nI 1) dX11_about_110 (by decide) ?_
                    refine V_goto (tgt := 115) C dX11_about_111 (by decide) ?_
                    refine V_iaddN C dX11_about_115 ?_
                    refine V_istore_n (lv' := [(3, _), (4, _), (0, _), (1, _), (2, _)]) C dX11_about_116 rfl (by decide) rfl ?_
                    refine V_iincN (lv' := [(4, _), (3, _), (0, _), (1, _), (2, _)]) C dX11_about_117 rfl (b := 1) (by decide) (by decide) rfl ?_
                    refine V_goto (tgt := 71) C dX11_about_120 (by decide) ?_
                    refine V_lv [0, 1, 2, 3, 4] rfl ?_
                    exact ih _ _ (by omega) (by omega) (by rw [ha]; show _ = 1 + gN M 46 0 c + (mks (rac M c) (rnu M c) k + mk1 (rac M c) k + bk1 (rac M c) (rnu M c) k); simp only [mk1, bk1]; (first | rw [if_pos (show rac M c k = 8 by unfold rac; omega), if_neg (show ¬ ((rac M c k = 6 ∨ rac M c k = 7) ∧ rnu M c k ≤ lN k) by unfold rac; omega)] | rw [if_neg (show ¬ rac M c k = 8 by unfold rac; omega), if_pos h107] | rw [if_neg (show ¬ rac M c k = 8 by unfold rac; omega), if_neg h107]) <;> omega)
          refine V_lv [0, 1, 2, 3, 4] rfl ?_
          exact LP71 _ _ 0 (Nat.lt_succ_self _) (Nat.zero_le _) rfl
        · skip
          refine V_bipush C (-4) dX11_about_56 (by decide) ?_
          refine V_iret C E dX11_about_58 ?_
          exact ⟨rfl, Or.inl ⟨c, w, hc, rfl, by omega, rfl, by unfold abR; rw [if_neg (by omega), if_neg (by omega), if_pos h53]⟩⟩
      · skip
        refine V_iload_n C dX11_about_28 rfl rfl ?_
        refine V_ifN_ne (tgt := 41) C dX11_about_29 (by omega) (by decide) (fun h29 => ?_) (fun h29 => ?_)
        · skip
          refine V_aload_n C dX11_about_41 rfl rfl ?_
          refine gf_X11_26 C dX11_about_42 ?_
          refine V_iload_n C dX11_about_45 rfl rfl ?_
          refine ld_46 C (by omega) dX11_about_46 ?_
          refine V_iret C E dX11_about_47 ?_
          first | exact ⟨rfl, Or.inl ⟨c, w, hc, rfl, by omega, rfl, by unfold abR; rw [if_pos h29]⟩⟩ | exact ⟨rfl, Or.inl ⟨c, w, hc, rfl, by omega, rfl, by unfold abR; rw [if_neg h29, if_pos (by omega)]⟩⟩
        · skip
          refine V_aload_n C dX11_about_32 rfl rfl ?_
          refine gf_X11_7 C dX11_about_33 ?_
          refine V_iload_n C dX11_about_36 rfl rfl ?_
          refine ld_41 C (by omega) dX11_about_37 ?_
          refine V_goto (tgt := 47) C dX11_about_38 (by decide) ?_
          refine V_iret C E dX11_about_47 ?_
          first | exact ⟨rfl, Or.inl ⟨c, w, hc, rfl, by omega, rfl, by unfold abR; rw [if_pos h29]⟩⟩ | exact ⟨rfl, Or.inl ⟨c, w, hc, rfl, by omega, rfl, by unfold abR; rw [if_neg h29, if_pos (by omega)]⟩⟩
    · skip
      refine V_bipush C (-2) dX11_about_20 (by decide) ?_
      refine V_iret C E dX11_about_22 ?_
      first | exact ⟨rfl, Or.inr ⟨fun q => h5 q.1, rfl⟩⟩ | exact ⟨rfl, Or.inr ⟨fun q => h17 ((w0_iff (by decide)).mpr q.2), rfl⟩⟩

set_option maxRecDepth 20000 in
set_option maxHeartbeats 4000000 in
theorem ct_X11_counts {l : Launch} {G : Gm} {M : Mem} {k : Nat} (h1 : gN M 40 0 29 ≤ gN M 40 0 23) (h2 : gN M 40 0 23 ≤ 200) (hk : k ≤ 1001) : Ct l G rM yX11_counts (.code yX11_counts cX11_counts 3 (some .boolean) :: GW) rmX11_counts [.ref (ad G 40 0), .long (lN k)] M (fun r M' => some (.int (nI (bN (gN M 40 0 29 + k ≤ gN M 40 0 23)))) = r ∧ (if gN M 40 0 29 + k ≤ gN M 40 0 23 then sN M 40 0 29 (gN M 40 0 29 + k) else sN M 40 0 24 1) = M') := by
  refine Ct_of (cc := cX11_counts) (by decide) [(0, _), (1, _)] rfl (Nat.le_of_ble_eq_true rfl) (fun pp ee ss mm aa bb mt cd C E => ?_)
  refine V_lload_n C dX11_counts_0 rfl rfl ?_
  refine V_aload_n C dX11_counts_1 rfl rfl ?_
  refine gf_X11_137 C dX11_counts_2 ?_
  refine V_aload_n C dX11_counts_5 rfl rfl ?_
  refine gf_X11_140 C dX11_counts_6 ?_
  refine V_isubN C dX11_counts_9 (by omega) ?_
  refine V_i2lN C dX11_counts_10 (by omega) ?_
  refine V_lcmp C dX11_counts_11 ?_
  refine V_ifL_le (tgt := 22) C dX11_counts_12 (by decide) (fun h12 => ?_) (fun h12 => ?_)
  · skip
    rw [pk_lLE (by omega) (by omega)] at h12
    refine V_aload_n C dX11_counts_22 rfl rfl ?_
    refine V_dup C dX11_counts_23 rfl ?_
    refine gf_X11_140 C dX11_counts_24 ?_
    refine V_lload_n C dX11_counts_27 rfl rfl ?_
    refine V_l2iN C dX11_counts_28 rfl ?_
    refine V_iaddN C dX11_counts_29 ?_
    refine pf_X11_140 C dX11_counts_30 ?_
    refine V_iconst C (nI 1) dX11_counts_33 (by decide) ?_
    refine V_zret C E dX11_counts_34 (by first | decide | (unfold bN; split <;> omega)) ?_
    first | (rw [bN_t (by omega), if_pos (by omega)]; exact ⟨rfl, rfl⟩) | (rw [bN_f (by omega), if_neg (by omega)]; exact ⟨rfl, rfl⟩)
  · skip
    rw [pk_lLE (by omega) (by omega)] at h12
    refine V_aload_n C dX11_counts_15 rfl rfl ?_
    refine V_iconst C (nI 1) dX11_counts_16 (by decide) ?_
    refine pf_X11_143 C (by decide) dX11_counts_17 ?_
    refine V_iconst C (nI 0) dX11_counts_20 (by decide) ?_
    refine V_zret C E dX11_counts_21 (by first | decide | (unfold bN; split <;> omega)) ?_
    first | (rw [bN_t (by omega), if_pos (by omega)]; exact ⟨rfl, rfl⟩) | (rw [bN_f (by omega), if_neg (by omega)]; exact ⟨rfl, rfl⟩)

set_option maxRecDepth 20000 in
set_option maxHeartbeats 4000000 in
theorem ct_X11_answer {l : Launch} {G : Gm} {M : Mem}  : Ct l G rM yX11_answer (.code yX11_answer cX11_answer 1 (some .long) :: GW) rmX11_answer [.ref (ad G 40 0)] M (fun r M' => some (.long (gJ M 40 0 28)) = r ∧ M = M') := by
  refine Ct_of (cc := cX11_answer) (by decide) [(0, _)] rfl (Nat.le_of_ble_eq_true rfl) (fun pp ee ss mm aa bb mt cd C E => ?_)
  refine V_aload_n C dX11_answer_0 rfl rfl ?_
  refine gf_X11_166 C dX11_answer_1 ?_
  refine V_lret C E dX11_answer_4 ?_
  exact ⟨rfl, rfl⟩

set_option maxRecDepth 20000 in
set_option maxHeartbeats 4000000 in
theorem ct_X11_told {l : Launch} {G : Gm} {M : Mem} {x : Int32} : Ct l G rM yX11_told (.code yX11_told cX11_told 2 (some .int) :: GW) rmX11_told [.ref (ad G 40 0), .int x] M (fun r M' => some (.int (tel (nI (gN M 40 0 29)) (nI (gN M 40 0 26)) (gI M 40 0 27) (nI (gN M 40 0 30)) (nI (gN M 40 0 31)) (nI (gN M 40 0 32)) (gI M 40 0 34) (nI (gN M 40 0 35)) x)) = r ∧ M = M') := by
  refine Ct_of (cc := cX11_told) (by decide) [(0, _), (1, _)] rfl (Nat.le_of_ble_eq_true rfl) (fun pp ee ss mm aa bb mt cd C E => ?_)
  refine V_iload_n C dX11_told_0 rfl rfl ?_
  by_cases h1_0 : x = nI 0
  · refine V_tabIn (tgt := 48) C dX11_told_1 (0) (by rw [h1_0]; decide) (by decide) (by decide) rfl (by decide) ?_
    subst h1_0
    refine V_aload_n C dX11_told_48 rfl rfl ?_
    refine gf_X11_140 C dX11_told_49 ?_
    refine V_iret C E dX11_told_52 ?_
    exact ⟨by first | rfl | (unfold tel; simp only [h1_0, h1_1, h1_2, h1_3, h1_4, h1_5, h1_6, h1_7, if_false]), rfl⟩
  by_cases h1_1 : x = nI 1
  · refine V_tabIn (tgt := 53) C dX11_told_1 (1) (by rw [h1_1]; decide) (by decide) (by decide) rfl (by decide) ?_
    subst h1_1
    refine V_aload_n C dX11_told_53 rfl rfl ?_
    refine gf_X11_170 C dX11_told_54 ?_
    refine V_iret C E dX11_told_57 ?_
    exact ⟨by first | rfl | (unfold tel; simp only [h1_0, h1_1, h1_2, h1_3, h1_4, h1_5, h1_6, h1_7, if_false]), rfl⟩
  by_cases h1_2 : x = nI 2
  · refine V_tabIn (tgt := 58) C dX11_told_1 (2) (by rw [h1_2]; decide) (by decide) (by decide) rfl (by decide) ?_
    subst h1_2
    refine V_aload_n C dX11_told_58 rfl rfl ?_
    refine gf_X11_173 C dX11_told_59 ?_
    refine V_iret C E dX11_told_62 ?_
    exact ⟨by first | rfl | (unfold tel; simp only [h1_0, h1_1, h1_2, h1_3, h1_4, h1_5, h1_6, h1_7, if_false]), rfl⟩
  by_cases h1_3 : x = nI 3
  · refine V_tabIn (tgt := 63) C dX11_told_1 (3) (by rw [h1_3]; decide) (by decide) (by decide) rfl (by decide) ?_
    subst h1_3
    refine V_aload_n C dX11_told_63 rfl rfl ?_
    refine gf_X11_154 C dX11_told_64 ?_
    refine V_iret C E dX11_told_67 ?_
    exact ⟨by first | rfl | (unfold tel; simp only [h1_0, h1_1, h1_2, h1_3, h1_4, h1_5, h1_6, h1_7, if_false]), rfl⟩
  by_cases h1_4 : x = nI 4
  · refine V_tabIn (tgt := 68) C dX11_told_1 (4) (by rw [h1_4]; decide) (by decide) (by decide) rfl (by decide) ?_
    subst h1_4
    refine V_aload_n C dX11_told_68 rfl rfl ?_
    refine gf_X11_180 C dX11_told_69 ?_
    refine V_iret C E dX11_told_72 ?_
    exact ⟨by first | rfl | (unfold tel; simp only [h1_0, h1_1, h1_2, h1_3, h1_4, h1_5, h1_6, h1_7, if_false]), rfl⟩
  by_cases h1_5 : x = nI 5
  · refine V_tabIn (tgt := 73) C dX11_told_1 (5) (by rw [h1_5]; decide) (by decide) (by decide) rfl (by decide) ?_
    subst h1_5
    refine V_aload_n C dX11_told_73 rfl rfl ?_
    refine gf_X11_188 C dX11_told_74 ?_
    refine V_iret C E dX11_told_77 ?_
    exact ⟨by first | rfl | (unfold tel; simp only [h1_0, h1_1, h1_2, h1_3, h1_4, h1_5, h1_6, h1_7, if_false]), rfl⟩
  by_cases h1_6 : x = nI 6
  · refine V_tabIn (tgt := 78) C dX11_told_1 (6) (by rw [h1_6]; decide) (by decide) (by decide) rfl (by decide) ?_
    subst h1_6
    refine V_aload_n C dX11_told_78 rfl rfl ?_
    refine gf_X11_191 C dX11_told_79 ?_
    refine V_iret C E dX11_told_82 ?_
    exact ⟨by first | rfl | (unfold tel; simp only [h1_0, h1_1, h1_2, h1_3, h1_4, h1_5, h1_6, h1_7, if_false]), rfl⟩
  by_cases h1_7 : x = nI 7
  · refine V_tabIn (tgt := 83) C dX11_told_1 (7) (by rw [h1_7]; decide) (by decide) (by decide) rfl (by decide) ?_
    subst h1_7
    refine V_aload_n C dX11_told_83 rfl rfl ?_
    refine gf_X11_194 C dX11_told_84 ?_
    refine V_iret C E dX11_told_87 ?_
    exact ⟨by first | rfl | (unfold tel; simp only [h1_0, h1_1, h1_2, h1_3, h1_4, h1_5, h1_6, h1_7, if_false]), rfl⟩
  refine V_tabOut (tgt := 88) C dX11_told_1 (sw_out (lo := 0) (hi := 7) (by decide) (by decide) (fun n h1 h2 => by rcases (show n = 0 ∨ n = 1 ∨ n = 2 ∨ n = 3 ∨ n = 4 ∨ n = 5 ∨ n = 6 ∨ n = 7 by omega) with rfl | rfl | rfl | rfl | rfl | rfl | rfl | rfl <;> assumption)) (by decide) ?_
  refine V_bipush C (-2) dX11_told_88 (by decide) ?_
  refine V_iret C E dX11_told_90 ?_
  exact ⟨by first | rfl | (unfold tel; simp only [h1_0, h1_1, h1_2, h1_3, h1_4, h1_5, h1_6, h1_7, if_false]), rfl⟩

