/-- what an INSTRUCTION at PLACE p of the FRAME f does -/
def PerfP (pk : Nat) (M : Mem) (f c p : Nat) (r : Option Value) (M' : Mem) : Prop :=
  (gN M 11 c p = 0 ∧ some (.int (nI 0)) = r ∧ sJ (sI M 2 0 5 (nI 0)) 31 f (gN M 12 c p) (gJ M 14 c p) = M') ∨
  ((1 ≤ gN M 11 c p ∧ gN M 11 c p ≤ 5) ∧ ReckP (sI M 2 0 5 (nI 0)) f c p (gN M 11 c p) r M') ∨
  (gN M 11 c p = 6 ∧ some (.int (nI 0)) = r ∧ LeapP pk (sI M 2 0 5 (nI 0)) f c p M') ∨
  (gN M 11 c p = 7 ∧ some (.int (nI 0)) = r ∧ ((lN 0 < gJ M 31 f (gN M 12 c p) ∧ LeapP pk (sI M 2 0 5 (nI 0)) f c p M') ∨ (¬ lN 0 < gJ M 31 f (gN M 12 c p) ∧ sI M 2 0 5 (nI 0) = M'))) ∨
  (gN M 11 c p = 8 ∧ ∃ n, n ≤ 6 ∧ gJ M 14 c p = lN n ∧ MakeP (sI M 2 0 5 (nI 0)) f (nI n) (gJ M 31 f (gN M 12 c p)) r M') ∨
  ((9 ≤ gN M 11 c p ∧ gN M 11 c p ≤ 12) ∧ LookP (sI M 2 0 5 (nI 0)) f c p (gN M 11 c p) r M') ∨
  (gN M 11 c p = 13 ∧ some (.int (nI 0)) = r ∧ ∃ n, n ≤ 5 ∧ gJ M 14 c p = lN n ∧ ((n < gN M 1 0 1 ∧ BegP pk (sI M 2 0 5 (nI 0)) n (gJ M 31 f (gN M 12 c p)) M') ∨ (¬ n < gN M 1 0 1 ∧ stp (sI M 2 0 5 (nI 0)) = M'))) ∨
  (gN M 11 c p = 14 ∧ some (.int (nI 0)) = r ∧ GiveP (sI M 2 0 5 (nI 0)) f (gJ M 31 f (gN M 12 c p)) M') ∨
  (gN M 11 c p = 15 ∧ some (.int (nI 8)) = r ∧ sI (sI M 2 0 5 (nI 0)) 2 0 5 (gJ M 31 f (gN M 12 c p)).toInt32 = M') ∨
  (gN M 11 c p = 16 ∧ some (.int (nI (if gN M 30 f 7 = 0 then 7 else gN M 30 f 7))) = r ∧ sI (sI M 2 0 5 (nI 0)) 2 0 5 (gI M 30 f 8) = M') ∨
  (gN M 11 c p = 17 ∧ some (.int (nI 0)) = r ∧ ∃ g, g ≤ 2 ∧ gJ M 14 c p = lN g ∧ HoldP (sI M 2 0 5 (nI 0)) f g M') ∨
  (gN M 11 c p = 18 ∧ ∃ g, g ≤ 2 ∧ gJ M 14 c p = lN g ∧ LetP (sI M 2 0 5 (nI 0)) f g r M')
theorem FrOK_5 {M : Mem} {f c : Nat} {x : Int32} (h : FrOK M f c) : FrOK (sI M 2 0 5 x) f c := FrOK_Sc (Sc_I (by omega)) rfl h
theorem LetP.r {M M' : Mem} {f g : Nat} {r : Option Value} (h : LetP M f g r M') : ∃ y : Int32, r = some (.int y) := by
  rcases h with ⟨_, h, _⟩ | ⟨_, h, _⟩ <;> exact ⟨_, h.symm⟩
theorem MakeP.r {M M' : Mem} {f : Nat} {x : Int32} {a : Int64} {r : Option Value} (h : MakeP M f x a r M') : ∃ y : Int32, r = some (.int y) := by
  rcases h with ⟨_, h, _⟩ | ⟨_, _, _, h, _⟩ <;> exact ⟨_, h.symm⟩
theorem ReckP.r {M M' : Mem} {f c p a : Nat} {r : Option Value} (h : ReckP M f c p a r M') : ∃ y : Int32, r = some (.int y) := by
  rcases h with ⟨_, h, _⟩ | ⟨_, h, _⟩ | ⟨_, h, _⟩ | ⟨_, _, h, _⟩ | ⟨_, _, h, _⟩ | ⟨_, _, h, _⟩ <;> exact ⟨_, h.symm⟩
theorem LookP.r {M M' : Mem} {f c p a : Nat} {r : Option Value} (h : LookP M f c p a r M') : ∃ y : Int32, r = some (.int y) := by
  rcases h with ⟨_, ⟨_, h, _⟩ | ⟨_, _, _, _, ⟨_, _, h, _⟩ | ⟨_, h, _⟩⟩⟩ | ⟨_, _, _, _, ⟨_, h, _⟩ | ⟨_, h, _⟩⟩ | ⟨_, ⟨_, h, _⟩ | ⟨_, h, _⟩⟩ | ⟨_, ⟨_, h, _⟩ | ⟨_, _, _, _, h, _⟩⟩ <;> exact ⟨_, h.symm⟩
set_option maxRecDepth 20000 in
set_option maxHeartbeats 4000000 in
theorem ct_X2_perform {l : Launch} {G : Gm} {M : Mem} {pk : Nat} (hpk : pk = 3 ∨ pk = 4) {f c p : Nat} (hf : f < 12) (hF : FrOK M f c) (hPI : PI M) (hA : At pk M f c p) (hp2 : p < gN M 10 c 4) (hd : 1 ≤ gN M 2 0 3) (hd2 : gN M 2 0 3 ≤ 12) (hlo : ∀ g, gN M 2 0 3 = g + 2 → FrOK M g (gN M 30 g 3) ∧ gN M 30 g 4 < gN M 10 (gN M 30 g 3) 4) (h4 : gN M 7 0 4 ≤ 12) (hn : gN M 33 f 2 ≤ 200) (hh : ∀ g, g ≤ 2 → gN M 32 f g ≤ 2000) (hck : gN M 30 f 7 ≤ 8) (hmk : gN M 11 c p = 8 → (gJ M 31 f (gN M 12 c p)).toInt ≤ 200) (h1 : gN M 7 0 1 ≤ gN M 7 0 0) (h2 : gN M 7 0 0 ≤ 200)  : Ct l G rX yX2_perform (.code yX2_perform cX2_perform 8 (some .int) :: GW) rmX2_perform [.ref (ad G 2 0), .ref (ad G 30 f), .ref (ad G pk 0)] M (fun r M' => PerfP pk M f c p r M') := by
  have hc := hF.1
  have hp := hA.2.1
  have hc6 := hF.2.1
  have hi := hF.2.2.1
  have hs := hi.1
  have hrg := hi.2.2.1 p (by omega)
  have hF5 := FrOK_5 (x := nI 0) hF
  have hc7 := hPI.1
  refine Ct_of (cc := cX2_perform) (by decide) [(0, _), (1, _), (2, _)] rfl (Nat.le_of_ble_eq_true rfl) (fun pp ee ss mm aa bb mt cd C E => ?_)
  refine V_aload_n C dX2_perform_0 rfl rfl ?_
  refine gf_X2_122 C (by omega) dX2_perform_1 ?_
  try simp only [gNN, gNI, gNJ, gIN, gII, gIJ, gJN, gJI, gJJ, Nat.reduceEqDiff, false_and, and_false, true_and, and_true, if_false, if_true]
  rw [hc]
  refine V_astore_n (lv' := [(3, _), (0, _), (1, _), (2, _)]) C dX2_perform_4 rfl (by decide) rfl ?_
  refine V_aload_n C dX2_perform_5 rfl rfl ?_
  refine V_aload_n C dX2_perform_6 rfl rfl ?_
  refine gf_X2_126 C (by omega) dX2_perform_7 ?_
  try simp only [gNN, gNI, gNJ, gIN, gII, gIJ, gJN, gJI, gJJ, Nat.reduceEqDiff, false_and, and_false, true_and, and_true, if_false, if_true]
  rw [hp]
  refine V_callV C [_] (ct_X0_act hc6 hi (by omega)) cv_X0_act lk_X2_129 (in_10 (by omega)) rfl rfl ⟨Nat.le_of_ble_eq_true rfl, Nat.le_of_ble_eq_true rfl⟩ rfl rfl (Nat.le_of_ble_eq_true rfl) dX2_perform_10 (fun r M' hr => ?_)
  obtain ⟨rfl, rfl⟩ := hr
  try simp only [gNN, gNI, gNJ, gIN, gII, gIJ, gJN, gJI, gJJ, Nat.reduceEqDiff, false_and, and_false, true_and, and_true, if_false, if_true]
  rw [if_pos hp2]
  refine V_istore (lv' := [(4, _), (3, _), (0, _), (1, _), (2, _)]) C dX2_perform_13 (by decide) rfl ?_
  refine V_aload_n C dX2_perform_15 rfl rfl ?_
  refine V_aload_n C dX2_perform_16 rfl rfl ?_
  refine gf_X2_126 C (by omega) dX2_perform_17 ?_
  try simp only [gNN, gNI, gNJ, gIN, gII, gIJ, gJN, gJI, gJJ, Nat.reduceEqDiff, false_and, and_false, true_and, and_true, if_false, if_true]
  rw [hp]
  refine V_callV C [_] (ct_X0_first hc6 hi (by omega)) cv_X0_first lk_X2_133 (in_10 (by omega)) rfl rfl ⟨Nat.le_of_ble_eq_true rfl, Nat.le_of_ble_eq_true rfl⟩ rfl rfl (Nat.le_of_ble_eq_true rfl) dX2_perform_20 (fun r M' hr => ?_)
  obtain ⟨rfl, rfl⟩ := hr
  try simp only [gNN, gNI, gNJ, gIN, gII, gIJ, gJN, gJI, gJJ, Nat.reduceEqDiff, false_and, and_false, true_and, and_true, if_false, if_true]
  rw [if_pos hp2]
  refine V_istore (lv' := [(5, _), (4, _), (3, _), (0, _), (1, _), (2, _)]) C dX2_perform_23 (by decide) rfl ?_
  refine V_aload_n C dX2_perform_25 rfl rfl ?_
  refine V_aload_n C dX2_perform_26 rfl rfl ?_
  refine gf_X2_126 C (by omega) dX2_perform_27 ?_
  try simp only [gNN, gNI, gNJ, gIN, gII, gIJ, gJN, gJI, gJJ, Nat.reduceEqDiff, false_and, and_false, true_and, and_true, if_false, if_true]
  rw [hp]
  refine V_callV C [_] (ct_X0_number hc6 hi (by omega)) cv_X0_number lk_X2_136 (in_10 (by omega)) rfl rfl ⟨Nat.le_of_ble_eq_true rfl, Nat.le_of_ble_eq_true rfl⟩ rfl rfl (Nat.le_of_ble_eq_true rfl) dX2_perform_30 (fun r M' hr => ?_)
  obtain ⟨rfl, rfl⟩ := hr
  try simp only [gNN, gNI, gNJ, gIN, gII, gIJ, gJN, gJI, gJJ, Nat.reduceEqDiff, false_and, and_false, true_and, and_true, if_false, if_true]
  rw [if_pos hp2]
  refine V_lstore (lv' := [(6, _), (5, _), (4, _), (3, _), (0, _), (1, _), (2, _)]) C dX2_perform_33 (by decide) rfl ?_
  refine V_aload_n C dX2_perform_35 rfl rfl ?_
  refine V_iconst C (nI 0) dX2_perform_36 (by decide) ?_
  refine pf_X2_31 C dX2_perform_37 ?_
  refine V_iload C dX2_perform_40 rfl ?_
  by_cases h42_0 : gN M 11 c p = 0
  · refine V_tabIn (tgt := 132) C dX2_perform_42 (0) (by rw [h42_0]; decide) (by decide) (by decide) rfl (by decide) ?_
    refine V_aload_n C dX2_perform_132 rfl rfl ?_
    refine V_iload C dX2_perform_133 rfl ?_
    refine V_lload C dX2_perform_135 rfl ?_
    refine V_callV C [_, _] (ct_X1_become hf (by omega)) cv_X1_become lk_X2_139 (in_30 (by omega)) rfl rfl ⟨Nat.le_of_ble_eq_true rfl, Nat.le_of_ble_eq_true rfl⟩ rfl rfl (Nat.le_of_ble_eq_true rfl) dX2_perform_137 (fun r M' hr => ?_)
    obtain ⟨rfl, rfl⟩ := hr
    try simp only [gNN, gNI, gNJ, gIN, gII, gIJ, gJN, gJI, gJJ, Nat.reduceEqDiff, false_and, and_false, true_and, and_true, if_false, if_true]
    refine V_iconst C (nI 0) dX2_perform_140 (by decide) ?_
    refine V_iret C E dX2_perform_141 ?_
    exact Or.inl ⟨h42_0, rfl, rfl⟩
  by_cases h42_1 : gN M 11 c p = 1
  · refine V_tabIn (tgt := 298) C dX2_perform_42 (1) (by rw [h42_1]; decide) (by decide) (by decide) rfl (by decide) ?_
    refine V_aload_n C dX2_perform_298 rfl rfl ?_
    refine V_aload_n C dX2_perform_299 rfl rfl ?_
    refine V_iload C dX2_perform_300 rfl ?_
    refine V_callV C [_, _] (ct_X2_reckon (M := (sI M 2 0 5 (nI 0))) hf hF5 hp hp2 (a := gN M 11 c p) (by omega)) cv_X2_reckon lk_X2_182 in_2 rfl rfl ⟨Nat.le_of_ble_eq_true rfl, Nat.le_of_ble_eq_true rfl⟩ rfl rfl (Nat.le_of_ble_eq_true rfl) dX2_perform_302 (fun r M' hr => ?_)
    obtain ⟨y, rfl⟩ := hr.r
    try simp only [gNN, gNI, gNJ, gIN, gII, gIJ, gJN, gJI, gJJ, Nat.reduceEqDiff, false_and, and_false, true_and, and_true, if_false, if_true]
    refine V_iret C E dX2_perform_305 ?_
    exact Or.inr (Or.inl ⟨by omega, hr⟩)
  by_cases h42_2 : gN M 11 c p = 2
  · refine V_tabIn (tgt := 298) C dX2_perform_42 (2) (by rw [h42_2]; decide) (by decide) (by decide) rfl (by decide) ?_
    refine V_aload_n C dX2_perform_298 rfl rfl ?_
    refine V_aload_n C dX2_perform_299 rfl rfl ?_
    refine V_iload C dX2_perform_300 rfl ?_
    refine V_callV C [_, _] (ct_X2_reckon (M := (sI M 2 0 5 (nI 0))) hf hF5 hp hp2 (a := gN M 11 c p) (by omega)) cv_X2_reckon lk_X2_182 in_2 rfl rfl ⟨Nat.le_of_ble_eq_true rfl, Nat.le_of_ble_eq_true rfl⟩ rfl rfl (Nat.le_of_ble_eq_true rfl) dX2_perform_302 (fun r M' hr => ?_)
    obtain ⟨y, rfl⟩ := hr.r
    try simp only [gNN, gNI, gNJ, gIN, gII, gIJ, gJN, gJI, gJJ, Nat.reduceEqDiff, false_and, and_false, true_and, and_true, if_false, if_true]
    refine V_iret C E dX2_perform_305 ?_
    exact Or.inr (Or.inl ⟨by omega, hr⟩)
  by_cases h42_3 : gN M 11 c p = 3
  · refine V_tabIn (tgt := 298) C dX2_perform_42 (3) (by rw [h42_3]; decide) (by decide) (by decide) rfl (by decide) ?_
    refine V_aload_n C dX2_perform_298 rfl rfl ?_
    refine V_aload_n C dX2_perform_299 rfl rfl ?_
    refine V_iload C dX2_perform_300 rfl ?_
    refine V_callV C [_, _] (ct_X2_reckon (M := (sI M 2 0 5 (nI 0))) hf hF5 hp hp2 (a := gN M 11 c p) (by omega)) cv_X2_reckon lk_X2_182 in_2 rfl rfl ⟨Nat.le_of_ble_eq_true rfl, Nat.le_of_ble_eq_true rfl⟩ rfl rfl (Nat.le_of_ble_eq_true rfl) dX2_perform_302 (fun r M' hr => ?_)
    obtain ⟨y, rfl⟩ := hr.r
    try simp only [gNN, gNI, gNJ, gIN, gII, gIJ, gJN, gJI, gJJ, Nat.reduceEqDiff, false_and, and_false, true_and, and_true, if_false, if_true]
    refine V_iret C E dX2_perform_305 ?_
    exact Or.inr (Or.inl ⟨by omega, hr⟩)
  by_cases h42_4 : gN M 11 c p = 4
  · refine V_tabIn (tgt := 298) C dX2_perform_42 (4) (by rw [h42_4]; decide) (by decide) (by decide) rfl (by decide) ?_
    refine V_aload_n C dX2_perform_298 rfl rfl ?_
    refine V_aload_n C dX2_perform_299 rfl rfl ?_
    refine V_iload C dX2_perform_300 rfl ?_
    refine V_callV C [_, _] (ct_X2_reckon (M := (sI M 2 0 5 (nI 0))) hf hF5 hp hp2 (a := gN M 11 c p) (by omega)) cv_X2_reckon lk_X2_182 in_2 rfl rfl ⟨Nat.le_of_ble_eq_true rfl, Nat.le_of_ble_eq_true rfl⟩ rfl rfl (Nat.le_of_ble_eq_true rfl) dX2_perform_302 (fun r M' hr => ?_)
    obtain ⟨y, rfl⟩ := hr.r
    try simp only [gNN, gNI, gNJ, gIN, gII, gIJ, gJN, gJI, gJJ, Nat.reduceEqDiff, false_and, and_false, true_and, and_true, if_false, if_true]
    refine V_iret C E dX2_perform_305 ?_
    exact Or.inr (Or.inl ⟨by omega, hr⟩)
  by_cases h42_5 : gN M 11 c p = 5
  · refine V_tabIn (tgt := 298) C dX2_perform_42 (5) (by rw [h42_5]; decide) (by decide) (by decide) rfl (by decide) ?_
    refine V_aload_n C dX2_perform_298 rfl rfl ?_
    refine V_aload_n C dX2_perform_299 rfl rfl ?_
    refine V_iload C dX2_perform_300 rfl ?_
    refine V_callV C [_, _] (ct_X2_reckon (M := (sI M 2 0 5 (nI 0))) hf hF5 hp hp2 (a := gN M 11 c p) (by omega)) cv_X2_reckon lk_X2_182 in_2 rfl rfl ⟨Nat.le_of_ble_eq_true rfl, Nat.le_of_ble_eq_true rfl⟩ rfl rfl (Nat.le_of_ble_eq_true rfl) dX2_perform_302 (fun r M' hr => ?_)
    obtain ⟨y, rfl⟩ := hr.r
    try simp only [gNN, gNI, gNJ, gIN, gII, gIJ, gJN, gJI, gJJ, Nat.reduceEqDiff, false_and, and_false, true_and, and_true, if_false, if_true]
    refine V_iret C E dX2_perform_305 ?_
    exact Or.inr (Or.inl ⟨by omega, hr⟩)
  by_cases h42_6 : gN M 11 c p = 6
  · refine V_tabIn (tgt := 142) C dX2_perform_42 (6) (by rw [h42_6]; decide) (by decide) (by decide) rfl (by decide) ?_
    refine V_aload_n C dX2_perform_142 rfl rfl ?_
    refine V_aload_n C dX2_perform_143 rfl rfl ?_
    refine V_aload_n C dX2_perform_144 rfl rfl ?_
    refine V_callV C [_, _] (ct_X2_leap (M := (sI M 2 0 5 (nI 0))) hpk hf hF5 hA hp2 (by rw [gNI]; omega) h1 h2) cv_X2_leap lk_X2_143 in_2 rfl rfl ⟨Nat.le_of_ble_eq_true rfl, Nat.le_of_ble_eq_true rfl⟩ rfl rfl (Nat.le_of_ble_eq_true rfl) dX2_perform_145 (fun r M' hr => ?_)
    obtain ⟨rfl, hL⟩ := hr
    try simp only [gNN, gNI, gNJ, gIN, gII, gIJ, gJN, gJI, gJJ, Nat.reduceEqDiff, false_and, and_false, true_and, and_true, if_false, if_true]
    refine V_iconst C (nI 0) dX2_perform_148 (by decide) ?_
    refine V_iret C E dX2_perform_149 ?_
    exact Or.inr (Or.inr (Or.inl ⟨h42_6, rfl, hL⟩))
  by_cases h42_7 : gN M 11 c p = 7
  · refine V_tabIn (tgt := 150) C dX2_perform_42 (7) (by rw [h42_7]; decide) (by decide) (by decide) rfl (by decide) ?_
    refine V_aload_n C dX2_perform_150 rfl rfl ?_
    refine V_iload C dX2_perform_151 rfl ?_
    refine V_callV C [_] (ct_X1_register hf (by omega)) cv_X1_register lk_X2_147 (in_30 (by omega)) rfl rfl ⟨Nat.le_of_ble_eq_true rfl, Nat.le_of_ble_eq_true rfl⟩ rfl rfl (Nat.le_of_ble_eq_true rfl) dX2_perform_153 (fun r M' hr => ?_)
    obtain ⟨rfl, rfl⟩ := hr
    try simp only [gNN, gNI, gNJ, gIN, gII, gIJ, gJN, gJI, gJJ, Nat.reduceEqDiff, false_and, and_false, true_and, and_true, if_false, if_true]
    refine V_lconst C (lN 0) dX2_perform_156 (by decide) ?_
    refine V_lcmp C dX2_perform_157 ?_
    refine V_ifL_le (tgt := 167) C dX2_perform_158 (by decide) (fun h158 => ?_) (fun h158 => ?_)
    · skip
      refine V_iconst C (nI 0) dX2_perform_167 (by decide) ?_
      refine V_iret C E dX2_perform_168 ?_
      first | exact Or.inr (Or.inr (Or.inr (Or.inl ⟨h42_7, rfl, Or.inl ⟨by rw [Int64.not_le] at h158; exact h158, hL⟩⟩))) | exact Or.inr (Or.inr (Or.inr (Or.inl ⟨h42_7, rfl, Or.inr ⟨Int64.not_lt.mpr h158, rfl⟩⟩)))
    · skip
      refine V_aload_n C dX2_perform_161 rfl rfl ?_
      refine V_aload_n C dX2_perform_162 rfl rfl ?_
      refine V_aload_n C dX2_perform_163 rfl rfl ?_
      refine V_callV C [_, _] (ct_X2_leap (M := (sI M 2 0 5 (nI 0))) hpk hf hF5 hA hp2 (by rw [gNI]; omega) h1 h2) cv_X2_leap lk_X2_143 in_2 rfl rfl ⟨Nat.le_of_ble_eq_true rfl, Nat.le_of_ble_eq_true rfl⟩ rfl rfl (Nat.le_of_ble_eq_true rfl) dX2_perform_164 (fun r M' hr => ?_)
      obtain ⟨rfl, hL⟩ := hr
      try simp only [gNN, gNI, gNJ, gIN, gII, gIJ, gJN, gJI, gJJ, Nat.reduceEqDiff, false_and, and_false, true_and, and_true, if_false, if_true]
      refine V_iconst C (nI 0) dX2_perform_167 (by decide) ?_
      refine V_iret C E dX2_perform_168 ?_
      first | exact Or.inr (Or.inr (Or.inr (Or.inl ⟨h42_7, rfl, Or.inl ⟨by rw [Int64.not_le] at h158; exact h158, hL⟩⟩))) | exact Or.inr (Or.inr (Or.inr (Or.inl ⟨h42_7, rfl, Or.inr ⟨Int64.not_lt.mpr h158, rfl⟩⟩)))
  by_cases h42_8 : gN M 11 c p = 8
  · refine V_tabIn (tgt := 169) C dX2_perform_42 (8) (by rw [h42_8]; decide) (by decide) (by decide) rfl (by decide) ?_
    obtain ⟨v, hv1, hv2⟩ := (hi.2.2.2.2 p hp2).2.1 (Or.inl (by omega))
    refine V_aload_n C dX2_perform_169 rfl rfl ?_
    refine V_aload_n C dX2_perform_170 rfl rfl ?_
    refine V_lload C dX2_perform_171 rfl ?_
    refine V_l2iN C dX2_perform_173 hv2 ?_
    refine V_aload_n C dX2_perform_174 rfl rfl ?_
    refine V_iload C dX2_perform_175 rfl ?_
    refine V_callV C [_] (ct_X1_register hf (by omega)) cv_X1_register lk_X2_147 (in_30 (by omega)) rfl rfl ⟨Nat.le_of_ble_eq_true rfl, Nat.le_of_ble_eq_true rfl⟩ rfl rfl (Nat.le_of_ble_eq_true rfl) dX2_perform_177 (fun r M' hr => ?_)
    obtain ⟨rfl, rfl⟩ := hr
    try simp only [gNN, gNI, gNJ, gIN, gII, gIJ, gJN, gJI, gJJ, Nat.reduceEqDiff, false_and, and_false, true_and, and_true, if_false, if_true]
    refine V_callV C [_, _, _] (ct_X2_make hf (hmk (by omega))) cv_X2_make lk_X2_150 in_2 rfl rfl ⟨Nat.le_of_ble_eq_true rfl, Nat.le_of_ble_eq_true rfl⟩ rfl rfl (Nat.le_of_ble_eq_true rfl) dX2_perform_180 (fun r M' hr => ?_)
    obtain ⟨y, rfl⟩ := hr.r
    try simp only [gNN, gNI, gNJ, gIN, gII, gIJ, gJN, gJI, gJJ, Nat.reduceEqDiff, false_and, and_false, true_and, and_true, if_false, if_true]
    refine V_iret C E dX2_perform_183 ?_
    exact Or.inr (Or.inr (Or.inr (Or.inr (Or.inl ⟨h42_8, v, hv1, hv2, hr⟩))))
  by_cases h42_9 : gN M 11 c p = 9
  · refine V_tabIn (tgt := 184) C dX2_perform_42 (9) (by rw [h42_9]; decide) (by decide) (by decide) rfl (by decide) ?_
    refine V_aload_n C dX2_perform_184 rfl rfl ?_
    refine V_aload_n C dX2_perform_185 rfl rfl ?_
    refine V_iload C dX2_perform_186 rfl ?_
    refine V_callV C [_, _] (ct_X2_look (M := (sI M 2 0 5 (nI 0))) hf hF5 hp hp2 (a := gN M 11 c p) (by omega) rfl hn) cv_X2_look lk_X2_154 in_2 rfl rfl ⟨Nat.le_of_ble_eq_true rfl, Nat.le_of_ble_eq_true rfl⟩ rfl rfl (Nat.le_of_ble_eq_true rfl) dX2_perform_188 (fun r M' hr => ?_)
    obtain ⟨y, rfl⟩ := hr.r
    try simp only [gNN, gNI, gNJ, gIN, gII, gIJ, gJN, gJI, gJJ, Nat.reduceEqDiff, false_and, and_false, true_and, and_true, if_false, if_true]
    refine V_iret C E dX2_perform_191 ?_
    exact Or.inr (Or.inr (Or.inr (Or.inr (Or.inr (Or.inl ⟨by omega, hr⟩)))))
  by_cases h42_10 : gN M 11 c p = 10
  · refine V_tabIn (tgt := 184) C dX2_perform_42 (10) (by rw [h42_10]; decide) (by decide) (by decide) rfl (by decide) ?_
    refine V_aload_n C dX2_perform_184 rfl rfl ?_
    refine V_aload_n C dX2_perform_185 rfl rfl ?_
    refine V_iload C dX2_perform_186 rfl ?_
    refine V_callV C [_, _] (ct_X2_look (M := (sI M 2 0 5 (nI 0))) hf hF5 hp hp2 (a := gN M 11 c p) (by omega) rfl hn) cv_X2_look lk_X2_154 in_2 rfl rfl ⟨Nat.le_of_ble_eq_true rfl, Nat.le_of_ble_eq_true rfl⟩ rfl rfl (Nat.le_of_ble_eq_true rfl) dX2_perform_188 (fun r M' hr => ?_)
    obtain ⟨y, rfl⟩ := hr.r
    try simp only [gNN, gNI, gNJ, gIN, gII, gIJ, gJN, gJI, gJJ, Nat.reduceEqDiff, false_and, and_false, true_and, and_true, if_false, if_true]
    refine V_iret C E dX2_perform_191 ?_
    exact Or.inr (Or.inr (Or.inr (Or.inr (Or.inr (Or.inl ⟨by omega, hr⟩)))))
  by_cases h42_11 : gN M 11 c p = 11
  · refine V_tabIn (tgt := 184) C dX2_perform_42 (11) (by rw [h42_11]; decide) (by decide) (by decide) rfl (by decide) ?_
    refine V_aload_n C dX2_perform_184 rfl rfl ?_
    refine V_aload_n C dX2_perform_185 rfl rfl ?_
    refine V_iload C dX2_perform_186 rfl ?_
    refine V_callV C [_, _] (ct_X2_look (M := (sI M 2 0 5 (nI 0))) hf hF5 hp hp2 (a := gN M 11 c p) (by omega) rfl hn) cv_X2_look lk_X2_154 in_2 rfl rfl ⟨Nat.le_of_ble_eq_true rfl, Nat.le_of_ble_eq_true rfl⟩ rfl rfl (Nat.le_of_ble_eq_true rfl) dX2_perform_188 (fun r M' hr => ?_)
    obtain ⟨y, rfl⟩ := hr.r
    try simp only [gNN, gNI, gNJ, gIN, gII, gIJ, gJN, gJI, gJJ, Nat.reduceEqDiff, false_and, and_false, true_and, and_true, if_false, if_true]
    refine V_iret C E dX2_perform_191 ?_
    exact Or.inr (Or.inr (Or.inr (Or.inr (Or.inr (Or.inl ⟨by omega, hr⟩)))))
  by_cases h42_12 : gN M 11 c p = 12
  · refine V_tabIn (tgt := 184) C dX2_perform_42 (12) (by rw [h42_12]; decide) (by decide) (by decide) rfl (by decide) ?_
    refine V_aload_n C dX2_perform_184 rfl rfl ?_
    refine V_aload_n C dX2_perform_185 rfl rfl ?_
    refine V_iload C dX2_perform_186 rfl ?_
    refine V_callV C [_, _] (ct_X2_look (M := (sI M 2 0 5 (nI 0))) hf hF5 hp hp2 (a := gN M 11 c p) (by omega) rfl hn) cv_X2_look lk_X2_154 in_2 rfl rfl ⟨Nat.le_of_ble_eq_true rfl, Nat.le_of_ble_eq_true rfl⟩ rfl rfl (Nat.le_of_ble_eq_true rfl) dX2_perform_188 (fun r M' hr => ?_)
    obtain ⟨y, rfl⟩ := hr.r
    try simp only [gNN, gNI, gNJ, gIN, gII, gIJ, gJN, gJI, gJJ, Nat.reduceEqDiff, false_and, and_false, true_and, and_true, if_false, if_true]
    refine V_iret C E dX2_perform_191 ?_
    exact Or.inr (Or.inr (Or.inr (Or.inr (Or.inr (Or.inl ⟨by omega, hr⟩)))))
  by_cases h42_13 : gN M 11 c p = 13
  · refine V_tabIn (tgt := 192) C dX2_perform_42 (13) (by rw [h42_13]; decide) (by decide) (by decide) rfl (by decide) ?_
    obtain ⟨v, hv1, hv2⟩ := (hi.2.2.2.2 p hp2).2.2.1 (by omega)
    refine V_aload_n C dX2_perform_192 rfl rfl ?_
    refine V_aload_n C dX2_perform_193 rfl rfl ?_
    refine gf_X2_37 C dX2_perform_194 ?_
    try simp only [gNN, gNI, gNJ, gIN, gII, gIJ, gJN, gJI, gJJ, Nat.reduceEqDiff, false_and, and_false, true_and, and_true, if_false, if_true]
    refine V_lload C dX2_perform_197 rfl ?_
    refine V_l2iN C dX2_perform_199 hv2 ?_
    refine V_callV C [_] (ct_X5_at (M := (sI M 2 0 5 (nI 0))) hc7) cv_X5_at lk_X2_158 in_1 rfl rfl ⟨Nat.le_of_ble_eq_true rfl, Nat.le_of_ble_eq_true rfl⟩ rfl rfl (Nat.le_of_ble_eq_true rfl) dX2_perform_200 (fun r M' hr => ?_)
    rcases hr with ⟨n, hnc, hnx, rfl, rfl⟩ | ⟨hnx, rfl, rfl⟩
    · skip
      rw [gNI] at hnc
      have hvn : v = n := (nI_eq (by omega) (by omega)).mp hnx
      subst hvn
      refine V_aload_n C dX2_perform_203 rfl rfl ?_
      refine V_iload C dX2_perform_204 rfl ?_
      refine V_callV C [_] (ct_X1_register hf (by omega)) cv_X1_register lk_X2_147 (in_30 (by omega)) rfl rfl ⟨Nat.le_of_ble_eq_true rfl, Nat.le_of_ble_eq_true rfl⟩ rfl rfl (Nat.le_of_ble_eq_true rfl) dX2_perform_206 (fun r M' hr => ?_)
      obtain ⟨rfl, rfl⟩ := hr
      try simp only [gNN, gNI, gNJ, gIN, gII, gIJ, gJN, gJI, gJJ, Nat.reduceEqDiff, false_and, and_false, true_and, and_true, if_false, if_true]
      refine V_aload_n C dX2_perform_209 rfl rfl ?_
      refine V_callV C [_, _, _] (ct_X2_beginFrame (M := (sI M 2 0 5 (nI 0))) hpk (by omega) (CI_Sc (Sc_I (by omega)) (hPI.2.1 v (by omega))) (MkOK_Sc (Sc_I (by omega)) (hPI.2.2 v hnc)) hd2 h4 h1 h2) cv_X2_beginFrame lk_X2_72 in_2 rfl rfl ⟨Nat.le_of_ble_eq_true rfl, Nat.le_of_ble_eq_true rfl⟩ rfl rfl (Nat.le_of_ble_eq_true rfl) dX2_perform_210 (fun r M' hr => ?_)
      obtain ⟨rfl, hB⟩ := hr
      try simp only [gNN, gNI, gNJ, gIN, gII, gIJ, gJN, gJI, gJJ, Nat.reduceEqDiff, false_and, and_false, true_and, and_true, if_false, if_true]
      refine V_iconst C (nI 0) dX2_perform_213 (by decide) ?_
      refine V_iret C E dX2_perform_214 ?_
      first | exact Or.inr (Or.inr (Or.inr (Or.inr (Or.inr (Or.inr (Or.inl ⟨h42_13, rfl, v, hv1, hv2, Or.inl ⟨hnc, hB⟩⟩)))))) | exact Or.inr (Or.inr (Or.inr (Or.inr (Or.inr (Or.inr (Or.inl ⟨h42_13, rfl, v, hv1, hv2, Or.inr ⟨hnx, hB⟩⟩))))))
    · skip
      rw [isM_nI (by omega), gNI] at hnx
      refine V_aload_n C dX2_perform_203 rfl rfl ?_
      refine V_iload C dX2_perform_204 rfl ?_
      refine V_callV C [_] (ct_X1_register hf (by omega)) cv_X1_register lk_X2_147 (in_30 (by omega)) rfl rfl ⟨Nat.le_of_ble_eq_true rfl, Nat.le_of_ble_eq_true rfl⟩ rfl rfl (Nat.le_of_ble_eq_true rfl) dX2_perform_206 (fun r M' hr => ?_)
      obtain ⟨rfl, rfl⟩ := hr
      try simp only [gNN, gNI, gNJ, gIN, gII, gIJ, gJN, gJI, gJJ, Nat.reduceEqDiff, false_and, and_false, true_and, and_true, if_false, if_true]
      refine V_aload_n C dX2_perform_209 rfl rfl ?_
      refine V_callV C [_, _, _] (ct_X2_beginFrameN hpk) cv_X2_beginFrame lk_X2_72 in_2 rfl rfl ⟨Nat.le_of_ble_eq_true rfl, Nat.le_of_ble_eq_true rfl⟩ rfl rfl (Nat.le_of_ble_eq_true rfl) dX2_perform_210 (fun r M' hr => ?_)
      obtain ⟨rfl, hB⟩ := hr
      try simp only [gNN, gNI, gNJ, gIN, gII, gIJ, gJN, gJI, gJJ, Nat.reduceEqDiff, false_and, and_false, true_and, and_true, if_false, if_true]
      refine V_iconst C (nI 0) dX2_perform_213 (by decide) ?_
      refine V_iret C E dX2_perform_214 ?_
      first | exact Or.inr (Or.inr (Or.inr (Or.inr (Or.inr (Or.inr (Or.inl ⟨h42_13, rfl, v, hv1, hv2, Or.inl ⟨hnc, hB⟩⟩)))))) | exact Or.inr (Or.inr (Or.inr (Or.inr (Or.inr (Or.inr (Or.inl ⟨h42_13, rfl, v, hv1, hv2, Or.inr ⟨hnx, hB⟩⟩))))))
  by_cases h42_14 : gN M 11 c p = 14
  · refine V_tabIn (tgt := 215) C dX2_perform_42 (14) (by rw [h42_14]; decide) (by decide) (by decide) rfl (by decide) ?_
    refine V_aload_n C dX2_perform_215 rfl rfl ?_
    refine V_aload_n C dX2_perform_216 rfl rfl ?_
    refine V_aload_n C dX2_perform_217 rfl rfl ?_
    refine gf_X2_126 C (by omega) dX2_perform_218 ?_
    try simp only [gNN, gNI, gNJ, gIN, gII, gIJ, gJN, gJI, gJJ, Nat.reduceEqDiff, false_and, and_false, true_and, and_true, if_false, if_true]
    rw [hp]
    refine V_aload_n C dX2_perform_221 rfl rfl ?_
    refine gf_X2_162 C (by omega) dX2_perform_222 ?_
    try simp only [gNN, gNI, gNJ, gIN, gII, gIJ, gJN, gJI, gJJ, Nat.reduceEqDiff, false_and, and_false, true_and, and_true, if_false, if_true]
    refine V_icmpN_ge (tgt := 237) C dX2_perform_225 (by omega) (by omega) (by decide) (fun h225 => ?_) (fun h225 => ?_)
    · skip
      exact absurd h225 (by omega)
    · skip
      refine V_aload_n C dX2_perform_228 rfl rfl ?_
      refine V_iload C dX2_perform_229 rfl ?_
      refine V_callV C [_] (ct_X1_register hf (by omega)) cv_X1_register lk_X2_147 (in_30 (by omega)) rfl rfl ⟨Nat.le_of_ble_eq_true rfl, Nat.le_of_ble_eq_true rfl⟩ rfl rfl (Nat.le_of_ble_eq_true rfl) dX2_perform_231 (fun r M' hr => ?_)
      obtain ⟨rfl, rfl⟩ := hr
      try simp only [gNN, gNI, gNJ, gIN, gII, gIJ, gJN, gJI, gJJ, Nat.reduceEqDiff, false_and, and_false, true_and, and_true, if_false, if_true]
      refine V_goto (tgt := 238) C dX2_perform_234 (by decide) ?_
      refine V_callV C [_, _] (ct_X2_giveBack (M := (sI M 2 0 5 (nI 0))) hf hd hd2 (fun g hg => by obtain ⟨q1, q2⟩ := hlo g hg; exact ⟨FrOK_5 q1, q2⟩)) cv_X2_giveBack lk_X2_165 in_2 rfl rfl ⟨Nat.le_of_ble_eq_true rfl, Nat.le_of_ble_eq_true rfl⟩ rfl rfl (Nat.le_of_ble_eq_true rfl) dX2_perform_238 (fun r M' hr => ?_)
      obtain ⟨rfl, hG⟩ := hr
      try simp only [gNN, gNI, gNJ, gIN, gII, gIJ, gJN, gJI, gJJ, Nat.reduceEqDiff, false_and, and_false, true_and, and_true, if_false, if_true]
      refine V_iconst C (nI 0) dX2_perform_241 (by decide) ?_
      refine V_iret C E dX2_perform_242 ?_
      exact Or.inr (Or.inr (Or.inr (Or.inr (Or.inr (Or.inr (Or.inr (Or.inl ⟨h42_14, rfl, hG⟩)))))))
  by_cases h42_15 : gN M 11 c p = 15
  · refine V_tabIn (tgt := 243) C dX2_perform_42 (15) (by rw [h42_15]; decide) (by decide) (by decide) rfl (by decide) ?_
    refine V_aload_n C dX2_perform_243 rfl rfl ?_
    refine V_aload_n C dX2_perform_244 rfl rfl ?_
    refine V_iload C dX2_perform_245 rfl ?_
    refine V_callV C [_] (ct_X1_register hf (by omega)) cv_X1_register lk_X2_147 (in_30 (by omega)) rfl rfl ⟨Nat.le_of_ble_eq_true rfl, Nat.le_of_ble_eq_true rfl⟩ rfl rfl (Nat.le_of_ble_eq_true rfl) dX2_perform_247 (fun r M' hr => ?_)
    obtain ⟨rfl, rfl⟩ := hr
    try simp only [gNN, gNI, gNJ, gIN, gII, gIJ, gJN, gJI, gJJ, Nat.reduceEqDiff, false_and, and_false, true_and, and_true, if_false, if_true]
    refine V_l2i C dX2_perform_250 ?_
    refine pf_X2_31 C dX2_perform_251 ?_
    refine V_bipush C (nI 8) dX2_perform_254 (by decide) ?_
    refine V_iret C E dX2_perform_256 ?_
    exact Or.inr (Or.inr (Or.inr (Or.inr (Or.inr (Or.inr (Or.inr (Or.inr (Or.inl ⟨h42_15, rfl, rfl⟩))))))))
  by_cases h42_16 : gN M 11 c p = 16
  · refine V_tabIn (tgt := 257) C dX2_perform_42 (16) (by rw [h42_16]; decide) (by decide) (by decide) rfl (by decide) ?_
    refine V_aload_n C dX2_perform_257 rfl rfl ?_
    refine V_aload_n C dX2_perform_258 rfl rfl ?_
    refine gf_X2_169 C (by omega) dX2_perform_259 ?_
    try simp only [gNN, gNI, gNJ, gIN, gII, gIJ, gJN, gJI, gJJ, Nat.reduceEqDiff, false_and, and_false, true_and, and_true, if_false, if_true]
    refine pf_X2_31 C dX2_perform_262 ?_
    refine V_aload_n C dX2_perform_265 rfl rfl ?_
    refine gf_X2_172 C (by omega) dX2_perform_266 ?_
    try simp only [gNN, gNI, gNJ, gIN, gII, gIJ, gJN, gJI, gJJ, Nat.reduceEqDiff, false_and, and_false, true_and, and_true, if_false, if_true]
    refine V_ifN_ne (tgt := 277) C dX2_perform_269 (by omega) (by decide) (fun h269 => ?_) (fun h269 => ?_)
    · skip
      refine V_aload_n C dX2_perform_277 rfl rfl ?_
      refine gf_X2_172 C (by omega) dX2_perform_278 ?_
      try simp only [gNN, gNI, gNJ, gIN, gII, gIJ, gJN, gJI, gJJ, Nat.reduceEqDiff, false_and, and_false, true_and, and_true, if_false, if_true]
      refine V_iret C E dX2_perform_281 ?_
      first | exact Or.inr (Or.inr (Or.inr (Or.inr (Or.inr (Or.inr (Or.inr (Or.inr (Or.inr (Or.inl ⟨h42_16, by rw [if_pos h269], rfl⟩))))))))) | exact Or.inr (Or.inr (Or.inr (Or.inr (Or.inr (Or.inr (Or.inr (Or.inr (Or.inr (Or.inl ⟨h42_16, by rw [if_neg h269], rfl⟩)))))))))
    · skip
      refine V_bipush C (nI 7) dX2_perform_272 (by decide) ?_
      refine V_goto (tgt := 281) C dX2_perform_274 (by decide) ?_
      refine V_iret C E dX2_perform_281 ?_
      first | exact Or.inr (Or.inr (Or.inr (Or.inr (Or.inr (Or.inr (Or.inr (Or.inr (Or.inr (Or.inl ⟨h42_16, by rw [if_pos h269], rfl⟩))))))))) | exact Or.inr (Or.inr (Or.inr (Or.inr (Or.inr (Or.inr (Or.inr (Or.inr (Or.inr (Or.inl ⟨h42_16, by rw [if_neg h269], rfl⟩)))))))))
  by_cases h42_17 : gN M 11 c p = 17
  · refine V_tabIn (tgt := 282) C dX2_perform_42 (17) (by rw [h42_17]; decide) (by decide) (by decide) rfl (by decide) ?_
    obtain ⟨v, hv1, hv2⟩ := (hi.2.2.2.2 p hp2).2.2.2 (Or.inl (by omega))
    rw [hv2]
    refine V_aload_n C dX2_perform_282 rfl rfl ?_
    refine V_aload_n C dX2_perform_283 rfl rfl ?_
    refine V_lload C dX2_perform_284 rfl ?_
    refine V_callV C [_, _] (ct_X2_hold hf hv1) cv_X2_hold lk_X2_175 in_2 rfl rfl ⟨Nat.le_of_ble_eq_true rfl, Nat.le_of_ble_eq_true rfl⟩ rfl rfl (Nat.le_of_ble_eq_true rfl) dX2_perform_286 (fun r M' hr => ?_)
    obtain ⟨rfl, hr⟩ := hr
    try simp only [gNN, gNI, gNJ, gIN, gII, gIJ, gJN, gJI, gJJ, Nat.reduceEqDiff, false_and, and_false, true_and, and_true, if_false, if_true]
    refine V_iret C E dX2_perform_289 ?_
    exact Or.inr (Or.inr (Or.inr (Or.inr (Or.inr (Or.inr (Or.inr (Or.inr (Or.inr (Or.inr (Or.inl ⟨h42_17, rfl, v, hv1, hv2, hr⟩))))))))))
  by_cases h42_18 : gN M 11 c p = 18
  · refine V_tabIn (tgt := 290) C dX2_perform_42 (18) (by rw [h42_18]; decide) (by decide) (by decide) rfl (by decide) ?_
    obtain ⟨v, hv1, hv2⟩ := (hi.2.2.2.2 p hp2).2.2.2 (Or.inr (by omega))
    rw [hv2]
    refine V_aload_n C dX2_perform_290 rfl rfl ?_
    refine V_aload_n C dX2_perform_291 rfl rfl ?_
    refine V_lload C dX2_perform_292 rfl ?_
    refine V_callV C [_, _] (ct_X2_let (M := (sI M 2 0 5 (nI 0))) hf hv1 (hh v hv1)) cv_X2_let lk_X2_179 in_2 rfl rfl ⟨Nat.le_of_ble_eq_true rfl, Nat.le_of_ble_eq_true rfl⟩ rfl rfl (Nat.le_of_ble_eq_true rfl) dX2_perform_294 (fun r M' hr => ?_)
    obtain ⟨y, rfl⟩ := hr.r
    try simp only [gNN, gNI, gNJ, gIN, gII, gIJ, gJN, gJI, gJJ, Nat.reduceEqDiff, false_and, and_false, true_and, and_true, if_false, if_true]
    refine V_iret C E dX2_perform_297 ?_
    exact Or.inr (Or.inr (Or.inr (Or.inr (Or.inr (Or.inr (Or.inr (Or.inr (Or.inr (Or.inr (Or.inr ⟨h42_18, v, hv1, hv2, hr⟩))))))))))
  exfalso; omega

set_option maxRecDepth 20000 in
set_option maxHeartbeats 4000000 in
theorem ct_X2_performE {l : Launch} {G : Gm} {M : Mem} {pk : Nat} (hpk : pk = 3 ∨ pk = 4) {f c : Nat} (hf : f < 12) (hF : FrOK M f c) (hA : At pk M f c (gN M 10 c 4)) (hd : 1 ≤ gN M 2 0 3) (hd2 : gN M 2 0 3 ≤ 12) (hlo : ∀ g, gN M 2 0 3 = g + 2 → FrOK M g (gN M 30 g 3) ∧ gN M 30 g 4 < gN M 10 (gN M 30 g 3) 4) (h4 : gN M 7 0 4 ≤ 12)  : Ct l G rX yX2_perform (.code yX2_perform cX2_perform 8 (some .int) :: GW) rmX2_perform [.ref (ad G 2 0), .ref (ad G 30 f), .ref (ad G pk 0)] M (fun r M' => some (.int (nI 0)) = r ∧ GiveP (sI M 2 0 5 (nI 0)) f (lN 0) M') := by
  have hc := hF.1
  have hp := hA.2.1
  have hc6 := hF.2.1
  have hi := hF.2.2.1
  have hs := hi.1
  refine Ct_of (cc := cX2_perform) (by decide) [(0, _), (1, _), (2, _)] rfl (Nat.le_of_ble_eq_true rfl) (fun pp ee ss mm aa bb mt cd C E => ?_)
  refine V_aload_n C dX2_perform_0 rfl rfl ?_
  refine gf_X2_122 C (by omega) dX2_perform_1 ?_
  try simp only [gNN, gNI, gNJ, gIN, gII, gIJ, gJN, gJI, gJJ, Nat.reduceEqDiff, false_and, and_false, true_and, and_true, if_false, if_true]
  rw [hc]
  refine V_astore_n (lv' := [(3, _), (0, _), (1, _), (2, _)]) C dX2_perform_4 rfl (by decide) rfl ?_
  refine V_aload_n C dX2_perform_5 rfl rfl ?_
  refine V_aload_n C dX2_perform_6 rfl rfl ?_
  refine gf_X2_126 C (by omega) dX2_perform_7 ?_
  try simp only [gNN, gNI, gNJ, gIN, gII, gIJ, gJN, gJI, gJJ, Nat.reduceEqDiff, false_and, and_false, true_and, and_true, if_false, if_true]
  rw [hp]
  refine V_callV C [_] (ct_X0_act hc6 hi (by omega)) cv_X0_act lk_X2_129 (in_10 (by omega)) rfl rfl ⟨Nat.le_of_ble_eq_true rfl, Nat.le_of_ble_eq_true rfl⟩ rfl rfl (Nat.le_of_ble_eq_true rfl) dX2_perform_10 (fun r M' hr => ?_)
  obtain ⟨rfl, rfl⟩ := hr
  try simp only [gNN, gNI, gNJ, gIN, gII, gIJ, gJN, gJI, gJJ, Nat.reduceEqDiff, false_and, and_false, true_and, and_true, if_false, if_true]
  rw [if_neg (by omega)]
  refine V_istore (lv' := [(4, _), (3, _), (0, _), (1, _), (2, _)]) C dX2_perform_13 (by decide) rfl ?_
  refine V_aload_n C dX2_perform_15 rfl rfl ?_
  refine V_aload_n C dX2_perform_16 rfl rfl ?_
  refine gf_X2_126 C (by omega) dX2_perform_17 ?_
  try simp only [gNN, gNI, gNJ, gIN, gII, gIJ, gJN, gJI, gJJ, Nat.reduceEqDiff, false_and, and_false, true_and, and_true, if_false, if_true]
  rw [hp]
  refine V_callV C [_] (ct_X0_first hc6 hi (by omega)) cv_X0_first lk_X2_133 (in_10 (by omega)) rfl rfl ⟨Nat.le_of_ble_eq_true rfl, Nat.le_of_ble_eq_true rfl⟩ rfl rfl (Nat.le_of_ble_eq_true rfl) dX2_perform_20 (fun r M' hr => ?_)
  obtain ⟨rfl, rfl⟩ := hr
  try simp only [gNN, gNI, gNJ, gIN, gII, gIJ, gJN, gJI, gJJ, Nat.reduceEqDiff, false_and, and_false, true_and, and_true, if_false, if_true]
  rw [if_neg (by omega)]
  refine V_istore (lv' := [(5, _), (4, _), (3, _), (0, _), (1, _), (2, _)]) C dX2_perform_23 (by decide) rfl ?_
  refine V_aload_n C dX2_perform_25 rfl rfl ?_
  refine V_aload_n C dX2_perform_26 rfl rfl ?_
  refine gf_X2_126 C (by omega) dX2_perform_27 ?_
  try simp only [gNN, gNI, gNJ, gIN, gII, gIJ, gJN, gJI, gJJ, Nat.reduceEqDiff, false_and, and_false, true_and, and_true, if_false, if_true]
  rw [hp]
  refine V_callV C [_] (ct_X0_number hc6 hi (by omega)) cv_X0_number lk_X2_136 (in_10 (by omega)) rfl rfl ⟨Nat.le_of_ble_eq_true rfl, Nat.le_of_ble_eq_true rfl⟩ rfl rfl (Nat.le_of_ble_eq_true rfl) dX2_perform_30 (fun r M' hr => ?_)
  obtain ⟨rfl, rfl⟩ := hr
  try simp only [gNN, gNI, gNJ, gIN, gII, gIJ, gJN, gJI, gJJ, Nat.reduceEqDiff, false_and, and_false, true_and, and_true, if_false, if_true]
  rw [if_neg (by omega)]
  refine V_lstore (lv' := [(6, _), (5, _), (4, _), (3, _), (0, _), (1, _), (2, _)]) C dX2_perform_33 (by decide) rfl ?_
  refine V_aload_n C dX2_perform_35 rfl rfl ?_
  refine V_iconst C (nI 0) dX2_perform_36 (by decide) ?_
  refine pf_X2_31 C dX2_perform_37 ?_
  refine V_iload C dX2_perform_40 rfl ?_
  refine V_tabIn (tgt := 215) C dX2_perform_42 (14) (by decide) (by decide) (by decide) rfl (by decide) ?_
  refine V_aload_n C dX2_perform_215 rfl rfl ?_
  refine V_aload_n C dX2_perform_216 rfl rfl ?_
  refine V_aload_n C dX2_perform_217 rfl rfl ?_
  refine gf_X2_126 C (by omega) dX2_perform_218 ?_
  try simp only [gNN, gNI, gNJ, gIN, gII, gIJ, gJN, gJI, gJJ, Nat.reduceEqDiff, false_and, and_false, true_and, and_true, if_false, if_true]
  rw [hp]
  refine V_aload_n C dX2_perform_221 rfl rfl ?_
  refine gf_X2_162 C (by omega) dX2_perform_222 ?_
  try simp only [gNN, gNI, gNJ, gIN, gII, gIJ, gJN, gJI, gJJ, Nat.reduceEqDiff, false_and, and_false, true_and, and_true, if_false, if_true]
  refine V_icmpN_ge (tgt := 237) C dX2_perform_225 (by omega) (by omega) (by decide) (fun h225 => ?_) (fun h225 => ?_)
  · skip
    refine V_lconst C (lN 0) dX2_perform_237 (by decide) ?_
    refine V_callV C [_, _] (ct_X2_giveBack (M := (sI M 2 0 5 (nI 0))) hf hd hd2 (fun g hg => by obtain ⟨q1, q2⟩ := hlo g hg; exact ⟨FrOK_5 q1, q2⟩)) cv_X2_giveBack lk_X2_165 in_2 rfl rfl ⟨Nat.le_of_ble_eq_true rfl, Nat.le_of_ble_eq_true rfl⟩ rfl rfl (Nat.le_of_ble_eq_true rfl) dX2_perform_238 (fun r M' hr => ?_)
    obtain ⟨rfl, hG⟩ := hr
    try simp only [gNN, gNI, gNJ, gIN, gII, gIJ, gJN, gJI, gJJ, Nat.reduceEqDiff, false_and, and_false, true_and, and_true, if_false, if_true]
    refine V_iconst C (nI 0) dX2_perform_241 (by decide) ?_
    refine V_iret C E dX2_perform_242 ?_
    exact ⟨rfl, hG⟩
  · skip
    exact absurd h225 (by omega)

set_option maxRecDepth 20000 in
set_option maxHeartbeats 4000000 in
theorem ct_X3_fetchS {l : Launch} {G : Gm} {M : Mem} {f c : Nat} (hf : f < 12) (hF : FrOK M f c) {p : Nat} (hpd : Pend 3 M f c p) (hlt : ¬ gN M 7 0 1 < gN M 7 0 0) (h1 : gN M 7 0 1 ≤ gN M 7 0 0) (h2 : gN M 7 0 0 ≤ 200)  : Ct l G rX yX3_fetch (.code yX3_fetch cX3_fetch 5 (some .boolean) :: GW) rmX3_fetch [.ref (ad G 3 0), .ref (ad G 30 f), .ref (ad G 7 0)] M (fun r M' => Fx M M' f ∧ some (.int (nI 0)) = r ∧ gN M' 7 0 1 = gN M 7 0 1) := by
  have hc := hF.1
  have hc6 := hF.2.1
  have hi := hF.2.2.1
  have hs := hi.1
  have hh4 := hi.2.1
  have htb := hF.tb
  obtain ⟨-, -, d1, d2, d3, d4⟩ := hpd
  refine Ct_of (cc := cX3_fetch) (by decide) [(0, _), (1, _), (2, _)] rfl (Nat.le_of_ble_eq_true rfl) (fun pp ee ss mm aa bb mt cd C E => ?_)
  refine V_aload_n C dX3_fetch_0 rfl rfl ?_
  refine gf_X3_21 C (by omega) dX3_fetch_1 ?_
  rw [hc]
  refine gf_X3_25 C (by omega) dX3_fetch_4 ?_
  refine V_astore_n (lv' := [(3, _), (0, _), (1, _), (2, _)]) C dX3_fetch_7 rfl (by decide) rfl ?_
  refine V_iconst C (nI 0) dX3_fetch_8 (by decide) ?_
  refine V_istore (lv' := [(4, _), (3, _), (0, _), (1, _), (2, _)]) C dX3_fetch_9 (by decide) rfl ?_
  refine V_iload C dX3_fetch_11 rfl ?_
  refine V_bipush C (nI 70) dX3_fetch_13 (by decide) ?_
  refine V_icmpN_ge (tgt := 77) C dX3_fetch_15 (by omega) (by omega) (by decide) (fun h15 => ?_) (fun h15 => ?_)
  · skip
    exact absurd h15 (by omega)
  · skip
    refine V_aload_n C dX3_fetch_18 rfl rfl ?_
    refine V_aload_n C dX3_fetch_19 rfl rfl ?_
    refine gf_X3_9 C (by omega) dX3_fetch_20 ?_
    refine V_callV C [_] (ct_X4_sortN hc6 (by omega) (by omega)) cv_X4_sort lk_X3_31 (in_19 (by omega)) rfl rfl ⟨Nat.le_of_ble_eq_true rfl, Nat.le_of_ble_eq_true rfl⟩ rfl rfl (Nat.le_of_ble_eq_true rfl) dX3_fetch_23 (fun r M' hr => ?_)
    obtain ⟨rfl, rfl⟩ := hr
    rw [d2]
    refine V_ifN_ne (tgt := 61) C dX3_fetch_26 (by omega) (by decide) (fun h26 => ?_) (fun h26 => ?_)
    · skip
      refine V_aload_n C dX3_fetch_61 rfl rfl ?_
      refine V_aload_n C dX3_fetch_62 rfl rfl ?_
      refine V_callS C [_, _] (ct_X3_pass1 hf hc hc6 (by omega) (by omega) d2 h1 h2) cs_X3_pass rfl lk_X3_15 ⟨Nat.le_of_ble_eq_true rfl, Nat.le_of_ble_eq_true rfl⟩ rfl rfl (Nat.le_of_ble_eq_true rfl) dX3_fetch_63 (fun r M' hr => ?_)
      obtain ⟨rfl, rfl⟩ := hr
      refine V_ifB_ne (tgt := 71) C dX3_fetch_66 (by decide) (fun h66 => ?_) (fun h66 => ?_)
      · skip
        exact absurd h66 hlt
      · skip
        refine V_iconst C (nI 0) dX3_fetch_69 (by decide) ?_
        refine V_zret C E dX3_fetch_70 (by first | decide | (unfold bN; split <;> omega)) ?_
        rw [if_neg hlt]
        exact ⟨Fx_f (by omega), rfl, by simp [gNN]⟩
    · skip
      exact absurd h26 (by decide)

