/-- all stays but where the FRAME f is and goes, and the STEPS -/
def Fx (M M' : Mem) (f : Nat) : Prop := (∀ k i j, ¬ (k = 30 ∧ i = f ∧ (j = 4 ∨ j = 5 ∨ j = 6)) → ¬ (k = 7 ∧ i = 0 ∧ j = 1) → gN M' k i j = gN M k i j) ∧ gI M' = gI M ∧ gJ M' = gJ M
theorem Fx_rf {M : Mem} {f : Nat} : Fx M M f := ⟨fun _ _ _ _ _ => rfl, rfl, rfl⟩
theorem Fx.tr {M M' M'' : Mem} {f : Nat} (h : Fx M M' f) (h2 : Fx M' M'' f) : Fx M M'' f := ⟨fun k i j a b => (h2.1 k i j a b).trans (h.1 k i j a b), h2.2.1.trans h.2.1, h2.2.2.trans h.2.2⟩
theorem Fx_f {M : Mem} {f j v : Nat} (h : j = 4 ∨ j = 5 ∨ j = 6) : Fx M (sN M 30 f j v) f := ⟨fun a b c h1 h2 => by rw [gNN, if_neg (by rintro ⟨rfl, rfl, rfl⟩; exact h1 ⟨rfl, rfl, h⟩)], rfl, rfl⟩
theorem Fx_s {M : Mem} {f v : Nat} : Fx M (sN M 7 0 1 v) f := ⟨fun a b c h1 h2 => by rw [gNN, if_neg h2], rfl, rfl⟩
theorem Fx.fn {M M' : Mem} {f : Nat} (h : Fx M M' f) {k i : Nat} (hk : k ≠ 30) (hk2 : k ≠ 7) : gN M' k i = gN M k i := by
  funext j
  exact h.1 k i j (fun q => hk q.1) (fun q => hk2 q.1)
/-- a FRAME's code is in order, and not too large -/
def FrOK (M : Mem) (f c : Nat) : Prop := gN M 30 f 3 = c ∧ c < 6 ∧ CI M c ∧ MkOK M c ∧ totV M c ≤ 70
theorem CI_Fx {M M' : Mem} {f c : Nat} (h : Fx M M' f) (hi : CI M c) : CI M' c := CI_of (fun k j h1 h2 => h.1 k c j (by omega) (by omega)) (fun j => by rw [h.2.2]) hi
theorem totV_Fx {M M' : Mem} {f c : Nat} (h : Fx M M' f) : totV M' c = totV M c := by
  unfold totV
  rw [h.fn (show 11 ≠ 30 by decide) (by decide), h.fn (show 10 ≠ 30 by decide) (by decide), h.2.2]
theorem MkOK_Fx {M M' : Mem} {f c : Nat} (h : Fx M M' f) (hi : MkOK M c) : MkOK M' c := by
  unfold MkOK at hi ⊢
  rw [h.fn (show 10 ≠ 30 by decide) (by decide), h.fn (show 11 ≠ 30 by decide) (by decide), h.fn (show 12 ≠ 30 by decide) (by decide), h.fn (show 17 ≠ 30 by decide) (by decide), h.fn (show 19 ≠ 30 by decide) (by decide), h.fn (show 20 ≠ 30 by decide) (by decide), h.fn (show 21 ≠ 30 by decide) (by decide), h.fn (show 24 ≠ 30 by decide) (by decide), h.2.1, h.2.2]
  exact hi
theorem FrOK_Fx {M M' : Mem} {f c : Nat} (h : Fx M M' f) (hi : FrOK M f c) : FrOK M' f c := ⟨(h.1 30 f 3 (by omega) (by omega)).trans hi.1, hi.2.1, CI_Fx h hi.2.2.1, MkOK_Fx h hi.2.2.2.1, by rw [totV_Fx h]; exact hi.2.2.2.2⟩
theorem FrOK.ent {M : Mem} {f c : Nat} (h : FrOK M f c) : gN M 19 c 5 = totV M c ∧ EntOK (gN M 11 c) (gN M 12 c) (gJ M 14 c) (gN M 17 c) (gN M 10 c 4) (gN M 10 c 9) (gN M 20 c) (gN M 21 c) (gI M 22 c) ∧ (∀ j, j < gN M 10 c 9 → gN M 24 c j = beg (gN M 11 c) (gN M 10 c 4) + 1 + 2 * bks (gN M 11 c) (gJ M 14 c) (gN M 10 c 4) + 2 * j) := by
  obtain ⟨-, -, -, hm, ht⟩ := h
  rcases hm with hm | hm
  · exact absurd hm.1 (by unfold totV at ht; omega)
  · exact ⟨hm.2.2.1, hm.2.2.2.2.1, hm.2.2.2.2.2⟩
theorem FrOK.tb {M : Mem} {f c : Nat} (h : FrOK M f c) : beg (gN M 11 c) (gN M 10 c 4) + 1 + 2 * bks (gN M 11 c) (gJ M 14 c) (gN M 10 c 4) + 2 * gN M 10 c 9 = gN M 19 c 5 ∧ gN M 19 c 5 ≤ 70 := by
  have := tot_beg (gN M 11 c) (gJ M 14 c) (gN M 10 c 4) (gN M 10 c 9)
  have h1 := h.ent.1
  have h2 := h.2.2.2.2
  unfold totV at h1 h2
  omega
/-- where a FRAME goes on: at PLACE p; or with a MARK of a jump ahead of it -/
def Pos (pk : Nat) (M : Mem) (f c p : Nat) : Prop := p ≤ gN M 10 c 4 ∧ ((pk = 4 ∧ gN M 30 f 6 = p) ∨ (pk = 3 ∧ (gN M 30 f 6 = beg (gN M 11 c) p ∨ (gN M 30 f 6 < gN M 19 c 5 ∧ gN M 20 c (gN M 30 f 6) = 3 ∧ gI M 22 c (gN M 30 f 6) = nI (beg (gN M 11 c) p)))))
def Pend (pk : Nat) (M : Mem) (f c p : Nat) : Prop := pk = 3 ∧ p ≤ gN M 10 c 4 ∧ gN M 30 f 6 + 1 < gN M 19 c 5 ∧ gN M 20 c (gN M 30 f 6) = 1 ∧ gN M 20 c (gN M 30 f 6 + 1) = 3 ∧ gI M 22 c (gN M 30 f 6 + 1) = nI (beg (gN M 11 c) p)
/-- a FRAME is at PLACE p, its INSTRUCTION fetched -/
def At (pk : Nat) (M : Mem) (f c p : Nat) : Prop := p ≤ gN M 10 c 4 ∧ gN M 30 f 4 = p ∧ ((pk = 4 ∧ gN M 30 f 6 = p + 1) ∨ (pk = 3 ∧ gN M 30 f 5 = beg (gN M 11 c) p + (if p < gN M 10 c 4 then mk1 (gN M 11 c) p else 0) ∧ gN M 30 f 6 = gN M 30 f 5 + 1))
theorem At.pos {pk : Nat} {M : Mem} {f c p : Nat} (h : At pk M f c p) (hp : p < gN M 10 c 4) : Pos pk M f c (p + 1) := by
  refine ⟨hp, ?_⟩
  rcases h.2.2 with h | h
  · exact Or.inl ⟨h.1, h.2⟩
  · refine Or.inr ⟨h.1, Or.inl ?_⟩
    rw [h.2.2, h.2.1, if_pos hp]
    show _ = beg (gN M 11 c) p + 1 + mk1 (gN M 11 c) p
    omega
def mkP (M : Mem) (c p : Nat) : Prop := p < gN M 10 c 4 ∧ gN M 11 c p = 8
/-- what fetch comes to, from STEPS s0 -/
def FetchP (pk : Nat) (M : Mem) (f c p s0 : Nat) (r : Option Value) (M' : Mem) : Prop := Fx M M' f ∧
  ((some (.int (nI 1)) = r ∧ At pk M' f c p ∧ ((¬ mkP M c p ∧ gN M' 7 0 1 = s0) ∨ (mkP M c p ∧ s0 + cost (gJ M 31 f (gN M 12 c p)) ≤ gN M 7 0 0 ∧ gN M' 7 0 1 = s0 + cost (gJ M 31 f (gN M 12 c p))))) ∨
   (some (.int (nI 0)) = r ∧ mkP M c p ∧ ¬ s0 + cost (gJ M 31 f (gN M 12 c p)) ≤ gN M 7 0 0 ∧ gN M' 7 0 1 = s0))
def EnterP (pk : Nat) (M : Mem) (f c p : Nat) (r : Option Value) (M' : Mem) : Prop := Fx M M' f ∧ ((gN M 7 0 1 < gN M 7 0 0 ∧ some (.int (nI 1)) = r ∧ gN M' 7 0 1 = gN M 7 0 1 + 1 ∧ Pos pk M' f c p) ∨ (¬ gN M 7 0 1 < gN M 7 0 0 ∧ some (.int (nI 0)) = r ∧ gN M' 7 0 1 = gN M 7 0 1))
def JumpP (pk : Nat) (M : Mem) (f c p : Nat) (r : Option Value) (M' : Mem) : Prop := Fx M M' f ∧
  ((some (.int (nI 1)) = r ∧ ¬ bk (gN M 11 c) (gJ M 14 c) p ∧ gN M' 7 0 1 = gN M 7 0 1 ∧ Pos pk M' f c (tgt (gJ M 14 c) (gN M 10 c 4) p)) ∨
   (some (.int (nI 1)) = r ∧ bk (gN M 11 c) (gJ M 14 c) p ∧ gN M 7 0 1 < gN M 7 0 0 ∧ gN M' 7 0 1 = gN M 7 0 1 + 1 ∧ Pos pk M' f c (tgt (gJ M 14 c) (gN M 10 c 4) p)) ∨
   (some (.int (nI 0)) = r ∧ bk (gN M 11 c) (gJ M 14 c) p ∧ ¬ gN M 7 0 1 < gN M 7 0 0 ∧ gN M' 7 0 1 = gN M 7 0 1) ∨
   (some (.int (nI 1)) = r ∧ bk (gN M 11 c) (gJ M 14 c) p ∧ gN M' 7 0 1 = gN M 7 0 1 ∧ Pend pk M' f c (tgt (gJ M 14 c) (gN M 10 c 4) p)))
set_option maxRecDepth 20000 in
set_option maxHeartbeats 4000000 in
theorem ct_X3_pass1 {l : Launch} {G : Gm} {M : Mem} {f c : Nat} (hf : f < 12) (hc : gN M 30 f 3 = c) (hc6 : c < 6) (hz : gN M 19 c 5 ≤ 70) (he : gN M 30 f 6 < gN M 19 c 5) (hs : gN M 20 c (gN M 30 f 6) = 1) (h1 : gN M 7 0 1 ≤ gN M 7 0 0) (h2 : gN M 7 0 0 ≤ 200) : Ct l G rX yX3_pass (.code yX3_pass cX3_pass 4 (some .boolean) :: GW) rmX3_pass [.ref (ad G 30 f), .ref (ad G 7 0)] M (fun r M' => some (.int (nI (bN (gN M 7 0 1 < gN M 7 0 0)))) = r ∧ (if gN M 7 0 1 < gN M 7 0 0 then sN (sN M 30 f 6 (gN M 30 f 6 + 1)) 7 0 1 (gN M 7 0 1 + 1) else (sN M 30 f 6 (gN M 30 f 6 + 1))) = M') := by
  refine Ct_of (cc := cX3_pass) (by decide) [(0, _), (1, _)] rfl (Nat.le_of_ble_eq_true rfl) (fun pp ee ss mm aa bb mt cd C E => ?_)
  refine V_aload_n C dX3_pass_0 rfl rfl ?_
  refine gf_X3_21 C (by omega) dX3_pass_1 ?_
  try simp only [gNN, gNI, gNJ, gIN, gII, gIJ, gJN, gJI, gJJ, Nat.reduceEqDiff, false_and, and_false, true_and, and_true, if_false, if_true]
  rw [hc]
  refine gf_X3_25 C (by omega) dX3_pass_4 ?_
  try simp only [gNN, gNI, gNJ, gIN, gII, gIJ, gJN, gJI, gJJ, Nat.reduceEqDiff, false_and, and_false, true_and, and_true, if_false, if_true]
  refine V_astore_n (lv' := [(2, _), (0, _), (1, _)]) C dX3_pass_7 rfl (by decide) rfl ?_
  refine V_aload_n C dX3_pass_8 rfl rfl ?_
  refine gf_X3_9 C (by omega) dX3_pass_9 ?_
  try simp only [gNN, gNI, gNJ, gIN, gII, gIJ, gJN, gJI, gJJ, Nat.reduceEqDiff, false_and, and_false, true_and, and_true, if_false, if_true]
  refine V_istore_n (lv' := [(3, _), (2, _), (0, _), (1, _)]) C dX3_pass_12 rfl (by decide) rfl ?_
  refine V_aload_n C dX3_pass_13 rfl rfl ?_
  refine V_iload_n C dX3_pass_14 rfl rfl ?_
  refine V_iconst C (nI 1) dX3_pass_15 (by decide) ?_
  refine V_iaddN C dX3_pass_16 ?_
  refine pf_X3_9 C (by omega) dX3_pass_17 ?_
  refine V_aload_n C dX3_pass_20 rfl rfl ?_
  refine V_iload_n C dX3_pass_21 rfl rfl ?_
  refine V_callV C [_] (ct_X4_sortN hc6 (by simp [gNN]; omega) (by simp [gNN]; omega)) cv_X4_sort lk_X3_31 (in_19 (by omega)) rfl rfl ⟨Nat.le_of_ble_eq_true rfl, Nat.le_of_ble_eq_true rfl⟩ rfl rfl (Nat.le_of_ble_eq_true rfl) dX3_pass_22 (fun r M' hr => ?_)
  obtain ⟨rfl, rfl⟩ := hr
  try simp only [gNN, gNI, gNJ, gIN, gII, gIJ, gJN, gJI, gJJ, Nat.reduceEqDiff, false_and, and_false, true_and, and_true, if_false, if_true]
  rw [hs]
  refine V_tabIn (tgt := 52) C dX3_pass_25 (1) (by decide) (by decide) (by decide) rfl (by decide) ?_
  refine V_aload_n C dX3_pass_52 rfl rfl ?_
  refine V_callV C [] (ct_X9_countOne (by simp [gNN]; omega) (by simp [gNN]; omega)) cv_X9_countOne lk_X3_52 in_7 rfl rfl ⟨Nat.le_of_ble_eq_true rfl, Nat.le_of_ble_eq_true rfl⟩ rfl rfl (Nat.le_of_ble_eq_true rfl) dX3_pass_53 (fun r M' hr => ?_)
  obtain ⟨rfl, rfl⟩ := hr
  try simp only [gNN, gNI, gNJ, gIN, gII, gIJ, gJN, gJI, gJJ, Nat.reduceEqDiff, false_and, and_false, true_and, and_true, if_false, if_true]
  refine V_zret C E dX3_pass_56 (bN_le _) ?_
  exact ⟨rfl, rfl⟩

set_option maxRecDepth 20000 in
set_option maxHeartbeats 4000000 in
theorem ct_X3_pass2 {l : Launch} {G : Gm} {M : Mem} {f c : Nat} (hf : f < 12) (hc : gN M 30 f 3 = c) (hc6 : c < 6) (hz : gN M 19 c 5 ≤ 70) (he : gN M 30 f 6 < gN M 19 c 5) (hs : gN M 20 c (gN M 30 f 6) = 2) (hn : gN M 21 c (gN M 30 f 6) < 4) (h1 : gN M 7 0 1 ≤ gN M 7 0 0) (h2 : gN M 7 0 0 ≤ 200) : Ct l G rX yX3_pass (.code yX3_pass cX3_pass 4 (some .boolean) :: GW) rmX3_pass [.ref (ad G 30 f), .ref (ad G 7 0)] M (fun r M' => some (.int (nI (bN (gN M 7 0 1 + cost (gJ M 31 f (gN M 21 c (gN M 30 f 6))) ≤ gN M 7 0 0)))) = r ∧ (if gN M 7 0 1 + cost (gJ M 31 f (gN M 21 c (gN M 30 f 6))) ≤ gN M 7 0 0 then sN (sN M 30 f 6 (gN M 30 f 6 + 1)) 7 0 1 (gN M 7 0 1 + cost (gJ M 31 f (gN M 21 c (gN M 30 f 6)))) else (sN M 30 f 6 (gN M 30 f 6 + 1))) = M') := by
  refine Ct_of (cc := cX3_pass) (by decide) [(0, _), (1, _)] rfl (Nat.le_of_ble_eq_true rfl) (fun pp ee ss mm aa bb mt cd C E => ?_)
  refine V_aload_n C dX3_pass_0 rfl rfl ?_
  refine gf_X3_21 C (by omega) dX3_pass_1 ?_
  try simp only [gNN, gNI, gNJ, gIN, gII, gIJ, gJN, gJI, gJJ, Nat.reduceEqDiff, false_and, and_false, true_and, and_true, if_false, if_true]
  rw [hc]
  refine gf_X3_25 C (by omega) dX3_pass_4 ?_
  try simp only [gNN, gNI, gNJ, gIN, gII, gIJ, gJN, gJI, gJJ, Nat.reduceEqDiff, false_and, and_false, true_and, and_true, if_false, if_true]
  refine V_astore_n (lv' := [(2, _), (0, _), (1, _)]) C dX3_pass_7 rfl (by decide) rfl ?_
  refine V_aload_n C dX3_pass_8 rfl rfl ?_
  refine gf_X3_9 C (by omega) dX3_pass_9 ?_
  try simp only [gNN, gNI, gNJ, gIN, gII, gIJ, gJN, gJI, gJJ, Nat.reduceEqDiff, false_and, and_false, true_and, and_true, if_false, if_true]
  refine V_istore_n (lv' := [(3, _), (2, _), (0, _), (1, _)]) C dX3_pass_12 rfl (by decide) rfl ?_
  refine V_aload_n C dX3_pass_13 rfl rfl ?_
  refine V_iload_n C dX3_pass_14 rfl rfl ?_
  refine V_iconst C (nI 1) dX3_pass_15 (by decide) ?_
  refine V_iaddN C dX3_pass_16 ?_
  refine pf_X3_9 C (by omega) dX3_pass_17 ?_
  refine V_aload_n C dX3_pass_20 rfl rfl ?_
  refine V_iload_n C dX3_pass_21 rfl rfl ?_
  refine V_callV C [_] (ct_X4_sortN hc6 (by simp [gNN]; omega) (by simp [gNN]; omega)) cv_X4_sort lk_X3_31 (in_19 (by omega)) rfl rfl ⟨Nat.le_of_ble_eq_true rfl, Nat.le_of_ble_eq_true rfl⟩ rfl rfl (Nat.le_of_ble_eq_true rfl) dX3_pass_22 (fun r M' hr => ?_)
  obtain ⟨rfl, rfl⟩ := hr
  try simp only [gNN, gNI, gNJ, gIN, gII, gIJ, gJN, gJI, gJJ, Nat.reduceEqDiff, false_and, and_false, true_and, and_true, if_false, if_true]
  rw [hs]
  refine V_tabIn (tgt := 57) C dX3_pass_25 (2) (by decide) (by decide) (by decide) rfl (by decide) ?_
  refine V_aload_n C dX3_pass_57 rfl rfl ?_
  refine V_aload_n C dX3_pass_58 rfl rfl ?_
  refine V_aload_n C dX3_pass_59 rfl rfl ?_
  refine V_iload_n C dX3_pass_60 rfl rfl ?_
  refine V_callV C [_] (ct_X4_numberN hc6 (by simp [gNN]; omega) (by simp [gNN]; omega)) cv_X4_number lk_X3_40 (in_19 (by omega)) rfl rfl ⟨Nat.le_of_ble_eq_true rfl, Nat.le_of_ble_eq_true rfl⟩ rfl rfl (Nat.le_of_ble_eq_true rfl) dX3_pass_61 (fun r M' hr => ?_)
  obtain ⟨rfl, rfl⟩ := hr
  try simp only [gNN, gNI, gNJ, gIN, gII, gIJ, gJN, gJI, gJJ, Nat.reduceEqDiff, false_and, and_false, true_and, and_true, if_false, if_true]
  refine V_callV C [_] (ct_X1_register hf hn) cv_X1_register lk_X3_58 (in_30 (by omega)) rfl rfl ⟨Nat.le_of_ble_eq_true rfl, Nat.le_of_ble_eq_true rfl⟩ rfl rfl (Nat.le_of_ble_eq_true rfl) dX3_pass_64 (fun r M' hr => ?_)
  obtain ⟨rfl, rfl⟩ := hr
  try simp only [gNN, gNI, gNJ, gIN, gII, gIJ, gJN, gJI, gJJ, Nat.reduceEqDiff, false_and, and_false, true_and, and_true, if_false, if_true]
  refine V_callV C [_] (ct_X9_countMake (by simp [gNN]; omega) (by simp [gNN]; omega)) cv_X9_countMake lk_X3_62 in_7 rfl rfl ⟨Nat.le_of_ble_eq_true rfl, Nat.le_of_ble_eq_true rfl⟩ rfl rfl (Nat.le_of_ble_eq_true rfl) dX3_pass_67 (fun r M' hr => ?_)
  obtain ⟨rfl, rfl⟩ := hr
  try simp only [gNN, gNI, gNJ, gIN, gII, gIJ, gJN, gJI, gJJ, Nat.reduceEqDiff, false_and, and_false, true_and, and_true, if_false, if_true]
  refine V_zret C E dX3_pass_70 (bN_le _) ?_
  exact ⟨rfl, rfl⟩

set_option maxRecDepth 20000 in
set_option maxHeartbeats 4000000 in
theorem ct_X3_pass3 {l : Launch} {G : Gm} {M : Mem} {f c : Nat} (hf : f < 12) (hc : gN M 30 f 3 = c) (hc6 : c < 6) (hz : gN M 19 c 5 ≤ 70) (he : gN M 30 f 6 < gN M 19 c 5) {g : Nat} (hs : gN M 20 c (gN M 30 f 6) = 3) (hg : gI M 22 c (gN M 30 f 6) = nI g) : Ct l G rX yX3_pass (.code yX3_pass cX3_pass 4 (some .boolean) :: GW) rmX3_pass [.ref (ad G 30 f), .ref (ad G 7 0)] M (fun r M' => some (.int (nI 1)) = r ∧ sN (sN M 30 f 6 (gN M 30 f 6 + 1)) 30 f 6 g = M') := by
  refine Ct_of (cc := cX3_pass) (by decide) [(0, _), (1, _)] rfl (Nat.le_of_ble_eq_true rfl) (fun pp ee ss mm aa bb mt cd C E => ?_)
  refine V_aload_n C dX3_pass_0 rfl rfl ?_
  refine gf_X3_21 C (by omega) dX3_pass_1 ?_
  try simp only [gNN, gNI, gNJ, gIN, gII, gIJ, gJN, gJI, gJJ, Nat.reduceEqDiff, false_and, and_false, true_and, and_true, if_false, if_true]
  rw [hc]
  refine gf_X3_25 C (by omega) dX3_pass_4 ?_
  try simp only [gNN, gNI, gNJ, gIN, gII, gIJ, gJN, gJI, gJJ, Nat.reduceEqDiff, false_and, and_false, true_and, and_true, if_false, if_true]
  refine V_astore_n (lv' := [(2, _), (0, _), (1, _)]) C dX3_pass_7 rfl (by decide) rfl ?_
  refine V_aload_n C dX3_pass_8 rfl rfl ?_
  refine gf_X3_9 C (by omega) dX3_pass_9 ?_
  try simp only [gNN, gNI, gNJ, gIN, gII, gIJ, gJN, gJI, gJJ, Nat.reduceEqDiff, false_and, and_false, true_and, and_true, if_false, if_true]
  refine V_istore_n (lv' := [(3, _), (2, _), (0, _), (1, _)]) C dX3_pass_12 rfl (by decide) rfl ?_
  refine V_aload_n C dX3_pass_13 rfl rfl ?_
  refine V_iload_n C dX3_pass_14 rfl rfl ?_
  refine V_iconst C (nI 1) dX3_pass_15 (by decide) ?_
  refine V_iaddN C dX3_pass_16 ?_
  refine pf_X3_9 C (by omega) dX3_pass_17 ?_
  refine V_aload_n C dX3_pass_20 rfl rfl ?_
  refine V_iload_n C dX3_pass_21 rfl rfl ?_
  refine V_callV C [_] (ct_X4_sortN hc6 (by simp [gNN]; omega) (by simp [gNN]; omega)) cv_X4_sort lk_X3_31 (in_19 (by omega)) rfl rfl ⟨Nat.le_of_ble_eq_true rfl, Nat.le_of_ble_eq_true rfl⟩ rfl rfl (Nat.le_of_ble_eq_true rfl) dX3_pass_22 (fun r M' hr => ?_)
  obtain ⟨rfl, rfl⟩ := hr
  try simp only [gNN, gNI, gNJ, gIN, gII, gIJ, gJN, gJI, gJJ, Nat.reduceEqDiff, false_and, and_false, true_and, and_true, if_false, if_true]
  rw [hs]
  refine V_tabIn (tgt := 71) C dX3_pass_25 (3) (by decide) (by decide) (by decide) rfl (by decide) ?_
  refine V_aload_n C dX3_pass_71 rfl rfl ?_
  refine V_aload_n C dX3_pass_72 rfl rfl ?_
  refine V_iload_n C dX3_pass_73 rfl rfl ?_
  refine V_callV C [_] (ct_X4_goalN hc6 (by simp [gNN]; omega) (by simp [gNN]; omega)) cv_X4_goal lk_X3_46 (in_19 (by omega)) rfl rfl ⟨Nat.le_of_ble_eq_true rfl, Nat.le_of_ble_eq_true rfl⟩ rfl rfl (Nat.le_of_ble_eq_true rfl) dX3_pass_74 (fun r M' hr => ?_)
  obtain ⟨rfl, rfl⟩ := hr
  try simp only [gNN, gNI, gNJ, gIN, gII, gIJ, gJN, gJI, gJJ, Nat.reduceEqDiff, false_and, and_false, true_and, and_true, if_false, if_true]
  rw [hg]
  refine pf_X3_9 C (by omega) dX3_pass_77 ?_
  refine V_iconst C (nI 1) dX3_pass_80 (by decide) ?_
  refine V_zret C E dX3_pass_81 (by first | decide | (unfold bN; split <;> omega)) ?_
  exact ⟨rfl, rfl⟩

set_option maxRecDepth 20000 in
set_option maxHeartbeats 4000000 in
theorem ct_X7_enter {l : Launch} {G : Gm} {M : Mem} {f c : Nat} (hf : f < 12) (hF : FrOK M f c) (h1 : gN M 7 0 1 ≤ gN M 7 0 0) (h2 : gN M 7 0 0 ≤ 200) : Ct l G rX yX7_enter (.code yX7_enter cX7_enter 3 (some .boolean) :: GW) rmX7_enter [.ref (ad G 4 0), .ref (ad G 30 f), .ref (ad G 7 0)] M (fun r M' => EnterP 4 M f c 0 r M') := by
  have hc := hF.1
  have hc6 := hF.2.1
  have hi := hF.2.2.1
  have hs := hi.1
  have hh4 := hi.2.1
  have htb := hF.tb
  refine Ct_of (cc := cX7_enter) (by decide) [(0, _), (1, _), (2, _)] rfl (Nat.le_of_ble_eq_true rfl) (fun pp ee ss mm aa bb mt cd C E => ?_)
  refine V_aload_n C dX7_enter_0 rfl rfl ?_
  refine V_iconst C (nI 0) dX7_enter_1 (by decide) ?_
  refine pf_X7_9 C (by omega) dX7_enter_2 ?_
  refine V_aload_n C dX7_enter_5 rfl rfl ?_
  refine V_callV C [] (ct_X9_countOne (by simp [gNN]; omega) (by simp [gNN]; omega)) cv_X9_countOne lk_X7_15 in_7 rfl rfl ⟨Nat.le_of_ble_eq_true rfl, Nat.le_of_ble_eq_true rfl⟩ rfl rfl (Nat.le_of_ble_eq_true rfl) dX7_enter_6 (fun r M' hr => ?_)
  obtain ⟨rfl, rfl⟩ := hr
  simp only [gNN, Nat.reduceEqDiff, false_and, if_false]
  refine V_zret C E dX7_enter_9 (bN_le _) ?_
  by_cases hb : gN M 7 0 1 < gN M 7 0 0
  · rw [bN_t hb, if_pos hb]
    exact ⟨(Fx_f (by omega)).tr Fx_s, Or.inl ⟨hb, rfl, by simp [gNN], by simp [gNN], Or.inl ⟨rfl, by simp [gNN]⟩⟩⟩
  · rw [bN_f hb, if_neg hb]
    exact ⟨Fx_f (by omega), Or.inr ⟨hb, rfl, by simp [gNN]⟩⟩

set_option maxRecDepth 20000 in
set_option maxHeartbeats 4000000 in
theorem ct_X7_take {l : Launch} {G : Gm} {M : Mem} {f c : Nat} (hf : f < 12) (hF : FrOK M f c) {h : Nat} (hh : h < gN M 10 c 9) (h1 : gN M 7 0 1 ≤ gN M 7 0 0) (h2 : gN M 7 0 0 ≤ 200) : Ct l G rX yX7_take (.code yX7_take cX7_take 4 (some .boolean) :: GW) rmX7_take [.ref (ad G 4 0), .ref (ad G 30 f), .int (nI h), .ref (ad G 7 0)] M (fun r M' => EnterP 4 M f c (min (gN M 17 c h) (gN M 10 c 4)) r M') := by
  have hc := hF.1
  have hc6 := hF.2.1
  have hi := hF.2.2.1
  have hs := hi.1
  have hh4 := hi.2.1
  have htb := hF.tb
  refine Ct_of (cc := cX7_take) (by decide) [(0, _), (1, _), (2, _), (3, _)] rfl (Nat.le_of_ble_eq_true rfl) (fun pp ee ss mm aa bb mt cd C E => ?_)
  refine V_aload_n C dX7_take_0 rfl rfl ?_
  refine V_aload_n C dX7_take_1 rfl rfl ?_
  refine gf_X7_21 C (by omega) dX7_take_2 ?_
  rw [hc]
  refine V_iload_n C dX7_take_5 rfl rfl ?_
  refine V_callV C [_] (ct_X0_handlerPlace hc6 hi hh) cv_X0_handlerPlace lk_X7_52 (in_10 (by omega)) rfl rfl ⟨Nat.le_of_ble_eq_true rfl, Nat.le_of_ble_eq_true rfl⟩ rfl rfl (Nat.le_of_ble_eq_true rfl) dX7_take_6 (fun r M' hr => ?_)
  obtain ⟨rfl, rfl⟩ := hr
  refine pf_X7_9 C (by omega) dX7_take_9 ?_
  refine V_aload_n C dX7_take_12 rfl rfl ?_
  refine V_callV C [] (ct_X9_countOne (by simp [gNN]; omega) (by simp [gNN]; omega)) cv_X9_countOne lk_X7_15 in_7 rfl rfl ⟨Nat.le_of_ble_eq_true rfl, Nat.le_of_ble_eq_true rfl⟩ rfl rfl (Nat.le_of_ble_eq_true rfl) dX7_take_13 (fun r M' hr => ?_)
  obtain ⟨rfl, rfl⟩ := hr
  simp only [gNN, Nat.reduceEqDiff, false_and, if_false]
  refine V_zret C E dX7_take_16 (bN_le _) ?_
  by_cases hb : gN M 7 0 1 < gN M 7 0 0
  · rw [bN_t hb, if_pos hb]
    exact ⟨(Fx_f (by omega)).tr Fx_s, Or.inl ⟨hb, rfl, by simp [gNN], by simp [gNN]; omega, Or.inl ⟨rfl, by simp [gNN]⟩⟩⟩
  · rw [bN_f hb, if_neg hb]
    exact ⟨Fx_f (by omega), Or.inr ⟨hb, rfl, by simp [gNN]⟩⟩

set_option maxRecDepth 20000 in
set_option maxHeartbeats 4000000 in
theorem ct_X7_jump {l : Launch} {G : Gm} {M : Mem} {f c : Nat} (hf : f < 12) (hF : FrOK M f c) {p : Nat} (hp : gN M 30 f 4 = p) (hp2 : p < gN M 10 c 4) (hj : gN M 11 c p = 6 ∨ gN M 11 c p = 7) (h1 : gN M 7 0 1 ≤ gN M 7 0 0) (h2 : gN M 7 0 0 ≤ 200) : Ct l G rX yX7_jump (.code yX7_jump cX7_jump 3 (some .boolean) :: GW) rmX7_jump [.ref (ad G 4 0), .ref (ad G 30 f), .ref (ad G 7 0)] M (fun r M' => JumpP 4 M f c p r M') := by
  have hc := hF.1
  have hc6 := hF.2.1
  have hi := hF.2.2.1
  have hs := hi.1
  have hh4 := hi.2.1
  have htb := hF.tb
  obtain ⟨v, hv1, hv2⟩ := (hi.2.2.2.2 p hp2).1 hj
  have htg := tgt_of (n := gN M 10 c 4) hv2 hv1
  refine Ct_of (cc := cX7_jump) (by decide) [(0, _), (1, _), (2, _)] rfl (Nat.le_of_ble_eq_true rfl) (fun pp ee ss mm aa bb mt cd C E => ?_)
  refine V_aload_n C dX7_jump_0 rfl rfl ?_
  refine V_aload_n C dX7_jump_1 rfl rfl ?_
  refine gf_X7_21 C (by omega) dX7_jump_2 ?_
  try simp only [gNN, gNI, gNJ, gIN, gII, gIJ, gJN, gJI, gJJ, Nat.reduceEqDiff, false_and, and_false, true_and, and_true, if_false, if_true]
  rw [hc]
  refine V_aload_n C dX7_jump_5 rfl rfl ?_
  refine gf_X7_25 C (by omega) dX7_jump_6 ?_
  try simp only [gNN, gNI, gNJ, gIN, gII, gIJ, gJN, gJI, gJJ, Nat.reduceEqDiff, false_and, and_false, true_and, and_true, if_false, if_true]
  rw [hp]
  refine V_callV C [_] (ct_X0_jumpPlace hc6 hi hp2 hv2 hv1) cv_X0_jumpPlace lk_X7_45 (in_10 (by omega)) rfl rfl ⟨Nat.le_of_ble_eq_true rfl, Nat.le_of_ble_eq_true rfl⟩ rfl rfl (Nat.le_of_ble_eq_true rfl) dX7_jump_9 (fun r M' hr => ?_)
  obtain ⟨rfl, rfl⟩ := hr
  try simp only [gNN, gNI, gNJ, gIN, gII, gIJ, gJN, gJI, gJJ, Nat.reduceEqDiff, false_and, and_false, true_and, and_true, if_false, if_true]
  rw [← htg]
  refine pf_X7_9 C (by omega) dX7_jump_12 ?_
  refine V_aload_n C dX7_jump_15 rfl rfl ?_
  refine gf_X7_21 C (by omega) dX7_jump_16 ?_
  try simp only [gNN, gNI, gNJ, gIN, gII, gIJ, gJN, gJI, gJJ, Nat.reduceEqDiff, false_and, and_false, true_and, and_true, if_false, if_true]
  rw [hc]
  refine V_aload_n C dX7_jump_19 rfl rfl ?_
  refine gf_X7_25 C (by omega) dX7_jump_20 ?_
  try simp only [gNN, gNI, gNJ, gIN, gII, gIJ, gJN, gJI, gJJ, Nat.reduceEqDiff, false_and, and_false, true_and, and_true, if_false, if_true]
  rw [hp]
  refine V_callV C [_] (ct_X0_leadsBack hc6 (CI_Fx (Fx_f (f := f) (by omega)) hi) (by omega)) cv_X0_leadsBack lk_X7_48 (in_10 (by omega)) rfl rfl ⟨Nat.le_of_ble_eq_true rfl, Nat.le_of_ble_eq_true rfl⟩ rfl rfl (Nat.le_of_ble_eq_true rfl) dX7_jump_23 (fun r M' hr => ?_)
  obtain ⟨rfl, rfl⟩ := hr
  try simp only [gNN, gNI, gNJ, gIN, gII, gIJ, gJN, gJI, gJJ, Nat.reduceEqDiff, false_and, and_false, true_and, and_true, if_false, if_true]
  refine V_ifB_eq (tgt := 36) C dX7_jump_26 (by decide) (fun h26 => ?_) (fun h26 => ?_)
  · skip
    refine V_iconst C (nI 1) dX7_jump_36 (by decide) ?_
    refine V_goto (tgt := 41) C dX7_jump_37 (by decide) ?_
    refine V_zret C E dX7_jump_41 (by first | decide | (unfold bN; split <;> omega)) ?_
    first | (have hbk : bk (gN M 11 c) (gJ M 14 c) p := h26.2) | (have hbk : ¬ bk (gN M 11 c) (gJ M 14 c) p := fun q => h26 ⟨hp2, q⟩)
    first | (have hb : gN M 7 0 1 < gN M 7 0 0 := h33; rw [if_pos hb]; exact ⟨(Fx_f (by omega)).tr Fx_s, Or.inr (Or.inl ⟨rfl, hbk, hb, by simp [gNN], by rw [htg]; simp [gNN]; omega, Or.inl ⟨rfl, by simp [gNN]⟩⟩)⟩) | (have hb : ¬ gN M 7 0 1 < gN M 7 0 0 := h33; rw [if_neg hb]; exact ⟨Fx_f (by omega), Or.inr (Or.inr (Or.inl ⟨rfl, hbk, hb, by simp [gNN]⟩))⟩) | exact ⟨Fx_f (by omega), Or.inl ⟨rfl, hbk, by simp [gNN], by rw [htg]; simp [gNN]; omega, Or.inl ⟨rfl, by simp [gNN]⟩⟩⟩
  · skip
    refine V_aload_n C dX7_jump_29 rfl rfl ?_
    refine V_callV C [] (ct_X9_countOne (by simp [gNN]; omega) (by simp [gNN]; omega)) cv_X9_countOne lk_X7_15 in_7 rfl rfl ⟨Nat.le_of_ble_eq_true rfl, Nat.le_of_ble_eq_true rfl⟩ rfl rfl (Nat.le_of_ble_eq_true rfl) dX7_jump_30 (fun r M' hr => ?_)
    obtain ⟨rfl, rfl⟩ := hr
    try simp only [gNN, gNI, gNJ, gIN, gII, gIJ, gJN, gJI, gJJ, Nat.reduceEqDiff, false_and, and_false, true_and, and_true, if_false, if_true]
    refine V_ifB_eq (tgt := 40) C dX7_jump_33 (by decide) (fun h33 => ?_) (fun h33 => ?_)
    · skip
      refine V_iconst C (nI 0) dX7_jump_40 (by decide) ?_
      refine V_zret C E dX7_jump_41 (by first | decide | (unfold bN; split <;> omega)) ?_
      first | (have hbk : bk (gN M 11 c) (gJ M 14 c) p := h26.2) | (have hbk : ¬ bk (gN M 11 c) (gJ M 14 c) p := fun q => h26 ⟨hp2, q⟩)
      first | (have hb : gN M 7 0 1 < gN M 7 0 0 := h33; rw [if_pos hb]; exact ⟨(Fx_f (by omega)).tr Fx_s, Or.inr (Or.inl ⟨rfl, hbk, hb, by simp [gNN], by rw [htg]; simp [gNN]; omega, Or.inl ⟨rfl, by simp [gNN]⟩⟩)⟩) | (have hb : ¬ gN M 7 0 1 < gN M 7 0 0 := h33; rw [if_neg hb]; exact ⟨Fx_f (by omega), Or.inr (Or.inr (Or.inl ⟨rfl, hbk, hb, by simp [gNN]⟩))⟩) | exact ⟨Fx_f (by omega), Or.inl ⟨rfl, hbk, by simp [gNN], by rw [htg]; simp [gNN]; omega, Or.inl ⟨rfl, by simp [gNN]⟩⟩⟩
    · skip
      refine V_iconst C (nI 1) dX7_jump_36 (by decide) ?_
      refine V_goto (tgt := 41) C dX7_jump_37 (by decide) ?_
      refine V_zret C E dX7_jump_41 (by first | decide | (unfold bN; split <;> omega)) ?_
      first | (have hbk : bk (gN M 11 c) (gJ M 14 c) p := h26.2) | (have hbk : ¬ bk (gN M 11 c) (gJ M 14 c) p := fun q => h26 ⟨hp2, q⟩)
      first | (have hb : gN M 7 0 1 < gN M 7 0 0 := h33; rw [if_pos hb]; exact ⟨(Fx_f (by omega)).tr Fx_s, Or.inr (Or.inl ⟨rfl, hbk, hb, by simp [gNN], by rw [htg]; simp [gNN]; omega, Or.inl ⟨rfl, by simp [gNN]⟩⟩)⟩) | (have hb : ¬ gN M 7 0 1 < gN M 7 0 0 := h33; rw [if_neg hb]; exact ⟨Fx_f (by omega), Or.inr (Or.inr (Or.inl ⟨rfl, hbk, hb, by simp [gNN]⟩))⟩) | exact ⟨Fx_f (by omega), Or.inl ⟨rfl, hbk, by simp [gNN], by rw [htg]; simp [gNN]; omega, Or.inl ⟨rfl, by simp [gNN]⟩⟩⟩
