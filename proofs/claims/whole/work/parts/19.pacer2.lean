theorem jgo_N {ac : Nat → Nat} {nu : Nat → Int64} {n k : Nat} (h : ac k = 6 ∨ ac k = 7) : ∃ g, jgo ac nu n k = nI g ∧ ((bk ac nu k ∧ g = beg ac n + 1 + 2 * bks ac nu k) ∨ (¬ bk ac nu k ∧ g = beg ac (tgt nu n k))) := by
  unfold jgo
  rw [if_pos h]
  by_cases hb : bk ac nu k
  · exact ⟨_, if_pos hb, Or.inl ⟨hb, rfl⟩⟩
  · exact ⟨_, if_neg hb, Or.inr ⟨hb, rfl⟩⟩
theorem tgt_le {nu : Nat → Int64} {n k : Nat} : tgt nu n k ≤ n := Nat.min_le_right _ _
theorem beg_lt (ac : Nat → Nat) {p n : Nat} (h : p ≤ n) : beg ac p + (if p < n then mk1 ac p else 0) ≤ beg ac n := by
  by_cases e : p < n
  · rw [if_pos e]; have := beg_mono ac e; omega
  · rw [if_neg e, show p = n by omega]; omega
theorem EntOK.pl {ac fs : Nat → Nat} {nu : Nat → Int64} {av : Nat → Nat} {n hn : Nat} {S Nn : Nat → Nat} {Gg : Nat → Int32} (h : EntOK ac fs nu av n hn S Nn Gg) {p : Nat} (hp : p ≤ n) : S (beg ac p + (if p < n then mk1 ac p else 0)) = 0 ∧ Nn (beg ac p + (if p < n then mk1 ac p else 0)) = p := by
  by_cases e : p < n
  · rw [if_pos e]; exact (h.2.1 p e).1.2
  · rw [if_neg e, show p = n by omega]; exact ⟨h.2.2.1.1, h.2.2.1.2.1⟩
set_option maxRecDepth 20000 in
set_option maxHeartbeats 4000000 in
theorem ct_X7_fetch {l : Launch} {G : Gm} {M : Mem} {f c : Nat} (hf : f < 12) (hF : FrOK M f c) {p : Nat} (hp : Pos 4 M f c p) (h1 : gN M 7 0 1 ≤ gN M 7 0 0) (h2 : gN M 7 0 0 ≤ 200) : Ct l G rX yX7_fetch (.code yX7_fetch cX7_fetch 4 (some .boolean) :: GW) rmX7_fetch [.ref (ad G 4 0), .ref (ad G 30 f), .ref (ad G 7 0)] M (fun r M' => FetchP 4 M f c p (gN M 7 0 1) r M') := by
  have hc := hF.1
  have hc6 := hF.2.1
  have hi := hF.2.2.1
  have hs := hi.1
  have hh4 := hi.2.1
  have htb := hF.tb
  have hpn := hp.1
  have hnx : gN M 30 f 6 = p := by rcases hp.2 with q | q; exact q.2; exact absurd q.1 (by decide)
  have hal : (if p < gN M 10 c 4 then gN M 11 c p else 14) ≤ 18 := by split; exact (hi.2.2.1 p (by omega)).1; omega
  have hX : Fx M (sN (sN M 30 f 4 p) 30 f 6 (p + 1)) f := (Fx_f (by omega)).tr (Fx_f (by omega))
  have hcx := CI_Fx hX hi
  refine Ct_of (cc := cX7_fetch) (by decide) [(0, _), (1, _), (2, _)] rfl (Nat.le_of_ble_eq_true rfl) (fun pp ee ss mm aa bb mt cd C E => ?_)
  refine V_aload_n C dX7_fetch_0 rfl rfl ?_
  refine gf_X7_21 C (by omega) dX7_fetch_1 ?_
  try simp only [gNN, gNI, gNJ, gIN, gII, gIJ, gJN, gJI, gJJ, Nat.reduceEqDiff, false_and, and_false, true_and, and_true, if_false, if_true]
  rw [hc]
  refine V_astore_n (lv' := [(3, _), (0, _), (1, _), (2, _)]) C dX7_fetch_4 rfl (by decide) rfl ?_
  refine V_aload_n C dX7_fetch_5 rfl rfl ?_
  refine V_aload_n C dX7_fetch_6 rfl rfl ?_
  refine gf_X7_9 C (by omega) dX7_fetch_7 ?_
  try simp only [gNN, gNI, gNJ, gIN, gII, gIJ, gJN, gJI, gJJ, Nat.reduceEqDiff, false_and, and_false, true_and, and_true, if_false, if_true]
  rw [hnx]
  refine pf_X7_25 C (by omega) dX7_fetch_10 ?_
  refine V_aload_n C dX7_fetch_13 rfl rfl ?_
  refine V_aload_n C dX7_fetch_14 rfl rfl ?_
  refine gf_X7_25 C (by omega) dX7_fetch_15 ?_
  try simp only [gNN, gNI, gNJ, gIN, gII, gIJ, gJN, gJI, gJJ, Nat.reduceEqDiff, false_and, and_false, true_and, and_true, if_false, if_true]
  refine V_iconst C (nI 1) dX7_fetch_18 (by decide) ?_
  refine V_iaddN C dX7_fetch_19 ?_
  refine pf_X7_9 C (by omega) dX7_fetch_20 ?_
  refine V_aload_n C dX7_fetch_23 rfl rfl ?_
  refine V_aload_n C dX7_fetch_24 rfl rfl ?_
  refine gf_X7_25 C (by omega) dX7_fetch_25 ?_
  try simp only [gNN, gNI, gNJ, gIN, gII, gIJ, gJN, gJI, gJJ, Nat.reduceEqDiff, false_and, and_false, true_and, and_true, if_false, if_true]
  refine V_callV C [_] (ct_X0_act hc6 hcx (by omega)) cv_X0_act lk_X7_28 (in_10 (by omega)) rfl rfl ⟨Nat.le_of_ble_eq_true rfl, Nat.le_of_ble_eq_true rfl⟩ rfl rfl (Nat.le_of_ble_eq_true rfl) dX7_fetch_28 (fun r M' hr => ?_)
  obtain ⟨rfl, rfl⟩ := hr
  try simp only [gNN, gNI, gNJ, gIN, gII, gIJ, gJN, gJI, gJJ, Nat.reduceEqDiff, false_and, and_false, true_and, and_true, if_false, if_true]
  refine V_bipush C (nI 8) dX7_fetch_31 (by decide) ?_
  refine V_icmpN_ne (tgt := 55) C dX7_fetch_33 (by omega) (by omega) (by decide) (fun h33 => ?_) (fun h33 => ?_)
  · skip
    refine V_iconst C (nI 1) dX7_fetch_55 (by decide) ?_
    refine V_goto (tgt := 60) C dX7_fetch_56 (by decide) ?_
    refine V_zret C E dX7_fetch_60 (by first | decide | (unfold bN; split <;> omega)) ?_
    first | (have hb := h52; rw [if_pos hb]; exact ⟨hX.tr Fx_s, Or.inl ⟨rfl, ⟨by simp [gNN]; omega, by simp [gNN], Or.inl ⟨rfl, by simp [gNN]⟩⟩, Or.inr ⟨hmk, hb, by simp [gNN]⟩⟩⟩) | (have hb := h52; rw [if_neg hb]; exact ⟨hX, Or.inr ⟨rfl, hmk, hb, by simp [gNN]⟩⟩) | exact ⟨hX, Or.inl ⟨rfl, ⟨by simp [gNN]; omega, by simp [gNN], Or.inl ⟨rfl, by simp [gNN]⟩⟩, Or.inl ⟨fun q => h33 (by rw [if_pos q.1]; exact q.2), by simp [gNN]⟩⟩⟩
  · skip
    have hmk : mkP M c p := by unfold mkP; by_cases q : p < gN M 10 c 4; (rw [if_pos q] at h33; exact ⟨q, h33⟩); (rw [if_neg q] at h33; omega)
    have hf4 := (hi.2.2.1 p (by have := hmk.1; omega)).2.1
    have hmp := hmk.1
    refine V_aload_n C dX7_fetch_36 rfl rfl ?_
    refine V_aload_n C dX7_fetch_37 rfl rfl ?_
    refine V_aload_n C dX7_fetch_38 rfl rfl ?_
    refine V_aload_n C dX7_fetch_39 rfl rfl ?_
    refine gf_X7_25 C (by omega) dX7_fetch_40 ?_
    try simp only [gNN, gNI, gNJ, gIN, gII, gIJ, gJN, gJI, gJJ, Nat.reduceEqDiff, false_and, and_false, true_and, and_true, if_false, if_true]
    refine V_callV C [_] (ct_X0_first hc6 hcx (by omega)) cv_X0_first lk_X7_34 (in_10 (by omega)) rfl rfl ⟨Nat.le_of_ble_eq_true rfl, Nat.le_of_ble_eq_true rfl⟩ rfl rfl (Nat.le_of_ble_eq_true rfl) dX7_fetch_43 (fun r M' hr => ?_)
    obtain ⟨rfl, rfl⟩ := hr
    try simp only [gNN, gNI, gNJ, gIN, gII, gIJ, gJN, gJI, gJJ, Nat.reduceEqDiff, false_and, and_false, true_and, and_true, if_false, if_true]
    rw [if_pos hmk.1]
    refine V_callV C [_] (ct_X1_register hf (by omega)) cv_X1_register lk_X7_37 (in_30 (by omega)) rfl rfl ⟨Nat.le_of_ble_eq_true rfl, Nat.le_of_ble_eq_true rfl⟩ rfl rfl (Nat.le_of_ble_eq_true rfl) dX7_fetch_46 (fun r M' hr => ?_)
    obtain ⟨rfl, rfl⟩ := hr
    try simp only [gNN, gNI, gNJ, gIN, gII, gIJ, gJN, gJI, gJJ, Nat.reduceEqDiff, false_and, and_false, true_and, and_true, if_false, if_true]
    refine V_callV C [_] (ct_X9_countMake (by simp [gNN]; omega) (by simp [gNN]; omega)) cv_X9_countMake lk_X7_41 in_7 rfl rfl ⟨Nat.le_of_ble_eq_true rfl, Nat.le_of_ble_eq_true rfl⟩ rfl rfl (Nat.le_of_ble_eq_true rfl) dX7_fetch_49 (fun r M' hr => ?_)
    obtain ⟨rfl, rfl⟩ := hr
    try simp only [gNN, gNI, gNJ, gIN, gII, gIJ, gJN, gJI, gJJ, Nat.reduceEqDiff, false_and, and_false, true_and, and_true, if_false, if_true]
    refine V_ifB_eq (tgt := 59) C dX7_fetch_52 (by decide) (fun h52 => ?_) (fun h52 => ?_)
    · skip
      refine V_iconst C (nI 0) dX7_fetch_59 (by decide) ?_
      refine V_zret C E dX7_fetch_60 (by first | decide | (unfold bN; split <;> omega)) ?_
      first | (have hb := h52; rw [if_pos hb]; exact ⟨hX.tr Fx_s, Or.inl ⟨rfl, ⟨by simp [gNN]; omega, by simp [gNN], Or.inl ⟨rfl, by simp [gNN]⟩⟩, Or.inr ⟨hmk, hb, by simp [gNN]⟩⟩⟩) | (have hb := h52; rw [if_neg hb]; exact ⟨hX, Or.inr ⟨rfl, hmk, hb, by simp [gNN]⟩⟩) | exact ⟨hX, Or.inl ⟨rfl, ⟨by simp [gNN]; omega, by simp [gNN], Or.inl ⟨rfl, by simp [gNN]⟩⟩, Or.inl ⟨fun q => h33 (by rw [if_pos q.1]; exact q.2), by simp [gNN]⟩⟩⟩
    · skip
      refine V_iconst C (nI 1) dX7_fetch_55 (by decide) ?_
      refine V_goto (tgt := 60) C dX7_fetch_56 (by decide) ?_
      refine V_zret C E dX7_fetch_60 (by first | decide | (unfold bN; split <;> omega)) ?_
      first | (have hb := h52; rw [if_pos hb]; exact ⟨hX.tr Fx_s, Or.inl ⟨rfl, ⟨by simp [gNN]; omega, by simp [gNN], Or.inl ⟨rfl, by simp [gNN]⟩⟩, Or.inr ⟨hmk, hb, by simp [gNN]⟩⟩⟩) | (have hb := h52; rw [if_neg hb]; exact ⟨hX, Or.inr ⟨rfl, hmk, hb, by simp [gNN]⟩⟩) | exact ⟨hX, Or.inl ⟨rfl, ⟨by simp [gNN]; omega, by simp [gNN], Or.inl ⟨rfl, by simp [gNN]⟩⟩, Or.inl ⟨fun q => h33 (by rw [if_pos q.1]; exact q.2), by simp [gNN]⟩⟩⟩

set_option maxRecDepth 20000 in
set_option maxHeartbeats 4000000 in
theorem ct_X3_enter {l : Launch} {G : Gm} {M : Mem} {f c : Nat} (hf : f < 12) (hF : FrOK M f c) (h1 : gN M 7 0 1 ≤ gN M 7 0 0) (h2 : gN M 7 0 0 ≤ 200) : Ct l G rX yX3_enter (.code yX3_enter cX3_enter 3 (some .boolean) :: GW) rmX3_enter [.ref (ad G 3 0), .ref (ad G 30 f), .ref (ad G 7 0)] M (fun r M' => EnterP 3 M f c 0 r M') := by
  have hc := hF.1
  have hc6 := hF.2.1
  have hi := hF.2.2.1
  have hs := hi.1
  have hh4 := hi.2.1
  have htb := hF.tb
  have hE := hF.ent.2.1
  refine Ct_of (cc := cX3_enter) (by decide) [(0, _), (1, _), (2, _)] rfl (Nat.le_of_ble_eq_true rfl) (fun pp ee ss mm aa bb mt cd C E => ?_)
  refine V_aload_n C dX3_enter_0 rfl rfl ?_
  refine V_iconst C (nI 0) dX3_enter_1 (by decide) ?_
  refine pf_X3_9 C (by omega) dX3_enter_2 ?_
  refine V_aload_n C dX3_enter_5 rfl rfl ?_
  refine V_aload_n C dX3_enter_6 rfl rfl ?_
  refine V_callS C [_, _] (ct_X3_pass1 hf (by simp [gNN]; exact hc) hc6 (by simp [gNN]; omega) (by simp [gNN]; omega) (by simp [gNN]; exact hE.1.1) (by simp [gNN]; omega) (by simp [gNN]; omega)) cs_X3_pass rfl lk_X3_15 ⟨Nat.le_of_ble_eq_true rfl, Nat.le_of_ble_eq_true rfl⟩ rfl rfl (Nat.le_of_ble_eq_true rfl) dX3_enter_7 (fun r M' hr => ?_)
  obtain ⟨rfl, rfl⟩ := hr
  simp only [gNN, Nat.reduceEqDiff, false_and, and_false, and_true, true_and, if_false, if_true]
  refine V_zret C E dX3_enter_10 (bN_le _) ?_
  by_cases hb : gN M 7 0 1 < gN M 7 0 0
  · rw [bN_t hb, if_pos hb]
    exact ⟨(Fx_f (by omega)).tr ((Fx_f (by omega)).tr Fx_s), Or.inl ⟨hb, rfl, by simp [gNN], by simp [gNN], Or.inr ⟨rfl, Or.inl (by simp [gNN]; rfl)⟩⟩⟩
  · rw [bN_f hb, if_neg hb]
    exact ⟨(Fx_f (by omega)).tr (Fx_f (by omega)), Or.inr ⟨hb, rfl, by simp [gNN]⟩⟩

set_option maxRecDepth 20000 in
set_option maxHeartbeats 4000000 in
theorem ct_X3_take {l : Launch} {G : Gm} {M : Mem} {f c : Nat} (hf : f < 12) (hF : FrOK M f c) {h : Nat} (hh : h < gN M 10 c 9) (h1 : gN M 7 0 1 ≤ gN M 7 0 0) (h2 : gN M 7 0 0 ≤ 200) : Ct l G rX yX3_take (.code yX3_take cX3_take 4 (some .boolean) :: GW) rmX3_take [.ref (ad G 3 0), .ref (ad G 30 f), .int (nI h), .ref (ad G 7 0)] M (fun r M' => EnterP 3 M f c (min (gN M 17 c h) (gN M 10 c 4)) r M') := by
  have hc := hF.1
  have hc6 := hF.2.1
  have hi := hF.2.2.1
  have hs := hi.1
  have hh4 := hi.2.1
  have htb := hF.tb
  have hE := hF.ent.2.1
  have hld := hE.2.2.2.2 h hh
  have hhm := hF.ent.2.2 h hh
  obtain ⟨e, he⟩ : ∃ e, e = beg (gN M 11 c) (gN M 10 c 4) + 1 + 2 * bks (gN M 11 c) (gJ M 14 c) (gN M 10 c 4) + 2 * h := ⟨_, rfl⟩
  rw [← he] at hld hhm
  refine Ct_of (cc := cX3_take) (by decide) [(0, _), (1, _), (2, _), (3, _)] rfl (Nat.le_of_ble_eq_true rfl) (fun pp ee ss mm aa bb mt cd C E => ?_)
  refine V_aload_n C dX3_take_0 rfl rfl ?_
  refine V_aload_n C dX3_take_1 rfl rfl ?_
  refine gf_X3_21 C (by omega) dX3_take_2 ?_
  rw [hc]
  refine gf_X3_25 C (by omega) dX3_take_5 ?_
  refine V_iload_n C dX3_take_8 rfl rfl ?_
  refine V_callV C [_] (ct_X4_handlerMark hc6 (by omega)) cv_X4_handlerMark lk_X3_49 (in_19 (by omega)) rfl rfl ⟨Nat.le_of_ble_eq_true rfl, Nat.le_of_ble_eq_true rfl⟩ rfl rfl (Nat.le_of_ble_eq_true rfl) dX3_take_9 (fun r M' hr => ?_)
  obtain ⟨rfl, rfl⟩ := hr
  rw [hhm]
  refine pf_X3_9 C (by omega) dX3_take_12 ?_
  refine V_aload_n C dX3_take_15 rfl rfl ?_
  refine V_aload_n C dX3_take_16 rfl rfl ?_
  refine V_callS C [_, _] (ct_X3_pass1 hf (by simp [gNN]; exact hc) hc6 (by simp [gNN]; omega) (by simp [gNN]; omega) (by simp [gNN]; exact hld.1) (by simp [gNN]; omega) (by simp [gNN]; omega)) cs_X3_pass rfl lk_X3_15 ⟨Nat.le_of_ble_eq_true rfl, Nat.le_of_ble_eq_true rfl⟩ rfl rfl (Nat.le_of_ble_eq_true rfl) dX3_take_17 (fun r M' hr => ?_)
  obtain ⟨rfl, rfl⟩ := hr
  simp only [gNN, Nat.reduceEqDiff, false_and, and_false, and_true, true_and, if_false, if_true]
  refine V_zret C E dX3_take_20 (bN_le _) ?_
  by_cases hb : gN M 7 0 1 < gN M 7 0 0
  · rw [bN_t hb, if_pos hb]
    exact ⟨(Fx_f (by omega)).tr ((Fx_f (by omega)).tr Fx_s), Or.inl ⟨hb, rfl, by simp [gNN], by simp [gNN]; omega, Or.inr ⟨rfl, Or.inr ⟨by simp [gNN]; omega, by simp [gNN]; exact hld.2.2.2.1, by simp [gNN, gIN, gN_fn]; exact hld.2.2.2.2.2⟩⟩⟩⟩
  · rw [bN_f hb, if_neg hb]
    exact ⟨(Fx_f (by omega)).tr (Fx_f (by omega)), Or.inr ⟨hb, rfl, by simp [gNN]⟩⟩

set_option maxRecDepth 20000 in
set_option maxHeartbeats 4000000 in
theorem ct_X3_jump {l : Launch} {G : Gm} {M : Mem} {f c : Nat} (hf : f < 12) (hF : FrOK M f c) {p : Nat} (hA : At 3 M f c p) (hp2 : p < gN M 10 c 4) (hj : gN M 11 c p = 6 ∨ gN M 11 c p = 7) (h1 : gN M 7 0 1 ≤ gN M 7 0 0) (h2 : gN M 7 0 0 ≤ 200) : Ct l G rX yX3_jump (.code yX3_jump cX3_jump 3 (some .boolean) :: GW) rmX3_jump [.ref (ad G 3 0), .ref (ad G 30 f), .ref (ad G 7 0)] M (fun r M' => JumpP 3 M f c p r M') := by
  have hc := hF.1
  have hc6 := hF.2.1
  have hi := hF.2.2.1
  have hs := hi.1
  have hh4 := hi.2.1
  have htb := hF.tb
  have hE := hF.ent.2.1
  have hm0 : mk1 (gN M 11 c) p = 0 := by unfold mk1; rw [if_neg (by omega)]
  have hnow : gN M 30 f 5 = beg (gN M 11 c) p := by rcases hA.2.2 with q | q; exact absurd q.1 (by decide); (rw [q.2.1, if_pos hp2, hm0]; rfl)
  obtain ⟨g, hg, hgc⟩ := jgo_N (nu := gJ M 14 c) (n := gN M 10 c 4) hj
  have hgo : gI M 22 c (beg (gN M 11 c) p) = nI g := by have := (hE.2.1 p hp2).2.2; rw [hm0] at this; exact this.trans hg
  have hbp := beg_mono (gN M 11 c) hp2
  have hbm := bks_mono (gN M 11 c) (gJ M 14 c) hp2
  refine Ct_of (cc := cX3_jump) (by decide) [(0, _), (1, _), (2, _)] rfl (Nat.le_of_ble_eq_true rfl) (fun pp ee ss mm aa bb mt cd C E => ?_)
  refine V_aload_n C dX3_jump_0 rfl rfl ?_
  refine V_aload_n C dX3_jump_1 rfl rfl ?_
  refine gf_X3_21 C (by omega) dX3_jump_2 ?_
  rw [hc]
  refine gf_X3_25 C (by omega) dX3_jump_5 ?_
  refine V_aload_n C dX3_jump_8 rfl rfl ?_
  refine gf_X3_37 C (by omega) dX3_jump_9 ?_
  rw [hnow]
  refine V_callV C [_] (ct_X4_goalN hc6 (by omega) (by omega)) cv_X4_goal lk_X3_46 (in_19 (by omega)) rfl rfl ⟨Nat.le_of_ble_eq_true rfl, Nat.le_of_ble_eq_true rfl⟩ rfl rfl (Nat.le_of_ble_eq_true rfl) dX3_jump_12 (fun r M' hr => ?_)
  obtain ⟨rfl, rfl⟩ := hr
  rw [hgo]
  refine pf_X3_9 C (by omega) dX3_jump_15 ?_
  refine V_iconst C (nI 1) dX3_jump_18 (by decide) ?_
  refine V_zret C E dX3_jump_19 (by first | decide | (unfold bN; split <;> omega)) ?_
  rcases hgc with ⟨hb, rfl⟩ | ⟨hb, rfl⟩
  · have hld := hE.2.2.2.1 p hp2 hb
    rw [bk1_t hb] at hbm
    exact ⟨Fx_f (by omega), Or.inr (Or.inr (Or.inr ⟨rfl, hb, by simp [gNN], rfl, by simp [gNN]; exact tgt_le, by simp [gNN]; omega, by simp [gNN]; exact hld.1, by simp [gNN]; exact hld.2.2.2.1, by simp [gNN, gIN, gN_fn]; exact hld.2.2.2.2.2⟩))⟩
  · exact ⟨Fx_f (by omega), Or.inl ⟨rfl, hb, by simp [gNN], by simp [gNN]; exact tgt_le, Or.inr ⟨rfl, Or.inl (by simp [gNN, gN_fn])⟩⟩⟩

set_option maxRecDepth 20000 in
set_option maxHeartbeats 4000000 in
theorem ct_X3_fetch {l : Launch} {G : Gm} {M : Mem} {f c : Nat} (hf : f < 12) (hF : FrOK M f c) {p s0 : Nat} (hp : (Pos 3 M f c p ∧ s0 = gN M 7 0 1) ∨ (Pend 3 M f c p ∧ gN M 7 0 1 < gN M 7 0 0 ∧ s0 = gN M 7 0 1 + 1)) (h1 : gN M 7 0 1 ≤ gN M 7 0 0) (h2 : gN M 7 0 0 ≤ 200) : Ct l G rX yX3_fetch (.code yX3_fetch cX3_fetch 5 (some .boolean) :: GW) rmX3_fetch [.ref (ad G 3 0), .ref (ad G 30 f), .ref (ad G 7 0)] M (fun r M' => FetchP 3 M f c p s0 r M') := by
  have hc := hF.1
  have hc6 := hF.2.1
  have hi := hF.2.2.1
  have hs := hi.1
  have hh4 := hi.2.1
  have htb := hF.tb
  have hE := hF.ent.2.1
  have hpn : p ≤ gN M 10 c 4 := by rcases hp with q | q; exact q.1.1; exact q.1.2.1
  have hbl := beg_lt (gN M 11 c) hpn
  have hbp0 := beg_pos (gN M 11 c) p
  have hpl := hE.pl hpn
  obtain ⟨w, hw⟩ : ∃ w, w = beg (gN M 11 c) p + (if p < gN M 10 c 4 then mk1 (gN M 11 c) p else 0) := ⟨_, rfl⟩
  rw [← hw] at hbl hpl
  refine Ct_of (cc := cX3_fetch) (by decide) [(0, _), (1, _), (2, _)] rfl (Nat.le_of_ble_eq_true rfl) (fun pp ee ss mm aa bb mt cd C E => ?_)
  have LA : ∀ (i : Nat) (X : Mem), i < 70 → Fx M X f → gN X 30 f 6 = w → ((¬ mkP M c p ∧ gN X 7 0 1 = s0) ∨ (mkP M c p ∧ s0 + cost (gJ M 31 f (gN M 12 c p)) ≤ gN M 7 0 0 ∧ gN X 7 0 1 = s0 + cost (gJ M 31 f (gN M 12 c p)))) → V pp l ee rmX3_fetch ss mm aa bb mt cd G rX 5 (MQ bb (QcG G rX (fun r M' => FetchP 3 M f c p s0 r M') (AA G rX ss.heap.size)) aa ss 0 0 (AA G rX ss.heap.size)) X 11 [(4, .int (nI i)), (3, .ref (ad G 19 c)), (0, .ref (ad G 3 0)), (1, .ref (ad G 30 f)), (2, .ref (ad G 7 0))] [] := by
    intro i X hi70 hX hn hst
    have hFX := FrOK_Fx hX hF
    have e20 := hX.fn (show 20 ≠ 30 by decide) (by decide) (i := c)
    have e21 := hX.fn (show 21 ≠ 30 by decide) (by decide) (i := c)
    have e19 := hX.fn (show 19 ≠ 30 by decide) (by decide) (i := c)
    have e12 := hX.fn (show 12 ≠ 30 by decide) (by decide) (i := c)
    have hcX := hFX.1
    have hz : gN X 19 c 5 ≤ 70 := by rw [e19]; omega
    have hb0 : gN X 7 0 0 = gN M 7 0 0 := hX.1 7 0 0 (by omega) (by omega)
    have hs := hpl.1
    have hnb := hpl.2
    refine V_iload C dX3_fetch_11 rfl ?_
    refine V_bipush C (nI 70) dX3_fetch_13 (by decide) ?_
    refine V_icmpN_ge (tgt := 77) C dX3_fetch_15 (by omega) (by omega) (by decide) (fun h15 => ?_) (fun h15 => ?_)
    · skip
      exact absurd h15 (by omega)
    · skip
      refine V_aload_n C dX3_fetch_18 rfl rfl ?_
      refine V_aload_n C dX3_fetch_19 rfl rfl ?_
      refine gf_X3_9 C (by omega) dX3_fetch_20 ?_
      refine V_callV C [_] (ct_X4_sortN hc6 hz (by rw [e19, hn]; omega)) cv_X4_sort lk_X3_31 (in_19 (by omega)) rfl rfl ⟨Nat.le_of_ble_eq_true rfl, Nat.le_of_ble_eq_true rfl⟩ rfl rfl (Nat.le_of_ble_eq_true rfl) dX3_fetch_23 (fun r M' hr => ?_)
      obtain ⟨rfl, rfl⟩ := hr
      rw [hn, e20, hs]
      refine V_ifN_ne (tgt := 61) C dX3_fetch_26 (by omega) (by decide) (fun h26 => ?_) (fun h26 => ?_)
      · skip
        exact absurd rfl h26
      · skip
        refine V_aload_n C dX3_fetch_29 rfl rfl ?_
        refine V_aload_n C dX3_fetch_30 rfl rfl ?_
        refine gf_X3_9 C (by omega) dX3_fetch_31 ?_
        rw [hn]
        refine pf_X3_37 C (by omega) dX3_fetch_34 ?_
        refine V_aload_n C dX3_fetch_37 rfl rfl ?_
        refine V_aload_n C dX3_fetch_38 rfl rfl ?_
        refine V_aload_n C dX3_fetch_39 rfl rfl ?_
        refine gf_X3_37 C (by omega) dX3_fetch_40 ?_
        rw [show gN (sN X 30 f 5 w) 30 f 5 = w by simp [gNN]]
        refine V_callV C [_] (ct_X4_numberN hc6 (by simp [gNN]; exact hz) (by simp [gNN]; rw [e19]; omega)) cv_X4_number lk_X3_40 (in_19 (by omega)) rfl rfl ⟨Nat.le_of_ble_eq_true rfl, Nat.le_of_ble_eq_true rfl⟩ rfl rfl (Nat.le_of_ble_eq_true rfl) dX3_fetch_43 (fun r M' hr => ?_)
        obtain ⟨rfl, rfl⟩ := hr
        rw [show gN (sN X 30 f 5 w) 21 c w = p by rw [gN_fn (by decide), e21]; exact hnb]
        refine pf_X3_43 C (by omega) dX3_fetch_46 ?_
        refine V_aload_n C dX3_fetch_49 rfl rfl ?_
        refine V_aload_n C dX3_fetch_50 rfl rfl ?_
        refine gf_X3_37 C (by omega) dX3_fetch_51 ?_
        rw [show gN (sN (sN X 30 f 5 w) 30 f 4 p) 30 f 5 = w by simp [gNN]]
        refine V_iconst C (nI 1) dX3_fetch_54 (by decide) ?_
        refine V_iaddN C dX3_fetch_55 ?_
        refine pf_X3_9 C (by omega) dX3_fetch_56 ?_
        refine V_iconst C (nI 1) dX3_fetch_59 (by decide) ?_
        refine V_zret C E dX3_fetch_60 (by first | decide | (unfold bN; split <;> omega)) ?_
        have hY : Fx X (sN (sN (sN X 30 f 5 w) 30 f 4 p) 30 f 6 (w + 1)) f := (Fx_f (by omega)).tr ((Fx_f (by omega)).tr (Fx_f (by omega)))
        refine ⟨hX.tr hY, Or.inl ⟨rfl, ⟨?_, by simp [gNN], Or.inr ⟨rfl, ?_, by simp [gNN]⟩⟩, ?_⟩⟩
        · simp [gNN]; rw [hX.1 10 c 4 (by omega) (by omega)]; exact hpn
        · simp only [gNN, gN_fn (show 11 ≠ 30 by decide), Nat.reduceEqDiff, false_and, and_false, true_and, if_false, if_true]; rw [hX.fn (show 11 ≠ 30 by decide) (by decide), hX.1 10 c 4 (by omega) (by omega), hw]
        · simp only [gNN, Nat.reduceEqDiff, false_and, if_false]; exact hst
  have LB : ∀ (i : Nat) (X : Mem), i < 70 → Fx M X f → i < 69 → gN X 30 f 6 = beg (gN M 11 c) p → gN X 7 0 1 = s0 → mkP M c p → s0 ≤ gN M 7 0 0 → V pp l ee rmX3_fetch ss mm aa bb mt cd G rX 5 (MQ bb (QcG G rX (fun r M' => FetchP 3 M f c p s0 r M') (AA G rX ss.heap.size)) aa ss 0 0 (AA G rX ss.heap.size)) X 11 [(4, .int (nI i)), (3, .ref (ad G 19 c)), (0, .ref (ad G 3 0)), (1, .ref (ad G 30 f)), (2, .ref (ad G 7 0))] [] := by
    intro i X hi70 hX hi69 hn hs0 hmk hsb
    have hFX := FrOK_Fx hX hF
    have e20 := hX.fn (show 20 ≠ 30 by decide) (by decide) (i := c)
    have e21 := hX.fn (show 21 ≠ 30 by decide) (by decide) (i := c)
    have e19 := hX.fn (show 19 ≠ 30 by decide) (by decide) (i := c)
    have e12 := hX.fn (show 12 ≠ 30 by decide) (by decide) (i := c)
    have hcX := hFX.1
    have hz : gN X 19 c 5 ≤ 70 := by rw [e19]; omega
    have hb0 : gN X 7 0 0 = gN M 7 0 0 := hX.1 7 0 0 (by omega) (by omega)
    have hmp := hmk.1
    have hm1 : mk1 (gN M 11 c) p = 1 := by unfold mk1; rw [if_pos hmk.2]
    rw [if_pos hmp, hm1] at hw
    have hq := (hE.2.1 p hmp).1.1 hmk.2
    have hf4 := (hi.2.2.1 p (by omega)).2.1
    refine V_iload C dX3_fetch_11 rfl ?_
    refine V_bipush C (nI 70) dX3_fetch_13 (by decide) ?_
    refine V_icmpN_ge (tgt := 77) C dX3_fetch_15 (by omega) (by omega) (by decide) (fun h15 => ?_) (fun h15 => ?_)
    · skip
      exact absurd h15 (by omega)
    · skip
      refine V_aload_n C dX3_fetch_18 rfl rfl ?_
      refine V_aload_n C dX3_fetch_19 rfl rfl ?_
      refine gf_X3_9 C (by omega) dX3_fetch_20 ?_
      refine V_callV C [_] (ct_X4_sortN hc6 hz (by rw [e19, hn]; omega)) cv_X4_sort lk_X3_31 (in_19 (by omega)) rfl rfl ⟨Nat.le_of_ble_eq_true rfl, Nat.le_of_ble_eq_true rfl⟩ rfl rfl (Nat.le_of_ble_eq_true rfl) dX3_fetch_23 (fun r M' hr => ?_)
      obtain ⟨rfl, rfl⟩ := hr
      rw [hn, e20, hq.1]
      refine V_ifN_ne (tgt := 61) C dX3_fetch_26 (by omega) (by decide) (fun h26 => ?_) (fun h26 => ?_)
      · skip
        refine V_aload_n C dX3_fetch_61 rfl rfl ?_
        refine V_aload_n C dX3_fetch_62 rfl rfl ?_
        refine V_callS C [_, _] (ct_X3_pass2 hf hcX hc6 hz (by rw [e19, hn]; omega) (by rw [hn, e20]; exact hq.1) (by rw [hn, e21, hq.2]; omega) (by omega) (by omega)) cs_X3_pass rfl lk_X3_15 ⟨Nat.le_of_ble_eq_true rfl, Nat.le_of_ble_eq_true rfl⟩ rfl rfl (Nat.le_of_ble_eq_true rfl) dX3_fetch_63 (fun r M' hr => ?_)
        obtain ⟨rfl, rfl⟩ := hr
        simp only [hn, e21, hq.2, hs0, hb0, hX.2.2]
        refine V_ifB_ne (tgt := 71) C dX3_fetch_66 (by decide) (fun h66 => ?_) (fun h66 => ?_)
        · skip
          refine V_iincN (lv' := [(4, _), (3, _), (0, _), (1, _), (2, _)]) C dX3_fetch_71 rfl (b := 1) (by decide) (by decide) rfl ?_
          refine V_goto (tgt := 11) C dX3_fetch_74 (by decide) ?_
          rw [if_pos h66]
          refine V_lv [0, 1, 2, 3, 4] rfl ?_
          exact LA _ _ (by omega) (hX.tr ((Fx_f (by omega)).tr Fx_s)) (by simp [gNN]; omega) (Or.inr ⟨hmk, h66, by simp [gNN]⟩)
        · skip
          refine V_iconst C (nI 0) dX3_fetch_69 (by decide) ?_
          refine V_zret C E dX3_fetch_70 (by first | decide | (unfold bN; split <;> omega)) ?_
          rw [if_neg h66]
          exact ⟨hX.tr (Fx_f (by omega)), Or.inr ⟨rfl, hmk, h66, by simp [gNN]; exact hs0⟩⟩
      · skip
        exact absurd h26 (by decide)
  have LP : ∀ (i : Nat) (X : Mem), i < 69 → Fx M X f → gN X 30 f 6 = beg (gN M 11 c) p → gN X 7 0 1 = s0 → s0 ≤ gN M 7 0 0 → V pp l ee rmX3_fetch ss mm aa bb mt cd G rX 5 (MQ bb (QcG G rX (fun r M' => FetchP 3 M f c p s0 r M') (AA G rX ss.heap.size)) aa ss 0 0 (AA G rX ss.heap.size)) X 11 [(4, .int (nI i)), (3, .ref (ad G 19 c)), (0, .ref (ad G 3 0)), (1, .ref (ad G 30 f)), (2, .ref (ad G 7 0))] [] := by
    intro i X hi69 hX hn hs0 hsb
    by_cases hmk : mkP M c p
    · exact LB i X (by omega) hX hi69 hn hs0 hmk hsb
    · refine LA i X (by omega) hX ?_ (Or.inl ⟨hmk, hs0⟩)
      rw [hn, hw]
      by_cases q : p < gN M 10 c 4
      · rw [if_pos q]; unfold mk1; rw [if_neg (fun z => hmk ⟨q, z⟩)]; rfl
      · rw [if_neg q]; rfl
  have LC : ∀ (i : Nat) (X : Mem), i < 70 → Fx M X f → i < 68 → gN X 30 f 6 < gN M 19 c 5 → gN M 20 c (gN X 30 f 6) = 3 → gI M 22 c (gN X 30 f 6) = nI (beg (gN M 11 c) p) → gN X 7 0 1 = s0 → s0 ≤ gN M 7 0 0 → V pp l ee rmX3_fetch ss mm aa bb mt cd G rX 5 (MQ bb (QcG G rX (fun r M' => FetchP 3 M f c p s0 r M') (AA G rX ss.heap.size)) aa ss 0 0 (AA G rX ss.heap.size)) X 11 [(4, .int (nI i)), (3, .ref (ad G 19 c)), (0, .ref (ad G 3 0)), (1, .ref (ad G 30 f)), (2, .ref (ad G 7 0))] [] := by
    intro i X hi70 hX hi68 hne hq hg hs0 hsb
    have hFX := FrOK_Fx hX hF
    have e20 := hX.fn (show 20 ≠ 30 by decide) (by decide) (i := c)
    have e21 := hX.fn (show 21 ≠ 30 by decide) (by decide) (i := c)
    have e19 := hX.fn (show 19 ≠ 30 by decide) (by decide) (i := c)
    have e12 := hX.fn (show 12 ≠ 30 by decide) (by decide) (i := c)
    have hcX := hFX.1
    have hz : gN X 19 c 5 ≤ 70 := by rw [e19]; omega
    have hb0 : gN X 7 0 0 = gN M 7 0 0 := hX.1 7 0 0 (by omega) (by omega)
    refine V_iload C dX3_fetch_11 rfl ?_
    refine V_bipush C (nI 70) dX3_fetch_13 (by decide) ?_
    refine V_icmpN_ge (tgt := 77) C dX3_fetch_15 (by omega) (by omega) (by decide) (fun h15 => ?_) (fun h15 => ?_)
    · skip
      exact absurd h15 (by omega)
    · skip
      refine V_aload_n C dX3_fetch_18 rfl rfl ?_
      refine V_aload_n C dX3_fetch_19 rfl rfl ?_
      refine gf_X3_9 C (by omega) dX3_fetch_20 ?_
      refine V_callV C [_] (ct_X4_sortN hc6 hz (by rw [e19]; omega)) cv_X4_sort lk_X3_31 (in_19 (by omega)) rfl rfl ⟨Nat.le_of_ble_eq_true rfl, Nat.le_of_ble_eq_true rfl⟩ rfl rfl (Nat.le_of_ble_eq_true rfl) dX3_fetch_23 (fun r M' hr => ?_)
      obtain ⟨rfl, rfl⟩ := hr
      rw [e20, hq]
      refine V_ifN_ne (tgt := 61) C dX3_fetch_26 (by omega) (by decide) (fun h26 => ?_) (fun h26 => ?_)
      · skip
        refine V_aload_n C dX3_fetch_61 rfl rfl ?_
        refine V_aload_n C dX3_fetch_62 rfl rfl ?_
        refine V_callS C [_, _] (ct_X3_pass3 hf hcX hc6 hz (by rw [e19]; omega) (by rw [e20]; exact hq) (by rw [hX.2.1]; exact hg)) cs_X3_pass rfl lk_X3_15 ⟨Nat.le_of_ble_eq_true rfl, Nat.le_of_ble_eq_true rfl⟩ rfl rfl (Nat.le_of_ble_eq_true rfl) dX3_fetch_63 (fun r M' hr => ?_)
        obtain ⟨rfl, rfl⟩ := hr
        refine V_ifN_ne (tgt := 71) C dX3_fetch_66 (by omega) (by decide) (fun h66 => ?_) (fun h66 => ?_)
        · skip
          refine V_iincN (lv' := [(4, _), (3, _), (0, _), (1, _), (2, _)]) C dX3_fetch_71 rfl (b := 1) (by decide) (by decide) rfl ?_
          refine V_goto (tgt := 11) C dX3_fetch_74 (by decide) ?_
          refine V_lv [0, 1, 2, 3, 4] rfl ?_
          exact LP _ _ (by omega) (hX.tr ((Fx_f (by omega)).tr (Fx_f (by omega)))) (by simp [gNN]) (by simp [gNN]; exact hs0) hsb
        · skip
          exact absurd h66 (by decide)
      · skip
        exact absurd h26 (by decide)
  have LD : ∀ (i : Nat) (X : Mem), i < 70 → Fx M X f → i < 67 → X = M → Pend 3 M f c p → gN M 7 0 1 < gN M 7 0 0 → s0 = gN M 7 0 1 + 1 → V pp l ee rmX3_fetch ss mm aa bb mt cd G rX 5 (MQ bb (QcG G rX (fun r M' => FetchP 3 M f c p s0 r M') (AA G rX ss.heap.size)) aa ss 0 0 (AA G rX ss.heap.size)) X 11 [(4, .int (nI i)), (3, .ref (ad G 19 c)), (0, .ref (ad G 3 0)), (1, .ref (ad G 30 f)), (2, .ref (ad G 7 0))] [] := by
    intro i X hi70 hX hi67 hXM hpd hlt hs0
    have hFX := FrOK_Fx hX hF
    have e20 := hX.fn (show 20 ≠ 30 by decide) (by decide) (i := c)
    have e21 := hX.fn (show 21 ≠ 30 by decide) (by decide) (i := c)
    have e19 := hX.fn (show 19 ≠ 30 by decide) (by decide) (i := c)
    have e12 := hX.fn (show 12 ≠ 30 by decide) (by decide) (i := c)
    have hcX := hFX.1
    have hz : gN X 19 c 5 ≤ 70 := by rw [e19]; omega
    have hb0 : gN X 7 0 0 = gN M 7 0 0 := hX.1 7 0 0 (by omega) (by omega)
    subst hXM
    obtain ⟨-, -, d1, d2, d3, d4⟩ := hpd
    refine V_iload C dX3_fetch_11 rfl ?_
    refine V_bipush C (nI 70) dX3_fetch_13 (by decide) ?_
    refine V_icmpN_ge (tgt := 77) C dX3_fetch_15 (by omega) (by omega) (by decide) (fun h15 => ?_) (fun h15 => ?_)
    · skip
      exact absurd h15 (by omega)
    · skip
      refine V_aload_n C dX3_fetch_18 rfl rfl ?_
      refine V_aload_n C dX3_fetch_19 rfl rfl ?_
      refine gf_X3_9 C (by omega) dX3_fetch_20 ?_
      refine V_callV C [_] (ct_X4_sortN hc6 hz (by omega)) cv_X4_sort lk_X3_31 (in_19 (by omega)) rfl rfl ⟨Nat.le_of_ble_eq_true rfl, Nat.le_of_ble_eq_true rfl⟩ rfl rfl (Nat.le_of_ble_eq_true rfl) dX3_fetch_23 (fun r M' hr => ?_)
      obtain ⟨rfl, rfl⟩ := hr
      rw [d2]
      refine V_ifN_ne (tgt := 61) C dX3_fetch_26 (by omega) (by decide) (fun h26 => ?_) (fun h26 => ?_)
      · skip
        refine V_aload_n C dX3_fetch_61 rfl rfl ?_
        refine V_aload_n C dX3_fetch_62 rfl rfl ?_
        refine V_callS C [_, _] (ct_X3_pass1 hf hcX hc6 hz (by omega) d2 (by omega) (by omega)) cs_X3_pass rfl lk_X3_15 ⟨Nat.le_of_ble_eq_true rfl, Nat.le_of_ble_eq_true rfl⟩ rfl rfl (Nat.le_of_ble_eq_true rfl) dX3_fetch_63 (fun r M' hr => ?_)
        obtain ⟨rfl, rfl⟩ := hr
        refine V_ifB_ne (tgt := 71) C dX3_fetch_66 (by decide) (fun h66 => ?_) (fun h66 => ?_)
        · skip
          refine V_iincN (lv' := [(4, _), (3, _), (0, _), (1, _), (2, _)]) C dX3_fetch_71 rfl (b := 1) (by decide) (by decide) rfl ?_
          refine V_goto (tgt := 11) C dX3_fetch_74 (by decide) ?_
          rw [if_pos h66]
          refine V_lv [0, 1, 2, 3, 4] rfl ?_
          exact LC _ _ (by omega) ((Fx_f (by omega)).tr Fx_s) (by omega) (by simp [gNN]; exact d1) (by simp [gNN]; exact d3) (by simp [gNN]; exact d4) (by simp [gNN]; omega) (by omega)
        · skip
          exact absurd hlt h66
      · skip
        exact absurd h26 (by decide)
  refine V_aload_n C dX3_fetch_0 rfl rfl ?_
  refine gf_X3_21 C (by omega) dX3_fetch_1 ?_
  rw [hc]
  refine gf_X3_25 C (by omega) dX3_fetch_4 ?_
  refine V_astore_n (lv' := [(3, _), (0, _), (1, _), (2, _)]) C dX3_fetch_7 rfl (by decide) rfl ?_
  refine V_iconst C (nI 0) dX3_fetch_8 (by decide) ?_
  refine V_istore (lv' := [(4, _), (3, _), (0, _), (1, _), (2, _)]) C dX3_fetch_9 (by decide) rfl ?_
  refine V_lv [0, 1, 2, 3, 4] rfl ?_
  rcases hp with ⟨hq, hs0⟩ | ⟨hq, hlt, hs0⟩
  · rcases hq.2 with q | q
    · exact absurd q.1 (by decide)
    · rcases q.2 with q | ⟨q1, q2, q3⟩
      · exact LP 0 M (by decide) Fx_rf q hs0.symm (by omega)
      · exact LC 0 M (by decide) Fx_rf (by decide) q1 q2 q3 hs0.symm (by omega)
  · exact LD 0 M (by decide) Fx_rf (by decide) rfl hq hlt hs0
