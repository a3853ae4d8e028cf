theorem gN_fn {M : Mem} {k i j v a b : Nat} (h : a ≠ k) : gN (sN M k i j v) a b = gN M a b := by
  funext q
  rw [gNN, if_neg (fun z => h z.1)]
theorem gN_fnc {M : Mem} {k i j v a b : Nat} (h : b ≠ i) : gN (sN M k i j v) a b = gN M a b := by
  funext q
  rw [gNN, if_neg (fun z => h z.2.1)]
theorem Sm.fN {M M' : Mem} {c k : Nat} (h : Sm M M' c) (hk : k < 19) (i : Nat) : gN M' k i = gN M k i := by
  funext j
  exact h.1 k i j (Or.inl hk)
theorem Sm.fJ {M M' : Mem} {c k : Nat} (h : Sm M M' c) (i : Nat) : gJ M' k i = gJ M k i := by
  funext j
  exact h.2.2 k i j
theorem tot_le (ac : Nat → Nat) (nu : Nat → Int64) {n h : Nat} (hn : n ≤ 40) (hh : h ≤ 4) : tot ac nu n h ≤ 170 := by
  have := need_le ac nu n
  unfold tot
  omega
theorem tot_beg (ac : Nat → Nat) (nu : Nat → Int64) (n h : Nat) : beg ac n + 1 + 2 * bks ac nu n + 2 * h = tot ac nu n h := by
  have := beg_need ac nu n
  unfold tot
  omega
theorem tgt_of {nu : Nat → Int64} {n k v : Nat} (h : nu k = lN v) (hv : v ≤ 40) : tgt nu n k = min v n := by
  unfold tgt
  rw [h, lN_toInt (by omega)]
  rfl
theorem EInv.fin {M Z : Mem} {c : Nat} (h : EInv (gN M 11 c) (gN M 12 c) (gJ M 14 c) (gN M 17 c) (gN M 10 c 4) M Z c (gN M 10 c 4) (gN M 10 c 9)) (h0 : gN M 20 c 0 = 1 ∧ gN M 21 c 0 = 0 ∧ gI M 22 c 0 = -1) (hm : gN M 19 c 6 = 1) (hl : gN M 19 c 7 = 0) (ht : tot (gN M 11 c) (gJ M 14 c) (gN M 10 c 4) (gN M 10 c 9) ≤ 70) : MkOK Z c := by
  obtain ⟨h1, h2, h3, h4, h5, h6, h7, h8, h9, h10⟩ := h
  unfold MkOK
  rw [h1.fN (show 11 < 19 by decide), h1.fN (show 12 < 19 by decide), h1.fN (show 17 < 19 by decide), h1.fN (show 10 < 19 by decide), h1.fJ]
  refine Or.inr ⟨ht, by rw [h4, hl], by rw [h2, tot_beg], by rw [h3, hm], ⟨⟨by rw [h8.1, h0.1], by rw [h8.2.1, h0.2.1], by rw [h8.2.2, h0.2.2]⟩, fun k hk => ?_, h7, h9, fun j hj => (h10 j hj).1⟩, fun j hj => (h10 j hj).2⟩
  obtain ⟨g1, g2, g3⟩ := h6 k hk
  rw [if_pos hk] at g3
  exact ⟨g1, g2, g3⟩
set_option maxRecDepth 20000 in
set_option maxHeartbeats 4000000 in
theorem ct_X4_addJumps {l : Launch} {G : Gm} {M : Mem} {M0 : Mem} {c : Nat} (hc : c < 6) (hi : CI M0 c) (hE : EInv (gN M0 11 c) (gN M0 12 c) (gJ M0 14 c) (gN M0 17 c) (gN M0 10 c 4) M0 M c 0 0) (ht : tot (gN M0 11 c) (gJ M0 14 c) (gN M0 10 c 4) (gN M0 10 c 9) ≤ 70) : Ct l G rX yX4_addJumps (.code yX4_addJumps cX4_addJumps 4 none :: GW) rmX4_addJumps [.ref (ad G 19 c), .ref (ad G 10 c)] M (fun r M' => none = r ∧ EInv (gN M0 11 c) (gN M0 12 c) (gJ M0 14 c) (gN M0 17 c) (gN M0 10 c 4) M0 M' c (gN M0 10 c 4) 0) := by
  have hs := hi.1
  have hh4 := hi.2.1
  refine Ct_of (cc := cX4_addJumps) (by decide) [(0, _), (1, _)] rfl (Nat.le_of_ble_eq_true rfl) (fun pp ee ss mm aa bb mt cd C E => ?_)
  refine V_iconst C (nI 0) dX4_addJumps_0 (by decide) ?_
  refine V_istore_n (lv' := [(2, _), (0, _), (1, _)]) C dX4_addJumps_1 rfl (by decide) rfl ?_
  have LP2 : ∀ (fu : Nat) (p : Nat) (Z : Mem), gN M0 10 c 4 - p < fu → p ≤ gN M0 10 c 4 → EInv (gN M0 11 c) (gN M0 12 c) (gJ M0 14 c) (gN M0 17 c) (gN M0 10 c 4) M0 Z c p 0 → V pp l ee rmX4_addJumps ss mm aa bb mt cd G rX 4 (MQ bb (QcG G rX (fun r M' => none = r ∧ EInv (gN M0 11 c) (gN M0 12 c) (gJ M0 14 c) (gN M0 17 c) (gN M0 10 c 4) M0 M' c (gN M0 10 c 4) 0) (AA G rX ss.heap.size)) aa ss 0 0 (AA G rX ss.heap.size)) Z 2 [(2, .int (nI p)), (0, .ref (ad G 19 c)), (1, .ref (ad G 10 c))] [] := by
    intro fu
    induction fu with
    | zero => intros; omega
    | succ fu ih =>
      intro p Z hfu hle hI
      have hI0 := hI
      obtain ⟨i1, i2, i3, i4, i5, i6, i7, i8, i9, i10⟩ := hI0
      have hsz : gN Z 10 c 4 = gN M0 10 c 4 := i1.1 10 c 4 (by omega)
      have hhn : gN Z 10 c 9 = gN M0 10 c 9 := i1.1 10 c 9 (by omega)
      have hcx := CI_Sm i1 hi
      have htb := tot_beg (gN M0 11 c) (gJ M0 14 c) (gN M0 10 c 4) (gN M0 10 c 9)
      refine V_iload_n C dX4_addJumps_2 rfl rfl ?_
      refine V_aload_n C dX4_addJumps_3 rfl rfl ?_
      refine gf_X4_58 C (by omega) dX4_addJumps_4 ?_
      refine V_icmpN_ge (tgt := 63) C dX4_addJumps_7 (by omega) (by omega) (by decide) (fun h7 => ?_) (fun h7 => ?_)
      · skip
        refine V_vret C E dX4_addJumps_63 ?_
        have hp : p = gN M0 10 c 4 := by omega
        subst hp
        exact ⟨rfl, hI⟩
      · skip
        have hax : gN Z 11 c p = gN M0 11 c p := i1.1 11 c p (by omega)
        have hnx : gJ Z 14 c p = gJ M0 14 c p := i1.2.2 14 c p
        refine V_aload_n C dX4_addJumps_10 rfl rfl ?_
        refine V_iload_n C dX4_addJumps_11 rfl rfl ?_
        refine V_callV C [_] (ct_X0_isJump hc hcx (by omega)) cv_X0_isJump lk_X4_66 (in_10 (by omega)) rfl rfl ⟨Nat.le_of_ble_eq_true rfl, Nat.le_of_ble_eq_true rfl⟩ rfl rfl (Nat.le_of_ble_eq_true rfl) dX4_addJumps_12 (fun r M' hr => ?_)
        obtain ⟨rfl, rfl⟩ := hr
        refine V_ifB_eq (tgt := 57) C dX4_addJumps_15 (by decide) (fun h15 => ?_) (fun h15 => ?_)
        · skip
          refine V_iincN (lv' := [(2, _), (0, _), (1, _)]) C dX4_addJumps_57 rfl (b := 1) (by decide) (by decide) rfl ?_
          refine V_goto (tgt := 2) C dX4_addJumps_60 (by decide) ?_
          refine V_lv [0, 1, 2] rfl ?_
          exact ih _ _ (by omega) (by omega) (by first | exact hI.jump2 (by omega) hbk | exact hI.jump1 (by omega) hj hbk | exact hI.jump0 (by omega) (fun q => h15 ⟨by omega, by rw [hax]; exact q⟩))
        · skip
          have hj : gN M0 11 c p = 6 ∨ gN M0 11 c p = 7 := by rw [← hax]; exact h15.2
          obtain ⟨v, hv1, hv2⟩ := (hi.2.2.2.2 p (by omega)).1 hj
          have htg := tgt_of (n := gN M0 10 c 4) hv2 hv1
          have hvz : gJ Z 14 c p = lN v := hnx.trans hv2
          have hmv : min v (gN Z 10 c 4) = tgt (gJ M0 14 c) (gN M0 10 c 4) p := by rw [htg, hsz]
          have htl : tgt (gJ M0 14 c) (gN M0 10 c 4) p ≤ gN M0 10 c 4 := by rw [htg]; omega
          have hbn := beg_le (gN M0 11 c) (gN M0 10 c 4)
          have hbpn := beg_mono (gN M0 11 c) (show p < gN M0 10 c 4 by omega)
          have hbsm := bks_mono (gN M0 11 c) (gJ M0 14 c) (show p < gN M0 10 c 4 by omega)
          refine V_aload_n C dX4_addJumps_18 rfl rfl ?_
          refine gf_X4_21 C (by omega) dX4_addJumps_19 ?_
          refine V_aload_n C dX4_addJumps_22 rfl rfl ?_
          refine V_iload_n C dX4_addJumps_23 rfl rfl ?_
          refine V_callV C [_] (ct_X0_jumpPlace hc hcx (by omega) hvz hv1) cv_X0_jumpPlace lk_X4_70 (in_10 (by omega)) rfl rfl ⟨Nat.le_of_ble_eq_true rfl, Nat.le_of_ble_eq_true rfl⟩ rfl rfl (Nat.le_of_ble_eq_true rfl) dX4_addJumps_24 (fun r M' hr => ?_)
          obtain ⟨rfl, rfl⟩ := hr
          rw [hmv]
          refine ld_23 C (by omega) (by omega) dX4_addJumps_27 ?_
          rw [i5 _ htl]
          refine V_istore_n (lv' := [(3, _), (2, _), (0, _), (1, _)]) C dX4_addJumps_28 rfl (by decide) rfl ?_
          refine V_aload_n C dX4_addJumps_29 rfl rfl ?_
          refine gf_X4_18 C (by omega) dX4_addJumps_30 ?_
          refine V_aload_n C dX4_addJumps_33 rfl rfl ?_
          refine gf_X4_21 C (by omega) dX4_addJumps_34 ?_
          refine V_iload_n C dX4_addJumps_37 rfl rfl ?_
          refine ld_23 C (by omega) (by omega) dX4_addJumps_38 ?_
          rw [i5 p (by omega)]
          refine V_aload_n C dX4_addJumps_39 rfl rfl ?_
          refine V_iload_n C dX4_addJumps_40 rfl rfl ?_
          refine V_callV C [_] (ct_X0_leadsBack hc hcx (by omega)) cv_X0_leadsBack lk_X4_73 (in_10 (by omega)) rfl rfl ⟨Nat.le_of_ble_eq_true rfl, Nat.le_of_ble_eq_true rfl⟩ rfl rfl (Nat.le_of_ble_eq_true rfl) dX4_addJumps_41 (fun r M' hr => ?_)
          obtain ⟨rfl, rfl⟩ := hr
          refine V_ifB_eq (tgt := 55) C dX4_addJumps_44 (by decide) (fun h44 => ?_) (fun h44 => ?_)
          · skip
            have hbk : ¬ bk (gN M0 11 c) (gJ M0 14 c) p := fun q => h44 ⟨by omega, by rw [hax]; exact hj, by rw [hnx]; exact q.2⟩
            refine V_iload_n C dX4_addJumps_55 rfl rfl ?_
            refine st_22 C (by omega) (by omega) dX4_addJumps_56 ?_
            refine V_iincN (lv' := [(2, _), (3, _), (0, _), (1, _)]) C dX4_addJumps_57 rfl (b := 1) (by decide) (by decide) rfl ?_
            refine V_goto (tgt := 2) C dX4_addJumps_60 (by decide) ?_
            refine V_lv [0, 2, 3] rfl ?_
            exact ih _ _ (by omega) (by omega) (by first | exact hI.jump2 (by omega) hbk | exact hI.jump1 (by omega) hj hbk | exact hI.jump0 (by omega) (fun q => h15 ⟨by omega, by rw [hax]; exact q⟩))
          · skip
            have hbk : bk (gN M0 11 c) (gJ M0 14 c) p := ⟨hj, by rw [← hnx]; exact h44.2.2⟩
            rw [bk1_t hbk] at hbsm
            refine V_aload_n C dX4_addJumps_47 rfl rfl ?_
            refine V_iload_n C dX4_addJumps_48 rfl rfl ?_
            refine V_callV C [_] (ct_X4_addLead hc (by omega)) cv_X4_addLead lk_X4_76 (in_19 (by omega)) rfl rfl ⟨Nat.le_of_ble_eq_true rfl, Nat.le_of_ble_eq_true rfl⟩ rfl rfl (Nat.le_of_ble_eq_true rfl) dX4_addJumps_49 (fun r M' hr => ?_)
            obtain ⟨rfl, rfl⟩ := hr
            refine V_goto (tgt := 56) C dX4_addJumps_52 (by decide) ?_
            refine st_22 C (by omega) (by omega) dX4_addJumps_56 ?_
            refine V_iincN (lv' := [(2, _), (3, _), (0, _), (1, _)]) C dX4_addJumps_57 rfl (b := 1) (by decide) (by decide) rfl ?_
            refine V_goto (tgt := 2) C dX4_addJumps_60 (by decide) ?_
            refine V_lv [0, 2, 3] rfl ?_
            exact ih _ _ (by omega) (by omega) (by first | exact hI.jump2 (by omega) hbk | exact hI.jump1 (by omega) hj hbk | exact hI.jump0 (by omega) (fun q => h15 ⟨by omega, by rw [hax]; exact q⟩))
  refine V_lv [0, 1, 2] rfl ?_
  exact LP2 _ 0 M (Nat.lt_succ_self _) (Nat.zero_le _) hE

set_option maxRecDepth 20000 in
set_option maxHeartbeats 4000000 in
theorem ct_X4_addHandlers {l : Launch} {G : Gm} {M : Mem} {M0 : Mem} {c : Nat} (hc : c < 6) (hi : CI M0 c) (hE : EInv (gN M0 11 c) (gN M0 12 c) (gJ M0 14 c) (gN M0 17 c) (gN M0 10 c 4) M0 M c (gN M0 10 c 4) 0) (ht : tot (gN M0 11 c) (gJ M0 14 c) (gN M0 10 c 4) (gN M0 10 c 9) ≤ 70) : Ct l G rX yX4_addHandlers (.code yX4_addHandlers cX4_addHandlers 3 none :: GW) rmX4_addHandlers [.ref (ad G 19 c), .ref (ad G 10 c)] M (fun r M' => none = r ∧ EInv (gN M0 11 c) (gN M0 12 c) (gJ M0 14 c) (gN M0 17 c) (gN M0 10 c 4) M0 M' c (gN M0 10 c 4) (gN M0 10 c 9)) := by
  have hs := hi.1
  have hh4 := hi.2.1
  refine Ct_of (cc := cX4_addHandlers) (by decide) [(0, _), (1, _)] rfl (Nat.le_of_ble_eq_true rfl) (fun pp ee ss mm aa bb mt cd C E => ?_)
  refine V_iconst C (nI 0) dX4_addHandlers_0 (by decide) ?_
  refine V_istore_n (lv' := [(2, _), (0, _), (1, _)]) C dX4_addHandlers_1 rfl (by decide) rfl ?_
  have LP2 : ∀ (fu : Nat) (h : Nat) (Z : Mem), gN M0 10 c 9 - h < fu → h ≤ gN M0 10 c 9 → EInv (gN M0 11 c) (gN M0 12 c) (gJ M0 14 c) (gN M0 17 c) (gN M0 10 c 4) M0 Z c (gN M0 10 c 4) h → V pp l ee rmX4_addHandlers ss mm aa bb mt cd G rX 3 (MQ bb (QcG G rX (fun r M' => none = r ∧ EInv (gN M0 11 c) (gN M0 12 c) (gJ M0 14 c) (gN M0 17 c) (gN M0 10 c 4) M0 M' c (gN M0 10 c 4) (gN M0 10 c 9)) (AA G rX ss.heap.size)) aa ss 0 0 (AA G rX ss.heap.size)) Z 2 [(2, .int (nI h)), (0, .ref (ad G 19 c)), (1, .ref (ad G 10 c))] [] := by
    intro fu
    induction fu with
    | zero => intros; omega
    | succ fu ih =>
      intro h Z hfu hle hI
      have hI0 := hI
      obtain ⟨i1, i2, i3, i4, i5, i6, i7, i8, i9, i10⟩ := hI0
      have hsz : gN Z 10 c 4 = gN M0 10 c 4 := i1.1 10 c 4 (by omega)
      have hhn : gN Z 10 c 9 = gN M0 10 c 9 := i1.1 10 c 9 (by omega)
      have hcx := CI_Sm i1 hi
      have htb := tot_beg (gN M0 11 c) (gJ M0 14 c) (gN M0 10 c 4) (gN M0 10 c 9)
      refine V_iload_n C dX4_addHandlers_2 rfl rfl ?_
      refine V_aload_n C dX4_addHandlers_3 rfl rfl ?_
      refine gf_X4_79 C (by omega) dX4_addHandlers_4 ?_
      refine V_icmpN_ge (tgt := 36) C dX4_addHandlers_7 (by omega) (by omega) (by decide) (fun h7 => ?_) (fun h7 => ?_)
      · skip
        refine V_vret C E dX4_addHandlers_36 ?_
        have hp : h = gN M0 10 c 9 := by omega
        subst hp
        exact ⟨rfl, hI⟩
      · skip
        have hav : gN Z 17 c h = gN M0 17 c h := i1.1 17 c h (by omega)
        refine V_aload_n C dX4_addHandlers_10 rfl rfl ?_
        refine gf_X4_24 C (by omega) dX4_addHandlers_11 ?_
        refine V_iload_n C dX4_addHandlers_14 rfl rfl ?_
        refine V_aload_n C dX4_addHandlers_15 rfl rfl ?_
        refine V_aload_n C dX4_addHandlers_16 rfl rfl ?_
        refine gf_X4_21 C (by omega) dX4_addHandlers_17 ?_
        refine V_aload_n C dX4_addHandlers_20 rfl rfl ?_
        refine V_iload_n C dX4_addHandlers_21 rfl rfl ?_
        refine V_callV C [_] (ct_X0_handlerPlace hc hcx (by omega)) cv_X0_handlerPlace lk_X4_82 (in_10 (by omega)) rfl rfl ⟨Nat.le_of_ble_eq_true rfl, Nat.le_of_ble_eq_true rfl⟩ rfl rfl (Nat.le_of_ble_eq_true rfl) dX4_addHandlers_22 (fun r M' hr => ?_)
        obtain ⟨rfl, rfl⟩ := hr
        rw [hav, hsz]
        refine ld_23 C (by omega) (by omega) dX4_addHandlers_25 ?_
        rw [i5 _ (by omega)]
        refine V_callV C [_] (ct_X4_addLead hc (by omega)) cv_X4_addLead lk_X4_76 (in_19 (by omega)) rfl rfl ⟨Nat.le_of_ble_eq_true rfl, Nat.le_of_ble_eq_true rfl⟩ rfl rfl (Nat.le_of_ble_eq_true rfl) dX4_addHandlers_26 (fun r M' hr => ?_)
        obtain ⟨rfl, rfl⟩ := hr
        refine st_24 C (by omega) (by omega) dX4_addHandlers_29 ?_
        refine V_iincN (lv' := [(2, _), (0, _), (1, _)]) C dX4_addHandlers_30 rfl (b := 1) (by decide) (by decide) rfl ?_
        refine V_goto (tgt := 2) C dX4_addHandlers_33 (by decide) ?_
        refine V_lv [0, 1, 2] rfl ?_
        exact ih _ _ (by omega) (by omega) hI.hand
  refine V_lv [0, 1, 2] rfl ?_
  exact LP2 _ 0 M (Nat.lt_succ_self _) (Nat.zero_le _) hE

set_option maxRecDepth 20000 in
set_option maxHeartbeats 4000000 in
theorem ct_X4_build {l : Launch} {G : Gm} {M : Mem} {c : Nat} (hc : c < 6) (hi : CI M c) : Ct l G rX yX4_build (.code yX4_build cX4_build 2 none :: GW) rmX4_build [.ref (ad G 19 c), .ref (ad G 10 c)] M (fun r M' => none = r ∧ Sm M M' c ∧ MkOK M' c) := by
  have hs := hi.1
  have hh4 := hi.2.1
  have htl := tot_le (gN M 11 c) (gJ M 14 c) hs hh4
  refine Ct_of (cc := cX4_build) (by decide) [(0, _), (1, _)] rfl (Nat.le_of_ble_eq_true rfl) (fun pp ee ss mm aa bb mt cd C E => ?_)
  refine V_aload_n C dX4_build_0 rfl rfl ?_
  refine V_iconst C (nI 0) dX4_build_1 (by decide) ?_
  refine pf_X4_27 C (by omega) dX4_build_2 ?_
  refine V_aload_n C dX4_build_5 rfl rfl ?_
  refine V_iconst C (nI 0) dX4_build_6 (by decide) ?_
  refine pf_X4_31 C (by omega) dX4_build_7 ?_
  refine V_aload_n C dX4_build_10 rfl rfl ?_
  refine V_aload_n C dX4_build_11 rfl rfl ?_
  refine V_callV C [] (ct_X0_entriesNeeded hc (by first | assumption | (simp only [CI_sN, CI_sI, CI_sJ, true_or, or_true, Nat.reduceLT]; assumption))) cv_X0_entriesNeeded lk_X4_38 (in_10 (by omega)) rfl rfl ⟨Nat.le_of_ble_eq_true rfl, Nat.le_of_ble_eq_true rfl⟩ rfl rfl (Nat.le_of_ble_eq_true rfl) dX4_build_12 (fun r M' hr => ?_)
  obtain ⟨rfl, rfl⟩ := hr
  rw [gN_fn (by decide), gN_fn (by decide), gN_fn (by decide), gN_fn (by decide), show gJ (sN (sN M 19 c 5 0) 19 c 6 0) 14 c = gJ M 14 c from rfl]
  refine V_bipush C (nI 70) dX4_build_15 (by decide) ?_
  refine V_icmpN_le (tgt := 24) C dX4_build_17 (by omega) (by omega) (by decide) (fun h17 => ?_) (fun h17 => ?_)
  · skip
    refine V_iconst C (nI 0) dX4_build_24 (by decide) ?_
    refine pf_X4_34 C (by omega) (by decide) dX4_build_25 ?_
    refine V_aload_n C dX4_build_28 rfl rfl ?_
    refine gf_X4_34 C (by omega) dX4_build_29 ?_
    simp only [gNN, true_and, and_true, if_true, Nat.reduceEqDiff, false_and, and_false, if_false]
    refine V_ifN_eq (tgt := 36) C dX4_build_32 (by omega) (by decide) (fun h32 => ?_) (fun h32 => absurd rfl h32)
    have hS3 : Sm M (addE (sN (sN (sN M 19 c 5 0) 19 c 6 0) 19 c 7 0) c 1 0 (-1)) c := (Sm_sN (by omega)).tr ((Sm_sN (by omega)).tr ((Sm_sN (by omega)).tr Sm_add))
    have hi3 := CI_Sm hS3 hi
    have e11 := hS3.fN (show 11 < 19 by decide) c
    have e10 := hS3.fN (show 10 < 19 by decide) c
    have ht3 : tot (gN (addE (sN (sN (sN M 19 c 5 0) 19 c 6 0) 19 c 7 0) c 1 0 (-1)) 11 c) (gJ (addE (sN (sN (sN M 19 c 5 0) 19 c 6 0) 19 c 7 0) c 1 0 (-1)) 14 c) (gN (addE (sN (sN (sN M 19 c 5 0) 19 c 6 0) 19 c 7 0) c 1 0 (-1)) 10 c 4) (gN (addE (sN (sN (sN M 19 c 5 0) 19 c 6 0) 19 c 7 0) c 1 0 (-1)) 10 c 9) ≤ 70 := by rw [e11, e10, hS3.fJ]; omega
    have hbn := tot_beg (gN M 11 c) (gJ M 14 c) (gN M 10 c 4) (gN M 10 c 9)
    refine V_aload_n C dX4_build_36 rfl rfl ?_
    refine V_iconst C (nI 1) dX4_build_37 (by decide) ?_
    refine V_iconst C (nI 0) dX4_build_38 (by decide) ?_
    refine V_iconst C (-1) dX4_build_39 (by decide) ?_
    refine V_callV C [_, _, _] (ct_X4_add hc (by omega) (by simp [gNN])) cv_X4_add lk_X4_44 (in_19 (by omega)) rfl rfl ⟨Nat.le_of_ble_eq_true rfl, Nat.le_of_ble_eq_true rfl⟩ rfl rfl (Nat.le_of_ble_eq_true rfl) dX4_build_40 (fun r M' hr => ?_)
    obtain ⟨rfl, rfl⟩ := hr
    refine V_aload_n C dX4_build_43 rfl rfl ?_
    refine V_aload_n C dX4_build_44 rfl rfl ?_
    refine V_callV C [_] (ct_X4_addPlaces hc hi3 (by rw [addE_sz]; simp [gNN]) (by rw [e11, e10]; omega)) cv_X4_addPlaces lk_X4_48 (in_19 (by omega)) rfl rfl ⟨Nat.le_of_ble_eq_true rfl, Nat.le_of_ble_eq_true rfl⟩ rfl rfl (Nat.le_of_ble_eq_true rfl) dX4_build_45 (fun r M' hr => ?_)
    obtain ⟨rfl, X, hX, rfl⟩ := hr
    have hE := EInv.start (nu := gJ (addE (sN (sN (sN M 19 c 5 0) 19 c 6 0) 19 c 7 0) c 1 0 (-1)) 14 c) (av := gN (addE (sN (sN (sN M 19 c 5 0) 19 c 6 0) 19 c 7 0) c 1 0 (-1)) 17 c) hX
    refine V_aload_n C dX4_build_48 rfl rfl ?_
    refine V_aload_n C dX4_build_49 rfl rfl ?_
    refine V_callV C [_] (ct_X4_addJumps hc hi3 hE ht3) cv_X4_addJumps lk_X4_52 (in_19 (by omega)) rfl rfl ⟨Nat.le_of_ble_eq_true rfl, Nat.le_of_ble_eq_true rfl⟩ rfl rfl (Nat.le_of_ble_eq_true rfl) dX4_build_50 (fun r M' hr => ?_)
    obtain ⟨rfl, hE2⟩ := hr
    refine V_aload_n C dX4_build_53 rfl rfl ?_
    refine V_aload_n C dX4_build_54 rfl rfl ?_
    refine V_callV C [_] (ct_X4_addHandlers hc hi3 hE2 ht3) cv_X4_addHandlers lk_X4_55 (in_19 (by omega)) rfl rfl ⟨Nat.le_of_ble_eq_true rfl, Nat.le_of_ble_eq_true rfl⟩ rfl rfl (Nat.le_of_ble_eq_true rfl) dX4_build_55 (fun r M' hr => ?_)
    obtain ⟨rfl, hE3⟩ := hr
    refine V_vret C E dX4_build_58 ?_
    exact ⟨rfl, hS3.tr hE3.1, hE3.fin ⟨by rw [addE_20]; simp [gNN], by rw [addE_21]; simp [gNN], by rw [addE_22]; simp [gNN]⟩ (by rw [addE_mk]; simp [gNN]) (by rw [addE_lg]; simp [gNN]) ht3⟩
  · skip
    refine V_iconst C (nI 1) dX4_build_20 (by decide) ?_
    refine V_goto (tgt := 25) C dX4_build_21 (by decide) ?_
    refine pf_X4_34 C (by omega) (by decide) dX4_build_25 ?_
    refine V_aload_n C dX4_build_28 rfl rfl ?_
    refine gf_X4_34 C (by omega) dX4_build_29 ?_
    simp only [gNN, true_and, and_true, if_true, Nat.reduceEqDiff, false_and, and_false, if_false]
    refine V_ifN_eq (tgt := 36) C dX4_build_32 (by omega) (by decide) (fun h32 => absurd h32 (by decide)) (fun h32 => ?_)
    refine V_vret C E dX4_build_35 ?_
    refine ⟨rfl, (Sm_sN (by omega)).tr ((Sm_sN (by omega)).tr (Sm_sN (by omega))), ?_⟩
    refine Or.inl ⟨?_, by simp [gNN]⟩
    rw [gN_fn (by decide), gN_fn (by decide), gN_fn (by decide), gN_fn (by decide), gN_fn (by decide), gN_fn (by decide)]
    exact Nat.lt_of_not_le h17
