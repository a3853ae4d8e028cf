theorem nI_m1 {h : Nat} (hh : h < 2 ^ 31) : ¬ nI h = -1 := by
  intro q
  have h2 := congrArg Int32.toInt q
  rw [nI_toInt hh] at h2
  have h3 : (-1 : Int32).toInt = -1 := by decide
  omega
theorem fb_Sc {M : Mem} {f c : Nat} {x : Int64} : Sc M (fbegin M f c x) := by
  unfold fbegin
  exact (Sc_N (by omega)).tr ((Sc_J (by omega)).tr ((Sc_J (by omega)).tr ((Sc_J (by omega)).tr ((Sc_J (by omega)).tr ((Sc_J (by omega)).tr ((Sc_N (by omega)).tr ((Sc_N (by omega)).tr ((Sc_N (by omega)).tr ((Sc_I (by omega)).tr ((Sc_N (by omega)).tr ((Sc_N (by omega)).tr ((Sc_N (by omega)).tr ((Sc_N (by omega)).tr ((Sc_N (by omega)).tr (Sc_I (by omega))))))))))))))))
theorem fb_N {M : Mem} {f c : Nat} {x : Int64} (k i j : Nat) (h : k ≠ 30 ∧ k ≠ 32 ∧ k ≠ 33) : gN (fbegin M f c x) k i j = gN M k i j := by
  unfold fbegin
  simp only [gNN, gNI, gNJ, h.1, h.2.1, h.2.2, false_and, if_false]
theorem fb_Ni {M : Mem} {f c : Nat} {x : Int64} (k i j : Nat) (h : i ≠ f) : gN (fbegin M f c x) k i j = gN M k i j := by
  unfold fbegin
  simp only [gNN, gNI, gNJ, h, false_and, and_false, if_false]
theorem fb_I {M : Mem} {f c : Nat} {x : Int64} (k i j : Nat) (h : k ≠ 30 ∧ k ≠ 33) : gI (fbegin M f c x) k i j = gI M k i j := by
  unfold fbegin
  simp only [gII, gIN, gIJ, h.1, h.2, false_and, if_false]
theorem fb_Ii {M : Mem} {f c : Nat} {x : Int64} (k i j : Nat) (h : i ≠ f) : gI (fbegin M f c x) k i j = gI M k i j := by
  unfold fbegin
  simp only [gII, gIN, gIJ, h, false_and, and_false, if_false]
theorem fb_J {M : Mem} {f c : Nat} {x : Int64} (k i j : Nat) (h : k ≠ 31) : gJ (fbegin M f c x) k i j = gJ M k i j := by
  unfold fbegin
  simp only [gJJ, gJN, gJI, h, false_and, if_false]
theorem fb_Ji {M : Mem} {f c : Nat} {x : Int64} (k i j : Nat) (h : i ≠ f) : gJ (fbegin M f c x) k i j = gJ M k i j := by
  unfold fbegin
  simp only [gJJ, gJN, gJI, h, false_and, and_false, if_false]
theorem fb_c {M : Mem} {f c : Nat} {x : Int64} : gN (fbegin M f c x) 30 f 3 = c := by
  unfold fbegin
  simp [gNN, gNI, gNJ]
theorem fb_Fr {M : Mem} {f c : Nat} {x : Int64} (hc6 : c < 6) (hi : CI M c) (hm : MkOK M c) (ht : ¬ 70 < totV M c) : FrOK (fbegin M f c x) f c := ⟨fb_c, hc6, CI_Sc fb_Sc hi, MkOK_Sc fb_Sc hm, by rw [totV_Sc fb_Sc]; omega⟩
def GiveP (M : Mem) (f : Nat) (v : Int64) (M' : Mem) : Prop := (gN M 2 0 3 = 1 ∧ sI (sJ (endF M f) 7 0 9 v) 2 0 6 (nI 0) = M') ∨ (∃ g, gN M 2 0 3 = g + 2 ∧ sJ (endF M f) 31 g (gN M 12 (gN M 30 g 3) (gN M 30 g 4)) v = M')
def HandP (pk : Nat) (M : Mem) (f c h k : Nat) (M' : Mem) : Prop := (gN M 7 0 5 = 30 ∧ stp M = M') ∨ (gN M 7 0 5 < 30 ∧ ∃ r X, EnterP pk M f c (min (gN M 17 c h) (gN M 10 c 4)) r X ∧ ((some (.int (nI 1)) = r ∧ sI (sN (sN X 7 0 5 (gN M 7 0 5 + 1)) 30 f 7 k) 30 f 8 (gI M 2 0 5) = M') ∨ (some (.int (nI 0)) = r ∧ stp X = M')))
def selP (M : Mem) (c pl kd h : Nat) : Prop := gN M 15 c h ≤ pl ∧ pl < gN M 16 c h ∧ ¬ ((gI M 18 c h >>> (nI kd &&& 31)) &&& nI 1) = 0
def RaiseP (pk k : Nat) : Nat → Mem → Mem → Prop
  | 0, M, M' => sI (sI (sN M 7 0 2 k) 7 0 3 (gI M 2 0 5)) 2 0 6 (nI 2) = M'
  | d + 1, M, M' => (∃ h, h < gN M 10 (gN M 30 d 3) 9 ∧ selP M (gN M 30 d 3) (gN M 30 d 4) k h ∧ (∀ h', h' < h → ¬ selP M (gN M 30 d 3) (gN M 30 d 4) k h') ∧ HandP pk M d (gN M 30 d 3) h k M') ∨ ((∀ h, h < gN M 10 (gN M 30 d 3) 9 → ¬ selP M (gN M 30 d 3) (gN M 30 d 4) k h) ∧ RaiseP pk k d (endF M d) M')
theorem endF_Sc {M : Mem} {f : Nat} : Sc M (endF M f) := (Sc_I (by omega)).tr (Sc_N (by omega))
theorem endF_30 {M : Mem} {f : Nat} (k i j : Nat) (h : k ≠ 2) : gN (endF M f) k i j = gN M k i j := by
  unfold endF; rw [gNN, if_neg (fun q => h q.1), gNI]
theorem endF_d {M : Mem} {f : Nat} : gN (endF M f) 2 0 3 = gN M 2 0 3 - 1 := by
  unfold endF; rw [gNN, if_pos ⟨rfl, rfl, rfl⟩]
set_option maxRecDepth 20000 in
set_option maxHeartbeats 4000000 in
theorem ct_X2_beginFrame {l : Launch} {G : Gm} {M : Mem} {pk : Nat} (hpk : pk = 3 ∨ pk = 4) {c : Nat} {x : Int64} (hc6 : c < 6) (hi : CI M c) (hm : MkOK M c) (hd : gN M 2 0 3 ≤ 12) (h4 : gN M 7 0 4 ≤ 12) (h1 : gN M 7 0 1 ≤ gN M 7 0 0) (h2 : gN M 7 0 0 ≤ 200)  : Ct l G rX yX2_beginFrame (.code yX2_beginFrame cX2_beginFrame 6 none :: GW) rmX2_beginFrame [.ref (ad G 2 0), .ref (ad G 10 c), .long x, .ref (ad G pk 0)] M (fun r M' => none = r ∧ BegP pk M c x M') := by
  have hlg := hm.lg
  refine Ct_of (cc := cX2_beginFrame) (by decide) [(0, _), (1, _), (2, _), (4, _)] rfl (Nat.le_of_ble_eq_true rfl) (fun pp ee ss mm aa bb mt cd C E => ?_)
  refine V_aload_n C dX2_beginFrame_0 rfl rfl ?_
  refine V_ifnullR C dX2_beginFrame_1 ?_
  refine V_aload_n C dX2_beginFrame_4 rfl rfl ?_
  refine gf_X2_56 C (by omega) dX2_beginFrame_5 ?_
  refine gf_X2_62 C (by omega) dX2_beginFrame_8 ?_
  refine V_ifN_ne (tgt := 23) C dX2_beginFrame_11 (by omega) (by decide) (fun h11 => ?_) (fun h11 => ?_)
  · skip
    refine V_aload_n C dX2_beginFrame_23 rfl rfl ?_
    refine V_callV C [] (ct_X2_stop) cv_X2_stop lk_X2_90 in_2 rfl rfl ⟨Nat.le_of_ble_eq_true rfl, Nat.le_of_ble_eq_true rfl⟩ rfl rfl (Nat.le_of_ble_eq_true rfl) dX2_beginFrame_24 (fun r M' hr => ?_)
    obtain ⟨rfl, rfl⟩ := hr
    refine V_vret C E dX2_beginFrame_27 ?_
    first | exact ⟨rfl, Or.inl ⟨Or.inl (hm.big (by omega)), rfl⟩⟩ | exact ⟨rfl, Or.inl ⟨Or.inr (by omega), rfl⟩⟩
  · skip
    refine V_aload_n C dX2_beginFrame_14 rfl rfl ?_
    refine gf_X2_24 C dX2_beginFrame_15 ?_
    refine V_bipush C (nI 12) dX2_beginFrame_18 (by decide) ?_
    refine V_icmpN_lt (tgt := 28) C dX2_beginFrame_20 (by omega) (by omega) (by decide) (fun h20 => ?_) (fun h20 => ?_)
    · skip
      have hsm := (hm.small (by omega)).1
      have hFb := fb_Fr (f := gN M 2 0 3) (x := x) hc6 hi hm hsm
      refine V_aload_n C dX2_beginFrame_28 rfl rfl ?_
      refine gf_X2_11 C dX2_beginFrame_29 ?_
      refine V_aload_n C dX2_beginFrame_32 rfl rfl ?_
      refine gf_X2_24 C dX2_beginFrame_33 ?_
      refine ld_6 C (by omega) dX2_beginFrame_36 ?_
      refine V_astore (lv' := [(5, _), (0, _), (1, _), (2, _), (4, _)]) C dX2_beginFrame_37 (by decide) rfl ?_
      refine V_aload C dX2_beginFrame_39 rfl ?_
      refine V_aload_n C dX2_beginFrame_41 rfl rfl ?_
      refine V_lload_n C dX2_beginFrame_42 rfl rfl ?_
      refine V_callV C [_, _] (ct_X1_begin (by omega) hc6) cv_X1_begin lk_X2_103 (in_30 (by omega)) rfl rfl ⟨Nat.le_of_ble_eq_true rfl, Nat.le_of_ble_eq_true rfl⟩ rfl rfl (Nat.le_of_ble_eq_true rfl) dX2_beginFrame_43 (fun r M' hr => ?_)
      obtain ⟨rfl, rfl⟩ := hr
      refine V_aload C dX2_beginFrame_46 rfl ?_
      refine V_aload C dX2_beginFrame_48 rfl ?_
      refine V_aload_n C dX2_beginFrame_50 rfl rfl ?_
      refine gf_X2_20 C dX2_beginFrame_51 ?_
      refine VP_enter (post := fun r M' => EnterP pk (fbegin M (gN M 2 0 3) c x) (gN M 2 0 3) c 0 r M') C hpk [_, _] (fun hq => by subst hq; exact ct_X3_enter (by omega) hFb (by rw [fb_N 7 0 1 (by omega), fb_N 7 0 0 (by omega)]; exact h1) (by rw [fb_N 7 0 0 (by omega)]; exact h2)) (fun hq => by subst hq; exact ct_X7_enter (by omega) hFb (by rw [fb_N 7 0 1 (by omega), fb_N 7 0 0 (by omega)]; exact h1) (by rw [fb_N 7 0 0 (by omega)]; exact h2)) lk_X2_107 ⟨Nat.le_of_ble_eq_true rfl, Nat.le_of_ble_eq_true rfl⟩ ⟨Nat.le_of_ble_eq_true rfl, Nat.le_of_ble_eq_true rfl⟩ rfl rfl (Nat.le_of_ble_eq_true rfl) dX2_beginFrame_54 (fun r M' hr => ?_)
      obtain ⟨hFx, ⟨hlt, rfl, hst, hps⟩ | ⟨hlt, rfl, hst⟩⟩ := hr
      · skip
        have hEP : EnterP pk (fbegin M (gN M 2 0 3) c x) (gN M 2 0 3) c 0 (some (.int (nI 1))) M' := ⟨hFx, Or.inl ⟨hlt, rfl, hst, hps⟩⟩
        have hdX : gN M' 2 0 3 = gN M 2 0 3 := (hFx.1 2 0 3 (by omega) (by omega)).trans (fb_N 2 0 3 (by omega))
        have hmX : gN M' 7 0 4 = gN M 7 0 4 := (hFx.1 7 0 4 (by omega) (by omega)).trans (fb_N 7 0 4 (by omega))
        refine V_ifN_ne (tgt := 67) C dX2_beginFrame_59 (by omega) (by decide) (fun h59 => ?_) (fun h59 => absurd h59 (by decide))
        refine V_aload_n C dX2_beginFrame_67 rfl rfl ?_
        refine V_dup C dX2_beginFrame_68 rfl ?_
        refine gf_X2_24 C dX2_beginFrame_69 ?_
        rw [hdX]
        refine V_iconst C (nI 1) dX2_beginFrame_72 (by decide) ?_
        refine V_iaddN C dX2_beginFrame_73 ?_
        refine pf_X2_24 C dX2_beginFrame_74 ?_
        refine V_aload_n C dX2_beginFrame_77 rfl rfl ?_
        refine gf_X2_20 C dX2_beginFrame_78 ?_
        refine V_aload_n C dX2_beginFrame_81 rfl rfl ?_
        refine gf_X2_20 C dX2_beginFrame_82 ?_
        refine gf_X2_110 C dX2_beginFrame_85 ?_
        rw [show gN (sN M' 2 0 3 (gN M 2 0 3 + 1)) 7 0 4 = gN M 7 0 4 by rw [gNN, if_neg (by omega), hmX]]
        refine V_aload_n C dX2_beginFrame_88 rfl rfl ?_
        refine gf_X2_24 C dX2_beginFrame_89 ?_
        rw [show gN (sN M' 2 0 3 (gN M 2 0 3 + 1)) 2 0 3 = gN M 2 0 3 + 1 by simp [gNN]]
        refine V_mmax C lk_X2_113 ms_max mi_Math mc_max (by decide) (Nat.le_of_ble_eq_true rfl) dX2_beginFrame_92 ?_
        rw [max_nI (by omega) (by omega)]
        refine pf_X2_110 C dX2_beginFrame_95 ?_
        refine V_vret C E dX2_beginFrame_98 ?_
        first | exact ⟨rfl, Or.inr ⟨hsm, by omega, _, _, hEP, Or.inl ⟨rfl, rfl⟩⟩⟩ | (exfalso; omega)
      · skip
        have hEP : EnterP pk (fbegin M (gN M 2 0 3) c x) (gN M 2 0 3) c 0 (some (.int (nI 0))) M' := ⟨hFx, Or.inr ⟨hlt, rfl, hst⟩⟩
        refine V_ifN_ne (tgt := 67) C dX2_beginFrame_59 (by omega) (by decide) (fun h59 => absurd rfl h59) (fun h59 => ?_)
        refine V_aload_n C dX2_beginFrame_62 rfl rfl ?_
        refine V_callV C [] (ct_X2_stop) cv_X2_stop lk_X2_90 in_2 rfl rfl ⟨Nat.le_of_ble_eq_true rfl, Nat.le_of_ble_eq_true rfl⟩ rfl rfl (Nat.le_of_ble_eq_true rfl) dX2_beginFrame_63 (fun r M' hr => ?_)
        obtain ⟨rfl, rfl⟩ := hr
        refine V_vret C E dX2_beginFrame_66 ?_
        first | exact ⟨rfl, Or.inr ⟨hsm, by omega, _, _, hEP, Or.inr ⟨rfl, rfl⟩⟩⟩ | (exfalso; omega)
    · skip
      refine V_aload_n C dX2_beginFrame_23 rfl rfl ?_
      refine V_callV C [] (ct_X2_stop) cv_X2_stop lk_X2_90 in_2 rfl rfl ⟨Nat.le_of_ble_eq_true rfl, Nat.le_of_ble_eq_true rfl⟩ rfl rfl (Nat.le_of_ble_eq_true rfl) dX2_beginFrame_24 (fun r M' hr => ?_)
      obtain ⟨rfl, rfl⟩ := hr
      refine V_vret C E dX2_beginFrame_27 ?_
      first | exact ⟨rfl, Or.inl ⟨Or.inl (hm.big (by omega)), rfl⟩⟩ | exact ⟨rfl, Or.inl ⟨Or.inr (by omega), rfl⟩⟩

set_option maxRecDepth 20000 in
set_option maxHeartbeats 4000000 in
theorem ct_X2_beginFrameN {l : Launch} {G : Gm} {M : Mem} {pk : Nat} (hpk : pk = 3 ∨ pk = 4) {x : Int64} : Ct l G rX yX2_beginFrame (.code yX2_beginFrame cX2_beginFrame 6 none :: GW) rmX2_beginFrame [.ref (ad G 2 0), .null, .long x, .ref (ad G pk 0)] M (fun r M' => none = r ∧ stp M = M') := by
  refine Ct_of (cc := cX2_beginFrame) (by decide) [(0, _), (1, _), (2, _), (4, _)] rfl (Nat.le_of_ble_eq_true rfl) (fun pp ee ss mm aa bb mt cd C E => ?_)
  refine V_aload_nN C dX2_beginFrame_0 rfl rfl ?_
  refine V_ifnullN (tgt := 23) C dX2_beginFrame_1 (by decide) ?_
  refine V_aload_n C dX2_beginFrame_23 rfl rfl ?_
  refine V_callV C [] (ct_X2_stop) cv_X2_stop lk_X2_90 in_2 rfl rfl ⟨Nat.le_of_ble_eq_true rfl, Nat.le_of_ble_eq_true rfl⟩ rfl rfl (Nat.le_of_ble_eq_true rfl) dX2_beginFrame_24 (fun r M' hr => ?_)
  obtain ⟨rfl, rfl⟩ := hr
  refine V_vret C E dX2_beginFrame_27 ?_
  exact ⟨rfl, rfl⟩

set_option maxRecDepth 20000 in
set_option maxHeartbeats 4000000 in
theorem ct_X2_leap {l : Launch} {G : Gm} {M : Mem} {pk : Nat} (hpk : pk = 3 ∨ pk = 4) {f c p : Nat} (hf : f < 12) (hF : FrOK M f c) (hA : At pk M f c p) (hp2 : p < gN M 10 c 4) (hj : gN M 11 c p = 6 ∨ gN M 11 c p = 7) (h1 : gN M 7 0 1 ≤ gN M 7 0 0) (h2 : gN M 7 0 0 ≤ 200)  : Ct l G rX yX2_leap (.code yX2_leap cX2_leap 3 none :: GW) rmX2_leap [.ref (ad G 2 0), .ref (ad G 30 f), .ref (ad G pk 0)] M (fun r M' => none = r ∧ LeapP pk M f c p M') := by
  refine Ct_of (cc := cX2_leap) (by decide) [(0, _), (1, _), (2, _)] rfl (Nat.le_of_ble_eq_true rfl) (fun pp ee ss mm aa bb mt cd C E => ?_)
  refine V_aload_n C dX2_leap_0 rfl rfl ?_
  refine V_aload_n C dX2_leap_1 rfl rfl ?_
  refine V_aload_n C dX2_leap_2 rfl rfl ?_
  refine gf_X2_20 C dX2_leap_3 ?_
  refine VP_jump (post := fun r M' => JumpP pk M f c p r M') C hpk [_, _] (fun hq => by subst hq; exact ct_X3_jump hf hF hA hp2 hj h1 h2) (fun hq => by subst hq; exact ct_X7_jump hf hF hA.2.1 hp2 hj h1 h2) lk_X2_188 ⟨Nat.le_of_ble_eq_true rfl, Nat.le_of_ble_eq_true rfl⟩ ⟨Nat.le_of_ble_eq_true rfl, Nat.le_of_ble_eq_true rfl⟩ rfl rfl (Nat.le_of_ble_eq_true rfl) dX2_leap_6 (fun r M' hr => ?_)
  rcases (show some (.int (nI 1)) = r ∨ some (.int (nI 0)) = r by rcases hr.2 with q | q | q | q <;> first | exact Or.inl q.1 | exact Or.inr q.1) with rfl | rfl
  · skip
    refine V_ifN_ne (tgt := 18) C dX2_leap_11 (by omega) (by decide) (fun h11 => ?_) (fun h11 => absurd h11 (by decide))
    refine V_vret C E dX2_leap_18 ?_
    first | exact ⟨rfl, _, _, hr, Or.inl ⟨rfl, rfl⟩⟩ | exact ⟨rfl, _, _, hr, Or.inr ⟨rfl, rfl⟩⟩ | (exfalso; omega)
  · skip
    refine V_ifN_ne (tgt := 18) C dX2_leap_11 (by omega) (by decide) (fun h11 => absurd rfl h11) (fun h11 => ?_)
    refine V_aload_n C dX2_leap_14 rfl rfl ?_
    refine V_callV C [] (ct_X2_stop) cv_X2_stop lk_X2_90 in_2 rfl rfl ⟨Nat.le_of_ble_eq_true rfl, Nat.le_of_ble_eq_true rfl⟩ rfl rfl (Nat.le_of_ble_eq_true rfl) dX2_leap_15 (fun r M' hr => ?_)
    obtain ⟨rfl, rfl⟩ := hr
    refine V_vret C E dX2_leap_18 ?_
    first | exact ⟨rfl, _, _, hr, Or.inl ⟨rfl, rfl⟩⟩ | exact ⟨rfl, _, _, hr, Or.inr ⟨rfl, rfl⟩⟩ | (exfalso; omega)

set_option maxRecDepth 20000 in
set_option maxHeartbeats 4000000 in
theorem ct_X2_giveBack {l : Launch} {G : Gm} {M : Mem} {f : Nat} {v : Int64} (hf : f < 12) (hd : 1 ≤ gN M 2 0 3) (hd2 : gN M 2 0 3 ≤ 12) (hlo : ∀ g, gN M 2 0 3 = g + 2 → FrOK M g (gN M 30 g 3) ∧ gN M 30 g 4 < gN M 10 (gN M 30 g 3) 4) : Ct l G rX yX2_giveBack (.code yX2_giveBack cX2_giveBack 5 none :: GW) rmX2_giveBack [.ref (ad G 2 0), .ref (ad G 30 f), .long v] M (fun r M' => none = r ∧ GiveP M f v M') := by
  refine Ct_of (cc := cX2_giveBack) (by decide) [(0, _), (1, _), (2, _)] rfl (Nat.le_of_ble_eq_true rfl) (fun pp ee ss mm aa bb mt cd C E => ?_)
  refine V_aload_n C dX2_giveBack_0 rfl rfl ?_
  refine V_aload_n C dX2_giveBack_1 rfl rfl ?_
  refine V_callV C [_] (ct_X2_endFrame hf hd) cv_X2_endFrame lk_X2_225 in_2 rfl rfl ⟨Nat.le_of_ble_eq_true rfl, Nat.le_of_ble_eq_true rfl⟩ rfl rfl (Nat.le_of_ble_eq_true rfl) dX2_giveBack_2 (fun r M' hr => ?_)
  obtain ⟨rfl, rfl⟩ := hr
  refine V_aload_n C dX2_giveBack_5 rfl rfl ?_
  refine V_callV C [] (ct_X2_top (by rw [endF_d]; omega)) cv_X2_top lk_X2_76 in_2 rfl rfl ⟨Nat.le_of_ble_eq_true rfl, Nat.le_of_ble_eq_true rfl⟩ rfl rfl (Nat.le_of_ble_eq_true rfl) dX2_giveBack_6 (fun r M' hr => ?_)
  rcases hr with ⟨g, hg, hdg, rfl, rfl⟩ | ⟨hd0, rfl, rfl⟩
  · skip
    rw [endF_d] at hdg
    obtain ⟨hFg, hpg⟩ := hlo g (by omega)
    have hFe := FrOK_Sc (endF_Sc (f := f)) (endF_30 30 g 3 (by omega)) hFg
    have hrg := hFg.2.2.1.2.2.1 (gN M 30 g 4) (by have := hFg.2.2.1.1; omega)
    have hs40 := hFg.2.2.1.1
    have hc6 := hFg.2.1
    refine V_astore (lv' := [(4, _), (0, _), (1, _), (2, _)]) C dX2_giveBack_9 (by decide) rfl ?_
    refine V_aload C dX2_giveBack_11 rfl ?_
    refine V_ifnonnullR (tgt := 32) C dX2_giveBack_13 (by decide) ?_
    refine V_aload C dX2_giveBack_32 rfl ?_
    refine V_aload C dX2_giveBack_34 rfl ?_
    refine gf_X2_122 C (by omega) dX2_giveBack_36 ?_
    rw [endF_30 30 g 3 (by omega)]
    refine V_aload C dX2_giveBack_39 rfl ?_
    refine gf_X2_126 C (by omega) dX2_giveBack_41 ?_
    rw [endF_30 30 g 4 (by omega)]
    refine V_callV C [_] (ct_X0_first hc6 hFe.2.2.1 (by omega)) cv_X0_first lk_X2_133 (in_10 (by omega)) rfl rfl ⟨Nat.le_of_ble_eq_true rfl, Nat.le_of_ble_eq_true rfl⟩ rfl rfl (Nat.le_of_ble_eq_true rfl) dX2_giveBack_44 (fun r M' hr => ?_)
    obtain ⟨rfl, rfl⟩ := hr
    rw [endF_30 10 _ 4 (by omega), if_pos hpg, endF_30 12 _ _ (by omega)]
    refine V_lload_n C dX2_giveBack_47 rfl rfl ?_
    refine V_callV C [_, _] (ct_X1_become hg (by omega)) cv_X1_become lk_X2_139 (in_30 (by omega)) rfl rfl ⟨Nat.le_of_ble_eq_true rfl, Nat.le_of_ble_eq_true rfl⟩ rfl rfl (Nat.le_of_ble_eq_true rfl) dX2_giveBack_48 (fun r M' hr => ?_)
    obtain ⟨rfl, rfl⟩ := hr
    refine V_vret C E dX2_giveBack_51 ?_
    first | exact ⟨rfl, Or.inl ⟨by omega, rfl⟩⟩ | exact ⟨rfl, Or.inr ⟨g, by omega, rfl⟩⟩
  · skip
    rw [endF_d] at hd0
    refine V_astoreN (lv' := [(4, _), (0, _), (1, _), (2, _)]) C dX2_giveBack_9 (by decide) rfl ?_
    refine V_aloadN C dX2_giveBack_11 rfl ?_
    refine V_ifnonnullN C dX2_giveBack_13 ?_
    refine V_aload_n C dX2_giveBack_16 rfl rfl ?_
    refine gf_X2_20 C dX2_giveBack_17 ?_
    refine V_lload_n C dX2_giveBack_20 rfl rfl ?_
    refine pf_X2_229 C dX2_giveBack_21 ?_
    refine V_aload_n C dX2_giveBack_24 rfl rfl ?_
    refine V_iconst C (nI 0) dX2_giveBack_25 (by decide) ?_
    refine pf_X2_34 C dX2_giveBack_26 ?_
    refine V_goto (tgt := 51) C dX2_giveBack_29 (by decide) ?_
    refine V_vret C E dX2_giveBack_51 ?_
    first | exact ⟨rfl, Or.inl ⟨by omega, rfl⟩⟩ | exact ⟨rfl, Or.inr ⟨g, by omega, rfl⟩⟩

set_option maxRecDepth 20000 in
set_option maxHeartbeats 4000000 in
theorem ct_X2_handOver {l : Launch} {G : Gm} {M : Mem} {pk : Nat} (hpk : pk = 3 ∨ pk = 4) {f c h k : Nat} (hf : f < 12) (hF : FrOK M f c) (hh : h < gN M 10 c 9) (ht : gN M 7 0 5 ≤ 30) (h1 : gN M 7 0 1 ≤ gN M 7 0 0) (h2 : gN M 7 0 0 ≤ 200)  : Ct l G rX yX2_handOver (.code yX2_handOver cX2_handOver 5 none :: GW) rmX2_handOver [.ref (ad G 2 0), .ref (ad G 30 f), .int (nI h), .int (nI k), .ref (ad G pk 0)] M (fun r M' => none = r ∧ HandP pk M f c h k M') := by
  refine Ct_of (cc := cX2_handOver) (by decide) [(0, _), (1, _), (2, _), (3, _), (4, _)] rfl (Nat.le_of_ble_eq_true rfl) (fun pp ee ss mm aa bb mt cd C E => ?_)
  refine V_aload_n C dX2_handOver_0 rfl rfl ?_
  refine gf_X2_20 C dX2_handOver_1 ?_
  refine gf_X2_253 C dX2_handOver_4 ?_
  refine V_bipush C (nI 30) dX2_handOver_7 (by decide) ?_
  refine V_icmpN_ge (tgt := 28) C dX2_handOver_9 (by omega) (by omega) (by decide) (fun h9 => ?_) (fun h9 => ?_)
  · skip
    refine V_aload_n C dX2_handOver_28 rfl rfl ?_
    refine V_callV C [] (ct_X2_stop) cv_X2_stop lk_X2_90 in_2 rfl rfl ⟨Nat.le_of_ble_eq_true rfl, Nat.le_of_ble_eq_true rfl⟩ rfl rfl (Nat.le_of_ble_eq_true rfl) dX2_handOver_29 (fun r M' hr => ?_)
    obtain ⟨rfl, rfl⟩ := hr
    refine V_vret C E dX2_handOver_32 ?_
    first | exact ⟨rfl, Or.inl ⟨by omega, rfl⟩⟩ | exact ⟨rfl, Or.inr ⟨by omega, _, _, hEP, Or.inr ⟨rfl, rfl⟩⟩⟩ | (exfalso; omega)
  · skip
    refine V_aload C dX2_handOver_12 rfl ?_
    refine V_aload_n C dX2_handOver_14 rfl rfl ?_
    refine V_iload_n C dX2_handOver_15 rfl rfl ?_
    refine V_aload_n C dX2_handOver_16 rfl rfl ?_
    refine gf_X2_20 C dX2_handOver_17 ?_
    refine VP_take (post := fun r M' => EnterP pk M f c (min (gN M 17 c h) (gN M 10 c 4)) r M') C hpk [_, _, _] (fun hq => by subst hq; exact ct_X3_take hf hF hh h1 h2) (fun hq => by subst hq; exact ct_X7_take hf hF hh h1 h2) lk_X2_256 ⟨Nat.le_of_ble_eq_true rfl, Nat.le_of_ble_eq_true rfl⟩ ⟨Nat.le_of_ble_eq_true rfl, Nat.le_of_ble_eq_true rfl⟩ rfl rfl (Nat.le_of_ble_eq_true rfl) dX2_handOver_20 (fun r M' hr => ?_)
    obtain ⟨hFx, ⟨hlt, rfl, hst, hps⟩ | ⟨hlt, rfl, hst⟩⟩ := hr
    · skip
      have hEP : EnterP pk M f c (min (gN M 17 c h) (gN M 10 c 4)) (some (.int (nI 1))) M' := ⟨hFx, Or.inl ⟨hlt, rfl, hst, hps⟩⟩
      have htX : gN M' 7 0 5 = gN M 7 0 5 := hFx.1 7 0 5 (by omega) (by omega)
      have hnX : gI M' 2 0 5 = gI M 2 0 5 := by rw [hFx.2.1]
      refine V_ifN_ne (tgt := 33) C dX2_handOver_25 (by omega) (by decide) (fun h25 => ?_) (fun h25 => absurd h25 (by decide))
      refine V_aload_n C dX2_handOver_33 rfl rfl ?_
      refine gf_X2_20 C dX2_handOver_34 ?_
      refine V_dup C dX2_handOver_37 rfl ?_
      refine gf_X2_253 C dX2_handOver_38 ?_
      rw [htX]
      refine V_iconst C (nI 1) dX2_handOver_41 (by decide) ?_
      refine V_iaddN C dX2_handOver_42 ?_
      refine pf_X2_253 C dX2_handOver_43 ?_
      refine V_aload_n C dX2_handOver_46 rfl rfl ?_
      refine V_iload_n C dX2_handOver_47 rfl rfl ?_
      refine pf_X2_172 C (by omega) dX2_handOver_48 ?_
      refine V_aload_n C dX2_handOver_51 rfl rfl ?_
      refine V_aload_n C dX2_handOver_52 rfl rfl ?_
      refine gf_X2_31 C dX2_handOver_53 ?_
      rw [gIN, gIN, hnX]
      refine pf_X2_169 C (by omega) dX2_handOver_56 ?_
      refine V_vret C E dX2_handOver_59 ?_
      first | exact ⟨rfl, Or.inr ⟨by omega, _, _, hEP, Or.inl ⟨rfl, rfl⟩⟩⟩ | (exfalso; omega)
    · skip
      have hEP : EnterP pk M f c (min (gN M 17 c h) (gN M 10 c 4)) (some (.int (nI 0))) M' := ⟨hFx, Or.inr ⟨hlt, rfl, hst⟩⟩
      refine V_ifN_ne (tgt := 33) C dX2_handOver_25 (by omega) (by decide) (fun h25 => absurd rfl h25) (fun h25 => ?_)
      refine V_aload_n C dX2_handOver_28 rfl rfl ?_
      refine V_callV C [] (ct_X2_stop) cv_X2_stop lk_X2_90 in_2 rfl rfl ⟨Nat.le_of_ble_eq_true rfl, Nat.le_of_ble_eq_true rfl⟩ rfl rfl (Nat.le_of_ble_eq_true rfl) dX2_handOver_29 (fun r M' hr => ?_)
      obtain ⟨rfl, rfl⟩ := hr
      refine V_vret C E dX2_handOver_32 ?_
      first | exact ⟨rfl, Or.inl ⟨by omega, rfl⟩⟩ | exact ⟨rfl, Or.inr ⟨by omega, _, _, hEP, Or.inr ⟨rfl, rfl⟩⟩⟩ | (exfalso; omega)

set_option maxRecDepth 20000 in
set_option maxHeartbeats 4000000 in
theorem ct_X2_raise {l : Launch} {G : Gm} {M : Mem} {pk : Nat} (hpk : pk = 3 ∨ pk = 4) {k : Nat} (hd2 : gN M 2 0 3 ≤ 12) (hA : (∀ g, g < gN M 2 0 3 → FrOK M g (gN M 30 g 3) ∧ gN M 30 g 4 ≤ 40)) (ht : gN M 7 0 5 ≤ 30) (h1 : gN M 7 0 1 ≤ gN M 7 0 0) (h2 : gN M 7 0 0 ≤ 200)  : Ct l G rX yX2_raise (.code yX2_raise cX2_raise 6 none :: GW) rmX2_raise [.ref (ad G 2 0), .int (nI k), .ref (ad G pk 0)] M (fun r M' => none = r ∧ RaiseP pk k (gN M 2 0 3) M M') := by
  refine Ct_of (cc := cX2_raise) (by decide) [(0, _), (1, _), (2, _)] rfl (Nat.le_of_ble_eq_true rfl) (fun pp ee ss mm aa bb mt cd C E => ?_)
  refine V_iconst C (nI 0) dX2_raise_0 (by decide) ?_
  refine V_istore_n (lv' := [(3, _), (0, _), (1, _), (2, _)]) C dX2_raise_1 rfl (by decide) rfl ?_
  have LP2 : ∀ (fu : Nat) (i : Nat) (X : Mem), 12 - i < fu → i + gN X 2 0 3 ≤ 12 → (∀ g, g < gN X 2 0 3 → FrOK X g (gN X 30 g 3) ∧ gN X 30 g 4 ≤ 40) → gN X 7 0 5 ≤ 30 → gN X 7 0 1 ≤ gN X 7 0 0 → gN X 7 0 0 ≤ 200 → (∀ M', RaiseP pk k (gN X 2 0 3) X M' → RaiseP pk k (gN M 2 0 3) M M') → V pp l ee rmX2_raise ss mm aa bb mt cd G rX 6 (MQ bb (QcG G rX (fun r M' => none = r ∧ RaiseP pk k (gN M 2 0 3) M M') (AA G rX ss.heap.size)) aa ss 0 0 (AA G rX ss.heap.size)) X 2 [(3, .int (nI i)), (0, .ref (ad G 2 0)), (1, .int (nI k)), (2, .ref (ad G pk 0))] [] := by
    intro fu
    induction fu with
    | zero => intros; omega
    | succ fu ih =>
      intro i X hfu hle hAX htX b1 b2 hK
      refine V_iload_n C dX2_raise_2 rfl rfl ?_
      refine V_bipush C (nI 12) dX2_raise_3 (by decide) ?_
      refine V_icmpN_ge (tgt := 67) C dX2_raise_5 (by omega) (by omega) (by decide) (fun h5 => ?_) (fun h5 => ?_)
      · skip
        have hd0 : gN X 2 0 3 = 0 := by omega
        refine V_aload_n C dX2_raise_67 rfl rfl ?_
        refine gf_X2_20 C dX2_raise_68 ?_
        refine V_iload_n C dX2_raise_71 rfl rfl ?_
        refine pf_X2_247 C dX2_raise_72 ?_
        refine V_aload_n C dX2_raise_75 rfl rfl ?_
        refine gf_X2_20 C dX2_raise_76 ?_
        refine V_aload_n C dX2_raise_79 rfl rfl ?_
        refine gf_X2_31 C dX2_raise_80 ?_
        refine pf_X2_250 C dX2_raise_83 ?_
        refine V_aload_n C dX2_raise_86 rfl rfl ?_
        refine V_iconst C (nI 2) dX2_raise_87 (by decide) ?_
        refine pf_X2_34 C dX2_raise_88 ?_
        refine V_vret C E dX2_raise_91 ?_
        refine ⟨rfl, hK _ ?_⟩
        rw [hd0]
        rfl
      · skip
        refine V_aload_n C dX2_raise_8 rfl rfl ?_
        refine V_callV C [] (ct_X2_top (by omega)) cv_X2_top lk_X2_76 in_2 rfl rfl ⟨Nat.le_of_ble_eq_true rfl, Nat.le_of_ble_eq_true rfl⟩ rfl rfl (Nat.le_of_ble_eq_true rfl) dX2_raise_9 (fun r M' hr => ?_)
        rcases hr with ⟨f, hf, hdf, rfl, rfl⟩ | ⟨hd0, rfl, rfl⟩
        · skip
          obtain ⟨hFf, hpf⟩ := hAX f (by omega)
          have hc6 := hFf.2.1
          refine V_astore (lv' := [(4, _), (3, _), (0, _), (1, _), (2, _)]) C dX2_raise_12 (by decide) rfl ?_
          refine V_aload C dX2_raise_14 rfl ?_
          refine V_ifnonnullR (tgt := 22) C dX2_raise_16 (by decide) ?_
          refine V_aload C dX2_raise_22 rfl ?_
          refine gf_X2_122 C (by omega) dX2_raise_24 ?_
          refine V_aload C dX2_raise_27 rfl ?_
          refine gf_X2_126 C (by omega) dX2_raise_29 ?_
          refine V_iload_n C dX2_raise_32 rfl rfl ?_
          refine V_callV C [_, _] (ct_X0_handlerFor hc6 hFf.2.2.1 (by omega)) cv_X0_handlerFor lk_X2_240 (in_10 (by omega)) rfl rfl ⟨Nat.le_of_ble_eq_true rfl, Nat.le_of_ble_eq_true rfl⟩ rfl rfl (Nat.le_of_ble_eq_true rfl) dX2_raise_33 (fun r M' hr => ?_)
          obtain ⟨rfl, ⟨h, hh, hsel, hmin, rfl⟩ | ⟨hno, rfl⟩⟩ := hr
          · skip
            refine V_istore (lv' := [(5, _), (4, _), (3, _), (0, _), (1, _), (2, _)]) C dX2_raise_36 (by decide) rfl ?_
            refine V_iload C dX2_raise_38 rfl ?_
            refine V_iconst C (-1) dX2_raise_40 (by decide) ?_
            refine V_icmp_eq (tgt := 55) C dX2_raise_41 (by decide) (fun h41 => absurd h41 (nI_m1 (by have := hFf.2.2.1.2.1; omega))) (fun h41 => ?_)
            refine V_aload_n C dX2_raise_44 rfl rfl ?_
            refine V_aload C dX2_raise_45 rfl ?_
            refine V_iload C dX2_raise_47 rfl ?_
            refine V_iload_n C dX2_raise_49 rfl rfl ?_
            refine V_aload_n C dX2_raise_50 rfl rfl ?_
            refine V_callV C [_, _, _, _] (ct_X2_handOver hpk hf hFf hh htX b1 b2) cv_X2_handOver lk_X2_243 in_2 rfl rfl ⟨Nat.le_of_ble_eq_true rfl, Nat.le_of_ble_eq_true rfl⟩ rfl rfl (Nat.le_of_ble_eq_true rfl) dX2_raise_51 (fun r M' hr => ?_)
            obtain ⟨rfl, hHd⟩ := hr
            refine V_vret C E dX2_raise_54 ?_
            exact ⟨rfl, hK _ (by rw [hdf]; exact Or.inl ⟨h, hh, hsel, hmin, hHd⟩)⟩
          · skip
            refine V_istore (lv' := [(5, _), (4, _), (3, _), (0, _), (1, _), (2, _)]) C dX2_raise_36 (by decide) rfl ?_
            refine V_iload C dX2_raise_38 rfl ?_
            refine V_iconst C (-1) dX2_raise_40 (by decide) ?_
            refine V_icmp_eq (tgt := 55) C dX2_raise_41 (by decide) (fun h41 => ?_) (fun h41 => absurd rfl h41)
            refine V_aload_n C dX2_raise_55 rfl rfl ?_
            refine V_aload C dX2_raise_56 rfl ?_
            refine V_callV C [_] (ct_X2_endFrame hf (by omega)) cv_X2_endFrame lk_X2_225 in_2 rfl rfl ⟨Nat.le_of_ble_eq_true rfl, Nat.le_of_ble_eq_true rfl⟩ rfl rfl (Nat.le_of_ble_eq_true rfl) dX2_raise_58 (fun r M' hr => ?_)
            obtain ⟨rfl, rfl⟩ := hr
            refine V_iincN (lv' := [(3, _), (5, _), (4, _), (0, _), (1, _), (2, _)]) C dX2_raise_61 rfl (b := 1) (by decide) (by decide) rfl ?_
            refine V_goto (tgt := 2) C dX2_raise_64 (by decide) ?_
            refine V_lv [0, 3, 4, 5] rfl ?_
            exact ih _ _ (by omega) (by rw [endF_d]; omega) (fun g hg => by rw [endF_d] at hg; obtain ⟨q1, q2⟩ := hAX g (by omega); exact ⟨by rw [endF_30 30 g 3 (by omega)]; exact FrOK_Sc endF_Sc (endF_30 30 g 3 (by omega)) q1, by rw [endF_30 30 g 4 (by omega)]; exact q2⟩) (by rw [endF_30 7 0 5 (by omega)]; exact htX) (by rw [endF_30 7 0 1 (by omega), endF_30 7 0 0 (by omega)]; exact b1) (by rw [endF_30 7 0 0 (by omega)]; exact b2) (fun M' hR => hK M' (by rw [hdf]; rw [endF_d, show gN X 2 0 3 - 1 = f by omega] at hR; exact Or.inr ⟨hno, hR⟩))
        · skip
          refine V_astoreN (lv' := [(4, _), (3, _), (0, _), (1, _), (2, _)]) C dX2_raise_12 (by decide) rfl ?_
          refine V_aloadN C dX2_raise_14 rfl ?_
          refine V_ifnonnullN C dX2_raise_16 ?_
          refine V_goto (tgt := 67) C dX2_raise_19 (by decide) ?_
          have hd0 : gN X 2 0 3 = 0 := by omega
          refine V_aload_n C dX2_raise_67 rfl rfl ?_
          refine gf_X2_20 C dX2_raise_68 ?_
          refine V_iload_n C dX2_raise_71 rfl rfl ?_
          refine pf_X2_247 C dX2_raise_72 ?_
          refine V_aload_n C dX2_raise_75 rfl rfl ?_
          refine gf_X2_20 C dX2_raise_76 ?_
          refine V_aload_n C dX2_raise_79 rfl rfl ?_
          refine gf_X2_31 C dX2_raise_80 ?_
          refine pf_X2_250 C dX2_raise_83 ?_
          refine V_aload_n C dX2_raise_86 rfl rfl ?_
          refine V_iconst C (nI 2) dX2_raise_87 (by decide) ?_
          refine pf_X2_34 C dX2_raise_88 ?_
          refine V_vret C E dX2_raise_91 ?_
          refine ⟨rfl, hK _ ?_⟩
          rw [hd0]
          rfl
  refine V_lv [0, 1, 2, 3] rfl ?_
  exact LP2 _ 0 M (Nat.lt_succ_self _) (by omega) hA ht h1 h2 (fun _ h => h)

