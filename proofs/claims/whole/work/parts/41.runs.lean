theorem Out.self {N : Mem} {b : Nat} (h : Out b N) : Out (gN N 40 0 35) N := ⟨h.1, h.2.1, h.2.2.1, h.2.2.2.1, fun q1 q2 => ⟨(h.2.2.2.2 q1 q2).1, rfl⟩⟩
theorem Out.bg {N : Mem} {b : Nat} (h : Out b N) (h1 : gN N 40 0 24 = 0) (h2 : gN N 40 0 25 = 0) : gN N 40 0 35 = b := (h.2.2.2.2 h1 h2).2
theorem RMI.paid {N : Mem} {f : Nat} (h : RMI N (f + 1)) : gN N 51 0 f < 6 ∧ RIm N (gN N 51 0 f) ∧ gN N 52 0 f ≤ gN N 41 0 (gN N 51 0 f) := by
  have hF := h.2.2.2.2.1 f (by omega)
  have h6 := h.1.1
  have hm6 : gN N 51 0 f < 6 := by have := hF.1; omega
  exact ⟨hm6, h.1.2 _ hm6, hF.2.2.1⟩
/-- what a MAKE asks for was paid -/
theorem paid_z {N : Mem} {f : Nat} {x : Int64} (hsc : Sca N) (hok : okC N (cost x)) : x.toInt ≤ 200 ∧ gN N 40 0 22 + x.toInt.toNat ≤ 256 := by
  unfold okC cost at hok
  unfold Sca at hsc
  split at hok <;> omega
set_option maxRecDepth 20000 in
set_option maxHeartbeats 4000000 in
theorem ct_X11_runs {l : Launch} {G : Gm} {M : Mem} {m q : Int32} {x : Int64} (hp : RI M) : Ct l G rM yX11_runs (.code yX11_runs cX11_runs 5 (some .int) :: GW) rmX11_runs [.ref (ad G 40 0), .int m, .long x, .int q] M (fun r M' => (∃ c b, c < gN M 40 0 0 ∧ m = nI c ∧ b ≤ 200 ∧ q = nI b ∧ ((70 < totR M c ∧ some (.int (-4)) = r ∧ M = M') ∨ (¬ 70 < totR M c ∧ RunsP M c b x r M'))) ∨ (¬ (isM (gN M 40 0 0) m ∧ isM 201 q) ∧ some (.int (-2)) = r ∧ M = M')) := by
  have h6 := hp.1
  refine Ct_of (cc := cX11_runs) (by decide) [(0, _), (1, _), (2, _), (4, _)] rfl (Nat.le_of_ble_eq_true rfl) (fun pp ee ss mm aa bb mt cd C E => ?_)
  refine V_aload_n C dX11_runs_0 rfl rfl ?_
  refine V_iload_n C dX11_runs_1 rfl rfl ?_
  refine V_callV C [_] (ct_X11_isMethod (by omega)) cv_X11_isMethod lk_X11_96 in_40 rfl rfl ⟨Nat.le_of_ble_eq_true rfl, Nat.le_of_ble_eq_true rfl⟩ rfl rfl (Nat.le_of_ble_eq_true rfl) dX11_runs_2 (fun r M' hr => ?_)
  obtain ⟨rfl, rfl⟩ := hr
  refine V_ifB_eq (tgt := 21) C dX11_runs_5 (by decide) (fun h5 => ?_) (fun h5 => ?_)
  · skip
    refine V_bipush C (-2) dX11_runs_21 (by decide) ?_
    refine V_iret C E dX11_runs_23 ?_
    first | exact Or.inr ⟨fun z => h5 z.1, rfl, rfl⟩ | exact Or.inr ⟨fun z => h18 ((w0_iff (by decide)).mpr z.2), rfl, rfl⟩
  · skip
    obtain ⟨c, hc, rfl⟩ := isM_of h5 (by omega)
    have hm := hp.2 c (by omega)
    refine V_iload C dX11_runs_8 rfl ?_
    refine V_i2l C dX11_runs_10 ?_
    refine V_lconst C (lN 0) dX11_runs_11 (by decide) ?_
    refine V_ldc2 C kL_X11_183 dX11_runs_12 ?_
    refine V_callS C [_, _, _] (ct_X11_in) cs_X11_in rfl lk_X11_84 ⟨Nat.le_of_ble_eq_true rfl, Nat.le_of_ble_eq_true rfl⟩ rfl rfl (Nat.le_of_ble_eq_true rfl) dX11_runs_15 (fun r M' hr => ?_)
    obtain ⟨rfl, rfl⟩ := hr
    refine V_ifB_ne (tgt := 24) C dX11_runs_18 (by decide) (fun h18 => ?_) (fun h18 => ?_)
    · skip
      obtain ⟨b, hb, rfl⟩ := isM_of ((w0_iff (by decide)).mp h18) (by decide)
      refine V_aload_n C dX11_runs_24 rfl rfl ?_
      refine V_iload_n C dX11_runs_25 rfl rfl ?_
      refine V_callV C [_] (ct_X11_isLarge (by omega) hm) cv_X11_isLarge lk_X11_130 in_40 rfl rfl ⟨Nat.le_of_ble_eq_true rfl, Nat.le_of_ble_eq_true rfl⟩ rfl rfl (Nat.le_of_ble_eq_true rfl) dX11_runs_26 (fun r M' hr => ?_)
      obtain ⟨rfl, rfl⟩ := hr
      refine V_ifB_eq (tgt := 35) C dX11_runs_29 (by decide) (fun h29 => ?_) (fun h29 => ?_)
      · skip
        refine V_aload_n C dX11_runs_35 rfl rfl ?_
        refine V_iload C dX11_runs_36 rfl ?_
        refine pf_X11_137 C dX11_runs_38 ?_
        refine V_aload_n C dX11_runs_41 rfl rfl ?_
        refine V_iconst C (nI 0) dX11_runs_42 (by decide) ?_
        refine pf_X11_147 C dX11_runs_43 ?_
        refine V_aload_n C dX11_runs_46 rfl rfl ?_
        refine V_iconst C (nI 0) dX11_runs_47 (by decide) ?_
        refine pf_X11_185 C dX11_runs_48 ?_
        refine V_aload_n C dX11_runs_51 rfl rfl ?_
        refine V_iconst C (nI 0) dX11_runs_52 (by decide) ?_
        refine pf_X11_143 C (by decide) dX11_runs_53 ?_
        refine V_aload_n C dX11_runs_56 rfl rfl ?_
        refine V_iconst C (nI 0) dX11_runs_57 (by decide) ?_
        refine pf_X11_163 C (by decide) dX11_runs_58 ?_
        refine V_aload_n C dX11_runs_61 rfl rfl ?_
        refine V_iconst C (nI 0) dX11_runs_62 (by decide) ?_
        refine pf_X11_170 C dX11_runs_63 ?_
        refine V_aload_n C dX11_runs_66 rfl rfl ?_
        refine V_iconst C (nI 0) dX11_runs_67 (by decide) ?_
        refine pf_X11_173 C dX11_runs_68 ?_
        refine V_aload_n C dX11_runs_71 rfl rfl ?_
        refine V_lconst C (lN 0) dX11_runs_72 (by decide) ?_
        refine pf_X11_166 C dX11_runs_73 ?_
        refine V_aload_n C dX11_runs_76 rfl rfl ?_
        refine V_iconst C (nI 0) dX11_runs_77 (by decide) ?_
        refine pf_X11_140 C dX11_runs_78 ?_
        refine V_aload_n C dX11_runs_81 rfl rfl ?_
        refine V_iconst C (nI 0) dX11_runs_82 (by decide) ?_
        refine pf_X11_154 C dX11_runs_83 ?_
        refine V_aload_n C dX11_runs_86 rfl rfl ?_
        refine V_iconst C (nI 0) dX11_runs_87 (by decide) ?_
        refine pf_X11_180 C dX11_runs_88 ?_
        refine V_aload_n C dX11_runs_91 rfl rfl ?_
        refine V_iconst C (nI 0) dX11_runs_92 (by decide) ?_
        refine pf_X11_188 C dX11_runs_93 ?_
        refine V_aload_n C dX11_runs_96 rfl rfl ?_
        refine V_iconst C (nI 0) dX11_runs_97 (by decide) ?_
        refine pf_X11_157 C dX11_runs_98 ?_
        refine V_aload_n C dX11_runs_101 rfl rfl ?_
        refine V_iconst C (nI 0) dX11_runs_102 (by decide) ?_
        refine pf_X11_191 C dX11_runs_103 ?_
        refine V_aload_n C dX11_runs_106 rfl rfl ?_
        refine V_iconst C (nI 0) dX11_runs_107 (by decide) ?_
        refine pf_X11_194 C dX11_runs_108 ?_
        refine V_aload_n C dX11_runs_111 rfl rfl ?_
        refine V_iload_n C dX11_runs_112 rfl rfl ?_
        refine V_lload_n C dX11_runs_113 rfl rfl ?_
        refine V_callV C [_, _] (ct_X11_enter (M := rInit M b) (RI_ScR ri_Sc hp) (by omega) (by rw [ri_N.2.1]; omega) (by rw [ri_N.2.2.2.2.2.2.2.1]; omega) (by rw [ri_N.2.2.2.2.2.2.1]; omega) (by rw [ri_N.1]; omega)) cv_X11_enter lk_X11_197 in_40 rfl rfl ⟨Nat.le_of_ble_eq_true rfl, Nat.le_of_ble_eq_true rfl⟩ rfl rfl (Nat.le_of_ble_eq_true rfl) dX11_runs_114 (fun r M' hr => ?_)
        obtain ⟨rfl, hEn⟩ := hr
        have hO0 : Out 0 M' := Out_enter0 hEn (RI_ScR ri_Sc hp) (by obtain ⟨i1, i2, i3, i4, i5, i6, i7, i8, i9, i10, i11⟩ := ri_N (M := M) (b := b); unfold Sca; omega) ri_N.2.1 ⟨ri_N.2.2.2.1, ri_N.2.2.2.2.1, by rw [ri_N.2.2.2.2.2.1]; omega, ri_N.2.2.2.2.2.2.2.2.2.2⟩
        obtain ⟨X0, hX0⟩ : ∃ X0, X0 = M' := ⟨_, rfl⟩
        rw [← hX0] at hEn hO0 ⊢
        have LP117 : ∀ (fu : Nat) (N : Mem), 1 ≤ fu → (gN N 40 0 24 = 0 → gN N 40 0 25 = 0 → 2002 - gN N 40 0 35 ≤ fu) → Out (gN N 40 0 35) N → (∀ k N1, RunR k N N1 → ∃ k', RunR k' X0 N1) → V pp l ee rmX11_runs ss mm aa bb mt cd G rM 5 (MQ bb (QcG G rM (fun r M' => (∃ c_1 b_1, c_1 < gN M 40 0 0 ∧ nI c = nI c_1 ∧ b_1 ≤ 200 ∧ nI b = nI b_1 ∧ ((70 < totR M c_1 ∧ some (.int (-4)) = r ∧ M = M') ∨ (¬ 70 < totR M c_1 ∧ RunsP M c_1 b_1 x r M'))) ∨ (¬ (isM (gN M 40 0 0) (nI c) ∧ isM 201 (nI b)) ∧ some (.int (-2)) = r ∧ M = M')) (AA G rM ss.heap.size)) aa ss 0 0 (AA G rM ss.heap.size)) N 117 [(0, .ref (ad G 40 0)), (1, .int (nI c)), (2, .long x), (4, .int (nI b))] [] := by
          intro fu
          induction fu with
          | zero => intros; omega
          | succ fu ih =>
            intro N hfu hms hO hK
            have hf24 := hO.2.1
            have hf25 := hO.2.2.1
            have hf26 := hO.2.2.2.1
            refine V_aload_n C dX11_runs_117 rfl rfl ?_
            refine gf_X11_143 C dX11_runs_118 ?_
            refine V_ifN_ne (tgt := 151) C dX11_runs_121 (by omega) (by decide) (fun h121 => ?_) (fun h121 => ?_)
            · skip
              refine V_aload_n C dX11_runs_151 rfl rfl ?_
              refine gf_X11_143 C dX11_runs_152 ?_
              refine V_ifN_eq (tgt := 170) C dX11_runs_155 (by omega) (by decide) (fun h155 => ?_) (fun h155 => ?_)
              · skip
                refine V_aload_n C dX11_runs_170 rfl rfl ?_
                refine gf_X11_170 C dX11_runs_171 ?_
                refine V_ifN_eq (tgt := 181) C dX11_runs_174 (by omega) (by decide) (fun h174 => ?_) (fun h174 => ?_)
                · skip
                  refine V_iconst C (nI 0) dX11_runs_181 (by decide) ?_
                  refine V_iret C E dX11_runs_182 ?_
                  obtain ⟨k', hR⟩ := hK 0 N ⟨by omega, rfl⟩
                  first | exact Or.inl ⟨c, b, hc, rfl, by omega, rfl, Or.inr ⟨h29, X0, k', N, hEn, hR, Or.inr ⟨by omega, by rw [if_pos h174], rfl⟩⟩⟩ | exact Or.inl ⟨c, b, hc, rfl, by omega, rfl, Or.inr ⟨h29, X0, k', N, hEn, hR, Or.inr ⟨by omega, by rw [if_neg h174], rfl⟩⟩⟩
                · skip
                  refine V_iconst C (nI 2) dX11_runs_177 (by decide) ?_
                  refine V_goto (tgt := 182) C dX11_runs_178 (by decide) ?_
                  refine V_iret C E dX11_runs_182 ?_
                  obtain ⟨k', hR⟩ := hK 0 N ⟨by omega, rfl⟩
                  first | exact Or.inl ⟨c, b, hc, rfl, by omega, rfl, Or.inr ⟨h29, X0, k', N, hEn, hR, Or.inr ⟨by omega, by rw [if_pos h174], rfl⟩⟩⟩ | exact Or.inl ⟨c, b, hc, rfl, by omega, rfl, Or.inr ⟨h29, X0, k', N, hEn, hR, Or.inr ⟨by omega, by rw [if_neg h174], rfl⟩⟩⟩
              · skip
                refine V_aload_n C dX11_runs_158 rfl rfl ?_
                refine V_iconst C (nI 0) dX11_runs_159 (by decide) ?_
                refine pf_X11_170 C dX11_runs_160 ?_
                refine V_aload_n C dX11_runs_163 rfl rfl ?_
                refine V_iconst C (nI 0) dX11_runs_164 (by decide) ?_
                refine pf_X11_173 C dX11_runs_165 ?_
                refine V_iconst C (nI 1) dX11_runs_168 (by decide) ?_
                refine V_iret C E dX11_runs_169 ?_
                obtain ⟨k', hR⟩ := hK 0 N ⟨by omega, rfl⟩
                exact Or.inl ⟨c, b, hc, rfl, by omega, rfl, Or.inr ⟨h29, X0, k', N, hEn, hR, Or.inl ⟨by omega, rfl, rfl⟩⟩⟩
            · skip
              refine V_aload_n C dX11_runs_124 rfl rfl ?_
              refine gf_X11_163 C dX11_runs_125 ?_
              refine V_ifN_ne (tgt := 151) C dX11_runs_128 (by omega) (by decide) (fun h128 => ?_) (fun h128 => ?_)
              · skip
                refine V_aload_n C dX11_runs_151 rfl rfl ?_
                refine gf_X11_143 C dX11_runs_152 ?_
                refine V_ifN_eq (tgt := 170) C dX11_runs_155 (by omega) (by decide) (fun h155 => ?_) (fun h155 => ?_)
                · skip
                  refine V_aload_n C dX11_runs_170 rfl rfl ?_
                  refine gf_X11_170 C dX11_runs_171 ?_
                  refine V_ifN_eq (tgt := 181) C dX11_runs_174 (by omega) (by decide) (fun h174 => ?_) (fun h174 => ?_)
                  · skip
                    refine V_iconst C (nI 0) dX11_runs_181 (by decide) ?_
                    refine V_iret C E dX11_runs_182 ?_
                    obtain ⟨k', hR⟩ := hK 0 N ⟨by omega, rfl⟩
                    first | exact Or.inl ⟨c, b, hc, rfl, by omega, rfl, Or.inr ⟨h29, X0, k', N, hEn, hR, Or.inr ⟨by omega, by rw [if_pos h174], rfl⟩⟩⟩ | exact Or.inl ⟨c, b, hc, rfl, by omega, rfl, Or.inr ⟨h29, X0, k', N, hEn, hR, Or.inr ⟨by omega, by rw [if_neg h174], rfl⟩⟩⟩
                  · skip
                    refine V_iconst C (nI 2) dX11_runs_177 (by decide) ?_
                    refine V_goto (tgt := 182) C dX11_runs_178 (by decide) ?_
                    refine V_iret C E dX11_runs_182 ?_
                    obtain ⟨k', hR⟩ := hK 0 N ⟨by omega, rfl⟩
                    first | exact Or.inl ⟨c, b, hc, rfl, by omega, rfl, Or.inr ⟨h29, X0, k', N, hEn, hR, Or.inr ⟨by omega, by rw [if_pos h174], rfl⟩⟩⟩ | exact Or.inl ⟨c, b, hc, rfl, by omega, rfl, Or.inr ⟨h29, X0, k', N, hEn, hR, Or.inr ⟨by omega, by rw [if_neg h174], rfl⟩⟩⟩
                · skip
                  refine V_aload_n C dX11_runs_158 rfl rfl ?_
                  refine V_iconst C (nI 0) dX11_runs_159 (by decide) ?_
                  refine pf_X11_170 C dX11_runs_160 ?_
                  refine V_aload_n C dX11_runs_163 rfl rfl ?_
                  refine V_iconst C (nI 0) dX11_runs_164 (by decide) ?_
                  refine pf_X11_173 C dX11_runs_165 ?_
                  refine V_iconst C (nI 1) dX11_runs_168 (by decide) ?_
                  refine V_iret C E dX11_runs_169 ?_
                  obtain ⟨k', hR⟩ := hK 0 N ⟨by omega, rfl⟩
                  exact Or.inl ⟨c, b, hc, rfl, by omega, rfl, Or.inr ⟨h29, X0, k', N, hEn, hR, Or.inl ⟨by omega, rfl, rfl⟩⟩⟩
              · skip
                have hs0 := h121
                have he0 := h128
                obtain ⟨⟨f, hR⟩, hG⟩ := hO.run hs0 he0
                have hdN := hR.2.2.2.1
                have hd12 := hR.2.2.1
                have hsc := hR.2.2.2.2.2.2.2
                have hsc0 := hsc
                unfold Sca at hsc
                obtain ⟨pd1, pd2, pd3⟩ := hR.paid
                refine V_aload_n C dX11_runs_131 rfl rfl ?_
                refine V_aload_n C dX11_runs_132 rfl rfl ?_
                refine gf_X11_147 C dX11_runs_133 ?_
                refine V_iconst C (nI 1) dX11_runs_136 (by decide) ?_
                refine V_isubN C dX11_runs_137 (by omega) ?_
                rw [show gN N 40 0 11 - 1 = f by omega]
                refine V_callV C [_] (ct_X11_isPaid (by omega) rfl rfl pd1 pd2 pd3 (by omega) (by omega)) cv_X11_isPaid lk_X11_201 in_40 rfl rfl ⟨Nat.le_of_ble_eq_true rfl, Nat.le_of_ble_eq_true rfl⟩ rfl rfl (Nat.le_of_ble_eq_true rfl) dX11_runs_138 (fun r M' hr => ?_)
                have hP := hr; rcases hr with ⟨hno, rfl, rfl⟩ | ⟨hmk, ⟨hok, rfl, rfl⟩ | ⟨hok, rfl, rfl⟩⟩
                · skip
                  refine V_ifN_eq (tgt := 117) C dX11_runs_141 (by omega) (by decide) (fun h141 => absurd h141 (by decide)) (fun h141 => ?_)
                  refine V_aload_n C dX11_runs_144 rfl rfl ?_
                  refine V_callV C [] (ct_X11_begins hR (fun q1 q2 => by rw [show gN N 40 0 11 - 1 = f by omega] at q1 q2; exact absurd ⟨q1, q2⟩ hno)) cv_X11_begins lk_X11_204 in_40 rfl rfl ⟨Nat.le_of_ble_eq_true rfl, Nat.le_of_ble_eq_true rfl⟩ rfl rfl (Nat.le_of_ble_eq_true rfl) dX11_runs_145 (fun r M' hr => ?_)
                  obtain ⟨rfl, hBR⟩ := hr
                  have hT : TurnR N M' := ⟨_, _, by rw [show gN N 40 0 11 - 1 = f by omega]; exact hP, Or.inr ⟨rfl, hBR⟩⟩
                  have hO2 := Out_turn hT hR hG
                  refine V_goto (tgt := 117) C dX11_runs_148 (by decide) ?_
                  refine V_lv [0, 1, 2, 3] rfl ?_
                  exact ih _ (by omega) (fun q1 q2 => by have := hO2.bg q1 q2; omega) hO2.self (fun k N1 hR => hK (k + 1) N1 ⟨hs0, he0, _, hT, hR⟩)
                · skip
                  refine V_ifN_eq (tgt := 117) C dX11_runs_141 (by omega) (by decide) (fun h141 => absurd h141 (by decide)) (fun h141 => ?_)
                  refine V_aload_n C dX11_runs_144 rfl rfl ?_
                  refine V_callV C [] (ct_X11_begins (RMI_steps hR (by omega) hok) (fun _ _ => by rw [show gN (sN N 40 0 29 (gN N 40 0 29 + cost (gJ N 53 0 (rR N f (gN N 51 0 f) (gN N 52 0 f))))) 40 0 11 - 1 = f by rw [gNN, if_neg (by omega)]; omega, show gN (sN N 40 0 29 (gN N 40 0 29 + cost (gJ N 53 0 (rR N f (gN N 51 0 f) (gN N 52 0 f))))) 40 0 22 = gN N 40 0 22 by rw [gNN, if_neg (by omega)]]; exact paid_z (f := f) hsc0 hok)) cv_X11_begins lk_X11_204 in_40 rfl rfl ⟨Nat.le_of_ble_eq_true rfl, Nat.le_of_ble_eq_true rfl⟩ rfl rfl (Nat.le_of_ble_eq_true rfl) dX11_runs_145 (fun r M' hr => ?_)
                  obtain ⟨rfl, hBR⟩ := hr
                  have hT : TurnR N M' := ⟨_, _, by rw [show gN N 40 0 11 - 1 = f by omega]; exact hP, Or.inr ⟨rfl, hBR⟩⟩
                  have hO2 := Out_turn hT hR hG
                  refine V_goto (tgt := 117) C dX11_runs_148 (by decide) ?_
                  refine V_lv [0, 1, 2, 3] rfl ?_
                  exact ih _ (by omega) (fun q1 q2 => by have := hO2.bg q1 q2; omega) hO2.self (fun k N1 hR => hK (k + 1) N1 ⟨hs0, he0, _, hT, hR⟩)
                · skip
                  have hT : TurnR N (rstp N) := ⟨_, _, by rw [show gN N 40 0 11 - 1 = f by omega]; exact hP, Or.inl ⟨rfl, rfl⟩⟩
                  have hO2 := Out_turn hT hR hG
                  refine V_ifN_eq (tgt := 117) C dX11_runs_141 (by omega) (by decide) (fun h141 => ?_) (fun h141 => absurd rfl h141)
                  refine V_lv [0, 1, 2, 3] rfl ?_
                  exact ih _ (by omega) (fun q1 q2 => by have := hO2.bg q1 q2; omega) hO2.self (fun k N1 hR => hK (k + 1) N1 ⟨hs0, he0, _, hT, hR⟩)
        refine V_lv [0, 1, 2, 3] rfl ?_
        exact LP117 2003 X0 (by omega) (fun _ _ => by omega) hO0.self (fun k N1 h => ⟨k, h⟩)
      · skip
        refine V_bipush C (-4) dX11_runs_32 (by decide) ?_
        refine V_iret C E dX11_runs_34 ?_
        exact Or.inl ⟨c, b, hc, rfl, by omega, rfl, Or.inl ⟨h29, rfl, rfl⟩⟩
    · skip
      refine V_bipush C (-2) dX11_runs_21 (by decide) ?_
      refine V_iret C E dX11_runs_23 ?_
      first | exact Or.inr ⟨fun z => h5 z.1, rfl, rfl⟩ | exact Or.inr ⟨fun z => h18 ((w0_iff (by decide)).mpr z.2), rfl, rfl⟩

set_option maxRecDepth 20000 in
set_option maxHeartbeats 4000000 in
theorem ct_X11_run {l : Launch} {G : Gm} {M : Mem} {m q : Int32} {x : Int64} (hp : RI M) : Ct l G rM yX11_run (.code yX11_run cX11_run 5 (some .int) :: GW) rmX11_run [.ref (ad G 40 0), .int m, .long x, .int q] M (fun r M' => (∃ c b, c < gN M 40 0 0 ∧ m = nI c ∧ b ≤ 200 ∧ q = nI b ∧ ((70 < totR M c ∧ some (.int (-4)) = r ∧ M = M') ∨ (¬ 70 < totR M c ∧ RunsP M c b x r M'))) ∨ (¬ (isM (gN M 40 0 0) m ∧ isM 201 q) ∧ some (.int (-2)) = r ∧ M = M')) := by
  refine Ct_of (cc := cX11_run) (by decide) [(0, _), (1, _), (2, _), (4, _)] rfl (Nat.le_of_ble_eq_true rfl) (fun pp ee ss mm aa bb mt cd C E => ?_)
  refine V_aload_n C dX11_run_0 rfl rfl ?_
  refine V_iload_n C dX11_run_1 rfl rfl ?_
  refine V_lload_n C dX11_run_2 rfl rfl ?_
  refine V_iload C dX11_run_3 rfl ?_
  refine V_callV C [_, _, _] (ct_X11_runs hp) cv_X11_runs lk_X11_246 in_40 rfl rfl ⟨Nat.le_of_ble_eq_true rfl, Nat.le_of_ble_eq_true rfl⟩ rfl rfl (Nat.le_of_ble_eq_true rfl) dX11_run_5 (fun r M' hr => ?_)
  obtain ⟨y, rfl⟩ : ∃ y : Int32, r = some (.int y) := by rcases hr with ⟨_, _, _, _, _, _, ⟨_, h, _⟩ | ⟨_, _, _, _, _, _, ⟨_, h, _⟩ | ⟨_, h, _⟩⟩⟩ | ⟨_, h, _⟩ <;> exact ⟨_, h.symm⟩
  refine V_iret C E dX11_run_8 ?_
  exact hr

set_option maxRecDepth 20000 in
set_option maxHeartbeats 4000000 in
theorem ct_X11_step {l : Launch} {G : Gm} {M : Mem} {m q : Int32} {x : Int64} (hp : RI M) : Ct l G rM yX11_step (.code yX11_step cX11_step 5 (some .int) :: GW) rmX11_step [.ref (ad G 40 0), .int m, .long x, .int q] M (fun r M' => (∃ c b, c < gN M 40 0 0 ∧ m = nI c ∧ b ≤ 200 ∧ q = nI b ∧ ((70 < totR M c ∧ some (.int (-4)) = r ∧ M = M') ∨ (¬ 70 < totR M c ∧ RunsP M c b x r M'))) ∨ (¬ (isM (gN M 40 0 0) m ∧ isM 201 q) ∧ some (.int (-2)) = r ∧ M = M')) := by
  refine Ct_of (cc := cX11_step) (by decide) [(0, _), (1, _), (2, _), (4, _)] rfl (Nat.le_of_ble_eq_true rfl) (fun pp ee ss mm aa bb mt cd C E => ?_)
  refine V_aload_n C dX11_step_0 rfl rfl ?_
  refine V_iload_n C dX11_step_1 rfl rfl ?_
  refine V_lload_n C dX11_step_2 rfl rfl ?_
  refine V_iload C dX11_step_3 rfl ?_
  refine V_callV C [_, _, _] (ct_X11_runs hp) cv_X11_runs lk_X11_246 in_40 rfl rfl ⟨Nat.le_of_ble_eq_true rfl, Nat.le_of_ble_eq_true rfl⟩ rfl rfl (Nat.le_of_ble_eq_true rfl) dX11_step_5 (fun r M' hr => ?_)
  obtain ⟨y, rfl⟩ : ∃ y : Int32, r = some (.int y) := by rcases hr with ⟨_, _, _, _, _, _, ⟨_, h, _⟩ | ⟨_, _, _, _, _, _, ⟨_, h, _⟩ | ⟨_, h, _⟩⟩⟩ | ⟨_, h, _⟩ <;> exact ⟨_, h.symm⟩
  refine V_iret C E dX11_step_8 ?_
  exact hr

