set_option maxRecDepth 20000 in
set_option maxHeartbeats 4000000 in
theorem ct_X11_mark {l : Launch} {G : Gm} {M : Mem} {m : Nat} (hm6 : m < 6) (hm : RIm M m) (ht : totR M m ≤ 70) : Ct l G rM yX11_mark (.code yX11_mark cX11_mark 7 none :: GW) rmX11_mark [.ref (ad G 40 0), .int (nI m)] M (fun r M' => none = r ∧ RP2 M M' m (gN M 41 0 m) (gN M 46 0 m)) := by
  have hs := hm.1
  have hh4 := hm.2.1
  have htb := tot_beg (rac M m) (rnu M m) (gN M 41 0 m) (gN M 46 0 m)
  have htt : tot (rac M m) (rnu M m) (gN M 41 0 m) (gN M 46 0 m) = totR M m := rfl
  have hS0 : SmR M (layE (sN M 40 0 39 0) 1 0 (-1)) := SmR_39.tr SmR_lay
  have hm0 := RIm_SmR hS0 hm
  have e410 : gN (layE (sN M 40 0 39 0) 1 0 (-1)) 41 0 m = gN M 41 0 m := hS0.1 41 0 m (by omega) (by omega) (by omega)
  obtain ⟨ez1, ez2, ez3, ez4⟩ := rac_SmR (m := m) hS0
  refine Ct_of (cc := cX11_mark) (by decide) [(0, _), (1, _)] rfl (Nat.le_of_ble_eq_true rfl) (fun pp ee ss mm aa bb mt cd C E => ?_)
  have LPh : ∀ (fu : Nat) (h : Nat) (X : Mem), gN M 46 0 m - h < fu → h ≤ gN M 46 0 m → RP2 M X m (gN M 41 0 m) h → V pp l ee rmX11_mark ss mm aa bb mt cd G rM 7 (MQ bb (QcG G rM (fun r M' => none = r ∧ RP2 M M' m (gN M 41 0 m) (gN M 46 0 m)) (AA G rM ss.heap.size)) aa ss 0 0 (AA G rM ss.heap.size)) X 259 [(4, .int (nI h)), (0, .ref (ad G 40 0)), (1, .int (nI m))] [] := by
    intro fu
    induction fu with
    | zero => intros; omega
    | succ fu ih =>
      intro h X hfu hle hI
      have hSX := hI.1
      have i2 := hI.2.1
      have hmX := RIm_SmR hSX hm
      have e41 : gN X 41 0 m = gN M 41 0 m := hSX.1 41 0 m (by omega) (by omega) (by omega)
      have e46 : gN X 46 0 m = gN M 46 0 m := hSX.1 46 0 m (by omega) (by omega) (by omega)
      obtain ⟨er1, er2, er3, er4⟩ := rac_SmR (m := m) hSX
      refine V_iload C dX11_mark_259 rfl ?_
      refine V_aload_n C dX11_mark_261 rfl rfl ?_
      refine gf_X11_26 C dX11_mark_262 ?_
      refine V_iload_n C dX11_mark_265 rfl rfl ?_
      refine ld_46 C (by omega) dX11_mark_266 ?_
      rw [e46]
      refine V_icmpN_ge (tgt := 310) C dX11_mark_267 (by omega) (by omega) (by decide) (fun h267 => ?_) (fun h267 => ?_)
      · skip
        refine V_vret C E dX11_mark_310 ?_
        exact ⟨rfl, by rw [show h = gN M 46 0 m by omega] at hI; exact hI⟩
      · skip
        have hav : rav M m h ≤ 40 := (hm.2.2.2.1 h (by omega)).2.2
        refine V_aload_n C dX11_mark_270 rfl rfl ?_
        refine V_iconst C (nI 1) dX11_mark_271 (by decide) ?_
        refine V_iconst C (nI 0) dX11_mark_272 (by decide) ?_
        refine V_iconst C (-1) dX11_mark_273 (by decide) ?_
        refine V_callV C [_, _, _] (ct_X11_lay (by omega)) cv_X11_lay lk_X11_123 in_40 rfl rfl ⟨Nat.le_of_ble_eq_true rfl, Nat.le_of_ble_eq_true rfl⟩ rfl rfl (Nat.le_of_ble_eq_true rfl) dX11_mark_274 (fun r M' hr => ?_)
        obtain ⟨rfl, rfl⟩ := hr
        refine V_aload_n C dX11_mark_277 rfl rfl ?_
        refine V_iload_n C dX11_mark_278 rfl rfl ?_
        refine V_aload_n C dX11_mark_279 rfl rfl ?_
        refine gf_X11_35 C dX11_mark_280 ?_
        refine V_iconst C (nI 4) dX11_mark_283 (by decide) ?_
        refine V_iload_n C dX11_mark_284 rfl rfl ?_
        refine V_imulN C dX11_mark_285 ?_
        refine V_iload C dX11_mark_286 rfl ?_
        refine V_iaddN C dX11_mark_288 ?_
        refine ld_49 C (by omega) dX11_mark_289 ?_
        rw [show gN (layE X 1 0 (-1)) 49 0 (4 * m + h) = rav M m h by rw [SmR_lay.1 49 0 _ (by omega) (by omega) (by omega), ← er4]; rfl]
        refine V_callV C [_, _] (ct_X11_beginOf hm6 (RIm_SmR SmR_lay hmX) (by omega)) cv_X11_beginOf lk_X11_127 in_40 rfl rfl ⟨Nat.le_of_ble_eq_true rfl, Nat.le_of_ble_eq_true rfl⟩ rfl rfl (Nat.le_of_ble_eq_true rfl) dX11_mark_290 (fun r M' hr => ?_)
        obtain ⟨rfl, rfl⟩ := hr
        rw [(rac_SmR (m := m) SmR_lay).1, er1, SmR_lay.1 41 0 m (by omega) (by omega) (by omega), e41]
        refine V_istore (lv' := [(5, _), (4, _), (0, _), (1, _)]) C dX11_mark_293 (by decide) rfl ?_
        refine V_aload_n C dX11_mark_295 rfl rfl ?_
        refine V_iconst C (nI 3) dX11_mark_296 (by decide) ?_
        refine V_iload C dX11_mark_297 rfl ?_
        refine V_iload C dX11_mark_299 rfl ?_
        refine V_callV C [_, _, _] (ct_X11_lay (by rw [lay_sz]; omega)) cv_X11_lay lk_X11_123 in_40 rfl rfl ⟨Nat.le_of_ble_eq_true rfl, Nat.le_of_ble_eq_true rfl⟩ rfl rfl (Nat.le_of_ble_eq_true rfl) dX11_mark_301 (fun r M' hr => ?_)
        obtain ⟨rfl, rfl⟩ := hr
        refine V_iincN (lv' := [(4, _), (5, _), (0, _), (1, _)]) C dX11_mark_304 rfl (b := 1) (by decide) (by decide) rfl ?_
        refine V_goto (tgt := 259) C dX11_mark_307 (by decide) ?_
        refine V_lv [0, 2, 3] rfl ?_
        exact ih _ _ (by omega) (by omega) hI.hand
  have LPj : ∀ (fu : Nat) (q : Nat) (X : Mem), gN M 41 0 m - q < fu → q ≤ gN M 41 0 m → RP2 M X m q 0 → V pp l ee rmX11_mark ss mm aa bb mt cd G rM 7 (MQ bb (QcG G rM (fun r M' => none = r ∧ RP2 M M' m (gN M 41 0 m) (gN M 46 0 m)) (AA G rM ss.heap.size)) aa ss 0 0 (AA G rM ss.heap.size)) X 193 [(4, .int (nI q)), (0, .ref (ad G 40 0)), (1, .int (nI m))] [] := by
    intro fu
    induction fu with
    | zero => intros; omega
    | succ fu ih =>
      intro q X hfu hle hI
      have hSX := hI.1
      have i2 := hI.2.1
      have hmX := RIm_SmR hSX hm
      have e41 : gN X 41 0 m = gN M 41 0 m := hSX.1 41 0 m (by omega) (by omega) (by omega)
      have e46 : gN X 46 0 m = gN M 46 0 m := hSX.1 46 0 m (by omega) (by omega) (by omega)
      obtain ⟨er1, er2, er3, er4⟩ := rac_SmR (m := m) hSX
      refine V_iload C dX11_mark_193 rfl ?_
      refine V_aload_n C dX11_mark_195 rfl rfl ?_
      refine gf_X11_7 C dX11_mark_196 ?_
      refine V_iload_n C dX11_mark_199 rfl rfl ?_
      refine ld_41 C (by omega) dX11_mark_200 ?_
      rw [e41]
      refine V_icmpN_ge (tgt := 256) C dX11_mark_201 (by omega) (by omega) (by decide) (fun h201 => ?_) (fun h201 => ?_)
      · skip
        refine V_iconst C (nI 0) dX11_mark_256 (by decide) ?_
        refine V_istore (lv' := [(4, _), (0, _), (1, _)]) C dX11_mark_257 (by decide) rfl ?_
        refine V_lv [0, 1, 2] rfl ?_
        exact LPh _ 0 X (Nat.lt_succ_self _) (Nat.zero_le _) (by rw [show q = gN M 41 0 m by omega] at hI; exact hI)
      · skip
        refine V_aload_n C dX11_mark_204 rfl rfl ?_
        refine V_iload_n C dX11_mark_205 rfl rfl ?_
        refine V_iload C dX11_mark_206 rfl ?_
        refine V_callV C [_, _] (ct_X11_isBack hm6 hmX (by omega)) cv_X11_isBack lk_X11_108 in_40 rfl rfl ⟨Nat.le_of_ble_eq_true rfl, Nat.le_of_ble_eq_true rfl⟩ rfl rfl (Nat.le_of_ble_eq_true rfl) dX11_mark_208 (fun r M' hr => ?_)
        obtain ⟨rfl, rfl⟩ := hr
        rw [er1, er2]
        refine V_ifB_eq (tgt := 250) C dX11_mark_211 (by decide) (fun h211 => ?_) (fun h211 => ?_)
        · skip
          refine V_iincN (lv' := [(4, _), (0, _), (1, _)]) C dX11_mark_250 rfl (b := 1) (by decide) (by decide) rfl ?_
          refine V_goto (tgt := 193) C dX11_mark_253 (by decide) ?_
          refine V_lv [0, 1, 2] rfl ?_
          first | exact ih _ _ (by omega) (by omega) (by rw [← htg]; exact hI.jump1 (by omega) hbk) | exact ih _ _ (by omega) (by omega) (hI.jump0 h211)
        · skip
          have hbk : bk (rac M m) (rnu M m) q := h211
          obtain ⟨v, hv1, hv2⟩ := (hm.2.2.2.2 q (by omega)).1 hbk.1
          have htg : tgt (rnu M m) (gN M 41 0 m) q = min v (gN M 41 0 m) := tgt_of hv2 hv1
          have hbm := bks_mono (rac M m) (rnu M m) (show q < gN M 41 0 m by omega)
          rw [bk1_t hbk] at hbm
          refine V_aload_n C dX11_mark_214 rfl rfl ?_
          refine V_iconst C (nI 1) dX11_mark_215 (by decide) ?_
          refine V_iconst C (nI 0) dX11_mark_216 (by decide) ?_
          refine V_iconst C (-1) dX11_mark_217 (by decide) ?_
          refine V_callV C [_, _, _] (ct_X11_lay (by omega)) cv_X11_lay lk_X11_123 in_40 rfl rfl ⟨Nat.le_of_ble_eq_true rfl, Nat.le_of_ble_eq_true rfl⟩ rfl rfl (Nat.le_of_ble_eq_true rfl) dX11_mark_218 (fun r M' hr => ?_)
          obtain ⟨rfl, rfl⟩ := hr
          refine V_aload_n C dX11_mark_221 rfl rfl ?_
          refine V_iload_n C dX11_mark_222 rfl rfl ?_
          refine V_aload_n C dX11_mark_223 rfl rfl ?_
          refine gf_X11_22 C dX11_mark_224 ?_
          refine V_bipush C (nI 40) dX11_mark_227 (by decide) ?_
          refine V_iload_n C dX11_mark_229 rfl rfl ?_
          refine V_imulN C dX11_mark_230 ?_
          refine V_iload C dX11_mark_231 rfl ?_
          refine V_iaddN C dX11_mark_233 ?_
          refine ld_45 C (by omega) dX11_mark_234 ?_
          rw [SmR_lay.2.2, hSX.2.2]
          refine V_l2iN C dX11_mark_235 hv2 ?_
          refine V_callV C [_, _] (ct_X11_beginOf hm6 (RIm_SmR SmR_lay hmX) (by omega)) cv_X11_beginOf lk_X11_127 in_40 rfl rfl ⟨Nat.le_of_ble_eq_true rfl, Nat.le_of_ble_eq_true rfl⟩ rfl rfl (Nat.le_of_ble_eq_true rfl) dX11_mark_236 (fun r M' hr => ?_)
          obtain ⟨rfl, rfl⟩ := hr
          rw [(rac_SmR (m := m) SmR_lay).1, er1, SmR_lay.1 41 0 m (by omega) (by omega) (by omega), e41]
          refine V_istore (lv' := [(5, _), (4, _), (0, _), (1, _)]) C dX11_mark_239 (by decide) rfl ?_
          refine V_aload_n C dX11_mark_241 rfl rfl ?_
          refine V_iconst C (nI 3) dX11_mark_242 (by decide) ?_
          refine V_iload C dX11_mark_243 rfl ?_
          refine V_iload C dX11_mark_245 rfl ?_
          refine V_callV C [_, _, _] (ct_X11_lay (by rw [lay_sz]; omega)) cv_X11_lay lk_X11_123 in_40 rfl rfl ⟨Nat.le_of_ble_eq_true rfl, Nat.le_of_ble_eq_true rfl⟩ rfl rfl (Nat.le_of_ble_eq_true rfl) dX11_mark_247 (fun r M' hr => ?_)
          obtain ⟨rfl, rfl⟩ := hr
          refine V_iincN (lv' := [(4, _), (5, _), (0, _), (1, _)]) C dX11_mark_250 rfl (b := 1) (by decide) (by decide) rfl ?_
          refine V_goto (tgt := 193) C dX11_mark_253 (by decide) ?_
          refine V_lv [0, 2, 3] rfl ?_
          first | exact ih _ _ (by omega) (by omega) (by rw [← htg]; exact hI.jump1 (by omega) hbk) | exact ih _ _ (by omega) (by omega) (hI.jump0 h211)
  have LPp : ∀ (fu : Nat) (p : Nat) (X : Mem), gN M 41 0 m - p < fu → p ≤ gN M 41 0 m → RP1 M X m p → V pp l ee rmX11_mark ss mm aa bb mt cd G rM 7 (MQ bb (QcG G rM (fun r M' => none = r ∧ RP2 M M' m (gN M 41 0 m) (gN M 46 0 m)) (AA G rM ss.heap.size)) aa ss 0 0 (AA G rM ss.heap.size)) X 31 [(4, .int (nI p)), (2, .int (nI (bks (rac M m) (rnu M m) p))), (3, .int (nI (beg (rac M m) (gN M 41 0 m) + 1))), (0, .ref (ad G 40 0)), (1, .int (nI m))] [] := by
    intro fu
    induction fu with
    | zero => intros; omega
    | succ fu ih =>
      intro p X hfu hle hI
      have hSX := hI.1
      have i2 := hI.2.1
      have hmX := RIm_SmR hSX hm
      have e41 : gN X 41 0 m = gN M 41 0 m := hSX.1 41 0 m (by omega) (by omega) (by omega)
      have e46 : gN X 46 0 m = gN M 46 0 m := hSX.1 46 0 m (by omega) (by omega) (by omega)
      obtain ⟨er1, er2, er3, er4⟩ := rac_SmR (m := m) hSX
      refine V_iload C dX11_mark_31 rfl ?_
      refine V_aload_n C dX11_mark_33 rfl rfl ?_
      refine gf_X11_7 C dX11_mark_34 ?_
      refine V_iload_n C dX11_mark_37 rfl rfl ?_
      refine ld_41 C (by omega) dX11_mark_38 ?_
      rw [e41]
      refine V_icmpN_ge (tgt := 178) C dX11_mark_39 (by omega) (by omega) (by decide) (fun h39 => ?_) (fun h39 => ?_)
      · skip
        have i2n : gN X 40 0 39 = beg (rac M m) (gN M 41 0 m) := by rw [i2, show p = gN M 41 0 m by omega]
        refine V_aload_n C dX11_mark_178 rfl rfl ?_
        refine V_iconst C (nI 0) dX11_mark_179 (by decide) ?_
        refine V_aload_n C dX11_mark_180 rfl rfl ?_
        refine gf_X11_7 C dX11_mark_181 ?_
        refine V_iload_n C dX11_mark_184 rfl rfl ?_
        refine ld_41 C (by omega) dX11_mark_185 ?_
        rw [e41]
        refine V_iconst C (-1) dX11_mark_186 (by decide) ?_
        refine V_callV C [_, _, _] (ct_X11_lay (by omega)) cv_X11_lay lk_X11_123 in_40 rfl rfl ⟨Nat.le_of_ble_eq_true rfl, Nat.le_of_ble_eq_true rfl⟩ rfl rfl (Nat.le_of_ble_eq_true rfl) dX11_mark_187 (fun r M' hr => ?_)
        obtain ⟨rfl, rfl⟩ := hr
        refine V_iconst C (nI 0) dX11_mark_190 (by decide) ?_
        refine V_istore (lv' := [(4, _), (2, _), (3, _), (0, _), (1, _)]) C dX11_mark_191 (by decide) rfl ?_
        refine V_lv [0, 3, 4] rfl ?_
        rw [show p = gN M 41 0 m by omega] at hI
        exact LPj _ 0 _ (Nat.lt_succ_self _) (Nat.zero_le _) (RP2.start hI)
      · skip
        have hac := (hm.2.2.1 p (by omega)).1
        have ha42 : gN X 42 0 (40 * m + p) = rac M m p := by rw [← er1]; rfl
        have ha43 : gN X 43 0 (40 * m + p) = rfs M m p := by rw [← er3]; rfl
        have ha45 : gJ X 45 0 (40 * m + p) = rnu M m p := by rw [← er2]; rfl
        have hac2 : rac M m p ≤ 18 := hac
        have hbp := beg_mono (rac M m) (show p < gN M 41 0 m by omega)
        have hm1 := mk1_le (rac M m) p
        have h8 : rac M m p = 8 → mk1 (rac M m) p = 1 := fun q => by unfold mk1; rw [if_pos q]
        refine V_bipush C (nI 40) dX11_mark_42 (by decide) ?_
        refine V_iload_n C dX11_mark_44 rfl rfl ?_
        refine V_imulN C dX11_mark_45 ?_
        refine V_iload C dX11_mark_46 rfl ?_
        refine V_iaddN C dX11_mark_48 ?_
        refine V_istore (lv' := [(5, _), (4, _), (2, _), (3, _), (0, _), (1, _)]) C dX11_mark_49 (by decide) rfl ?_
        refine V_aload_n C dX11_mark_51 rfl rfl ?_
        refine gf_X11_13 C dX11_mark_52 ?_
        refine V_iload C dX11_mark_55 rfl ?_
        refine ld_42 C (by omega) dX11_mark_57 ?_
        rw [ha42]
        refine V_bipush C (nI 8) dX11_mark_58 (by decide) ?_
        refine V_icmpN_ne (tgt := 76) C dX11_mark_60 (by omega) (by omega) (by decide) (fun h60 => ?_) (fun h60 => ?_)
        · skip
          refine V_aload_n C dX11_mark_76 rfl rfl ?_
          refine gf_X11_13 C dX11_mark_77 ?_
          refine V_iload C dX11_mark_80 rfl ?_
          refine ld_42 C (by omega) dX11_mark_82 ?_
          first | rw [ha42] | rw [SmR_lay.1 42 0 _ (by omega) (by omega) (by omega), ha42]
          refine V_bipush C (nI 6) dX11_mark_83 (by decide) ?_
          refine V_icmpN_eq (tgt := 100) C dX11_mark_85 (by omega) (by omega) (by decide) (fun h85 => ?_) (fun h85 => ?_)
          · skip
            refine V_iconst C (nI 1) dX11_mark_100 (by decide) ?_
            refine V_goto (tgt := 105) C dX11_mark_101 (by decide) ?_
            refine V_istore (lv' := [(6, _), (5, _), (4, _), (2, _), (3, _), (0, _), (1, _)]) C dX11_mark_105 (by decide) rfl ?_
            refine V_aload_n C dX11_mark_107 rfl rfl ?_
            refine V_iconst C (nI 0) dX11_mark_108 (by decide) ?_
            refine V_iload C dX11_mark_109 rfl ?_
            refine V_iload C dX11_mark_111 rfl ?_
            refine V_ifN_ne (tgt := 120) C dX11_mark_113 (by omega) (by decide) (fun h113 => ?_) (fun h113 => absurd h113 (by decide))
            refine V_aload_n C dX11_mark_120 rfl rfl ?_
            refine V_iload_n C dX11_mark_121 rfl rfl ?_
            refine V_iload C dX11_mark_122 rfl ?_
            refine V_callV C [_, _] (ct_X11_isBack hm6 hmX (by omega)) cv_X11_isBack lk_X11_108 in_40 rfl rfl ⟨Nat.le_of_ble_eq_true rfl, Nat.le_of_ble_eq_true rfl⟩ rfl rfl (Nat.le_of_ble_eq_true rfl) dX11_mark_124 (fun r M' hr => ?_)
            obtain ⟨rfl, rfl⟩ := hr
            rw [er1, er2]
            refine V_ifB_eq (tgt := 138) C dX11_mark_127 (by decide) (fun h127 => ?_) (fun h127 => ?_)
            · skip
              obtain ⟨v, hv1, hv2⟩ := (hm.2.2.2.2 p (by omega)).1 (show rac M m p = 6 ∨ rac M m p = 7 by omega)
              have htg : tgt (rnu M m) (gN M 41 0 m) p = min v (gN M 41 0 m) := tgt_of hv2 hv1
              refine V_aload_n C dX11_mark_138 rfl rfl ?_
              refine V_iload_n C dX11_mark_139 rfl rfl ?_
              refine V_aload_n C dX11_mark_140 rfl rfl ?_
              refine gf_X11_22 C dX11_mark_141 ?_
              refine V_iload C dX11_mark_144 rfl ?_
              refine ld_45 C (by omega) dX11_mark_146 ?_
              first | rw [ha45] | rw [SmR_lay.2.2, ha45]
              refine V_l2iN C dX11_mark_147 hv2 ?_
              refine V_callV C [_, _] (ct_X11_beginOf hm6 hmX (by omega)) cv_X11_beginOf lk_X11_127 in_40 rfl rfl ⟨Nat.le_of_ble_eq_true rfl, Nat.le_of_ble_eq_true rfl⟩ rfl rfl (Nat.le_of_ble_eq_true rfl) dX11_mark_148 (fun r M' hr => ?_)
              obtain ⟨rfl, rfl⟩ := hr
              rw [er1, e41]
              refine V_callV C [_, _, _] (ct_X11_lay (by omega)) cv_X11_lay lk_X11_123 in_40 rfl rfl ⟨Nat.le_of_ble_eq_true rfl, Nat.le_of_ble_eq_true rfl⟩ rfl rfl (Nat.le_of_ble_eq_true rfl) dX11_mark_151 (fun r M' hr => ?_)
              obtain ⟨rfl, rfl⟩ := hr
              refine V_iload_n C dX11_mark_154 rfl rfl ?_
              refine V_aload_n C dX11_mark_155 rfl rfl ?_
              refine V_iload_n C dX11_mark_156 rfl rfl ?_
              refine V_iload C dX11_mark_157 rfl ?_
              refine V_callV C [_, _] (ct_X11_isBack hm6 (RIm_SmR SmR_lay hmX) (by omega)) cv_X11_isBack lk_X11_108 in_40 rfl rfl ⟨Nat.le_of_ble_eq_true rfl, Nat.le_of_ble_eq_true rfl⟩ rfl rfl (Nat.le_of_ble_eq_true rfl) dX11_mark_159 (fun r M' hr => ?_)
              obtain ⟨rfl, rfl⟩ := hr
              rw [(rac_SmR (m := m) SmR_lay).1, (rac_SmR (m := m) SmR_lay).2.1, er1, er2]
              refine V_ifB_eq (tgt := 169) C dX11_mark_162 (by decide) (fun h162 => ?_) (fun h162 => ?_)
              · skip
                refine V_iconst C (nI 0) dX11_mark_169 (by decide) ?_
                refine V_iaddN C dX11_mark_170 ?_
                refine V_istore_n (lv' := [(2, _), (6, _), (5, _), (4, _), (3, _), (0, _), (1, _)]) C dX11_mark_171 rfl (by decide) rfl ?_
                refine V_iincN (lv' := [(4, _), (2, _), (6, _), (5, _), (3, _), (0, _), (1, _)]) C dX11_mark_172 rfl (b := 1) (by decide) (by decide) rfl ?_
                refine V_goto (tgt := 31) C dX11_mark_175 (by decide) ?_
                refine V_lv [0, 1, 4, 5, 6] rfl ?_
                first | (exfalso; omega) | (refine V_eq rfl (show _ = [(4, Value.int (nI (p + 1))), (2, Value.int (nI (bks (rac M m) (rnu M m) (p + 1)))), (3, Value.int (nI (beg (rac M m) (gN M 41 0 m) + 1))), (0, Value.ref (ad G 40 0)), (1, Value.int (nI m))] by show _ = [(4, Value.int (nI (p + 1))), (2, Value.int (nI (bks (rac M m) (rnu M m) p + bk1 (rac M m) (rnu M m) p))), (3, Value.int (nI (beg (rac M m) (gN M 41 0 m) + 1))), (0, Value.ref (ad G 40 0)), (1, Value.int (nI m))]; first | (rw [bk1_t h162]; rfl) | (rw [bk1_f h162]; rfl)) rfl rfl ?_; first | exact ih _ _ (by omega) (by omega) (hI.step8 (by omega) (by first | (unfold jgo; rw [if_neg (show ¬ (rac M m p = 6 ∨ rac M m p = 7) by omega)]; done) | (unfold jgo; rw [if_pos (show rac M m p = 6 ∨ rac M m p = 7 by omega), if_pos h127]; done) | (unfold jgo; rw [if_pos (show rac M m p = 6 ∨ rac M m p = 7 by omega), if_neg h127, htg]; done))) | exact ih _ _ (by omega) (by omega) (hI.step0 (by omega) (by first | (unfold jgo; rw [if_neg (show ¬ (rac M m p = 6 ∨ rac M m p = 7) by omega)]; done) | (unfold jgo; rw [if_pos (show rac M m p = 6 ∨ rac M m p = 7 by omega), if_pos h127]; done) | (unfold jgo; rw [if_pos (show rac M m p = 6 ∨ rac M m p = 7 by omega), if_neg h127, htg]; done))))
              · skip
                refine V_iconst C (nI 1) dX11_mark_165 (by decide) ?_
                refine V_goto (tgt := 170) C dX11_mark_166 (by decide) ?_
                refine V_iaddN C dX11_mark_170 ?_
                refine V_istore_n (lv' := [(2, _), (6, _), (5, _), (4, _), (3, _), (0, _), (1, _)]) C dX11_mark_171 rfl (by decide) rfl ?_
                refine V_iincN (lv' := [(4, _), (2, _), (6, _), (5, _), (3, _), (0, _), (1, _)]) C dX11_mark_172 rfl (b := 1) (by decide) (by decide) rfl ?_
                refine V_goto (tgt := 31) C dX11_mark_175 (by decide) ?_
                refine V_lv [0, 1, 4, 5, 6] rfl ?_
                first | (exfalso; omega) | (refine V_eq rfl (show _ = [(4, Value.int (nI (p + 1))), (2, Value.int (nI (bks (rac M m) (rnu M m) (p + 1)))), (3, Value.int (nI (beg (rac M m) (gN M 41 0 m) + 1))), (0, Value.ref (ad G 40 0)), (1, Value.int (nI m))] by show _ = [(4, Value.int (nI (p + 1))), (2, Value.int (nI (bks (rac M m) (rnu M m) p + bk1 (rac M m) (rnu M m) p))), (3, Value.int (nI (beg (rac M m) (gN M 41 0 m) + 1))), (0, Value.ref (ad G 40 0)), (1, Value.int (nI m))]; first | (rw [bk1_t h162]; rfl) | (rw [bk1_f h162]; rfl)) rfl rfl ?_; first | exact ih _ _ (by omega) (by omega) (hI.step8 (by omega) (by first | (unfold jgo; rw [if_neg (show ¬ (rac M m p = 6 ∨ rac M m p = 7) by omega)]; done) | (unfold jgo; rw [if_pos (show rac M m p = 6 ∨ rac M m p = 7 by omega), if_pos h127]; done) | (unfold jgo; rw [if_pos (show rac M m p = 6 ∨ rac M m p = 7 by omega), if_neg h127, htg]; done))) | exact ih _ _ (by omega) (by omega) (hI.step0 (by omega) (by first | (unfold jgo; rw [if_neg (show ¬ (rac M m p = 6 ∨ rac M m p = 7) by omega)]; done) | (unfold jgo; rw [if_pos (show rac M m p = 6 ∨ rac M m p = 7 by omega), if_pos h127]; done) | (unfold jgo; rw [if_pos (show rac M m p = 6 ∨ rac M m p = 7 by omega), if_neg h127, htg]; done))))
            · skip
              refine V_iload_n C dX11_mark_130 rfl rfl ?_
              refine V_iconst C (nI 2) dX11_mark_131 (by decide) ?_
              refine V_iload_n C dX11_mark_132 rfl rfl ?_
              refine V_imulN C dX11_mark_133 ?_
              refine V_iaddN C dX11_mark_134 ?_
              refine V_goto (tgt := 151) C dX11_mark_135 (by decide) ?_
              refine V_callV C [_, _, _] (ct_X11_lay (by omega)) cv_X11_lay lk_X11_123 in_40 rfl rfl ⟨Nat.le_of_ble_eq_true rfl, Nat.le_of_ble_eq_true rfl⟩ rfl rfl (Nat.le_of_ble_eq_true rfl) dX11_mark_151 (fun r M' hr => ?_)
              obtain ⟨rfl, rfl⟩ := hr
              refine V_iload_n C dX11_mark_154 rfl rfl ?_
              refine V_aload_n C dX11_mark_155 rfl rfl ?_
              refine V_iload_n C dX11_mark_156 rfl rfl ?_
              refine V_iload C dX11_mark_157 rfl ?_
              refine V_callV C [_, _] (ct_X11_isBack hm6 (RIm_SmR SmR_lay hmX) (by omega)) cv_X11_isBack lk_X11_108 in_40 rfl rfl ⟨Nat.le_of_ble_eq_true rfl, Nat.le_of_ble_eq_true rfl⟩ rfl rfl (Nat.le_of_ble_eq_true rfl) dX11_mark_159 (fun r M' hr => ?_)
              obtain ⟨rfl, rfl⟩ := hr
              rw [(rac_SmR (m := m) SmR_lay).1, (rac_SmR (m := m) SmR_lay).2.1, er1, er2]
              refine V_ifB_eq (tgt := 169) C dX11_mark_162 (by decide) (fun h162 => ?_) (fun h162 => ?_)
              · skip
                refine V_iconst C (nI 0) dX11_mark_169 (by decide) ?_
                refine V_iaddN C dX11_mark_170 ?_
                refine V_istore_n (lv' := [(2, _), (6, _), (5, _), (4, _), (3, _), (0, _), (1, _)]) C dX11_mark_171 rfl (by decide) rfl ?_
                refine V_iincN (lv' := [(4, _), (2, _), (6, _), (5, _), (3, _), (0, _), (1, _)]) C dX11_mark_172 rfl (b := 1) (by decide) (by decide) rfl ?_
                refine V_goto (tgt := 31) C dX11_mark_175 (by decide) ?_
                refine V_lv [0, 1, 4, 5, 6] rfl ?_
                first | (exfalso; omega) | (refine V_eq rfl (show _ = [(4, Value.int (nI (p + 1))), (2, Value.int (nI (bks (rac M m) (rnu M m) (p + 1)))), (3, Value.int (nI (beg (rac M m) (gN M 41 0 m) + 1))), (0, Value.ref (ad G 40 0)), (1, Value.int (nI m))] by show _ = [(4, Value.int (nI (p + 1))), (2, Value.int (nI (bks (rac M m) (rnu M m) p + bk1 (rac M m) (rnu M m) p))), (3, Value.int (nI (beg (rac M m) (gN M 41 0 m) + 1))), (0, Value.ref (ad G 40 0)), (1, Value.int (nI m))]; first | (rw [bk1_t h162]; rfl) | (rw [bk1_f h162]; rfl)) rfl rfl ?_; first | exact ih _ _ (by omega) (by omega) (hI.step8 (by omega) (by first | (unfold jgo; rw [if_neg (show ¬ (rac M m p = 6 ∨ rac M m p = 7) by omega)]; done) | (unfold jgo; rw [if_pos (show rac M m p = 6 ∨ rac M m p = 7 by omega), if_pos h127]; done) | (unfold jgo; rw [if_pos (show rac M m p = 6 ∨ rac M m p = 7 by omega), if_neg h127, htg]; done))) | exact ih _ _ (by omega) (by omega) (hI.step0 (by omega) (by first | (unfold jgo; rw [if_neg (show ¬ (rac M m p = 6 ∨ rac M m p = 7) by omega)]; done) | (unfold jgo; rw [if_pos (show rac M m p = 6 ∨ rac M m p = 7 by omega), if_pos h127]; done) | (unfold jgo; rw [if_pos (show rac M m p = 6 ∨ rac M m p = 7 by omega), if_neg h127, htg]; done))))
              · skip
                refine V_iconst C (nI 1) dX11_mark_165 (by decide) ?_
                refine V_goto (tgt := 170) C dX11_mark_166 (by decide) ?_
                refine V_iaddN C dX11_mark_170 ?_
                refine V_istore_n (lv' := [(2, _), (6, _), (5, _), (4, _), (3, _), (0, _), (1, _)]) C dX11_mark_171 rfl (by decide) rfl ?_
                refine V_iincN (lv' := [(4, _), (2, _), (6, _), (5, _), (3, _), (0, _), (1, _)]) C dX11_mark_172 rfl (b := 1) (by decide) (by decide) rfl ?_
                refine V_goto (tgt := 31) C dX11_mark_175 (by decide) ?_
                refine V_lv [0, 1, 4, 5, 6] rfl ?_
                first | (exfalso; omega) | (refine V_eq rfl (show _ = [(4, Value.int (nI (p + 1))), (2, Value.int (nI (bks (rac M m) (rnu M m) (p + 1)))), (3, Value.int (nI (beg (rac M m) (gN M 41 0 m) + 1))), (0, Value.ref (ad G 40 0)), (1, Value.int (nI m))] by show _ = [(4, Value.int (nI (p + 1))), (2, Value.int (nI (bks (rac M m) (rnu M m) p + bk1 (rac M m) (rnu M m) p))), (3, Value.int (nI (beg (rac M m) (gN M 41 0 m) + 1))), (0, Value.ref (ad G 40 0)), (1, Value.int (nI m))]; first | (rw [bk1_t h162]; rfl) | (rw [bk1_f h162]; rfl)) rfl rfl ?_; first | exact ih _ _ (by omega) (by omega) (hI.step8 (by omega) (by first | (unfold jgo; rw [if_neg (show ¬ (rac M m p = 6 ∨ rac M m p = 7) by omega)]; done) | (unfold jgo; rw [if_pos (show rac M m p = 6 ∨ rac M m p = 7 by omega), if_pos h127]; done) | (unfold jgo; rw [if_pos (show rac M m p = 6 ∨ rac M m p = 7 by omega), if_neg h127, htg]; done))) | exact ih _ _ (by omega) (by omega) (hI.step0 (by omega) (by first | (unfold jgo; rw [if_neg (show ¬ (rac M m p = 6 ∨ rac M m p = 7) by omega)]; done) | (unfold jgo; rw [if_pos (show rac M m p = 6 ∨ rac M m p = 7 by omega), if_pos h127]; done) | (unfold jgo; rw [if_pos (show rac M m p = 6 ∨ rac M m p = 7 by omega), if_neg h127, htg]; done))))
          · skip
            refine V_aload_n C dX11_mark_88 rfl rfl ?_
            refine gf_X11_13 C dX11_mark_89 ?_
            refine V_iload C dX11_mark_92 rfl ?_
            refine ld_42 C (by omega) dX11_mark_94 ?_
            first | rw [ha42] | rw [SmR_lay.1 42 0 _ (by omega) (by omega) (by omega), ha42]
            refine V_bipush C (nI 7) dX11_mark_95 (by decide) ?_
            refine V_icmpN_ne (tgt := 104) C dX11_mark_97 (by omega) (by omega) (by decide) (fun h97 => ?_) (fun h97 => ?_)
            · skip
              refine V_iconst C (nI 0) dX11_mark_104 (by decide) ?_
              refine V_istore (lv' := [(6, _), (5, _), (4, _), (2, _), (3, _), (0, _), (1, _)]) C dX11_mark_105 (by decide) rfl ?_
              refine V_aload_n C dX11_mark_107 rfl rfl ?_
              refine V_iconst C (nI 0) dX11_mark_108 (by decide) ?_
              refine V_iload C dX11_mark_109 rfl ?_
              refine V_iload C dX11_mark_111 rfl ?_
              refine V_ifN_ne (tgt := 120) C dX11_mark_113 (by omega) (by decide) (fun h113 => absurd rfl h113) (fun h113 => ?_)
              refine V_iconst C (-1) dX11_mark_116 (by decide) ?_
              refine V_goto (tgt := 151) C dX11_mark_117 (by decide) ?_
              refine V_callV C [_, _, _] (ct_X11_lay (by omega)) cv_X11_lay lk_X11_123 in_40 rfl rfl ⟨Nat.le_of_ble_eq_true rfl, Nat.le_of_ble_eq_true rfl⟩ rfl rfl (Nat.le_of_ble_eq_true rfl) dX11_mark_151 (fun r M' hr => ?_)
              obtain ⟨rfl, rfl⟩ := hr
              refine V_iload_n C dX11_mark_154 rfl rfl ?_
              refine V_aload_n C dX11_mark_155 rfl rfl ?_
              refine V_iload_n C dX11_mark_156 rfl rfl ?_
              refine V_iload C dX11_mark_157 rfl ?_
              refine V_callV C [_, _] (ct_X11_isBack hm6 (RIm_SmR SmR_lay hmX) (by omega)) cv_X11_isBack lk_X11_108 in_40 rfl rfl ⟨Nat.le_of_ble_eq_true rfl, Nat.le_of_ble_eq_true rfl⟩ rfl rfl (Nat.le_of_ble_eq_true rfl) dX11_mark_159 (fun r M' hr => ?_)
              obtain ⟨rfl, rfl⟩ := hr
              rw [(rac_SmR (m := m) SmR_lay).1, (rac_SmR (m := m) SmR_lay).2.1, er1, er2]
              refine V_ifB_eq (tgt := 169) C dX11_mark_162 (by decide) (fun h162 => ?_) (fun h162 => ?_)
              · skip
                refine V_iconst C (nI 0) dX11_mark_169 (by decide) ?_
                refine V_iaddN C dX11_mark_170 ?_
                refine V_istore_n (lv' := [(2, _), (6, _), (5, _), (4, _), (3, _), (0, _), (1, _)]) C dX11_mark_171 rfl (by decide) rfl ?_
                refine V_iincN (lv' := [(4, _), (2, _), (6, _), (5, _), (3, _), (0, _), (1, _)]) C dX11_mark_172 rfl (b := 1) (by decide) (by decide) rfl ?_
                refine V_goto (tgt := 31) C dX11_mark_175 (by decide) ?_
                refine V_lv [0, 1, 4, 5, 6] rfl ?_
                first | (exfalso; omega) | (refine V_eq rfl (show _ = [(4, Value.int (nI (p + 1))), (2, Value.int (nI (bks (rac M m) (rnu M m) (p + 1)))), (3, Value.int (nI (beg (rac M m) (gN M 41 0 m) + 1))), (0, Value.ref (ad G 40 0)), (1, Value.int (nI m))] by show _ = [(4, Value.int (nI (p + 1))), (2, Value.int (nI (bks (rac M m) (rnu M m) p + bk1 (rac M m) (rnu M m) p))), (3, Value.int (nI (beg (rac M m) (gN M 41 0 m) + 1))), (0, Value.ref (ad G 40 0)), (1, Value.int (nI m))]; first | (rw [bk1_t h162]; rfl) | (rw [bk1_f h162]; rfl)) rfl rfl ?_; first | exact ih _ _ (by omega) (by omega) (hI.step8 (by omega) (by first | (unfold jgo; rw [if_neg (show ¬ (rac M m p = 6 ∨ rac M m p = 7) by omega)]; done) | (unfold jgo; rw [if_pos (show rac M m p = 6 ∨ rac M m p = 7 by omega), if_pos h127]; done) | (unfold jgo; rw [if_pos (show rac M m p = 6 ∨ rac M m p = 7 by omega), if_neg h127, htg]; done))) | exact ih _ _ (by omega) (by omega) (hI.step0 (by omega) (by first | (unfold jgo; rw [if_neg (show ¬ (rac M m p = 6 ∨ rac M m p = 7) by omega)]; done) | (unfold jgo; rw [if_pos (show rac M m p = 6 ∨ rac M m p = 7 by omega), if_pos h127]; done) | (unfold jgo; rw [if_pos (show rac M m p = 6 ∨ rac M m p = 7 by omega), if_neg h127, htg]; done))))
              · skip
                refine V_iconst C (nI 1) dX11_mark_165 (by decide) ?_
                refine V_goto (tgt := 170) C dX11_mark_166 (by decide) ?_
                refine V_iaddN C dX11_mark_170 ?_
                refine V_istore_n (lv' := [(2, _), (6, _), (5, _), (4, _), (3, _), (0, _), (1, _)]) C dX11_mark_171 rfl (by decide) rfl ?_
                refine V_iincN (lv' := [(4, _), (2, _), (6, _), (5, _), (3, _), (0, _), (1, _)]) C dX11_mark_172 rfl (b := 1) (by decide) (by decide) rfl ?_
                refine V_goto (tgt := 31) C dX11_mark_175 (by decide) ?_
                refine V_lv [0, 1, 4, 5, 6] rfl ?_
                first | (exfalso; omega) | (refine V_eq rfl (show _ = [(4, Value.int (nI (p + 1))), (2, Value.int (nI (bks (rac M m) (rnu M m) (p + 1)))), (3, Value.int (nI (beg (rac M m) (gN M 41 0 m) + 1))), (0, Value.ref (ad G 40 0)), (1, Value.int (nI m))] by show _ = [(4, Value.int (nI (p + 1))), (2, Value.int (nI (bks (rac M m) (rnu M m) p + bk1 (rac M m) (rnu M m) p))), (3, Value.int (nI (beg (rac M m) (gN M 41 0 m) + 1))), (0, Value.ref (ad G 40 0)), (1, Value.int (nI m))]; first | (rw [bk1_t h162]; rfl) | (rw [bk1_f h162]; rfl)) rfl rfl ?_; first | exact ih _ _ (by omega) (by omega) (hI.step8 (by omega) (by first | (unfold jgo; rw [if_neg (show ¬ (rac M m p = 6 ∨ rac M m p = 7) by omega)]; done) | (unfold jgo; rw [if_pos (show rac M m p = 6 ∨ rac M m p = 7 by omega), if_pos h127]; done) | (unfold jgo; rw [if_pos (show rac M m p = 6 ∨ rac M m p = 7 by omega), if_neg h127, htg]; done))) | exact ih _ _ (by omega) (by omega) (hI.step0 (by omega) (by first | (unfold jgo; rw [if_neg (show ¬ (rac M m p = 6 ∨ rac M m p = 7) by omega)]; done) | (unfold jgo; rw [if_pos (show rac M m p = 6 ∨ rac M m p = 7 by omega), if_pos h127]; done) | (unfold jgo; rw [if_pos (show rac M m p = 6 ∨ rac M m p = 7 by omega), if_neg h127, htg]; done))))
            · skip
              refine V_iconst C (nI 1) dX11_mark_100 (by decide) ?_
              refine V_goto (tgt := 105) C dX11_mark_101 (by decide) ?_
              refine V_istore (lv' := [(6, _), (5, _), (4, _), (2, _), (3, _), (0, _), (1, _)]) C dX11_mark_105 (by decide) rfl ?_
              refine V_aload_n C dX11_mark_107 rfl rfl ?_
              refine V_iconst C (nI 0) dX11_mark_108 (by decide) ?_
              refine V_iload C dX11_mark_109 rfl ?_
              refine V_iload C dX11_mark_111 rfl ?_
              refine V_ifN_ne (tgt := 120) C dX11_mark_113 (by omega) (by decide) (fun h113 => ?_) (fun h113 => absurd h113 (by decide))
              refine V_aload_n C dX11_mark_120 rfl rfl ?_
              refine V_iload_n C dX11_mark_121 rfl rfl ?_
              refine V_iload C dX11_mark_122 rfl ?_
              refine V_callV C [_, _] (ct_X11_isBack hm6 hmX (by omega)) cv_X11_isBack lk_X11_108 in_40 rfl rfl ⟨Nat.le_of_ble_eq_true rfl, Nat.le_of_ble_eq_true rfl⟩ rfl rfl (Nat.le_of_ble_eq_true rfl) dX11_mark_124 (fun r M' hr => ?_)
              obtain ⟨rfl, rfl⟩ := hr
              rw [er1, er2]
              refine V_ifB_eq (tgt := 138) C dX11_mark_127 (by decide) (fun h127 => ?_) (fun h127 => ?_)
              · skip
                obtain ⟨v, hv1, hv2⟩ := (hm.2.2.2.2 p (by omega)).1 (show rac M m p = 6 ∨ rac M m p = 7 by omega)
                have htg : tgt (rnu M m) (gN M 41 0 m) p = min v (gN M 41 0 m) := tgt_of hv2 hv1
                refine V_aload_n C dX11_mark_138 rfl rfl ?_
                refine V_iload_n C dX11_mark_139 rfl rfl ?_
                refine V_aload_n C dX11_mark_140 rfl rfl ?_
                refine gf_X11_22 C dX11_mark_141 ?_
                refine V_iload C dX11_mark_144 rfl ?_
                refine ld_45 C (by omega) dX11_mark_146 ?_
                first | rw [ha45] | rw [SmR_lay.2.2, ha45]
                refine V_l2iN C dX11_mark_147 hv2 ?_
                refine V_callV C [_, _] (ct_X11_beginOf hm6 hmX (by omega)) cv_X11_beginOf lk_X11_127 in_40 rfl rfl ⟨Nat.le_of_ble_eq_true rfl, Nat.le_of_ble_eq_true rfl⟩ rfl rfl (Nat.le_of_ble_eq_true rfl) dX11_mark_148 (fun r M' hr => ?_)
                obtain ⟨rfl, rfl⟩ := hr
                rw [er1, e41]
                refine V_callV C [_, _, _] (ct_X11_lay (by omega)) cv_X11_lay lk_X11_123 in_40 rfl rfl ⟨Nat.le_of_ble_eq_true rfl, Nat.le_of_ble_eq_true rfl⟩ rfl rfl (Nat.le_of_ble_eq_true rfl) dX11_mark_151 (fun r M' hr => ?_)
                obtain ⟨rfl, rfl⟩ := hr
                refine V_iload_n C dX11_mark_154 rfl rfl ?_
                refine V_aload_n C dX11_mark_155 rfl rfl ?_
                refine V_iload_n C dX11_mark_156 rfl rfl ?_
                refine V_iload C dX11_mark_157 rfl ?_
                refine V_callV C [_, _] (ct_X11_isBack hm6 (RIm_SmR SmR_lay hmX) (by omega)) cv_X11_isBack lk_X11_108 in_40 rfl rfl ⟨Nat.le_of_ble_eq_true rfl, Nat.le_of_ble_eq_true rfl⟩ rfl rfl (Nat.le_of_ble_eq_true rfl) dX11_mark_159 (fun r M' hr => ?_)
                obtain ⟨rfl, rfl⟩ := hr
                rw [(rac_SmR (m := m) SmR_lay).1, (rac_SmR (m := m) SmR_lay).2.1, er1, er2]
                refine V_ifB_eq (tgt := 169) C dX11_mark_162 (by decide) (fun h162 => ?_) (fun h162 => ?_)
                · skip
                  refine V_iconst C (nI 0) dX11_mark_169 (by decide) ?_
                  refine V_iaddN C dX11_mark_170 ?_
                  refine V_istore_n (lv' := [(2, _), (6, _), (5, _), (4, _), (3, _), (0, _), (1, _)]) C dX11_mark_171 rfl (by decide) rfl ?_
                  refine V_iincN (lv' := [(4, _), (2, _), (6, _), (5, _), (3, _), (0, _), (1, _)]) C dX11_mark_172 rfl (b := 1) (by decide) (by decide) rfl ?_
                  refine V_goto (tgt := 31) C dX11_mark_175 (by decide) ?_
                  refine V_lv [0, 1, 4, 5, 6] rfl ?_
                  first | (exfalso; omega) | (refine V_eq rfl (show _ = [(4, Value.int (nI (p + 1))), (2, Value.int (nI (bks (rac M m) (rnu M m) (p + 1)))), (3, Value.int (nI (beg (rac M m) (gN M 41 0 m) + 1))), (0, Value.ref (ad G 40 0)), (1, Value.int (nI m))] by show _ = [(4, Value.int (nI (p + 1))), (2, Value.int (nI (bks (rac M m) (rnu M m) p + bk1 (rac M m) (rnu M m) p))), (3, Value.int (nI (beg (rac M m) (gN M 41 0 m) + 1))), (0, Value.ref (ad G 40 0)), (1, Value.int (nI m))]; first | (rw [bk1_t h162]; rfl) | (rw [bk1_f h162]; rfl)) rfl rfl ?_; first | exact ih _ _ (by omega) (by omega) (hI.step8 (by omega) (by first | (unfold jgo; rw [if_neg (show ¬ (rac M m p = 6 ∨ rac M m p = 7) by omega)]; done) | (unfold jgo; rw [if_pos (show rac M m p = 6 ∨ rac M m p = 7 by omega), if_pos h127]; done) | (unfold jgo; rw [if_pos (show rac M m p = 6 ∨ rac M m p = 7 by omega), if_neg h127, htg]; done))) | exact ih _ _ (by omega) (by omega) (hI.step0 (by omega) (by first | (unfold jgo; rw [if_neg (show ¬ (rac M m p = 6 ∨ rac M m p = 7) by omega)]; done) | (unfold jgo; rw [if_pos (show rac M m p = 6 ∨ rac M m p = 7 by omega), if_pos h127]; done) | (unfold jgo; rw [if_pos (show rac M m p = 6 ∨ rac M m p = 7 by omega), if_neg h127, htg]; done))))
                · skip
                  refine V_iconst C (nI 1) dX11_mark_165 (by decide) ?_
                  refine V_goto (tgt := 170) C dX11_mark_166 (by decide) ?_
                  refine V_iaddN C dX11_mark_170 ?_
                  refine V_istore_n (lv' := [(2, _), (6, _), (5, _), (4, _), (3, _), (0, _), (1, _)]) C dX11_mark_171 rfl (by decide) rfl ?_
                  refine V_iincN (lv' := [(4, _), (2, _), (6, _), (5, _), (3, _), (0, _), (1, _)]) C dX11_mark_172 rfl (b := 1) (by decide) (by decide) rfl ?_
                  refine V_goto (tgt := 31) C dX11_mark_175 (by decide) ?_
                  refine V_lv [0, 1, 4, 5, 6] rfl ?_
                  first | (exfalso; omega) | (refine V_eq rfl (show _ = [(4, Value.int (nI (p + 1))), (2, Value.int (nI (bks (rac M m) (rnu M m) (p + 1)))), (3, Value.int (nI (beg (rac M m) (gN M 41 0 m) + 1))), (0, Value.ref (ad G 40 0)), (1, Value.int (nI m))] by show _ = [(4, Value.int (nI (p + 1))), (2, Value.int (nI (bks (rac M m) (rnu M m) p + bk1 (rac M m) (rnu M m) p))), (3, Value.int (nI (beg (rac M m) (gN M 41 0 m) + 1))), (0, Value.ref (ad G 40 0)), (1, Value.int (nI m))]; first | (rw [bk1_t h162]; rfl) | (rw [bk1_f h162]; rfl)) rfl rfl ?_; first | exact ih _ _ (by omega) (by omega) (hI.step8 (by omega) (by first | (unfold jgo; rw [if_neg (show ¬ (rac M m p = 6 ∨ rac M m p = 7) by omega)]; done) | (unfold jgo; rw [if_pos (show rac M m p = 6 ∨ rac M m p = 7 by omega), if_pos h127]; done) | (unfold jgo; rw [if_pos (show rac M m p = 6 ∨ rac M m p = 7 by omega), if_neg h127, htg]; done))) | exact ih _ _ (by omega) (by omega) (hI.step0 (by omega) (by first | (unfold jgo; rw [if_neg (show ¬ (rac M m p = 6 ∨ rac M m p = 7) by omega)]; done) | (unfold jgo; rw [if_pos (show rac M m p = 6 ∨ rac M m p = 7 by omega), if_pos h127]; done) | (unfold jgo; rw [if_pos (show rac M m p = 6 ∨ rac M m p = 7 by omega), if_neg h127, htg]; done))))
              · skip
                refine V_iload_n C dX11_mark_130 rfl rfl ?_
                refine V_iconst C (nI 2) dX11_mark_131 (by decide) ?_
                refine V_iload_n C dX11_mark_132 rfl rfl ?_
                refine V_imulN C dX11_mark_133 ?_
                refine V_iaddN C dX11_mark_134 ?_
                refine V_goto (tgt := 151) C dX11_mark_135 (by decide) ?_
                refine V_callV C [_, _, _] (ct_X11_lay (by omega)) cv_X11_lay lk_X11_123 in_40 rfl rfl ⟨Nat.le_of_ble_eq_true rfl, Nat.le_of_ble_eq_true rfl⟩ rfl rfl (Nat.le_of_ble_eq_true rfl) dX11_mark_151 (fun r M' hr => ?_)
                obtain ⟨rfl, rfl⟩ := hr
                refine V_iload_n C dX11_mark_154 rfl rfl ?_
                refine V_aload_n C dX11_mark_155 rfl rfl ?_
                refine V_iload_n C dX11_mark_156 rfl rfl ?_
                refine V_iload C dX11_mark_157 rfl ?_
                refine V_callV C [_, _] (ct_X11_isBack hm6 (RIm_SmR SmR_lay hmX) (by omega)) cv_X11_isBack lk_X11_108 in_40 rfl rfl ⟨Nat.le_of_ble_eq_true rfl, Nat.le_of_ble_eq_true rfl⟩ rfl rfl (Nat.le_of_ble_eq_true rfl) dX11_mark_159 (fun r M' hr => ?_)
                obtain ⟨rfl, rfl⟩ := hr
                rw [(rac_SmR (m := m) SmR_lay).1, (rac_SmR (m := m) SmR_lay).2.1, er1, er2]
                refine V_ifB_eq (tgt := 169) C dX11_mark_162 (by decide) (fun h162 => ?_) (fun h162 => ?_)
                · skip
                  refine V_iconst C (nI 0) dX11_mark_169 (by decide) ?_
                  refine V_iaddN C dX11_mark_170 ?_
                  refine V_istore_n (lv' := [(2, _), (6, _), (5, _), (4, _), (3, _), (0, _), (1, _)]) C dX11_mark_171 rfl (by decide) rfl ?_
                  refine V_iincN (lv' := [(4, _), (2, _), (6, _), (5, _), (3, _), (0, _), (1, _)]) C dX11_mark_172 rfl (b := 1) (by decide) (by decide) rfl ?_
                  refine V_goto (tgt := 31) C dX11_mark_175 (by decide) ?_
                  refine V_lv [0, 1, 4, 5, 6] rfl ?_
                  first | (exfalso; omega) | (refine V_eq rfl (show _ = [(4, Value.int (nI (p + 1))), (2, Value.int (nI (bks (rac M m) (rnu M m) (p + 1)))), (3, Value.int (nI (beg (rac M m) (gN M 41 0 m) + 1))), (0, Value.ref (ad G 40 0)), (1, Value.int (nI m))] by show _ = [(4, Value.int (nI (p + 1))), (2, Value.int (nI (bks (rac M m) (rnu M m) p + bk1 (rac M m) (rnu M m) p))), (3, Value.int (nI (beg (rac M m) (gN M 41 0 m) + 1))), (0, Value.ref (ad G 40 0)), (1, Value.int (nI m))]; first | (rw [bk1_t h162]; rfl) | (rw [bk1_f h162]; rfl)) rfl rfl ?_; first | exact ih _ _ (by omega) (by omega) (hI.step8 (by omega) (by first | (unfold jgo; rw [if_neg (show ¬ (rac M m p = 6 ∨ rac M m p = 7) by omega)]; done) | (unfold jgo; rw [if_pos (show rac M m p = 6 ∨ rac M m p = 7 by omega), if_pos h127]; done) | (unfold jgo; rw [if_pos (show rac M m p = 6 ∨ rac M m p = 7 by omega), if_neg h127, htg]; done))) | exact ih _ _ (by omega) (by omega) (hI.step0 (by omega) (by first | (unfold jgo; rw [if_neg (show ¬ (rac M m p = 6 ∨ rac M m p = 7) by omega)]; done) | (unfold jgo; rw [if_pos (show rac M m p = 6 ∨ rac M m p = 7 by omega), if_pos h127]; done) | (unfold jgo; rw [if_pos (show rac M m p = 6 ∨ rac M m p = 7 by omega), if_neg h127, htg]; done))))
                · skip
                  refine V_iconst C (nI 1) dX11_mark_165 (by decide) ?_
                  refine V_goto (tgt := 170) C dX11_mark_166 (by decide) ?_
                  refine V_iaddN C dX11_mark_170 ?_
                  refine V_istore_n (lv' := [(2, _), (6, _), (5, _), (4, _), (3, _), (0, _), (1, _)]) C dX11_mark_171 rfl (by decide) rfl ?_
                  refine V_iincN (lv' := [(4, _), (2, _), (6, _), (5, _), (3, _), (0, _), (1, _)]) C dX11_mark_172 rfl (b := 1) (by decide) (by decide) rfl ?_
                  refine V_goto (tgt := 31) C dX11_mark_175 (by decide) ?_
                  refine V_lv [0, 1, 4, 5, 6] rfl ?_
                  first | (exfalso; omega) | (refine V_eq rfl (show _ = [(4, Value.int (nI (p + 1))), (2, Value.int (nI (bks (rac M m) (rnu M m) (p + 1)))), (3, Value.int (nI (beg (rac M m) (gN M 41 0 m) + 1))), (0, Value.ref (ad G 40 0)), (1, Value.int (nI m))] by show _ = [(4, Value.int (nI (p + 1))), (2, Value.int (nI (bks (rac M m) (rnu M m) p + bk1 (rac M m) (rnu M m) p))), (3, Value.int (nI (beg (rac M m) (gN M 41 0 m) + 1))), (0, Value.ref (ad G 40 0)), (1, Value.int (nI m))]; first | (rw [bk1_t h162]; rfl) | (rw [bk1_f h162]; rfl)) rfl rfl ?_; first | exact ih _ _ (by omega) (by omega) (hI.step8 (by omega) (by first | (unfold jgo; rw [if_neg (show ¬ (rac M m p = 6 ∨ rac M m p = 7) by omega)]; done) | (unfold jgo; rw [if_pos (show rac M m p = 6 ∨ rac M m p = 7 by omega), if_pos h127]; done) | (unfold jgo; rw [if_pos (show rac M m p = 6 ∨ rac M m p = 7 by omega), if_neg h127, htg]; done))) | exact ih _ _ (by omega) (by omega) (hI.step0 (by omega) (by first | (unfold jgo; rw [if_neg (show ¬ (rac M m p = 6 ∨ rac M m p = 7) by omega)]; done) | (unfold jgo; rw [if_pos (show rac M m p = 6 ∨ rac M m p = 7 by omega), if_pos h127]; done) | (unfold jgo; rw [if_pos (show rac M m p = 6 ∨ rac M m p = 7 by omega), if_neg h127, htg]; done))))
        · skip
          refine V_aload_n C dX11_mark_63 rfl rfl ?_
          refine V_iconst C (nI 2) dX11_mark_64 (by decide) ?_
          refine V_aload_n C dX11_mark_65 rfl rfl ?_
          refine gf_X11_16 C dX11_mark_66 ?_
          refine V_iload C dX11_mark_69 rfl ?_
          refine ld_43 C (by omega) dX11_mark_71 ?_
          rw [ha43]
          refine V_iconst C (-1) dX11_mark_72 (by decide) ?_
          refine V_callV C [_, _, _] (ct_X11_lay (by omega)) cv_X11_lay lk_X11_123 in_40 rfl rfl ⟨Nat.le_of_ble_eq_true rfl, Nat.le_of_ble_eq_true rfl⟩ rfl rfl (Nat.le_of_ble_eq_true rfl) dX11_mark_73 (fun r M' hr => ?_)
          obtain ⟨rfl, rfl⟩ := hr
          have hS2 := hSX.tr (SmR_lay (M := X) (a := 2) (n := rfs M m p) (g := -1))
          have hm2 := RIm_SmR hS2 hm
          have hz2 : gN (layE X 2 (rfs M m p) (-1)) 40 0 39 = beg (rac M m) p + 1 := by rw [lay_sz, i2]
          obtain ⟨es1, es2, es3, es4⟩ := rac_SmR (m := m) hS2
          refine V_aload_n C dX11_mark_76 rfl rfl ?_
          refine gf_X11_13 C dX11_mark_77 ?_
          refine V_iload C dX11_mark_80 rfl ?_
          refine ld_42 C (by omega) dX11_mark_82 ?_
          first | rw [ha42] | rw [SmR_lay.1 42 0 _ (by omega) (by omega) (by omega), ha42]
          refine V_bipush C (nI 6) dX11_mark_83 (by decide) ?_
          refine V_icmpN_eq (tgt := 100) C dX11_mark_85 (by omega) (by omega) (by decide) (fun h85 => ?_) (fun h85 => ?_)
          · skip
            refine V_iconst C (nI 1) dX11_mark_100 (by decide) ?_
            refine V_goto (tgt := 105) C dX11_mark_101 (by decide) ?_
            refine V_istore (lv' := [(6, _), (5, _), (4, _), (2, _), (3, _), (0, _), (1, _)]) C dX11_mark_105 (by decide) rfl ?_
            refine V_aload_n C dX11_mark_107 rfl rfl ?_
            refine V_iconst C (nI 0) dX11_mark_108 (by decide) ?_
            refine V_iload C dX11_mark_109 rfl ?_
            refine V_iload C dX11_mark_111 rfl ?_
            refine V_ifN_ne (tgt := 120) C dX11_mark_113 (by omega) (by decide) (fun h113 => ?_) (fun h113 => absurd h113 (by decide))
            refine V_aload_n C dX11_mark_120 rfl rfl ?_
            refine V_iload_n C dX11_mark_121 rfl rfl ?_
            refine V_iload C dX11_mark_122 rfl ?_
            refine V_callV C [_, _] (ct_X11_isBack hm6 hm2 (by omega)) cv_X11_isBack lk_X11_108 in_40 rfl rfl ⟨Nat.le_of_ble_eq_true rfl, Nat.le_of_ble_eq_true rfl⟩ rfl rfl (Nat.le_of_ble_eq_true rfl) dX11_mark_124 (fun r M' hr => ?_)
            obtain ⟨rfl, rfl⟩ := hr
            rw [es1, es2]
            refine V_ifB_eq (tgt := 138) C dX11_mark_127 (by decide) (fun h127 => ?_) (fun h127 => ?_)
            · skip
              obtain ⟨v, hv1, hv2⟩ := (hm.2.2.2.2 p (by omega)).1 (show rac M m p = 6 ∨ rac M m p = 7 by omega)
              have htg : tgt (rnu M m) (gN M 41 0 m) p = min v (gN M 41 0 m) := tgt_of hv2 hv1
              refine V_aload_n C dX11_mark_138 rfl rfl ?_
              refine V_iload_n C dX11_mark_139 rfl rfl ?_
              refine V_aload_n C dX11_mark_140 rfl rfl ?_
              refine gf_X11_22 C dX11_mark_141 ?_
              refine V_iload C dX11_mark_144 rfl ?_
              refine ld_45 C (by omega) dX11_mark_146 ?_
              first | rw [ha45] | rw [SmR_lay.2.2, ha45]
              refine V_l2iN C dX11_mark_147 hv2 ?_
              refine V_callV C [_, _] (ct_X11_beginOf hm6 hm2 (by omega)) cv_X11_beginOf lk_X11_127 in_40 rfl rfl ⟨Nat.le_of_ble_eq_true rfl, Nat.le_of_ble_eq_true rfl⟩ rfl rfl (Nat.le_of_ble_eq_true rfl) dX11_mark_148 (fun r M' hr => ?_)
              obtain ⟨rfl, rfl⟩ := hr
              rw [es1, show gN (layE X 2 (rfs M m p) (-1)) 41 0 m = gN M 41 0 m from hS2.1 41 0 m (by omega) (by omega) (by omega)]
              refine V_callV C [_, _, _] (ct_X11_lay (by omega)) cv_X11_lay lk_X11_123 in_40 rfl rfl ⟨Nat.le_of_ble_eq_true rfl, Nat.le_of_ble_eq_true rfl⟩ rfl rfl (Nat.le_of_ble_eq_true rfl) dX11_mark_151 (fun r M' hr => ?_)
              obtain ⟨rfl, rfl⟩ := hr
              refine V_iload_n C dX11_mark_154 rfl rfl ?_
              refine V_aload_n C dX11_mark_155 rfl rfl ?_
              refine V_iload_n C dX11_mark_156 rfl rfl ?_
              refine V_iload C dX11_mark_157 rfl ?_
              refine V_callV C [_, _] (ct_X11_isBack hm6 (RIm_SmR SmR_lay hm2) (by omega)) cv_X11_isBack lk_X11_108 in_40 rfl rfl ⟨Nat.le_of_ble_eq_true rfl, Nat.le_of_ble_eq_true rfl⟩ rfl rfl (Nat.le_of_ble_eq_true rfl) dX11_mark_159 (fun r M' hr => ?_)
              obtain ⟨rfl, rfl⟩ := hr
              rw [(rac_SmR (m := m) SmR_lay).1, (rac_SmR (m := m) SmR_lay).2.1, es1, es2]
              refine V_ifB_eq (tgt := 169) C dX11_mark_162 (by decide) (fun h162 => ?_) (fun h162 => ?_)
              · skip
                refine V_iconst C (nI 0) dX11_mark_169 (by decide) ?_
                refine V_iaddN C dX11_mark_170 ?_
                refine V_istore_n (lv' := [(2, _), (6, _), (5, _), (4, _), (3, _), (0, _), (1, _)]) C dX11_mark_171 rfl (by decide) rfl ?_
                refine V_iincN (lv' := [(4, _), (2, _), (6, _), (5, _), (3, _), (0, _), (1, _)]) C dX11_mark_172 rfl (b := 1) (by decide) (by decide) rfl ?_
                refine V_goto (tgt := 31) C dX11_mark_175 (by decide) ?_
                refine V_lv [0, 1, 4, 5, 6] rfl ?_
                first | (exfalso; omega) | (refine V_eq rfl (show _ = [(4, Value.int (nI (p + 1))), (2, Value.int (nI (bks (rac M m) (rnu M m) (p + 1)))), (3, Value.int (nI (beg (rac M m) (gN M 41 0 m) + 1))), (0, Value.ref (ad G 40 0)), (1, Value.int (nI m))] by show _ = [(4, Value.int (nI (p + 1))), (2, Value.int (nI (bks (rac M m) (rnu M m) p + bk1 (rac M m) (rnu M m) p))), (3, Value.int (nI (beg (rac M m) (gN M 41 0 m) + 1))), (0, Value.ref (ad G 40 0)), (1, Value.int (nI m))]; first | (rw [bk1_t h162]; rfl) | (rw [bk1_f h162]; rfl)) rfl rfl ?_; first | exact ih _ _ (by omega) (by omega) (hI.step8 (by omega) (by first | (unfold jgo; rw [if_neg (show ¬ (rac M m p = 6 ∨ rac M m p = 7) by omega)]; done) | (unfold jgo; rw [if_pos (show rac M m p = 6 ∨ rac M m p = 7 by omega), if_pos h127]; done) | (unfold jgo; rw [if_pos (show rac M m p = 6 ∨ rac M m p = 7 by omega), if_neg h127, htg]; done))) | exact ih _ _ (by omega) (by omega) (hI.step0 (by omega) (by first | (unfold jgo; rw [if_neg (show ¬ (rac M m p = 6 ∨ rac M m p = 7) by omega)]; done) | (unfold jgo; rw [if_pos (show rac M m p = 6 ∨ rac M m p = 7 by omega), if_pos h127]; done) | (unfold jgo; rw [if_pos (show rac M m p = 6 ∨ rac M m p = 7 by omega), if_neg h127, htg]; done))))
              · skip
                refine V_iconst C (nI 1) dX11_mark_165 (by decide) ?_
                refine V_goto (tgt := 170) C dX11_mark_166 (by decide) ?_
                refine V_iaddN C dX11_mark_170 ?_
                refine V_istore_n (lv' := [(2, _), (6, _), (5, _), (4, _), (3, _), (0, _), (1, _)]) C dX11_mark_171 rfl (by decide) rfl ?_
                refine V_iincN (lv' := [(4, _), (2, _), (6, _), (5, _), (3, _), (0, _), (1, _)]) C dX11_mark_172 rfl (b := 1) (by decide) (by decide) rfl ?_
                refine V_goto (tgt := 31) C dX11_mark_175 (by decide) ?_
                refine V_lv [0, 1, 4, 5, 6] rfl ?_
                first | (exfalso; omega) | (refine V_eq rfl (show _ = [(4, Value.int (nI (p + 1))), (2, Value.int (nI (bks (rac M m) (rnu M m) (p + 1)))), (3, Value.int (nI (beg (rac M m) (gN M 41 0 m) + 1))), (0, Value.ref (ad G 40 0)), (1, Value.int (nI m))] by show _ = [(4, Value.int (nI (p + 1))), (2, Value.int (nI (bks (rac M m) (rnu M m) p + bk1 (rac M m) (rnu M m) p))), (3, Value.int (nI (beg (rac M m) (gN M 41 0 m) + 1))), (0, Value.ref (ad G 40 0)), (1, Value.int (nI m))]; first | (rw [bk1_t h162]; rfl) | (rw [bk1_f h162]; rfl)) rfl rfl ?_; first | exact ih _ _ (by omega) (by omega) (hI.step8 (by omega) (by first | (unfold jgo; rw [if_neg (show ¬ (rac M m p = 6 ∨ rac M m p = 7) by omega)]; done) | (unfold jgo; rw [if_pos (show rac M m p = 6 ∨ rac M m p = 7 by omega), if_pos h127]; done) | (unfold jgo; rw [if_pos (show rac M m p = 6 ∨ rac M m p = 7 by omega), if_neg h127, htg]; done))) | exact ih _ _ (by omega) (by omega) (hI.step0 (by omega) (by first | (unfold jgo; rw [if_neg (show ¬ (rac M m p = 6 ∨ rac M m p = 7) by omega)]; done) | (unfold jgo; rw [if_pos (show rac M m p = 6 ∨ rac M m p = 7 by omega), if_pos h127]; done) | (unfold jgo; rw [if_pos (show rac M m p = 6 ∨ rac M m p = 7 by omega), if_neg h127, htg]; done))))
            · skip
              refine V_iload_n C dX11_mark_130 rfl rfl ?_
              refine V_iconst C (nI 2) dX11_mark_131 (by decide) ?_
              refine V_iload_n C dX11_mark_132 rfl rfl ?_
              refine V_imulN C dX11_mark_133 ?_
              refine V_iaddN C dX11_mark_134 ?_
              refine V_goto (tgt := 151) C dX11_mark_135 (by decide) ?_
              refine V_callV C [_, _, _] (ct_X11_lay (by omega)) cv_X11_lay lk_X11_123 in_40 rfl rfl ⟨Nat.le_of_ble_eq_true rfl, Nat.le_of_ble_eq_true rfl⟩ rfl rfl (Nat.le_of_ble_eq_true rfl) dX11_mark_151 (fun r M' hr => ?_)
              obtain ⟨rfl, rfl⟩ := hr
              refine V_iload_n C dX11_mark_154 rfl rfl ?_
              refine V_aload_n C dX11_mark_155 rfl rfl ?_
              refine V_iload_n C dX11_mark_156 rfl rfl ?_
              refine V_iload C dX11_mark_157 rfl ?_
              refine V_callV C [_, _] (ct_X11_isBack hm6 (RIm_SmR SmR_lay hm2) (by omega)) cv_X11_isBack lk_X11_108 in_40 rfl rfl ⟨Nat.le_of_ble_eq_true rfl, Nat.le_of_ble_eq_true rfl⟩ rfl rfl (Nat.le_of_ble_eq_true rfl) dX11_mark_159 (fun r M' hr => ?_)
              obtain ⟨rfl, rfl⟩ := hr
              rw [(rac_SmR (m := m) SmR_lay).1, (rac_SmR (m := m) SmR_lay).2.1, es1, es2]
              refine V_ifB_eq (tgt := 169) C dX11_mark_162 (by decide) (fun h162 => ?_) (fun h162 => ?_)
              · skip
                refine V_iconst C (nI 0) dX11_mark_169 (by decide) ?_
                refine V_iaddN C dX11_mark_170 ?_
                refine V_istore_n (lv' := [(2, _), (6, _), (5, _), (4, _), (3, _), (0, _), (1, _)]) C dX11_mark_171 rfl (by decide) rfl ?_
                refine V_iincN (lv' := [(4, _), (2, _), (6, _), (5, _), (3, _), (0, _), (1, _)]) C dX11_mark_172 rfl (b := 1) (by decide) (by decide) rfl ?_
                refine V_goto (tgt := 31) C dX11_mark_175 (by decide) ?_
                refine V_lv [0, 1, 4, 5, 6] rfl ?_
                first | (exfalso; omega) | (refine V_eq rfl (show _ = [(4, Value.int (nI (p + 1))), (2, Value.int (nI (bks (rac M m) (rnu M m) (p + 1)))), (3, Value.int (nI (beg (rac M m) (gN M 41 0 m) + 1))), (0, Value.ref (ad G 40 0)), (1, Value.int (nI m))] by show _ = [(4, Value.int (nI (p + 1))), (2, Value.int (nI (bks (rac M m) (rnu M m) p + bk1 (rac M m) (rnu M m) p))), (3, Value.int (nI (beg (rac M m) (gN M 41 0 m) + 1))), (0, Value.ref (ad G 40 0)), (1, Value.int (nI m))]; first | (rw [bk1_t h162]; rfl) | (rw [bk1_f h162]; rfl)) rfl rfl ?_; first | exact ih _ _ (by omega) (by omega) (hI.step8 (by omega) (by first | (unfold jgo; rw [if_neg (show ¬ (rac M m p = 6 ∨ rac M m p = 7) by omega)]; done) | (unfold jgo; rw [if_pos (show rac M m p = 6 ∨ rac M m p = 7 by omega), if_pos h127]; done) | (unfold jgo; rw [if_pos (show rac M m p = 6 ∨ rac M m p = 7 by omega), if_neg h127, htg]; done))) | exact ih _ _ (by omega) (by omega) (hI.step0 (by omega) (by first | (unfold jgo; rw [if_neg (show ¬ (rac M m p = 6 ∨ rac M m p = 7) by omega)]; done) | (unfold jgo; rw [if_pos (show rac M m p = 6 ∨ rac M m p = 7 by omega), if_pos h127]; done) | (unfold jgo; rw [if_pos (show rac M m p = 6 ∨ rac M m p = 7 by omega), if_neg h127, htg]; done))))
              · skip
                refine V_iconst C (nI 1) dX11_mark_165 (by decide) ?_
                refine V_goto (tgt := 170) C dX11_mark_166 (by decide) ?_
                refine V_iaddN C dX11_mark_170 ?_
                refine V_istore_n (lv' := [(2, _), (6, _), (5, _), (4, _), (3, _), (0, _), (1, _)]) C dX11_mark_171 rfl (by decide) rfl ?_
                refine V_iincN (lv' := [(4, _), (2, _), (6, _), (5, _), (3, _), (0, _), (1, _)]) C dX11_mark_172 rfl (b := 1) (by decide) (by decide) rfl ?_
                refine V_goto (tgt := 31) C dX11_mark_175 (by decide) ?_
                refine V_lv [0, 1, 4, 5, 6] rfl ?_
                first | (exfalso; omega) | (refine V_eq rfl (show _ = [(4, Value.int (nI (p + 1))), (2, Value.int (nI (bks (rac M m) (rnu M m) (p + 1)))), (3, Value.int (nI (beg (rac M m) (gN M 41 0 m) + 1))), (0, Value.ref (ad G 40 0)), (1, Value.int (nI m))] by show _ = [(4, Value.int (nI (p + 1))), (2, Value.int (nI (bks (rac M m) (rnu M m) p + bk1 (rac M m) (rnu M m) p))), (3, Value.int (nI (beg (rac M m) (gN M 41 0 m) + 1))), (0, Value.ref (ad G 40 0)), (1, Value.int (nI m))]; first | (rw [bk1_t h162]; rfl) | (rw [bk1_f h162]; rfl)) rfl rfl ?_; first | exact ih _ _ (by omega) (by omega) (hI.step8 (by omega) (by first | (unfold jgo; rw [if_neg (show ¬ (rac M m p = 6 ∨ rac M m p = 7) by omega)]; done) | (unfold jgo; rw [if_pos (show rac M m p = 6 ∨ rac M m p = 7 by omega), if_pos h127]; done) | (unfold jgo; rw [if_pos (show rac M m p = 6 ∨ rac M m p = 7 by omega), if_neg h127, htg]; done))) | exact ih _ _ (by omega) (by omega) (hI.step0 (by omega) (by first | (unfold jgo; rw [if_neg (show ¬ (rac M m p = 6 ∨ rac M m p = 7) by omega)]; done) | (unfold jgo; rw [if_pos (show rac M m p = 6 ∨ rac M m p = 7 by omega), if_pos h127]; done) | (unfold jgo; rw [if_pos (show rac M m p = 6 ∨ rac M m p = 7 by omega), if_neg h127, htg]; done))))
          · skip
            refine V_aload_n C dX11_mark_88 rfl rfl ?_
            refine gf_X11_13 C dX11_mark_89 ?_
            refine V_iload C dX11_mark_92 rfl ?_
            refine ld_42 C (by omega) dX11_mark_94 ?_
            first | rw [ha42] | rw [SmR_lay.1 42 0 _ (by omega) (by omega) (by omega), ha42]
            refine V_bipush C (nI 7) dX11_mark_95 (by decide) ?_
            refine V_icmpN_ne (tgt := 104) C dX11_mark_97 (by omega) (by omega) (by decide) (fun h97 => ?_) (fun h97 => ?_)
            · skip
              refine V_iconst C (nI 0) dX11_mark_104 (by decide) ?_
              refine V_istore (lv' := [(6, _), (5, _), (4, _), (2, _), (3, _), (0, _), (1, _)]) C dX11_mark_105 (by decide) rfl ?_
              refine V_aload_n C dX11_mark_107 rfl rfl ?_
              refine V_iconst C (nI 0) dX11_mark_108 (by decide) ?_
              refine V_iload C dX11_mark_109 rfl ?_
              refine V_iload C dX11_mark_111 rfl ?_
              refine V_ifN_ne (tgt := 120) C dX11_mark_113 (by omega) (by decide) (fun h113 => absurd rfl h113) (fun h113 => ?_)
              refine V_iconst C (-1) dX11_mark_116 (by decide) ?_
              refine V_goto (tgt := 151) C dX11_mark_117 (by decide) ?_
              refine V_callV C [_, _, _] (ct_X11_lay (by omega)) cv_X11_lay lk_X11_123 in_40 rfl rfl ⟨Nat.le_of_ble_eq_true rfl, Nat.le_of_ble_eq_true rfl⟩ rfl rfl (Nat.le_of_ble_eq_true rfl) dX11_mark_151 (fun r M' hr => ?_)
              obtain ⟨rfl, rfl⟩ := hr
              refine V_iload_n C dX11_mark_154 rfl rfl ?_
              refine V_aload_n C dX11_mark_155 rfl rfl ?_
              refine V_iload_n C dX11_mark_156 rfl rfl ?_
              refine V_iload C dX11_mark_157 rfl ?_
              refine V_callV C [_, _] (ct_X11_isBack hm6 (RIm_SmR SmR_lay hm2) (by omega)) cv_X11_isBack lk_X11_108 in_40 rfl rfl ⟨Nat.le_of_ble_eq_true rfl, Nat.le_of_ble_eq_true rfl⟩ rfl rfl (Nat.le_of_ble_eq_true rfl) dX11_mark_159 (fun r M' hr => ?_)
              obtain ⟨rfl, rfl⟩ := hr
              rw [(rac_SmR (m := m) SmR_lay).1, (rac_SmR (m := m) SmR_lay).2.1, es1, es2]
              refine V_ifB_eq (tgt := 169) C dX11_mark_162 (by decide) (fun h162 => ?_) (fun h162 => ?_)
              · skip
                refine V_iconst C (nI 0) dX11_mark_169 (by decide) ?_
                refine V_iaddN C dX11_mark_170 ?_
                refine V_istore_n (lv' := [(2, _), (6, _), (5, _), (4, _), (3, _), (0, _), (1, _)]) C dX11_mark_171 rfl (by decide) rfl ?_
                refine V_iincN (lv' := [(4, _), (2, _), (6, _), (5, _), (3, _), (0, _), (1, _)]) C dX11_mark_172 rfl (b := 1) (by decide) (by decide) rfl ?_
                refine V_goto (tgt := 31) C dX11_mark_175 (by decide) ?_
                refine V_lv [0, 1, 4, 5, 6] rfl ?_
                first | (exfalso; omega) | (refine V_eq rfl (show _ = [(4, Value.int (nI (p + 1))), (2, Value.int (nI (bks (rac M m) (rnu M m) (p + 1)))), (3, Value.int (nI (beg (rac M m) (gN M 41 0 m) + 1))), (0, Value.ref (ad G 40 0)), (1, Value.int (nI m))] by show _ = [(4, Value.int (nI (p + 1))), (2, Value.int (nI (bks (rac M m) (rnu M m) p + bk1 (rac M m) (rnu M m) p))), (3, Value.int (nI (beg (rac M m) (gN M 41 0 m) + 1))), (0, Value.ref (ad G 40 0)), (1, Value.int (nI m))]; first | (rw [bk1_t h162]; rfl) | (rw [bk1_f h162]; rfl)) rfl rfl ?_; first | exact ih _ _ (by omega) (by omega) (hI.step8 (by omega) (by first | (unfold jgo; rw [if_neg (show ¬ (rac M m p = 6 ∨ rac M m p = 7) by omega)]; done) | (unfold jgo; rw [if_pos (show rac M m p = 6 ∨ rac M m p = 7 by omega), if_pos h127]; done) | (unfold jgo; rw [if_pos (show rac M m p = 6 ∨ rac M m p = 7 by omega), if_neg h127, htg]; done))) | exact ih _ _ (by omega) (by omega) (hI.step0 (by omega) (by first | (unfold jgo; rw [if_neg (show ¬ (rac M m p = 6 ∨ rac M m p = 7) by omega)]; done) | (unfold jgo; rw [if_pos (show rac M m p = 6 ∨ rac M m p = 7 by omega), if_pos h127]; done) | (unfold jgo; rw [if_pos (show rac M m p = 6 ∨ rac M m p = 7 by omega), if_neg h127, htg]; done))))
              · skip
                refine V_iconst C (nI 1) dX11_mark_165 (by decide) ?_
                refine V_goto (tgt := 170) C dX11_mark_166 (by decide) ?_
                refine V_iaddN C dX11_mark_170 ?_
                refine V_istore_n (lv' := [(2, _), (6, _), (5, _), (4, _), (3, _), (0, _), (1, _)]) C dX11_mark_171 rfl (by decide) rfl ?_
                refine V_iincN (lv' := [(4, _), (2, _), (6, _), (5, _), (3, _), (0, _), (1, _)]) C dX11_mark_172 rfl (b := 1) (by decide) (by decide) rfl ?_
                refine V_goto (tgt := 31) C dX11_mark_175 (by decide) ?_
                refine V_lv [0, 1, 4, 5, 6] rfl ?_
                first | (exfalso; omega) | (refine V_eq rfl (show _ = [(4, Value.int (nI (p + 1))), (2, Value.int (nI (bks (rac M m) (rnu M m) (p + 1)))), (3, Value.int (nI (beg (rac M m) (gN M 41 0 m) + 1))), (0, Value.ref (ad G 40 0)), (1, Value.int (nI m))] by show _ = [(4, Value.int (nI (p + 1))), (2, Value.int (nI (bks (rac M m) (rnu M m) p + bk1 (rac M m) (rnu M m) p))), (3, Value.int (nI (beg (rac M m) (gN M 41 0 m) + 1))), (0, Value.ref (ad G 40 0)), (1, Value.int (nI m))]; first | (rw [bk1_t h162]; rfl) | (rw [bk1_f h162]; rfl)) rfl rfl ?_; first | exact ih _ _ (by omega) (by omega) (hI.step8 (by omega) (by first | (unfold jgo; rw [if_neg (show ¬ (rac M m p = 6 ∨ rac M m p = 7) by omega)]; done) | (unfold jgo; rw [if_pos (show rac M m p = 6 ∨ rac M m p = 7 by omega), if_pos h127]; done) | (unfold jgo; rw [if_pos (show rac M m p = 6 ∨ rac M m p = 7 by omega), if_neg h127, htg]; done))) | exact ih _ _ (by omega) (by omega) (hI.step0 (by omega) (by first | (unfold jgo; rw [if_neg (show ¬ (rac M m p = 6 ∨ rac M m p = 7) by omega)]; done) | (unfold jgo; rw [if_pos (show rac M m p = 6 ∨ rac M m p = 7 by omega), if_pos h127]; done) | (unfold jgo; rw [if_pos (show rac M m p = 6 ∨ rac M m p = 7 by omega), if_neg h127, htg]; done))))
            · skip
              refine V_iconst C (nI 1) dX11_mark_100 (by decide) ?_
              refine V_goto (tgt := 105) C dX11_mark_101 (by decide) ?_
              refine V_istore (lv' := [(6, _), (5, _), (4, _), (2, _), (3, _), (0, _), (1, _)]) C dX11_mark_105 (by decide) rfl ?_
              refine V_aload_n C dX11_mark_107 rfl rfl ?_
              refine V_iconst C (nI 0) dX11_mark_108 (by decide) ?_
              refine V_iload C dX11_mark_109 rfl ?_
              refine V_iload C dX11_mark_111 rfl ?_
              refine V_ifN_ne (tgt := 120) C dX11_mark_113 (by omega) (by decide) (fun h113 => ?_) (fun h113 => absurd h113 (by decide))
              refine V_aload_n C dX11_mark_120 rfl rfl ?_
              refine V_iload_n C dX11_mark_121 rfl rfl ?_
              refine V_iload C dX11_mark_122 rfl ?_
              refine V_callV C [_, _] (ct_X11_isBack hm6 hm2 (by omega)) cv_X11_isBack lk_X11_108 in_40 rfl rfl ⟨Nat.le_of_ble_eq_true rfl, Nat.le_of_ble_eq_true rfl⟩ rfl rfl (Nat.le_of_ble_eq_true rfl) dX11_mark_124 (fun r M' hr => ?_)
              obtain ⟨rfl, rfl⟩ := hr
              rw [es1, es2]
              refine V_ifB_eq (tgt := 138) C dX11_mark_127 (by decide) (fun h127 => ?_) (fun h127 => ?_)
              · skip
                obtain ⟨v, hv1, hv2⟩ := (hm.2.2.2.2 p (by omega)).1 (show rac M m p = 6 ∨ rac M m p = 7 by omega)
                have htg : tgt (rnu M m) (gN M 41 0 m) p = min v (gN M 41 0 m) := tgt_of hv2 hv1
                refine V_aload_n C dX11_mark_138 rfl rfl ?_
                refine V_iload_n C dX11_mark_139 rfl rfl ?_
                refine V_aload_n C dX11_mark_140 rfl rfl ?_
                refine gf_X11_22 C dX11_mark_141 ?_
                refine V_iload C dX11_mark_144 rfl ?_
                refine ld_45 C (by omega) dX11_mark_146 ?_
                first | rw [ha45] | rw [SmR_lay.2.2, ha45]
                refine V_l2iN C dX11_mark_147 hv2 ?_
                refine V_callV C [_, _] (ct_X11_beginOf hm6 hm2 (by omega)) cv_X11_beginOf lk_X11_127 in_40 rfl rfl ⟨Nat.le_of_ble_eq_true rfl, Nat.le_of_ble_eq_true rfl⟩ rfl rfl (Nat.le_of_ble_eq_true rfl) dX11_mark_148 (fun r M' hr => ?_)
                obtain ⟨rfl, rfl⟩ := hr
                rw [es1, show gN (layE X 2 (rfs M m p) (-1)) 41 0 m = gN M 41 0 m from hS2.1 41 0 m (by omega) (by omega) (by omega)]
                refine V_callV C [_, _, _] (ct_X11_lay (by omega)) cv_X11_lay lk_X11_123 in_40 rfl rfl ⟨Nat.le_of_ble_eq_true rfl, Nat.le_of_ble_eq_true rfl⟩ rfl rfl (Nat.le_of_ble_eq_true rfl) dX11_mark_151 (fun r M' hr => ?_)
                obtain ⟨rfl, rfl⟩ := hr
                refine V_iload_n C dX11_mark_154 rfl rfl ?_
                refine V_aload_n C dX11_mark_155 rfl rfl ?_
                refine V_iload_n C dX11_mark_156 rfl rfl ?_
                refine V_iload C dX11_mark_157 rfl ?_
                refine V_callV C [_, _] (ct_X11_isBack hm6 (RIm_SmR SmR_lay hm2) (by omega)) cv_X11_isBack lk_X11_108 in_40 rfl rfl ⟨Nat.le_of_ble_eq_true rfl, Nat.le_of_ble_eq_true rfl⟩ rfl rfl (Nat.le_of_ble_eq_true rfl) dX11_mark_159 (fun r M' hr => ?_)
                obtain ⟨rfl, rfl⟩ := hr
                rw [(rac_SmR (m := m) SmR_lay).1, (rac_SmR (m := m) SmR_lay).2.1, es1, es2]
                refine V_ifB_eq (tgt := 169) C dX11_mark_162 (by decide) (fun h162 => ?_) (fun h162 => ?_)
                · skip
                  refine V_iconst C (nI 0) dX11_mark_169 (by decide) ?_
                  refine V_iaddN C dX11_mark_170 ?_
                  refine V_istore_n (lv' := [(2, _), (6, _), (5, _), (4, _), (3, _), (0, _), (1, _)]) C dX11_mark_171 rfl (by decide) rfl ?_
                  refine V_iincN (lv' := [(4, _), (2, _), (6, _), (5, _), (3, _), (0, _), (1, _)]) C dX11_mark_172 rfl (b := 1) (by decide) (by decide) rfl ?_
                  refine V_goto (tgt := 31) C dX11_mark_175 (by decide) ?_
                  refine V_lv [0, 1, 4, 5, 6] rfl ?_
                  first | (exfalso; omega) | (refine V_eq rfl (show _ = [(4, Value.int (nI (p + 1))), (2, Value.int (nI (bks (rac M m) (rnu M m) (p + 1)))), (3, Value.int (nI (beg (rac M m) (gN M 41 0 m) + 1))), (0, Value.ref (ad G 40 0)), (1, Value.int (nI m))] by show _ = [(4, Value.int (nI (p + 1))), (2, Value.int (nI (bks (rac M m) (rnu M m) p + bk1 (rac M m) (rnu M m) p))), (3, Value.int (nI (beg (rac M m) (gN M 41 0 m) + 1))), (0, Value.ref (ad G 40 0)), (1, Value.int (nI m))]; first | (rw [bk1_t h162]; rfl) | (rw [bk1_f h162]; rfl)) rfl rfl ?_; first | exact ih _ _ (by omega) (by omega) (hI.step8 (by omega) (by first | (unfold jgo; rw [if_neg (show ¬ (rac M m p = 6 ∨ rac M m p = 7) by omega)]; done) | (unfold jgo; rw [if_pos (show rac M m p = 6 ∨ rac M m p = 7 by omega), if_pos h127]; done) | (unfold jgo; rw [if_pos (show rac M m p = 6 ∨ rac M m p = 7 by omega), if_neg h127, htg]; done))) | exact ih _ _ (by omega) (by omega) (hI.step0 (by omega) (by first | (unfold jgo; rw [if_neg (show ¬ (rac M m p = 6 ∨ rac M m p = 7) by omega)]; done) | (unfold jgo; rw [if_pos (show rac M m p = 6 ∨ rac M m p = 7 by omega), if_pos h127]; done) | (unfold jgo; rw [if_pos (show rac M m p = 6 ∨ rac M m p = 7 by omega), if_neg h127, htg]; done))))
                · skip
                  refine V_iconst C (nI 1) dX11_mark_165 (by decide) ?_
                  refine V_goto (tgt := 170) C dX11_mark_166 (by decide) ?_
                  refine V_iaddN C dX11_mark_170 ?_
                  refine V_istore_n (lv' := [(2, _), (6, _), (5, _), (4, _), (3, _), (0, _), (1, _)]) C dX11_mark_171 rfl (by decide) rfl ?_
                  refine V_iincN (lv' := [(4, _), (2, _), (6, _), (5, _), (3, _), (0, _), (1, _)]) C dX11_mark_172 rfl (b := 1) (by decide) (by decide) rfl ?_
                  refine V_goto (tgt := 31) C dX11_mark_175 (by decide) ?_
                  refine V_lv [0, 1, 4, 5, 6] rfl ?_
                  first | (exfalso; omega) | (refine V_eq rfl (show _ = [(4, Value.int (nI (p + 1))), (2, Value.int (nI (bks (rac M m) (rnu M m) (p + 1)))), (3, Value.int (nI (beg (rac M m) (gN M 41 0 m) + 1))), (0, Value.ref (ad G 40 0)), (1, Value.int (nI m))] by show _ = [(4, Value.int (nI (p + 1))), (2, Value.int (nI (bks (rac M m) (rnu M m) p + bk1 (rac M m) (rnu M m) p))), (3, Value.int (nI (beg (rac M m) (gN M 41 0 m) + 1))), (0, Value.ref (ad G 40 0)), (1, Value.int (nI m))]; first | (rw [bk1_t h162]; rfl) | (rw [bk1_f h162]; rfl)) rfl rfl ?_; first | exact ih _ _ (by omega) (by omega) (hI.step8 (by omega) (by first | (unfold jgo; rw [if_neg (show ¬ (rac M m p = 6 ∨ rac M m p = 7) by omega)]; done) | (unfold jgo; rw [if_pos (show rac M m p = 6 ∨ rac M m p = 7 by omega), if_pos h127]; done) | (unfold jgo; rw [if_pos (show rac M m p = 6 ∨ rac M m p = 7 by omega), if_neg h127, htg]; done))) | exact ih _ _ (by omega) (by omega) (hI.step0 (by omega) (by first | (unfold jgo; rw [if_neg (show ¬ (rac M m p = 6 ∨ rac M m p = 7) by omega)]; done) | (unfold jgo; rw [if_pos (show rac M m p = 6 ∨ rac M m p = 7 by omega), if_pos h127]; done) | (unfold jgo; rw [if_pos (show rac M m p = 6 ∨ rac M m p = 7 by omega), if_neg h127, htg]; done))))
              · skip
                refine V_iload_n C dX11_mark_130 rfl rfl ?_
                refine V_iconst C (nI 2) dX11_mark_131 (by decide) ?_
                refine V_iload_n C dX11_mark_132 rfl rfl ?_
                refine V_imulN C dX11_mark_133 ?_
                refine V_iaddN C dX11_mark_134 ?_
                refine V_goto (tgt := 151) C dX11_mark_135 (by decide) ?_
                refine V_callV C [_, _, _] (ct_X11_lay (by omega)) cv_X11_lay lk_X11_123 in_40 rfl rfl ⟨Nat.le_of_ble_eq_true rfl, Nat.le_of_ble_eq_true rfl⟩ rfl rfl (Nat.le_of_ble_eq_true rfl) dX11_mark_151 (fun r M' hr => ?_)
                obtain ⟨rfl, rfl⟩ := hr
                refine V_iload_n C dX11_mark_154 rfl rfl ?_
                refine V_aload_n C dX11_mark_155 rfl rfl ?_
                refine V_iload_n C dX11_mark_156 rfl rfl ?_
                refine V_iload C dX11_mark_157 rfl ?_
                refine V_callV C [_, _] (ct_X11_isBack hm6 (RIm_SmR SmR_lay hm2) (by omega)) cv_X11_isBack lk_X11_108 in_40 rfl rfl ⟨Nat.le_of_ble_eq_true rfl, Nat.le_of_ble_eq_true rfl⟩ rfl rfl (Nat.le_of_ble_eq_true rfl) dX11_mark_159 (fun r M' hr => ?_)
                obtain ⟨rfl, rfl⟩ := hr
                rw [(rac_SmR (m := m) SmR_lay).1, (rac_SmR (m := m) SmR_lay).2.1, es1, es2]
                refine V_ifB_eq (tgt := 169) C dX11_mark_162 (by decide) (fun h162 => ?_) (fun h162 => ?_)
                · skip
                  refine V_iconst C (nI 0) dX11_mark_169 (by decide) ?_
                  refine V_iaddN C dX11_mark_170 ?_
                  refine V_istore_n (lv' := [(2, _), (6, _), (5, _), (4, _), (3, _), (0, _), (1, _)]) C dX11_mark_171 rfl (by decide) rfl ?_
                  refine V_iincN (lv' := [(4, _), (2, _), (6, _), (5, _), (3, _), (0, _), (1, _)]) C dX11_mark_172 rfl (b := 1) (by decide) (by decide) rfl ?_
                  refine V_goto (tgt := 31) C dX11_mark_175 (by decide) ?_
                  refine V_lv [0, 1, 4, 5, 6] rfl ?_
                  first | (exfalso; omega) | (refine V_eq rfl (show _ = [(4, Value.int (nI (p + 1))), (2, Value.int (nI (bks (rac M m) (rnu M m) (p + 1)))), (3, Value.int (nI (beg (rac M m) (gN M 41 0 m) + 1))), (0, Value.ref (ad G 40 0)), (1, Value.int (nI m))] by show _ = [(4, Value.int (nI (p + 1))), (2, Value.int (nI (bks (rac M m) (rnu M m) p + bk1 (rac M m) (rnu M m) p))), (3, Value.int (nI (beg (rac M m) (gN M 41 0 m) + 1))), (0, Value.ref (ad G 40 0)), (1, Value.int (nI m))]; first | (rw [bk1_t h162]; rfl) | (rw [bk1_f h162]; rfl)) rfl rfl ?_; first | exact ih _ _ (by omega) (by omega) (hI.step8 (by omega) (by first | (unfold jgo; rw [if_neg (show ¬ (rac M m p = 6 ∨ rac M m p = 7) by omega)]; done) | (unfold jgo; rw [if_pos (show rac M m p = 6 ∨ rac M m p = 7 by omega), if_pos h127]; done) | (unfold jgo; rw [if_pos (show rac M m p = 6 ∨ rac M m p = 7 by omega), if_neg h127, htg]; done))) | exact ih _ _ (by omega) (by omega) (hI.step0 (by omega) (by first | (unfold jgo; rw [if_neg (show ¬ (rac M m p = 6 ∨ rac M m p = 7) by omega)]; done) | (unfold jgo; rw [if_pos (show rac M m p = 6 ∨ rac M m p = 7 by omega), if_pos h127]; done) | (unfold jgo; rw [if_pos (show rac M m p = 6 ∨ rac M m p = 7 by omega), if_neg h127, htg]; done))))
                · skip
                  refine V_iconst C (nI 1) dX11_mark_165 (by decide) ?_
                  refine V_goto (tgt := 170) C dX11_mark_166 (by decide) ?_
                  refine V_iaddN C dX11_mark_170 ?_
                  refine V_istore_n (lv' := [(2, _), (6, _), (5, _), (4, _), (3, _), (0, _), (1, _)]) C dX11_mark_171 rfl (by decide) rfl ?_
                  refine V_iincN (lv' := [(4, _), (2, _), (6, _), (5, _), (3, _), (0, _), (1, _)]) C dX11_mark_172 rfl (b := 1) (by decide) (by decide) rfl ?_
                  refine V_goto (tgt := 31) C dX11_mark_175 (by decide) ?_
                  refine V_lv [0, 1, 4, 5, 6] rfl ?_
                  first | (exfalso; omega) | (refine V_eq rfl (show _ = [(4, Value.int (nI (p + 1))), (2, Value.int (nI (bks (rac M m) (rnu M m) (p + 1)))), (3, Value.int (nI (beg (rac M m) (gN M 41 0 m) + 1))), (0, Value.ref (ad G 40 0)), (1, Value.int (nI m))] by show _ = [(4, Value.int (nI (p + 1))), (2, Value.int (nI (bks (rac M m) (rnu M m) p + bk1 (rac M m) (rnu M m) p))), (3, Value.int (nI (beg (rac M m) (gN M 41 0 m) + 1))), (0, Value.ref (ad G 40 0)), (1, Value.int (nI m))]; first | (rw [bk1_t h162]; rfl) | (rw [bk1_f h162]; rfl)) rfl rfl ?_; first | exact ih _ _ (by omega) (by omega) (hI.step8 (by omega) (by first | (unfold jgo; rw [if_neg (show ¬ (rac M m p = 6 ∨ rac M m p = 7) by omega)]; done) | (unfold jgo; rw [if_pos (show rac M m p = 6 ∨ rac M m p = 7 by omega), if_pos h127]; done) | (unfold jgo; rw [if_pos (show rac M m p = 6 ∨ rac M m p = 7 by omega), if_neg h127, htg]; done))) | exact ih _ _ (by omega) (by omega) (hI.step0 (by omega) (by first | (unfold jgo; rw [if_neg (show ¬ (rac M m p = 6 ∨ rac M m p = 7) by omega)]; done) | (unfold jgo; rw [if_pos (show rac M m p = 6 ∨ rac M m p = 7 by omega), if_pos h127]; done) | (unfold jgo; rw [if_pos (show rac M m p = 6 ∨ rac M m p = 7 by omega), if_neg h127, htg]; done))))
  refine V_aload_n C dX11_mark_0 rfl rfl ?_
  refine V_iconst C (nI 0) dX11_mark_1 (by decide) ?_
  refine pf_X11_120 C dX11_mark_2 ?_
  refine V_aload_n C dX11_mark_5 rfl rfl ?_
  refine V_iconst C (nI 1) dX11_mark_6 (by decide) ?_
  refine V_iconst C (nI 0) dX11_mark_7 (by decide) ?_
  refine V_iconst C (-1) dX11_mark_8 (by decide) ?_
  refine V_callV C [_, _, _] (ct_X11_lay (by simp [gNN])) cv_X11_lay lk_X11_123 in_40 rfl rfl ⟨Nat.le_of_ble_eq_true rfl, Nat.le_of_ble_eq_true rfl⟩ rfl rfl (Nat.le_of_ble_eq_true rfl) dX11_mark_9 (fun r M' hr => ?_)
  obtain ⟨rfl, rfl⟩ := hr
  refine V_iconst C (nI 0) dX11_mark_12 (by decide) ?_
  refine V_istore_n (lv' := [(2, _), (0, _), (1, _)]) C dX11_mark_13 rfl (by decide) rfl ?_
  refine V_aload_n C dX11_mark_14 rfl rfl ?_
  refine V_iload_n C dX11_mark_15 rfl rfl ?_
  refine V_aload_n C dX11_mark_16 rfl rfl ?_
  refine gf_X11_7 C dX11_mark_17 ?_
  refine V_iload_n C dX11_mark_20 rfl rfl ?_
  refine ld_41 C (by omega) dX11_mark_21 ?_
  rw [e410]
  refine V_callV C [_, _] (ct_X11_beginOf hm6 hm0 (by omega)) cv_X11_beginOf lk_X11_127 in_40 rfl rfl ⟨Nat.le_of_ble_eq_true rfl, Nat.le_of_ble_eq_true rfl⟩ rfl rfl (Nat.le_of_ble_eq_true rfl) dX11_mark_22 (fun r M' hr => ?_)
  obtain ⟨rfl, rfl⟩ := hr
  rw [ez1, e410, Nat.min_self]
  refine V_iconst C (nI 1) dX11_mark_25 (by decide) ?_
  refine V_iaddN C dX11_mark_26 ?_
  refine V_istore_n (lv' := [(3, _), (2, _), (0, _), (1, _)]) C dX11_mark_27 rfl (by decide) rfl ?_
  refine V_iconst C (nI 0) dX11_mark_28 (by decide) ?_
  refine V_istore (lv' := [(4, _), (3, _), (2, _), (0, _), (1, _)]) C dX11_mark_29 (by decide) rfl ?_
  refine V_lv [0, 2, 1, 3, 4] rfl ?_
  exact LPp _ 0 _ (Nat.lt_succ_self _) (Nat.zero_le _) ⟨hS0, by rw [lay_sz]; simp [gNN]; rfl, ⟨by rw [lay_61]; simp [gNN], by rw [lay_62]; simp [gNN], by rw [lay_63]; simp [gNN]⟩, fun k hk => absurd hk (by omega)⟩
