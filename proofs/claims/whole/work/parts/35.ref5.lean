def isR (M : Mem) (f : Nat) (x : Int32) : Prop := gI M 54 0 f = -1 ∨ gI M 54 0 f = x ∨ (gI M 54 0 f = nI 6 ∧ x = nI 5)
def RRows (M : Mem) (f a r s : Nat) (x : Int32) (M' : Mem) : Prop :=
  (a = 8 ∧ RMake M f (gJ M 53 0 r) x M') ∨
  (a = 11 ∧ ((isR M f x ∧ sN M 52 0 f (gN M 52 0 f + 1) = M') ∨ (¬ isR M f x ∧ RFAIL M 5 (nI 0) M'))) ∨
  ((a = 9 ∨ a = 10 ∨ a = 12) ∧ gI M 54 0 f = -1 ∧ RFAIL M 1 (nI 0) M') ∨
  (a = 12 ∧ ¬ gI M 54 0 f = -1 ∧ sN (sJ M 53 0 r (lN (gN M 56 0 f))) 52 0 f (gN M 52 0 f + 1) = M') ∨
  ((a = 9 ∨ a = 10) ∧ ¬ gI M 54 0 f = -1 ∧ ¬ isL (gN M 56 0 f) (gJ M 53 0 s) ∧ RFAIL M 2 (nI 0) M') ∨
  (a = 9 ∧ ¬ gI M 54 0 f = -1 ∧ ∃ k, k < gN M 56 0 f ∧ gJ M 53 0 s = lN k ∧ sN (sJ M 53 0 r (gJ M 60 0 (gN M 55 0 f + k))) 52 0 f (gN M 52 0 f + 1) = M') ∨
  (a = 10 ∧ ¬ gI M 54 0 f = -1 ∧ ∃ k, k < gN M 56 0 f ∧ gJ M 53 0 s = lN k ∧ ((gI M 54 0 f = nI 6 ∧ gJ M 53 0 r &&& lN 1 = lN 0 ∧ RFAIL M 4 (nI 0) M') ∨ (¬ (gI M 54 0 f = nI 6 ∧ gJ M 53 0 r &&& lN 1 = lN 0) ∧ sN (sJ M 60 0 (gN M 55 0 f + k) (fitt (gI M 54 0 f) (gJ M 53 0 r))) 52 0 f (gN M 52 0 f + 1) = M')))
def rR (M : Mem) (f m p : Nat) : Nat := 4 * f + gN M 43 0 (40 * m + p)
def rS (M : Mem) (f m p : Nat) : Nat := 4 * f + gN M 44 0 (40 * m + p)
def RWork (M : Mem) (f m p : Nat) (M' : Mem) : Prop :=
  (rac M m p = 0 ∧ sN (sJ M 53 0 (rR M f m p) (rnu M m p)) 52 0 f (p + 1) = M') ∨
  (rac M m p = 1 ∧ sN (sJ M 53 0 (rR M f m p) (gJ M 53 0 (rR M f m p) + gJ M 53 0 (rS M f m p))) 52 0 f (p + 1) = M') ∨
  (rac M m p = 2 ∧ sN (sJ M 53 0 (rR M f m p) (gJ M 53 0 (rR M f m p) - gJ M 53 0 (rS M f m p))) 52 0 f (p + 1) = M') ∨
  (rac M m p = 3 ∧ sN (sJ M 53 0 (rR M f m p) (gJ M 53 0 (rR M f m p) * gJ M 53 0 (rS M f m p))) 52 0 f (p + 1) = M') ∨
  (rac M m p = 4 ∧ RDiv M f (rR M f m p) (rS M f m p) 1 M') ∨ (rac M m p = 5 ∧ RDiv M f (rR M f m p) (rS M f m p) 0 M') ∨
  (rac M m p = 6 ∧ ∃ t, t ≤ 40 ∧ rnu M m p = lN t ∧ RJmp M f t M') ∨
  (rac M m p = 7 ∧ ((lN 0 < gJ M 53 0 (rR M f m p) ∧ ∃ t, t ≤ 40 ∧ rnu M m p = lN t ∧ RJmp M f t M') ∨ (¬ lN 0 < gJ M 53 0 (rR M f m p) ∧ sN M 52 0 f (p + 1) = M'))) ∨
  (rac M m p = 13 ∧ ∃ n, n ≤ 5 ∧ rnu M m p = lN n ∧ REnter M n (gJ M 53 0 (rR M f m p)) M') ∨
  (rac M m p = 14 ∧ RGive M (gJ M 53 0 (rR M f m p)) M') ∨
  (rac M m p = 15 ∧ RFAIL M 8 (gJ M 53 0 (rR M f m p)).toInt32 M') ∨
  (rac M m p = 16 ∧ ((gN M 57 0 f = 0 ∧ RFAIL M 7 (nI 0) M') ∨ (¬ gN M 57 0 f = 0 ∧ RFAIL M (gN M 57 0 f) (gI M 58 0 f) M'))) ∨
  (rac M m p = 17 ∧ ∃ g, g ≤ 2 ∧ rnu M m p = lN g ∧ rHold M f (3 * f + g) = M') ∨
  (rac M m p = 18 ∧ ∃ g, g ≤ 2 ∧ rnu M m p = lN g ∧ ((gN M 59 0 (3 * f + g) = 0 ∧ RFAIL M 7 (nI 0) M') ∨ (¬ gN M 59 0 (3 * f + g) = 0 ∧ rLet M f (3 * f + g) = M'))) ∨
  ((8 ≤ rac M m p ∧ rac M m p ≤ 12) ∧ RRows M f (rac M m p) (rR M f m p) (rS M f m p) (rnu M m p).toInt32 M')
def PaidP (M : Mem) (f : Nat) (r : Option Value) (M' : Mem) : Prop :=
  (¬ (gN M 52 0 f < gN M 41 0 (gN M 51 0 f) ∧ rac M (gN M 51 0 f) (gN M 52 0 f) = 8) ∧ some (.int (nI 1)) = r ∧ M = M') ∨
  ((gN M 52 0 f < gN M 41 0 (gN M 51 0 f) ∧ rac M (gN M 51 0 f) (gN M 52 0 f) = 8) ∧ ((okC M (cost (gJ M 53 0 (rR M f (gN M 51 0 f) (gN M 52 0 f)))) ∧ some (.int (nI 1)) = r ∧ sN M 40 0 29 (gN M 40 0 29 + cost (gJ M 53 0 (rR M f (gN M 51 0 f) (gN M 52 0 f)))) = M') ∨ (¬ okC M (cost (gJ M 53 0 (rR M f (gN M 51 0 f) (gN M 52 0 f)))) ∧ some (.int (nI 0)) = r ∧ rstp M = M')))
set_option maxRecDepth 20000 in
set_option maxHeartbeats 4000000 in
theorem ct_X11_rows {l : Launch} {G : Gm} {M : Mem} {f a r s : Nat} {x : Int32} (hf : f < 12) (ha : 8 ≤ a ∧ a ≤ 12) (hr2 : r < 48) (hs2 : s < 48) (hz : a = 8 → (gJ M 53 0 r).toInt ≤ 200 ∧ gN M 40 0 22 + (gJ M 53 0 r).toInt.toNat ≤ 256) (hrow : ¬ gI M 54 0 f = -1 → gN M 55 0 f + gN M 56 0 f ≤ 256 ∧ ∃ n, n ≤ 6 ∧ gI M 54 0 f = nI n) (hd : gN M 40 0 11 ≤ 12) (hA : allR M) (ht : gN M 40 0 31 ≤ 30) (h1 : gN M 40 0 29 ≤ gN M 40 0 23) (h2 : gN M 40 0 23 ≤ 200)  : Ct l G rM yX11_rows (.code yX11_rows cX11_rows 9 none :: GW) rmX11_rows [.ref (ad G 40 0), .int (nI f), .int (nI a), .int (nI r), .int (nI s), .int x] M (fun ra M' => none = ra ∧ RRows M f a r s x M') := by
  refine Ct_of (cc := cX11_rows) (by decide) [(0, _), (1, _), (2, _), (3, _), (4, _), (5, _)] rfl (Nat.le_of_ble_eq_true rfl) (fun pp ee ss mm aa bb mt cd C E => ?_)
  have b1 := h1
  have b2 := h2
  refine V_iload_n C dX11_rows_0 rfl rfl ?_
  refine V_bipush C (nI 8) dX11_rows_1 (by decide) ?_
  refine V_icmpN_ne (tgt := 20) C dX11_rows_3 (by omega) (by omega) (by decide) (fun h3 => ?_) (fun h3 => ?_)
  · skip
    refine V_iload_n C dX11_rows_20 rfl rfl ?_
    refine V_bipush C (nI 11) dX11_rows_21 (by decide) ?_
    refine V_icmpN_ne (tgt := 96) C dX11_rows_23 (by omega) (by omega) (by decide) (fun h23 => ?_) (fun h23 => ?_)
    · skip
      refine V_aload_n C dX11_rows_96 rfl rfl ?_
      refine gf_X11_50 C dX11_rows_97 ?_
      try simp only [gNN, gNI, gNJ, gIN, gII, gIJ, gJN, gJI, gJJ, Nat.reduceEqDiff, false_and, and_false, true_and, and_true, if_false, if_true]
      refine V_iload_n C dX11_rows_100 rfl rfl ?_
      refine ld_54 C (by omega) dX11_rows_101 ?_
      try simp only [gNN, gNI, gNJ, gIN, gII, gIJ, gJN, gJI, gJJ, Nat.reduceEqDiff, false_and, and_false, true_and, and_true, if_false, if_true]
      refine V_iconst C (-1) dX11_rows_102 (by decide) ?_
      refine V_icmp_ne (tgt := 113) C dX11_rows_103 (by decide) (fun h103 => ?_) (fun h103 => ?_)
      · skip
        obtain ⟨hro, q, hq, hqx⟩ := hrow h103
        refine V_iload_n C dX11_rows_113 rfl rfl ?_
        refine V_bipush C (nI 12) dX11_rows_114 (by decide) ?_
        refine V_icmpN_ne (tgt := 143) C dX11_rows_116 (by omega) (by omega) (by decide) (fun h116 => ?_) (fun h116 => ?_)
        · skip
          refine V_aload_n C dX11_rows_143 rfl rfl ?_
          refine gf_X11_47 C dX11_rows_144 ?_
          try simp only [gNN, gNI, gNJ, gIN, gII, gIJ, gJN, gJI, gJJ, Nat.reduceEqDiff, false_and, and_false, true_and, and_true, if_false, if_true]
          refine V_iload C dX11_rows_147 rfl ?_
          refine ld_53 C (by omega) dX11_rows_149 ?_
          try simp only [gNN, gNI, gNJ, gIN, gII, gIJ, gJN, gJI, gJJ, Nat.reduceEqDiff, false_and, and_false, true_and, and_true, if_false, if_true]
          refine V_lstore (lv' := [(6, _), (0, _), (1, _), (2, _), (3, _), (4, _), (5, _)]) C dX11_rows_150 (by decide) rfl ?_
          refine V_lload C dX11_rows_152 rfl ?_
          refine V_lconst C (lN 0) dX11_rows_154 (by decide) ?_
          refine V_aload_n C dX11_rows_155 rfl rfl ?_
          refine gf_X11_56 C dX11_rows_156 ?_
          try simp only [gNN, gNI, gNJ, gIN, gII, gIJ, gJN, gJI, gJJ, Nat.reduceEqDiff, false_and, and_false, true_and, and_true, if_false, if_true]
          refine V_iload_n C dX11_rows_159 rfl rfl ?_
          refine ld_56 C (by omega) dX11_rows_160 ?_
          try simp only [gNN, gNI, gNJ, gIN, gII, gIJ, gJN, gJI, gJJ, Nat.reduceEqDiff, false_and, and_false, true_and, and_true, if_false, if_true]
          refine V_iconst C (nI 1) dX11_rows_161 (by decide) ?_
          refine V_isub C dX11_rows_162 ?_
          refine V_i2l C dX11_rows_163 ?_
          refine V_callS C [_, _, _] (ct_X11_in) cs_X11_in rfl lk_X11_84 ⟨Nat.le_of_ble_eq_true rfl, Nat.le_of_ble_eq_true rfl⟩ rfl rfl (Nat.le_of_ble_eq_true rfl) dX11_rows_164 (fun r M' hr => ?_)
          obtain ⟨rfl, rfl⟩ := hr
          try simp only [gNN, gNI, gNJ, gIN, gII, gIJ, gJN, gJI, gJJ, Nat.reduceEqDiff, false_and, and_false, true_and, and_true, if_false, if_true]
          refine V_ifB_ne (tgt := 177) C dX11_rows_167 (by decide) (fun h167 => ?_) (fun h167 => ?_)
          · skip
            obtain ⟨k, hk, hkx⟩ := isL_of ((wl_iff (by omega)).mp h167) (by omega)
            refine V_aload_n C dX11_rows_177 rfl rfl ?_
            refine gf_X11_53 C dX11_rows_178 ?_
            try simp only [gNN, gNI, gNJ, gIN, gII, gIJ, gJN, gJI, gJJ, Nat.reduceEqDiff, false_and, and_false, true_and, and_true, if_false, if_true]
            refine V_iload_n C dX11_rows_181 rfl rfl ?_
            refine ld_55 C (by omega) dX11_rows_182 ?_
            try simp only [gNN, gNI, gNJ, gIN, gII, gIJ, gJN, gJI, gJJ, Nat.reduceEqDiff, false_and, and_false, true_and, and_true, if_false, if_true]
            refine V_lload C dX11_rows_183 rfl ?_
            refine V_l2iN C dX11_rows_185 hkx ?_
            refine V_iaddN C dX11_rows_186 ?_
            refine V_istore (lv' := [(8, _), (6, _), (0, _), (1, _), (2, _), (3, _), (4, _), (5, _)]) C dX11_rows_187 (by decide) rfl ?_
            refine V_iload_n C dX11_rows_189 rfl rfl ?_
            refine V_bipush C (nI 9) dX11_rows_190 (by decide) ?_
            refine V_icmpN_ne (tgt := 211) C dX11_rows_192 (by omega) (by omega) (by decide) (fun h192 => ?_) (fun h192 => ?_)
            · skip
              refine V_aload_n C dX11_rows_211 rfl rfl ?_
              refine gf_X11_50 C dX11_rows_212 ?_
              try simp only [gNN, gNI, gNJ, gIN, gII, gIJ, gJN, gJI, gJJ, Nat.reduceEqDiff, false_and, and_false, true_and, and_true, if_false, if_true]
              refine V_iload_n C dX11_rows_215 rfl rfl ?_
              refine ld_54 C (by omega) dX11_rows_216 ?_
              try simp only [gNN, gNI, gNJ, gIN, gII, gIJ, gJN, gJI, gJJ, Nat.reduceEqDiff, false_and, and_false, true_and, and_true, if_false, if_true]
              refine V_bipush C (nI 6) dX11_rows_217 (by decide) ?_
              refine V_icmp_ne (tgt := 242) C dX11_rows_219 (by decide) (fun h219 => ?_) (fun h219 => ?_)
              · skip
                refine V_aload_n C dX11_rows_242 rfl rfl ?_
                refine gf_X11_68 C dX11_rows_243 ?_
                try simp only [gNN, gNI, gNJ, gIN, gII, gIJ, gJN, gJI, gJJ, Nat.reduceEqDiff, false_and, and_false, true_and, and_true, if_false, if_true]
                refine V_iload C dX11_rows_246 rfl ?_
                refine V_aload_n C dX11_rows_248 rfl rfl ?_
                refine gf_X11_47 C dX11_rows_249 ?_
                try simp only [gNN, gNI, gNJ, gIN, gII, gIJ, gJN, gJI, gJJ, Nat.reduceEqDiff, false_and, and_false, true_and, and_true, if_false, if_true]
                refine V_iload_n C dX11_rows_252 rfl rfl ?_
                refine ld_53 C (by omega) dX11_rows_253 ?_
                try simp only [gNN, gNI, gNJ, gIN, gII, gIJ, gJN, gJI, gJJ, Nat.reduceEqDiff, false_and, and_false, true_and, and_true, if_false, if_true]
                refine V_aload_n C dX11_rows_254 rfl rfl ?_
                refine gf_X11_50 C dX11_rows_255 ?_
                try simp only [gNN, gNI, gNJ, gIN, gII, gIJ, gJN, gJI, gJJ, Nat.reduceEqDiff, false_and, and_false, true_and, and_true, if_false, if_true]
                refine V_iload_n C dX11_rows_258 rfl rfl ?_
                refine ld_54 C (by omega) dX11_rows_259 ?_
                try simp only [gNN, gNI, gNJ, gIN, gII, gIJ, gJN, gJI, gJJ, Nat.reduceEqDiff, false_and, and_false, true_and, and_true, if_false, if_true]
                rw [hqx]
                refine V_callS C [_, _] (ct_X11_cast hq) cs_X11_cast rfl lk_X11_242 ⟨Nat.le_of_ble_eq_true rfl, Nat.le_of_ble_eq_true rfl⟩ rfl rfl (Nat.le_of_ble_eq_true rfl) dX11_rows_260 (fun r M' hr => ?_)
                obtain ⟨rfl, rfl⟩ := hr
                rw [← hqx]
                try simp only [gNN, gNI, gNJ, gIN, gII, gIJ, gJN, gJI, gJJ, Nat.reduceEqDiff, false_and, and_false, true_and, and_true, if_false, if_true]
                refine st_60 C (by omega) dX11_rows_263 ?_
                refine V_aload_n C dX11_rows_264 rfl rfl ?_
                refine gf_X11_44 C dX11_rows_265 ?_
                try simp only [gNN, gNI, gNJ, gIN, gII, gIJ, gJN, gJI, gJJ, Nat.reduceEqDiff, false_and, and_false, true_and, and_true, if_false, if_true]
                refine V_iload_n C dX11_rows_268 rfl rfl ?_
                refine V_dup2 C dX11_rows_269 rfl rfl ?_
                refine ld_52 C (by omega) dX11_rows_270 ?_
                try simp only [gNN, gNI, gNJ, gIN, gII, gIJ, gJN, gJI, gJJ, Nat.reduceEqDiff, false_and, and_false, true_and, and_true, if_false, if_true]
                refine V_iconst C (nI 1) dX11_rows_271 (by decide) ?_
                refine V_iaddN C dX11_rows_272 ?_
                refine st_52 C (by omega) dX11_rows_273 ?_
                refine V_vret C E dX11_rows_274 ?_
                first | exact ⟨rfl, Or.inr (Or.inr (Or.inr (Or.inr (Or.inr (Or.inl ⟨h192, h103, k, hk, hkx, rfl⟩)))))⟩ | exact ⟨rfl, Or.inr (Or.inr (Or.inr (Or.inr (Or.inr (Or.inr ⟨by omega, h103, k, hk, hkx, Or.inr ⟨fun z => h219 z.1, rfl⟩⟩)))))⟩ | exact ⟨rfl, Or.inr (Or.inr (Or.inr (Or.inr (Or.inr (Or.inr ⟨by omega, h103, k, hk, hkx, Or.inr ⟨fun z => h232 z.2, rfl⟩⟩)))))⟩
              · skip
                refine V_aload_n C dX11_rows_222 rfl rfl ?_
                refine gf_X11_47 C dX11_rows_223 ?_
                try simp only [gNN, gNI, gNJ, gIN, gII, gIJ, gJN, gJI, gJJ, Nat.reduceEqDiff, false_and, and_false, true_and, and_true, if_false, if_true]
                refine V_iload_n C dX11_rows_226 rfl rfl ?_
                refine ld_53 C (by omega) dX11_rows_227 ?_
                try simp only [gNN, gNI, gNJ, gIN, gII, gIJ, gJN, gJI, gJJ, Nat.reduceEqDiff, false_and, and_false, true_and, and_true, if_false, if_true]
                refine V_lconst C (lN 1) dX11_rows_228 (by decide) ?_
                refine V_land C dX11_rows_229 ?_
                refine V_lconst C (lN 0) dX11_rows_230 (by decide) ?_
                refine V_lcmp C dX11_rows_231 ?_
                refine V_ifL_ne (tgt := 242) C dX11_rows_232 (by decide) (fun h232 => ?_) (fun h232 => ?_)
                · skip
                  refine V_aload_n C dX11_rows_242 rfl rfl ?_
                  refine gf_X11_68 C dX11_rows_243 ?_
                  try simp only [gNN, gNI, gNJ, gIN, gII, gIJ, gJN, gJI, gJJ, Nat.reduceEqDiff, false_and, and_false, true_and, and_true, if_false, if_true]
                  refine V_iload C dX11_rows_246 rfl ?_
                  refine V_aload_n C dX11_rows_248 rfl rfl ?_
                  refine gf_X11_47 C dX11_rows_249 ?_
                  try simp only [gNN, gNI, gNJ, gIN, gII, gIJ, gJN, gJI, gJJ, Nat.reduceEqDiff, false_and, and_false, true_and, and_true, if_false, if_true]
                  refine V_iload_n C dX11_rows_252 rfl rfl ?_
                  refine ld_53 C (by omega) dX11_rows_253 ?_
                  try simp only [gNN, gNI, gNJ, gIN, gII, gIJ, gJN, gJI, gJJ, Nat.reduceEqDiff, false_and, and_false, true_and, and_true, if_false, if_true]
                  refine V_aload_n C dX11_rows_254 rfl rfl ?_
                  refine gf_X11_50 C dX11_rows_255 ?_
                  try simp only [gNN, gNI, gNJ, gIN, gII, gIJ, gJN, gJI, gJJ, Nat.reduceEqDiff, false_and, and_false, true_and, and_true, if_false, if_true]
                  refine V_iload_n C dX11_rows_258 rfl rfl ?_
                  refine ld_54 C (by omega) dX11_rows_259 ?_
                  try simp only [gNN, gNI, gNJ, gIN, gII, gIJ, gJN, gJI, gJJ, Nat.reduceEqDiff, false_and, and_false, true_and, and_true, if_false, if_true]
                  rw [hqx]
                  refine V_callS C [_, _] (ct_X11_cast hq) cs_X11_cast rfl lk_X11_242 ⟨Nat.le_of_ble_eq_true rfl, Nat.le_of_ble_eq_true rfl⟩ rfl rfl (Nat.le_of_ble_eq_true rfl) dX11_rows_260 (fun r M' hr => ?_)
                  obtain ⟨rfl, rfl⟩ := hr
                  rw [← hqx]
                  try simp only [gNN, gNI, gNJ, gIN, gII, gIJ, gJN, gJI, gJJ, Nat.reduceEqDiff, false_and, and_false, true_and, and_true, if_false, if_true]
                  refine st_60 C (by omega) dX11_rows_263 ?_
                  refine V_aload_n C dX11_rows_264 rfl rfl ?_
                  refine gf_X11_44 C dX11_rows_265 ?_
                  try simp only [gNN, gNI, gNJ, gIN, gII, gIJ, gJN, gJI, gJJ, Nat.reduceEqDiff, false_and, and_false, true_and, and_true, if_false, if_true]
                  refine V_iload_n C dX11_rows_268 rfl rfl ?_
                  refine V_dup2 C dX11_rows_269 rfl rfl ?_
                  refine ld_52 C (by omega) dX11_rows_270 ?_
                  try simp only [gNN, gNI, gNJ, gIN, gII, gIJ, gJN, gJI, gJJ, Nat.reduceEqDiff, false_and, and_false, true_and, and_true, if_false, if_true]
                  refine V_iconst C (nI 1) dX11_rows_271 (by decide) ?_
                  refine V_iaddN C dX11_rows_272 ?_
                  refine st_52 C (by omega) dX11_rows_273 ?_
                  refine V_vret C E dX11_rows_274 ?_
                  first | exact ⟨rfl, Or.inr (Or.inr (Or.inr (Or.inr (Or.inr (Or.inl ⟨h192, h103, k, hk, hkx, rfl⟩)))))⟩ | exact ⟨rfl, Or.inr (Or.inr (Or.inr (Or.inr (Or.inr (Or.inr ⟨by omega, h103, k, hk, hkx, Or.inr ⟨fun z => h219 z.1, rfl⟩⟩)))))⟩ | exact ⟨rfl, Or.inr (Or.inr (Or.inr (Or.inr (Or.inr (Or.inr ⟨by omega, h103, k, hk, hkx, Or.inr ⟨fun z => h232 z.2, rfl⟩⟩)))))⟩
                · skip
                  refine V_aload_n C dX11_rows_235 rfl rfl ?_
                  refine V_iconst C (nI 4) dX11_rows_236 (by decide) ?_
                  refine V_iconst C (nI 0) dX11_rows_237 (by decide) ?_
                  refine V_callV C [_, _] (ct_X11_fails hd hA ht h1 h2) cv_X11_fails lk_X11_223 in_40 rfl rfl ⟨Nat.le_of_ble_eq_true rfl, Nat.le_of_ble_eq_true rfl⟩ rfl rfl (Nat.le_of_ble_eq_true rfl) dX11_rows_238 (fun r M' hr => ?_)
                  obtain ⟨rfl, hFl⟩ := hr
                  try simp only [gNN, gNI, gNJ, gIN, gII, gIJ, gJN, gJI, gJJ, Nat.reduceEqDiff, false_and, and_false, true_and, and_true, if_false, if_true]
                  refine V_vret C E dX11_rows_241 ?_
                  exact ⟨rfl, Or.inr (Or.inr (Or.inr (Or.inr (Or.inr (Or.inr ⟨by omega, h103, k, hk, hkx, Or.inl ⟨h219, h232, hFl⟩⟩)))))⟩
            · skip
              refine V_aload_n C dX11_rows_195 rfl rfl ?_
              refine gf_X11_47 C dX11_rows_196 ?_
              try simp only [gNN, gNI, gNJ, gIN, gII, gIJ, gJN, gJI, gJJ, Nat.reduceEqDiff, false_and, and_false, true_and, and_true, if_false, if_true]
              refine V_iload_n C dX11_rows_199 rfl rfl ?_
              refine V_aload_n C dX11_rows_200 rfl rfl ?_
              refine gf_X11_68 C dX11_rows_201 ?_
              try simp only [gNN, gNI, gNJ, gIN, gII, gIJ, gJN, gJI, gJJ, Nat.reduceEqDiff, false_and, and_false, true_and, and_true, if_false, if_true]
              refine V_iload C dX11_rows_204 rfl ?_
              refine ld_60 C (by omega) dX11_rows_206 ?_
              try simp only [gNN, gNI, gNJ, gIN, gII, gIJ, gJN, gJI, gJJ, Nat.reduceEqDiff, false_and, and_false, true_and, and_true, if_false, if_true]
              refine st_53 C (by omega) dX11_rows_207 ?_
              refine V_goto (tgt := 264) C dX11_rows_208 (by decide) ?_
              refine V_aload_n C dX11_rows_264 rfl rfl ?_
              refine gf_X11_44 C dX11_rows_265 ?_
              try simp only [gNN, gNI, gNJ, gIN, gII, gIJ, gJN, gJI, gJJ, Nat.reduceEqDiff, false_and, and_false, true_and, and_true, if_false, if_true]
              refine V_iload_n C dX11_rows_268 rfl rfl ?_
              refine V_dup2 C dX11_rows_269 rfl rfl ?_
              refine ld_52 C (by omega) dX11_rows_270 ?_
              try simp only [gNN, gNI, gNJ, gIN, gII, gIJ, gJN, gJI, gJJ, Nat.reduceEqDiff, false_and, and_false, true_and, and_true, if_false, if_true]
              refine V_iconst C (nI 1) dX11_rows_271 (by decide) ?_
              refine V_iaddN C dX11_rows_272 ?_
              refine st_52 C (by omega) dX11_rows_273 ?_
              refine V_vret C E dX11_rows_274 ?_
              first | exact ⟨rfl, Or.inr (Or.inr (Or.inr (Or.inr (Or.inr (Or.inl ⟨h192, h103, k, hk, hkx, rfl⟩)))))⟩ | exact ⟨rfl, Or.inr (Or.inr (Or.inr (Or.inr (Or.inr (Or.inr ⟨by omega, h103, k, hk, hkx, Or.inr ⟨fun z => h219 z.1, rfl⟩⟩)))))⟩ | exact ⟨rfl, Or.inr (Or.inr (Or.inr (Or.inr (Or.inr (Or.inr ⟨by omega, h103, k, hk, hkx, Or.inr ⟨fun z => h232 z.2, rfl⟩⟩)))))⟩
          · skip
            refine V_aload_n C dX11_rows_170 rfl rfl ?_
            refine V_iconst C (nI 2) dX11_rows_171 (by decide) ?_
            refine V_iconst C (nI 0) dX11_rows_172 (by decide) ?_
            refine V_callV C [_, _] (ct_X11_fails hd hA ht h1 h2) cv_X11_fails lk_X11_223 in_40 rfl rfl ⟨Nat.le_of_ble_eq_true rfl, Nat.le_of_ble_eq_true rfl⟩ rfl rfl (Nat.le_of_ble_eq_true rfl) dX11_rows_173 (fun r M' hr => ?_)
            obtain ⟨rfl, hFl⟩ := hr
            try simp only [gNN, gNI, gNJ, gIN, gII, gIJ, gJN, gJI, gJJ, Nat.reduceEqDiff, false_and, and_false, true_and, and_true, if_false, if_true]
            refine V_vret C E dX11_rows_176 ?_
            exact ⟨rfl, Or.inr (Or.inr (Or.inr (Or.inr (Or.inl ⟨by omega, h103, fun z => h167 ((wl_iff (by omega)).mpr z), hFl⟩))))⟩
        · skip
          refine V_aload_n C dX11_rows_119 rfl rfl ?_
          refine gf_X11_47 C dX11_rows_120 ?_
          try simp only [gNN, gNI, gNJ, gIN, gII, gIJ, gJN, gJI, gJJ, Nat.reduceEqDiff, false_and, and_false, true_and, and_true, if_false, if_true]
          refine V_iload_n C dX11_rows_123 rfl rfl ?_
          refine V_aload_n C dX11_rows_124 rfl rfl ?_
          refine gf_X11_56 C dX11_rows_125 ?_
          try simp only [gNN, gNI, gNJ, gIN, gII, gIJ, gJN, gJI, gJJ, Nat.reduceEqDiff, false_and, and_false, true_and, and_true, if_false, if_true]
          refine V_iload_n C dX11_rows_128 rfl rfl ?_
          refine ld_56 C (by omega) dX11_rows_129 ?_
          try simp only [gNN, gNI, gNJ, gIN, gII, gIJ, gJN, gJI, gJJ, Nat.reduceEqDiff, false_and, and_false, true_and, and_true, if_false, if_true]
          refine V_i2lN C dX11_rows_130 (by omega) ?_
          refine st_53 C (by omega) dX11_rows_131 ?_
          refine V_aload_n C dX11_rows_132 rfl rfl ?_
          refine gf_X11_44 C dX11_rows_133 ?_
          try simp only [gNN, gNI, gNJ, gIN, gII, gIJ, gJN, gJI, gJJ, Nat.reduceEqDiff, false_and, and_false, true_and, and_true, if_false, if_true]
          refine V_iload_n C dX11_rows_136 rfl rfl ?_
          refine V_dup2 C dX11_rows_137 rfl rfl ?_
          refine ld_52 C (by omega) dX11_rows_138 ?_
          try simp only [gNN, gNI, gNJ, gIN, gII, gIJ, gJN, gJI, gJJ, Nat.reduceEqDiff, false_and, and_false, true_and, and_true, if_false, if_true]
          refine V_iconst C (nI 1) dX11_rows_139 (by decide) ?_
          refine V_iaddN C dX11_rows_140 ?_
          refine st_52 C (by omega) dX11_rows_141 ?_
          refine V_vret C E dX11_rows_142 ?_
          exact ⟨rfl, Or.inr (Or.inr (Or.inr (Or.inl ⟨h116, h103, rfl⟩)))⟩
      · skip
        refine V_aload_n C dX11_rows_106 rfl rfl ?_
        refine V_iconst C (nI 1) dX11_rows_107 (by decide) ?_
        refine V_iconst C (nI 0) dX11_rows_108 (by decide) ?_
        refine V_callV C [_, _] (ct_X11_fails hd hA ht h1 h2) cv_X11_fails lk_X11_223 in_40 rfl rfl ⟨Nat.le_of_ble_eq_true rfl, Nat.le_of_ble_eq_true rfl⟩ rfl rfl (Nat.le_of_ble_eq_true rfl) dX11_rows_109 (fun r M' hr => ?_)
        obtain ⟨rfl, hFl⟩ := hr
        try simp only [gNN, gNI, gNJ, gIN, gII, gIJ, gJN, gJI, gJJ, Nat.reduceEqDiff, false_and, and_false, true_and, and_true, if_false, if_true]
        refine V_vret C E dX11_rows_112 ?_
        exact ⟨rfl, Or.inr (Or.inr (Or.inl ⟨by omega, h103, hFl⟩))⟩
    · skip
      refine V_aload_n C dX11_rows_26 rfl rfl ?_
      refine gf_X11_50 C dX11_rows_27 ?_
      try simp only [gNN, gNI, gNJ, gIN, gII, gIJ, gJN, gJI, gJJ, Nat.reduceEqDiff, false_and, and_false, true_and, and_true, if_false, if_true]
      refine V_iload_n C dX11_rows_30 rfl rfl ?_
      refine ld_54 C (by omega) dX11_rows_31 ?_
      try simp only [gNN, gNI, gNJ, gIN, gII, gIJ, gJN, gJI, gJJ, Nat.reduceEqDiff, false_and, and_false, true_and, and_true, if_false, if_true]
      refine V_iconst C (-1) dX11_rows_32 (by decide) ?_
      refine V_icmp_eq (tgt := 64) C dX11_rows_33 (by decide) (fun h33 => ?_) (fun h33 => ?_)
      · skip
        refine V_iconst C (nI 1) dX11_rows_64 (by decide) ?_
        refine V_goto (tgt := 69) C dX11_rows_65 (by decide) ?_
        refine V_istore (lv' := [(6, _), (0, _), (1, _), (2, _), (3, _), (4, _), (5, _)]) C dX11_rows_69 (by decide) rfl ?_
        refine V_iload C dX11_rows_71 rfl ?_
        refine V_ifN_eq (tgt := 89) C dX11_rows_73 (by omega) (by decide) (fun h73 => absurd h73 (by decide)) (fun h73 => ?_)
        refine V_aload_n C dX11_rows_76 rfl rfl ?_
        refine gf_X11_44 C dX11_rows_77 ?_
        try simp only [gNN, gNI, gNJ, gIN, gII, gIJ, gJN, gJI, gJJ, Nat.reduceEqDiff, false_and, and_false, true_and, and_true, if_false, if_true]
        refine V_iload_n C dX11_rows_80 rfl rfl ?_
        refine V_dup2 C dX11_rows_81 rfl rfl ?_
        refine ld_52 C (by omega) dX11_rows_82 ?_
        try simp only [gNN, gNI, gNJ, gIN, gII, gIJ, gJN, gJI, gJJ, Nat.reduceEqDiff, false_and, and_false, true_and, and_true, if_false, if_true]
        refine V_iconst C (nI 1) dX11_rows_83 (by decide) ?_
        refine V_iaddN C dX11_rows_84 ?_
        refine st_52 C (by omega) dX11_rows_85 ?_
        refine V_goto (tgt := 95) C dX11_rows_86 (by decide) ?_
        refine V_vret C E dX11_rows_95 ?_
        first | (have hi : isR M f x := Or.inl h33) | (have hi : isR M f x := Or.inr (Or.inl h44)) | (have hi : isR M f x := Or.inr (Or.inr ⟨h55, h61⟩)) | (have hi : ¬ isR M f x := by rintro (q | q | q) <;> first | exact h33 q | exact h44 q | exact h55 q.1 | exact h61 q.2)
        first | exact ⟨rfl, Or.inr (Or.inl ⟨h23, Or.inl ⟨hi, rfl⟩⟩)⟩ | exact ⟨rfl, Or.inr (Or.inl ⟨h23, Or.inr ⟨hi, hFl⟩⟩)⟩
      · skip
        refine V_aload_n C dX11_rows_36 rfl rfl ?_
        refine gf_X11_50 C dX11_rows_37 ?_
        try simp only [gNN, gNI, gNJ, gIN, gII, gIJ, gJN, gJI, gJJ, Nat.reduceEqDiff, false_and, and_false, true_and, and_true, if_false, if_true]
        refine V_iload_n C dX11_rows_40 rfl rfl ?_
        refine ld_54 C (by omega) dX11_rows_41 ?_
        try simp only [gNN, gNI, gNJ, gIN, gII, gIJ, gJN, gJI, gJJ, Nat.reduceEqDiff, false_and, and_false, true_and, and_true, if_false, if_true]
        refine V_iload C dX11_rows_42 rfl ?_
        refine V_icmp_eq (tgt := 64) C dX11_rows_44 (by decide) (fun h44 => ?_) (fun h44 => ?_)
        · skip
          refine V_iconst C (nI 1) dX11_rows_64 (by decide) ?_
          refine V_goto (tgt := 69) C dX11_rows_65 (by decide) ?_
          refine V_istore (lv' := [(6, _), (0, _), (1, _), (2, _), (3, _), (4, _), (5, _)]) C dX11_rows_69 (by decide) rfl ?_
          refine V_iload C dX11_rows_71 rfl ?_
          refine V_ifN_eq (tgt := 89) C dX11_rows_73 (by omega) (by decide) (fun h73 => absurd h73 (by decide)) (fun h73 => ?_)
          refine V_aload_n C dX11_rows_76 rfl rfl ?_
          refine gf_X11_44 C dX11_rows_77 ?_
          try simp only [gNN, gNI, gNJ, gIN, gII, gIJ, gJN, gJI, gJJ, Nat.reduceEqDiff, false_and, and_false, true_and, and_true, if_false, if_true]
          refine V_iload_n C dX11_rows_80 rfl rfl ?_
          refine V_dup2 C dX11_rows_81 rfl rfl ?_
          refine ld_52 C (by omega) dX11_rows_82 ?_
          try simp only [gNN, gNI, gNJ, gIN, gII, gIJ, gJN, gJI, gJJ, Nat.reduceEqDiff, false_and, and_false, true_and, and_true, if_false, if_true]
          refine V_iconst C (nI 1) dX11_rows_83 (by decide) ?_
          refine V_iaddN C dX11_rows_84 ?_
          refine st_52 C (by omega) dX11_rows_85 ?_
          refine V_goto (tgt := 95) C dX11_rows_86 (by decide) ?_
          refine V_vret C E dX11_rows_95 ?_
          first | (have hi : isR M f x := Or.inl h33) | (have hi : isR M f x := Or.inr (Or.inl h44)) | (have hi : isR M f x := Or.inr (Or.inr ⟨h55, h61⟩)) | (have hi : ¬ isR M f x := by rintro (q | q | q) <;> first | exact h33 q | exact h44 q | exact h55 q.1 | exact h61 q.2)
          first | exact ⟨rfl, Or.inr (Or.inl ⟨h23, Or.inl ⟨hi, rfl⟩⟩)⟩ | exact ⟨rfl, Or.inr (Or.inl ⟨h23, Or.inr ⟨hi, hFl⟩⟩)⟩
        · skip
          refine V_aload_n C dX11_rows_47 rfl rfl ?_
          refine gf_X11_50 C dX11_rows_48 ?_
          try simp only [gNN, gNI, gNJ, gIN, gII, gIJ, gJN, gJI, gJJ, Nat.reduceEqDiff, false_and, and_false, true_and, and_true, if_false, if_true]
          refine V_iload_n C dX11_rows_51 rfl rfl ?_
          refine ld_54 C (by omega) dX11_rows_52 ?_
          try simp only [gNN, gNI, gNJ, gIN, gII, gIJ, gJN, gJI, gJJ, Nat.reduceEqDiff, false_and, and_false, true_and, and_true, if_false, if_true]
          refine V_bipush C (nI 6) dX11_rows_53 (by decide) ?_
          refine V_icmp_ne (tgt := 68) C dX11_rows_55 (by decide) (fun h55 => ?_) (fun h55 => ?_)
          · skip
            refine V_iconst C (nI 0) dX11_rows_68 (by decide) ?_
            refine V_istore (lv' := [(6, _), (0, _), (1, _), (2, _), (3, _), (4, _), (5, _)]) C dX11_rows_69 (by decide) rfl ?_
            refine V_iload C dX11_rows_71 rfl ?_
            refine V_ifN_eq (tgt := 89) C dX11_rows_73 (by omega) (by decide) (fun h73 => ?_) (fun h73 => absurd rfl h73)
            refine V_aload_n C dX11_rows_89 rfl rfl ?_
            refine V_iconst C (nI 5) dX11_rows_90 (by decide) ?_
            refine V_iconst C (nI 0) dX11_rows_91 (by decide) ?_
            refine V_callV C [_, _] (ct_X11_fails hd hA ht h1 h2) cv_X11_fails lk_X11_223 in_40 rfl rfl ⟨Nat.le_of_ble_eq_true rfl, Nat.le_of_ble_eq_true rfl⟩ rfl rfl (Nat.le_of_ble_eq_true rfl) dX11_rows_92 (fun r M' hr => ?_)
            obtain ⟨rfl, hFl⟩ := hr
            try simp only [gNN, gNI, gNJ, gIN, gII, gIJ, gJN, gJI, gJJ, Nat.reduceEqDiff, false_and, and_false, true_and, and_true, if_false, if_true]
            refine V_vret C E dX11_rows_95 ?_
            first | (have hi : isR M f x := Or.inl h33) | (have hi : isR M f x := Or.inr (Or.inl h44)) | (have hi : isR M f x := Or.inr (Or.inr ⟨h55, h61⟩)) | (have hi : ¬ isR M f x := by rintro (q | q | q) <;> first | exact h33 q | exact h44 q | exact h55 q.1 | exact h61 q.2)
            first | exact ⟨rfl, Or.inr (Or.inl ⟨h23, Or.inl ⟨hi, rfl⟩⟩)⟩ | exact ⟨rfl, Or.inr (Or.inl ⟨h23, Or.inr ⟨hi, hFl⟩⟩)⟩
          · skip
            refine V_iload C dX11_rows_58 rfl ?_
            refine V_iconst C (nI 5) dX11_rows_60 (by decide) ?_
            refine V_icmp_ne (tgt := 68) C dX11_rows_61 (by decide) (fun h61 => ?_) (fun h61 => ?_)
            · skip
              refine V_iconst C (nI 0) dX11_rows_68 (by decide) ?_
              refine V_istore (lv' := [(6, _), (0, _), (1, _), (2, _), (3, _), (4, _), (5, _)]) C dX11_rows_69 (by decide) rfl ?_
              refine V_iload C dX11_rows_71 rfl ?_
              refine V_ifN_eq (tgt := 89) C dX11_rows_73 (by omega) (by decide) (fun h73 => ?_) (fun h73 => absurd rfl h73)
              refine V_aload_n C dX11_rows_89 rfl rfl ?_
              refine V_iconst C (nI 5) dX11_rows_90 (by decide) ?_
              refine V_iconst C (nI 0) dX11_rows_91 (by decide) ?_
              refine V_callV C [_, _] (ct_X11_fails hd hA ht h1 h2) cv_X11_fails lk_X11_223 in_40 rfl rfl ⟨Nat.le_of_ble_eq_true rfl, Nat.le_of_ble_eq_true rfl⟩ rfl rfl (Nat.le_of_ble_eq_true rfl) dX11_rows_92 (fun r M' hr => ?_)
              obtain ⟨rfl, hFl⟩ := hr
              try simp only [gNN, gNI, gNJ, gIN, gII, gIJ, gJN, gJI, gJJ, Nat.reduceEqDiff, false_and, and_false, true_and, and_true, if_false, if_true]
              refine V_vret C E dX11_rows_95 ?_
              first | (have hi : isR M f x := Or.inl h33) | (have hi : isR M f x := Or.inr (Or.inl h44)) | (have hi : isR M f x := Or.inr (Or.inr ⟨h55, h61⟩)) | (have hi : ¬ isR M f x := by rintro (q | q | q) <;> first | exact h33 q | exact h44 q | exact h55 q.1 | exact h61 q.2)
              first | exact ⟨rfl, Or.inr (Or.inl ⟨h23, Or.inl ⟨hi, rfl⟩⟩)⟩ | exact ⟨rfl, Or.inr (Or.inl ⟨h23, Or.inr ⟨hi, hFl⟩⟩)⟩
            · skip
              refine V_iconst C (nI 1) dX11_rows_64 (by decide) ?_
              refine V_goto (tgt := 69) C dX11_rows_65 (by decide) ?_
              refine V_istore (lv' := [(6, _), (0, _), (1, _), (2, _), (3, _), (4, _), (5, _)]) C dX11_rows_69 (by decide) rfl ?_
              refine V_iload C dX11_rows_71 rfl ?_
              refine V_ifN_eq (tgt := 89) C dX11_rows_73 (by omega) (by decide) (fun h73 => absurd h73 (by decide)) (fun h73 => ?_)
              refine V_aload_n C dX11_rows_76 rfl rfl ?_
              refine gf_X11_44 C dX11_rows_77 ?_
              try simp only [gNN, gNI, gNJ, gIN, gII, gIJ, gJN, gJI, gJJ, Nat.reduceEqDiff, false_and, and_false, true_and, and_true, if_false, if_true]
              refine V_iload_n C dX11_rows_80 rfl rfl ?_
              refine V_dup2 C dX11_rows_81 rfl rfl ?_
              refine ld_52 C (by omega) dX11_rows_82 ?_
              try simp only [gNN, gNI, gNJ, gIN, gII, gIJ, gJN, gJI, gJJ, Nat.reduceEqDiff, false_and, and_false, true_and, and_true, if_false, if_true]
              refine V_iconst C (nI 1) dX11_rows_83 (by decide) ?_
              refine V_iaddN C dX11_rows_84 ?_
              refine st_52 C (by omega) dX11_rows_85 ?_
              refine V_goto (tgt := 95) C dX11_rows_86 (by decide) ?_
              refine V_vret C E dX11_rows_95 ?_
              first | (have hi : isR M f x := Or.inl h33) | (have hi : isR M f x := Or.inr (Or.inl h44)) | (have hi : isR M f x := Or.inr (Or.inr ⟨h55, h61⟩)) | (have hi : ¬ isR M f x := by rintro (q | q | q) <;> first | exact h33 q | exact h44 q | exact h55 q.1 | exact h61 q.2)
              first | exact ⟨rfl, Or.inr (Or.inl ⟨h23, Or.inl ⟨hi, rfl⟩⟩)⟩ | exact ⟨rfl, Or.inr (Or.inl ⟨h23, Or.inr ⟨hi, hFl⟩⟩)⟩
  · skip
    refine V_aload_n C dX11_rows_6 rfl rfl ?_
    refine V_iload_n C dX11_rows_7 rfl rfl ?_
    refine V_aload_n C dX11_rows_8 rfl rfl ?_
    refine gf_X11_47 C dX11_rows_9 ?_
    try simp only [gNN, gNI, gNJ, gIN, gII, gIJ, gJN, gJI, gJJ, Nat.reduceEqDiff, false_and, and_false, true_and, and_true, if_false, if_true]
    refine V_iload_n C dX11_rows_12 rfl rfl ?_
    refine ld_53 C (by omega) dX11_rows_13 ?_
    try simp only [gNN, gNI, gNJ, gIN, gII, gIJ, gJN, gJI, gJJ, Nat.reduceEqDiff, false_and, and_false, true_and, and_true, if_false, if_true]
    refine V_iload C dX11_rows_14 rfl ?_
    refine V_callV C [_, _, _] (ct_X11_makes hf (hz h3) hd hA ht b1 b2) cv_X11_makes lk_X11_238 in_40 rfl rfl ⟨Nat.le_of_ble_eq_true rfl, Nat.le_of_ble_eq_true rfl⟩ rfl rfl (Nat.le_of_ble_eq_true rfl) dX11_rows_16 (fun r M' hr => ?_)
    obtain ⟨rfl, hMk⟩ := hr
    try simp only [gNN, gNI, gNJ, gIN, gII, gIJ, gJN, gJI, gJJ, Nat.reduceEqDiff, false_and, and_false, true_and, and_true, if_false, if_true]
    refine V_vret C E dX11_rows_19 ?_
    exact ⟨rfl, Or.inl ⟨h3, hMk⟩⟩

set_option maxRecDepth 20000 in
set_option maxHeartbeats 4000000 in
theorem ct_X11_work {l : Launch} {G : Gm} {M : Mem} {f m p : Nat} (hf : f < 12) (hm : gN M 51 0 f = m) (hp : gN M 52 0 f = p) (hm6 : m < 6) (hI : RI M) (hp2 : p < gN M 41 0 m) (hd1 : 1 ≤ gN M 40 0 11) (hlo : ∀ g, gN M 40 0 11 = g + 2 → gN M 51 0 g < 6 ∧ RIm M (gN M 51 0 g) ∧ gN M 52 0 g < gN M 41 0 (gN M 51 0 g)) (h3 : gN M 40 0 30 ≤ 12) (hz : rac M m p = 8 → (gJ M 53 0 (rR M f m p)).toInt ≤ 200 ∧ gN M 40 0 22 + (gJ M 53 0 (rR M f m p)).toInt.toNat ≤ 256) (hrow : ¬ gI M 54 0 f = -1 → gN M 55 0 f + gN M 56 0 f ≤ 256 ∧ ∃ n, n ≤ 6 ∧ gI M 54 0 f = nI n) (hh : ∀ g, g ≤ 2 → gN M 59 0 (3 * f + g) ≤ 2000) (hck : gN M 57 0 f ≤ 8) (hd : gN M 40 0 11 ≤ 12) (hA : allR M) (ht : gN M 40 0 31 ≤ 30) (h1 : gN M 40 0 29 ≤ gN M 40 0 23) (h2 : gN M 40 0 23 ≤ 200)  : Ct l G rM yX11_work (.code yX11_work cX11_work 8 none :: GW) rmX11_work [.ref (ad G 40 0), .int (nI f)] M (fun r M' => none = r ∧ RWork M f m p M') := by
  refine Ct_of (cc := cX11_work) (by decide) [(0, _), (1, _)] rfl (Nat.le_of_ble_eq_true rfl) (fun pp ee ss mm aa bb mt cd C E => ?_)
  have b1 := h1
  have b2 := h2
  have hi := hI.2 m hm6
  have hs := hi.1
  have hrg := hi.2.2.1 p (by omega)
  refine V_aload_n C dX11_work_0 rfl rfl ?_
  refine gf_X11_41 C dX11_work_1 ?_
  try simp only [gNN, gNI, gNJ, gIN, gII, gIJ, gJN, gJI, gJJ, Nat.reduceEqDiff, false_and, and_false, true_and, and_true, if_false, if_true]
  refine V_iload_n C dX11_work_4 rfl rfl ?_
  refine ld_51 C (by omega) dX11_work_5 ?_
  try simp only [gNN, gNI, gNJ, gIN, gII, gIJ, gJN, gJI, gJJ, Nat.reduceEqDiff, false_and, and_false, true_and, and_true, if_false, if_true]
  rw [hm]
  refine V_istore_n (lv' := [(2, _), (0, _), (1, _)]) C dX11_work_6 rfl (by decide) rfl ?_
  refine V_aload_n C dX11_work_7 rfl rfl ?_
  refine gf_X11_44 C dX11_work_8 ?_
  try simp only [gNN, gNI, gNJ, gIN, gII, gIJ, gJN, gJI, gJJ, Nat.reduceEqDiff, false_and, and_false, true_and, and_true, if_false, if_true]
  refine V_iload_n C dX11_work_11 rfl rfl ?_
  refine ld_52 C (by omega) dX11_work_12 ?_
  try simp only [gNN, gNI, gNJ, gIN, gII, gIJ, gJN, gJI, gJJ, Nat.reduceEqDiff, false_and, and_false, true_and, and_true, if_false, if_true]
  rw [hp]
  refine V_aload_n C dX11_work_13 rfl rfl ?_
  refine gf_X11_7 C dX11_work_14 ?_
  try simp only [gNN, gNI, gNJ, gIN, gII, gIJ, gJN, gJI, gJJ, Nat.reduceEqDiff, false_and, and_false, true_and, and_true, if_false, if_true]
  refine V_iload_n C dX11_work_17 rfl rfl ?_
  refine ld_41 C (by omega) dX11_work_18 ?_
  try simp only [gNN, gNI, gNJ, gIN, gII, gIJ, gJN, gJI, gJJ, Nat.reduceEqDiff, false_and, and_false, true_and, and_true, if_false, if_true]
  refine V_icmpN_ne (tgt := 28) C dX11_work_19 (by omega) (by omega) (by decide) (fun h19 => ?_) (fun h19 => ?_)
  · skip
    refine V_bipush C (nI 40) dX11_work_28 (by decide) ?_
    refine V_iload_n C dX11_work_30 rfl rfl ?_
    refine V_imulN C dX11_work_31 ?_
    refine V_aload_n C dX11_work_32 rfl rfl ?_
    refine gf_X11_44 C dX11_work_33 ?_
    try simp only [gNN, gNI, gNJ, gIN, gII, gIJ, gJN, gJI, gJJ, Nat.reduceEqDiff, false_and, and_false, true_and, and_true, if_false, if_true]
    refine V_iload_n C dX11_work_36 rfl rfl ?_
    refine ld_52 C (by omega) dX11_work_37 ?_
    try simp only [gNN, gNI, gNJ, gIN, gII, gIJ, gJN, gJI, gJJ, Nat.reduceEqDiff, false_and, and_false, true_and, and_true, if_false, if_true]
    rw [hp]
    refine V_iaddN C dX11_work_38 ?_
    refine V_istore_n (lv' := [(3, _), (2, _), (0, _), (1, _)]) C dX11_work_39 rfl (by decide) rfl ?_
    refine V_iconst C (nI 4) dX11_work_40 (by decide) ?_
    refine V_iload_n C dX11_work_41 rfl rfl ?_
    refine V_imulN C dX11_work_42 ?_
    refine V_aload_n C dX11_work_43 rfl rfl ?_
    refine gf_X11_16 C dX11_work_44 ?_
    try simp only [gNN, gNI, gNJ, gIN, gII, gIJ, gJN, gJI, gJJ, Nat.reduceEqDiff, false_and, and_false, true_and, and_true, if_false, if_true]
    refine V_iload_n C dX11_work_47 rfl rfl ?_
    refine ld_43 C (by omega) dX11_work_48 ?_
    try simp only [gNN, gNI, gNJ, gIN, gII, gIJ, gJN, gJI, gJJ, Nat.reduceEqDiff, false_and, and_false, true_and, and_true, if_false, if_true]
    refine V_iaddN C dX11_work_49 ?_
    refine V_istore (lv' := [(4, _), (3, _), (2, _), (0, _), (1, _)]) C dX11_work_50 (by decide) rfl ?_
    refine V_iconst C (nI 4) dX11_work_52 (by decide) ?_
    refine V_iload_n C dX11_work_53 rfl rfl ?_
    refine V_imulN C dX11_work_54 ?_
    refine V_aload_n C dX11_work_55 rfl rfl ?_
    refine gf_X11_19 C dX11_work_56 ?_
    try simp only [gNN, gNI, gNJ, gIN, gII, gIJ, gJN, gJI, gJJ, Nat.reduceEqDiff, false_and, and_false, true_and, and_true, if_false, if_true]
    refine V_iload_n C dX11_work_59 rfl rfl ?_
    refine ld_44 C (by omega) dX11_work_60 ?_
    try simp only [gNN, gNI, gNJ, gIN, gII, gIJ, gJN, gJI, gJJ, Nat.reduceEqDiff, false_and, and_false, true_and, and_true, if_false, if_true]
    refine V_iaddN C dX11_work_61 ?_
    refine V_istore (lv' := [(5, _), (4, _), (3, _), (2, _), (0, _), (1, _)]) C dX11_work_62 (by decide) rfl ?_
    refine V_aload_n C dX11_work_64 rfl rfl ?_
    refine gf_X11_22 C dX11_work_65 ?_
    try simp only [gNN, gNI, gNJ, gIN, gII, gIJ, gJN, gJI, gJJ, Nat.reduceEqDiff, false_and, and_false, true_and, and_true, if_false, if_true]
    refine V_iload_n C dX11_work_68 rfl rfl ?_
    refine ld_45 C (by omega) dX11_work_69 ?_
    try simp only [gNN, gNI, gNJ, gIN, gII, gIJ, gJN, gJI, gJJ, Nat.reduceEqDiff, false_and, and_false, true_and, and_true, if_false, if_true]
    refine V_lstore (lv' := [(6, _), (5, _), (4, _), (3, _), (2, _), (0, _), (1, _)]) C dX11_work_70 (by decide) rfl ?_
    refine V_aload_n C dX11_work_72 rfl rfl ?_
    refine gf_X11_13 C dX11_work_73 ?_
    try simp only [gNN, gNI, gNJ, gIN, gII, gIJ, gJN, gJI, gJJ, Nat.reduceEqDiff, false_and, and_false, true_and, and_true, if_false, if_true]
    refine V_iload_n C dX11_work_76 rfl rfl ?_
    refine ld_42 C (by omega) dX11_work_77 ?_
    try simp only [gNN, gNI, gNJ, gIN, gII, gIJ, gJN, gJI, gJJ, Nat.reduceEqDiff, false_and, and_false, true_and, and_true, if_false, if_true]
    by_cases h78_0 : gN M 42 0 (40 * m + p) = 0
    · refine V_tabIn (tgt := 168) C dX11_work_78 (0) (by rw [h78_0]; decide) (by decide) (by decide) rfl (by decide) ?_
      refine V_aload_n C dX11_work_168 rfl rfl ?_
      refine gf_X11_47 C dX11_work_169 ?_
      try simp only [gNN, gNI, gNJ, gIN, gII, gIJ, gJN, gJI, gJJ, Nat.reduceEqDiff, false_and, and_false, true_and, and_true, if_false, if_true]
      refine V_iload C dX11_work_172 rfl ?_
      refine V_lload C dX11_work_174 rfl ?_
      refine st_53 C (by omega) dX11_work_176 ?_
      refine V_aload_n C dX11_work_177 rfl rfl ?_
      refine gf_X11_44 C dX11_work_178 ?_
      try simp only [gNN, gNI, gNJ, gIN, gII, gIJ, gJN, gJI, gJJ, Nat.reduceEqDiff, false_and, and_false, true_and, and_true, if_false, if_true]
      refine V_iload_n C dX11_work_181 rfl rfl ?_
      refine V_dup2 C dX11_work_182 rfl rfl ?_
      refine ld_52 C (by omega) dX11_work_183 ?_
      try simp only [gNN, gNI, gNJ, gIN, gII, gIJ, gJN, gJI, gJJ, Nat.reduceEqDiff, false_and, and_false, true_and, and_true, if_false, if_true]
      rw [hp]
      refine V_iconst C (nI 1) dX11_work_184 (by decide) ?_
      refine V_iaddN C dX11_work_185 ?_
      refine st_52 C (by omega) dX11_work_186 ?_
      refine V_goto (tgt := 504) C dX11_work_187 (by decide) ?_
      refine V_vret C E dX11_work_504 ?_
      first | exact ⟨rfl, Or.inl ⟨h78_0, rfl⟩⟩ | exact ⟨rfl, Or.inr (Or.inl ⟨h78_1, rfl⟩)⟩ | exact ⟨rfl, Or.inr (Or.inr (Or.inl ⟨h78_2, rfl⟩))⟩ | exact ⟨rfl, Or.inr (Or.inr (Or.inr (Or.inl ⟨h78_3, rfl⟩)))⟩ | exact ⟨rfl, Or.inr (Or.inr (Or.inr (Or.inr (Or.inl ⟨h78_4, hD⟩))))⟩ | exact ⟨rfl, Or.inr (Or.inr (Or.inr (Or.inr (Or.inr (Or.inl ⟨h78_5, hD⟩)))))⟩ | exact ⟨rfl, Or.inr (Or.inr (Or.inr (Or.inr (Or.inr (Or.inr (Or.inl ⟨h78_6, v, hv1, hv2, hJ⟩))))))⟩ | exact ⟨rfl, Or.inr (Or.inr (Or.inr (Or.inr (Or.inr (Or.inr (Or.inr (Or.inl ⟨h78_7, Or.inl ⟨Int64.not_le.mp h342, v, hv1, hv2, hJ⟩⟩)))))))⟩ | exact ⟨rfl, Or.inr (Or.inr (Or.inr (Or.inr (Or.inr (Or.inr (Or.inr (Or.inl ⟨h78_7, Or.inr ⟨Int64.not_lt.mpr h342, rfl⟩⟩)))))))⟩ | exact ⟨rfl, Or.inr (Or.inr (Or.inr (Or.inr (Or.inr (Or.inr (Or.inr (Or.inr (Or.inl ⟨h78_13, v, hv1, hv2, hEn⟩))))))))⟩ | exact ⟨rfl, Or.inr (Or.inr (Or.inr (Or.inr (Or.inr (Or.inr (Or.inr (Or.inr (Or.inr (Or.inl ⟨h78_14, hGv⟩)))))))))⟩ | exact ⟨rfl, Or.inr (Or.inr (Or.inr (Or.inr (Or.inr (Or.inr (Or.inr (Or.inr (Or.inr (Or.inr (Or.inl ⟨h78_15, hFl⟩))))))))))⟩ | exact ⟨rfl, Or.inr (Or.inr (Or.inr (Or.inr (Or.inr (Or.inr (Or.inr (Or.inr (Or.inr (Or.inr (Or.inr (Or.inl ⟨h78_16, Or.inl ⟨h423, hFl⟩⟩)))))))))))⟩ | exact ⟨rfl, Or.inr (Or.inr (Or.inr (Or.inr (Or.inr (Or.inr (Or.inr (Or.inr (Or.inr (Or.inr (Or.inr (Or.inl ⟨h78_16, Or.inr ⟨h423, hFl⟩⟩)))))))))))⟩ | exact ⟨rfl, Or.inr (Or.inr (Or.inr (Or.inr (Or.inr (Or.inr (Or.inr (Or.inr (Or.inr (Or.inr (Or.inr (Or.inr (Or.inl ⟨h78_17, v, hv1, hv2, rfl⟩))))))))))))⟩ | exact ⟨rfl, Or.inr (Or.inr (Or.inr (Or.inr (Or.inr (Or.inr (Or.inr (Or.inr (Or.inr (Or.inr (Or.inr (Or.inr (Or.inr (Or.inl ⟨h78_18, v, hv1, hv2, hLt⟩)))))))))))))⟩ | exact ⟨rfl, Or.inr (Or.inr (Or.inr (Or.inr (Or.inr (Or.inr (Or.inr (Or.inr (Or.inr (Or.inr (Or.inr (Or.inr (Or.inr (Or.inr (⟨by unfold rac; omega, hRw⟩))))))))))))))⟩
    by_cases h78_1 : gN M 42 0 (40 * m + p) = 1
    · refine V_tabIn (tgt := 190) C dX11_work_78 (1) (by rw [h78_1]; decide) (by decide) (by decide) rfl (by decide) ?_
      refine V_aload_n C dX11_work_190 rfl rfl ?_
      refine gf_X11_47 C dX11_work_191 ?_
      try simp only [gNN, gNI, gNJ, gIN, gII, gIJ, gJN, gJI, gJJ, Nat.reduceEqDiff, false_and, and_false, true_and, and_true, if_false, if_true]
      refine V_iload C dX11_work_194 rfl ?_
      refine V_aload_n C dX11_work_196 rfl rfl ?_
      refine gf_X11_47 C dX11_work_197 ?_
      try simp only [gNN, gNI, gNJ, gIN, gII, gIJ, gJN, gJI, gJJ, Nat.reduceEqDiff, false_and, and_false, true_and, and_true, if_false, if_true]
      refine V_iload C dX11_work_200 rfl ?_
      refine ld_53 C (by omega) dX11_work_202 ?_
      try simp only [gNN, gNI, gNJ, gIN, gII, gIJ, gJN, gJI, gJJ, Nat.reduceEqDiff, false_and, and_false, true_and, and_true, if_false, if_true]
      refine V_aload_n C dX11_work_203 rfl rfl ?_
      refine gf_X11_47 C dX11_work_204 ?_
      try simp only [gNN, gNI, gNJ, gIN, gII, gIJ, gJN, gJI, gJJ, Nat.reduceEqDiff, false_and, and_false, true_and, and_true, if_false, if_true]
      refine V_iload C dX11_work_207 rfl ?_
      refine ld_53 C (by omega) dX11_work_209 ?_
      try simp only [gNN, gNI, gNJ, gIN, gII, gIJ, gJN, gJI, gJJ, Nat.reduceEqDiff, false_and, and_false, true_and, and_true, if_false, if_true]
      refine V_ladd C dX11_work_210 ?_
      refine st_53 C (by omega) dX11_work_211 ?_
      refine V_aload_n C dX11_work_212 rfl rfl ?_
      refine gf_X11_44 C dX11_work_213 ?_
      try simp only [gNN, gNI, gNJ, gIN, gII, gIJ, gJN, gJI, gJJ, Nat.reduceEqDiff, false_and, and_false, true_and, and_true, if_false, if_true]
      refine V_iload_n C dX11_work_216 rfl rfl ?_
      refine V_dup2 C dX11_work_217 rfl rfl ?_
      refine ld_52 C (by omega) dX11_work_218 ?_
      try simp only [gNN, gNI, gNJ, gIN, gII, gIJ, gJN, gJI, gJJ, Nat.reduceEqDiff, false_and, and_false, true_and, and_true, if_false, if_true]
      rw [hp]
      refine V_iconst C (nI 1) dX11_work_219 (by decide) ?_
      refine V_iaddN C dX11_work_220 ?_
      refine st_52 C (by omega) dX11_work_221 ?_
      refine V_goto (tgt := 504) C dX11_work_222 (by decide) ?_
      refine V_vret C E dX11_work_504 ?_
      first | exact ⟨rfl, Or.inl ⟨h78_0, rfl⟩⟩ | exact ⟨rfl, Or.inr (Or.inl ⟨h78_1, rfl⟩)⟩ | exact ⟨rfl, Or.inr (Or.inr (Or.inl ⟨h78_2, rfl⟩))⟩ | exact ⟨rfl, Or.inr (Or.inr (Or.inr (Or.inl ⟨h78_3, rfl⟩)))⟩ | exact ⟨rfl, Or.inr (Or.inr (Or.inr (Or.inr (Or.inl ⟨h78_4, hD⟩))))⟩ | exact ⟨rfl, Or.inr (Or.inr (Or.inr (Or.inr (Or.inr (Or.inl ⟨h78_5, hD⟩)))))⟩ | exact ⟨rfl, Or.inr (Or.inr (Or.inr (Or.inr (Or.inr (Or.inr (Or.inl ⟨h78_6, v, hv1, hv2, hJ⟩))))))⟩ | exact ⟨rfl, Or.inr (Or.inr (Or.inr (Or.inr (Or.inr (Or.inr (Or.inr (Or.inl ⟨h78_7, Or.inl ⟨Int64.not_le.mp h342, v, hv1, hv2, hJ⟩⟩)))))))⟩ | exact ⟨rfl, Or.inr (Or.inr (Or.inr (Or.inr (Or.inr (Or.inr (Or.inr (Or.inl ⟨h78_7, Or.inr ⟨Int64.not_lt.mpr h342, rfl⟩⟩)))))))⟩ | exact ⟨rfl, Or.inr (Or.inr (Or.inr (Or.inr (Or.inr (Or.inr (Or.inr (Or.inr (Or.inl ⟨h78_13, v, hv1, hv2, hEn⟩))))))))⟩ | exact ⟨rfl, Or.inr (Or.inr (Or.inr (Or.inr (Or.inr (Or.inr (Or.inr (Or.inr (Or.inr (Or.inl ⟨h78_14, hGv⟩)))))))))⟩ | exact ⟨rfl, Or.inr (Or.inr (Or.inr (Or.inr (Or.inr (Or.inr (Or.inr (Or.inr (Or.inr (Or.inr (Or.inl ⟨h78_15, hFl⟩))))))))))⟩ | exact ⟨rfl, Or.inr (Or.inr (Or.inr (Or.inr (Or.inr (Or.inr (Or.inr (Or.inr (Or.inr (Or.inr (Or.inr (Or.inl ⟨h78_16, Or.inl ⟨h423, hFl⟩⟩)))))))))))⟩ | exact ⟨rfl, Or.inr (Or.inr (Or.inr (Or.inr (Or.inr (Or.inr (Or.inr (Or.inr (Or.inr (Or.inr (Or.inr (Or.inl ⟨h78_16, Or.inr ⟨h423, hFl⟩⟩)))))))))))⟩ | exact ⟨rfl, Or.inr (Or.inr (Or.inr (Or.inr (Or.inr (Or.inr (Or.inr (Or.inr (Or.inr (Or.inr (Or.inr (Or.inr (Or.inl ⟨h78_17, v, hv1, hv2, rfl⟩))))))))))))⟩ | exact ⟨rfl, Or.inr (Or.inr (Or.inr (Or.inr (Or.inr (Or.inr (Or.inr (Or.inr (Or.inr (Or.inr (Or.inr (Or.inr (Or.inr (Or.inl ⟨h78_18, v, hv1, hv2, hLt⟩)))))))))))))⟩ | exact ⟨rfl, Or.inr (Or.inr (Or.inr (Or.inr (Or.inr (Or.inr (Or.inr (Or.inr (Or.inr (Or.inr (Or.inr (Or.inr (Or.inr (Or.inr (⟨by unfold rac; omega, hRw⟩))))))))))))))⟩
    by_cases h78_2 : gN M 42 0 (40 * m + p) = 2
    · refine V_tabIn (tgt := 225) C dX11_work_78 (2) (by rw [h78_2]; decide) (by decide) (by decide) rfl (by decide) ?_
      refine V_aload_n C dX11_work_225 rfl rfl ?_
      refine gf_X11_47 C dX11_work_226 ?_
      try simp only [gNN, gNI, gNJ, gIN, gII, gIJ, gJN, gJI, gJJ, Nat.reduceEqDiff, false_and, and_false, true_and, and_true, if_false, if_true]
      refine V_iload C dX11_work_229 rfl ?_
      refine V_aload_n C dX11_work_231 rfl rfl ?_
      refine gf_X11_47 C dX11_work_232 ?_
      try simp only [gNN, gNI, gNJ, gIN, gII, gIJ, gJN, gJI, gJJ, Nat.reduceEqDiff, false_and, and_false, true_and, and_true, if_false, if_true]
      refine V_iload C dX11_work_235 rfl ?_
      refine ld_53 C (by omega) dX11_work_237 ?_
      try simp only [gNN, gNI, gNJ, gIN, gII, gIJ, gJN, gJI, gJJ, Nat.reduceEqDiff, false_and, and_false, true_and, and_true, if_false, if_true]
      refine V_aload_n C dX11_work_238 rfl rfl ?_
      refine gf_X11_47 C dX11_work_239 ?_
      try simp only [gNN, gNI, gNJ, gIN, gII, gIJ, gJN, gJI, gJJ, Nat.reduceEqDiff, false_and, and_false, true_and, and_true, if_false, if_true]
      refine V_iload C dX11_work_242 rfl ?_
      refine ld_53 C (by omega) dX11_work_244 ?_
      try simp only [gNN, gNI, gNJ, gIN, gII, gIJ, gJN, gJI, gJJ, Nat.reduceEqDiff, false_and, and_false, true_and, and_true, if_false, if_true]
      refine V_lsub C dX11_work_245 ?_
      refine st_53 C (by omega) dX11_work_246 ?_
      refine V_aload_n C dX11_work_247 rfl rfl ?_
      refine gf_X11_44 C dX11_work_248 ?_
      try simp only [gNN, gNI, gNJ, gIN, gII, gIJ, gJN, gJI, gJJ, Nat.reduceEqDiff, false_and, and_false, true_and, and_true, if_false, if_true]
      refine V_iload_n C dX11_work_251 rfl rfl ?_
      refine V_dup2 C dX11_work_252 rfl rfl ?_
      refine ld_52 C (by omega) dX11_work_253 ?_
      try simp only [gNN, gNI, gNJ, gIN, gII, gIJ, gJN, gJI, gJJ, Nat.reduceEqDiff, false_and, and_false, true_and, and_true, if_false, if_true]
      rw [hp]
      refine V_iconst C (nI 1) dX11_work_254 (by decide) ?_
      refine V_iaddN C dX11_work_255 ?_
      refine st_52 C (by omega) dX11_work_256 ?_
      refine V_goto (tgt := 504) C dX11_work_257 (by decide) ?_
      refine V_vret C E dX11_work_504 ?_
      first | exact ⟨rfl, Or.inl ⟨h78_0, rfl⟩⟩ | exact ⟨rfl, Or.inr (Or.inl ⟨h78_1, rfl⟩)⟩ | exact ⟨rfl, Or.inr (Or.inr (Or.inl ⟨h78_2, rfl⟩))⟩ | exact ⟨rfl, Or.inr (Or.inr (Or.inr (Or.inl ⟨h78_3, rfl⟩)))⟩ | exact ⟨rfl, Or.inr (Or.inr (Or.inr (Or.inr (Or.inl ⟨h78_4, hD⟩))))⟩ | exact ⟨rfl, Or.inr (Or.inr (Or.inr (Or.inr (Or.inr (Or.inl ⟨h78_5, hD⟩)))))⟩ | exact ⟨rfl, Or.inr (Or.inr (Or.inr (Or.inr (Or.inr (Or.inr (Or.inl ⟨h78_6, v, hv1, hv2, hJ⟩))))))⟩ | exact ⟨rfl, Or.inr (Or.inr (Or.inr (Or.inr (Or.inr (Or.inr (Or.inr (Or.inl ⟨h78_7, Or.inl ⟨Int64.not_le.mp h342, v, hv1, hv2, hJ⟩⟩)))))))⟩ | exact ⟨rfl, Or.inr (Or.inr (Or.inr (Or.inr (Or.inr (Or.inr (Or.inr (Or.inl ⟨h78_7, Or.inr ⟨Int64.not_lt.mpr h342, rfl⟩⟩)))))))⟩ | exact ⟨rfl, Or.inr (Or.inr (Or.inr (Or.inr (Or.inr (Or.inr (Or.inr (Or.inr (Or.inl ⟨h78_13, v, hv1, hv2, hEn⟩))))))))⟩ | exact ⟨rfl, Or.inr (Or.inr (Or.inr (Or.inr (Or.inr (Or.inr (Or.inr (Or.inr (Or.inr (Or.inl ⟨h78_14, hGv⟩)))))))))⟩ | exact ⟨rfl, Or.inr (Or.inr (Or.inr (Or.inr (Or.inr (Or.inr (Or.inr (Or.inr (Or.inr (Or.inr (Or.inl ⟨h78_15, hFl⟩))))))))))⟩ | exact ⟨rfl, Or.inr (Or.inr (Or.inr (Or.inr (Or.inr (Or.inr (Or.inr (Or.inr (Or.inr (Or.inr (Or.inr (Or.inl ⟨h78_16, Or.inl ⟨h423, hFl⟩⟩)))))))))))⟩ | exact ⟨rfl, Or.inr (Or.inr (Or.inr (Or.inr (Or.inr (Or.inr (Or.inr (Or.inr (Or.inr (Or.inr (Or.inr (Or.inl ⟨h78_16, Or.inr ⟨h423, hFl⟩⟩)))))))))))⟩ | exact ⟨rfl, Or.inr (Or.inr (Or.inr (Or.inr (Or.inr (Or.inr (Or.inr (Or.inr (Or.inr (Or.inr (Or.inr (Or.inr (Or.inl ⟨h78_17, v, hv1, hv2, rfl⟩))))))))))))⟩ | exact ⟨rfl, Or.inr (Or.inr (Or.inr (Or.inr (Or.inr (Or.inr (Or.inr (Or.inr (Or.inr (Or.inr (Or.inr (Or.inr (Or.inr (Or.inl ⟨h78_18, v, hv1, hv2, hLt⟩)))))))))))))⟩ | exact ⟨rfl, Or.inr (Or.inr (Or.inr (Or.inr (Or.inr (Or.inr (Or.inr (Or.inr (Or.inr (Or.inr (Or.inr (Or.inr (Or.inr (Or.inr (⟨by unfold rac; omega, hRw⟩))))))))))))))⟩
    by_cases h78_3 : gN M 42 0 (40 * m + p) = 3
    · refine V_tabIn (tgt := 260) C dX11_work_78 (3) (by rw [h78_3]; decide) (by decide) (by decide) rfl (by decide) ?_
      refine V_aload_n C dX11_work_260 rfl rfl ?_
      refine gf_X11_47 C dX11_work_261 ?_
      try simp only [gNN, gNI, gNJ, gIN, gII, gIJ, gJN, gJI, gJJ, Nat.reduceEqDiff, false_and, and_false, true_and, and_true, if_false, if_true]
      refine V_iload C dX11_work_264 rfl ?_
      refine V_aload_n C dX11_work_266 rfl rfl ?_
      refine gf_X11_47 C dX11_work_267 ?_
      try simp only [gNN, gNI, gNJ, gIN, gII, gIJ, gJN, gJI, gJJ, Nat.reduceEqDiff, false_and, and_false, true_and, and_true, if_false, if_true]
      refine V_iload C dX11_work_270 rfl ?_
      refine ld_53 C (by omega) dX11_work_272 ?_
      try simp only [gNN, gNI, gNJ, gIN, gII, gIJ, gJN, gJI, gJJ, Nat.reduceEqDiff, false_and, and_false, true_and, and_true, if_false, if_true]
      refine V_aload_n C dX11_work_273 rfl rfl ?_
      refine gf_X11_47 C dX11_work_274 ?_
      try simp only [gNN, gNI, gNJ, gIN, gII, gIJ, gJN, gJI, gJJ, Nat.reduceEqDiff, false_and, and_false, true_and, and_true, if_false, if_true]
      refine V_iload C dX11_work_277 rfl ?_
      refine ld_53 C (by omega) dX11_work_279 ?_
      try simp only [gNN, gNI, gNJ, gIN, gII, gIJ, gJN, gJI, gJJ, Nat.reduceEqDiff, false_and, and_false, true_and, and_true, if_false, if_true]
      refine V_lmul C dX11_work_280 ?_
      refine st_53 C (by omega) dX11_work_281 ?_
      refine V_aload_n C dX11_work_282 rfl rfl ?_
      refine gf_X11_44 C dX11_work_283 ?_
      try simp only [gNN, gNI, gNJ, gIN, gII, gIJ, gJN, gJI, gJJ, Nat.reduceEqDiff, false_and, and_false, true_and, and_true, if_false, if_true]
      refine V_iload_n C dX11_work_286 rfl rfl ?_
      refine V_dup2 C dX11_work_287 rfl rfl ?_
      refine ld_52 C (by omega) dX11_work_288 ?_
      try simp only [gNN, gNI, gNJ, gIN, gII, gIJ, gJN, gJI, gJJ, Nat.reduceEqDiff, false_and, and_false, true_and, and_true, if_false, if_true]
      rw [hp]
      refine V_iconst C (nI 1) dX11_work_289 (by decide) ?_
      refine V_iaddN C dX11_work_290 ?_
      refine st_52 C (by omega) dX11_work_291 ?_
      refine V_goto (tgt := 504) C dX11_work_292 (by decide) ?_
      refine V_vret C E dX11_work_504 ?_
      first | exact ⟨rfl, Or.inl ⟨h78_0, rfl⟩⟩ | exact ⟨rfl, Or.inr (Or.inl ⟨h78_1, rfl⟩)⟩ | exact ⟨rfl, Or.inr (Or.inr (Or.inl ⟨h78_2, rfl⟩))⟩ | exact ⟨rfl, Or.inr (Or.inr (Or.inr (Or.inl ⟨h78_3, rfl⟩)))⟩ | exact ⟨rfl, Or.inr (Or.inr (Or.inr (Or.inr (Or.inl ⟨h78_4, hD⟩))))⟩ | exact ⟨rfl, Or.inr (Or.inr (Or.inr (Or.inr (Or.inr (Or.inl ⟨h78_5, hD⟩)))))⟩ | exact ⟨rfl, Or.inr (Or.inr (Or.inr (Or.inr (Or.inr (Or.inr (Or.inl ⟨h78_6, v, hv1, hv2, hJ⟩))))))⟩ | exact ⟨rfl, Or.inr (Or.inr (Or.inr (Or.inr (Or.inr (Or.inr (Or.inr (Or.inl ⟨h78_7, Or.inl ⟨Int64.not_le.mp h342, v, hv1, hv2, hJ⟩⟩)))))))⟩ | exact ⟨rfl, Or.inr (Or.inr (Or.inr (Or.inr (Or.inr (Or.inr (Or.inr (Or.inl ⟨h78_7, Or.inr ⟨Int64.not_lt.mpr h342, rfl⟩⟩)))))))⟩ | exact ⟨rfl, Or.inr (Or.inr (Or.inr (Or.inr (Or.inr (Or.inr (Or.inr (Or.inr (Or.inl ⟨h78_13, v, hv1, hv2, hEn⟩))))))))⟩ | exact ⟨rfl, Or.inr (Or.inr (Or.inr (Or.inr (Or.inr (Or.inr (Or.inr (Or.inr (Or.inr (Or.inl ⟨h78_14, hGv⟩)))))))))⟩ | exact ⟨rfl, Or.inr (Or.inr (Or.inr (Or.inr (Or.inr (Or.inr (Or.inr (Or.inr (Or.inr (Or.inr (Or.inl ⟨h78_15, hFl⟩))))))))))⟩ | exact ⟨rfl, Or.inr (Or.inr (Or.inr (Or.inr (Or.inr (Or.inr (Or.inr (Or.inr (Or.inr (Or.inr (Or.inr (Or.inl ⟨h78_16, Or.inl ⟨h423, hFl⟩⟩)))))))))))⟩ | exact ⟨rfl, Or.inr (Or.inr (Or.inr (Or.inr (Or.inr (Or.inr (Or.inr (Or.inr (Or.inr (Or.inr (Or.inr (Or.inl ⟨h78_16, Or.inr ⟨h423, hFl⟩⟩)))))))))))⟩ | exact ⟨rfl, Or.inr (Or.inr (Or.inr (Or.inr (Or.inr (Or.inr (Or.inr (Or.inr (Or.inr (Or.inr (Or.inr (Or.inr (Or.inl ⟨h78_17, v, hv1, hv2, rfl⟩))))))))))))⟩ | exact ⟨rfl, Or.inr (Or.inr (Or.inr (Or.inr (Or.inr (Or.inr (Or.inr (Or.inr (Or.inr (Or.inr (Or.inr (Or.inr (Or.inr (Or.inl ⟨h78_18, v, hv1, hv2, hLt⟩)))))))))))))⟩ | exact ⟨rfl, Or.inr (Or.inr (Or.inr (Or.inr (Or.inr (Or.inr (Or.inr (Or.inr (Or.inr (Or.inr (Or.inr (Or.inr (Or.inr (Or.inr (⟨by unfold rac; omega, hRw⟩))))))))))))))⟩
    by_cases h78_4 : gN M 42 0 (40 * m + p) = 4
    · refine V_tabIn (tgt := 295) C dX11_work_78 (4) (by rw [h78_4]; decide) (by decide) (by decide) rfl (by decide) ?_
      refine V_aload_n C dX11_work_295 rfl rfl ?_
      refine V_iload_n C dX11_work_296 rfl rfl ?_
      refine V_iload C dX11_work_297 rfl ?_
      refine V_iload C dX11_work_299 rfl ?_
      refine V_aload_n C dX11_work_301 rfl rfl ?_
      refine gf_X11_13 C dX11_work_302 ?_
      try simp only [gNN, gNI, gNJ, gIN, gII, gIJ, gJN, gJI, gJJ, Nat.reduceEqDiff, false_and, and_false, true_and, and_true, if_false, if_true]
      refine V_iload_n C dX11_work_305 rfl rfl ?_
      refine ld_42 C (by omega) dX11_work_306 ?_
      try simp only [gNN, gNI, gNJ, gIN, gII, gIJ, gJN, gJI, gJJ, Nat.reduceEqDiff, false_and, and_false, true_and, and_true, if_false, if_true]
      refine V_iconst C (nI 4) dX11_work_307 (by decide) ?_
      refine V_icmpN_ne (tgt := 315) C dX11_work_308 (by omega) (by omega) (by decide) (fun h308 => absurd h78_4 h308) (fun h308 => ?_)
      refine V_iconst C (nI 1) dX11_work_311 (by decide) ?_
      refine V_goto (tgt := 316) C dX11_work_312 (by decide) ?_
      refine V_callV C [_, _, _, _] (ct_X11_divides hf (by omega) (by omega) (by omega) hd hA ht b1 b2) cv_X11_divides lk_X11_216 in_40 rfl rfl ⟨Nat.le_of_ble_eq_true rfl, Nat.le_of_ble_eq_true rfl⟩ rfl rfl (Nat.le_of_ble_eq_true rfl) dX11_work_316 (fun r M' hr => ?_)
      obtain ⟨rfl, hD⟩ := hr
      try simp only [gNN, gNI, gNJ, gIN, gII, gIJ, gJN, gJI, gJJ, Nat.reduceEqDiff, false_and, and_false, true_and, and_true, if_false, if_true]
      refine V_goto (tgt := 504) C dX11_work_319 (by decide) ?_
      refine V_vret C E dX11_work_504 ?_
      first | exact ⟨rfl, Or.inl ⟨h78_0, rfl⟩⟩ | exact ⟨rfl, Or.inr (Or.inl ⟨h78_1, rfl⟩)⟩ | exact ⟨rfl, Or.inr (Or.inr (Or.inl ⟨h78_2, rfl⟩))⟩ | exact ⟨rfl, Or.inr (Or.inr (Or.inr (Or.inl ⟨h78_3, rfl⟩)))⟩ | exact ⟨rfl, Or.inr (Or.inr (Or.inr (Or.inr (Or.inl ⟨h78_4, hD⟩))))⟩ | exact ⟨rfl, Or.inr (Or.inr (Or.inr (Or.inr (Or.inr (Or.inl ⟨h78_5, hD⟩)))))⟩ | exact ⟨rfl, Or.inr (Or.inr (Or.inr (Or.inr (Or.inr (Or.inr (Or.inl ⟨h78_6, v, hv1, hv2, hJ⟩))))))⟩ | exact ⟨rfl, Or.inr (Or.inr (Or.inr (Or.inr (Or.inr (Or.inr (Or.inr (Or.inl ⟨h78_7, Or.inl ⟨Int64.not_le.mp h342, v, hv1, hv2, hJ⟩⟩)))))))⟩ | exact ⟨rfl, Or.inr (Or.inr (Or.inr (Or.inr (Or.inr (Or.inr (Or.inr (Or.inl ⟨h78_7, Or.inr ⟨Int64.not_lt.mpr h342, rfl⟩⟩)))))))⟩ | exact ⟨rfl, Or.inr (Or.inr (Or.inr (Or.inr (Or.inr (Or.inr (Or.inr (Or.inr (Or.inl ⟨h78_13, v, hv1, hv2, hEn⟩))))))))⟩ | exact ⟨rfl, Or.inr (Or.inr (Or.inr (Or.inr (Or.inr (Or.inr (Or.inr (Or.inr (Or.inr (Or.inl ⟨h78_14, hGv⟩)))))))))⟩ | exact ⟨rfl, Or.inr (Or.inr (Or.inr (Or.inr (Or.inr (Or.inr (Or.inr (Or.inr (Or.inr (Or.inr (Or.inl ⟨h78_15, hFl⟩))))))))))⟩ | exact ⟨rfl, Or.inr (Or.inr (Or.inr (Or.inr (Or.inr (Or.inr (Or.inr (Or.inr (Or.inr (Or.inr (Or.inr (Or.inl ⟨h78_16, Or.inl ⟨h423, hFl⟩⟩)))))))))))⟩ | exact ⟨rfl, Or.inr (Or.inr (Or.inr (Or.inr (Or.inr (Or.inr (Or.inr (Or.inr (Or.inr (Or.inr (Or.inr (Or.inl ⟨h78_16, Or.inr ⟨h423, hFl⟩⟩)))))))))))⟩ | exact ⟨rfl, Or.inr (Or.inr (Or.inr (Or.inr (Or.inr (Or.inr (Or.inr (Or.inr (Or.inr (Or.inr (Or.inr (Or.inr (Or.inl ⟨h78_17, v, hv1, hv2, rfl⟩))))))))))))⟩ | exact ⟨rfl, Or.inr (Or.inr (Or.inr (Or.inr (Or.inr (Or.inr (Or.inr (Or.inr (Or.inr (Or.inr (Or.inr (Or.inr (Or.inr (Or.inl ⟨h78_18, v, hv1, hv2, hLt⟩)))))))))))))⟩ | exact ⟨rfl, Or.inr (Or.inr (Or.inr (Or.inr (Or.inr (Or.inr (Or.inr (Or.inr (Or.inr (Or.inr (Or.inr (Or.inr (Or.inr (Or.inr (⟨by unfold rac; omega, hRw⟩))))))))))))))⟩
    by_cases h78_5 : gN M 42 0 (40 * m + p) = 5
    · refine V_tabIn (tgt := 295) C dX11_work_78 (5) (by rw [h78_5]; decide) (by decide) (by decide) rfl (by decide) ?_
      refine V_aload_n C dX11_work_295 rfl rfl ?_
      refine V_iload_n C dX11_work_296 rfl rfl ?_
      refine V_iload C dX11_work_297 rfl ?_
      refine V_iload C dX11_work_299 rfl ?_
      refine V_aload_n C dX11_work_301 rfl rfl ?_
      refine gf_X11_13 C dX11_work_302 ?_
      try simp only [gNN, gNI, gNJ, gIN, gII, gIJ, gJN, gJI, gJJ, Nat.reduceEqDiff, false_and, and_false, true_and, and_true, if_false, if_true]
      refine V_iload_n C dX11_work_305 rfl rfl ?_
      refine ld_42 C (by omega) dX11_work_306 ?_
      try simp only [gNN, gNI, gNJ, gIN, gII, gIJ, gJN, gJI, gJJ, Nat.reduceEqDiff, false_and, and_false, true_and, and_true, if_false, if_true]
      refine V_iconst C (nI 4) dX11_work_307 (by decide) ?_
      refine V_icmpN_ne (tgt := 315) C dX11_work_308 (by omega) (by omega) (by decide) (fun h308 => ?_) (fun h308 => absurd h308 (by omega))
      refine V_iconst C (nI 0) dX11_work_315 (by decide) ?_
      refine V_callV C [_, _, _, _] (ct_X11_divides hf (by omega) (by omega) (by omega) hd hA ht b1 b2) cv_X11_divides lk_X11_216 in_40 rfl rfl ⟨Nat.le_of_ble_eq_true rfl, Nat.le_of_ble_eq_true rfl⟩ rfl rfl (Nat.le_of_ble_eq_true rfl) dX11_work_316 (fun r M' hr => ?_)
      obtain ⟨rfl, hD⟩ := hr
      try simp only [gNN, gNI, gNJ, gIN, gII, gIJ, gJN, gJI, gJJ, Nat.reduceEqDiff, false_and, and_false, true_and, and_true, if_false, if_true]
      refine V_goto (tgt := 504) C dX11_work_319 (by decide) ?_
      refine V_vret C E dX11_work_504 ?_
      first | exact ⟨rfl, Or.inl ⟨h78_0, rfl⟩⟩ | exact ⟨rfl, Or.inr (Or.inl ⟨h78_1, rfl⟩)⟩ | exact ⟨rfl, Or.inr (Or.inr (Or.inl ⟨h78_2, rfl⟩))⟩ | exact ⟨rfl, Or.inr (Or.inr (Or.inr (Or.inl ⟨h78_3, rfl⟩)))⟩ | exact ⟨rfl, Or.inr (Or.inr (Or.inr (Or.inr (Or.inl ⟨h78_4, hD⟩))))⟩ | exact ⟨rfl, Or.inr (Or.inr (Or.inr (Or.inr (Or.inr (Or.inl ⟨h78_5, hD⟩)))))⟩ | exact ⟨rfl, Or.inr (Or.inr (Or.inr (Or.inr (Or.inr (Or.inr (Or.inl ⟨h78_6, v, hv1, hv2, hJ⟩))))))⟩ | exact ⟨rfl, Or.inr (Or.inr (Or.inr (Or.inr (Or.inr (Or.inr (Or.inr (Or.inl ⟨h78_7, Or.inl ⟨Int64.not_le.mp h342, v, hv1, hv2, hJ⟩⟩)))))))⟩ | exact ⟨rfl, Or.inr (Or.inr (Or.inr (Or.inr (Or.inr (Or.inr (Or.inr (Or.inl ⟨h78_7, Or.inr ⟨Int64.not_lt.mpr h342, rfl⟩⟩)))))))⟩ | exact ⟨rfl, Or.inr (Or.inr (Or.inr (Or.inr (Or.inr (Or.inr (Or.inr (Or.inr (Or.inl ⟨h78_13, v, hv1, hv2, hEn⟩))))))))⟩ | exact ⟨rfl, Or.inr (Or.inr (Or.inr (Or.inr (Or.inr (Or.inr (Or.inr (Or.inr (Or.inr (Or.inl ⟨h78_14, hGv⟩)))))))))⟩ | exact ⟨rfl, Or.inr (Or.inr (Or.inr (Or.inr (Or.inr (Or.inr (Or.inr (Or.inr (Or.inr (Or.inr (Or.inl ⟨h78_15, hFl⟩))))))))))⟩ | exact ⟨rfl, Or.inr (Or.inr (Or.inr (Or.inr (Or.inr (Or.inr (Or.inr (Or.inr (Or.inr (Or.inr (Or.inr (Or.inl ⟨h78_16, Or.inl ⟨h423, hFl⟩⟩)))))))))))⟩ | exact ⟨rfl, Or.inr (Or.inr (Or.inr (Or.inr (Or.inr (Or.inr (Or.inr (Or.inr (Or.inr (Or.inr (Or.inr (Or.inl ⟨h78_16, Or.inr ⟨h423, hFl⟩⟩)))))))))))⟩ | exact ⟨rfl, Or.inr (Or.inr (Or.inr (Or.inr (Or.inr (Or.inr (Or.inr (Or.inr (Or.inr (Or.inr (Or.inr (Or.inr (Or.inl ⟨h78_17, v, hv1, hv2, rfl⟩))))))))))))⟩ | exact ⟨rfl, Or.inr (Or.inr (Or.inr (Or.inr (Or.inr (Or.inr (Or.inr (Or.inr (Or.inr (Or.inr (Or.inr (Or.inr (Or.inr (Or.inl ⟨h78_18, v, hv1, hv2, hLt⟩)))))))))))))⟩ | exact ⟨rfl, Or.inr (Or.inr (Or.inr (Or.inr (Or.inr (Or.inr (Or.inr (Or.inr (Or.inr (Or.inr (Or.inr (Or.inr (Or.inr (Or.inr (⟨by unfold rac; omega, hRw⟩))))))))))))))⟩
    by_cases h78_6 : gN M 42 0 (40 * m + p) = 6
    · refine V_tabIn (tgt := 322) C dX11_work_78 (6) (by rw [h78_6]; decide) (by decide) (by decide) rfl (by decide) ?_
      obtain ⟨v, hv1, hv2⟩ := (hi.2.2.2.2 p hp2).1 (Or.inl h78_6)
      refine V_aload_n C dX11_work_322 rfl rfl ?_
      refine V_iload_n C dX11_work_323 rfl rfl ?_
      refine V_lload C dX11_work_324 rfl ?_
      refine V_l2iN C dX11_work_326 hv2 ?_
      refine V_callV C [_, _] (ct_X11_jumps hf hv1 (by rw [hm]; exact hm6) (by rw [hm]; exact hi) (by omega) b1 b2) cv_X11_jumps lk_X11_220 in_40 rfl rfl ⟨Nat.le_of_ble_eq_true rfl, Nat.le_of_ble_eq_true rfl⟩ rfl rfl (Nat.le_of_ble_eq_true rfl) dX11_work_327 (fun r M' hr => ?_)
      obtain ⟨rfl, hJ⟩ := hr
      try simp only [gNN, gNI, gNJ, gIN, gII, gIJ, gJN, gJI, gJJ, Nat.reduceEqDiff, false_and, and_false, true_and, and_true, if_false, if_true]
      refine V_goto (tgt := 504) C dX11_work_330 (by decide) ?_
      refine V_vret C E dX11_work_504 ?_
      first | exact ⟨rfl, Or.inl ⟨h78_0, rfl⟩⟩ | exact ⟨rfl, Or.inr (Or.inl ⟨h78_1, rfl⟩)⟩ | exact ⟨rfl, Or.inr (Or.inr (Or.inl ⟨h78_2, rfl⟩))⟩ | exact ⟨rfl, Or.inr (Or.inr (Or.inr (Or.inl ⟨h78_3, rfl⟩)))⟩ | exact ⟨rfl, Or.inr (Or.inr (Or.inr (Or.inr (Or.inl ⟨h78_4, hD⟩))))⟩ | exact ⟨rfl, Or.inr (Or.inr (Or.inr (Or.inr (Or.inr (Or.inl ⟨h78_5, hD⟩)))))⟩ | exact ⟨rfl, Or.inr (Or.inr (Or.inr (Or.inr (Or.inr (Or.inr (Or.inl ⟨h78_6, v, hv1, hv2, hJ⟩))))))⟩ | exact ⟨rfl, Or.inr (Or.inr (Or.inr (Or.inr (Or.inr (Or.inr (Or.inr (Or.inl ⟨h78_7, Or.inl ⟨Int64.not_le.mp h342, v, hv1, hv2, hJ⟩⟩)))))))⟩ | exact ⟨rfl, Or.inr (Or.inr (Or.inr (Or.inr (Or.inr (Or.inr (Or.inr (Or.inl ⟨h78_7, Or.inr ⟨Int64.not_lt.mpr h342, rfl⟩⟩)))))))⟩ | exact ⟨rfl, Or.inr (Or.inr (Or.inr (Or.inr (Or.inr (Or.inr (Or.inr (Or.inr (Or.inl ⟨h78_13, v, hv1, hv2, hEn⟩))))))))⟩ | exact ⟨rfl, Or.inr (Or.inr (Or.inr (Or.inr (Or.inr (Or.inr (Or.inr (Or.inr (Or.inr (Or.inl ⟨h78_14, hGv⟩)))))))))⟩ | exact ⟨rfl, Or.inr (Or.inr (Or.inr (Or.inr (Or.inr (Or.inr (Or.inr (Or.inr (Or.inr (Or.inr (Or.inl ⟨h78_15, hFl⟩))))))))))⟩ | exact ⟨rfl, Or.inr (Or.inr (Or.inr (Or.inr (Or.inr (Or.inr (Or.inr (Or.inr (Or.inr (Or.inr (Or.inr (Or.inl ⟨h78_16, Or.inl ⟨h423, hFl⟩⟩)))))))))))⟩ | exact ⟨rfl, Or.inr (Or.inr (Or.inr (Or.inr (Or.inr (Or.inr (Or.inr (Or.inr (Or.inr (Or.inr (Or.inr (Or.inl ⟨h78_16, Or.inr ⟨h423, hFl⟩⟩)))))))))))⟩ | exact ⟨rfl, Or.inr (Or.inr (Or.inr (Or.inr (Or.inr (Or.inr (Or.inr (Or.inr (Or.inr (Or.inr (Or.inr (Or.inr (Or.inl ⟨h78_17, v, hv1, hv2, rfl⟩))))))))))))⟩ | exact ⟨rfl, Or.inr (Or.inr (Or.inr (Or.inr (Or.inr (Or.inr (Or.inr (Or.inr (Or.inr (Or.inr (Or.inr (Or.inr (Or.inr (Or.inl ⟨h78_18, v, hv1, hv2, hLt⟩)))))))))))))⟩ | exact ⟨rfl, Or.inr (Or.inr (Or.inr (Or.inr (Or.inr (Or.inr (Or.inr (Or.inr (Or.inr (Or.inr (Or.inr (Or.inr (Or.inr (Or.inr (⟨by unfold rac; omega, hRw⟩))))))))))))))⟩
    by_cases h78_7 : gN M 42 0 (40 * m + p) = 7
    · refine V_tabIn (tgt := 333) C dX11_work_78 (7) (by rw [h78_7]; decide) (by decide) (by decide) rfl (by decide) ?_
      refine V_aload_n C dX11_work_333 rfl rfl ?_
      refine gf_X11_47 C dX11_work_334 ?_
      try simp only [gNN, gNI, gNJ, gIN, gII, gIJ, gJN, gJI, gJJ, Nat.reduceEqDiff, false_and, and_false, true_and, and_true, if_false, if_true]
      refine V_iload C dX11_work_337 rfl ?_
      refine ld_53 C (by omega) dX11_work_339 ?_
      try simp only [gNN, gNI, gNJ, gIN, gII, gIJ, gJN, gJI, gJJ, Nat.reduceEqDiff, false_and, and_false, true_and, and_true, if_false, if_true]
      refine V_lconst C (lN 0) dX11_work_340 (by decide) ?_
      refine V_lcmp C dX11_work_341 ?_
      refine V_ifL_le (tgt := 356) C dX11_work_342 (by decide) (fun h342 => ?_) (fun h342 => ?_)
      · skip
        refine V_aload_n C dX11_work_356 rfl rfl ?_
        refine gf_X11_44 C dX11_work_357 ?_
        try simp only [gNN, gNI, gNJ, gIN, gII, gIJ, gJN, gJI, gJJ, Nat.reduceEqDiff, false_and, and_false, true_and, and_true, if_false, if_true]
        refine V_iload_n C dX11_work_360 rfl rfl ?_
        refine V_dup2 C dX11_work_361 rfl rfl ?_
        refine ld_52 C (by omega) dX11_work_362 ?_
        try simp only [gNN, gNI, gNJ, gIN, gII, gIJ, gJN, gJI, gJJ, Nat.reduceEqDiff, false_and, and_false, true_and, and_true, if_false, if_true]
        rw [hp]
        refine V_iconst C (nI 1) dX11_work_363 (by decide) ?_
        refine V_iaddN C dX11_work_364 ?_
        refine st_52 C (by omega) dX11_work_365 ?_
        refine V_goto (tgt := 504) C dX11_work_366 (by decide) ?_
        refine V_vret C E dX11_work_504 ?_
        first | exact ⟨rfl, Or.inl ⟨h78_0, rfl⟩⟩ | exact ⟨rfl, Or.inr (Or.inl ⟨h78_1, rfl⟩)⟩ | exact ⟨rfl, Or.inr (Or.inr (Or.inl ⟨h78_2, rfl⟩))⟩ | exact ⟨rfl, Or.inr (Or.inr (Or.inr (Or.inl ⟨h78_3, rfl⟩)))⟩ | exact ⟨rfl, Or.inr (Or.inr (Or.inr (Or.inr (Or.inl ⟨h78_4, hD⟩))))⟩ | exact ⟨rfl, Or.inr (Or.inr (Or.inr (Or.inr (Or.inr (Or.inl ⟨h78_5, hD⟩)))))⟩ | exact ⟨rfl, Or.inr (Or.inr (Or.inr (Or.inr (Or.inr (Or.inr (Or.inl ⟨h78_6, v, hv1, hv2, hJ⟩))))))⟩ | exact ⟨rfl, Or.inr (Or.inr (Or.inr (Or.inr (Or.inr (Or.inr (Or.inr (Or.inl ⟨h78_7, Or.inl ⟨Int64.not_le.mp h342, v, hv1, hv2, hJ⟩⟩)))))))⟩ | exact ⟨rfl, Or.inr (Or.inr (Or.inr (Or.inr (Or.inr (Or.inr (Or.inr (Or.inl ⟨h78_7, Or.inr ⟨Int64.not_lt.mpr h342, rfl⟩⟩)))))))⟩ | exact ⟨rfl, Or.inr (Or.inr (Or.inr (Or.inr (Or.inr (Or.inr (Or.inr (Or.inr (Or.inl ⟨h78_13, v, hv1, hv2, hEn⟩))))))))⟩ | exact ⟨rfl, Or.inr (Or.inr (Or.inr (Or.inr (Or.inr (Or.inr (Or.inr (Or.inr (Or.inr (Or.inl ⟨h78_14, hGv⟩)))))))))⟩ | exact ⟨rfl, Or.inr (Or.inr (Or.inr (Or.inr (Or.inr (Or.inr (Or.inr (Or.inr (Or.inr (Or.inr (Or.inl ⟨h78_15, hFl⟩))))))))))⟩ | exact ⟨rfl, Or.inr (Or.inr (Or.inr (Or.inr (Or.inr (Or.inr (Or.inr (Or.inr (Or.inr (Or.inr (Or.inr (Or.inl ⟨h78_16, Or.inl ⟨h423, hFl⟩⟩)))))))))))⟩ | exact ⟨rfl, Or.inr (Or.inr (Or.inr (Or.inr (Or.inr (Or.inr (Or.inr (Or.inr (Or.inr (Or.inr (Or.inr (Or.inl ⟨h78_16, Or.inr ⟨h423, hFl⟩⟩)))))))))))⟩ | exact ⟨rfl, Or.inr (Or.inr (Or.inr (Or.inr (Or.inr (Or.inr (Or.inr (Or.inr (Or.inr (Or.inr (Or.inr (Or.inr (Or.inl ⟨h78_17, v, hv1, hv2, rfl⟩))))))))))))⟩ | exact ⟨rfl, Or.inr (Or.inr (Or.inr (Or.inr (Or.inr (Or.inr (Or.inr (Or.inr (Or.inr (Or.inr (Or.inr (Or.inr (Or.inr (Or.inl ⟨h78_18, v, hv1, hv2, hLt⟩)))))))))))))⟩ | exact ⟨rfl, Or.inr (Or.inr (Or.inr (Or.inr (Or.inr (Or.inr (Or.inr (Or.inr (Or.inr (Or.inr (Or.inr (Or.inr (Or.inr (Or.inr (⟨by unfold rac; omega, hRw⟩))))))))))))))⟩
      · skip
        obtain ⟨v, hv1, hv2⟩ := (hi.2.2.2.2 p hp2).1 (Or.inr h78_7)
        refine V_aload_n C dX11_work_345 rfl rfl ?_
        refine V_iload_n C dX11_work_346 rfl rfl ?_
        refine V_lload C dX11_work_347 rfl ?_
        refine V_l2iN C dX11_work_349 hv2 ?_
        refine V_callV C [_, _] (ct_X11_jumps hf hv1 (by rw [hm]; exact hm6) (by rw [hm]; exact hi) (by omega) b1 b2) cv_X11_jumps lk_X11_220 in_40 rfl rfl ⟨Nat.le_of_ble_eq_true rfl, Nat.le_of_ble_eq_true rfl⟩ rfl rfl (Nat.le_of_ble_eq_true rfl) dX11_work_350 (fun r M' hr => ?_)
        obtain ⟨rfl, hJ⟩ := hr
        try simp only [gNN, gNI, gNJ, gIN, gII, gIJ, gJN, gJI, gJJ, Nat.reduceEqDiff, false_and, and_false, true_and, and_true, if_false, if_true]
        refine V_goto (tgt := 504) C dX11_work_353 (by decide) ?_
        refine V_vret C E dX11_work_504 ?_
        first | exact ⟨rfl, Or.inl ⟨h78_0, rfl⟩⟩ | exact ⟨rfl, Or.inr (Or.inl ⟨h78_1, rfl⟩)⟩ | exact ⟨rfl, Or.inr (Or.inr (Or.inl ⟨h78_2, rfl⟩))⟩ | exact ⟨rfl, Or.inr (Or.inr (Or.inr (Or.inl ⟨h78_3, rfl⟩)))⟩ | exact ⟨rfl, Or.inr (Or.inr (Or.inr (Or.inr (Or.inl ⟨h78_4, hD⟩))))⟩ | exact ⟨rfl, Or.inr (Or.inr (Or.inr (Or.inr (Or.inr (Or.inl ⟨h78_5, hD⟩)))))⟩ | exact ⟨rfl, Or.inr (Or.inr (Or.inr (Or.inr (Or.inr (Or.inr (Or.inl ⟨h78_6, v, hv1, hv2, hJ⟩))))))⟩ | exact ⟨rfl, Or.inr (Or.inr (Or.inr (Or.inr (Or.inr (Or.inr (Or.inr (Or.inl ⟨h78_7, Or.inl ⟨Int64.not_le.mp h342, v, hv1, hv2, hJ⟩⟩)))))))⟩ | exact ⟨rfl, Or.inr (Or.inr (Or.inr (Or.inr (Or.inr (Or.inr (Or.inr (Or.inl ⟨h78_7, Or.inr ⟨Int64.not_lt.mpr h342, rfl⟩⟩)))))))⟩ | exact ⟨rfl, Or.inr (Or.inr (Or.inr (Or.inr (Or.inr (Or.inr (Or.inr (Or.inr (Or.inl ⟨h78_13, v, hv1, hv2, hEn⟩))))))))⟩ | exact ⟨rfl, Or.inr (Or.inr (Or.inr (Or.inr (Or.inr (Or.inr (Or.inr (Or.inr (Or.inr (Or.inl ⟨h78_14, hGv⟩)))))))))⟩ | exact ⟨rfl, Or.inr (Or.inr (Or.inr (Or.inr (Or.inr (Or.inr (Or.inr (Or.inr (Or.inr (Or.inr (Or.inl ⟨h78_15, hFl⟩))))))))))⟩ | exact ⟨rfl, Or.inr (Or.inr (Or.inr (Or.inr (Or.inr (Or.inr (Or.inr (Or.inr (Or.inr (Or.inr (Or.inr (Or.inl ⟨h78_16, Or.inl ⟨h423, hFl⟩⟩)))))))))))⟩ | exact ⟨rfl, Or.inr (Or.inr (Or.inr (Or.inr (Or.inr (Or.inr (Or.inr (Or.inr (Or.inr (Or.inr (Or.inr (Or.inl ⟨h78_16, Or.inr ⟨h423, hFl⟩⟩)))))))))))⟩ | exact ⟨rfl, Or.inr (Or.inr (Or.inr (Or.inr (Or.inr (Or.inr (Or.inr (Or.inr (Or.inr (Or.inr (Or.inr (Or.inr (Or.inl ⟨h78_17, v, hv1, hv2, rfl⟩))))))))))))⟩ | exact ⟨rfl, Or.inr (Or.inr (Or.inr (Or.inr (Or.inr (Or.inr (Or.inr (Or.inr (Or.inr (Or.inr (Or.inr (Or.inr (Or.inr (Or.inl ⟨h78_18, v, hv1, hv2, hLt⟩)))))))))))))⟩ | exact ⟨rfl, Or.inr (Or.inr (Or.inr (Or.inr (Or.inr (Or.inr (Or.inr (Or.inr (Or.inr (Or.inr (Or.inr (Or.inr (Or.inr (Or.inr (⟨by unfold rac; omega, hRw⟩))))))))))))))⟩
    by_cases h78_8 : gN M 42 0 (40 * m + p) = 8
    · refine V_tabIn (tgt := 486) C dX11_work_78 (8) (by rw [h78_8]; decide) (by decide) (by decide) rfl (by decide) ?_
      refine V_aload_n C dX11_work_486 rfl rfl ?_
      refine V_iload_n C dX11_work_487 rfl rfl ?_
      refine V_aload_n C dX11_work_488 rfl rfl ?_
      refine gf_X11_13 C dX11_work_489 ?_
      try simp only [gNN, gNI, gNJ, gIN, gII, gIJ, gJN, gJI, gJJ, Nat.reduceEqDiff, false_and, and_false, true_and, and_true, if_false, if_true]
      refine V_iload_n C dX11_work_492 rfl rfl ?_
      refine ld_42 C (by omega) dX11_work_493 ?_
      try simp only [gNN, gNI, gNJ, gIN, gII, gIJ, gJN, gJI, gJJ, Nat.reduceEqDiff, false_and, and_false, true_and, and_true, if_false, if_true]
      refine V_iload C dX11_work_494 rfl ?_
      refine V_iload C dX11_work_496 rfl ?_
      refine V_lload C dX11_work_498 rfl ?_
      refine V_l2i C dX11_work_500 ?_
      refine V_callV C [_, _, _, _, _] (ct_X11_rows (a := gN M 42 0 (40 * m + p)) (r := 4 * f + gN M 43 0 (40 * m + p)) hf (by omega) (by omega) (by omega) hz hrow hd hA ht b1 b2) cv_X11_rows lk_X11_230 in_40 rfl rfl ⟨Nat.le_of_ble_eq_true rfl, Nat.le_of_ble_eq_true rfl⟩ rfl rfl (Nat.le_of_ble_eq_true rfl) dX11_work_501 (fun r M' hr => ?_)
      obtain ⟨rfl, hRw⟩ := hr
      try simp only [gNN, gNI, gNJ, gIN, gII, gIJ, gJN, gJI, gJJ, Nat.reduceEqDiff, false_and, and_false, true_and, and_true, if_false, if_true]
      refine V_vret C E dX11_work_504 ?_
      first | exact ⟨rfl, Or.inl ⟨h78_0, rfl⟩⟩ | exact ⟨rfl, Or.inr (Or.inl ⟨h78_1, rfl⟩)⟩ | exact ⟨rfl, Or.inr (Or.inr (Or.inl ⟨h78_2, rfl⟩))⟩ | exact ⟨rfl, Or.inr (Or.inr (Or.inr (Or.inl ⟨h78_3, rfl⟩)))⟩ | exact ⟨rfl, Or.inr (Or.inr (Or.inr (Or.inr (Or.inl ⟨h78_4, hD⟩))))⟩ | exact ⟨rfl, Or.inr (Or.inr (Or.inr (Or.inr (Or.inr (Or.inl ⟨h78_5, hD⟩)))))⟩ | exact ⟨rfl, Or.inr (Or.inr (Or.inr (Or.inr (Or.inr (Or.inr (Or.inl ⟨h78_6, v, hv1, hv2, hJ⟩))))))⟩ | exact ⟨rfl, Or.inr (Or.inr (Or.inr (Or.inr (Or.inr (Or.inr (Or.inr (Or.inl ⟨h78_7, Or.inl ⟨Int64.not_le.mp h342, v, hv1, hv2, hJ⟩⟩)))))))⟩ | exact ⟨rfl, Or.inr (Or.inr (Or.inr (Or.inr (Or.inr (Or.inr (Or.inr (Or.inl ⟨h78_7, Or.inr ⟨Int64.not_lt.mpr h342, rfl⟩⟩)))))))⟩ | exact ⟨rfl, Or.inr (Or.inr (Or.inr (Or.inr (Or.inr (Or.inr (Or.inr (Or.inr (Or.inl ⟨h78_13, v, hv1, hv2, hEn⟩))))))))⟩ | exact ⟨rfl, Or.inr (Or.inr (Or.inr (Or.inr (Or.inr (Or.inr (Or.inr (Or.inr (Or.inr (Or.inl ⟨h78_14, hGv⟩)))))))))⟩ | exact ⟨rfl, Or.inr (Or.inr (Or.inr (Or.inr (Or.inr (Or.inr (Or.inr (Or.inr (Or.inr (Or.inr (Or.inl ⟨h78_15, hFl⟩))))))))))⟩ | exact ⟨rfl, Or.inr (Or.inr (Or.inr (Or.inr (Or.inr (Or.inr (Or.inr (Or.inr (Or.inr (Or.inr (Or.inr (Or.inl ⟨h78_16, Or.inl ⟨h423, hFl⟩⟩)))))))))))⟩ | exact ⟨rfl, Or.inr (Or.inr (Or.inr (Or.inr (Or.inr (Or.inr (Or.inr (Or.inr (Or.inr (Or.inr (Or.inr (Or.inl ⟨h78_16, Or.inr ⟨h423, hFl⟩⟩)))))))))))⟩ | exact ⟨rfl, Or.inr (Or.inr (Or.inr (Or.inr (Or.inr (Or.inr (Or.inr (Or.inr (Or.inr (Or.inr (Or.inr (Or.inr (Or.inl ⟨h78_17, v, hv1, hv2, rfl⟩))))))))))))⟩ | exact ⟨rfl, Or.inr (Or.inr (Or.inr (Or.inr (Or.inr (Or.inr (Or.inr (Or.inr (Or.inr (Or.inr (Or.inr (Or.inr (Or.inr (Or.inl ⟨h78_18, v, hv1, hv2, hLt⟩)))))))))))))⟩ | exact ⟨rfl, Or.inr (Or.inr (Or.inr (Or.inr (Or.inr (Or.inr (Or.inr (Or.inr (Or.inr (Or.inr (Or.inr (Or.inr (Or.inr (Or.inr (⟨by unfold rac; omega, hRw⟩))))))))))))))⟩
    by_cases h78_9 : gN M 42 0 (40 * m + p) = 9
    · refine V_tabIn (tgt := 486) C dX11_work_78 (9) (by rw [h78_9]; decide) (by decide) (by decide) rfl (by decide) ?_
      refine V_aload_n C dX11_work_486 rfl rfl ?_
      refine V_iload_n C dX11_work_487 rfl rfl ?_
      refine V_aload_n C dX11_work_488 rfl rfl ?_
      refine gf_X11_13 C dX11_work_489 ?_
      try simp only [gNN, gNI, gNJ, gIN, gII, gIJ, gJN, gJI, gJJ, Nat.reduceEqDiff, false_and, and_false, true_and, and_true, if_false, if_true]
      refine V_iload_n C dX11_work_492 rfl rfl ?_
      refine ld_42 C (by omega) dX11_work_493 ?_
      try simp only [gNN, gNI, gNJ, gIN, gII, gIJ, gJN, gJI, gJJ, Nat.reduceEqDiff, false_and, and_false, true_and, and_true, if_false, if_true]
      refine V_iload C dX11_work_494 rfl ?_
      refine V_iload C dX11_work_496 rfl ?_
      refine V_lload C dX11_work_498 rfl ?_
      refine V_l2i C dX11_work_500 ?_
      refine V_callV C [_, _, _, _, _] (ct_X11_rows (a := gN M 42 0 (40 * m + p)) (r := 4 * f + gN M 43 0 (40 * m + p)) hf (by omega) (by omega) (by omega) hz hrow hd hA ht b1 b2) cv_X11_rows lk_X11_230 in_40 rfl rfl ⟨Nat.le_of_ble_eq_true rfl, Nat.le_of_ble_eq_true rfl⟩ rfl rfl (Nat.le_of_ble_eq_true rfl) dX11_work_501 (fun r M' hr => ?_)
      obtain ⟨rfl, hRw⟩ := hr
      try simp only [gNN, gNI, gNJ, gIN, gII, gIJ, gJN, gJI, gJJ, Nat.reduceEqDiff, false_and, and_false, true_and, and_true, if_false, if_true]
      refine V_vret C E dX11_work_504 ?_
      first | exact ⟨rfl, Or.inl ⟨h78_0, rfl⟩⟩ | exact ⟨rfl, Or.inr (Or.inl ⟨h78_1, rfl⟩)⟩ | exact ⟨rfl, Or.inr (Or.inr (Or.inl ⟨h78_2, rfl⟩))⟩ | exact ⟨rfl, Or.inr (Or.inr (Or.inr (Or.inl ⟨h78_3, rfl⟩)))⟩ | exact ⟨rfl, Or.inr (Or.inr (Or.inr (Or.inr (Or.inl ⟨h78_4, hD⟩))))⟩ | exact ⟨rfl, Or.inr (Or.inr (Or.inr (Or.inr (Or.inr (Or.inl ⟨h78_5, hD⟩)))))⟩ | exact ⟨rfl, Or.inr (Or.inr (Or.inr (Or.inr (Or.inr (Or.inr (Or.inl ⟨h78_6, v, hv1, hv2, hJ⟩))))))⟩ | exact ⟨rfl, Or.inr (Or.inr (Or.inr (Or.inr (Or.inr (Or.inr (Or.inr (Or.inl ⟨h78_7, Or.inl ⟨Int64.not_le.mp h342, v, hv1, hv2, hJ⟩⟩)))))))⟩ | exact ⟨rfl, Or.inr (Or.inr (Or.inr (Or.inr (Or.inr (Or.inr (Or.inr (Or.inl ⟨h78_7, Or.inr ⟨Int64.not_lt.mpr h342, rfl⟩⟩)))))))⟩ | exact ⟨rfl, Or.inr (Or.inr (Or.inr (Or.inr (Or.inr (Or.inr (Or.inr (Or.inr (Or.inl ⟨h78_13, v, hv1, hv2, hEn⟩))))))))⟩ | exact ⟨rfl, Or.inr (Or.inr (Or.inr (Or.inr (Or.inr (Or.inr (Or.inr (Or.inr (Or.inr (Or.inl ⟨h78_14, hGv⟩)))))))))⟩ | exact ⟨rfl, Or.inr (Or.inr (Or.inr (Or.inr (Or.inr (Or.inr (Or.inr (Or.inr (Or.inr (Or.inr (Or.inl ⟨h78_15, hFl⟩))))))))))⟩ | exact ⟨rfl, Or.inr (Or.inr (Or.inr (Or.inr (Or.inr (Or.inr (Or.inr (Or.inr (Or.inr (Or.inr (Or.inr (Or.inl ⟨h78_16, Or.inl ⟨h423, hFl⟩⟩)))))))))))⟩ | exact ⟨rfl, Or.inr (Or.inr (Or.inr (Or.inr (Or.inr (Or.inr (Or.inr (Or.inr (Or.inr (Or.inr (Or.inr (Or.inl ⟨h78_16, Or.inr ⟨h423, hFl⟩⟩)))))))))))⟩ | exact ⟨rfl, Or.inr (Or.inr (Or.inr (Or.inr (Or.inr (Or.inr (Or.inr (Or.inr (Or.inr (Or.inr (Or.inr (Or.inr (Or.inl ⟨h78_17, v, hv1, hv2, rfl⟩))))))))))))⟩ | exact ⟨rfl, Or.inr (Or.inr (Or.inr (Or.inr (Or.inr (Or.inr (Or.inr (Or.inr (Or.inr (Or.inr (Or.inr (Or.inr (Or.inr (Or.inl ⟨h78_18, v, hv1, hv2, hLt⟩)))))))))))))⟩ | exact ⟨rfl, Or.inr (Or.inr (Or.inr (Or.inr (Or.inr (Or.inr (Or.inr (Or.inr (Or.inr (Or.inr (Or.inr (Or.inr (Or.inr (Or.inr (⟨by unfold rac; omega, hRw⟩))))))))))))))⟩
    by_cases h78_10 : gN M 42 0 (40 * m + p) = 10
    · refine V_tabIn (tgt := 486) C dX11_work_78 (10) (by rw [h78_10]; decide) (by decide) (by decide) rfl (by decide) ?_
      refine V_aload_n C dX11_work_486 rfl rfl ?_
      refine V_iload_n C dX11_work_487 rfl rfl ?_
      refine V_aload_n C dX11_work_488 rfl rfl ?_
      refine gf_X11_13 C dX11_work_489 ?_
      try simp only [gNN, gNI, gNJ, gIN, gII, gIJ, gJN, gJI, gJJ, Nat.reduceEqDiff, false_and, and_false, true_and, and_true, if_false, if_true]
      refine V_iload_n C dX11_work_492 rfl rfl ?_
      refine ld_42 C (by omega) dX11_work_493 ?_
      try simp only [gNN, gNI, gNJ, gIN, gII, gIJ, gJN, gJI, gJJ, Nat.reduceEqDiff, false_and, and_false, true_and, and_true, if_false, if_true]
      refine V_iload C dX11_work_494 rfl ?_
      refine V_iload C dX11_work_496 rfl ?_
      refine V_lload C dX11_work_498 rfl ?_
      refine V_l2i C dX11_work_500 ?_
      refine V_callV C [_, _, _, _, _] (ct_X11_rows (a := gN M 42 0 (40 * m + p)) (r := 4 * f + gN M 43 0 (40 * m + p)) hf (by omega) (by omega) (by omega) hz hrow hd hA ht b1 b2) cv_X11_rows lk_X11_230 in_40 rfl rfl ⟨Nat.le_of_ble_eq_true rfl, Nat.le_of_ble_eq_true rfl⟩ rfl rfl (Nat.le_of_ble_eq_true rfl) dX11_work_501 (fun r M' hr => ?_)
      obtain ⟨rfl, hRw⟩ := hr
      try simp only [gNN, gNI, gNJ, gIN, gII, gIJ, gJN, gJI, gJJ, Nat.reduceEqDiff, false_and, and_false, true_and, and_true, if_false, if_true]
      refine V_vret C E dX11_work_504 ?_
      first | exact ⟨rfl, Or.inl ⟨h78_0, rfl⟩⟩ | exact ⟨rfl, Or.inr (Or.inl ⟨h78_1, rfl⟩)⟩ | exact ⟨rfl, Or.inr (Or.inr (Or.inl ⟨h78_2, rfl⟩))⟩ | exact ⟨rfl, Or.inr (Or.inr (Or.inr (Or.inl ⟨h78_3, rfl⟩)))⟩ | exact ⟨rfl, Or.inr (Or.inr (Or.inr (Or.inr (Or.inl ⟨h78_4, hD⟩))))⟩ | exact ⟨rfl, Or.inr (Or.inr (Or.inr (Or.inr (Or.inr (Or.inl ⟨h78_5, hD⟩)))))⟩ | exact ⟨rfl, Or.inr (Or.inr (Or.inr (Or.inr (Or.inr (Or.inr (Or.inl ⟨h78_6, v, hv1, hv2, hJ⟩))))))⟩ | exact ⟨rfl, Or.inr (Or.inr (Or.inr (Or.inr (Or.inr (Or.inr (Or.inr (Or.inl ⟨h78_7, Or.inl ⟨Int64.not_le.mp h342, v, hv1, hv2, hJ⟩⟩)))))))⟩ | exact ⟨rfl, Or.inr (Or.inr (Or.inr (Or.inr (Or.inr (Or.inr (Or.inr (Or.inl ⟨h78_7, Or.inr ⟨Int64.not_lt.mpr h342, rfl⟩⟩)))))))⟩ | exact ⟨rfl, Or.inr (Or.inr (Or.inr (Or.inr (Or.inr (Or.inr (Or.inr (Or.inr (Or.inl ⟨h78_13, v, hv1, hv2, hEn⟩))))))))⟩ | exact ⟨rfl, Or.inr (Or.inr (Or.inr (Or.inr (Or.inr (Or.inr (Or.inr (Or.inr (Or.inr (Or.inl ⟨h78_14, hGv⟩)))))))))⟩ | exact ⟨rfl, Or.inr (Or.inr (Or.inr (Or.inr (Or.inr (Or.inr (Or.inr (Or.inr (Or.inr (Or.inr (Or.inl ⟨h78_15, hFl⟩))))))))))⟩ | exact ⟨rfl, Or.inr (Or.inr (Or.inr (Or.inr (Or.inr (Or.inr (Or.inr (Or.inr (Or.inr (Or.inr (Or.inr (Or.inl ⟨h78_16, Or.inl ⟨h423, hFl⟩⟩)))))))))))⟩ | exact ⟨rfl, Or.inr (Or.inr (Or.inr (Or.inr (Or.inr (Or.inr (Or.inr (Or.inr (Or.inr (Or.inr (Or.inr (Or.inl ⟨h78_16, Or.inr ⟨h423, hFl⟩⟩)))))))))))⟩ | exact ⟨rfl, Or.inr (Or.inr (Or.inr (Or.inr (Or.inr (Or.inr (Or.inr (Or.inr (Or.inr (Or.inr (Or.inr (Or.inr (Or.inl ⟨h78_17, v, hv1, hv2, rfl⟩))))))))))))⟩ | exact ⟨rfl, Or.inr (Or.inr (Or.inr (Or.inr (Or.inr (Or.inr (Or.inr (Or.inr (Or.inr (Or.inr (Or.inr (Or.inr (Or.inr (Or.inl ⟨h78_18, v, hv1, hv2, hLt⟩)))))))))))))⟩ | exact ⟨rfl, Or.inr (Or.inr (Or.inr (Or.inr (Or.inr (Or.inr (Or.inr (Or.inr (Or.inr (Or.inr (Or.inr (Or.inr (Or.inr (Or.inr (⟨by unfold rac; omega, hRw⟩))))))))))))))⟩
    by_cases h78_11 : gN M 42 0 (40 * m + p) = 11
    · refine V_tabIn (tgt := 486) C dX11_work_78 (11) (by rw [h78_11]; decide) (by decide) (by decide) rfl (by decide) ?_
      refine V_aload_n C dX11_work_486 rfl rfl ?_
      refine V_iload_n C dX11_work_487 rfl rfl ?_
      refine V_aload_n C dX11_work_488 rfl rfl ?_
      refine gf_X11_13 C dX11_work_489 ?_
      try simp only [gNN, gNI, gNJ, gIN, gII, gIJ, gJN, gJI, gJJ, Nat.reduceEqDiff, false_and, and_false, true_and, and_true, if_false, if_true]
      refine V_iload_n C dX11_work_492 rfl rfl ?_
      refine ld_42 C (by omega) dX11_work_493 ?_
      try simp only [gNN, gNI, gNJ, gIN, gII, gIJ, gJN, gJI, gJJ, Nat.reduceEqDiff, false_and, and_false, true_and, and_true, if_false, if_true]
      refine V_iload C dX11_work_494 rfl ?_
      refine V_iload C dX11_work_496 rfl ?_
      refine V_lload C dX11_work_498 rfl ?_
      refine V_l2i C dX11_work_500 ?_
      refine V_callV C [_, _, _, _, _] (ct_X11_rows (a := gN M 42 0 (40 * m + p)) (r := 4 * f + gN M 43 0 (40 * m + p)) hf (by omega) (by omega) (by omega) hz hrow hd hA ht b1 b2) cv_X11_rows lk_X11_230 in_40 rfl rfl ⟨Nat.le_of_ble_eq_true rfl, Nat.le_of_ble_eq_true rfl⟩ rfl rfl (Nat.le_of_ble_eq_true rfl) dX11_work_501 (fun r M' hr => ?_)
      obtain ⟨rfl, hRw⟩ := hr
      try simp only [gNN, gNI, gNJ, gIN, gII, gIJ, gJN, gJI, gJJ, Nat.reduceEqDiff, false_and, and_false, true_and, and_true, if_false, if_true]
      refine V_vret C E dX11_work_504 ?_
      first | exact ⟨rfl, Or.inl ⟨h78_0, rfl⟩⟩ | exact ⟨rfl, Or.inr (Or.inl ⟨h78_1, rfl⟩)⟩ | exact ⟨rfl, Or.inr (Or.inr (Or.inl ⟨h78_2, rfl⟩))⟩ | exact ⟨rfl, Or.inr (Or.inr (Or.inr (Or.inl ⟨h78_3, rfl⟩)))⟩ | exact ⟨rfl, Or.inr (Or.inr (Or.inr (Or.inr (Or.inl ⟨h78_4, hD⟩))))⟩ | exact ⟨rfl, Or.inr (Or.inr (Or.inr (Or.inr (Or.inr (Or.inl ⟨h78_5, hD⟩)))))⟩ | exact ⟨rfl, Or.inr (Or.inr (Or.inr (Or.inr (Or.inr (Or.inr (Or.inl ⟨h78_6, v, hv1, hv2, hJ⟩))))))⟩ | exact ⟨rfl, Or.inr (Or.inr (Or.inr (Or.inr (Or.inr (Or.inr (Or.inr (Or.inl ⟨h78_7, Or.inl ⟨Int64.not_le.mp h342, v, hv1, hv2, hJ⟩⟩)))))))⟩ | exact ⟨rfl, Or.inr (Or.inr (Or.inr (Or.inr (Or.inr (Or.inr (Or.inr (Or.inl ⟨h78_7, Or.inr ⟨Int64.not_lt.mpr h342, rfl⟩⟩)))))))⟩ | exact ⟨rfl, Or.inr (Or.inr (Or.inr (Or.inr (Or.inr (Or.inr (Or.inr (Or.inr (Or.inl ⟨h78_13, v, hv1, hv2, hEn⟩))))))))⟩ | exact ⟨rfl, Or.inr (Or.inr (Or.inr (Or.inr (Or.inr (Or.inr (Or.inr (Or.inr (Or.inr (Or.inl ⟨h78_14, hGv⟩)))))))))⟩ | exact ⟨rfl, Or.inr (Or.inr (Or.inr (Or.inr (Or.inr (Or.inr (Or.inr (Or.inr (Or.inr (Or.inr (Or.inl ⟨h78_15, hFl⟩))))))))))⟩ | exact ⟨rfl, Or.inr (Or.inr (Or.inr (Or.inr (Or.inr (Or.inr (Or.inr (Or.inr (Or.inr (Or.inr (Or.inr (Or.inl ⟨h78_16, Or.inl ⟨h423, hFl⟩⟩)))))))))))⟩ | exact ⟨rfl, Or.inr (Or.inr (Or.inr (Or.inr (Or.inr (Or.inr (Or.inr (Or.inr (Or.inr (Or.inr (Or.inr (Or.inl ⟨h78_16, Or.inr ⟨h423, hFl⟩⟩)))))))))))⟩ | exact ⟨rfl, Or.inr (Or.inr (Or.inr (Or.inr (Or.inr (Or.inr (Or.inr (Or.inr (Or.inr (Or.inr (Or.inr (Or.inr (Or.inl ⟨h78_17, v, hv1, hv2, rfl⟩))))))))))))⟩ | exact ⟨rfl, Or.inr (Or.inr (Or.inr (Or.inr (Or.inr (Or.inr (Or.inr (Or.inr (Or.inr (Or.inr (Or.inr (Or.inr (Or.inr (Or.inl ⟨h78_18, v, hv1, hv2, hLt⟩)))))))))))))⟩ | exact ⟨rfl, Or.inr (Or.inr (Or.inr (Or.inr (Or.inr (Or.inr (Or.inr (Or.inr (Or.inr (Or.inr (Or.inr (Or.inr (Or.inr (Or.inr (⟨by unfold rac; omega, hRw⟩))))))))))))))⟩
    by_cases h78_12 : gN M 42 0 (40 * m + p) = 12
    · refine V_tabIn (tgt := 486) C dX11_work_78 (12) (by rw [h78_12]; decide) (by decide) (by decide) rfl (by decide) ?_
      refine V_aload_n C dX11_work_486 rfl rfl ?_
      refine V_iload_n C dX11_work_487 rfl rfl ?_
      refine V_aload_n C dX11_work_488 rfl rfl ?_
      refine gf_X11_13 C dX11_work_489 ?_
      try simp only [gNN, gNI, gNJ, gIN, gII, gIJ, gJN, gJI, gJJ, Nat.reduceEqDiff, false_and, and_false, true_and, and_true, if_false, if_true]
      refine V_iload_n C dX11_work_492 rfl rfl ?_
      refine ld_42 C (by omega) dX11_work_493 ?_
      try simp only [gNN, gNI, gNJ, gIN, gII, gIJ, gJN, gJI, gJJ, Nat.reduceEqDiff, false_and, and_false, true_and, and_true, if_false, if_true]
      refine V_iload C dX11_work_494 rfl ?_
      refine V_iload C dX11_work_496 rfl ?_
      refine V_lload C dX11_work_498 rfl ?_
      refine V_l2i C dX11_work_500 ?_
      refine V_callV C [_, _, _, _, _] (ct_X11_rows (a := gN M 42 0 (40 * m + p)) (r := 4 * f + gN M 43 0 (40 * m + p)) hf (by omega) (by omega) (by omega) hz hrow hd hA ht b1 b2) cv_X11_rows lk_X11_230 in_40 rfl rfl ⟨Nat.le_of_ble_eq_true rfl, Nat.le_of_ble_eq_true rfl⟩ rfl rfl (Nat.le_of_ble_eq_true rfl) dX11_work_501 (fun r M' hr => ?_)
      obtain ⟨rfl, hRw⟩ := hr
      try simp only [gNN, gNI, gNJ, gIN, gII, gIJ, gJN, gJI, gJJ, Nat.reduceEqDiff, false_and, and_false, true_and, and_true, if_false, if_true]
      refine V_vret C E dX11_work_504 ?_
      first | exact ⟨rfl, Or.inl ⟨h78_0, rfl⟩⟩ | exact ⟨rfl, Or.inr (Or.inl ⟨h78_1, rfl⟩)⟩ | exact ⟨rfl, Or.inr (Or.inr (Or.inl ⟨h78_2, rfl⟩))⟩ | exact ⟨rfl, Or.inr (Or.inr (Or.inr (Or.inl ⟨h78_3, rfl⟩)))⟩ | exact ⟨rfl, Or.inr (Or.inr (Or.inr (Or.inr (Or.inl ⟨h78_4, hD⟩))))⟩ | exact ⟨rfl, Or.inr (Or.inr (Or.inr (Or.inr (Or.inr (Or.inl ⟨h78_5, hD⟩)))))⟩ | exact ⟨rfl, Or.inr (Or.inr (Or.inr (Or.inr (Or.inr (Or.inr (Or.inl ⟨h78_6, v, hv1, hv2, hJ⟩))))))⟩ | exact ⟨rfl, Or.inr (Or.inr (Or.inr (Or.inr (Or.inr (Or.inr (Or.inr (Or.inl ⟨h78_7, Or.inl ⟨Int64.not_le.mp h342, v, hv1, hv2, hJ⟩⟩)))))))⟩ | exact ⟨rfl, Or.inr (Or.inr (Or.inr (Or.inr (Or.inr (Or.inr (Or.inr (Or.inl ⟨h78_7, Or.inr ⟨Int64.not_lt.mpr h342, rfl⟩⟩)))))))⟩ | exact ⟨rfl, Or.inr (Or.inr (Or.inr (Or.inr (Or.inr (Or.inr (Or.inr (Or.inr (Or.inl ⟨h78_13, v, hv1, hv2, hEn⟩))))))))⟩ | exact ⟨rfl, Or.inr (Or.inr (Or.inr (Or.inr (Or.inr (Or.inr (Or.inr (Or.inr (Or.inr (Or.inl ⟨h78_14, hGv⟩)))))))))⟩ | exact ⟨rfl, Or.inr (Or.inr (Or.inr (Or.inr (Or.inr (Or.inr (Or.inr (Or.inr (Or.inr (Or.inr (Or.inl ⟨h78_15, hFl⟩))))))))))⟩ | exact ⟨rfl, Or.inr (Or.inr (Or.inr (Or.inr (Or.inr (Or.inr (Or.inr (Or.inr (Or.inr (Or.inr (Or.inr (Or.inl ⟨h78_16, Or.inl ⟨h423, hFl⟩⟩)))))))))))⟩ | exact ⟨rfl, Or.inr (Or.inr (Or.inr (Or.inr (Or.inr (Or.inr (Or.inr (Or.inr (Or.inr (Or.inr (Or.inr (Or.inl ⟨h78_16, Or.inr ⟨h423, hFl⟩⟩)))))))))))⟩ | exact ⟨rfl, Or.inr (Or.inr (Or.inr (Or.inr (Or.inr (Or.inr (Or.inr (Or.inr (Or.inr (Or.inr (Or.inr (Or.inr (Or.inl ⟨h78_17, v, hv1, hv2, rfl⟩))))))))))))⟩ | exact ⟨rfl, Or.inr (Or.inr (Or.inr (Or.inr (Or.inr (Or.inr (Or.inr (Or.inr (Or.inr (Or.inr (Or.inr (Or.inr (Or.inr (Or.inl ⟨h78_18, v, hv1, hv2, hLt⟩)))))))))))))⟩ | exact ⟨rfl, Or.inr (Or.inr (Or.inr (Or.inr (Or.inr (Or.inr (Or.inr (Or.inr (Or.inr (Or.inr (Or.inr (Or.inr (Or.inr (Or.inr (⟨by unfold rac; omega, hRw⟩))))))))))))))⟩
    by_cases h78_13 : gN M 42 0 (40 * m + p) = 13
    · refine V_tabIn (tgt := 369) C dX11_work_78 (13) (by rw [h78_13]; decide) (by decide) (by decide) rfl (by decide) ?_
      obtain ⟨v, hv1, hv2⟩ := (hi.2.2.2.2 p hp2).2.2.1 h78_13
      refine V_aload_n C dX11_work_369 rfl rfl ?_
      refine V_lload C dX11_work_370 rfl ?_
      refine V_l2iN C dX11_work_372 hv2 ?_
      refine V_aload_n C dX11_work_373 rfl rfl ?_
      refine gf_X11_47 C dX11_work_374 ?_
      try simp only [gNN, gNI, gNJ, gIN, gII, gIJ, gJN, gJI, gJJ, Nat.reduceEqDiff, false_and, and_false, true_and, and_true, if_false, if_true]
      refine V_iload C dX11_work_377 rfl ?_
      refine ld_53 C (by omega) dX11_work_379 ?_
      try simp only [gNN, gNI, gNJ, gIN, gII, gIJ, gJN, gJI, gJJ, Nat.reduceEqDiff, false_and, and_false, true_and, and_true, if_false, if_true]
      refine V_callV C [_, _] (ct_X11_enter hI (by omega) hd h3 b1 b2) cv_X11_enter lk_X11_197 in_40 rfl rfl ⟨Nat.le_of_ble_eq_true rfl, Nat.le_of_ble_eq_true rfl⟩ rfl rfl (Nat.le_of_ble_eq_true rfl) dX11_work_380 (fun r M' hr => ?_)
      obtain ⟨rfl, hEn⟩ := hr
      try simp only [gNN, gNI, gNJ, gIN, gII, gIJ, gJN, gJI, gJJ, Nat.reduceEqDiff, false_and, and_false, true_and, and_true, if_false, if_true]
      refine V_goto (tgt := 504) C dX11_work_383 (by decide) ?_
      refine V_vret C E dX11_work_504 ?_
      first | exact ⟨rfl, Or.inl ⟨h78_0, rfl⟩⟩ | exact ⟨rfl, Or.inr (Or.inl ⟨h78_1, rfl⟩)⟩ | exact ⟨rfl, Or.inr (Or.inr (Or.inl ⟨h78_2, rfl⟩))⟩ | exact ⟨rfl, Or.inr (Or.inr (Or.inr (Or.inl ⟨h78_3, rfl⟩)))⟩ | exact ⟨rfl, Or.inr (Or.inr (Or.inr (Or.inr (Or.inl ⟨h78_4, hD⟩))))⟩ | exact ⟨rfl, Or.inr (Or.inr (Or.inr (Or.inr (Or.inr (Or.inl ⟨h78_5, hD⟩)))))⟩ | exact ⟨rfl, Or.inr (Or.inr (Or.inr (Or.inr (Or.inr (Or.inr (Or.inl ⟨h78_6, v, hv1, hv2, hJ⟩))))))⟩ | exact ⟨rfl, Or.inr (Or.inr (Or.inr (Or.inr (Or.inr (Or.inr (Or.inr (Or.inl ⟨h78_7, Or.inl ⟨Int64.not_le.mp h342, v, hv1, hv2, hJ⟩⟩)))))))⟩ | exact ⟨rfl, Or.inr (Or.inr (Or.inr (Or.inr (Or.inr (Or.inr (Or.inr (Or.inl ⟨h78_7, Or.inr ⟨Int64.not_lt.mpr h342, rfl⟩⟩)))))))⟩ | exact ⟨rfl, Or.inr (Or.inr (Or.inr (Or.inr (Or.inr (Or.inr (Or.inr (Or.inr (Or.inl ⟨h78_13, v, hv1, hv2, hEn⟩))))))))⟩ | exact ⟨rfl, Or.inr (Or.inr (Or.inr (Or.inr (Or.inr (Or.inr (Or.inr (Or.inr (Or.inr (Or.inl ⟨h78_14, hGv⟩)))))))))⟩ | exact ⟨rfl, Or.inr (Or.inr (Or.inr (Or.inr (Or.inr (Or.inr (Or.inr (Or.inr (Or.inr (Or.inr (Or.inl ⟨h78_15, hFl⟩))))))))))⟩ | exact ⟨rfl, Or.inr (Or.inr (Or.inr (Or.inr (Or.inr (Or.inr (Or.inr (Or.inr (Or.inr (Or.inr (Or.inr (Or.inl ⟨h78_16, Or.inl ⟨h423, hFl⟩⟩)))))))))))⟩ | exact ⟨rfl, Or.inr (Or.inr (Or.inr (Or.inr (Or.inr (Or.inr (Or.inr (Or.inr (Or.inr (Or.inr (Or.inr (Or.inl ⟨h78_16, Or.inr ⟨h423, hFl⟩⟩)))))))))))⟩ | exact ⟨rfl, Or.inr (Or.inr (Or.inr (Or.inr (Or.inr (Or.inr (Or.inr (Or.inr (Or.inr (Or.inr (Or.inr (Or.inr (Or.inl ⟨h78_17, v, hv1, hv2, rfl⟩))))))))))))⟩ | exact ⟨rfl, Or.inr (Or.inr (Or.inr (Or.inr (Or.inr (Or.inr (Or.inr (Or.inr (Or.inr (Or.inr (Or.inr (Or.inr (Or.inr (Or.inl ⟨h78_18, v, hv1, hv2, hLt⟩)))))))))))))⟩ | exact ⟨rfl, Or.inr (Or.inr (Or.inr (Or.inr (Or.inr (Or.inr (Or.inr (Or.inr (Or.inr (Or.inr (Or.inr (Or.inr (Or.inr (Or.inr (⟨by unfold rac; omega, hRw⟩))))))))))))))⟩
    by_cases h78_14 : gN M 42 0 (40 * m + p) = 14
    · refine V_tabIn (tgt := 386) C dX11_work_78 (14) (by rw [h78_14]; decide) (by decide) (by decide) rfl (by decide) ?_
      refine V_aload_n C dX11_work_386 rfl rfl ?_
      refine V_aload_n C dX11_work_387 rfl rfl ?_
      refine gf_X11_47 C dX11_work_388 ?_
      try simp only [gNN, gNI, gNJ, gIN, gII, gIJ, gJN, gJI, gJJ, Nat.reduceEqDiff, false_and, and_false, true_and, and_true, if_false, if_true]
      refine V_iload C dX11_work_391 rfl ?_
      refine ld_53 C (by omega) dX11_work_393 ?_
      try simp only [gNN, gNI, gNJ, gIN, gII, gIJ, gJN, gJI, gJJ, Nat.reduceEqDiff, false_and, and_false, true_and, and_true, if_false, if_true]
      refine V_callV C [_] (ct_X11_returns hd1 hd hlo) cv_X11_returns lk_X11_212 in_40 rfl rfl ⟨Nat.le_of_ble_eq_true rfl, Nat.le_of_ble_eq_true rfl⟩ rfl rfl (Nat.le_of_ble_eq_true rfl) dX11_work_394 (fun r M' hr => ?_)
      obtain ⟨rfl, hGv⟩ := hr
      try simp only [gNN, gNI, gNJ, gIN, gII, gIJ, gJN, gJI, gJJ, Nat.reduceEqDiff, false_and, and_false, true_and, and_true, if_false, if_true]
      refine V_goto (tgt := 504) C dX11_work_397 (by decide) ?_
      refine V_vret C E dX11_work_504 ?_
      first | exact ⟨rfl, Or.inl ⟨h78_0, rfl⟩⟩ | exact ⟨rfl, Or.inr (Or.inl ⟨h78_1, rfl⟩)⟩ | exact ⟨rfl, Or.inr (Or.inr (Or.inl ⟨h78_2, rfl⟩))⟩ | exact ⟨rfl, Or.inr (Or.inr (Or.inr (Or.inl ⟨h78_3, rfl⟩)))⟩ | exact ⟨rfl, Or.inr (Or.inr (Or.inr (Or.inr (Or.inl ⟨h78_4, hD⟩))))⟩ | exact ⟨rfl, Or.inr (Or.inr (Or.inr (Or.inr (Or.inr (Or.inl ⟨h78_5, hD⟩)))))⟩ | exact ⟨rfl, Or.inr (Or.inr (Or.inr (Or.inr (Or.inr (Or.inr (Or.inl ⟨h78_6, v, hv1, hv2, hJ⟩))))))⟩ | exact ⟨rfl, Or.inr (Or.inr (Or.inr (Or.inr (Or.inr (Or.inr (Or.inr (Or.inl ⟨h78_7, Or.inl ⟨Int64.not_le.mp h342, v, hv1, hv2, hJ⟩⟩)))))))⟩ | exact ⟨rfl, Or.inr (Or.inr (Or.inr (Or.inr (Or.inr (Or.inr (Or.inr (Or.inl ⟨h78_7, Or.inr ⟨Int64.not_lt.mpr h342, rfl⟩⟩)))))))⟩ | exact ⟨rfl, Or.inr (Or.inr (Or.inr (Or.inr (Or.inr (Or.inr (Or.inr (Or.inr (Or.inl ⟨h78_13, v, hv1, hv2, hEn⟩))))))))⟩ | exact ⟨rfl, Or.inr (Or.inr (Or.inr (Or.inr (Or.inr (Or.inr (Or.inr (Or.inr (Or.inr (Or.inl ⟨h78_14, hGv⟩)))))))))⟩ | exact ⟨rfl, Or.inr (Or.inr (Or.inr (Or.inr (Or.inr (Or.inr (Or.inr (Or.inr (Or.inr (Or.inr (Or.inl ⟨h78_15, hFl⟩))))))))))⟩ | exact ⟨rfl, Or.inr (Or.inr (Or.inr (Or.inr (Or.inr (Or.inr (Or.inr (Or.inr (Or.inr (Or.inr (Or.inr (Or.inl ⟨h78_16, Or.inl ⟨h423, hFl⟩⟩)))))))))))⟩ | exact ⟨rfl, Or.inr (Or.inr (Or.inr (Or.inr (Or.inr (Or.inr (Or.inr (Or.inr (Or.inr (Or.inr (Or.inr (Or.inl ⟨h78_16, Or.inr ⟨h423, hFl⟩⟩)))))))))))⟩ | exact ⟨rfl, Or.inr (Or.inr (Or.inr (Or.inr (Or.inr (Or.inr (Or.inr (Or.inr (Or.inr (Or.inr (Or.inr (Or.inr (Or.inl ⟨h78_17, v, hv1, hv2, rfl⟩))))))))))))⟩ | exact ⟨rfl, Or.inr (Or.inr (Or.inr (Or.inr (Or.inr (Or.inr (Or.inr (Or.inr (Or.inr (Or.inr (Or.inr (Or.inr (Or.inr (Or.inl ⟨h78_18, v, hv1, hv2, hLt⟩)))))))))))))⟩ | exact ⟨rfl, Or.inr (Or.inr (Or.inr (Or.inr (Or.inr (Or.inr (Or.inr (Or.inr (Or.inr (Or.inr (Or.inr (Or.inr (Or.inr (Or.inr (⟨by unfold rac; omega, hRw⟩))))))))))))))⟩
    by_cases h78_15 : gN M 42 0 (40 * m + p) = 15
    · refine V_tabIn (tgt := 400) C dX11_work_78 (15) (by rw [h78_15]; decide) (by decide) (by decide) rfl (by decide) ?_
      refine V_aload_n C dX11_work_400 rfl rfl ?_
      refine V_bipush C (nI 8) dX11_work_401 (by decide) ?_
      refine V_aload_n C dX11_work_403 rfl rfl ?_
      refine gf_X11_47 C dX11_work_404 ?_
      try simp only [gNN, gNI, gNJ, gIN, gII, gIJ, gJN, gJI, gJJ, Nat.reduceEqDiff, false_and, and_false, true_and, and_true, if_false, if_true]
      refine V_iload C dX11_work_407 rfl ?_
      refine ld_53 C (by omega) dX11_work_409 ?_
      try simp only [gNN, gNI, gNJ, gIN, gII, gIJ, gJN, gJI, gJJ, Nat.reduceEqDiff, false_and, and_false, true_and, and_true, if_false, if_true]
      refine V_l2i C dX11_work_410 ?_
      refine V_callV C [_, _] (ct_X11_fails hd hA ht b1 b2) cv_X11_fails lk_X11_223 in_40 rfl rfl ⟨Nat.le_of_ble_eq_true rfl, Nat.le_of_ble_eq_true rfl⟩ rfl rfl (Nat.le_of_ble_eq_true rfl) dX11_work_411 (fun r M' hr => ?_)
      obtain ⟨rfl, hFl⟩ := hr
      try simp only [gNN, gNI, gNJ, gIN, gII, gIJ, gJN, gJI, gJJ, Nat.reduceEqDiff, false_and, and_false, true_and, and_true, if_false, if_true]
      refine V_goto (tgt := 504) C dX11_work_414 (by decide) ?_
      refine V_vret C E dX11_work_504 ?_
      first | exact ⟨rfl, Or.inl ⟨h78_0, rfl⟩⟩ | exact ⟨rfl, Or.inr (Or.inl ⟨h78_1, rfl⟩)⟩ | exact ⟨rfl, Or.inr (Or.inr (Or.inl ⟨h78_2, rfl⟩))⟩ | exact ⟨rfl, Or.inr (Or.inr (Or.inr (Or.inl ⟨h78_3, rfl⟩)))⟩ | exact ⟨rfl, Or.inr (Or.inr (Or.inr (Or.inr (Or.inl ⟨h78_4, hD⟩))))⟩ | exact ⟨rfl, Or.inr (Or.inr (Or.inr (Or.inr (Or.inr (Or.inl ⟨h78_5, hD⟩)))))⟩ | exact ⟨rfl, Or.inr (Or.inr (Or.inr (Or.inr (Or.inr (Or.inr (Or.inl ⟨h78_6, v, hv1, hv2, hJ⟩))))))⟩ | exact ⟨rfl, Or.inr (Or.inr (Or.inr (Or.inr (Or.inr (Or.inr (Or.inr (Or.inl ⟨h78_7, Or.inl ⟨Int64.not_le.mp h342, v, hv1, hv2, hJ⟩⟩)))))))⟩ | exact ⟨rfl, Or.inr (Or.inr (Or.inr (Or.inr (Or.inr (Or.inr (Or.inr (Or.inl ⟨h78_7, Or.inr ⟨Int64.not_lt.mpr h342, rfl⟩⟩)))))))⟩ | exact ⟨rfl, Or.inr (Or.inr (Or.inr (Or.inr (Or.inr (Or.inr (Or.inr (Or.inr (Or.inl ⟨h78_13, v, hv1, hv2, hEn⟩))))))))⟩ | exact ⟨rfl, Or.inr (Or.inr (Or.inr (Or.inr (Or.inr (Or.inr (Or.inr (Or.inr (Or.inr (Or.inl ⟨h78_14, hGv⟩)))))))))⟩ | exact ⟨rfl, Or.inr (Or.inr (Or.inr (Or.inr (Or.inr (Or.inr (Or.inr (Or.inr (Or.inr (Or.inr (Or.inl ⟨h78_15, hFl⟩))))))))))⟩ | exact ⟨rfl, Or.inr (Or.inr (Or.inr (Or.inr (Or.inr (Or.inr (Or.inr (Or.inr (Or.inr (Or.inr (Or.inr (Or.inl ⟨h78_16, Or.inl ⟨h423, hFl⟩⟩)))))))))))⟩ | exact ⟨rfl, Or.inr (Or.inr (Or.inr (Or.inr (Or.inr (Or.inr (Or.inr (Or.inr (Or.inr (Or.inr (Or.inr (Or.inl ⟨h78_16, Or.inr ⟨h423, hFl⟩⟩)))))))))))⟩ | exact ⟨rfl, Or.inr (Or.inr (Or.inr (Or.inr (Or.inr (Or.inr (Or.inr (Or.inr (Or.inr (Or.inr (Or.inr (Or.inr (Or.inl ⟨h78_17, v, hv1, hv2, rfl⟩))))))))))))⟩ | exact ⟨rfl, Or.inr (Or.inr (Or.inr (Or.inr (Or.inr (Or.inr (Or.inr (Or.inr (Or.inr (Or.inr (Or.inr (Or.inr (Or.inr (Or.inl ⟨h78_18, v, hv1, hv2, hLt⟩)))))))))))))⟩ | exact ⟨rfl, Or.inr (Or.inr (Or.inr (Or.inr (Or.inr (Or.inr (Or.inr (Or.inr (Or.inr (Or.inr (Or.inr (Or.inr (Or.inr (Or.inr (⟨by unfold rac; omega, hRw⟩))))))))))))))⟩
    by_cases h78_16 : gN M 42 0 (40 * m + p) = 16
    · refine V_tabIn (tgt := 417) C dX11_work_78 (16) (by rw [h78_16]; decide) (by decide) (by decide) rfl (by decide) ?_
      refine V_aload_n C dX11_work_417 rfl rfl ?_
      refine gf_X11_59 C dX11_work_418 ?_
      try simp only [gNN, gNI, gNJ, gIN, gII, gIJ, gJN, gJI, gJJ, Nat.reduceEqDiff, false_and, and_false, true_and, and_true, if_false, if_true]
      refine V_iload_n C dX11_work_421 rfl rfl ?_
      refine ld_57 C (by omega) dX11_work_422 ?_
      try simp only [gNN, gNI, gNJ, gIN, gII, gIJ, gJN, gJI, gJJ, Nat.reduceEqDiff, false_and, and_false, true_and, and_true, if_false, if_true]
      refine V_ifN_ne (tgt := 436) C dX11_work_423 (by omega) (by decide) (fun h423 => ?_) (fun h423 => ?_)
      · skip
        refine V_aload_n C dX11_work_436 rfl rfl ?_
        refine V_aload_n C dX11_work_437 rfl rfl ?_
        refine gf_X11_59 C dX11_work_438 ?_
        try simp only [gNN, gNI, gNJ, gIN, gII, gIJ, gJN, gJI, gJJ, Nat.reduceEqDiff, false_and, and_false, true_and, and_true, if_false, if_true]
        refine V_iload_n C dX11_work_441 rfl rfl ?_
        refine ld_57 C (by omega) dX11_work_442 ?_
        try simp only [gNN, gNI, gNJ, gIN, gII, gIJ, gJN, gJI, gJJ, Nat.reduceEqDiff, false_and, and_false, true_and, and_true, if_false, if_true]
        refine V_aload_n C dX11_work_443 rfl rfl ?_
        refine gf_X11_62 C dX11_work_444 ?_
        try simp only [gNN, gNI, gNJ, gIN, gII, gIJ, gJN, gJI, gJJ, Nat.reduceEqDiff, false_and, and_false, true_and, and_true, if_false, if_true]
        refine V_iload_n C dX11_work_447 rfl rfl ?_
        refine ld_58 C (by omega) dX11_work_448 ?_
        try simp only [gNN, gNI, gNJ, gIN, gII, gIJ, gJN, gJI, gJJ, Nat.reduceEqDiff, false_and, and_false, true_and, and_true, if_false, if_true]
        refine V_callV C [_, _] (ct_X11_fails hd hA ht b1 b2) cv_X11_fails lk_X11_223 in_40 rfl rfl ⟨Nat.le_of_ble_eq_true rfl, Nat.le_of_ble_eq_true rfl⟩ rfl rfl (Nat.le_of_ble_eq_true rfl) dX11_work_449 (fun r M' hr => ?_)
        obtain ⟨rfl, hFl⟩ := hr
        try simp only [gNN, gNI, gNJ, gIN, gII, gIJ, gJN, gJI, gJJ, Nat.reduceEqDiff, false_and, and_false, true_and, and_true, if_false, if_true]
        refine V_goto (tgt := 504) C dX11_work_452 (by decide) ?_
        refine V_vret C E dX11_work_504 ?_
        first | exact ⟨rfl, Or.inl ⟨h78_0, rfl⟩⟩ | exact ⟨rfl, Or.inr (Or.inl ⟨h78_1, rfl⟩)⟩ | exact ⟨rfl, Or.inr (Or.inr (Or.inl ⟨h78_2, rfl⟩))⟩ | exact ⟨rfl, Or.inr (Or.inr (Or.inr (Or.inl ⟨h78_3, rfl⟩)))⟩ | exact ⟨rfl, Or.inr (Or.inr (Or.inr (Or.inr (Or.inl ⟨h78_4, hD⟩))))⟩ | exact ⟨rfl, Or.inr (Or.inr (Or.inr (Or.inr (Or.inr (Or.inl ⟨h78_5, hD⟩)))))⟩ | exact ⟨rfl, Or.inr (Or.inr (Or.inr (Or.inr (Or.inr (Or.inr (Or.inl ⟨h78_6, v, hv1, hv2, hJ⟩))))))⟩ | exact ⟨rfl, Or.inr (Or.inr (Or.inr (Or.inr (Or.inr (Or.inr (Or.inr (Or.inl ⟨h78_7, Or.inl ⟨Int64.not_le.mp h342, v, hv1, hv2, hJ⟩⟩)))))))⟩ | exact ⟨rfl, Or.inr (Or.inr (Or.inr (Or.inr (Or.inr (Or.inr (Or.inr (Or.inl ⟨h78_7, Or.inr ⟨Int64.not_lt.mpr h342, rfl⟩⟩)))))))⟩ | exact ⟨rfl, Or.inr (Or.inr (Or.inr (Or.inr (Or.inr (Or.inr (Or.inr (Or.inr (Or.inl ⟨h78_13, v, hv1, hv2, hEn⟩))))))))⟩ | exact ⟨rfl, Or.inr (Or.inr (Or.inr (Or.inr (Or.inr (Or.inr (Or.inr (Or.inr (Or.inr (Or.inl ⟨h78_14, hGv⟩)))))))))⟩ | exact ⟨rfl, Or.inr (Or.inr (Or.inr (Or.inr (Or.inr (Or.inr (Or.inr (Or.inr (Or.inr (Or.inr (Or.inl ⟨h78_15, hFl⟩))))))))))⟩ | exact ⟨rfl, Or.inr (Or.inr (Or.inr (Or.inr (Or.inr (Or.inr (Or.inr (Or.inr (Or.inr (Or.inr (Or.inr (Or.inl ⟨h78_16, Or.inl ⟨h423, hFl⟩⟩)))))))))))⟩ | exact ⟨rfl, Or.inr (Or.inr (Or.inr (Or.inr (Or.inr (Or.inr (Or.inr (Or.inr (Or.inr (Or.inr (Or.inr (Or.inl ⟨h78_16, Or.inr ⟨h423, hFl⟩⟩)))))))))))⟩ | exact ⟨rfl, Or.inr (Or.inr (Or.inr (Or.inr (Or.inr (Or.inr (Or.inr (Or.inr (Or.inr (Or.inr (Or.inr (Or.inr (Or.inl ⟨h78_17, v, hv1, hv2, rfl⟩))))))))))))⟩ | exact ⟨rfl, Or.inr (Or.inr (Or.inr (Or.inr (Or.inr (Or.inr (Or.inr (Or.inr (Or.inr (Or.inr (Or.inr (Or.inr (Or.inr (Or.inl ⟨h78_18, v, hv1, hv2, hLt⟩)))))))))))))⟩ | exact ⟨rfl, Or.inr (Or.inr (Or.inr (Or.inr (Or.inr (Or.inr (Or.inr (Or.inr (Or.inr (Or.inr (Or.inr (Or.inr (Or.inr (Or.inr (⟨by unfold rac; omega, hRw⟩))))))))))))))⟩
      · skip
        refine V_aload_n C dX11_work_426 rfl rfl ?_
        refine V_bipush C (nI 7) dX11_work_427 (by decide) ?_
        refine V_iconst C (nI 0) dX11_work_429 (by decide) ?_
        refine V_callV C [_, _] (ct_X11_fails hd hA ht b1 b2) cv_X11_fails lk_X11_223 in_40 rfl rfl ⟨Nat.le_of_ble_eq_true rfl, Nat.le_of_ble_eq_true rfl⟩ rfl rfl (Nat.le_of_ble_eq_true rfl) dX11_work_430 (fun r M' hr => ?_)
        obtain ⟨rfl, hFl⟩ := hr
        try simp only [gNN, gNI, gNJ, gIN, gII, gIJ, gJN, gJI, gJJ, Nat.reduceEqDiff, false_and, and_false, true_and, and_true, if_false, if_true]
        refine V_goto (tgt := 504) C dX11_work_433 (by decide) ?_
        refine V_vret C E dX11_work_504 ?_
        first | exact ⟨rfl, Or.inl ⟨h78_0, rfl⟩⟩ | exact ⟨rfl, Or.inr (Or.inl ⟨h78_1, rfl⟩)⟩ | exact ⟨rfl, Or.inr (Or.inr (Or.inl ⟨h78_2, rfl⟩))⟩ | exact ⟨rfl, Or.inr (Or.inr (Or.inr (Or.inl ⟨h78_3, rfl⟩)))⟩ | exact ⟨rfl, Or.inr (Or.inr (Or.inr (Or.inr (Or.inl ⟨h78_4, hD⟩))))⟩ | exact ⟨rfl, Or.inr (Or.inr (Or.inr (Or.inr (Or.inr (Or.inl ⟨h78_5, hD⟩)))))⟩ | exact ⟨rfl, Or.inr (Or.inr (Or.inr (Or.inr (Or.inr (Or.inr (Or.inl ⟨h78_6, v, hv1, hv2, hJ⟩))))))⟩ | exact ⟨rfl, Or.inr (Or.inr (Or.inr (Or.inr (Or.inr (Or.inr (Or.inr (Or.inl ⟨h78_7, Or.inl ⟨Int64.not_le.mp h342, v, hv1, hv2, hJ⟩⟩)))))))⟩ | exact ⟨rfl, Or.inr (Or.inr (Or.inr (Or.inr (Or.inr (Or.inr (Or.inr (Or.inl ⟨h78_7, Or.inr ⟨Int64.not_lt.mpr h342, rfl⟩⟩)))))))⟩ | exact ⟨rfl, Or.inr (Or.inr (Or.inr (Or.inr (Or.inr (Or.inr (Or.inr (Or.inr (Or.inl ⟨h78_13, v, hv1, hv2, hEn⟩))))))))⟩ | exact ⟨rfl, Or.inr (Or.inr (Or.inr (Or.inr (Or.inr (Or.inr (Or.inr (Or.inr (Or.inr (Or.inl ⟨h78_14, hGv⟩)))))))))⟩ | exact ⟨rfl, Or.inr (Or.inr (Or.inr (Or.inr (Or.inr (Or.inr (Or.inr (Or.inr (Or.inr (Or.inr (Or.inl ⟨h78_15, hFl⟩))))))))))⟩ | exact ⟨rfl, Or.inr (Or.inr (Or.inr (Or.inr (Or.inr (Or.inr (Or.inr (Or.inr (Or.inr (Or.inr (Or.inr (Or.inl ⟨h78_16, Or.inl ⟨h423, hFl⟩⟩)))))))))))⟩ | exact ⟨rfl, Or.inr (Or.inr (Or.inr (Or.inr (Or.inr (Or.inr (Or.inr (Or.inr (Or.inr (Or.inr (Or.inr (Or.inl ⟨h78_16, Or.inr ⟨h423, hFl⟩⟩)))))))))))⟩ | exact ⟨rfl, Or.inr (Or.inr (Or.inr (Or.inr (Or.inr (Or.inr (Or.inr (Or.inr (Or.inr (Or.inr (Or.inr (Or.inr (Or.inl ⟨h78_17, v, hv1, hv2, rfl⟩))))))))))))⟩ | exact ⟨rfl, Or.inr (Or.inr (Or.inr (Or.inr (Or.inr (Or.inr (Or.inr (Or.inr (Or.inr (Or.inr (Or.inr (Or.inr (Or.inr (Or.inl ⟨h78_18, v, hv1, hv2, hLt⟩)))))))))))))⟩ | exact ⟨rfl, Or.inr (Or.inr (Or.inr (Or.inr (Or.inr (Or.inr (Or.inr (Or.inr (Or.inr (Or.inr (Or.inr (Or.inr (Or.inr (Or.inr (⟨by unfold rac; omega, hRw⟩))))))))))))))⟩
    by_cases h78_17 : gN M 42 0 (40 * m + p) = 17
    · refine V_tabIn (tgt := 455) C dX11_work_78 (17) (by rw [h78_17]; decide) (by decide) (by decide) rfl (by decide) ?_
      obtain ⟨v, hv1, hv2⟩ := (hi.2.2.2.2 p hp2).2.2.2 (by omega)
      refine V_aload_n C dX11_work_455 rfl rfl ?_
      refine V_iload_n C dX11_work_456 rfl rfl ?_
      refine V_iconst C (nI 3) dX11_work_457 (by decide) ?_
      refine V_iload_n C dX11_work_458 rfl rfl ?_
      refine V_imulN C dX11_work_459 ?_
      refine V_lload C dX11_work_460 rfl ?_
      refine V_l2iN C dX11_work_462 hv2 ?_
      refine V_iaddN C dX11_work_463 ?_
      refine V_aload_n C dX11_work_464 rfl rfl ?_
      refine gf_X11_13 C dX11_work_465 ?_
      try simp only [gNN, gNI, gNJ, gIN, gII, gIJ, gJN, gJI, gJJ, Nat.reduceEqDiff, false_and, and_false, true_and, and_true, if_false, if_true]
      refine V_iload_n C dX11_work_468 rfl rfl ?_
      refine ld_42 C (by omega) dX11_work_469 ?_
      try simp only [gNN, gNI, gNJ, gIN, gII, gIJ, gJN, gJI, gJJ, Nat.reduceEqDiff, false_and, and_false, true_and, and_true, if_false, if_true]
      refine V_bipush C (nI 17) dX11_work_470 (by decide) ?_
      refine V_icmpN_ne (tgt := 479) C dX11_work_472 (by omega) (by omega) (by decide) (fun h472 => absurd h78_17 h472) (fun h472 => ?_)
      refine V_iconst C (nI 1) dX11_work_475 (by decide) ?_
      refine V_goto (tgt := 480) C dX11_work_476 (by decide) ?_
      refine V_callV C [_, _, _] (ct_X11_guards1 hf (by omega)) cv_X11_guards lk_X11_226 in_40 rfl rfl ⟨Nat.le_of_ble_eq_true rfl, Nat.le_of_ble_eq_true rfl⟩ rfl rfl (Nat.le_of_ble_eq_true rfl) dX11_work_480 (fun r M' hr => ?_)
      obtain ⟨rfl, rfl⟩ := hr
      try simp only [gNN, gNI, gNJ, gIN, gII, gIJ, gJN, gJI, gJJ, Nat.reduceEqDiff, false_and, and_false, true_and, and_true, if_false, if_true]
      refine V_goto (tgt := 504) C dX11_work_483 (by decide) ?_
      refine V_vret C E dX11_work_504 ?_
      first | exact ⟨rfl, Or.inl ⟨h78_0, rfl⟩⟩ | exact ⟨rfl, Or.inr (Or.inl ⟨h78_1, rfl⟩)⟩ | exact ⟨rfl, Or.inr (Or.inr (Or.inl ⟨h78_2, rfl⟩))⟩ | exact ⟨rfl, Or.inr (Or.inr (Or.inr (Or.inl ⟨h78_3, rfl⟩)))⟩ | exact ⟨rfl, Or.inr (Or.inr (Or.inr (Or.inr (Or.inl ⟨h78_4, hD⟩))))⟩ | exact ⟨rfl, Or.inr (Or.inr (Or.inr (Or.inr (Or.inr (Or.inl ⟨h78_5, hD⟩)))))⟩ | exact ⟨rfl, Or.inr (Or.inr (Or.inr (Or.inr (Or.inr (Or.inr (Or.inl ⟨h78_6, v, hv1, hv2, hJ⟩))))))⟩ | exact ⟨rfl, Or.inr (Or.inr (Or.inr (Or.inr (Or.inr (Or.inr (Or.inr (Or.inl ⟨h78_7, Or.inl ⟨Int64.not_le.mp h342, v, hv1, hv2, hJ⟩⟩)))))))⟩ | exact ⟨rfl, Or.inr (Or.inr (Or.inr (Or.inr (Or.inr (Or.inr (Or.inr (Or.inl ⟨h78_7, Or.inr ⟨Int64.not_lt.mpr h342, rfl⟩⟩)))))))⟩ | exact ⟨rfl, Or.inr (Or.inr (Or.inr (Or.inr (Or.inr (Or.inr (Or.inr (Or.inr (Or.inl ⟨h78_13, v, hv1, hv2, hEn⟩))))))))⟩ | exact ⟨rfl, Or.inr (Or.inr (Or.inr (Or.inr (Or.inr (Or.inr (Or.inr (Or.inr (Or.inr (Or.inl ⟨h78_14, hGv⟩)))))))))⟩ | exact ⟨rfl, Or.inr (Or.inr (Or.inr (Or.inr (Or.inr (Or.inr (Or.inr (Or.inr (Or.inr (Or.inr (Or.inl ⟨h78_15, hFl⟩))))))))))⟩ | exact ⟨rfl, Or.inr (Or.inr (Or.inr (Or.inr (Or.inr (Or.inr (Or.inr (Or.inr (Or.inr (Or.inr (Or.inr (Or.inl ⟨h78_16, Or.inl ⟨h423, hFl⟩⟩)))))))))))⟩ | exact ⟨rfl, Or.inr (Or.inr (Or.inr (Or.inr (Or.inr (Or.inr (Or.inr (Or.inr (Or.inr (Or.inr (Or.inr (Or.inl ⟨h78_16, Or.inr ⟨h423, hFl⟩⟩)))))))))))⟩ | exact ⟨rfl, Or.inr (Or.inr (Or.inr (Or.inr (Or.inr (Or.inr (Or.inr (Or.inr (Or.inr (Or.inr (Or.inr (Or.inr (Or.inl ⟨h78_17, v, hv1, hv2, rfl⟩))))))))))))⟩ | exact ⟨rfl, Or.inr (Or.inr (Or.inr (Or.inr (Or.inr (Or.inr (Or.inr (Or.inr (Or.inr (Or.inr (Or.inr (Or.inr (Or.inr (Or.inl ⟨h78_18, v, hv1, hv2, hLt⟩)))))))))))))⟩ | exact ⟨rfl, Or.inr (Or.inr (Or.inr (Or.inr (Or.inr (Or.inr (Or.inr (Or.inr (Or.inr (Or.inr (Or.inr (Or.inr (Or.inr (Or.inr (⟨by unfold rac; omega, hRw⟩))))))))))))))⟩
    by_cases h78_18 : gN M 42 0 (40 * m + p) = 18
    · refine V_tabIn (tgt := 455) C dX11_work_78 (18) (by rw [h78_18]; decide) (by decide) (by decide) rfl (by decide) ?_
      obtain ⟨v, hv1, hv2⟩ := (hi.2.2.2.2 p hp2).2.2.2 (by omega)
      refine V_aload_n C dX11_work_455 rfl rfl ?_
      refine V_iload_n C dX11_work_456 rfl rfl ?_
      refine V_iconst C (nI 3) dX11_work_457 (by decide) ?_
      refine V_iload_n C dX11_work_458 rfl rfl ?_
      refine V_imulN C dX11_work_459 ?_
      refine V_lload C dX11_work_460 rfl ?_
      refine V_l2iN C dX11_work_462 hv2 ?_
      refine V_iaddN C dX11_work_463 ?_
      refine V_aload_n C dX11_work_464 rfl rfl ?_
      refine gf_X11_13 C dX11_work_465 ?_
      try simp only [gNN, gNI, gNJ, gIN, gII, gIJ, gJN, gJI, gJJ, Nat.reduceEqDiff, false_and, and_false, true_and, and_true, if_false, if_true]
      refine V_iload_n C dX11_work_468 rfl rfl ?_
      refine ld_42 C (by omega) dX11_work_469 ?_
      try simp only [gNN, gNI, gNJ, gIN, gII, gIJ, gJN, gJI, gJJ, Nat.reduceEqDiff, false_and, and_false, true_and, and_true, if_false, if_true]
      refine V_bipush C (nI 17) dX11_work_470 (by decide) ?_
      refine V_icmpN_ne (tgt := 479) C dX11_work_472 (by omega) (by omega) (by decide) (fun h472 => ?_) (fun h472 => absurd h472 (by omega))
      refine V_iconst C (nI 0) dX11_work_479 (by decide) ?_
      refine V_callV C [_, _, _] (ct_X11_guards0 hf (by omega) (hh v hv1) hd hA ht b1 b2) cv_X11_guards lk_X11_226 in_40 rfl rfl ⟨Nat.le_of_ble_eq_true rfl, Nat.le_of_ble_eq_true rfl⟩ rfl rfl (Nat.le_of_ble_eq_true rfl) dX11_work_480 (fun r M' hr => ?_)
      obtain ⟨rfl, hLt⟩ := hr
      try simp only [gNN, gNI, gNJ, gIN, gII, gIJ, gJN, gJI, gJJ, Nat.reduceEqDiff, false_and, and_false, true_and, and_true, if_false, if_true]
      refine V_goto (tgt := 504) C dX11_work_483 (by decide) ?_
      refine V_vret C E dX11_work_504 ?_
      first | exact ⟨rfl, Or.inl ⟨h78_0, rfl⟩⟩ | exact ⟨rfl, Or.inr (Or.inl ⟨h78_1, rfl⟩)⟩ | exact ⟨rfl, Or.inr (Or.inr (Or.inl ⟨h78_2, rfl⟩))⟩ | exact ⟨rfl, Or.inr (Or.inr (Or.inr (Or.inl ⟨h78_3, rfl⟩)))⟩ | exact ⟨rfl, Or.inr (Or.inr (Or.inr (Or.inr (Or.inl ⟨h78_4, hD⟩))))⟩ | exact ⟨rfl, Or.inr (Or.inr (Or.inr (Or.inr (Or.inr (Or.inl ⟨h78_5, hD⟩)))))⟩ | exact ⟨rfl, Or.inr (Or.inr (Or.inr (Or.inr (Or.inr (Or.inr (Or.inl ⟨h78_6, v, hv1, hv2, hJ⟩))))))⟩ | exact ⟨rfl, Or.inr (Or.inr (Or.inr (Or.inr (Or.inr (Or.inr (Or.inr (Or.inl ⟨h78_7, Or.inl ⟨Int64.not_le.mp h342, v, hv1, hv2, hJ⟩⟩)))))))⟩ | exact ⟨rfl, Or.inr (Or.inr (Or.inr (Or.inr (Or.inr (Or.inr (Or.inr (Or.inl ⟨h78_7, Or.inr ⟨Int64.not_lt.mpr h342, rfl⟩⟩)))))))⟩ | exact ⟨rfl, Or.inr (Or.inr (Or.inr (Or.inr (Or.inr (Or.inr (Or.inr (Or.inr (Or.inl ⟨h78_13, v, hv1, hv2, hEn⟩))))))))⟩ | exact ⟨rfl, Or.inr (Or.inr (Or.inr (Or.inr (Or.inr (Or.inr (Or.inr (Or.inr (Or.inr (Or.inl ⟨h78_14, hGv⟩)))))))))⟩ | exact ⟨rfl, Or.inr (Or.inr (Or.inr (Or.inr (Or.inr (Or.inr (Or.inr (Or.inr (Or.inr (Or.inr (Or.inl ⟨h78_15, hFl⟩))))))))))⟩ | exact ⟨rfl, Or.inr (Or.inr (Or.inr (Or.inr (Or.inr (Or.inr (Or.inr (Or.inr (Or.inr (Or.inr (Or.inr (Or.inl ⟨h78_16, Or.inl ⟨h423, hFl⟩⟩)))))))))))⟩ | exact ⟨rfl, Or.inr (Or.inr (Or.inr (Or.inr (Or.inr (Or.inr (Or.inr (Or.inr (Or.inr (Or.inr (Or.inr (Or.inl ⟨h78_16, Or.inr ⟨h423, hFl⟩⟩)))))))))))⟩ | exact ⟨rfl, Or.inr (Or.inr (Or.inr (Or.inr (Or.inr (Or.inr (Or.inr (Or.inr (Or.inr (Or.inr (Or.inr (Or.inr (Or.inl ⟨h78_17, v, hv1, hv2, rfl⟩))))))))))))⟩ | exact ⟨rfl, Or.inr (Or.inr (Or.inr (Or.inr (Or.inr (Or.inr (Or.inr (Or.inr (Or.inr (Or.inr (Or.inr (Or.inr (Or.inr (Or.inl ⟨h78_18, v, hv1, hv2, hLt⟩)))))))))))))⟩ | exact ⟨rfl, Or.inr (Or.inr (Or.inr (Or.inr (Or.inr (Or.inr (Or.inr (Or.inr (Or.inr (Or.inr (Or.inr (Or.inr (Or.inr (Or.inr (⟨by unfold rac; omega, hRw⟩))))))))))))))⟩
    exfalso; omega
  · skip
    exact absurd h19 (by omega)

set_option maxRecDepth 20000 in
set_option maxHeartbeats 4000000 in
theorem ct_X11_workE {l : Launch} {G : Gm} {M : Mem} {f m : Nat} (hf : f < 12) (hm : gN M 51 0 f = m) (hp : gN M 52 0 f = gN M 41 0 m) (hm6 : m < 6) (hs : gN M 41 0 m ≤ 40) (hd1 : 1 ≤ gN M 40 0 11) (hd : gN M 40 0 11 ≤ 12) (hlo : ∀ g, gN M 40 0 11 = g + 2 → gN M 51 0 g < 6 ∧ RIm M (gN M 51 0 g) ∧ gN M 52 0 g < gN M 41 0 (gN M 51 0 g))  : Ct l G rM yX11_work (.code yX11_work cX11_work 8 none :: GW) rmX11_work [.ref (ad G 40 0), .int (nI f)] M (fun r M' => none = r ∧ RGive M (lN 0) M') := by
  refine Ct_of (cc := cX11_work) (by decide) [(0, _), (1, _)] rfl (Nat.le_of_ble_eq_true rfl) (fun pp ee ss mm aa bb mt cd C E => ?_)
  refine V_aload_n C dX11_work_0 rfl rfl ?_
  refine gf_X11_41 C dX11_work_1 ?_
  refine V_iload_n C dX11_work_4 rfl rfl ?_
  refine ld_51 C (by omega) dX11_work_5 ?_
  rw [hm]
  refine V_istore_n (lv' := [(2, _), (0, _), (1, _)]) C dX11_work_6 rfl (by decide) rfl ?_
  refine V_aload_n C dX11_work_7 rfl rfl ?_
  refine gf_X11_44 C dX11_work_8 ?_
  refine V_iload_n C dX11_work_11 rfl rfl ?_
  refine ld_52 C (by omega) dX11_work_12 ?_
  rw [hp]
  refine V_aload_n C dX11_work_13 rfl rfl ?_
  refine gf_X11_7 C dX11_work_14 ?_
  refine V_iload_n C dX11_work_17 rfl rfl ?_
  refine ld_41 C (by omega) dX11_work_18 ?_
  refine V_icmpN_ne (tgt := 28) C dX11_work_19 (by omega) (by omega) (by decide) (fun h19 => ?_) (fun h19 => ?_)
  · skip
    exact absurd rfl h19
  · skip
    refine V_aload_n C dX11_work_22 rfl rfl ?_
    refine V_lconst C (lN 0) dX11_work_23 (by decide) ?_
    refine V_callV C [_] (ct_X11_returns hd1 hd hlo) cv_X11_returns lk_X11_212 in_40 rfl rfl ⟨Nat.le_of_ble_eq_true rfl, Nat.le_of_ble_eq_true rfl⟩ rfl rfl (Nat.le_of_ble_eq_true rfl) dX11_work_24 (fun r M' hr => ?_)
    obtain ⟨rfl, hGv⟩ := hr
    refine V_vret C E dX11_work_27 ?_
    exact ⟨rfl, hGv⟩

set_option maxRecDepth 20000 in
set_option maxHeartbeats 4000000 in
theorem ct_X11_isPaid {l : Launch} {G : Gm} {M : Mem} {f m p : Nat} (hf : f < 12) (hm : gN M 51 0 f = m) (hp : gN M 52 0 f = p) (hm6 : m < 6) (hi : RIm M m) (hp2 : p ≤ gN M 41 0 m) (h1 : gN M 40 0 29 ≤ gN M 40 0 23) (h2 : gN M 40 0 23 ≤ 200)  : Ct l G rM yX11_isPaid (.code yX11_isPaid cX11_isPaid 6 (some .boolean) :: GW) rmX11_isPaid [.ref (ad G 40 0), .int (nI f)] M (fun r M' => PaidP M f r M') := by
  refine Ct_of (cc := cX11_isPaid) (by decide) [(0, _), (1, _)] rfl (Nat.le_of_ble_eq_true rfl) (fun pp ee ss mm aa bb mt cd C E => ?_)
  have b1 := h1
  have b2 := h2
  have hs := hi.1
  refine V_aload_n C dX11_isPaid_0 rfl rfl ?_
  refine gf_X11_41 C dX11_isPaid_1 ?_
  refine V_iload_n C dX11_isPaid_4 rfl rfl ?_
  refine ld_51 C (by omega) dX11_isPaid_5 ?_
  rw [hm]
  refine V_istore_n (lv' := [(2, _), (0, _), (1, _)]) C dX11_isPaid_6 rfl (by decide) rfl ?_
  refine V_bipush C (nI 40) dX11_isPaid_7 (by decide) ?_
  refine V_iload_n C dX11_isPaid_9 rfl rfl ?_
  refine V_imulN C dX11_isPaid_10 ?_
  refine V_aload_n C dX11_isPaid_11 rfl rfl ?_
  refine gf_X11_44 C dX11_isPaid_12 ?_
  refine V_iload_n C dX11_isPaid_15 rfl rfl ?_
  refine ld_52 C (by omega) dX11_isPaid_16 ?_
  rw [hp]
  refine V_iaddN C dX11_isPaid_17 ?_
  refine V_istore_n (lv' := [(3, _), (2, _), (0, _), (1, _)]) C dX11_isPaid_18 rfl (by decide) rfl ?_
  refine V_aload_n C dX11_isPaid_19 rfl rfl ?_
  refine gf_X11_44 C dX11_isPaid_20 ?_
  refine V_iload_n C dX11_isPaid_23 rfl rfl ?_
  refine ld_52 C (by omega) dX11_isPaid_24 ?_
  rw [hp]
  refine V_aload_n C dX11_isPaid_25 rfl rfl ?_
  refine gf_X11_7 C dX11_isPaid_26 ?_
  refine V_iload_n C dX11_isPaid_29 rfl rfl ?_
  refine ld_41 C (by omega) dX11_isPaid_30 ?_
  refine V_icmpN_eq (tgt := 45) C dX11_isPaid_31 (by omega) (by omega) (by decide) (fun h31 => ?_) (fun h31 => ?_)
  · skip
    refine V_iconst C (nI 1) dX11_isPaid_45 (by decide) ?_
    refine V_zret C E dX11_isPaid_46 (by decide) ?_
    exact Or.inl ⟨by rw [hm, hp]; unfold rac; omega, rfl, rfl⟩
  · skip
    have hrg := hi.2.2.1 p (by omega)
    refine V_aload_n C dX11_isPaid_34 rfl rfl ?_
    refine gf_X11_13 C dX11_isPaid_35 ?_
    refine V_iload_n C dX11_isPaid_38 rfl rfl ?_
    refine ld_42 C (by omega) dX11_isPaid_39 ?_
    refine V_bipush C (nI 8) dX11_isPaid_40 (by decide) ?_
    refine V_icmpN_eq (tgt := 47) C dX11_isPaid_42 (by omega) (by omega) (by decide) (fun h42 => ?_) (fun h42 => ?_)
    · skip
      refine V_aload_n C dX11_isPaid_47 rfl rfl ?_
      refine gf_X11_47 C dX11_isPaid_48 ?_
      refine V_iconst C (nI 4) dX11_isPaid_51 (by decide) ?_
      refine V_iload_n C dX11_isPaid_52 rfl rfl ?_
      refine V_imulN C dX11_isPaid_53 ?_
      refine V_aload_n C dX11_isPaid_54 rfl rfl ?_
      refine gf_X11_16 C dX11_isPaid_55 ?_
      refine V_iload_n C dX11_isPaid_58 rfl rfl ?_
      refine ld_43 C (by omega) dX11_isPaid_59 ?_
      refine V_iaddN C dX11_isPaid_60 ?_
      refine ld_53 C (by omega) dX11_isPaid_61 ?_
      refine V_lstore (lv' := [(4, _), (3, _), (2, _), (0, _), (1, _)]) C dX11_isPaid_62 (by decide) rfl ?_
      refine V_aload_n C dX11_isPaid_64 rfl rfl ?_
      refine V_lload C dX11_isPaid_65 rfl ?_
      refine V_lconst C (lN 0) dX11_isPaid_67 (by decide) ?_
      refine V_lcmp C dX11_isPaid_68 ?_
      refine V_ifL_ge (tgt := 76) C dX11_isPaid_69 (by decide) (fun h69 => ?_) (fun h69 => ?_)
      · skip
        refine V_lload C dX11_isPaid_76 rfl ?_
        refine V_ldc2 C kL_X11_207 dX11_isPaid_78 ?_
        refine V_lcmp C dX11_isPaid_81 ?_
        refine V_ifL_le (tgt := 91) C dX11_isPaid_82 (by decide) (fun h82 => ?_) (fun h82 => ?_)
        · skip
          obtain ⟨k, hk, hkx⟩ := isL_of (n := 1001) (x := gJ M 53 0 (4 * f + gN M 43 0 (40 * m + p))) ⟨by rw [Int64.le_iff_toInt_le, lN_toInt (by decide)] at h69; omega, by rw [Int64.le_iff_toInt_le, lN_toInt (by decide)] at h82; omega⟩ (by decide)
          refine V_lload C dX11_isPaid_91 rfl ?_
          refine V_lconst C (lN 1) dX11_isPaid_93 (by decide) ?_
          rw [hkx]
          refine V_ladd C dX11_isPaid_94 ?_
          first | rw [lN_add] | skip
          refine V_callV C [_] (ct_X11_counts b1 b2 (by omega)) cv_X11_counts lk_X11_150 in_40 rfl rfl ⟨Nat.le_of_ble_eq_true rfl, Nat.le_of_ble_eq_true rfl⟩ rfl rfl (Nat.le_of_ble_eq_true rfl) dX11_isPaid_95 (fun r M' hr => ?_)
          obtain ⟨rfl, rfl⟩ := hr
          refine V_zret C E dX11_isPaid_98 (bN_le _) ?_
          refine Or.inr ⟨by rw [hm, hp]; exact ⟨by omega, h42⟩, ?_⟩
          rw [hm, hp]
          unfold okC rR cost
          first | (rw [hkx, lN_toInt (by omega), if_neg (by omega), Int.toNat_natCast]; by_cases q : gN M 40 0 29 + (k + 1) ≤ gN M 40 0 23; (rw [bN_t q, if_pos q]; exact Or.inl ⟨by omega, rfl, by rw [Nat.add_comm 1 k]⟩); (rw [bN_f q, if_neg q]; exact Or.inr ⟨by omega, rfl, rfl⟩)) | (rw [Int64.le_iff_toInt_le, lN_toInt (by decide)] at h69; rw [Int64.le_iff_toInt_le, lN_toInt (by decide)] at h82; rw [bN_f (show ¬ gN M 40 0 29 + 1000 ≤ gN M 40 0 23 by omega), if_neg (show ¬ gN M 40 0 29 + 1000 ≤ gN M 40 0 23 by omega)]; exact Or.inr ⟨by rw [if_neg (by omega)]; omega, rfl, rfl⟩) | (rw [Int64.le_iff_toInt_le, lN_toInt (by decide)] at h69; rw [if_pos (show (gJ M 53 0 (4 * f + gN M 43 0 (40 * m + p))).toInt < 0 by omega)]; by_cases q : gN M 40 0 29 + 1 ≤ gN M 40 0 23; (rw [bN_t q, if_pos q]; exact Or.inl ⟨q, rfl, rfl⟩); (rw [bN_f q, if_neg q]; exact Or.inr ⟨q, rfl, rfl⟩))
        · skip
          refine V_ldc2 C kL_X11_207 dX11_isPaid_85 ?_
          refine V_goto (tgt := 95) C dX11_isPaid_88 (by decide) ?_
          first | rw [lN_add] | skip
          refine V_callV C [_] (ct_X11_counts b1 b2 (by omega)) cv_X11_counts lk_X11_150 in_40 rfl rfl ⟨Nat.le_of_ble_eq_true rfl, Nat.le_of_ble_eq_true rfl⟩ rfl rfl (Nat.le_of_ble_eq_true rfl) dX11_isPaid_95 (fun r M' hr => ?_)
          obtain ⟨rfl, rfl⟩ := hr
          refine V_zret C E dX11_isPaid_98 (bN_le _) ?_
          refine Or.inr ⟨by rw [hm, hp]; exact ⟨by omega, h42⟩, ?_⟩
          rw [hm, hp]
          unfold okC rR cost
          first | (rw [hkx, lN_toInt (by omega), if_neg (by omega), Int.toNat_natCast]; by_cases q : gN M 40 0 29 + (k + 1) ≤ gN M 40 0 23; (rw [bN_t q, if_pos q]; exact Or.inl ⟨by omega, rfl, by rw [Nat.add_comm 1 k]⟩); (rw [bN_f q, if_neg q]; exact Or.inr ⟨by omega, rfl, rfl⟩)) | (rw [Int64.le_iff_toInt_le, lN_toInt (by decide)] at h69; rw [Int64.le_iff_toInt_le, lN_toInt (by decide)] at h82; rw [bN_f (show ¬ gN M 40 0 29 + 1000 ≤ gN M 40 0 23 by omega), if_neg (show ¬ gN M 40 0 29 + 1000 ≤ gN M 40 0 23 by omega)]; exact Or.inr ⟨by rw [if_neg (by omega)]; omega, rfl, rfl⟩) | (rw [Int64.le_iff_toInt_le, lN_toInt (by decide)] at h69; rw [if_pos (show (gJ M 53 0 (4 * f + gN M 43 0 (40 * m + p))).toInt < 0 by omega)]; by_cases q : gN M 40 0 29 + 1 ≤ gN M 40 0 23; (rw [bN_t q, if_pos q]; exact Or.inl ⟨q, rfl, rfl⟩); (rw [bN_f q, if_neg q]; exact Or.inr ⟨q, rfl, rfl⟩))
      · skip
        refine V_lconst C (lN 1) dX11_isPaid_72 (by decide) ?_
        refine V_goto (tgt := 95) C dX11_isPaid_73 (by decide) ?_
        first | rw [lN_add] | skip
        refine V_callV C [_] (ct_X11_counts b1 b2 (by omega)) cv_X11_counts lk_X11_150 in_40 rfl rfl ⟨Nat.le_of_ble_eq_true rfl, Nat.le_of_ble_eq_true rfl⟩ rfl rfl (Nat.le_of_ble_eq_true rfl) dX11_isPaid_95 (fun r M' hr => ?_)
        obtain ⟨rfl, rfl⟩ := hr
        refine V_zret C E dX11_isPaid_98 (bN_le _) ?_
        refine Or.inr ⟨by rw [hm, hp]; exact ⟨by omega, h42⟩, ?_⟩
        rw [hm, hp]
        unfold okC rR cost
        first | (rw [hkx, lN_toInt (by omega), if_neg (by omega), Int.toNat_natCast]; by_cases q : gN M 40 0 29 + (k + 1) ≤ gN M 40 0 23; (rw [bN_t q, if_pos q]; exact Or.inl ⟨by omega, rfl, by rw [Nat.add_comm 1 k]⟩); (rw [bN_f q, if_neg q]; exact Or.inr ⟨by omega, rfl, rfl⟩)) | (rw [Int64.le_iff_toInt_le, lN_toInt (by decide)] at h69; rw [Int64.le_iff_toInt_le, lN_toInt (by decide)] at h82; rw [bN_f (show ¬ gN M 40 0 29 + 1000 ≤ gN M 40 0 23 by omega), if_neg (show ¬ gN M 40 0 29 + 1000 ≤ gN M 40 0 23 by omega)]; exact Or.inr ⟨by rw [if_neg (by omega)]; omega, rfl, rfl⟩) | (rw [Int64.le_iff_toInt_le, lN_toInt (by decide)] at h69; rw [if_pos (show (gJ M 53 0 (4 * f + gN M 43 0 (40 * m + p))).toInt < 0 by omega)]; by_cases q : gN M 40 0 29 + 1 ≤ gN M 40 0 23; (rw [bN_t q, if_pos q]; exact Or.inl ⟨q, rfl, rfl⟩); (rw [bN_f q, if_neg q]; exact Or.inr ⟨q, rfl, rfl⟩))
    · skip
      refine V_iconst C (nI 1) dX11_isPaid_45 (by decide) ?_
      refine V_zret C E dX11_isPaid_46 (by decide) ?_
      exact Or.inl ⟨by rw [hm, hp]; unfold rac; omega, rfl, rfl⟩

