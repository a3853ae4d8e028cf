def RFAIL (M : Mem) (k : Nat) (n : Int32) (M' : Mem) : Prop := RFailP k (gN M 40 0 11) (sI (sN M 40 0 26 k) 40 0 27 n) M'
def allR (M : Mem) : Prop := ∀ g, g < gN M 40 0 11 → gN M 51 0 g < 6 ∧ RIm M (gN M 51 0 g) ∧ gN M 52 0 g ≤ 40
theorem sel_not {M : Mem} {c pl k h : Nat} (hn : ¬ selR M c pl k h) (h1 : gN M 47 0 (4 * c + h) ≤ pl) (h2 : pl < gN M 48 0 (4 * c + h)) : ¬ ((gI M 50 0 (4 * c + h) >>> (nI k &&& 31)) &&& nI 1) = nI 1 := fun q => hn ⟨h1, h2, q⟩
def RDiv (M : Mem) (f r s o : Nat) (M' : Mem) : Prop := (gJ M 53 0 s = lN 0 ∧ RFAIL M 6 (nI 0) M') ∨ (¬ gJ M 53 0 s = lN 0 ∧ sN (sJ M 53 0 r (if o = 0 then gJ M 53 0 r - gJ M 53 0 r / gJ M 53 0 s * gJ M 53 0 s else gJ M 53 0 r / gJ M 53 0 s)) 52 0 f (gN M 52 0 f + 1) = M')
def RJmp (M : Mem) (f t : Nat) (M' : Mem) : Prop := (t ≤ gN M 52 0 f ∧ ¬ okC M 1 ∧ rstp M = M') ∨ (t ≤ gN M 52 0 f ∧ okC M 1 ∧ sN (sN M 40 0 29 (gN M 40 0 29 + 1)) 52 0 f (min t (gN M 41 0 (gN M 51 0 f))) = M') ∨ (¬ t ≤ gN M 52 0 f ∧ sN M 52 0 f (min t (gN M 41 0 (gN M 51 0 f))) = M')
def rHold (M : Mem) (f g : Nat) : Mem := sN (sI (sI (sN M 59 0 g (gN M 59 0 g + 1)) 40 0 33 (gI M 40 0 33 + nI 1)) 40 0 34 (if gI M 40 0 34 < gI M 40 0 33 + nI 1 then gI M 40 0 33 + nI 1 else gI M 40 0 34)) 52 0 f (gN M 52 0 f + 1)
def rLet (M : Mem) (f g : Nat) : Mem := sN (sI (sI (sN M 59 0 g (gN M 59 0 g - 1)) 40 0 33 (gI M 40 0 33 + (-1))) 40 0 34 (if gI M 40 0 34 < gI M 40 0 33 + (-1) then gI M 40 0 33 + (-1) else gI M 40 0 34)) 52 0 f (gN M 52 0 f + 1)
/-- cells from lo on, n of them, become v -/
def fR (M : Mem) (lo n : Nat) (v : Int64) : Mem := (M.1, M.2.1, fun a b c => if a = 60 ∧ b = 0 ∧ lo ≤ c ∧ c < lo + n then v else M.2.2 a b c)
theorem gN_fR {M : Mem} {lo n : Nat} {v : Int64} (a b c : Nat) : gN (fR M lo n v) a b c = gN M a b c := rfl
theorem gI_fR {M : Mem} {lo n : Nat} {v : Int64} (a b c : Nat) : gI (fR M lo n v) a b c = gI M a b c := rfl
theorem gJ_fR {M : Mem} {lo n : Nat} {v : Int64} (a b c : Nat) : gJ (fR M lo n v) a b c = if a = 60 ∧ b = 0 ∧ lo ≤ c ∧ c < lo + n then v else gJ M a b c := rfl
theorem sN_self {M : Mem} {k i j : Nat} : sN M k i j (gN M k i j) = M := by
  unfold sN gN u3
  refine Prod.ext ?_ rfl
  funext a b c
  show (if a = k ∧ b = i ∧ c = j then M.1 k i j else M.1 a b c) = M.1 a b c
  by_cases h : a = k ∧ b = i ∧ c = j
  · rw [if_pos h, h.1, h.2.1, h.2.2]
  · rw [if_neg h]
theorem fR_0 {M : Mem} {lo : Nat} {v : Int64} : fR M lo 0 v = M := by
  unfold fR
  refine Prod.ext rfl (Prod.ext rfl ?_)
  funext a b c
  show (if a = 60 ∧ b = 0 ∧ lo ≤ c ∧ c < lo + 0 then v else M.2.2 a b c) = M.2.2 a b c
  rw [if_neg (by omega)]
theorem fR_s {M : Mem} {lo n x : Nat} {v : Int64} : sN (sJ (sN (fR M lo n v) 40 0 22 x) 60 0 (lo + n) v) 40 0 22 (x + 1) = sN (fR M lo (n + 1) v) 40 0 22 (x + 1) := by
  unfold sN sJ fR u3
  refine Prod.ext ?_ (Prod.ext rfl ?_)
  · funext a b c
    show (if a = 40 ∧ b = 0 ∧ c = 22 then x + 1 else if a = 40 ∧ b = 0 ∧ c = 22 then x else M.1 a b c) = if a = 40 ∧ b = 0 ∧ c = 22 then x + 1 else M.1 a b c
    by_cases h : a = 40 ∧ b = 0 ∧ c = 22
    · rw [if_pos h, if_pos h]
    · rw [if_neg h, if_neg h, if_neg h]
  · funext a b c
    show (if a = 60 ∧ b = 0 ∧ c = lo + n then v else if a = 60 ∧ b = 0 ∧ lo ≤ c ∧ c < lo + n then v else M.2.2 a b c) = if a = 60 ∧ b = 0 ∧ lo ≤ c ∧ c < lo + (n + 1) then v else M.2.2 a b c
    by_cases h : a = 60 ∧ b = 0
    · by_cases h1 : c = lo + n
      · rw [if_pos ⟨h.1, h.2, h1⟩, if_pos ⟨h.1, h.2, by omega, by omega⟩]
      · rw [if_neg (fun q => h1 q.2.2)]
        by_cases h2 : lo ≤ c ∧ c < lo + n
        · rw [if_pos ⟨h.1, h.2, h2⟩, if_pos ⟨h.1, h.2, by omega, by omega⟩]
        · rw [if_neg (fun q => h2 q.2.2), if_neg (fun q => h2 ⟨q.2.2.1, by omega⟩)]
    · rw [if_neg (fun q => h ⟨q.1, q.2.1⟩), if_neg (fun q => h ⟨q.1, q.2.1⟩), if_neg (fun q => h ⟨q.1, q.2.1⟩)]
def rMk (M : Mem) (f n : Nat) (x : Int32) : Mem := sN (sN (fR (sN (sN (sI (sN M 40 0 32 (gN M 40 0 32 + 1)) 54 0 f x) 55 0 f (gN M 40 0 22)) 56 0 f n) (gN M 40 0 22) n (if nI 4 < x then -1 else lN 0)) 40 0 22 (gN M 40 0 22 + n)) 52 0 f (gN M 52 0 f + 1)
def RMake (M : Mem) (f : Nat) (a : Int64) (x : Int32) (M' : Mem) : Prop := (a.toInt < 0 ∧ RFAIL M 3 (nI 0) M') ∨ (∃ n, n ≤ 200 ∧ a = lN n ∧ rMk M f n x = M')
set_option maxRecDepth 20000 in
set_option maxHeartbeats 4000000 in
theorem ct_X11_fails {l : Launch} {G : Gm} {M : Mem} {k : Nat} {n : Int32} (hd : gN M 40 0 11 ≤ 12) (hA : allR M) (ht : gN M 40 0 31 ≤ 30) (h1 : gN M 40 0 29 ≤ gN M 40 0 23) (h2 : gN M 40 0 23 ≤ 200)  : Ct l G rM yX11_fails (.code yX11_fails cX11_fails 6 none :: GW) rmX11_fails [.ref (ad G 40 0), .int (nI k), .int n] M (fun r M' => none = r ∧ RFAIL M k n M') := by
  refine Ct_of (cc := cX11_fails) (by decide) [(0, _), (1, _), (2, _)] rfl (Nat.le_of_ble_eq_true rfl) (fun pp ee ss mm aa bb mt cd C E => ?_)
  refine V_aload_n C dX11_fails_0 rfl rfl ?_
  refine V_iload_n C dX11_fails_1 rfl rfl ?_
  refine pf_X11_170 C dX11_fails_2 ?_
  refine V_aload_n C dX11_fails_5 rfl rfl ?_
  refine V_iload_n C dX11_fails_6 rfl rfl ?_
  refine pf_X11_173 C dX11_fails_7 ?_
  have LP10 : ∀ (fO : Nat) (X : Mem), gN X 40 0 11 < fO → gN X 40 0 11 ≤ 12 → allR X → gN X 40 0 31 ≤ 30 → gN X 40 0 29 ≤ gN X 40 0 23 → gN X 40 0 23 ≤ 200 → (∀ M', RFailP k (gN X 40 0 11) X M' → RFAIL M k n M') → V pp l ee rmX11_fails ss mm aa bb mt cd G rM 6 (MQ bb (QcG G rM (fun r M' => none = r ∧ RFAIL M k n M') (AA G rM ss.heap.size)) aa ss 0 0 (AA G rM ss.heap.size)) X 10 [(0, .ref (ad G 40 0)), (1, .int (nI k)), (2, .int n)] [] := by
    intro fO
    induction fO with
    | zero => intros; omega
    | succ fO ihO =>
      intro X hfO hdX hAX htX b1 b2 hK
      refine V_aload_n C dX11_fails_10 rfl rfl ?_
      refine gf_X11_147 C dX11_fails_11 ?_
      refine V_ifN_le (tgt := 123) C dX11_fails_14 (by omega) (by decide) (fun h14 => ?_) (fun h14 => ?_)
      · skip
        refine V_aload_n C dX11_fails_123 rfl rfl ?_
        refine V_iconst C (nI 1) dX11_fails_124 (by decide) ?_
        refine pf_X11_163 C (by decide) dX11_fails_125 ?_
        refine V_vret C E dX11_fails_128 ?_
        exact ⟨rfl, hK _ (by rw [show gN X 40 0 11 = 0 by omega]; rfl)⟩
      · skip
        obtain ⟨d, hd⟩ : ∃ d, gN X 40 0 11 = d + 1 := ⟨gN X 40 0 11 - 1, by omega⟩
        obtain ⟨l1, l2, l3⟩ := hAX d (by omega)
        have lz := l2.1
        have lh := l2.2.1
        refine V_aload_n C dX11_fails_17 rfl rfl ?_
        refine gf_X11_147 C dX11_fails_18 ?_
        refine V_iconst C (nI 1) dX11_fails_21 (by decide) ?_
        refine V_isubN C dX11_fails_22 (by omega) ?_
        rw [show gN X 40 0 11 - 1 = d by omega]
        refine V_istore_n (lv' := [(3, _), (0, _), (1, _), (2, _)]) C dX11_fails_23 rfl (by decide) rfl ?_
        refine V_aload_n C dX11_fails_24 rfl rfl ?_
        refine gf_X11_41 C dX11_fails_25 ?_
        refine V_iload_n C dX11_fails_28 rfl rfl ?_
        refine ld_51 C (by omega) dX11_fails_29 ?_
        refine V_istore (lv' := [(4, _), (3, _), (0, _), (1, _), (2, _)]) C dX11_fails_30 (by decide) rfl ?_
        refine V_iconst C (nI 4) dX11_fails_32 (by decide) ?_
        refine V_iload C dX11_fails_33 rfl ?_
        refine V_imulN C dX11_fails_35 ?_
        refine V_istore (lv' := [(5, _), (4, _), (3, _), (0, _), (1, _), (2, _)]) C dX11_fails_36 (by decide) rfl ?_
        have LP38 : ∀ (fu : Nat) (h : Nat), gN X 46 0 (gN X 51 0 d) - h < fu → h ≤ gN X 46 0 (gN X 51 0 d) → (∀ h', h' < h → ¬ selR X (gN X 51 0 d) (gN X 52 0 d) k h') → V pp l ee rmX11_fails ss mm aa bb mt cd G rM 6 (MQ bb (QcG G rM (fun r M' => none = r ∧ RFAIL M k n M') (AA G rM ss.heap.size)) aa ss 0 0 (AA G rM ss.heap.size)) X 38 [(5, .int (nI (4 * gN X 51 0 d + h))), (4, .int (nI (gN X 51 0 d))), (3, .int (nI d)), (0, .ref (ad G 40 0)), (1, .int (nI k)), (2, .int n)] [] := by
          intro fu
          induction fu with
          | zero => intros; omega
          | succ fu ih =>
            intro h hfu hle hno
            refine V_iload C dX11_fails_38 rfl ?_
            refine V_iconst C (nI 4) dX11_fails_40 (by decide) ?_
            refine V_iload C dX11_fails_41 rfl ?_
            refine V_imulN C dX11_fails_43 ?_
            refine V_aload_n C dX11_fails_44 rfl rfl ?_
            refine gf_X11_26 C dX11_fails_45 ?_
            refine V_iload C dX11_fails_48 rfl ?_
            refine ld_46 C (by omega) dX11_fails_50 ?_
            refine V_iaddN C dX11_fails_51 ?_
            refine V_icmpN_ge (tgt := 116) C dX11_fails_52 (by omega) (by omega) (by decide) (fun h52 => ?_) (fun h52 => ?_)
            · skip
              refine V_aload_n C dX11_fails_116 rfl rfl ?_
              refine V_callV C [] (ct_X11_leave (by omega) hdX) cv_X11_leave lk_X11_160 in_40 rfl rfl ⟨Nat.le_of_ble_eq_true rfl, Nat.le_of_ble_eq_true rfl⟩ rfl rfl (Nat.le_of_ble_eq_true rfl) dX11_fails_117 (fun r M' hr => ?_)
              obtain ⟨rfl, rfl⟩ := hr
              refine V_goto (tgt := 10) C dX11_fails_120 (by decide) ?_
              refine V_lv [3, 4, 5] rfl ?_
              exact ihO _ (by rw [rl_d]; omega) (by rw [rl_d]; omega) (fun g hg => by rw [rl_d] at hg; obtain ⟨q1, q2, q3⟩ := hAX g (by omega); rw [rl_N 51 0 g (by omega), rl_N 52 0 g (by omega)]; exact ⟨q1, RIm_ScR rl_Sc q2, q3⟩) (by rw [rl_N 40 0 31 (by omega)]; exact htX) (by rw [rl_N 40 0 29 (by omega), rl_N 40 0 23 (by omega)]; exact b1) (by rw [rl_N 40 0 23 (by omega)]; exact b2) (fun M' hR => hK M' (by rw [hd]; rw [rl_d, show gN X 40 0 11 - 1 = d by omega] at hR; exact Or.inr ⟨fun h2 q => hno h2 (by omega), hR⟩))
            · skip
              have lb := l2.2.2.2.1 h (by omega)
              refine V_aload_n C dX11_fails_55 rfl rfl ?_
              refine gf_X11_44 C dX11_fails_56 ?_
              refine V_iload_n C dX11_fails_59 rfl rfl ?_
              refine ld_52 C (by omega) dX11_fails_60 ?_
              refine V_aload_n C dX11_fails_61 rfl rfl ?_
              refine gf_X11_29 C dX11_fails_62 ?_
              refine V_iload C dX11_fails_65 rfl ?_
              refine ld_47 C (by omega) dX11_fails_67 ?_
              refine V_icmpN_lt (tgt := 110) C dX11_fails_68 (by omega) (by omega) (by decide) (fun h68 => ?_) (fun h68 => ?_)
              · skip
                refine V_iincN (lv' := [(5, _), (4, _), (3, _), (0, _), (1, _), (2, _)]) C dX11_fails_110 rfl (b := 1) (by decide) (by decide) rfl ?_
                refine V_goto (tgt := 38) C dX11_fails_113 (by decide) ?_
                refine V_lv [0, 1, 2, 3, 4, 5] rfl ?_
                exact ih _ (by omega) (by omega) (lt_s hno (by first | (intro q; have := q.1; have := q.2.1; omega) | exact fun q => h99 q.2.2))
              · skip
                refine V_aload_n C dX11_fails_71 rfl rfl ?_
                refine gf_X11_44 C dX11_fails_72 ?_
                refine V_iload_n C dX11_fails_75 rfl rfl ?_
                refine ld_52 C (by omega) dX11_fails_76 ?_
                refine V_aload_n C dX11_fails_77 rfl rfl ?_
                refine gf_X11_32 C dX11_fails_78 ?_
                refine V_iload C dX11_fails_81 rfl ?_
                refine ld_48 C (by omega) dX11_fails_83 ?_
                refine V_icmpN_ge (tgt := 110) C dX11_fails_84 (by omega) (by omega) (by decide) (fun h84 => ?_) (fun h84 => ?_)
                · skip
                  refine V_iincN (lv' := [(5, _), (4, _), (3, _), (0, _), (1, _), (2, _)]) C dX11_fails_110 rfl (b := 1) (by decide) (by decide) rfl ?_
                  refine V_goto (tgt := 38) C dX11_fails_113 (by decide) ?_
                  refine V_lv [0, 1, 2, 3, 4, 5] rfl ?_
                  exact ih _ (by omega) (by omega) (lt_s hno (by first | (intro q; have := q.1; have := q.2.1; omega) | exact fun q => h99 q.2.2))
                · skip
                  refine V_aload_n C dX11_fails_87 rfl rfl ?_
                  refine gf_X11_38 C dX11_fails_88 ?_
                  refine V_iload C dX11_fails_91 rfl ?_
                  refine ld_50 C (by omega) dX11_fails_93 ?_
                  refine V_iload_n C dX11_fails_94 rfl rfl ?_
                  refine V_ishr C dX11_fails_95 ?_
                  refine V_iconst C (nI 1) dX11_fails_96 (by decide) ?_
                  refine V_iand C dX11_fails_97 ?_
                  refine V_iconst C (nI 1) dX11_fails_98 (by decide) ?_
                  refine V_icmp_ne (tgt := 110) C dX11_fails_99 (by decide) (fun h99 => ?_) (fun h99 => ?_)
                  · skip
                    refine V_iincN (lv' := [(5, _), (4, _), (3, _), (0, _), (1, _), (2, _)]) C dX11_fails_110 rfl (b := 1) (by decide) (by decide) rfl ?_
                    refine V_goto (tgt := 38) C dX11_fails_113 (by decide) ?_
                    refine V_lv [0, 1, 2, 3, 4, 5] rfl ?_
                    exact ih _ (by omega) (by omega) (lt_s hno (by first | (intro q; have := q.1; have := q.2.1; omega) | exact fun q => h99 q.2.2))
                  · skip
                    refine V_aload_n C dX11_fails_102 rfl rfl ?_
                    refine V_iload_n C dX11_fails_103 rfl rfl ?_
                    refine V_iload C dX11_fails_104 rfl ?_
                    refine V_callV C [_, _] (ct_X11_takes (by omega) (by omega) l1 l2 lb.2.2 htX b1 b2) cv_X11_takes lk_X11_176 in_40 rfl rfl ⟨Nat.le_of_ble_eq_true rfl, Nat.le_of_ble_eq_true rfl⟩ rfl rfl (Nat.le_of_ble_eq_true rfl) dX11_fails_106 (fun r M' hr => ?_)
                    obtain ⟨rfl, hTk⟩ := hr
                    refine V_vret C E dX11_fails_109 ?_
                    exact ⟨rfl, hK _ (by rw [hd]; exact Or.inl ⟨h, by omega, ⟨by omega, by omega, h99⟩, hno, hTk⟩)⟩
        refine V_lv [0, 1, 2, 3, 4, 5] rfl ?_
        exact LP38 _ 0 (Nat.lt_succ_self _) (Nat.zero_le _) (fun _ q => absurd q (by omega))
  refine V_lv [0, 1, 2] rfl ?_
  exact LP10 _ _ (Nat.lt_succ_self _) hd (fun g hg => ⟨(hA g hg).1, RIm_ScR ((ScR_N (by omega)).tr (ScR_I (by omega))) (hA g hg).2.1, (hA g hg).2.2⟩) ht h1 h2 (fun _ h => h)

set_option maxRecDepth 20000 in
set_option maxHeartbeats 4000000 in
theorem ct_X11_divides {l : Launch} {G : Gm} {M : Mem} {f r s o : Nat} (hf : f < 12) (hr2 : r < 48) (hs2 : s < 48) (ho : o ≤ 1) (hd : gN M 40 0 11 ≤ 12) (hA : allR M) (ht : gN M 40 0 31 ≤ 30) (h1 : gN M 40 0 29 ≤ gN M 40 0 23) (h2 : gN M 40 0 23 ≤ 200)  : Ct l G rM yX11_divides (.code yX11_divides cX11_divides 7 none :: GW) rmX11_divides [.ref (ad G 40 0), .int (nI f), .int (nI r), .int (nI s), .int (nI o)] M (fun ra M' => none = ra ∧ RDiv M f r s o M') := by
  refine Ct_of (cc := cX11_divides) (by decide) [(0, _), (1, _), (2, _), (3, _), (4, _)] rfl (Nat.le_of_ble_eq_true rfl) (fun pp ee ss mm aa bb mt cd C E => ?_)
  refine V_aload_n C dX11_divides_0 rfl rfl ?_
  refine gf_X11_47 C dX11_divides_1 ?_
  try simp only [gNN, gNI, gNJ, gIN, gII, gIJ, gJN, gJI, gJJ, Nat.reduceEqDiff, false_and, and_false, true_and, and_true, if_false, if_true]
  refine V_iload_n C dX11_divides_4 rfl rfl ?_
  refine ld_53 C (by omega) dX11_divides_5 ?_
  try simp only [gNN, gNI, gNJ, gIN, gII, gIJ, gJN, gJI, gJJ, Nat.reduceEqDiff, false_and, and_false, true_and, and_true, if_false, if_true]
  refine V_lstore (lv' := [(5, _), (0, _), (1, _), (2, _), (3, _), (4, _)]) C dX11_divides_6 (by decide) rfl ?_
  refine V_lload C dX11_divides_8 rfl ?_
  refine V_lconst C (lN 0) dX11_divides_10 (by decide) ?_
  refine V_lcmp C dX11_divides_11 ?_
  refine V_ifL_ne (tgt := 23) C dX11_divides_12 (by decide) (fun h12 => ?_) (fun h12 => ?_)
  · skip
    refine V_aload_n C dX11_divides_23 rfl rfl ?_
    refine gf_X11_47 C dX11_divides_24 ?_
    try simp only [gNN, gNI, gNJ, gIN, gII, gIJ, gJN, gJI, gJJ, Nat.reduceEqDiff, false_and, and_false, true_and, and_true, if_false, if_true]
    refine V_iload_n C dX11_divides_27 rfl rfl ?_
    refine V_iload C dX11_divides_28 rfl ?_
    refine V_ifN_eq (tgt := 45) C dX11_divides_30 (by omega) (by decide) (fun h30 => ?_) (fun h30 => ?_)
    · skip
      refine V_aload_n C dX11_divides_45 rfl rfl ?_
      refine gf_X11_47 C dX11_divides_46 ?_
      try simp only [gNN, gNI, gNJ, gIN, gII, gIJ, gJN, gJI, gJJ, Nat.reduceEqDiff, false_and, and_false, true_and, and_true, if_false, if_true]
      refine V_iload_n C dX11_divides_49 rfl rfl ?_
      refine ld_53 C (by omega) dX11_divides_50 ?_
      try simp only [gNN, gNI, gNJ, gIN, gII, gIJ, gJN, gJI, gJJ, Nat.reduceEqDiff, false_and, and_false, true_and, and_true, if_false, if_true]
      refine V_lload C dX11_divides_51 rfl ?_
      refine V_lrem C dX11_divides_53 (fun q => h12 (by rw [q]; decide)) ?_
      refine st_53 C (by omega) dX11_divides_54 ?_
      refine V_aload_n C dX11_divides_55 rfl rfl ?_
      refine gf_X11_44 C dX11_divides_56 ?_
      try simp only [gNN, gNI, gNJ, gIN, gII, gIJ, gJN, gJI, gJJ, Nat.reduceEqDiff, false_and, and_false, true_and, and_true, if_false, if_true]
      refine V_iload_n C dX11_divides_59 rfl rfl ?_
      refine V_dup2 C dX11_divides_60 rfl rfl ?_
      refine ld_52 C (by omega) dX11_divides_61 ?_
      try simp only [gNN, gNI, gNJ, gIN, gII, gIJ, gJN, gJI, gJJ, Nat.reduceEqDiff, false_and, and_false, true_and, and_true, if_false, if_true]
      refine V_iconst C (nI 1) dX11_divides_62 (by decide) ?_
      refine V_iaddN C dX11_divides_63 ?_
      refine st_52 C (by omega) dX11_divides_64 ?_
      refine V_vret C E dX11_divides_65 ?_
      first | exact ⟨rfl, Or.inr ⟨h12, by rw [if_pos h30]⟩⟩ | exact ⟨rfl, Or.inr ⟨h12, by rw [if_neg h30]⟩⟩
    · skip
      refine V_aload_n C dX11_divides_33 rfl rfl ?_
      refine gf_X11_47 C dX11_divides_34 ?_
      try simp only [gNN, gNI, gNJ, gIN, gII, gIJ, gJN, gJI, gJJ, Nat.reduceEqDiff, false_and, and_false, true_and, and_true, if_false, if_true]
      refine V_iload_n C dX11_divides_37 rfl rfl ?_
      refine ld_53 C (by omega) dX11_divides_38 ?_
      try simp only [gNN, gNI, gNJ, gIN, gII, gIJ, gJN, gJI, gJJ, Nat.reduceEqDiff, false_and, and_false, true_and, and_true, if_false, if_true]
      refine V_lload C dX11_divides_39 rfl ?_
      refine V_ldiv C dX11_divides_41 (fun q => h12 (by rw [q]; decide)) ?_
      refine V_goto (tgt := 54) C dX11_divides_42 (by decide) ?_
      refine st_53 C (by omega) dX11_divides_54 ?_
      refine V_aload_n C dX11_divides_55 rfl rfl ?_
      refine gf_X11_44 C dX11_divides_56 ?_
      try simp only [gNN, gNI, gNJ, gIN, gII, gIJ, gJN, gJI, gJJ, Nat.reduceEqDiff, false_and, and_false, true_and, and_true, if_false, if_true]
      refine V_iload_n C dX11_divides_59 rfl rfl ?_
      refine V_dup2 C dX11_divides_60 rfl rfl ?_
      refine ld_52 C (by omega) dX11_divides_61 ?_
      try simp only [gNN, gNI, gNJ, gIN, gII, gIJ, gJN, gJI, gJJ, Nat.reduceEqDiff, false_and, and_false, true_and, and_true, if_false, if_true]
      refine V_iconst C (nI 1) dX11_divides_62 (by decide) ?_
      refine V_iaddN C dX11_divides_63 ?_
      refine st_52 C (by omega) dX11_divides_64 ?_
      refine V_vret C E dX11_divides_65 ?_
      first | exact ⟨rfl, Or.inr ⟨h12, by rw [if_pos h30]⟩⟩ | exact ⟨rfl, Or.inr ⟨h12, by rw [if_neg h30]⟩⟩
  · skip
    refine V_aload_n C dX11_divides_15 rfl rfl ?_
    refine V_bipush C (nI 6) dX11_divides_16 (by decide) ?_
    refine V_iconst C (nI 0) dX11_divides_18 (by decide) ?_
    refine V_callV C [_, _] (ct_X11_fails hd hA ht h1 h2) cv_X11_fails lk_X11_223 in_40 rfl rfl ⟨Nat.le_of_ble_eq_true rfl, Nat.le_of_ble_eq_true rfl⟩ rfl rfl (Nat.le_of_ble_eq_true rfl) dX11_divides_19 (fun r M' hr => ?_)
    obtain ⟨rfl, hFl⟩ := hr
    try simp only [gNN, gNI, gNJ, gIN, gII, gIJ, gJN, gJI, gJJ, Nat.reduceEqDiff, false_and, and_false, true_and, and_true, if_false, if_true]
    refine V_vret C E dX11_divides_22 ?_
    exact ⟨rfl, Or.inl ⟨h12, hFl⟩⟩

set_option maxRecDepth 20000 in
set_option maxHeartbeats 4000000 in
theorem ct_X11_jumps {l : Launch} {G : Gm} {M : Mem} {f t : Nat} (hf : f < 12) (ht4 : t ≤ 40) (hm6 : gN M 51 0 f < 6) (hm : RIm M (gN M 51 0 f)) (hpl : gN M 52 0 f ≤ 40) (h1 : gN M 40 0 29 ≤ gN M 40 0 23) (h2 : gN M 40 0 23 ≤ 200)  : Ct l G rM yX11_jumps (.code yX11_jumps cX11_jumps 3 none :: GW) rmX11_jumps [.ref (ad G 40 0), .int (nI f), .int (nI t)] M (fun r M' => none = r ∧ RJmp M f t M') := by
  have hs := hm.1
  refine Ct_of (cc := cX11_jumps) (by decide) [(0, _), (1, _), (2, _)] rfl (Nat.le_of_ble_eq_true rfl) (fun pp ee ss mm aa bb mt cd C E => ?_)
  refine V_iload_n C dX11_jumps_0 rfl rfl ?_
  refine V_aload_n C dX11_jumps_1 rfl rfl ?_
  refine gf_X11_44 C dX11_jumps_2 ?_
  try simp only [gNN, gNI, gNJ, gIN, gII, gIJ, gJN, gJI, gJJ, Nat.reduceEqDiff, false_and, and_false, true_and, and_true, if_false, if_true]
  refine V_iload_n C dX11_jumps_5 rfl rfl ?_
  refine ld_52 C (by omega) dX11_jumps_6 ?_
  try simp only [gNN, gNI, gNJ, gIN, gII, gIJ, gJN, gJI, gJJ, Nat.reduceEqDiff, false_and, and_false, true_and, and_true, if_false, if_true]
  refine V_icmpN_gt (tgt := 19) C dX11_jumps_7 (by omega) (by omega) (by decide) (fun h7 => ?_) (fun h7 => ?_)
  · skip
    first | rw [if_pos h15] | skip
    refine V_aload_n C dX11_jumps_19 rfl rfl ?_
    refine gf_X11_44 C dX11_jumps_20 ?_
    try simp only [gNN, gNI, gNJ, gIN, gII, gIJ, gJN, gJI, gJJ, Nat.reduceEqDiff, false_and, and_false, true_and, and_true, if_false, if_true]
    refine V_iload_n C dX11_jumps_23 rfl rfl ?_
    refine V_iload_n C dX11_jumps_24 rfl rfl ?_
    refine V_aload_n C dX11_jumps_25 rfl rfl ?_
    refine gf_X11_7 C dX11_jumps_26 ?_
    try simp only [gNN, gNI, gNJ, gIN, gII, gIJ, gJN, gJI, gJJ, Nat.reduceEqDiff, false_and, and_false, true_and, and_true, if_false, if_true]
    refine V_aload_n C dX11_jumps_29 rfl rfl ?_
    refine gf_X11_41 C dX11_jumps_30 ?_
    try simp only [gNN, gNI, gNJ, gIN, gII, gIJ, gJN, gJI, gJJ, Nat.reduceEqDiff, false_and, and_false, true_and, and_true, if_false, if_true]
    refine V_iload_n C dX11_jumps_33 rfl rfl ?_
    refine ld_51 C (by omega) dX11_jumps_34 ?_
    try simp only [gNN, gNI, gNJ, gIN, gII, gIJ, gJN, gJI, gJJ, Nat.reduceEqDiff, false_and, and_false, true_and, and_true, if_false, if_true]
    refine ld_41 C (by omega) dX11_jumps_35 ?_
    try simp only [gNN, gNI, gNJ, gIN, gII, gIJ, gJN, gJI, gJJ, Nat.reduceEqDiff, false_and, and_false, true_and, and_true, if_false, if_true]
    refine V_callS C [_, _] (ct_X11_lesser (by omega) (by omega)) cs_X11_lesser rfl lk_X11_116 ⟨Nat.le_of_ble_eq_true rfl, Nat.le_of_ble_eq_true rfl⟩ rfl rfl (Nat.le_of_ble_eq_true rfl) dX11_jumps_36 (fun r M' hr => ?_)
    obtain ⟨rfl, rfl⟩ := hr
    try simp only [gNN, gNI, gNJ, gIN, gII, gIJ, gJN, gJI, gJJ, Nat.reduceEqDiff, false_and, and_false, true_and, and_true, if_false, if_true]
    refine st_52 C (by omega) dX11_jumps_39 ?_
    refine V_vret C E dX11_jumps_40 ?_
    first | exact ⟨rfl, Or.inr (Or.inr ⟨by omega, rfl⟩)⟩ | exact ⟨rfl, Or.inr (Or.inl ⟨by omega, h15, rfl⟩)⟩
  · skip
    refine V_aload_n C dX11_jumps_10 rfl rfl ?_
    refine V_lconst C (lN 1) dX11_jumps_11 (by decide) ?_
    refine V_callV C [_] (ct_X11_counts h1 h2 (by omega)) cv_X11_counts lk_X11_150 in_40 rfl rfl ⟨Nat.le_of_ble_eq_true rfl, Nat.le_of_ble_eq_true rfl⟩ rfl rfl (Nat.le_of_ble_eq_true rfl) dX11_jumps_12 (fun r M' hr => ?_)
    obtain ⟨rfl, rfl⟩ := hr
    try simp only [gNN, gNI, gNJ, gIN, gII, gIJ, gJN, gJI, gJJ, Nat.reduceEqDiff, false_and, and_false, true_and, and_true, if_false, if_true]
    refine V_ifB_ne (tgt := 19) C dX11_jumps_15 (by decide) (fun h15 => ?_) (fun h15 => ?_)
    · skip
      first | rw [if_pos h15] | skip
      refine V_aload_n C dX11_jumps_19 rfl rfl ?_
      refine gf_X11_44 C dX11_jumps_20 ?_
      try simp only [gNN, gNI, gNJ, gIN, gII, gIJ, gJN, gJI, gJJ, Nat.reduceEqDiff, false_and, and_false, true_and, and_true, if_false, if_true]
      refine V_iload_n C dX11_jumps_23 rfl rfl ?_
      refine V_iload_n C dX11_jumps_24 rfl rfl ?_
      refine V_aload_n C dX11_jumps_25 rfl rfl ?_
      refine gf_X11_7 C dX11_jumps_26 ?_
      try simp only [gNN, gNI, gNJ, gIN, gII, gIJ, gJN, gJI, gJJ, Nat.reduceEqDiff, false_and, and_false, true_and, and_true, if_false, if_true]
      refine V_aload_n C dX11_jumps_29 rfl rfl ?_
      refine gf_X11_41 C dX11_jumps_30 ?_
      try simp only [gNN, gNI, gNJ, gIN, gII, gIJ, gJN, gJI, gJJ, Nat.reduceEqDiff, false_and, and_false, true_and, and_true, if_false, if_true]
      refine V_iload_n C dX11_jumps_33 rfl rfl ?_
      refine ld_51 C (by omega) dX11_jumps_34 ?_
      try simp only [gNN, gNI, gNJ, gIN, gII, gIJ, gJN, gJI, gJJ, Nat.reduceEqDiff, false_and, and_false, true_and, and_true, if_false, if_true]
      refine ld_41 C (by omega) dX11_jumps_35 ?_
      try simp only [gNN, gNI, gNJ, gIN, gII, gIJ, gJN, gJI, gJJ, Nat.reduceEqDiff, false_and, and_false, true_and, and_true, if_false, if_true]
      refine V_callS C [_, _] (ct_X11_lesser (by omega) (by omega)) cs_X11_lesser rfl lk_X11_116 ⟨Nat.le_of_ble_eq_true rfl, Nat.le_of_ble_eq_true rfl⟩ rfl rfl (Nat.le_of_ble_eq_true rfl) dX11_jumps_36 (fun r M' hr => ?_)
      obtain ⟨rfl, rfl⟩ := hr
      try simp only [gNN, gNI, gNJ, gIN, gII, gIJ, gJN, gJI, gJJ, Nat.reduceEqDiff, false_and, and_false, true_and, and_true, if_false, if_true]
      refine st_52 C (by omega) dX11_jumps_39 ?_
      refine V_vret C E dX11_jumps_40 ?_
      first | exact ⟨rfl, Or.inr (Or.inr ⟨by omega, rfl⟩)⟩ | exact ⟨rfl, Or.inr (Or.inl ⟨by omega, h15, rfl⟩)⟩
    · skip
      rw [if_neg h15]
      refine V_vret C E dX11_jumps_18 ?_
      exact ⟨rfl, Or.inl ⟨by omega, h15, rfl⟩⟩

set_option maxRecDepth 20000 in
set_option maxHeartbeats 4000000 in
theorem ct_X11_guards1 {l : Launch} {G : Gm} {M : Mem} {f g : Nat} (hf : f < 12) (hg : g < 36) : Ct l G rM yX11_guards (.code yX11_guards cX11_guards 4 none :: GW) rmX11_guards [.ref (ad G 40 0), .int (nI f), .int (nI g), .int (nI 1)] M (fun r M' => none = r ∧ rHold M f g = M') := by
  refine Ct_of (cc := cX11_guards) (by decide) [(0, _), (1, _), (2, _), (3, _)] rfl (Nat.le_of_ble_eq_true rfl) (fun pp ee ss mm aa bb mt cd C E => ?_)
  refine V_iload_n C dX11_guards_0 rfl rfl ?_
  refine V_ifN_ne (tgt := 21) C dX11_guards_1 (by omega) (by decide) (fun h1 => ?_) (fun h1 => ?_)
  · skip
    refine V_aload_n C dX11_guards_21 rfl rfl ?_
    refine gf_X11_65 C dX11_guards_22 ?_
    try simp only [gNN, gNI, gNJ, gIN, gII, gIJ, gJN, gJI, gJJ, Nat.reduceEqDiff, false_and, and_false, true_and, and_true, if_false, if_true]
    refine V_iload_n C dX11_guards_25 rfl rfl ?_
    refine V_dup2 C dX11_guards_26 rfl rfl ?_
    refine ld_59 C (by omega) dX11_guards_27 ?_
    try simp only [gNN, gNI, gNJ, gIN, gII, gIJ, gJN, gJI, gJJ, Nat.reduceEqDiff, false_and, and_false, true_and, and_true, if_false, if_true]
    refine V_iload_n C dX11_guards_28 rfl rfl ?_
    refine V_ifN_eq (tgt := 36) C dX11_guards_29 (by omega) (by decide) (fun h29 => ?_) (fun h29 => ?_)
    · skip
      exfalso; omega
    · skip
      refine V_iconst C (nI 1) dX11_guards_32 (by decide) ?_
      refine V_goto (tgt := 37) C dX11_guards_33 (by decide) ?_
      refine V_iaddN C dX11_guards_37 ?_
      refine st_59 C (by omega) dX11_guards_38 ?_
      refine V_aload_n C dX11_guards_39 rfl rfl ?_
      refine V_dup C dX11_guards_40 rfl ?_
      refine gf_X11_157 C dX11_guards_41 ?_
      try simp only [gNN, gNI, gNJ, gIN, gII, gIJ, gJN, gJI, gJJ, Nat.reduceEqDiff, false_and, and_false, true_and, and_true, if_false, if_true]
      refine V_iload_n C dX11_guards_44 rfl rfl ?_
      refine V_ifN_eq (tgt := 52) C dX11_guards_45 (by omega) (by decide) (fun h45 => ?_) (fun h45 => ?_)
      · skip
        exfalso; omega
      · skip
        refine V_iconst C (nI 1) dX11_guards_48 (by decide) ?_
        refine V_goto (tgt := 53) C dX11_guards_49 (by decide) ?_
        refine V_iadd C dX11_guards_53 ?_
        refine pf_X11_157 C dX11_guards_54 ?_
        refine V_aload_n C dX11_guards_57 rfl rfl ?_
        refine V_aload_n C dX11_guards_58 rfl rfl ?_
        refine gf_X11_157 C dX11_guards_59 ?_
        try simp only [gNN, gNI, gNJ, gIN, gII, gIJ, gJN, gJI, gJJ, Nat.reduceEqDiff, false_and, and_false, true_and, and_true, if_false, if_true]
        refine V_aload_n C dX11_guards_62 rfl rfl ?_
        refine gf_X11_191 C dX11_guards_63 ?_
        try simp only [gNN, gNI, gNJ, gIN, gII, gIJ, gJN, gJI, gJJ, Nat.reduceEqDiff, false_and, and_false, true_and, and_true, if_false, if_true]
        refine V_icmp_le (tgt := 76) C dX11_guards_66 (by decide) (fun h66 => ?_) (fun h66 => ?_)
        · skip
          refine V_aload_n C dX11_guards_76 rfl rfl ?_
          refine gf_X11_191 C dX11_guards_77 ?_
          try simp only [gNN, gNI, gNJ, gIN, gII, gIJ, gJN, gJI, gJJ, Nat.reduceEqDiff, false_and, and_false, true_and, and_true, if_false, if_true]
          refine pf_X11_191 C dX11_guards_80 ?_
          refine V_aload_n C dX11_guards_83 rfl rfl ?_
          refine gf_X11_44 C dX11_guards_84 ?_
          try simp only [gNN, gNI, gNJ, gIN, gII, gIJ, gJN, gJI, gJJ, Nat.reduceEqDiff, false_and, and_false, true_and, and_true, if_false, if_true]
          refine V_iload_n C dX11_guards_87 rfl rfl ?_
          refine V_dup2 C dX11_guards_88 rfl rfl ?_
          refine ld_52 C (by omega) dX11_guards_89 ?_
          try simp only [gNN, gNI, gNJ, gIN, gII, gIJ, gJN, gJI, gJJ, Nat.reduceEqDiff, false_and, and_false, true_and, and_true, if_false, if_true]
          refine V_iconst C (nI 1) dX11_guards_90 (by decide) ?_
          refine V_iaddN C dX11_guards_91 ?_
          refine st_52 C (by omega) dX11_guards_92 ?_
          refine V_vret C E dX11_guards_93 ?_
          first | (refine ⟨rfl, ?_⟩; unfold rHold; first | rw [if_pos (Int32.not_le.mp h66)] | rw [if_neg (Int32.not_lt.mpr h66)]) | (exfalso; omega)
        · skip
          refine V_aload_n C dX11_guards_69 rfl rfl ?_
          refine gf_X11_157 C dX11_guards_70 ?_
          try simp only [gNN, gNI, gNJ, gIN, gII, gIJ, gJN, gJI, gJJ, Nat.reduceEqDiff, false_and, and_false, true_and, and_true, if_false, if_true]
          refine V_goto (tgt := 80) C dX11_guards_73 (by decide) ?_
          refine pf_X11_191 C dX11_guards_80 ?_
          refine V_aload_n C dX11_guards_83 rfl rfl ?_
          refine gf_X11_44 C dX11_guards_84 ?_
          try simp only [gNN, gNI, gNJ, gIN, gII, gIJ, gJN, gJI, gJJ, Nat.reduceEqDiff, false_and, and_false, true_and, and_true, if_false, if_true]
          refine V_iload_n C dX11_guards_87 rfl rfl ?_
          refine V_dup2 C dX11_guards_88 rfl rfl ?_
          refine ld_52 C (by omega) dX11_guards_89 ?_
          try simp only [gNN, gNI, gNJ, gIN, gII, gIJ, gJN, gJI, gJJ, Nat.reduceEqDiff, false_and, and_false, true_and, and_true, if_false, if_true]
          refine V_iconst C (nI 1) dX11_guards_90 (by decide) ?_
          refine V_iaddN C dX11_guards_91 ?_
          refine st_52 C (by omega) dX11_guards_92 ?_
          refine V_vret C E dX11_guards_93 ?_
          first | (refine ⟨rfl, ?_⟩; unfold rHold; first | rw [if_pos (Int32.not_le.mp h66)] | rw [if_neg (Int32.not_lt.mpr h66)]) | (exfalso; omega)
  · skip
    exfalso; omega

set_option maxRecDepth 20000 in
set_option maxHeartbeats 4000000 in
theorem ct_X11_guards0 {l : Launch} {G : Gm} {M : Mem} {f g : Nat} (hf : f < 12) (hg : g < 36) (hh : gN M 59 0 g ≤ 2000) (hd : gN M 40 0 11 ≤ 12) (hA : allR M) (ht : gN M 40 0 31 ≤ 30) (h1 : gN M 40 0 29 ≤ gN M 40 0 23) (h2 : gN M 40 0 23 ≤ 200)  : Ct l G rM yX11_guards (.code yX11_guards cX11_guards 4 none :: GW) rmX11_guards [.ref (ad G 40 0), .int (nI f), .int (nI g), .int (nI 0)] M (fun r M' => none = r ∧ ((gN M 59 0 g = 0 ∧ RFAIL M 7 (nI 0) M') ∨ (¬ gN M 59 0 g = 0 ∧ rLet M f g = M'))) := by
  refine Ct_of (cc := cX11_guards) (by decide) [(0, _), (1, _), (2, _), (3, _)] rfl (Nat.le_of_ble_eq_true rfl) (fun pp ee ss mm aa bb mt cd C E => ?_)
  have b1 := h1
  have b2 := h2
  refine V_iload_n C dX11_guards_0 rfl rfl ?_
  refine V_ifN_ne (tgt := 21) C dX11_guards_1 (by omega) (by decide) (fun h1 => ?_) (fun h1 => ?_)
  · skip
    exact absurd rfl h1
  · skip
    refine V_aload_n C dX11_guards_4 rfl rfl ?_
    refine gf_X11_65 C dX11_guards_5 ?_
    try simp only [gNN, gNI, gNJ, gIN, gII, gIJ, gJN, gJI, gJJ, Nat.reduceEqDiff, false_and, and_false, true_and, and_true, if_false, if_true]
    refine V_iload_n C dX11_guards_8 rfl rfl ?_
    refine ld_59 C (by omega) dX11_guards_9 ?_
    try simp only [gNN, gNI, gNJ, gIN, gII, gIJ, gJN, gJI, gJJ, Nat.reduceEqDiff, false_and, and_false, true_and, and_true, if_false, if_true]
    refine V_ifN_ne (tgt := 21) C dX11_guards_10 (by omega) (by decide) (fun h10 => ?_) (fun h10 => ?_)
    · skip
      refine V_aload_n C dX11_guards_21 rfl rfl ?_
      refine gf_X11_65 C dX11_guards_22 ?_
      try simp only [gNN, gNI, gNJ, gIN, gII, gIJ, gJN, gJI, gJJ, Nat.reduceEqDiff, false_and, and_false, true_and, and_true, if_false, if_true]
      refine V_iload_n C dX11_guards_25 rfl rfl ?_
      refine V_dup2 C dX11_guards_26 rfl rfl ?_
      refine ld_59 C (by omega) dX11_guards_27 ?_
      try simp only [gNN, gNI, gNJ, gIN, gII, gIJ, gJN, gJI, gJJ, Nat.reduceEqDiff, false_and, and_false, true_and, and_true, if_false, if_true]
      refine V_iload_n C dX11_guards_28 rfl rfl ?_
      refine V_ifN_eq (tgt := 36) C dX11_guards_29 (by omega) (by decide) (fun h29 => ?_) (fun h29 => ?_)
      · skip
        refine V_iconst C (-1) dX11_guards_36 (by decide) ?_
        refine V_iadd C dX11_guards_37 ?_
        rw [sb_m1 (by omega)]
        refine st_59 C (by omega) dX11_guards_38 ?_
        refine V_aload_n C dX11_guards_39 rfl rfl ?_
        refine V_dup C dX11_guards_40 rfl ?_
        refine gf_X11_157 C dX11_guards_41 ?_
        try simp only [gNN, gNI, gNJ, gIN, gII, gIJ, gJN, gJI, gJJ, Nat.reduceEqDiff, false_and, and_false, true_and, and_true, if_false, if_true]
        refine V_iload_n C dX11_guards_44 rfl rfl ?_
        refine V_ifN_eq (tgt := 52) C dX11_guards_45 (by omega) (by decide) (fun h45 => ?_) (fun h45 => ?_)
        · skip
          refine V_iconst C (-1) dX11_guards_52 (by decide) ?_
          refine V_iadd C dX11_guards_53 ?_
          refine pf_X11_157 C dX11_guards_54 ?_
          refine V_aload_n C dX11_guards_57 rfl rfl ?_
          refine V_aload_n C dX11_guards_58 rfl rfl ?_
          refine gf_X11_157 C dX11_guards_59 ?_
          try simp only [gNN, gNI, gNJ, gIN, gII, gIJ, gJN, gJI, gJJ, Nat.reduceEqDiff, false_and, and_false, true_and, and_true, if_false, if_true]
          refine V_aload_n C dX11_guards_62 rfl rfl ?_
          refine gf_X11_191 C dX11_guards_63 ?_
          try simp only [gNN, gNI, gNJ, gIN, gII, gIJ, gJN, gJI, gJJ, Nat.reduceEqDiff, false_and, and_false, true_and, and_true, if_false, if_true]
          refine V_icmp_le (tgt := 76) C dX11_guards_66 (by decide) (fun h66 => ?_) (fun h66 => ?_)
          · skip
            refine V_aload_n C dX11_guards_76 rfl rfl ?_
            refine gf_X11_191 C dX11_guards_77 ?_
            try simp only [gNN, gNI, gNJ, gIN, gII, gIJ, gJN, gJI, gJJ, Nat.reduceEqDiff, false_and, and_false, true_and, and_true, if_false, if_true]
            refine pf_X11_191 C dX11_guards_80 ?_
            refine V_aload_n C dX11_guards_83 rfl rfl ?_
            refine gf_X11_44 C dX11_guards_84 ?_
            try simp only [gNN, gNI, gNJ, gIN, gII, gIJ, gJN, gJI, gJJ, Nat.reduceEqDiff, false_and, and_false, true_and, and_true, if_false, if_true]
            refine V_iload_n C dX11_guards_87 rfl rfl ?_
            refine V_dup2 C dX11_guards_88 rfl rfl ?_
            refine ld_52 C (by omega) dX11_guards_89 ?_
            try simp only [gNN, gNI, gNJ, gIN, gII, gIJ, gJN, gJI, gJJ, Nat.reduceEqDiff, false_and, and_false, true_and, and_true, if_false, if_true]
            refine V_iconst C (nI 1) dX11_guards_90 (by decide) ?_
            refine V_iaddN C dX11_guards_91 ?_
            refine st_52 C (by omega) dX11_guards_92 ?_
            refine V_vret C E dX11_guards_93 ?_
            exact ⟨rfl, Or.inr ⟨h10, by unfold rLet; first | rw [if_pos (Int32.not_le.mp h66)] | rw [if_neg (Int32.not_lt.mpr h66)]⟩⟩
          · skip
            refine V_aload_n C dX11_guards_69 rfl rfl ?_
            refine gf_X11_157 C dX11_guards_70 ?_
            try simp only [gNN, gNI, gNJ, gIN, gII, gIJ, gJN, gJI, gJJ, Nat.reduceEqDiff, false_and, and_false, true_and, and_true, if_false, if_true]
            refine V_goto (tgt := 80) C dX11_guards_73 (by decide) ?_
            refine pf_X11_191 C dX11_guards_80 ?_
            refine V_aload_n C dX11_guards_83 rfl rfl ?_
            refine gf_X11_44 C dX11_guards_84 ?_
            try simp only [gNN, gNI, gNJ, gIN, gII, gIJ, gJN, gJI, gJJ, Nat.reduceEqDiff, false_and, and_false, true_and, and_true, if_false, if_true]
            refine V_iload_n C dX11_guards_87 rfl rfl ?_
            refine V_dup2 C dX11_guards_88 rfl rfl ?_
            refine ld_52 C (by omega) dX11_guards_89 ?_
            try simp only [gNN, gNI, gNJ, gIN, gII, gIJ, gJN, gJI, gJJ, Nat.reduceEqDiff, false_and, and_false, true_and, and_true, if_false, if_true]
            refine V_iconst C (nI 1) dX11_guards_90 (by decide) ?_
            refine V_iaddN C dX11_guards_91 ?_
            refine st_52 C (by omega) dX11_guards_92 ?_
            refine V_vret C E dX11_guards_93 ?_
            exact ⟨rfl, Or.inr ⟨h10, by unfold rLet; first | rw [if_pos (Int32.not_le.mp h66)] | rw [if_neg (Int32.not_lt.mpr h66)]⟩⟩
        · skip
          exfalso; omega
      · skip
        exfalso; omega
    · skip
      refine V_aload_n C dX11_guards_13 rfl rfl ?_
      refine V_bipush C (nI 7) dX11_guards_14 (by decide) ?_
      refine V_iconst C (nI 0) dX11_guards_16 (by decide) ?_
      refine V_callV C [_, _] (ct_X11_fails hd hA ht b1 b2) cv_X11_fails lk_X11_223 in_40 rfl rfl ⟨Nat.le_of_ble_eq_true rfl, Nat.le_of_ble_eq_true rfl⟩ rfl rfl (Nat.le_of_ble_eq_true rfl) dX11_guards_17 (fun r M' hr => ?_)
      obtain ⟨rfl, hFl⟩ := hr
      try simp only [gNN, gNI, gNJ, gIN, gII, gIJ, gJN, gJI, gJJ, Nat.reduceEqDiff, false_and, and_false, true_and, and_true, if_false, if_true]
      refine V_vret C E dX11_guards_20 ?_
      exact ⟨rfl, Or.inl ⟨h10, hFl⟩⟩

set_option maxRecDepth 20000 in
set_option maxHeartbeats 4000000 in
theorem ct_X11_cast {l : Launch} {G : Gm} {M : Mem} {n : Nat} {v : Int64} (hn : n ≤ 6) : Ct l G rM yX11_cast (.code yX11_cast cX11_cast 3 (some .long) :: GW) rmX11_cast [.long v, .int (nI n)] M (fun r M' => some (.long (fitt (nI n) v)) = r ∧ M = M') := by
  refine Ct_of (cc := cX11_cast) (by decide) [(0, _), (2, _)] rfl (Nat.le_of_ble_eq_true rfl) (fun pp ee ss mm aa bb mt cd C E => ?_)
  refine V_iload_n C dX11_cast_0 rfl rfl ?_
  by_cases h1_0 : n = 0
  · refine V_tabIn (tgt := 44) C dX11_cast_1 (0) (by rw [h1_0]; decide) (by decide) (by decide) rfl (by decide) ?_
    subst h1_0
    refine V_lload_n C dX11_cast_44 rfl rfl ?_
    refine V_l2i C dX11_cast_45 ?_
    refine V_i2b C dX11_cast_46 ?_
    refine V_i2l C dX11_cast_47 ?_
    refine V_lret C E dX11_cast_48 ?_
    exact ⟨rfl, rfl⟩
  by_cases h1_1 : n = 1
  · refine V_tabIn (tgt := 49) C dX11_cast_1 (1) (by rw [h1_1]; decide) (by decide) (by decide) rfl (by decide) ?_
    subst h1_1
    refine V_lload_n C dX11_cast_49 rfl rfl ?_
    refine V_l2i C dX11_cast_50 ?_
    refine V_i2s C dX11_cast_51 ?_
    refine V_i2l C dX11_cast_52 ?_
    refine V_lret C E dX11_cast_53 ?_
    exact ⟨rfl, rfl⟩
  by_cases h1_2 : n = 2
  · refine V_tabIn (tgt := 54) C dX11_cast_1 (2) (by rw [h1_2]; decide) (by decide) (by decide) rfl (by decide) ?_
    subst h1_2
    refine V_lload_n C dX11_cast_54 rfl rfl ?_
    refine V_l2i C dX11_cast_55 ?_
    refine V_i2l C dX11_cast_56 ?_
    refine V_lret C E dX11_cast_57 ?_
    exact ⟨rfl, rfl⟩
  by_cases h1_3 : n = 3
  · refine V_tabIn (tgt := 68) C dX11_cast_1 (3) (by rw [h1_3]; decide) (by decide) (by decide) rfl (by decide) ?_
    subst h1_3
    refine V_lload_n C dX11_cast_68 rfl rfl ?_
    refine V_lret C E dX11_cast_69 ?_
    exact ⟨rfl, rfl⟩
  by_cases h1_4 : n = 4
  · refine V_tabIn (tgt := 58) C dX11_cast_1 (4) (by rw [h1_4]; decide) (by decide) (by decide) rfl (by decide) ?_
    subst h1_4
    refine V_lload_n C dX11_cast_58 rfl rfl ?_
    refine V_l2d C dX11_cast_59 ?_
    refine V_d2l C dX11_cast_60 ?_
    refine V_lret C E dX11_cast_61 ?_
    exact ⟨rfl, rfl⟩
  by_cases h1_5 : n = 5
  · refine V_tabIn (tgt := 62) C dX11_cast_1 (5) (by rw [h1_5]; decide) (by decide) (by decide) rfl (by decide) ?_
    subst h1_5
    refine V_lload_n C dX11_cast_62 rfl rfl ?_
    refine V_ldc2 C kL_X11_234 dX11_cast_63 ?_
    refine V_land C dX11_cast_66 ?_
    refine V_lret C E dX11_cast_67 ?_
    exact ⟨rfl, rfl⟩
  by_cases h1_6 : n = 6
  · refine V_tabIn (tgt := 62) C dX11_cast_1 (6) (by rw [h1_6]; decide) (by decide) (by decide) rfl (by decide) ?_
    subst h1_6
    refine V_lload_n C dX11_cast_62 rfl rfl ?_
    refine V_ldc2 C kL_X11_234 dX11_cast_63 ?_
    refine V_land C dX11_cast_66 ?_
    refine V_lret C E dX11_cast_67 ?_
    exact ⟨rfl, rfl⟩
  exfalso; omega

set_option maxRecDepth 20000 in
set_option maxHeartbeats 4000000 in
theorem ct_X11_makes {l : Launch} {G : Gm} {M : Mem} {f : Nat} {a : Int64} {x : Int32} (hf : f < 12) (hz : a.toInt ≤ 200 ∧ gN M 40 0 22 + a.toInt.toNat ≤ 256) (hd : gN M 40 0 11 ≤ 12) (hA : allR M) (ht : gN M 40 0 31 ≤ 30) (h1 : gN M 40 0 29 ≤ gN M 40 0 23) (h2 : gN M 40 0 23 ≤ 200)  : Ct l G rM yX11_makes (.code yX11_makes cX11_makes 6 none :: GW) rmX11_makes [.ref (ad G 40 0), .int (nI f), .long a, .int x] M (fun r M' => none = r ∧ RMake M f a x M') := by
  refine Ct_of (cc := cX11_makes) (by decide) [(0, _), (1, _), (2, _), (4, _)] rfl (Nat.le_of_ble_eq_true rfl) (fun pp ee ss mm aa bb mt cd C E => ?_)
  refine V_lload_n C dX11_makes_0 rfl rfl ?_
  refine V_lconst C (lN 0) dX11_makes_1 (by decide) ?_
  refine V_lcmp C dX11_makes_2 ?_
  refine V_ifL_ge (tgt := 13) C dX11_makes_3 (by decide) (fun h3 => ?_) (fun h3 => ?_)
  · skip
    rw [Int64.le_iff_toInt_le, lN_toInt (by decide)] at h3
    obtain ⟨n, hn, han⟩ := isL_of (n := 201) (x := a) ⟨by omega, by omega⟩ (by decide)
    have hzn : gN M 40 0 22 + n ≤ 256 := by have := hz.2; rw [han, lN_toInt (by omega)] at this; omega
    obtain ⟨bl, hbl⟩ : ∃ b : Int64, b = (if nI 4 < x then -1 else lN 0) := ⟨_, rfl⟩
    refine V_aload_n C dX11_makes_13 rfl rfl ?_
    refine V_dup C dX11_makes_14 rfl ?_
    refine gf_X11_188 C dX11_makes_15 ?_
    try simp only [gNN, gNI, gNJ, gIN, gII, gIJ, gJN, gJI, gJJ, Nat.reduceEqDiff, false_and, and_false, true_and, and_true, if_false, if_true]
    refine V_iconst C (nI 1) dX11_makes_18 (by decide) ?_
    refine V_iaddN C dX11_makes_19 ?_
    refine pf_X11_188 C dX11_makes_20 ?_
    refine V_aload_n C dX11_makes_23 rfl rfl ?_
    refine gf_X11_50 C dX11_makes_24 ?_
    try simp only [gNN, gNI, gNJ, gIN, gII, gIJ, gJN, gJI, gJJ, Nat.reduceEqDiff, false_and, and_false, true_and, and_true, if_false, if_true]
    refine V_iload_n C dX11_makes_27 rfl rfl ?_
    refine V_iload C dX11_makes_28 rfl ?_
    refine st_54 C (by omega) dX11_makes_30 ?_
    refine V_aload_n C dX11_makes_31 rfl rfl ?_
    refine gf_X11_53 C dX11_makes_32 ?_
    try simp only [gNN, gNI, gNJ, gIN, gII, gIJ, gJN, gJI, gJJ, Nat.reduceEqDiff, false_and, and_false, true_and, and_true, if_false, if_true]
    refine V_iload_n C dX11_makes_35 rfl rfl ?_
    refine V_aload_n C dX11_makes_36 rfl rfl ?_
    refine gf_X11_185 C dX11_makes_37 ?_
    try simp only [gNN, gNI, gNJ, gIN, gII, gIJ, gJN, gJI, gJJ, Nat.reduceEqDiff, false_and, and_false, true_and, and_true, if_false, if_true]
    refine st_55 C (by omega) dX11_makes_40 ?_
    refine V_aload_n C dX11_makes_41 rfl rfl ?_
    refine gf_X11_56 C dX11_makes_42 ?_
    try simp only [gNN, gNI, gNJ, gIN, gII, gIJ, gJN, gJI, gJJ, Nat.reduceEqDiff, false_and, and_false, true_and, and_true, if_false, if_true]
    refine V_iload_n C dX11_makes_45 rfl rfl ?_
    refine V_lload_n C dX11_makes_46 rfl rfl ?_
    refine V_l2iN C dX11_makes_47 han ?_
    refine st_56 C (by omega) dX11_makes_48 ?_
    refine V_iconst C (nI 0) dX11_makes_49 (by decide) ?_
    refine V_istore (lv' := [(5, _), (0, _), (1, _), (2, _), (4, _)]) C dX11_makes_50 (by decide) rfl ?_
    have LP52 : ∀ (fu : Nat) (j : Nat), n - j < fu → j ≤ n → V pp l ee rmX11_makes ss mm aa bb mt cd G rM 6 (MQ bb (QcG G rM (fun r M' => none = r ∧ RMake M f a x M') (AA G rM ss.heap.size)) aa ss 0 0 (AA G rM ss.heap.size)) (sN (fR (sN (sN (sI (sN M 40 0 32 (gN M 40 0 32 + 1)) 54 0 f x) 55 0 f (gN M 40 0 22)) 56 0 f n) (gN M 40 0 22) j bl) 40 0 22 (gN M 40 0 22 + j)) 52 [(5, .int (nI j)), (0, .ref (ad G 40 0)), (1, .int (nI f)), (2, .long a), (4, .int x)] [] := by
      intro fu
      induction fu with
      | zero => intros; omega
      | succ fu ih =>
        intro j hfu hle
        refine V_iload C dX11_makes_52 rfl ?_
        refine V_i2lN C dX11_makes_54 (by omega) ?_
        refine V_lload_n C dX11_makes_55 rfl rfl ?_
        refine V_lcmp C dX11_makes_56 ?_
        refine V_ifL_ge (tgt := 98) C dX11_makes_57 (by decide) (fun h57 => ?_) (fun h57 => ?_)
        · skip
          rw [han, pk_lLE (by omega) (by omega)] at h57
          refine V_aload_n C dX11_makes_98 rfl rfl ?_
          refine gf_X11_44 C dX11_makes_99 ?_
          try simp only [gNN, gNI, gNJ, gIN, gII, gIJ, gJN, gJI, gJJ, Nat.reduceEqDiff, false_and, and_false, true_and, and_true, if_false, if_true]
          refine V_iload_n C dX11_makes_102 rfl rfl ?_
          refine V_dup2 C dX11_makes_103 rfl rfl ?_
          refine ld_52 C (by omega) dX11_makes_104 ?_
          try simp only [gNN, gNI, gNJ, gIN, gII, gIJ, gJN, gJI, gJJ, Nat.reduceEqDiff, false_and, and_false, true_and, and_true, if_false, if_true]
          refine V_iconst C (nI 1) dX11_makes_105 (by decide) ?_
          refine V_iaddN C dX11_makes_106 ?_
          refine st_52 C (by omega) dX11_makes_107 ?_
          refine V_vret C E dX11_makes_108 ?_
          have hjn : j = n := by omega
          subst hjn
          exact ⟨rfl, Or.inr ⟨j, by omega, han, by unfold rMk; rw [← hbl]; rfl⟩⟩
        · skip
          rw [han, pk_lLE (by omega) (by omega)] at h57
          refine V_aload_n C dX11_makes_60 rfl rfl ?_
          refine gf_X11_68 C dX11_makes_61 ?_
          try simp only [gNN, gNI, gNJ, gIN, gII, gIJ, gJN, gJI, gJJ, Nat.reduceEqDiff, false_and, and_false, true_and, and_true, if_false, if_true]
          refine V_aload_n C dX11_makes_64 rfl rfl ?_
          refine gf_X11_185 C dX11_makes_65 ?_
          try simp only [gNN, gNI, gNJ, gIN, gII, gIJ, gJN, gJI, gJJ, Nat.reduceEqDiff, false_and, and_false, true_and, and_true, if_false, if_true]
          refine V_iload C dX11_makes_68 rfl ?_
          refine V_iconst C (nI 4) dX11_makes_70 (by decide) ?_
          refine V_icmp_le (tgt := 80) C dX11_makes_71 (by decide) (fun h71 => ?_) (fun h71 => ?_)
          · skip
            refine V_lconst C (lN 0) dX11_makes_80 (by decide) ?_
            first | rw [show (-1 : Int64) = bl by rw [hbl, if_pos (Int32.not_le.mp h71)]] | rw [show lN 0 = bl by rw [hbl, if_neg (Int32.not_lt.mpr h71)]]
            refine st_60 C (by omega) dX11_makes_81 ?_
            refine V_aload_n C dX11_makes_82 rfl rfl ?_
            refine V_dup C dX11_makes_83 rfl ?_
            refine gf_X11_185 C dX11_makes_84 ?_
            try simp only [gNN, gNI, gNJ, gIN, gII, gIJ, gJN, gJI, gJJ, Nat.reduceEqDiff, false_and, and_false, true_and, and_true, if_false, if_true]
            refine V_iconst C (nI 1) dX11_makes_87 (by decide) ?_
            refine V_iaddN C dX11_makes_88 ?_
            refine pf_X11_185 C dX11_makes_89 ?_
            refine V_iincN (lv' := [(5, _), (0, _), (1, _), (2, _), (4, _)]) C dX11_makes_92 rfl (b := 1) (by decide) (by decide) rfl ?_
            refine V_goto (tgt := 52) C dX11_makes_95 (by decide) ?_
            rw [fR_s]
            refine V_lv [0, 1, 2, 3, 4] rfl ?_
            exact ih _ (by omega) (by omega)
          · skip
            refine V_ldc2 C kL_X11_236 dX11_makes_74 ?_
            refine V_goto (tgt := 81) C dX11_makes_77 (by decide) ?_
            first | rw [show (-1 : Int64) = bl by rw [hbl, if_pos (Int32.not_le.mp h71)]] | rw [show lN 0 = bl by rw [hbl, if_neg (Int32.not_lt.mpr h71)]]
            refine st_60 C (by omega) dX11_makes_81 ?_
            refine V_aload_n C dX11_makes_82 rfl rfl ?_
            refine V_dup C dX11_makes_83 rfl ?_
            refine gf_X11_185 C dX11_makes_84 ?_
            try simp only [gNN, gNI, gNJ, gIN, gII, gIJ, gJN, gJI, gJJ, Nat.reduceEqDiff, false_and, and_false, true_and, and_true, if_false, if_true]
            refine V_iconst C (nI 1) dX11_makes_87 (by decide) ?_
            refine V_iaddN C dX11_makes_88 ?_
            refine pf_X11_185 C dX11_makes_89 ?_
            refine V_iincN (lv' := [(5, _), (0, _), (1, _), (2, _), (4, _)]) C dX11_makes_92 rfl (b := 1) (by decide) (by decide) rfl ?_
            refine V_goto (tgt := 52) C dX11_makes_95 (by decide) ?_
            rw [fR_s]
            refine V_lv [0, 1, 2, 3, 4] rfl ?_
            exact ih _ (by omega) (by omega)
    rw [show (sN (sN (sI (sN M 40 0 32 (gN M 40 0 32 + 1)) 54 0 f x) 55 0 f (gN M 40 0 22)) 56 0 f n) = sN (fR (sN (sN (sI (sN M 40 0 32 (gN M 40 0 32 + 1)) 54 0 f x) 55 0 f (gN M 40 0 22)) 56 0 f n) (gN M 40 0 22) 0 bl) 40 0 22 (gN M 40 0 22 + 0) by rw [fR_0]; exact (sN_self (M := (sN (sN (sI (sN M 40 0 32 (gN M 40 0 32 + 1)) 54 0 f x) 55 0 f (gN M 40 0 22)) 56 0 f n)) (k := 40) (i := 0) (j := 22)).symm]
    refine V_lv [0, 1, 2, 3, 4] rfl ?_
    exact LP52 _ 0 (Nat.lt_succ_self _) (Nat.zero_le _)
  · skip
    rw [Int64.le_iff_toInt_le, lN_toInt (by decide)] at h3
    refine V_aload_n C dX11_makes_6 rfl rfl ?_
    refine V_iconst C (nI 3) dX11_makes_7 (by decide) ?_
    refine V_iconst C (nI 0) dX11_makes_8 (by decide) ?_
    refine V_callV C [_, _] (ct_X11_fails hd hA ht h1 h2) cv_X11_fails lk_X11_223 in_40 rfl rfl ⟨Nat.le_of_ble_eq_true rfl, Nat.le_of_ble_eq_true rfl⟩ rfl rfl (Nat.le_of_ble_eq_true rfl) dX11_makes_9 (fun r M' hr => ?_)
    obtain ⟨rfl, hFl⟩ := hr
    try simp only [gNN, gNI, gNJ, gIN, gII, gIJ, gJN, gJI, gJJ, Nat.reduceEqDiff, false_and, and_false, true_and, and_true, if_false, if_true]
    refine V_vret C E dX11_makes_12 ?_
    exact ⟨rfl, Or.inl ⟨by omega, hFl⟩⟩

