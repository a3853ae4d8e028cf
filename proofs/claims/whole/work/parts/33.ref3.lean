def entR (X : Mem) (w j : Nat) : Int32 := if w = 0 then nI (gN X 61 0 j) else if w = 1 then nI (gN X 62 0 j) else gI X 63 0 j
def rstp (M : Mem) : Mem := sN M 40 0 24 1
def okC (M : Mem) (k : Nat) : Prop := gN M 40 0 29 + k ≤ gN M 40 0 23
def rPush (M : Mem) (c : Nat) (x : Int64) : Mem := sN (sN (sN (sI (sN (sI (sJ (sJ (sJ (sJ (sN (sN (sN (sN M 40 0 11 (gN M 40 0 11 + 1)) 40 0 30 (max (gN M 40 0 30) (gN M 40 0 11 + 1))) 51 0 (gN M 40 0 11) c) 52 0 (gN M 40 0 11) 0) 53 0 (4 * gN M 40 0 11) x) 53 0 (4 * gN M 40 0 11 + 1) (lN 0)) 53 0 (4 * gN M 40 0 11 + 2) (lN 0)) 53 0 (4 * gN M 40 0 11 + 3) (lN 0)) 54 0 (gN M 40 0 11) (-1)) 57 0 (gN M 40 0 11) 0) 58 0 (gN M 40 0 11) (nI 0)) 59 0 (3 * gN M 40 0 11) 0) 59 0 (3 * gN M 40 0 11 + 1) 0) 59 0 (3 * gN M 40 0 11 + 2) 0
def REnter (M : Mem) (c : Nat) (x : Int64) (M' : Mem) : Prop := ((¬ c < gN M 40 0 0 ∨ 70 < totR M c ∨ gN M 40 0 11 = 12) ∧ rstp M = M') ∨ (c < gN M 40 0 0 ∧ ¬ 70 < totR M c ∧ gN M 40 0 11 < 12 ∧ ((¬ okC M 1 ∧ rstp M = M') ∨ (okC M 1 ∧ rPush (sN M 40 0 29 (gN M 40 0 29 + 1)) c x = M')))
def rLeave (M : Mem) : Mem := sI (sI (sI (sN M 40 0 11 (gN M 40 0 11 - 1)) 40 0 33 (gI M 40 0 33 - nI (gN M 59 0 (3 * (gN M 40 0 11 - 1) + 0)))) 40 0 33 (gI M 40 0 33 - nI (gN M 59 0 (3 * (gN M 40 0 11 - 1) + 0)) - nI (gN M 59 0 (3 * (gN M 40 0 11 - 1) + 1)))) 40 0 33 (gI M 40 0 33 - nI (gN M 59 0 (3 * (gN M 40 0 11 - 1) + 0)) - nI (gN M 59 0 (3 * (gN M 40 0 11 - 1) + 1)) - nI (gN M 59 0 (3 * (gN M 40 0 11 - 1) + 2)))
def RGive (M : Mem) (v : Int64) (M' : Mem) : Prop := (gN M 40 0 11 = 1 ∧ sJ (sN (rLeave M) 40 0 25 1) 40 0 28 v = M') ∨ (∃ g, gN M 40 0 11 = g + 2 ∧ sN (sJ (rLeave M) 53 0 (4 * g + gN M 43 0 (40 * gN M 51 0 g + gN M 52 0 g)) v) 52 0 g (gN M 52 0 g + 1) = M')
def RTake (M : Mem) (f h : Nat) (M' : Mem) : Prop := (gN M 40 0 31 = 30 ∧ rstp M = M') ∨ (gN M 40 0 31 < 30 ∧ ((¬ okC M 1 ∧ rstp M = M') ∨ (okC M 1 ∧ sN (sI (sN (sI (sN (sN (sN M 40 0 29 (gN M 40 0 29 + 1)) 40 0 31 (gN M 40 0 31 + 1)) 57 0 f (gN M 40 0 26)) 58 0 f (gI M 40 0 27)) 40 0 26 0) 40 0 27 (nI 0)) 52 0 f (min (gN M 49 0 h) (gN M 41 0 (gN M 51 0 f))) = M')))
def selR (M : Mem) (c pl kd h : Nat) : Prop := gN M 47 0 (4 * c + h) ≤ pl ∧ pl < gN M 48 0 (4 * c + h) ∧ ((gI M 50 0 (4 * c + h) >>> (nI kd &&& 31)) &&& nI 1) = nI 1
def RFailP (k : Nat) : Nat → Mem → Mem → Prop
  | 0, M, M' => sN M 40 0 25 1 = M'
  | d + 1, M, M' => (∃ h, h < gN M 46 0 (gN M 51 0 d) ∧ selR M (gN M 51 0 d) (gN M 52 0 d) k h ∧ (∀ h', h' < h → ¬ selR M (gN M 51 0 d) (gN M 52 0 d) k h') ∧ RTake M d (4 * gN M 51 0 d + h) M') ∨ ((∀ h, h < gN M 46 0 (gN M 51 0 d) → ¬ selR M (gN M 51 0 d) (gN M 52 0 d) k h) ∧ RFailP k d (rLeave M) M')
theorem rl_N {M : Mem} (k i j : Nat) (h : ¬ (k = 40 ∧ i = 0 ∧ j = 11)) : gN (rLeave M) k i j = gN M k i j := by
  unfold rLeave; rw [gNI, gNI, gNI, gNN, if_neg h]
theorem rl_d {M : Mem} : gN (rLeave M) 40 0 11 = gN M 40 0 11 - 1 := by
  unfold rLeave; rw [gNI, gNI, gNI, gNN, if_pos ⟨rfl, rfl, rfl⟩]
/-- the METHODS' arrays stay -/
def ScR (M M' : Mem) : Prop := (∀ k i j, 41 ≤ k → k ≤ 50 → gN M' k i j = gN M k i j ∧ gI M' k i j = gI M k i j ∧ gJ M' k i j = gJ M k i j) ∧ gN M' 40 0 0 = gN M 40 0 0
theorem ScR_rf {M : Mem} : ScR M M := ⟨fun _ _ _ _ _ => ⟨rfl, rfl, rfl⟩, rfl⟩
theorem ScR.tr {M M' M'' : Mem} (h : ScR M M') (h2 : ScR M' M'') : ScR M M'' := ⟨fun k i j a b => ⟨(h2.1 k i j a b).1.trans (h.1 k i j a b).1, (h2.1 k i j a b).2.1.trans (h.1 k i j a b).2.1, (h2.1 k i j a b).2.2.trans (h.1 k i j a b).2.2⟩, h2.2.trans h.2⟩
theorem ScR_N {M : Mem} {k i j v : Nat} (h : (k = 40 ∧ j ≠ 0) ∨ 50 < k) : ScR M (sN M k i j v) := ⟨fun a b c h1 h2 => ⟨by rw [gNN, if_neg (by omega)], rfl, rfl⟩, by rw [gNN, if_neg (by omega)]⟩
theorem ScR_I {M : Mem} {k i j : Nat} {v : Int32} (h : k = 40 ∨ 50 < k) : ScR M (sI M k i j v) := ⟨fun a b c h1 h2 => ⟨rfl, by rw [gII, if_neg (by omega)], rfl⟩, rfl⟩
theorem ScR_J {M : Mem} {k i j : Nat} {v : Int64} (h : k = 40 ∨ 50 < k) : ScR M (sJ M k i j v) := ⟨fun a b c h1 h2 => ⟨rfl, rfl, by rw [gJJ, if_neg (by omega)]⟩, rfl⟩
theorem RIm_ScR {M M' : Mem} {m : Nat} (h : ScR M M') (hm : RIm M m) : RIm M' m := by
  have e : ∀ {k : Nat}, 41 ≤ k → k ≤ 50 → ∀ i, gN M' k i = gN M k i := fun h1 h2 i => by funext j; exact (h.1 _ i j h1 h2).1
  have e2 : ∀ i, gJ M' 45 i = gJ M 45 i := fun i => by funext j; exact (h.1 45 i j (by omega) (by omega)).2.2
  unfold RIm at hm ⊢
  rw [e (show 41 ≤ 41 by decide) (by decide), e (show 41 ≤ 42 by decide) (by decide), e (show 41 ≤ 43 by decide) (by decide), e (show 41 ≤ 44 by decide) (by decide), e (show 41 ≤ 46 by decide) (by decide), e (show 41 ≤ 47 by decide) (by decide), e (show 41 ≤ 48 by decide) (by decide), e (show 41 ≤ 49 by decide) (by decide), e2]
  exact hm
theorem RI_ScR {M M' : Mem} (h : ScR M M') (hi : RI M) : RI M' := ⟨by rw [h.2]; exact hi.1, fun m hm => RIm_ScR h (hi.2 m hm)⟩
theorem rl_Sc {M : Mem} : ScR M (rLeave M) := (ScR_N (by omega)).tr ((ScR_I (by omega)).tr ((ScR_I (by omega)).tr (ScR_I (by omega))))
theorem bit1 (x : Int32) : x &&& nI 1 = 0 ∨ x &&& nI 1 = nI 1 := by
  obtain ⟨j, hj, e⟩ := pk_andE x (m := nI 1) 1 (by decide)
  rw [e]
  rcases (show j = 0 ∨ j = 1 by omega) with rfl | rfl
  · exact Or.inl nI_0
  · exact Or.inr rfl
set_option maxRecDepth 20000 in
set_option maxHeartbeats 4000000 in
theorem ct_X11_entry {l : Launch} {G : Gm} {M : Mem} {m i x : Int32} (hp : RI M) : Ct l G rM yX11_entry (.code yX11_entry cX11_entry 4 (some .int) :: GW) rmX11_entry [.ref (ad G 40 0), .int m, .int i, .int x] M (fun r M' => (∃ c w, c < gN M 40 0 0 ∧ m = nI c ∧ w ≤ 2 ∧ x = nI w ∧ ((70 < totR M c ∧ some (.int (-4)) = r ∧ M = M') ∨ (¬ 70 < totR M c ∧ RP2 M M' c (gN M 41 0 c) (gN M 46 0 c) ∧ ((∃ j, j < totR M c ∧ i = nI j ∧ some (.int (entR M' w j)) = r) ∨ (¬ isM (totR M c) i ∧ some (.int (-1)) = r))))) ∨ (¬ (isM (gN M 40 0 0) m ∧ isM 3 x) ∧ some (.int (-2)) = r ∧ M = M')) := by
  have h6 := hp.1
  refine Ct_of (cc := cX11_entry) (by decide) [(0, _), (1, _), (2, _), (3, _)] rfl (Nat.le_of_ble_eq_true rfl) (fun pp ee ss mm aa bb mt cd C E => ?_)
  refine V_aload_n C dX11_entry_0 rfl rfl ?_
  refine V_iload_n C dX11_entry_1 rfl rfl ?_
  refine V_callV C [_] (ct_X11_isMethod (by omega)) cv_X11_isMethod lk_X11_96 in_40 rfl rfl ⟨Nat.le_of_ble_eq_true rfl, Nat.le_of_ble_eq_true rfl⟩ rfl rfl (Nat.le_of_ble_eq_true rfl) dX11_entry_2 (fun r M' hr => ?_)
  obtain ⟨rfl, rfl⟩ := hr
  refine V_ifB_eq (tgt := 20) C dX11_entry_5 (by decide) (fun h5 => ?_) (fun h5 => ?_)
  · skip
    refine V_bipush C (-2) dX11_entry_20 (by decide) ?_
    refine V_iret C E dX11_entry_22 ?_
    first | exact Or.inr ⟨fun q => h5 q.1, rfl, rfl⟩ | exact Or.inr ⟨fun q => h17 ((w0_iff (by decide)).mpr q.2), rfl, rfl⟩
  · skip
    obtain ⟨c, hc, rfl⟩ := isM_of h5 (by omega)
    have hm := hp.2 c (by omega)
    refine V_iload_n C dX11_entry_8 rfl rfl ?_
    refine V_i2l C dX11_entry_9 ?_
    refine V_lconst C (lN 0) dX11_entry_10 (by decide) ?_
    refine V_ldc2 C kL_X11_94 dX11_entry_11 ?_
    refine V_callS C [_, _, _] (ct_X11_in) cs_X11_in rfl lk_X11_84 ⟨Nat.le_of_ble_eq_true rfl, Nat.le_of_ble_eq_true rfl⟩ rfl rfl (Nat.le_of_ble_eq_true rfl) dX11_entry_14 (fun r M' hr => ?_)
    obtain ⟨rfl, rfl⟩ := hr
    refine V_ifB_ne (tgt := 23) C dX11_entry_17 (by decide) (fun h17 => ?_) (fun h17 => ?_)
    · skip
      obtain ⟨w, hw, rfl⟩ := isM_of ((w0_iff (by decide)).mp h17) (by decide)
      refine V_aload_n C dX11_entry_23 rfl rfl ?_
      refine V_iload_n C dX11_entry_24 rfl rfl ?_
      refine V_callV C [_] (ct_X11_isLarge (by omega) hm) cv_X11_isLarge lk_X11_130 in_40 rfl rfl ⟨Nat.le_of_ble_eq_true rfl, Nat.le_of_ble_eq_true rfl⟩ rfl rfl (Nat.le_of_ble_eq_true rfl) dX11_entry_25 (fun r M' hr => ?_)
      obtain ⟨rfl, rfl⟩ := hr
      refine V_ifB_eq (tgt := 34) C dX11_entry_28 (by decide) (fun h28 => ?_) (fun h28 => ?_)
      · skip
        refine V_aload_n C dX11_entry_34 rfl rfl ?_
        refine V_iload_n C dX11_entry_35 rfl rfl ?_
        refine V_callV C [_] (ct_X11_mark (by omega) hm (by omega)) cv_X11_mark lk_X11_133 in_40 rfl rfl ⟨Nat.le_of_ble_eq_true rfl, Nat.le_of_ble_eq_true rfl⟩ rfl rfl (Nat.le_of_ble_eq_true rfl) dX11_entry_36 (fun r M' hr => ?_)
        obtain ⟨rfl, hX⟩ := hr
        obtain ⟨hen, hEnt⟩ := hX.ent
        have hle : gN M' 40 0 39 ≤ 70 := by omega
        refine V_iload_n C dX11_entry_39 rfl rfl ?_
        refine V_i2l C dX11_entry_40 ?_
        refine V_lconst C (lN 0) dX11_entry_41 (by decide) ?_
        refine V_aload_n C dX11_entry_42 rfl rfl ?_
        refine gf_X11_120 C dX11_entry_43 ?_
        refine V_iconst C (nI 1) dX11_entry_46 (by decide) ?_
        refine V_isub C dX11_entry_47 ?_
        refine V_i2l C dX11_entry_48 ?_
        refine V_callS C [_, _, _] (ct_X11_in) cs_X11_in rfl lk_X11_84 ⟨Nat.le_of_ble_eq_true rfl, Nat.le_of_ble_eq_true rfl⟩ rfl rfl (Nat.le_of_ble_eq_true rfl) dX11_entry_49 (fun r M' hr => ?_)
        obtain ⟨rfl, rfl⟩ := hr
        refine V_ifB_ne (tgt := 57) C dX11_entry_52 (by decide) (fun h52 => ?_) (fun h52 => ?_)
        · skip
          obtain ⟨j, hj, rfl⟩ := isM_of ((wi_iff (by omega)).mp h52) (by omega)
          refine V_iload_n C dX11_entry_57 rfl rfl ?_
          refine V_ifN_ne (tgt := 70) C dX11_entry_58 (by omega) (by decide) (fun h58 => ?_) (fun h58 => ?_)
          · skip
            refine V_iload_n C dX11_entry_70 rfl rfl ?_
            refine V_iconst C (nI 1) dX11_entry_71 (by decide) ?_
            refine V_icmpN_ne (tgt := 84) C dX11_entry_72 (by omega) (by omega) (by decide) (fun h72 => ?_) (fun h72 => ?_)
            · skip
              refine V_aload_n C dX11_entry_84 rfl rfl ?_
              refine gf_X11_77 C dX11_entry_85 ?_
              refine V_iload_n C dX11_entry_88 rfl rfl ?_
              refine ld_63 C (by omega) dX11_entry_89 ?_
              refine V_iret C E dX11_entry_90 ?_
              first | exact Or.inl ⟨c, w, hc, rfl, by omega, rfl, Or.inr ⟨h28, hX, Or.inl ⟨j, by omega, rfl, by unfold entR; rw [if_pos h58]⟩⟩⟩ | exact Or.inl ⟨c, w, hc, rfl, by omega, rfl, Or.inr ⟨h28, hX, Or.inl ⟨j, by omega, rfl, by unfold entR; rw [if_neg h58, if_pos h72]⟩⟩⟩ | exact Or.inl ⟨c, w, hc, rfl, by omega, rfl, Or.inr ⟨h28, hX, Or.inl ⟨j, by omega, rfl, by unfold entR; rw [if_neg h58, if_neg h72]⟩⟩⟩
            · skip
              refine V_aload_n C dX11_entry_75 rfl rfl ?_
              refine gf_X11_74 C dX11_entry_76 ?_
              refine V_iload_n C dX11_entry_79 rfl rfl ?_
              refine ld_62 C (by omega) dX11_entry_80 ?_
              refine V_goto (tgt := 90) C dX11_entry_81 (by decide) ?_
              refine V_iret C E dX11_entry_90 ?_
              first | exact Or.inl ⟨c, w, hc, rfl, by omega, rfl, Or.inr ⟨h28, hX, Or.inl ⟨j, by omega, rfl, by unfold entR; rw [if_pos h58]⟩⟩⟩ | exact Or.inl ⟨c, w, hc, rfl, by omega, rfl, Or.inr ⟨h28, hX, Or.inl ⟨j, by omega, rfl, by unfold entR; rw [if_neg h58, if_pos h72]⟩⟩⟩ | exact Or.inl ⟨c, w, hc, rfl, by omega, rfl, Or.inr ⟨h28, hX, Or.inl ⟨j, by omega, rfl, by unfold entR; rw [if_neg h58, if_neg h72]⟩⟩⟩
          · skip
            refine V_aload_n C dX11_entry_61 rfl rfl ?_
            refine gf_X11_71 C dX11_entry_62 ?_
            refine V_iload_n C dX11_entry_65 rfl rfl ?_
            refine ld_61 C (by omega) dX11_entry_66 ?_
            refine V_goto (tgt := 90) C dX11_entry_67 (by decide) ?_
            refine V_iret C E dX11_entry_90 ?_
            first | exact Or.inl ⟨c, w, hc, rfl, by omega, rfl, Or.inr ⟨h28, hX, Or.inl ⟨j, by omega, rfl, by unfold entR; rw [if_pos h58]⟩⟩⟩ | exact Or.inl ⟨c, w, hc, rfl, by omega, rfl, Or.inr ⟨h28, hX, Or.inl ⟨j, by omega, rfl, by unfold entR; rw [if_neg h58, if_pos h72]⟩⟩⟩ | exact Or.inl ⟨c, w, hc, rfl, by omega, rfl, Or.inr ⟨h28, hX, Or.inl ⟨j, by omega, rfl, by unfold entR; rw [if_neg h58, if_neg h72]⟩⟩⟩
        · skip
          refine V_iconst C (-1) dX11_entry_55 (by decide) ?_
          refine V_iret C E dX11_entry_56 ?_
          exact Or.inl ⟨c, w, hc, rfl, by omega, rfl, Or.inr ⟨h28, hX, Or.inr ⟨fun q => h52 ((wi_iff (by omega)).mpr (by rw [hen]; exact q)), rfl⟩⟩⟩
      · skip
        refine V_bipush C (-4) dX11_entry_31 (by decide) ?_
        refine V_iret C E dX11_entry_33 ?_
        exact Or.inl ⟨c, w, hc, rfl, by omega, rfl, Or.inl ⟨h28, rfl, rfl⟩⟩
    · skip
      refine V_bipush C (-2) dX11_entry_20 (by decide) ?_
      refine V_iret C E dX11_entry_22 ?_
      first | exact Or.inr ⟨fun q => h5 q.1, rfl, rfl⟩ | exact Or.inr ⟨fun q => h17 ((w0_iff (by decide)).mpr q.2), rfl, rfl⟩

set_option maxRecDepth 20000 in
set_option maxHeartbeats 4000000 in
theorem ct_X11_enter {l : Launch} {G : Gm} {M : Mem} {c : Nat} {x : Int64} (hp : RI M) (hc : c < 6) (hd : gN M 40 0 11 ≤ 12) (h3 : gN M 40 0 30 ≤ 12) (h1 : gN M 40 0 29 ≤ gN M 40 0 23) (h2 : gN M 40 0 23 ≤ 200)  : Ct l G rM yX11_enter (.code yX11_enter cX11_enter 6 none :: GW) rmX11_enter [.ref (ad G 40 0), .int (nI c), .long x] M (fun r M' => none = r ∧ REnter M c x M') := by
  have h6 := hp.1
  have hm := hp.2 c hc
  refine Ct_of (cc := cX11_enter) (by decide) [(0, _), (1, _), (2, _)] rfl (Nat.le_of_ble_eq_true rfl) (fun pp ee ss mm aa bb mt cd C E => ?_)
  refine V_aload_n C dX11_enter_0 rfl rfl ?_
  refine V_iload_n C dX11_enter_1 rfl rfl ?_
  refine V_callV C [_] (ct_X11_isMethod h6) cv_X11_isMethod lk_X11_96 in_40 rfl rfl ⟨Nat.le_of_ble_eq_true rfl, Nat.le_of_ble_eq_true rfl⟩ rfl rfl (Nat.le_of_ble_eq_true rfl) dX11_enter_2 (fun r M' hr => ?_)
  obtain ⟨rfl, rfl⟩ := hr
  rw [bN_iff (isM_nI (n := gN M 40 0 0) (k := c) (by omega))]
  try simp only [gNN, gNI, gNJ, gIN, gII, gIJ, gJN, gJI, gJJ, Nat.reduceEqDiff, false_and, and_false, true_and, and_true, if_false, if_true]
  refine V_ifB_eq (tgt := 25) C dX11_enter_5 (by decide) (fun h5 => ?_) (fun h5 => ?_)
  · skip
    refine V_aload_n C dX11_enter_25 rfl rfl ?_
    refine V_iconst C (nI 1) dX11_enter_26 (by decide) ?_
    refine pf_X11_143 C (by decide) dX11_enter_27 ?_
    refine V_vret C E dX11_enter_30 ?_
    first | exact ⟨rfl, Or.inl ⟨Or.inl h5, rfl⟩⟩ | exact ⟨rfl, Or.inl ⟨Or.inr (Or.inl h13), rfl⟩⟩ | exact ⟨rfl, Or.inl ⟨Or.inr (Or.inr h22), rfl⟩⟩
  · skip
    refine V_aload_n C dX11_enter_8 rfl rfl ?_
    refine V_iload_n C dX11_enter_9 rfl rfl ?_
    refine V_callV C [_] (ct_X11_isLarge hc hm) cv_X11_isLarge lk_X11_130 in_40 rfl rfl ⟨Nat.le_of_ble_eq_true rfl, Nat.le_of_ble_eq_true rfl⟩ rfl rfl (Nat.le_of_ble_eq_true rfl) dX11_enter_10 (fun r M' hr => ?_)
    obtain ⟨rfl, rfl⟩ := hr
    try simp only [gNN, gNI, gNJ, gIN, gII, gIJ, gJN, gJI, gJJ, Nat.reduceEqDiff, false_and, and_false, true_and, and_true, if_false, if_true]
    refine V_ifB_ne (tgt := 25) C dX11_enter_13 (by decide) (fun h13 => ?_) (fun h13 => ?_)
    · skip
      refine V_aload_n C dX11_enter_25 rfl rfl ?_
      refine V_iconst C (nI 1) dX11_enter_26 (by decide) ?_
      refine pf_X11_143 C (by decide) dX11_enter_27 ?_
      refine V_vret C E dX11_enter_30 ?_
      first | exact ⟨rfl, Or.inl ⟨Or.inl h5, rfl⟩⟩ | exact ⟨rfl, Or.inl ⟨Or.inr (Or.inl h13), rfl⟩⟩ | exact ⟨rfl, Or.inl ⟨Or.inr (Or.inr h22), rfl⟩⟩
    · skip
      refine V_aload_n C dX11_enter_16 rfl rfl ?_
      refine gf_X11_147 C dX11_enter_17 ?_
      try simp only [gNN, gNI, gNJ, gIN, gII, gIJ, gJN, gJI, gJJ, Nat.reduceEqDiff, false_and, and_false, true_and, and_true, if_false, if_true]
      refine V_bipush C (nI 12) dX11_enter_20 (by decide) ?_
      refine V_icmpN_ne (tgt := 31) C dX11_enter_22 (by omega) (by omega) (by decide) (fun h22 => ?_) (fun h22 => ?_)
      · skip
        refine V_aload_n C dX11_enter_31 rfl rfl ?_
        refine V_lconst C (lN 1) dX11_enter_32 (by decide) ?_
        refine V_callV C [_] (ct_X11_counts h1 h2 (by omega)) cv_X11_counts lk_X11_150 in_40 rfl rfl ⟨Nat.le_of_ble_eq_true rfl, Nat.le_of_ble_eq_true rfl⟩ rfl rfl (Nat.le_of_ble_eq_true rfl) dX11_enter_33 (fun r M' hr => ?_)
        obtain ⟨rfl, rfl⟩ := hr
        try simp only [gNN, gNI, gNJ, gIN, gII, gIJ, gJN, gJI, gJJ, Nat.reduceEqDiff, false_and, and_false, true_and, and_true, if_false, if_true]
        refine V_ifB_ne (tgt := 40) C dX11_enter_36 (by decide) (fun h36 => ?_) (fun h36 => ?_)
        · skip
          rw [if_pos h36]
          refine V_aload_n C dX11_enter_40 rfl rfl ?_
          refine gf_X11_147 C dX11_enter_41 ?_
          try simp only [gNN, gNI, gNJ, gIN, gII, gIJ, gJN, gJI, gJJ, Nat.reduceEqDiff, false_and, and_false, true_and, and_true, if_false, if_true]
          refine V_istore (lv' := [(4, _), (0, _), (1, _), (2, _)]) C dX11_enter_44 (by decide) rfl ?_
          refine V_aload_n C dX11_enter_46 rfl rfl ?_
          refine V_dup C dX11_enter_47 rfl ?_
          refine gf_X11_147 C dX11_enter_48 ?_
          try simp only [gNN, gNI, gNJ, gIN, gII, gIJ, gJN, gJI, gJJ, Nat.reduceEqDiff, false_and, and_false, true_and, and_true, if_false, if_true]
          refine V_iconst C (nI 1) dX11_enter_51 (by decide) ?_
          refine V_iaddN C dX11_enter_52 ?_
          refine pf_X11_147 C dX11_enter_53 ?_
          refine V_aload_n C dX11_enter_56 rfl rfl ?_
          refine V_aload_n C dX11_enter_57 rfl rfl ?_
          refine gf_X11_147 C dX11_enter_58 ?_
          try simp only [gNN, gNI, gNJ, gIN, gII, gIJ, gJN, gJI, gJJ, Nat.reduceEqDiff, false_and, and_false, true_and, and_true, if_false, if_true]
          refine V_aload_n C dX11_enter_61 rfl rfl ?_
          refine gf_X11_154 C dX11_enter_62 ?_
          try simp only [gNN, gNI, gNJ, gIN, gII, gIJ, gJN, gJI, gJJ, Nat.reduceEqDiff, false_and, and_false, true_and, and_true, if_false, if_true]
          refine V_icmpN_le (tgt := 75) C dX11_enter_65 (by omega) (by omega) (by decide) (fun h65 => ?_) (fun h65 => ?_)
          · skip
            refine V_aload_n C dX11_enter_75 rfl rfl ?_
            refine gf_X11_154 C dX11_enter_76 ?_
            try simp only [gNN, gNI, gNJ, gIN, gII, gIJ, gJN, gJI, gJJ, Nat.reduceEqDiff, false_and, and_false, true_and, and_true, if_false, if_true]
            refine pf_X11_154 C dX11_enter_79 ?_
            refine V_aload_n C dX11_enter_82 rfl rfl ?_
            refine gf_X11_41 C dX11_enter_83 ?_
            try simp only [gNN, gNI, gNJ, gIN, gII, gIJ, gJN, gJI, gJJ, Nat.reduceEqDiff, false_and, and_false, true_and, and_true, if_false, if_true]
            refine V_iload C dX11_enter_86 rfl ?_
            refine V_iload_n C dX11_enter_88 rfl rfl ?_
            refine st_51 C (by omega) dX11_enter_89 ?_
            refine V_aload_n C dX11_enter_90 rfl rfl ?_
            refine gf_X11_44 C dX11_enter_91 ?_
            try simp only [gNN, gNI, gNJ, gIN, gII, gIJ, gJN, gJI, gJJ, Nat.reduceEqDiff, false_and, and_false, true_and, and_true, if_false, if_true]
            refine V_iload C dX11_enter_94 rfl ?_
            refine V_iconst C (nI 0) dX11_enter_96 (by decide) ?_
            refine st_52 C (by omega) dX11_enter_97 ?_
            refine V_aload_n C dX11_enter_98 rfl rfl ?_
            refine gf_X11_47 C dX11_enter_99 ?_
            try simp only [gNN, gNI, gNJ, gIN, gII, gIJ, gJN, gJI, gJJ, Nat.reduceEqDiff, false_and, and_false, true_and, and_true, if_false, if_true]
            refine V_iconst C (nI 4) dX11_enter_102 (by decide) ?_
            refine V_iload C dX11_enter_103 rfl ?_
            refine V_imulN C dX11_enter_105 ?_
            refine V_lload_n C dX11_enter_106 rfl rfl ?_
            refine st_53 C (by omega) dX11_enter_107 ?_
            refine V_iconst C (nI 1) dX11_enter_108 (by decide) ?_
            refine V_istore (lv' := [(5, _), (4, _), (0, _), (1, _), (2, _)]) C dX11_enter_109 (by decide) rfl ?_
            refine V_iload C dX11_enter_111 rfl ?_
            refine V_iconst C (nI 4) dX11_enter_113 (by decide) ?_
            refine V_icmpN_ge (tgt := 136) C dX11_enter_114 (by omega) (by omega) (by decide) (fun h114 => by omega) (fun h114 => ?_)
            clear h114
            refine V_aload_n C dX11_enter_117 rfl rfl ?_
            refine gf_X11_47 C dX11_enter_118 ?_
            try simp only [gNN, gNI, gNJ, gIN, gII, gIJ, gJN, gJI, gJJ, Nat.reduceEqDiff, false_and, and_false, true_and, and_true, if_false, if_true]
            refine V_iconst C (nI 4) dX11_enter_121 (by decide) ?_
            refine V_iload C dX11_enter_122 rfl ?_
            refine V_imulN C dX11_enter_124 ?_
            refine V_iload C dX11_enter_125 rfl ?_
            refine V_iaddN C dX11_enter_127 ?_
            refine V_lconst C (lN 0) dX11_enter_128 (by decide) ?_
            refine st_53 C (by omega) dX11_enter_129 ?_
            refine V_iincN (lv' := [(5, _), (4, _), (0, _), (1, _), (2, _)]) C dX11_enter_130 rfl (b := 1) (by decide) (by decide) rfl ?_
            refine V_goto (tgt := 111) C dX11_enter_133 (by decide) ?_
            refine V_iload C dX11_enter_111 rfl ?_
            refine V_iconst C (nI 4) dX11_enter_113 (by decide) ?_
            refine V_icmpN_ge (tgt := 136) C dX11_enter_114 (by omega) (by omega) (by decide) (fun h114 => by omega) (fun h114 => ?_)
            clear h114
            refine V_aload_n C dX11_enter_117 rfl rfl ?_
            refine gf_X11_47 C dX11_enter_118 ?_
            try simp only [gNN, gNI, gNJ, gIN, gII, gIJ, gJN, gJI, gJJ, Nat.reduceEqDiff, false_and, and_false, true_and, and_true, if_false, if_true]
            refine V_iconst C (nI 4) dX11_enter_121 (by decide) ?_
            refine V_iload C dX11_enter_122 rfl ?_
            refine V_imulN C dX11_enter_124 ?_
            refine V_iload C dX11_enter_125 rfl ?_
            refine V_iaddN C dX11_enter_127 ?_
            refine V_lconst C (lN 0) dX11_enter_128 (by decide) ?_
            refine st_53 C (by omega) dX11_enter_129 ?_
            refine V_iincN (lv' := [(5, _), (4, _), (0, _), (1, _), (2, _)]) C dX11_enter_130 rfl (b := 1) (by decide) (by decide) rfl ?_
            refine V_goto (tgt := 111) C dX11_enter_133 (by decide) ?_
            refine V_iload C dX11_enter_111 rfl ?_
            refine V_iconst C (nI 4) dX11_enter_113 (by decide) ?_
            refine V_icmpN_ge (tgt := 136) C dX11_enter_114 (by omega) (by omega) (by decide) (fun h114 => by omega) (fun h114 => ?_)
            clear h114
            refine V_aload_n C dX11_enter_117 rfl rfl ?_
            refine gf_X11_47 C dX11_enter_118 ?_
            try simp only [gNN, gNI, gNJ, gIN, gII, gIJ, gJN, gJI, gJJ, Nat.reduceEqDiff, false_and, and_false, true_and, and_true, if_false, if_true]
            refine V_iconst C (nI 4) dX11_enter_121 (by decide) ?_
            refine V_iload C dX11_enter_122 rfl ?_
            refine V_imulN C dX11_enter_124 ?_
            refine V_iload C dX11_enter_125 rfl ?_
            refine V_iaddN C dX11_enter_127 ?_
            refine V_lconst C (lN 0) dX11_enter_128 (by decide) ?_
            refine st_53 C (by omega) dX11_enter_129 ?_
            refine V_iincN (lv' := [(5, _), (4, _), (0, _), (1, _), (2, _)]) C dX11_enter_130 rfl (b := 1) (by decide) (by decide) rfl ?_
            refine V_goto (tgt := 111) C dX11_enter_133 (by decide) ?_
            refine V_iload C dX11_enter_111 rfl ?_
            refine V_iconst C (nI 4) dX11_enter_113 (by decide) ?_
            refine V_icmpN_ge (tgt := 136) C dX11_enter_114 (by omega) (by omega) (by decide) (fun h114 => ?_) (fun h114 => by omega)
            clear h114
            refine V_aload_n C dX11_enter_136 rfl rfl ?_
            refine gf_X11_50 C dX11_enter_137 ?_
            try simp only [gNN, gNI, gNJ, gIN, gII, gIJ, gJN, gJI, gJJ, Nat.reduceEqDiff, false_and, and_false, true_and, and_true, if_false, if_true]
            refine V_iload C dX11_enter_140 rfl ?_
            refine V_iconst C (-1) dX11_enter_142 (by decide) ?_
            refine st_54 C (by omega) dX11_enter_143 ?_
            refine V_aload_n C dX11_enter_144 rfl rfl ?_
            refine gf_X11_59 C dX11_enter_145 ?_
            try simp only [gNN, gNI, gNJ, gIN, gII, gIJ, gJN, gJI, gJJ, Nat.reduceEqDiff, false_and, and_false, true_and, and_true, if_false, if_true]
            refine V_iload C dX11_enter_148 rfl ?_
            refine V_iconst C (nI 0) dX11_enter_150 (by decide) ?_
            refine st_57 C (by omega) dX11_enter_151 ?_
            refine V_aload_n C dX11_enter_152 rfl rfl ?_
            refine gf_X11_62 C dX11_enter_153 ?_
            try simp only [gNN, gNI, gNJ, gIN, gII, gIJ, gJN, gJI, gJJ, Nat.reduceEqDiff, false_and, and_false, true_and, and_true, if_false, if_true]
            refine V_iload C dX11_enter_156 rfl ?_
            refine V_iconst C (nI 0) dX11_enter_158 (by decide) ?_
            refine st_58 C (by omega) dX11_enter_159 ?_
            refine V_iconst C (nI 0) dX11_enter_160 (by decide) ?_
            refine V_istore (lv' := [(5, _), (4, _), (0, _), (1, _), (2, _)]) C dX11_enter_161 (by decide) rfl ?_
            refine V_iload C dX11_enter_163 rfl ?_
            refine V_iconst C (nI 3) dX11_enter_165 (by decide) ?_
            refine V_icmpN_ge (tgt := 188) C dX11_enter_166 (by omega) (by omega) (by decide) (fun h166 => by omega) (fun h166 => ?_)
            clear h166
            refine V_aload_n C dX11_enter_169 rfl rfl ?_
            refine gf_X11_65 C dX11_enter_170 ?_
            try simp only [gNN, gNI, gNJ, gIN, gII, gIJ, gJN, gJI, gJJ, Nat.reduceEqDiff, false_and, and_false, true_and, and_true, if_false, if_true]
            refine V_iconst C (nI 3) dX11_enter_173 (by decide) ?_
            refine V_iload C dX11_enter_174 rfl ?_
            refine V_imulN C dX11_enter_176 ?_
            refine V_iload C dX11_enter_177 rfl ?_
            refine V_iaddN C dX11_enter_179 ?_
            refine V_iconst C (nI 0) dX11_enter_180 (by decide) ?_
            refine st_59 C (by omega) dX11_enter_181 ?_
            refine V_iincN (lv' := [(5, _), (4, _), (0, _), (1, _), (2, _)]) C dX11_enter_182 rfl (b := 1) (by decide) (by decide) rfl ?_
            refine V_goto (tgt := 163) C dX11_enter_185 (by decide) ?_
            refine V_iload C dX11_enter_163 rfl ?_
            refine V_iconst C (nI 3) dX11_enter_165 (by decide) ?_
            refine V_icmpN_ge (tgt := 188) C dX11_enter_166 (by omega) (by omega) (by decide) (fun h166 => by omega) (fun h166 => ?_)
            clear h166
            refine V_aload_n C dX11_enter_169 rfl rfl ?_
            refine gf_X11_65 C dX11_enter_170 ?_
            try simp only [gNN, gNI, gNJ, gIN, gII, gIJ, gJN, gJI, gJJ, Nat.reduceEqDiff, false_and, and_false, true_and, and_true, if_false, if_true]
            refine V_iconst C (nI 3) dX11_enter_173 (by decide) ?_
            refine V_iload C dX11_enter_174 rfl ?_
            refine V_imulN C dX11_enter_176 ?_
            refine V_iload C dX11_enter_177 rfl ?_
            refine V_iaddN C dX11_enter_179 ?_
            refine V_iconst C (nI 0) dX11_enter_180 (by decide) ?_
            refine st_59 C (by omega) dX11_enter_181 ?_
            refine V_iincN (lv' := [(5, _), (4, _), (0, _), (1, _), (2, _)]) C dX11_enter_182 rfl (b := 1) (by decide) (by decide) rfl ?_
            refine V_goto (tgt := 163) C dX11_enter_185 (by decide) ?_
            refine V_iload C dX11_enter_163 rfl ?_
            refine V_iconst C (nI 3) dX11_enter_165 (by decide) ?_
            refine V_icmpN_ge (tgt := 188) C dX11_enter_166 (by omega) (by omega) (by decide) (fun h166 => by omega) (fun h166 => ?_)
            clear h166
            refine V_aload_n C dX11_enter_169 rfl rfl ?_
            refine gf_X11_65 C dX11_enter_170 ?_
            try simp only [gNN, gNI, gNJ, gIN, gII, gIJ, gJN, gJI, gJJ, Nat.reduceEqDiff, false_and, and_false, true_and, and_true, if_false, if_true]
            refine V_iconst C (nI 3) dX11_enter_173 (by decide) ?_
            refine V_iload C dX11_enter_174 rfl ?_
            refine V_imulN C dX11_enter_176 ?_
            refine V_iload C dX11_enter_177 rfl ?_
            refine V_iaddN C dX11_enter_179 ?_
            refine V_iconst C (nI 0) dX11_enter_180 (by decide) ?_
            refine st_59 C (by omega) dX11_enter_181 ?_
            refine V_iincN (lv' := [(5, _), (4, _), (0, _), (1, _), (2, _)]) C dX11_enter_182 rfl (b := 1) (by decide) (by decide) rfl ?_
            refine V_goto (tgt := 163) C dX11_enter_185 (by decide) ?_
            refine V_iload C dX11_enter_163 rfl ?_
            refine V_iconst C (nI 3) dX11_enter_165 (by decide) ?_
            refine V_icmpN_ge (tgt := 188) C dX11_enter_166 (by omega) (by omega) (by decide) (fun h166 => ?_) (fun h166 => by omega)
            clear h166
            refine V_vret C E dX11_enter_188 ?_
            refine ⟨rfl, Or.inr ⟨h5, h13, by omega, Or.inr ⟨h36, ?_⟩⟩⟩
            unfold rPush
            rw [show gN (sN M 40 0 29 (gN M 40 0 29 + 1)) 40 0 11 = gN M 40 0 11 by simp [gNN], show gN (sN M 40 0 29 (gN M 40 0 29 + 1)) 40 0 30 = gN M 40 0 30 by simp [gNN]]
            first | (rw [show max (gN M 40 0 30) (gN M 40 0 11 + 1) = gN M 40 0 11 + 1 by omega]; rfl) | (rw [show max (gN M 40 0 30) (gN M 40 0 11 + 1) = gN M 40 0 30 by omega]; rfl)
          · skip
            refine V_aload_n C dX11_enter_68 rfl rfl ?_
            refine gf_X11_147 C dX11_enter_69 ?_
            try simp only [gNN, gNI, gNJ, gIN, gII, gIJ, gJN, gJI, gJJ, Nat.reduceEqDiff, false_and, and_false, true_and, and_true, if_false, if_true]
            refine V_goto (tgt := 79) C dX11_enter_72 (by decide) ?_
            refine pf_X11_154 C dX11_enter_79 ?_
            refine V_aload_n C dX11_enter_82 rfl rfl ?_
            refine gf_X11_41 C dX11_enter_83 ?_
            try simp only [gNN, gNI, gNJ, gIN, gII, gIJ, gJN, gJI, gJJ, Nat.reduceEqDiff, false_and, and_false, true_and, and_true, if_false, if_true]
            refine V_iload C dX11_enter_86 rfl ?_
            refine V_iload_n C dX11_enter_88 rfl rfl ?_
            refine st_51 C (by omega) dX11_enter_89 ?_
            refine V_aload_n C dX11_enter_90 rfl rfl ?_
            refine gf_X11_44 C dX11_enter_91 ?_
            try simp only [gNN, gNI, gNJ, gIN, gII, gIJ, gJN, gJI, gJJ, Nat.reduceEqDiff, false_and, and_false, true_and, and_true, if_false, if_true]
            refine V_iload C dX11_enter_94 rfl ?_
            refine V_iconst C (nI 0) dX11_enter_96 (by decide) ?_
            refine st_52 C (by omega) dX11_enter_97 ?_
            refine V_aload_n C dX11_enter_98 rfl rfl ?_
            refine gf_X11_47 C dX11_enter_99 ?_
            try simp only [gNN, gNI, gNJ, gIN, gII, gIJ, gJN, gJI, gJJ, Nat.reduceEqDiff, false_and, and_false, true_and, and_true, if_false, if_true]
            refine V_iconst C (nI 4) dX11_enter_102 (by decide) ?_
            refine V_iload C dX11_enter_103 rfl ?_
            refine V_imulN C dX11_enter_105 ?_
            refine V_lload_n C dX11_enter_106 rfl rfl ?_
            refine st_53 C (by omega) dX11_enter_107 ?_
            refine V_iconst C (nI 1) dX11_enter_108 (by decide) ?_
            refine V_istore (lv' := [(5, _), (4, _), (0, _), (1, _), (2, _)]) C dX11_enter_109 (by decide) rfl ?_
            refine V_iload C dX11_enter_111 rfl ?_
            refine V_iconst C (nI 4) dX11_enter_113 (by decide) ?_
            refine V_icmpN_ge (tgt := 136) C dX11_enter_114 (by omega) (by omega) (by decide) (fun h114 => by omega) (fun h114 => ?_)
            clear h114
            refine V_aload_n C dX11_enter_117 rfl rfl ?_
            refine gf_X11_47 C dX11_enter_118 ?_
            try simp only [gNN, gNI, gNJ, gIN, gII, gIJ, gJN, gJI, gJJ, Nat.reduceEqDiff, false_and, and_false, true_and, and_true, if_false, if_true]
            refine V_iconst C (nI 4) dX11_enter_121 (by decide) ?_
            refine V_iload C dX11_enter_122 rfl ?_
            refine V_imulN C dX11_enter_124 ?_
            refine V_iload C dX11_enter_125 rfl ?_
            refine V_iaddN C dX11_enter_127 ?_
            refine V_lconst C (lN 0) dX11_enter_128 (by decide) ?_
            refine st_53 C (by omega) dX11_enter_129 ?_
            refine V_iincN (lv' := [(5, _), (4, _), (0, _), (1, _), (2, _)]) C dX11_enter_130 rfl (b := 1) (by decide) (by decide) rfl ?_
            refine V_goto (tgt := 111) C dX11_enter_133 (by decide) ?_
            refine V_iload C dX11_enter_111 rfl ?_
            refine V_iconst C (nI 4) dX11_enter_113 (by decide) ?_
            refine V_icmpN_ge (tgt := 136) C dX11_enter_114 (by omega) (by omega) (by decide) (fun h114 => by omega) (fun h114 => ?_)
            clear h114
            refine V_aload_n C dX11_enter_117 rfl rfl ?_
            refine gf_X11_47 C dX11_enter_118 ?_
            try simp only [gNN, gNI, gNJ, gIN, gII, gIJ, gJN, gJI, gJJ, Nat.reduceEqDiff, false_and, and_false, true_and, and_true, if_false, if_true]
            refine V_iconst C (nI 4) dX11_enter_121 (by decide) ?_
            refine V_iload C dX11_enter_122 rfl ?_
            refine V_imulN C dX11_enter_124 ?_
            refine V_iload C dX11_enter_125 rfl ?_
            refine V_iaddN C dX11_enter_127 ?_
            refine V_lconst C (lN 0) dX11_enter_128 (by decide) ?_
            refine st_53 C (by omega) dX11_enter_129 ?_
            refine V_iincN (lv' := [(5, _), (4, _), (0, _), (1, _), (2, _)]) C dX11_enter_130 rfl (b := 1) (by decide) (by decide) rfl ?_
            refine V_goto (tgt := 111) C dX11_enter_133 (by decide) ?_
            refine V_iload C dX11_enter_111 rfl ?_
            refine V_iconst C (nI 4) dX11_enter_113 (by decide) ?_
            refine V_icmpN_ge (tgt := 136) C dX11_enter_114 (by omega) (by omega) (by decide) (fun h114 => by omega) (fun h114 => ?_)
            clear h114
            refine V_aload_n C dX11_enter_117 rfl rfl ?_
            refine gf_X11_47 C dX11_enter_118 ?_
            try simp only [gNN, gNI, gNJ, gIN, gII, gIJ, gJN, gJI, gJJ, Nat.reduceEqDiff, false_and, and_false, true_and, and_true, if_false, if_true]
            refine V_iconst C (nI 4) dX11_enter_121 (by decide) ?_
            refine V_iload C dX11_enter_122 rfl ?_
            refine V_imulN C dX11_enter_124 ?_
            refine V_iload C dX11_enter_125 rfl ?_
            refine V_iaddN C dX11_enter_127 ?_
            refine V_lconst C (lN 0) dX11_enter_128 (by decide) ?_
            refine st_53 C (by omega) dX11_enter_129 ?_
            refine V_iincN (lv' := [(5, _), (4, _), (0, _), (1, _), (2, _)]) C dX11_enter_130 rfl (b := 1) (by decide) (by decide) rfl ?_
            refine V_goto (tgt := 111) C dX11_enter_133 (by decide) ?_
            refine V_iload C dX11_enter_111 rfl ?_
            refine V_iconst C (nI 4) dX11_enter_113 (by decide) ?_
            refine V_icmpN_ge (tgt := 136) C dX11_enter_114 (by omega) (by omega) (by decide) (fun h114 => ?_) (fun h114 => by omega)
            clear h114
            refine V_aload_n C dX11_enter_136 rfl rfl ?_
            refine gf_X11_50 C dX11_enter_137 ?_
            try simp only [gNN, gNI, gNJ, gIN, gII, gIJ, gJN, gJI, gJJ, Nat.reduceEqDiff, false_and, and_false, true_and, and_true, if_false, if_true]
            refine V_iload C dX11_enter_140 rfl ?_
            refine V_iconst C (-1) dX11_enter_142 (by decide) ?_
            refine st_54 C (by omega) dX11_enter_143 ?_
            refine V_aload_n C dX11_enter_144 rfl rfl ?_
            refine gf_X11_59 C dX11_enter_145 ?_
            try simp only [gNN, gNI, gNJ, gIN, gII, gIJ, gJN, gJI, gJJ, Nat.reduceEqDiff, false_and, and_false, true_and, and_true, if_false, if_true]
            refine V_iload C dX11_enter_148 rfl ?_
            refine V_iconst C (nI 0) dX11_enter_150 (by decide) ?_
            refine st_57 C (by omega) dX11_enter_151 ?_
            refine V_aload_n C dX11_enter_152 rfl rfl ?_
            refine gf_X11_62 C dX11_enter_153 ?_
            try simp only [gNN, gNI, gNJ, gIN, gII, gIJ, gJN, gJI, gJJ, Nat.reduceEqDiff, false_and, and_false, true_and, and_true, if_false, if_true]
            refine V_iload C dX11_enter_156 rfl ?_
            refine V_iconst C (nI 0) dX11_enter_158 (by decide) ?_
            refine st_58 C (by omega) dX11_enter_159 ?_
            refine V_iconst C (nI 0) dX11_enter_160 (by decide) ?_
            refine V_istore (lv' := [(5, _), (4, _), (0, _), (1, _), (2, _)]) C dX11_enter_161 (by decide) rfl ?_
            refine V_iload C dX11_enter_163 rfl ?_
            refine V_iconst C (nI 3) dX11_enter_165 (by decide) ?_
            refine V_icmpN_ge (tgt := 188) C dX11_enter_166 (by omega) (by omega) (by decide) (fun h166 => by omega) (fun h166 => ?_)
            clear h166
            refine V_aload_n C dX11_enter_169 rfl rfl ?_
            refine gf_X11_65 C dX11_enter_170 ?_
            try simp only [gNN, gNI, gNJ, gIN, gII, gIJ, gJN, gJI, gJJ, Nat.reduceEqDiff, false_and, and_false, true_and, and_true, if_false, if_true]
            refine V_iconst C (nI 3) dX11_enter_173 (by decide) ?_
            refine V_iload C dX11_enter_174 rfl ?_
            refine V_imulN C dX11_enter_176 ?_
            refine V_iload C dX11_enter_177 rfl ?_
            refine V_iaddN C dX11_enter_179 ?_
            refine V_iconst C (nI 0) dX11_enter_180 (by decide) ?_
            refine st_59 C (by omega) dX11_enter_181 ?_
            refine V_iincN (lv' := [(5, _), (4, _), (0, _), (1, _), (2, _)]) C dX11_enter_182 rfl (b := 1) (by decide) (by decide) rfl ?_
            refine V_goto (tgt := 163) C dX11_enter_185 (by decide) ?_
            refine V_iload C dX11_enter_163 rfl ?_
            refine V_iconst C (nI 3) dX11_enter_165 (by decide) ?_
            refine V_icmpN_ge (tgt := 188) C dX11_enter_166 (by omega) (by omega) (by decide) (fun h166 => by omega) (fun h166 => ?_)
            clear h166
            refine V_aload_n C dX11_enter_169 rfl rfl ?_
            refine gf_X11_65 C dX11_enter_170 ?_
            try simp only [gNN, gNI, gNJ, gIN, gII, gIJ, gJN, gJI, gJJ, Nat.reduceEqDiff, false_and, and_false, true_and, and_true, if_false, if_true]
            refine V_iconst C (nI 3) dX11_enter_173 (by decide) ?_
            refine V_iload C dX11_enter_174 rfl ?_
            refine V_imulN C dX11_enter_176 ?_
            refine V_iload C dX11_enter_177 rfl ?_
            refine V_iaddN C dX11_enter_179 ?_
            refine V_iconst C (nI 0) dX11_enter_180 (by decide) ?_
            refine st_59 C (by omega) dX11_enter_181 ?_
            refine V_iincN (lv' := [(5, _), (4, _), (0, _), (1, _), (2, _)]) C dX11_enter_182 rfl (b := 1) (by decide) (by decide) rfl ?_
            refine V_goto (tgt := 163) C dX11_enter_185 (by decide) ?_
            refine V_iload C dX11_enter_163 rfl ?_
            refine V_iconst C (nI 3) dX11_enter_165 (by decide) ?_
            refine V_icmpN_ge (tgt := 188) C dX11_enter_166 (by omega) (by omega) (by decide) (fun h166 => by omega) (fun h166 => ?_)
            clear h166
            refine V_aload_n C dX11_enter_169 rfl rfl ?_
            refine gf_X11_65 C dX11_enter_170 ?_
            try simp only [gNN, gNI, gNJ, gIN, gII, gIJ, gJN, gJI, gJJ, Nat.reduceEqDiff, false_and, and_false, true_and, and_true, if_false, if_true]
            refine V_iconst C (nI 3) dX11_enter_173 (by decide) ?_
            refine V_iload C dX11_enter_174 rfl ?_
            refine V_imulN C dX11_enter_176 ?_
            refine V_iload C dX11_enter_177 rfl ?_
            refine V_iaddN C dX11_enter_179 ?_
            refine V_iconst C (nI 0) dX11_enter_180 (by decide) ?_
            refine st_59 C (by omega) dX11_enter_181 ?_
            refine V_iincN (lv' := [(5, _), (4, _), (0, _), (1, _), (2, _)]) C dX11_enter_182 rfl (b := 1) (by decide) (by decide) rfl ?_
            refine V_goto (tgt := 163) C dX11_enter_185 (by decide) ?_
            refine V_iload C dX11_enter_163 rfl ?_
            refine V_iconst C (nI 3) dX11_enter_165 (by decide) ?_
            refine V_icmpN_ge (tgt := 188) C dX11_enter_166 (by omega) (by omega) (by decide) (fun h166 => ?_) (fun h166 => by omega)
            clear h166
            refine V_vret C E dX11_enter_188 ?_
            refine ⟨rfl, Or.inr ⟨h5, h13, by omega, Or.inr ⟨h36, ?_⟩⟩⟩
            unfold rPush
            rw [show gN (sN M 40 0 29 (gN M 40 0 29 + 1)) 40 0 11 = gN M 40 0 11 by simp [gNN], show gN (sN M 40 0 29 (gN M 40 0 29 + 1)) 40 0 30 = gN M 40 0 30 by simp [gNN]]
            first | (rw [show max (gN M 40 0 30) (gN M 40 0 11 + 1) = gN M 40 0 11 + 1 by omega]; rfl) | (rw [show max (gN M 40 0 30) (gN M 40 0 11 + 1) = gN M 40 0 30 by omega]; rfl)
        · skip
          rw [if_neg h36]
          refine V_vret C E dX11_enter_39 ?_
          exact ⟨rfl, Or.inr ⟨h5, h13, by omega, Or.inl ⟨h36, rfl⟩⟩⟩
      · skip
        refine V_aload_n C dX11_enter_25 rfl rfl ?_
        refine V_iconst C (nI 1) dX11_enter_26 (by decide) ?_
        refine pf_X11_143 C (by decide) dX11_enter_27 ?_
        refine V_vret C E dX11_enter_30 ?_
        first | exact ⟨rfl, Or.inl ⟨Or.inl h5, rfl⟩⟩ | exact ⟨rfl, Or.inl ⟨Or.inr (Or.inl h13), rfl⟩⟩ | exact ⟨rfl, Or.inl ⟨Or.inr (Or.inr h22), rfl⟩⟩

set_option maxRecDepth 20000 in
set_option maxHeartbeats 4000000 in
theorem ct_X11_leave {l : Launch} {G : Gm} {M : Mem} (hd : 1 ≤ gN M 40 0 11) (hd2 : gN M 40 0 11 ≤ 12) : Ct l G rM yX11_leave (.code yX11_leave cX11_leave 2 none :: GW) rmX11_leave [.ref (ad G 40 0)] M (fun r M' => none = r ∧ rLeave M = M') := by
  refine Ct_of (cc := cX11_leave) (by decide) [(0, _)] rfl (Nat.le_of_ble_eq_true rfl) (fun pp ee ss mm aa bb mt cd C E => ?_)
  refine V_aload_n C dX11_leave_0 rfl rfl ?_
  refine V_dup C dX11_leave_1 rfl ?_
  refine gf_X11_147 C dX11_leave_2 ?_
  try simp only [gNN, gNI, gNJ, gIN, gII, gIJ, gJN, gJI, gJJ, Nat.reduceEqDiff, false_and, and_false, true_and, and_true, if_false, if_true]
  refine V_iconst C (nI 1) dX11_leave_5 (by decide) ?_
  refine V_isubN C dX11_leave_6 (by omega) ?_
  refine pf_X11_147 C dX11_leave_7 ?_
  refine V_iconst C (nI 0) dX11_leave_10 (by decide) ?_
  refine V_istore_n (lv' := [(1, _), (0, _)]) C dX11_leave_11 rfl (by decide) rfl ?_
  refine V_iload_n C dX11_leave_12 rfl rfl ?_
  refine V_iconst C (nI 3) dX11_leave_13 (by decide) ?_
  refine V_icmpN_ge (tgt := 45) C dX11_leave_14 (by omega) (by omega) (by decide) (fun h14 => by omega) (fun h14 => ?_)
  clear h14
  refine V_aload_n C dX11_leave_17 rfl rfl ?_
  refine V_dup C dX11_leave_18 rfl ?_
  refine gf_X11_157 C dX11_leave_19 ?_
  try simp only [gNN, gNI, gNJ, gIN, gII, gIJ, gJN, gJI, gJJ, Nat.reduceEqDiff, false_and, and_false, true_and, and_true, if_false, if_true]
  refine V_aload_n C dX11_leave_22 rfl rfl ?_
  refine gf_X11_65 C dX11_leave_23 ?_
  try simp only [gNN, gNI, gNJ, gIN, gII, gIJ, gJN, gJI, gJJ, Nat.reduceEqDiff, false_and, and_false, true_and, and_true, if_false, if_true]
  refine V_iconst C (nI 3) dX11_leave_26 (by decide) ?_
  refine V_aload_n C dX11_leave_27 rfl rfl ?_
  refine gf_X11_147 C dX11_leave_28 ?_
  try simp only [gNN, gNI, gNJ, gIN, gII, gIJ, gJN, gJI, gJJ, Nat.reduceEqDiff, false_and, and_false, true_and, and_true, if_false, if_true]
  refine V_imulN C dX11_leave_31 ?_
  refine V_iload_n C dX11_leave_32 rfl rfl ?_
  refine V_iaddN C dX11_leave_33 ?_
  refine ld_59 C (by omega) dX11_leave_34 ?_
  try simp only [gNN, gNI, gNJ, gIN, gII, gIJ, gJN, gJI, gJJ, Nat.reduceEqDiff, false_and, and_false, true_and, and_true, if_false, if_true]
  refine V_isub C dX11_leave_35 ?_
  refine pf_X11_157 C dX11_leave_36 ?_
  refine V_iincN (lv' := [(1, _), (0, _)]) C dX11_leave_39 rfl (b := 1) (by decide) (by decide) rfl ?_
  refine V_goto (tgt := 12) C dX11_leave_42 (by decide) ?_
  refine V_iload_n C dX11_leave_12 rfl rfl ?_
  refine V_iconst C (nI 3) dX11_leave_13 (by decide) ?_
  refine V_icmpN_ge (tgt := 45) C dX11_leave_14 (by omega) (by omega) (by decide) (fun h14 => by omega) (fun h14 => ?_)
  clear h14
  refine V_aload_n C dX11_leave_17 rfl rfl ?_
  refine V_dup C dX11_leave_18 rfl ?_
  refine gf_X11_157 C dX11_leave_19 ?_
  try simp only [gNN, gNI, gNJ, gIN, gII, gIJ, gJN, gJI, gJJ, Nat.reduceEqDiff, false_and, and_false, true_and, and_true, if_false, if_true]
  refine V_aload_n C dX11_leave_22 rfl rfl ?_
  refine gf_X11_65 C dX11_leave_23 ?_
  try simp only [gNN, gNI, gNJ, gIN, gII, gIJ, gJN, gJI, gJJ, Nat.reduceEqDiff, false_and, and_false, true_and, and_true, if_false, if_true]
  refine V_iconst C (nI 3) dX11_leave_26 (by decide) ?_
  refine V_aload_n C dX11_leave_27 rfl rfl ?_
  refine gf_X11_147 C dX11_leave_28 ?_
  try simp only [gNN, gNI, gNJ, gIN, gII, gIJ, gJN, gJI, gJJ, Nat.reduceEqDiff, false_and, and_false, true_and, and_true, if_false, if_true]
  refine V_imulN C dX11_leave_31 ?_
  refine V_iload_n C dX11_leave_32 rfl rfl ?_
  refine V_iaddN C dX11_leave_33 ?_
  refine ld_59 C (by omega) dX11_leave_34 ?_
  try simp only [gNN, gNI, gNJ, gIN, gII, gIJ, gJN, gJI, gJJ, Nat.reduceEqDiff, false_and, and_false, true_and, and_true, if_false, if_true]
  refine V_isub C dX11_leave_35 ?_
  refine pf_X11_157 C dX11_leave_36 ?_
  refine V_iincN (lv' := [(1, _), (0, _)]) C dX11_leave_39 rfl (b := 1) (by decide) (by decide) rfl ?_
  refine V_goto (tgt := 12) C dX11_leave_42 (by decide) ?_
  refine V_iload_n C dX11_leave_12 rfl rfl ?_
  refine V_iconst C (nI 3) dX11_leave_13 (by decide) ?_
  refine V_icmpN_ge (tgt := 45) C dX11_leave_14 (by omega) (by omega) (by decide) (fun h14 => by omega) (fun h14 => ?_)
  clear h14
  refine V_aload_n C dX11_leave_17 rfl rfl ?_
  refine V_dup C dX11_leave_18 rfl ?_
  refine gf_X11_157 C dX11_leave_19 ?_
  try simp only [gNN, gNI, gNJ, gIN, gII, gIJ, gJN, gJI, gJJ, Nat.reduceEqDiff, false_and, and_false, true_and, and_true, if_false, if_true]
  refine V_aload_n C dX11_leave_22 rfl rfl ?_
  refine gf_X11_65 C dX11_leave_23 ?_
  try simp only [gNN, gNI, gNJ, gIN, gII, gIJ, gJN, gJI, gJJ, Nat.reduceEqDiff, false_and, and_false, true_and, and_true, if_false, if_true]
  refine V_iconst C (nI 3) dX11_leave_26 (by decide) ?_
  refine V_aload_n C dX11_leave_27 rfl rfl ?_
  refine gf_X11_147 C dX11_leave_28 ?_
  try simp only [gNN, gNI, gNJ, gIN, gII, gIJ, gJN, gJI, gJJ, Nat.reduceEqDiff, false_and, and_false, true_and, and_true, if_false, if_true]
  refine V_imulN C dX11_leave_31 ?_
  refine V_iload_n C dX11_leave_32 rfl rfl ?_
  refine V_iaddN C dX11_leave_33 ?_
  refine ld_59 C (by omega) dX11_leave_34 ?_
  try simp only [gNN, gNI, gNJ, gIN, gII, gIJ, gJN, gJI, gJJ, Nat.reduceEqDiff, false_and, and_false, true_and, and_true, if_false, if_true]
  refine V_isub C dX11_leave_35 ?_
  refine pf_X11_157 C dX11_leave_36 ?_
  refine V_iincN (lv' := [(1, _), (0, _)]) C dX11_leave_39 rfl (b := 1) (by decide) (by decide) rfl ?_
  refine V_goto (tgt := 12) C dX11_leave_42 (by decide) ?_
  refine V_iload_n C dX11_leave_12 rfl rfl ?_
  refine V_iconst C (nI 3) dX11_leave_13 (by decide) ?_
  refine V_icmpN_ge (tgt := 45) C dX11_leave_14 (by omega) (by omega) (by decide) (fun h14 => ?_) (fun h14 => by omega)
  clear h14
  refine V_vret C E dX11_leave_45 ?_
  exact ⟨rfl, rfl⟩

set_option maxRecDepth 20000 in
set_option maxHeartbeats 4000000 in
theorem ct_X11_returns {l : Launch} {G : Gm} {M : Mem} {v : Int64} (hd : 1 ≤ gN M 40 0 11) (hd2 : gN M 40 0 11 ≤ 12) (hlo : ∀ g, gN M 40 0 11 = g + 2 → gN M 51 0 g < 6 ∧ RIm M (gN M 51 0 g) ∧ gN M 52 0 g < gN M 41 0 (gN M 51 0 g))  : Ct l G rM yX11_returns (.code yX11_returns cX11_returns 5 none :: GW) rmX11_returns [.ref (ad G 40 0), .long v] M (fun r M' => none = r ∧ RGive M v M') := by
  refine Ct_of (cc := cX11_returns) (by decide) [(0, _), (1, _)] rfl (Nat.le_of_ble_eq_true rfl) (fun pp ee ss mm aa bb mt cd C E => ?_)
  refine V_aload_n C dX11_returns_0 rfl rfl ?_
  refine V_callV C [] (ct_X11_leave hd hd2) cv_X11_leave lk_X11_160 in_40 rfl rfl ⟨Nat.le_of_ble_eq_true rfl, Nat.le_of_ble_eq_true rfl⟩ rfl rfl (Nat.le_of_ble_eq_true rfl) dX11_returns_1 (fun r M' hr => ?_)
  obtain ⟨rfl, rfl⟩ := hr
  refine V_aload_n C dX11_returns_4 rfl rfl ?_
  refine gf_X11_147 C dX11_returns_5 ?_
  rw [rl_d]
  refine V_ifN_ne (tgt := 22) C dX11_returns_8 (by omega) (by decide) (fun h8 => ?_) (fun h8 => ?_)
  · skip
    obtain ⟨g, hg⟩ : ∃ g, gN M 40 0 11 = g + 2 := ⟨gN M 40 0 11 - 2, by omega⟩
    obtain ⟨l1, l2, l3⟩ := hlo g hg
    have lz := l2.1
    have lf := (l2.2.2.1 (gN M 52 0 g) (by omega)).2.1
    refine V_aload_n C dX11_returns_22 rfl rfl ?_
    refine gf_X11_147 C dX11_returns_23 ?_
    rw [rl_d]
    refine V_iconst C (nI 1) dX11_returns_26 (by decide) ?_
    refine V_isubN C dX11_returns_27 (by omega) ?_
    rw [show gN M 40 0 11 - 1 - 1 = g by omega]
    refine V_istore_n (lv' := [(3, _), (0, _), (1, _)]) C dX11_returns_28 rfl (by decide) rfl ?_
    refine V_bipush C (nI 40) dX11_returns_29 (by decide) ?_
    refine V_aload_n C dX11_returns_31 rfl rfl ?_
    refine gf_X11_41 C dX11_returns_32 ?_
    refine V_iload_n C dX11_returns_35 rfl rfl ?_
    refine ld_51 C (by omega) dX11_returns_36 ?_
    rw [rl_N 51 0 _ (by omega)]
    refine V_imulN C dX11_returns_37 ?_
    refine V_aload_n C dX11_returns_38 rfl rfl ?_
    refine gf_X11_44 C dX11_returns_39 ?_
    refine V_iload_n C dX11_returns_42 rfl rfl ?_
    refine ld_52 C (by omega) dX11_returns_43 ?_
    rw [rl_N 52 0 _ (by omega)]
    refine V_iaddN C dX11_returns_44 ?_
    refine V_istore (lv' := [(4, _), (3, _), (0, _), (1, _)]) C dX11_returns_45 (by decide) rfl ?_
    refine V_aload_n C dX11_returns_47 rfl rfl ?_
    refine gf_X11_47 C dX11_returns_48 ?_
    refine V_iconst C (nI 4) dX11_returns_51 (by decide) ?_
    refine V_iload_n C dX11_returns_52 rfl rfl ?_
    refine V_imulN C dX11_returns_53 ?_
    refine V_aload_n C dX11_returns_54 rfl rfl ?_
    refine gf_X11_16 C dX11_returns_55 ?_
    refine V_iload C dX11_returns_58 rfl ?_
    refine ld_43 C (by omega) dX11_returns_60 ?_
    rw [rl_N 43 0 _ (by omega)]
    refine V_iaddN C dX11_returns_61 ?_
    refine V_lload_n C dX11_returns_62 rfl rfl ?_
    refine st_53 C (by omega) dX11_returns_63 ?_
    refine V_aload_n C dX11_returns_64 rfl rfl ?_
    refine gf_X11_44 C dX11_returns_65 ?_
    refine V_iload_n C dX11_returns_68 rfl rfl ?_
    refine V_dup2 C dX11_returns_69 rfl rfl ?_
    refine ld_52 C (by omega) dX11_returns_70 ?_
    rw [gNJ, rl_N 52 0 _ (by omega)]
    refine V_iconst C (nI 1) dX11_returns_71 (by decide) ?_
    refine V_iaddN C dX11_returns_72 ?_
    refine st_52 C (by omega) dX11_returns_73 ?_
    refine V_vret C E dX11_returns_74 ?_
    exact ⟨rfl, Or.inr ⟨g, hg, rfl⟩⟩
  · skip
    refine V_aload_n C dX11_returns_11 rfl rfl ?_
    refine V_iconst C (nI 1) dX11_returns_12 (by decide) ?_
    refine pf_X11_163 C (by decide) dX11_returns_13 ?_
    refine V_aload_n C dX11_returns_16 rfl rfl ?_
    refine V_lload_n C dX11_returns_17 rfl rfl ?_
    refine pf_X11_166 C dX11_returns_18 ?_
    refine V_vret C E dX11_returns_21 ?_
    exact ⟨rfl, Or.inl ⟨by omega, rfl⟩⟩

set_option maxRecDepth 20000 in
set_option maxHeartbeats 4000000 in
theorem ct_X11_takes {l : Launch} {G : Gm} {M : Mem} {f h : Nat} (hf : f < 12) (hh : h < 24) (hm6 : gN M 51 0 f < 6) (hm : RIm M (gN M 51 0 f)) (ha : gN M 49 0 h ≤ 40) (ht : gN M 40 0 31 ≤ 30) (h1 : gN M 40 0 29 ≤ gN M 40 0 23) (h2 : gN M 40 0 23 ≤ 200)  : Ct l G rM yX11_takes (.code yX11_takes cX11_takes 3 none :: GW) rmX11_takes [.ref (ad G 40 0), .int (nI f), .int (nI h)] M (fun r M' => none = r ∧ RTake M f h M') := by
  have hs := hm.1
  refine Ct_of (cc := cX11_takes) (by decide) [(0, _), (1, _), (2, _)] rfl (Nat.le_of_ble_eq_true rfl) (fun pp ee ss mm aa bb mt cd C E => ?_)
  refine V_aload_n C dX11_takes_0 rfl rfl ?_
  refine gf_X11_180 C dX11_takes_1 ?_
  try simp only [gNN, gNI, gNJ, gIN, gII, gIJ, gJN, gJI, gJJ, Nat.reduceEqDiff, false_and, and_false, true_and, and_true, if_false, if_true]
  refine V_bipush C (nI 30) dX11_takes_4 (by decide) ?_
  refine V_icmpN_ne (tgt := 15) C dX11_takes_6 (by omega) (by omega) (by decide) (fun h6 => ?_) (fun h6 => ?_)
  · skip
    refine V_aload_n C dX11_takes_15 rfl rfl ?_
    refine V_lconst C (lN 1) dX11_takes_16 (by decide) ?_
    refine V_callV C [_] (ct_X11_counts h1 h2 (by omega)) cv_X11_counts lk_X11_150 in_40 rfl rfl ⟨Nat.le_of_ble_eq_true rfl, Nat.le_of_ble_eq_true rfl⟩ rfl rfl (Nat.le_of_ble_eq_true rfl) dX11_takes_17 (fun r M' hr => ?_)
    obtain ⟨rfl, rfl⟩ := hr
    try simp only [gNN, gNI, gNJ, gIN, gII, gIJ, gJN, gJI, gJJ, Nat.reduceEqDiff, false_and, and_false, true_and, and_true, if_false, if_true]
    refine V_ifB_ne (tgt := 24) C dX11_takes_20 (by decide) (fun h20 => ?_) (fun h20 => ?_)
    · skip
      rw [if_pos h20]
      refine V_aload_n C dX11_takes_24 rfl rfl ?_
      refine V_dup C dX11_takes_25 rfl ?_
      refine gf_X11_180 C dX11_takes_26 ?_
      try simp only [gNN, gNI, gNJ, gIN, gII, gIJ, gJN, gJI, gJJ, Nat.reduceEqDiff, false_and, and_false, true_and, and_true, if_false, if_true]
      refine V_iconst C (nI 1) dX11_takes_29 (by decide) ?_
      refine V_iaddN C dX11_takes_30 ?_
      refine pf_X11_180 C dX11_takes_31 ?_
      refine V_aload_n C dX11_takes_34 rfl rfl ?_
      refine gf_X11_59 C dX11_takes_35 ?_
      try simp only [gNN, gNI, gNJ, gIN, gII, gIJ, gJN, gJI, gJJ, Nat.reduceEqDiff, false_and, and_false, true_and, and_true, if_false, if_true]
      refine V_iload_n C dX11_takes_38 rfl rfl ?_
      refine V_aload_n C dX11_takes_39 rfl rfl ?_
      refine gf_X11_170 C dX11_takes_40 ?_
      try simp only [gNN, gNI, gNJ, gIN, gII, gIJ, gJN, gJI, gJJ, Nat.reduceEqDiff, false_and, and_false, true_and, and_true, if_false, if_true]
      refine st_57 C (by omega) dX11_takes_43 ?_
      refine V_aload_n C dX11_takes_44 rfl rfl ?_
      refine gf_X11_62 C dX11_takes_45 ?_
      try simp only [gNN, gNI, gNJ, gIN, gII, gIJ, gJN, gJI, gJJ, Nat.reduceEqDiff, false_and, and_false, true_and, and_true, if_false, if_true]
      refine V_iload_n C dX11_takes_48 rfl rfl ?_
      refine V_aload_n C dX11_takes_49 rfl rfl ?_
      refine gf_X11_173 C dX11_takes_50 ?_
      try simp only [gNN, gNI, gNJ, gIN, gII, gIJ, gJN, gJI, gJJ, Nat.reduceEqDiff, false_and, and_false, true_and, and_true, if_false, if_true]
      refine st_58 C (by omega) dX11_takes_53 ?_
      refine V_aload_n C dX11_takes_54 rfl rfl ?_
      refine V_iconst C (nI 0) dX11_takes_55 (by decide) ?_
      refine pf_X11_170 C dX11_takes_56 ?_
      refine V_aload_n C dX11_takes_59 rfl rfl ?_
      refine V_iconst C (nI 0) dX11_takes_60 (by decide) ?_
      refine pf_X11_173 C dX11_takes_61 ?_
      refine V_aload_n C dX11_takes_64 rfl rfl ?_
      refine gf_X11_44 C dX11_takes_65 ?_
      try simp only [gNN, gNI, gNJ, gIN, gII, gIJ, gJN, gJI, gJJ, Nat.reduceEqDiff, false_and, and_false, true_and, and_true, if_false, if_true]
      refine V_iload_n C dX11_takes_68 rfl rfl ?_
      refine V_aload_n C dX11_takes_69 rfl rfl ?_
      refine gf_X11_35 C dX11_takes_70 ?_
      try simp only [gNN, gNI, gNJ, gIN, gII, gIJ, gJN, gJI, gJJ, Nat.reduceEqDiff, false_and, and_false, true_and, and_true, if_false, if_true]
      refine V_iload_n C dX11_takes_73 rfl rfl ?_
      refine ld_49 C (by omega) dX11_takes_74 ?_
      try simp only [gNN, gNI, gNJ, gIN, gII, gIJ, gJN, gJI, gJJ, Nat.reduceEqDiff, false_and, and_false, true_and, and_true, if_false, if_true]
      refine V_aload_n C dX11_takes_75 rfl rfl ?_
      refine gf_X11_7 C dX11_takes_76 ?_
      try simp only [gNN, gNI, gNJ, gIN, gII, gIJ, gJN, gJI, gJJ, Nat.reduceEqDiff, false_and, and_false, true_and, and_true, if_false, if_true]
      refine V_aload_n C dX11_takes_79 rfl rfl ?_
      refine gf_X11_41 C dX11_takes_80 ?_
      try simp only [gNN, gNI, gNJ, gIN, gII, gIJ, gJN, gJI, gJJ, Nat.reduceEqDiff, false_and, and_false, true_and, and_true, if_false, if_true]
      refine V_iload_n C dX11_takes_83 rfl rfl ?_
      refine ld_51 C (by omega) dX11_takes_84 ?_
      try simp only [gNN, gNI, gNJ, gIN, gII, gIJ, gJN, gJI, gJJ, Nat.reduceEqDiff, false_and, and_false, true_and, and_true, if_false, if_true]
      refine ld_41 C (by omega) dX11_takes_85 ?_
      try simp only [gNN, gNI, gNJ, gIN, gII, gIJ, gJN, gJI, gJJ, Nat.reduceEqDiff, false_and, and_false, true_and, and_true, if_false, if_true]
      refine V_callS C [_, _] (ct_X11_lesser (by omega) (by omega)) cs_X11_lesser rfl lk_X11_116 ⟨Nat.le_of_ble_eq_true rfl, Nat.le_of_ble_eq_true rfl⟩ rfl rfl (Nat.le_of_ble_eq_true rfl) dX11_takes_86 (fun r M' hr => ?_)
      obtain ⟨rfl, rfl⟩ := hr
      try simp only [gNN, gNI, gNJ, gIN, gII, gIJ, gJN, gJI, gJJ, Nat.reduceEqDiff, false_and, and_false, true_and, and_true, if_false, if_true]
      refine st_52 C (by omega) dX11_takes_89 ?_
      refine V_vret C E dX11_takes_90 ?_
      exact ⟨rfl, Or.inr ⟨by omega, Or.inr ⟨h20, rfl⟩⟩⟩
    · skip
      rw [if_neg h20]
      refine V_vret C E dX11_takes_23 ?_
      exact ⟨rfl, Or.inr ⟨by omega, Or.inl ⟨h20, rfl⟩⟩⟩
  · skip
    refine V_aload_n C dX11_takes_9 rfl rfl ?_
    refine V_iconst C (nI 1) dX11_takes_10 (by decide) ?_
    refine pf_X11_143 C (by decide) dX11_takes_11 ?_
    refine V_vret C E dX11_takes_14 ?_
    exact ⟨rfl, Or.inl ⟨by omega, rfl⟩⟩

