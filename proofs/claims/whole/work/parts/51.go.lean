theorem CA.pre {pk : Nat} {M N : Mem} {f : Nat} (h : CA pk M N f) : gN M 10 (gN N 51 0 f) 4 = gN N 41 0 (gN N 51 0 f) ∧ 1 ≤ gN M 2 0 3 ∧ gN M 2 0 3 ≤ 12 ∧ (∀ g, gN M 2 0 3 = g + 2 → FrOK M g (gN M 30 g 3) ∧ gN M 30 g 4 < gN M 10 (gN M 30 g 3) 4) ∧ gN M 7 0 4 ≤ 12 ∧ gN M 33 f 2 ≤ 200 ∧ (∀ g, g ≤ 2 → gN M 32 f g ≤ 2000) ∧ gN M 30 f 7 ≤ 8 ∧ gN M 7 0 1 ≤ gN M 7 0 0 ∧ gN M 7 0 0 ≤ 200 ∧ gN M 7 0 5 ≤ 30 ∧ (∀ g, g < gN M 2 0 3 → FrOK M g (gN M 30 g 3) ∧ gN M 30 g 4 ≤ 40) := by
  obtain ⟨f1, f2, f3, f4⟩ := h.f
  have hz := h.z
  obtain ⟨c1, c2, c3, c4, c5, c6, c7, c8, c9, c10, c11⟩ := h
  have hsc := c1.2.2.2.2.2.2.2
  unfold Sca at hsc
  obtain ⟨s1, s2, s3, s4, s5, s6, s7, s8, s9, s10, s11⟩ := c7
  have hq : gN M 7 0 1 = gN N 40 0 29 := c8
  have hFr := c1.2.2.2.2.1 f (by omega)
  have hall : ∀ g, g < f + 1 → FrOK M g (gN M 30 g 3) ∧ gN M 30 g 4 = gN N 52 0 g ∧ gN M 30 g 3 = gN N 51 0 g := fun g hg => by
    have hr := c1.2.2.2.2.1 g hg
    obtain ⟨q1, q2⟩ := hz.2.2.2.1 g hg
    have := frOK c2 hr q1
    exact ⟨by rw [q1.1]; exact this, q2.2.1, q1.1⟩
  have hsz : ∀ g, g < f + 1 → gN M 10 (gN M 30 g 3) 4 = gN N 41 0 (gN N 51 0 g) ∧ gN N 41 0 (gN N 51 0 g) ≤ 40 := fun g hg => by
    have hr := (c1.2.2.2.2.1 g hg).1
    have h6 := c1.1.1
    rw [(hall g hg).2.2]
    exact ⟨(c2.sz (by omega)).1, (c2.sz (c := gN N 51 0 g) (by omega)).2.2.1⟩
  refine ⟨(c2.sz f2).1, by omega, by omega, fun g hg => ?_, by omega, c5.2.2.2.2.1, fun g hg => ?_, ?_, by omega, by omega, by omega, fun g hg => ?_⟩
  · have hg2 : g < f + 1 := by omega
    refine ⟨(hall g hg2).1, ?_⟩
    rw [(hall g hg2).2.1, (hsz g hg2).1]
    exact c1.2.2.2.2.2.1 g (by omega)
  · rw [c5.2.2.1 g hg]
    have := hFr.2.2.2.1 g hg
    omega
  · rw [c5.2.2.2.2.2.2.1]
    exact hFr.2.2.2.2.1
  · have hg2 : g < f + 1 := by omega
    refine ⟨(hall g hg2).1, ?_⟩
    rw [(hall g hg2).2.1]
    have := (c1.2.2.2.2.1 g hg2).2.2.1
    have := (hsz g hg2).2
    omega
theorem CG.pre {pk : Nat} {M N : Mem} {f : Nat} (h : CG pk M N f) (hm : RMI N (f + 1)) : f < 12 ∧ FrOK M f (gN N 51 0 f) ∧ gN M 7 0 1 ≤ gN M 7 0 0 ∧ gN M 7 0 0 ≤ 200 ∧ gN M 7 0 8 = gN N 40 0 35 ∧ gN N 40 0 35 ≤ 2000 := by
  obtain ⟨c1, c2, c3, c4, c5, c6, c7, c8, c9, c10, c11⟩ := h
  have hsc := hm.2.2.2.2.2.2.2
  unfold Sca at hsc
  have hF := frOK c2 (hm.2.2.2.2.1 f (by omega)) c5
  obtain ⟨s1, s2, s3, s4, s5, s6, s7, s8, s9, s10, s11⟩ := c6
  have h12 := hm.2.2.1
  refine ⟨by omega, hF, ?_, by omega, s7, by omega⟩
  rcases c11 with ⟨-, q⟩ | ⟨-, q⟩
  · have : gN M 7 0 1 = gN N 40 0 29 := q
    omega
  · omega
theorem CG.p3 {M N : Mem} {f : Nat} (h : CG 3 M N f) (hm : RMI N (f + 1)) : (Pos 3 M f (gN N 51 0 f) (gN N 52 0 f) ∧ gN N 40 0 29 = gN M 7 0 1) ∨ (Pend 3 M f (gN N 51 0 f) (gN N 52 0 f) ∧ gN M 7 0 1 < gN M 7 0 0 ∧ gN N 40 0 29 = gN M 7 0 1 + 1) := by
  have hsc := hm.2.2.2.2.2.2.2
  unfold Sca at hsc
  have s2 := h.2.2.2.2.2.1.2.1
  rcases h.2.2.2.2.2.2.2.2.2.2 with ⟨a, b⟩ | ⟨a, b⟩
  · exact Or.inl ⟨a, Eq.symm b⟩
  · exact Or.inr ⟨a, by omega, by omega⟩
theorem CG.p4 {M N : Mem} {f : Nat} (h : CG 4 M N f) : Pos 4 M f (gN N 51 0 f) (gN N 52 0 f) ∧ gN M 7 0 1 = gN N 40 0 29 := by
  rcases h.2.2.2.2.2.2.2.2.2.2 with ⟨a, b⟩ | ⟨a, b⟩
  · exact ⟨a, b⟩
  · exact absurd a.1 (by decide)
theorem CE_no {M N : Mem} (h : CE M N) (h6 : gI M 2 0 6 = -1) : False := by
  rcases h.2 with ⟨q, -⟩ | ⟨q, -⟩ | ⟨q, -⟩ <;> (rw [h6] at q; exact absurd q (by decide))
theorem CE_out {M N : Mem} (h : CE M N) : ¬ gI M 2 0 6 = -1 := fun q => CE_no h q
theorem RunR_s {k : Nat} {N N1 : Mem} (h : RunR k N N1) (h1 : gN N 40 0 24 = 0) (h2 : gN N 40 0 25 = 0) : ∃ k' X, TurnR N X ∧ RunR k' X N1 := by
  cases k with
  | zero => exact absurd h.1 (by omega)
  | succ k => obtain ⟨-, -, X, a, b⟩ := h; exact ⟨k, X, a, b⟩
theorem RunR_e {k : Nat} {N N1 : Mem} (h : RunR k N N1) (h1 : gN N 40 0 24 = 1 ∨ gN N 40 0 25 = 1) : N = N1 := by
  cases k with
  | zero => exact h.2
  | succ k => exact absurd h1 (by have := h.1; have := h.2.1; omega)
theorem CE.st {M N : Mem} (h : CE M N) : gN N 40 0 24 = 1 ∨ gN N 40 0 25 = 1 := by
  rcases h.2 with ⟨-, q, -⟩ | ⟨-, -, q, -⟩ | ⟨-, -, q, -⟩
  · exact Or.inl q
  · exact Or.inr q
  · exact Or.inr q
theorem Out.st {t b : Nat} {N : Mem} (h : Out t N) (hs : gN N 40 0 24 = 1) : Out b N := ⟨h.1, h.2.1, h.2.2.1, h.2.2.2.1, fun q => absurd q (by omega)⟩
/-- the end of a run -/
theorem go_end {M N N0 X : Mem} {c b k : Nat} {x : Int64} (hE : REnter (rInit N0 b) c x X) (hR : RunR k X N) (h : CE M N) : ∃ N', RunsP N0 c b x (some (.int (gI M 2 0 6))) N' ∧ CB M N' := by
  obtain ⟨hp, h⟩ := h
  rcases h with ⟨a, b1, hk, hq⟩ | ⟨a, b1, b2, b3, ht⟩ | ⟨a, b1, b2, b3, ht⟩
  · refine ⟨_, ⟨X, k, N, hE, hR, Or.inl ⟨b1, by rw [a], rfl⟩⟩, Pg_Sc hp ⟨fun _ _ _ _ _ => ⟨rfl, rfl, rfl⟩, rfl⟩ ((ScR_N (by omega)).tr (ScR_I (by omega))), ?_⟩
    obtain ⟨s1, s2, s3, s4, s5, s6, s7, s8, s9, s10, s11⟩ := hk
    have hq2 : gN M 7 0 1 = gN N 40 0 29 := hq
    simp only [Tl, gNN, gNI, gNJ, gIN, gII, gIJ, gJN, gJI, gJJ, Nat.reduceEqDiff, false_and, and_false, true_and, and_true, if_false, if_true]
    exact ⟨hq2, s10, s11, s3, s4, s5, s6, s7, s8.trans s9.symm⟩
  · exact ⟨_, ⟨X, k, N, hE, hR, Or.inr ⟨by omega, by rw [a, if_pos b3], rfl⟩⟩, hp, ht⟩
  · exact ⟨_, ⟨X, k, N, hE, hR, Or.inr ⟨by omega, by rw [a, if_neg b3], rfl⟩⟩, hp, ht⟩
def gStart (M : Mem) (b : Nat) : Mem := sI (sI (sN (sJ (sN (sI (sN (sN (sN (sI (sN (sN (sN M 7 0 0 b) 7 0 1 0) 7 0 2 0) 7 0 3 (nI 0)) 7 0 4 0) 7 0 5 0) 7 0 6 0) 7 0 7 (nI 0)) 7 0 8 0) 7 0 9 (lN 0)) 2 0 3 0) 2 0 4 (nI 0)) 2 0 6 (-1)
theorem gS_Sc {M : Mem} {b : Nat} : Sc M (gStart M b) := by
  unfold gStart
  exact (Sc_N (by omega)).tr ((Sc_N (by omega)).tr ((Sc_N (by omega)).tr ((Sc_I (by omega)).tr ((Sc_N (by omega)).tr ((Sc_N (by omega)).tr ((Sc_N (by omega)).tr ((Sc_I (by omega)).tr ((Sc_N (by omega)).tr ((Sc_J (by omega)).tr ((Sc_N (by omega)).tr ((Sc_I (by omega)).tr (Sc_I (by omega)))))))))))))
theorem gS_z {M N : Mem} {b pk : Nat} (h : Pg M N) : CZ pk (gStart M b) (rInit N b) 0 ∧ Kz 0 (rInit N b) := by
  obtain ⟨i1, i2, i3, i4, i5, i6, i7, i8, i9, i10, i11⟩ := ri_N (M := N) (b := b)
  refine ⟨⟨i2, Pg_Sc h gS_Sc ri_Sc, by simp [gStart, gNN, gNI, gNJ, gIN, gII, gIJ, gJN, gJI, gJJ], fun g hg => absurd hg (by omega), ?_, ?_, by simp [gStart, gNN, gNI, gNJ, gIN, gII, gIJ, gJN, gJI, gJJ], i4, i5⟩, i6, by simp [rInit, gNN, gNI, gNJ, gIN, gII, gIJ, gJN, gJI, gJJ], ?_, 0, ?_, ?_, ?_⟩
  · refine ⟨?_, ?_, ?_, ?_, ?_, ?_, ?_, ?_, ?_, ?_, ?_⟩ <;> simp [gStart, rInit, gNN, gNI, gNJ, gIN, gII, gIJ, gJN, gJI, gJJ]
  · simp [Sq, gStart, rInit, gNN, gNI, gNJ, gIN, gII, gIJ, gJN, gJI, gJJ]
  · rw [i2]; simp [rInit, sumH, gNN, gNI, gNJ, gIN, gII, gIJ, gJN, gJI, gJJ]
  · simp [rInit, gNN, gNI, gNJ, gIN, gII, gIJ, gJN, gJI, gJJ]
  · rw [i2]; simp [sumH]
  · omega
theorem gS_N {M : Mem} {b : Nat} : gN (gStart M b) 2 0 3 = 0 ∧ gN (gStart M b) 7 0 4 = 0 ∧ gN (gStart M b) 7 0 1 = 0 ∧ gN (gStart M b) 7 0 0 = b ∧ gN (gStart M b) 1 0 1 = gN M 1 0 1 := by
  simp [gStart, gNN, gNI, gNJ, gIN, gII, gIJ, gJN, gJI, gJJ]
theorem Rs_end {pk : Nat} {M N : Mem} (h : Rs pk M N) (h6 : ¬ gI M 2 0 6 = -1) : CE M N := by
  rcases h with ⟨f, h⟩ | h | h
  · exact absurd h.2.2.2.2.2.2.1 h6
  · exact absurd h.1 h6
  · exact h
theorem Rs_on {pk : Nat} {M N : Mem} (h : Rs pk M N) (h6 : gI M 2 0 6 = -1) : (∃ f, CG pk M N f) ∨ CL pk M N := by
  rcases h with ⟨f, h⟩ | h | h
  · exact Or.inl ⟨f, h⟩
  · exact Or.inr h
  · exact absurd h6 (CE_out h)
theorem on_d {pk t : Nat} {M N : Mem} (hO : Out t N) (h : (∃ f, CG pk M N f) ∨ CL pk M N) : gN M 2 0 3 ≤ 12 := by
  rcases h with ⟨f, h⟩ | h
  · obtain ⟨⟨f0, hm⟩, -⟩ := hO.run h.2.2.2.2.2.2.2.1 h.2.2.2.2.2.2.2.2.1
    have h1 := hm.2.2.2.1
    have h2 := hm.2.2.1
    have h3 := h.1
    have h4 := h.2.2.1
    omega
  · obtain ⟨f, c, p, q1, q2, -⟩ := h.2.2.2.1
    omega
theorem RunsP.r {N N' : Mem} {c b : Nat} {x : Int64} {r : Option Value} (h : RunsP N c b x r N') : ∃ y : Int32, r = some (.int y) := by
  obtain ⟨_, _, _, _, _, ⟨_, h, _⟩ | ⟨_, h, _⟩⟩ := h <;> exact ⟨_, h.symm⟩
set_option maxRecDepth 20000 in
set_option maxHeartbeats 4000000 in
theorem ct_X2_go {l : Launch} {G : Gm} {M : Mem} {pk : Nat} (hpk : pk = 3 ∨ pk = 4) {N : Mem} {c : Nat} {x : Int64} {q : Int32} (hB : CB M N) (hc : c < gN M 1 0 1) : Ct l G rX yX2_go (.code yX2_go cX2_go 9 (some .int) :: GW) rmX2_go [.ref (ad G 2 0), .ref (ad G 10 c), .long x, .int q, .ref (ad G pk 0)] M (fun r M' => (¬ isM 201 q ∧ some (.int (-2)) = r ∧ M = M') ∨ (∃ b, b ≤ 200 ∧ q = nI b ∧ ((70 < totV M c ∧ some (.int (-4)) = r ∧ M = M') ∨ (¬ 70 < totV M c ∧ ∃ N', RunsP N c b x r N' ∧ CB M' N')))) := by
  have hPI := hB.1.1
  have hRI := hB.1.2.1
  have hn6 := hPI.1
  have hci := hPI.2.1 c (by omega)
  have hmk := hPI.2.2 c hc
  have hlg := hmk.lg
  refine Ct_of (cc := cX2_go) (by decide) [(0, _), (1, _), (2, _), (4, _), (5, _)] rfl (Nat.le_of_ble_eq_true rfl) (fun pp ee ss mm aa bb mt cd C E => ?_)
  refine V_aload_n C dX2_go_0 rfl rfl ?_
  refine V_ifnullR C dX2_go_1 ?_
  refine V_iload C dX2_go_4 rfl ?_
  refine V_i2l C dX2_go_6 ?_
  refine V_lconst C (lN 0) dX2_go_7 (by decide) ?_
  refine V_ldc2 C kL_X2_50 dX2_go_8 ?_
  refine V_callSN C [_, _, _] (ct_X10_within) cs_X10_within lk_X2_52 ⟨Nat.le_of_ble_eq_true rfl, Nat.le_of_ble_eq_true rfl⟩ rfl rfl (Nat.le_of_ble_eq_true rfl) dX2_go_11 (fun r M' hr => ?_)
  obtain ⟨rfl, rfl⟩ := hr
  refine V_ifB_ne (tgt := 20) C dX2_go_14 (by decide) (fun h14 => ?_) (fun h14 => ?_)
  · skip
    obtain ⟨b, hb, rfl⟩ := isM_of ((w0_iff (by decide)).mp h14) (by decide)
    refine V_aload_n C dX2_go_20 rfl rfl ?_
    refine gf_X2_56 C (by omega) dX2_go_21 ?_
    refine gf_X2_62 C (by omega) dX2_go_24 ?_
    refine V_ifN_eq (tgt := 33) C dX2_go_27 (by omega) (by decide) (fun h27 => ?_) (fun h27 => ?_)
    · skip
      have hsm := (hmk.small h27).1
      refine V_aload_n C dX2_go_33 rfl rfl ?_
      refine gf_X2_20 C dX2_go_34 ?_
      refine V_iload C dX2_go_37 rfl ?_
      refine V_callV C [_] (ct_X9_reset) cv_X9_reset lk_X2_68 in_7 rfl rfl ⟨Nat.le_of_ble_eq_true rfl, Nat.le_of_ble_eq_true rfl⟩ rfl rfl (Nat.le_of_ble_eq_true rfl) dX2_go_39 (fun r M' hr => ?_)
      obtain ⟨rfl, rfl⟩ := hr
      refine V_aload_n C dX2_go_42 rfl rfl ?_
      refine V_iconst C (nI 0) dX2_go_43 (by decide) ?_
      refine pf_X2_24 C dX2_go_44 ?_
      refine V_aload_n C dX2_go_47 rfl rfl ?_
      refine V_iconst C (nI 0) dX2_go_48 (by decide) ?_
      refine pf_X2_28 C dX2_go_49 ?_
      refine V_aload_n C dX2_go_52 rfl rfl ?_
      refine V_iconst C (-1) dX2_go_53 (by decide) ?_
      refine pf_X2_34 C dX2_go_54 ?_
      obtain ⟨Mg, hMg⟩ : ∃ Mg, gStart M b = Mg := ⟨_, rfl⟩
      have hMg2 := hMg
      unfold gStart at hMg2
      rw [hMg2]
      clear hMg2
      have hgN := gS_N (M := M) (b := b)
      have hgS := gS_Sc (M := M) (b := b)
      have hgz := gS_z (b := b) (pk := pk) hB.1
      rw [hMg] at hgN hgS hgz
      have hci2 := CI_Sc hgS hci
      have hmk2 := MkOK_Sc hgS hmk
      refine V_aload_n C dX2_go_57 rfl rfl ?_
      refine V_aload_n C dX2_go_58 rfl rfl ?_
      refine V_lload_n C dX2_go_59 rfl rfl ?_
      refine V_aload C dX2_go_60 rfl ?_
      refine V_callV C [_, _, _] (ct_X2_beginFrame (M := Mg) hpk (by omega) hci2 hmk2 (by omega) (by omega) (by omega) (by omega)) cv_X2_beginFrame lk_X2_72 in_2 rfl rfl ⟨Nat.le_of_ble_eq_true rfl, Nat.le_of_ble_eq_true rfl⟩ rfl rfl (Nat.le_of_ble_eq_true rfl) dX2_go_62 (fun r0 M0 hr0 => ?_)
      obtain ⟨rfl, hBeg⟩ := hr0
      obtain ⟨X0, k0, N1, hE0, hO0, hR0⟩ := Run_ex (c := c) (b := b) (x := x) hRI (by omega)
      have hRs0 := sim_enter hgz.1 hgz.2 (by omega) (Or.inl ⟨by omega, hBeg⟩) hE0
      refine V_iconst C (nI 0) dX2_go_65 (by decide) ?_
      refine V_istore (lv' := [(6, _), (0, _), (1, _), (2, _), (4, _), (5, _)]) C dX2_go_66 (by decide) rfl ?_
      have LP68 : ∀ (fu : Nat) (t k : Nat) (Mc Nc : Mem), 2002 - t < fu → t ≤ 2001 → (t ≤ 2000 ∨ ¬ gI Mc 2 0 6 = -1) → Out t Nc → Rs pk Mc Nc → RunR k Nc N1 → V pp l ee rmX2_go ss mm aa bb mt cd G rX 9 (MQ bb (QcG G rX (fun r M' => (¬ isM 201 (nI b) ∧ some (.int (-2)) = r ∧ M = M') ∨ (∃ b_1, b_1 ≤ 200 ∧ nI b = nI b_1 ∧ ((70 < totV M c ∧ some (.int (-4)) = r ∧ M = M') ∨ (¬ 70 < totV M c ∧ ∃ N', RunsP N c b_1 x r N' ∧ CB M' N')))) (AA G rX ss.heap.size)) aa ss 0 0 (AA G rX ss.heap.size)) Mc 68 [(6, .int (nI t)), (0, .ref (ad G 2 0)), (1, .ref (ad G 10 c)), (2, .long x), (4, .int (nI b)), (5, .ref (ad G pk 0))] [] := by
        intro fu
        induction fu with
        | zero => intros; omega
        | succ fu ih =>
          intro t k Mc Nc hfu ht1 ht2 hO hRs hRun
          refine V_iload C dX2_go_68 rfl ?_
          refine V_sipush C (nI 2000) dX2_go_70 (by decide) ?_
          refine V_icmpN_gt (tgt := 157) C dX2_go_73 (by omega) (by omega) (by decide) (fun h73 => ?_) (fun h73 => ?_)
          · skip
            refine V_aload_n C dX2_go_157 rfl rfl ?_
            refine gf_X2_34 C dX2_go_158 ?_
            refine V_iret C E dX2_go_161 ?_
            have hne : ¬ gI Mc 2 0 6 = -1 := by
              first
              | exact h81
              | exact ht2.resolve_left (by omega)
            have hce := Rs_end hRs hne
            have hN1 := RunR_e hRun hce.st
            rw [hN1] at hce
            exact Or.inr ⟨b, by omega, rfl, Or.inr ⟨hsm, go_end hE0 hR0 hce⟩⟩
          · skip
            have q1 : 2002 - (t + 1) < fu := by omega
            have q2 : t + 1 ≤ 2001 := by omega
            refine V_aload_n C dX2_go_76 rfl rfl ?_
            refine gf_X2_34 C dX2_go_77 ?_
            refine V_iconst C (-1) dX2_go_80 (by decide) ?_
            refine V_icmp_ne (tgt := 157) C dX2_go_81 (by decide) (fun h81 => ?_) (fun h81 => ?_)
            · skip
              refine V_aload_n C dX2_go_157 rfl rfl ?_
              refine gf_X2_34 C dX2_go_158 ?_
              refine V_iret C E dX2_go_161 ?_
              have hne : ¬ gI Mc 2 0 6 = -1 := by
                first
                | exact h81
                | exact ht2.resolve_left (by omega)
              have hce := Rs_end hRs hne
              have hN1 := RunR_e hRun hce.st
              rw [hN1] at hce
              exact Or.inr ⟨b, by omega, rfl, Or.inr ⟨hsm, go_end hE0 hR0 hce⟩⟩
            · skip
              have hon := Rs_on hRs h81
              have hd12 := on_d hO hon
              refine V_aload_n C dX2_go_84 rfl rfl ?_
              refine V_callV C [] (ct_X2_top hd12) cv_X2_top lk_X2_76 in_2 rfl rfl ⟨Nat.le_of_ble_eq_true rfl, Nat.le_of_ble_eq_true rfl⟩ rfl rfl (Nat.le_of_ble_eq_true rfl) dX2_go_85 (fun r M' hr => ?_)
              rcases hon with ⟨f, hG⟩ | hL
              · skip
                have hgd := hG.2.2.1
                obtain ⟨⟨f0, hm0⟩, hGo⟩ := hO.run hG.2.2.2.2.2.2.2.1 hG.2.2.2.2.2.2.2.2.1
                have hm : RMI Nc (f + 1) := by
                  have e := hm0.2.2.2.1
                  rw [hG.1] at e
                  rw [e]; exact hm0
                obtain ⟨hp1, hp2, hp3, hp4, hp5, hp6⟩ := hG.pre hm
                obtain ⟨rfl, rfl⟩ : some (.ref (ad G 30 f)) = r ∧ Mc = M' := by
                  rcases hr with ⟨g, hg1, hg2, rfl, rfl⟩ | ⟨hg2, -⟩
                  · obtain rfl : f = g := by omega
                    exact ⟨rfl, rfl⟩
                  · omega
                obtain ⟨k2, N2, hT, hk2⟩ := RunR_s hRun hG.2.2.2.2.2.2.2.1 hG.2.2.2.2.2.2.2.2.1
                have hbg := hO.bg hG.2.2.2.2.2.2.2.1 hG.2.2.2.2.2.2.2.2.1
                have hO2 : Out (t + 1) N2 := by rw [← hbg]; exact Out_turn hT hm hGo
                refine V_astore (lv' := [(7, _), (6, _), (0, _), (1, _), (2, _), (4, _), (5, _)]) C dX2_go_88 (by decide) rfl ?_
                refine V_aload C dX2_go_90 rfl ?_
                refine V_ifnullR C dX2_go_92 ?_
                refine V_aload C dX2_go_95 rfl ?_
                refine V_aload C dX2_go_97 rfl ?_
                refine V_aload_n C dX2_go_99 rfl rfl ?_
                refine gf_X2_20 C dX2_go_100 ?_
                refine VP_fetch (post := FetchP pk Mc f (gN Nc 51 0 f) (gN Nc 52 0 f) (gN Nc 40 0 29)) C hpk [_, _] (fun hq => by subst hq; exact ct_X3_fetch hp1 hp2 (hG.p3 hm) hp3 hp4) (fun hq => by subst hq; exact (by rw [← hG.p4.2]; exact ct_X7_fetch hp1 hp2 hG.p4.1 hp3 hp4)) lk_X2_80 ⟨Nat.le_of_ble_eq_true rfl, Nat.le_of_ble_eq_true rfl⟩ ⟨Nat.le_of_ble_eq_true rfl, Nat.le_of_ble_eq_true rfl⟩ rfl rfl (Nat.le_of_ble_eq_true rfl) dX2_go_103 (fun r1 X1 hr1 => ?_)
                rcases hr1.r with rfl | rfl
                · skip
                  obtain ⟨Na, hA, kz, hBR, hmx⟩ := sim_fetch1 hG hm hr1 hT
                  have h8 : gN X1 7 0 8 = gN Na 40 0 35 := hA.2.2.2.2.2.2.1.2.2.2.2.2.2.1
                  have h8b := hA.1.2.2.2.2.2.2.2
                  unfold Sca at h8b
                  have h8t : gN X1 7 0 8 = t := by rw [hr1.1.1 7 0 8 (by omega) (by omega), hp5]; exact hbg
                  refine V_ifN_eq (tgt := 121) C dX2_go_108 (by omega) (by decide) (fun h108 => absurd h108 (by decide)) (fun h108 => ?_)
                  refine V_aload_n C dX2_go_111 rfl rfl ?_
                  refine gf_X2_20 C dX2_go_112 ?_
                  refine V_callV C [] (ct_X9_beginInstruction (by omega)) cv_X9_beginInstruction lk_X2_86 in_7 rfl rfl ⟨Nat.le_of_ble_eq_true rfl, Nat.le_of_ble_eq_true rfl⟩ rfl rfl (Nat.le_of_ble_eq_true rfl) dX2_go_115 (fun r2 Z2 hr2 => ?_)
                  rcases (show ¬ gN X1 7 0 8 < 2000 ∨ (gN X1 7 0 8 < 2000 ∧ gN Na 52 0 f < gN Na 41 0 (gN Na 51 0 f)) ∨ (gN X1 7 0 8 < 2000 ∧ ¬ gN Na 52 0 f < gN Na 41 0 (gN Na 51 0 f)) by omega) with hlt | ⟨hlt, hpl⟩ | ⟨hlt, hpl⟩
                  · skip
                    rw [bN_f hlt, if_neg hlt] at hr2
                    obtain ⟨rfl, rfl⟩ := hr2
                    refine V_ifN_ne (tgt := 128) C dX2_go_118 (by omega) (by decide) (fun h118 => absurd rfl h118) (fun h118 => ?_)
                    refine V_aload_n C dX2_go_121 rfl rfl ?_
                    refine V_callV C [] (ct_X2_stop) cv_X2_stop lk_X2_90 in_2 rfl rfl ⟨Nat.le_of_ble_eq_true rfl, Nat.le_of_ble_eq_true rfl⟩ rfl rfl (Nat.le_of_ble_eq_true rfl) dX2_go_122 (fun r3 X3 hr3 => ?_)
                    obtain ⟨rfl, rfl⟩ := hr3
                    have hce := sim_beg0 hA hlt hBR
                    have hRs2 : Rs pk (stp X1) N2 := Or.inr (Or.inr (by exact hce))
                    have hend : t + 1 ≤ 2000 ∨ ¬ gI (stp X1) 2 0 6 = -1 := Or.inr (CE_out hce)
                    refine V_goto (tgt := 151) C dX2_go_125 (by decide) ?_
                    refine V_iincN (lv' := [(6, _), (7, _), (0, _), (1, _), (2, _), (4, _), (5, _)]) C dX2_go_151 rfl (b := 1) (by decide) (by decide) rfl ?_
                    refine V_goto (tgt := 68) C dX2_go_154 (by decide) ?_
                    refine V_lv [0, 2, 3, 4, 5, 6] rfl ?_
                    exact ih (t + 1) k2 _ N2 q1 q2 hend hO2 hRs2 hk2
                  · skip
                    rw [bN_t hlt, if_pos hlt] at hr2
                    obtain ⟨rfl, rfl⟩ := hr2
                    obtain ⟨hA2, kz2, hWT⟩ := sim_beg1 hA kz hlt hBR
                    obtain ⟨X2, hX2⟩ : ∃ X2, sN X1 7 0 8 (gN X1 7 0 8 + 1) = X2 := ⟨_, rfl⟩
                    obtain ⟨Nb, hNb⟩ : ∃ Nb, sN Na 40 0 35 (gN Na 40 0 35 + 1) = Nb := ⟨_, rfl⟩
                    rw [hX2, hNb] at hA2
                    rw [hNb] at kz2 hWT
                    rw [hX2]
                    obtain ⟨a1, a2, a3, a4, a5, a6, a7, a8, a9, a10, a11, a12⟩ := hA2.pre
                    obtain ⟨b1, b2, b3, b4⟩ := hA2.f
                    have hfok := hA2.fok
                    have hpl2 : gN Nb 52 0 f < gN Nb 41 0 (gN Nb 51 0 f) := by subst hNb; simpa [gNN, gNI, gNJ, gIN, gII, gIJ, gJN, gJI, gJJ] using hpl
                    have hmx2 : rac Nb (gN Nb 51 0 f) (gN Nb 52 0 f) = 8 → (gJ Nb 53 0 (rR Nb f (gN Nb 51 0 f) (gN Nb 52 0 f))).toInt ≤ 200 := by
                      intro z
                      have z2 := hmx hpl (by subst hNb; simpa [rac, gNN, gNI, gNJ, gIN, gII, gIJ, gJN, gJI, gJJ] using z)
                      subst hNb; simpa [rR, gNN, gNI, gNJ, gIN, gII, gIJ, gJN, gJI, gJJ] using z2
                    have hmkq : gN X2 11 (gN Nb 51 0 f) (gN Nb 52 0 f) = 8 → (gJ X2 31 f (gN X2 12 (gN Nb 51 0 f) (gN Nb 52 0 f))).toInt ≤ 200 := by
                      intro z
                      have i := hA2.ins hpl2
                      rw [i.1] at z
                      rw [i.2.2.2.2.2.2.1]; exact hmx2 z
                    have hW : RWork Nb f (gN Nb 51 0 f) (gN Nb 52 0 f) N2 := by
                      rcases hWT with ⟨-, h⟩ | ⟨h, -⟩
                      · exact h
                      · omega
                    refine V_ifN_ne (tgt := 128) C dX2_go_118 (by omega) (by decide) (fun h118 => ?_) (fun h118 => absurd h118 (by decide))
                    refine V_aload_n C dX2_go_128 rfl rfl ?_
                    refine V_aload C dX2_go_129 rfl ?_
                    refine V_aload C dX2_go_131 rfl ?_
                    refine V_callV C [_, _] (ct_X2_perform (M := X2) hpk b1 hfok hA2.2.1.1 hA2.2.2.2.2.2.1 (by rw [a1]; exact hpl2) a2 a3 a4 a5 a6 a7 a8 hmkq a9 a10) cv_X2_perform lk_X2_93 in_2 rfl rfl ⟨Nat.le_of_ble_eq_true rfl, Nat.le_of_ble_eq_true rfl⟩ rfl rfl (Nat.le_of_ble_eq_true rfl) dX2_go_133 (fun r4 X4 hr4 => ?_)
                    rcases sim_perf hA2 kz2 hpl2 hr4 hW with ⟨rfl, hRs2⟩ | ⟨kd, kd1, kd8, rfl, hA4, hRF⟩
                    · skip
                      have hend : t + 1 ≤ 2000 ∨ ¬ gI X4 2 0 6 = -1 := Or.inl (by omega)
                      refine V_istore (lv' := [(8, _), (7, _), (6, _), (0, _), (1, _), (2, _), (4, _), (5, _)]) C dX2_go_136 (by decide) rfl ?_
                      refine V_iload C dX2_go_138 rfl ?_
                      refine V_ifN_eq (tgt := 151) C dX2_go_140 (by omega) (by decide) (fun h140 => ?_) (fun h140 => absurd rfl h140)
                      refine V_iincN (lv' := [(6, _), (8, _), (7, _), (0, _), (1, _), (2, _), (4, _), (5, _)]) C dX2_go_151 rfl (b := 1) (by decide) (by decide) rfl ?_
                      refine V_goto (tgt := 68) C dX2_go_154 (by decide) ?_
                      refine V_lv [0, 3, 4, 5, 6, 7] rfl ?_
                      exact ih (t + 1) k2 _ N2 q1 q2 hend hO2 hRs2 hk2
                    · skip
                      obtain ⟨d1, d2, d3, d4, d5, d6, d7, d8, d9, d10, d11, d12⟩ := hA4.pre
                      refine V_istore (lv' := [(8, _), (7, _), (6, _), (0, _), (1, _), (2, _), (4, _), (5, _)]) C dX2_go_136 (by decide) rfl ?_
                      refine V_iload C dX2_go_138 rfl ?_
                      refine V_ifN_eq (tgt := 151) C dX2_go_140 (by omega) (by decide) (fun h140 => by omega) (fun h140 => ?_)
                      refine V_aload_n C dX2_go_143 rfl rfl ?_
                      refine V_iload C dX2_go_144 rfl ?_
                      refine V_aload C dX2_go_146 rfl ?_
                      refine V_callV C [_, _] (ct_X2_raise (M := X4) hpk d3 d12 d11 d9 d10) cv_X2_raise lk_X2_97 in_2 rfl rfl ⟨Nat.le_of_ble_eq_true rfl, Nat.le_of_ble_eq_true rfl⟩ rfl rfl (Nat.le_of_ble_eq_true rfl) dX2_go_148 (fun r5 X5 hr5 => ?_)
                      obtain ⟨rfl, hRa⟩ := hr5
                      rw [hA4.2.2.1] at hRa
                      have hRs2 := sim_fail kd1 hA4 kz2.2.2 rfl hRa hRF
                      have hend : t + 1 ≤ 2000 ∨ ¬ gI X5 2 0 6 = -1 := Or.inl (by omega)
                      refine V_iincN (lv' := [(6, _), (8, _), (7, _), (0, _), (1, _), (2, _), (4, _), (5, _)]) C dX2_go_151 rfl (b := 1) (by decide) (by decide) rfl ?_
                      refine V_goto (tgt := 68) C dX2_go_154 (by decide) ?_
                      refine V_lv [0, 3, 4, 5, 6, 7] rfl ?_
                      exact ih (t + 1) k2 _ N2 q1 q2 hend hO2 hRs2 hk2
                  · skip
                    rw [bN_t hlt, if_pos hlt] at hr2
                    obtain ⟨rfl, rfl⟩ := hr2
                    obtain ⟨hA2, kz2, hWT⟩ := sim_beg1 hA kz hlt hBR
                    obtain ⟨X2, hX2⟩ : ∃ X2, sN X1 7 0 8 (gN X1 7 0 8 + 1) = X2 := ⟨_, rfl⟩
                    obtain ⟨Nb, hNb⟩ : ∃ Nb, sN Na 40 0 35 (gN Na 40 0 35 + 1) = Nb := ⟨_, rfl⟩
                    rw [hX2, hNb] at hA2
                    rw [hNb] at kz2 hWT
                    rw [hX2]
                    obtain ⟨a1, a2, a3, a4, a5, a6, a7, a8, a9, a10, a11, a12⟩ := hA2.pre
                    obtain ⟨b1, b2, b3, b4⟩ := hA2.f
                    have hfok := hA2.fok
                    have hpl2 : ¬ gN Nb 52 0 f < gN Nb 41 0 (gN Nb 51 0 f) := by subst hNb; simpa [gNN, gNI, gNJ, gIN, gII, gIJ, gJN, gJI, gJJ] using hpl
                    have hpe : gN Nb 52 0 f = gN X2 10 (gN Nb 51 0 f) 4 := by
                      rw [a1]
                      have := (hA2.1.2.2.2.2.1 f (by omega)).2.2.1
                      omega
                    have hAt := hA2.2.2.2.2.2.1
                    rw [hpe] at hAt
                    have hW : RGive Nb (lN 0) N2 := by
                      rcases hWT with ⟨h, -⟩ | ⟨-, h⟩
                      · exact absurd h hpl2
                      · exact h
                    refine V_ifN_ne (tgt := 128) C dX2_go_118 (by omega) (by decide) (fun h118 => ?_) (fun h118 => absurd h118 (by decide))
                    refine V_aload_n C dX2_go_128 rfl rfl ?_
                    refine V_aload C dX2_go_129 rfl ?_
                    refine V_aload C dX2_go_131 rfl ?_
                    refine V_callV C [_, _] (ct_X2_performE (M := X2) hpk b1 hfok hAt a2 a3 a4 a5) cv_X2_perform lk_X2_93 in_2 rfl rfl ⟨Nat.le_of_ble_eq_true rfl, Nat.le_of_ble_eq_true rfl⟩ rfl rfl (Nat.le_of_ble_eq_true rfl) dX2_go_133 (fun r4 X4 hr4 => ?_)
                    obtain ⟨rfl, hGv⟩ := hr4
                    have hRs2 := sim_perfE hA2 kz2 hGv hW
                    have hend : t + 1 ≤ 2000 ∨ ¬ gI X4 2 0 6 = -1 := Or.inl (by omega)
                    refine V_istore (lv' := [(8, _), (7, _), (6, _), (0, _), (1, _), (2, _), (4, _), (5, _)]) C dX2_go_136 (by decide) rfl ?_
                    refine V_iload C dX2_go_138 rfl ?_
                    refine V_ifN_eq (tgt := 151) C dX2_go_140 (by omega) (by decide) (fun h140 => ?_) (fun h140 => absurd rfl h140)
                    refine V_iincN (lv' := [(6, _), (8, _), (7, _), (0, _), (1, _), (2, _), (4, _), (5, _)]) C dX2_go_151 rfl (b := 1) (by decide) (by decide) rfl ?_
                    refine V_goto (tgt := 68) C dX2_go_154 (by decide) ?_
                    refine V_lv [0, 3, 4, 5, 6, 7] rfl ?_
                    exact ih (t + 1) k2 _ N2 q1 q2 hend hO2 hRs2 hk2
                · skip
                  refine V_ifN_eq (tgt := 121) C dX2_go_108 (by omega) (by decide) (fun h108 => ?_) (fun h108 => absurd rfl h108)
                  refine V_aload_n C dX2_go_121 rfl rfl ?_
                  refine V_callV C [] (ct_X2_stop) cv_X2_stop lk_X2_90 in_2 rfl rfl ⟨Nat.le_of_ble_eq_true rfl, Nat.le_of_ble_eq_true rfl⟩ rfl rfl (Nat.le_of_ble_eq_true rfl) dX2_go_122 (fun r3 X3 hr3 => ?_)
                  obtain ⟨rfl, rfl⟩ := hr3
                  have hce := sim_fetch0 hG hm hr1 hT
                  have hRs2 : Rs pk (stp X1) N2 := Or.inr (Or.inr (by exact hce))
                  have hend : t + 1 ≤ 2000 ∨ ¬ gI (stp X1) 2 0 6 = -1 := Or.inr (CE_out hce)
                  refine V_goto (tgt := 151) C dX2_go_125 (by decide) ?_
                  refine V_iincN (lv' := [(6, _), (7, _), (0, _), (1, _), (2, _), (4, _), (5, _)]) C dX2_go_151 rfl (b := 1) (by decide) (by decide) rfl ?_
                  refine V_goto (tgt := 68) C dX2_go_154 (by decide) ?_
                  refine V_lv [0, 2, 3, 4, 5, 6] rfl ?_
                  exact ih (t + 1) k2 _ N2 q1 q2 hend hO2 hRs2 hk2
              · skip
                obtain ⟨l1, l2, l3, ⟨f, c1, p1, l4, l5, l6, l7⟩, l8, l9, l10, l11, l12⟩ := id hL
                obtain ⟨rfl, rfl⟩ : some (.ref (ad G 30 f)) = r ∧ Mc = M' := by
                  rcases hr with ⟨g, hg1, hg2, rfl, rfl⟩ | ⟨hg2, -⟩
                  · obtain rfl : f = g := by omega
                    exact ⟨rfl, rfl⟩
                  · omega
                obtain ⟨N2, hN2⟩ : ∃ N2, N2 = Nc := ⟨_, rfl⟩
                obtain ⟨k2, hk2⟩ : ∃ k2, RunR k2 N2 N1 := ⟨k, by rw [hN2]; exact hRun⟩
                have hO2 : Out (t + 1) N2 := by rw [hN2]; exact hO.st l2
                refine V_astore (lv' := [(7, _), (6, _), (0, _), (1, _), (2, _), (4, _), (5, _)]) C dX2_go_88 (by decide) rfl ?_
                refine V_aload C dX2_go_90 rfl ?_
                refine V_ifnullR C dX2_go_92 ?_
                refine V_aload C dX2_go_95 rfl ?_
                refine V_aload C dX2_go_97 rfl ?_
                refine V_aload_n C dX2_go_99 rfl rfl ?_
                refine gf_X2_20 C dX2_go_100 ?_
                refine VP_fetch (post := fun r M' => Fx Mc M' f ∧ some (.int (nI 0)) = r ∧ gN M' 7 0 1 = gN Mc 7 0 1) C hpk [_, _] (fun hq => by subst hq; exact ct_X3_fetchS l4 l6 l7 (by omega) (by omega) (by omega)) (fun hq => by subst hq; exact absurd l3 (by decide)) lk_X2_80 ⟨Nat.le_of_ble_eq_true rfl, Nat.le_of_ble_eq_true rfl⟩ ⟨Nat.le_of_ble_eq_true rfl, Nat.le_of_ble_eq_true rfl⟩ rfl rfl (Nat.le_of_ble_eq_true rfl) dX2_go_103 (fun r1 X1 hr1 => ?_)
                obtain ⟨hx1, rfl, hx3⟩ := hr1
                refine V_ifN_eq (tgt := 121) C dX2_go_108 (by omega) (by decide) (fun h108 => ?_) (fun h108 => absurd rfl h108)
                refine V_aload_n C dX2_go_121 rfl rfl ?_
                refine V_callV C [] (ct_X2_stop) cv_X2_stop lk_X2_90 in_2 rfl rfl ⟨Nat.le_of_ble_eq_true rfl, Nat.le_of_ble_eq_true rfl⟩ rfl rfl (Nat.le_of_ble_eq_true rfl) dX2_go_122 (fun r3 X3 hr3 => ?_)
                obtain ⟨rfl, rfl⟩ := hr3
                have hce := sim_late hL hx1 hx3
                have hRs2 : Rs pk (stp X1) N2 := Or.inr (Or.inr (by rw [hN2]; exact hce))
                have hend : t + 1 ≤ 2000 ∨ ¬ gI (stp X1) 2 0 6 = -1 := Or.inr (CE_out hce)
                refine V_goto (tgt := 151) C dX2_go_125 (by decide) ?_
                refine V_iincN (lv' := [(6, _), (7, _), (0, _), (1, _), (2, _), (4, _), (5, _)]) C dX2_go_151 rfl (b := 1) (by decide) (by decide) rfl ?_
                refine V_goto (tgt := 68) C dX2_go_154 (by decide) ?_
                refine V_lv [0, 2, 3, 4, 5, 6] rfl ?_
                exact ih (t + 1) k2 _ N2 q1 q2 hend hO2 hRs2 hk2
      refine V_lv [0, 1, 2, 3, 4, 5] rfl ?_
      exact LP68 2003 0 k0 M0 X0 (by omega) (by omega) (Or.inl (by omega)) hO0 hRs0 hR0
    · skip
      refine V_bipush C (-4) dX2_go_30 (by decide) ?_
      refine V_iret C E dX2_go_32 ?_
      exact Or.inr ⟨b, by omega, rfl, Or.inl ⟨hmk.big h27, rfl, rfl⟩⟩
  · skip
    refine V_bipush C (-2) dX2_go_17 (by decide) ?_
    refine V_iret C E dX2_go_19 ?_
    exact Or.inl ⟨fun z => h14 ((w0_iff (by decide)).mpr z), rfl, rfl⟩

set_option maxRecDepth 20000 in
set_option maxHeartbeats 4000000 in
theorem ct_X2_goN {l : Launch} {G : Gm} {M : Mem} {pk : Nat} {x : Int64} {q : Int32} : Ct l G rX yX2_go (.code yX2_go cX2_go 9 (some .int) :: GW) rmX2_go [.ref (ad G 2 0), .null, .long x, .int q, .ref (ad G pk 0)] M (fun r M' => some (.int (-2)) = r ∧ M = M') := by
  refine Ct_of (cc := cX2_go) (by decide) [(0, _), (1, _), (2, _), (4, _), (5, _)] rfl (Nat.le_of_ble_eq_true rfl) (fun pp ee ss mm aa bb mt cd C E => ?_)
  refine V_aload_nN C dX2_go_0 rfl rfl ?_
  refine V_ifnullN (tgt := 17) C dX2_go_1 (by decide) ?_
  refine V_bipush C (-2) dX2_go_17 (by decide) ?_
  refine V_iret C E dX2_go_19 ?_
  exact ⟨rfl, rfl⟩

set_option maxRecDepth 20000 in
set_option maxHeartbeats 4000000 in
theorem ct_X10_run {l : Launch} {G : Gm} {M : Mem} {N : Mem} {m q : Int32} {x : Int64} (hB : CB M N) : Ct l G rX yX10_run (.code yX10_run cX10_run 5 (some .int) :: GW) rmX10_run [.ref (ad G 0 0), .int m, .long x, .int q] M (fun r M' => (¬ (isM (gN M 1 0 1) m ∧ isM 201 q) ∧ some (.int (-2)) = r ∧ M = M') ∨ (∃ c b, c < gN M 1 0 1 ∧ m = nI c ∧ b ≤ 200 ∧ q = nI b ∧ ((70 < totV M c ∧ some (.int (-4)) = r ∧ M = M') ∨ (¬ 70 < totV M c ∧ ∃ N', RunsP N c b x r N' ∧ CB M' N')))) := by
  have hn6 := hB.1.1.1
  refine Ct_of (cc := cX10_run) (by decide) [(0, _), (1, _), (2, _), (4, _)] rfl (Nat.le_of_ble_eq_true rfl) (fun pp ee ss mm aa bb mt cd C E => ?_)
  refine V_aload_n C dX10_run_0 rfl rfl ?_
  refine gf_X10_21 C dX10_run_1 ?_
  refine V_aload_n C dX10_run_4 rfl rfl ?_
  refine gf_X10_10 C dX10_run_5 ?_
  refine V_iload_n C dX10_run_8 rfl rfl ?_
  refine V_callV C [_] (ct_X5_at hn6) cv_X5_at lk_X10_42 in_1 rfl rfl ⟨Nat.le_of_ble_eq_true rfl, Nat.le_of_ble_eq_true rfl⟩ rfl rfl (Nat.le_of_ble_eq_true rfl) dX10_run_9 (fun r M' hr => ?_)
  rcases hr with ⟨n, hn, rfl, rfl, rfl⟩ | ⟨hnx, rfl, rfl⟩
  · skip
    refine V_lload_n C dX10_run_12 rfl rfl ?_
    refine V_iload C dX10_run_13 rfl ?_
    refine V_aload_n C dX10_run_15 rfl rfl ?_
    refine gf_X10_28 C dX10_run_16 ?_
    refine V_callV C [_, _, _, _] (ct_X2_go (pk := 3) (by decide) hB hn) cv_X2_go lk_X10_74 in_2 rfl rfl ⟨Nat.le_of_ble_eq_true rfl, Nat.le_of_ble_eq_true rfl⟩ rfl rfl (Nat.le_of_ble_eq_true rfl) dX10_run_19 (fun r1 M1 hr1 => ?_)
    obtain ⟨y, rfl⟩ : ∃ y : Int32, r1 = some (.int y) := by
      rcases hr1 with ⟨_, h, _⟩ | ⟨_, _, _, ⟨_, h, _⟩ | ⟨_, _, h, _⟩⟩
      · exact ⟨_, h.symm⟩
      · exact ⟨_, h.symm⟩
      · exact h.r
    refine V_iret C E dX10_run_22 ?_
    first | exact Or.inl ⟨fun z => hnx z.1, rfl, rfl⟩ | (rcases hr1 with ⟨z, a, b⟩ | ⟨b, z1, z2, h⟩; exact Or.inl ⟨fun y => z y.2, a, b⟩; exact Or.inr ⟨n, b, hn, rfl, z1, z2, h⟩)
  · skip
    refine V_lload_n C dX10_run_12 rfl rfl ?_
    refine V_iload C dX10_run_13 rfl ?_
    refine V_aload_n C dX10_run_15 rfl rfl ?_
    refine gf_X10_28 C dX10_run_16 ?_
    refine V_callV C [_, _, _, _] (ct_X2_goN (pk := 3)) cv_X2_go lk_X10_74 in_2 rfl rfl ⟨Nat.le_of_ble_eq_true rfl, Nat.le_of_ble_eq_true rfl⟩ rfl rfl (Nat.le_of_ble_eq_true rfl) dX10_run_19 (fun r1 M1 hr1 => ?_)
    obtain ⟨rfl, rfl⟩ := hr1
    refine V_iret C E dX10_run_22 ?_
    first | exact Or.inl ⟨fun z => hnx z.1, rfl, rfl⟩ | (rcases hr1 with ⟨z, a, b⟩ | ⟨b, z1, z2, h⟩; exact Or.inl ⟨fun y => z y.2, a, b⟩; exact Or.inr ⟨n, b, hn, rfl, z1, z2, h⟩)

set_option maxRecDepth 20000 in
set_option maxHeartbeats 4000000 in
theorem ct_X10_step {l : Launch} {G : Gm} {M : Mem} {N : Mem} {m q : Int32} {x : Int64} (hB : CB M N) : Ct l G rX yX10_step (.code yX10_step cX10_step 5 (some .int) :: GW) rmX10_step [.ref (ad G 0 0), .int m, .long x, .int q] M (fun r M' => (¬ (isM (gN M 1 0 1) m ∧ isM 201 q) ∧ some (.int (-2)) = r ∧ M = M') ∨ (∃ c b, c < gN M 1 0 1 ∧ m = nI c ∧ b ≤ 200 ∧ q = nI b ∧ ((70 < totV M c ∧ some (.int (-4)) = r ∧ M = M') ∨ (¬ 70 < totV M c ∧ ∃ N', RunsP N c b x r N' ∧ CB M' N')))) := by
  have hn6 := hB.1.1.1
  refine Ct_of (cc := cX10_step) (by decide) [(0, _), (1, _), (2, _), (4, _)] rfl (Nat.le_of_ble_eq_true rfl) (fun pp ee ss mm aa bb mt cd C E => ?_)
  refine V_aload_n C dX10_step_0 rfl rfl ?_
  refine gf_X10_21 C dX10_step_1 ?_
  refine V_aload_n C dX10_step_4 rfl rfl ?_
  refine gf_X10_10 C dX10_step_5 ?_
  refine V_iload_n C dX10_step_8 rfl rfl ?_
  refine V_callV C [_] (ct_X5_at hn6) cv_X5_at lk_X10_42 in_1 rfl rfl ⟨Nat.le_of_ble_eq_true rfl, Nat.le_of_ble_eq_true rfl⟩ rfl rfl (Nat.le_of_ble_eq_true rfl) dX10_step_9 (fun r M' hr => ?_)
  rcases hr with ⟨n, hn, rfl, rfl, rfl⟩ | ⟨hnx, rfl, rfl⟩
  · skip
    refine V_lload_n C dX10_step_12 rfl rfl ?_
    refine V_iload C dX10_step_13 rfl ?_
    refine V_aload_n C dX10_step_15 rfl rfl ?_
    refine gf_X10_35 C dX10_step_16 ?_
    refine V_callV C [_, _, _, _] (ct_X2_go (pk := 4) (by decide) hB hn) cv_X2_go lk_X10_74 in_2 rfl rfl ⟨Nat.le_of_ble_eq_true rfl, Nat.le_of_ble_eq_true rfl⟩ rfl rfl (Nat.le_of_ble_eq_true rfl) dX10_step_19 (fun r1 M1 hr1 => ?_)
    obtain ⟨y, rfl⟩ : ∃ y : Int32, r1 = some (.int y) := by
      rcases hr1 with ⟨_, h, _⟩ | ⟨_, _, _, ⟨_, h, _⟩ | ⟨_, _, h, _⟩⟩
      · exact ⟨_, h.symm⟩
      · exact ⟨_, h.symm⟩
      · exact h.r
    refine V_iret C E dX10_step_22 ?_
    first | exact Or.inl ⟨fun z => hnx z.1, rfl, rfl⟩ | (rcases hr1 with ⟨z, a, b⟩ | ⟨b, z1, z2, h⟩; exact Or.inl ⟨fun y => z y.2, a, b⟩; exact Or.inr ⟨n, b, hn, rfl, z1, z2, h⟩)
  · skip
    refine V_lload_n C dX10_step_12 rfl rfl ?_
    refine V_iload C dX10_step_13 rfl ?_
    refine V_aload_n C dX10_step_15 rfl rfl ?_
    refine gf_X10_35 C dX10_step_16 ?_
    refine V_callV C [_, _, _, _] (ct_X2_goN (pk := 4)) cv_X2_go lk_X10_74 in_2 rfl rfl ⟨Nat.le_of_ble_eq_true rfl, Nat.le_of_ble_eq_true rfl⟩ rfl rfl (Nat.le_of_ble_eq_true rfl) dX10_step_19 (fun r1 M1 hr1 => ?_)
    obtain ⟨rfl, rfl⟩ := hr1
    refine V_iret C E dX10_step_22 ?_
    first | exact Or.inl ⟨fun z => hnx z.1, rfl, rfl⟩ | (rcases hr1 with ⟨z, a, b⟩ | ⟨b, z1, z2, h⟩; exact Or.inl ⟨fun y => z y.2, a, b⟩; exact Or.inr ⟨n, b, hn, rfl, z1, z2, h⟩)

