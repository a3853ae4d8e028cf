def rInit (M : Mem) (b : Nat) : Mem := sN (sI (sI (sN (sN (sN (sN (sJ (sI (sN (sN (sN (sN (sN (sN M 40 0 23 b) 40 0 11 0) 40 0 22 0) 40 0 24 0) 40 0 25 0) 40 0 26 0) 40 0 27 (nI 0)) 40 0 28 (lN 0)) 40 0 29 0) 40 0 30 0) 40 0 31 0) 40 0 32 0) 40 0 33 (nI 0)) 40 0 34 (nI 0)) 40 0 35 0
def RunR : Nat → Mem → Mem → Prop
  | 0, N, N' => (gN N 40 0 24 = 1 ∨ gN N 40 0 25 = 1) ∧ N = N'
  | k + 1, N, N' => gN N 40 0 24 = 0 ∧ gN N 40 0 25 = 0 ∧ ∃ X, TurnR N X ∧ RunR k X N'
def RunsP (M : Mem) (c b : Nat) (x : Int64) (r : Option Value) (M' : Mem) : Prop := ∃ X k N1, REnter (rInit M b) c x X ∧ RunR k X N1 ∧ ((gN N1 40 0 24 = 1 ∧ some (.int (nI 1)) = r ∧ sI (sN N1 40 0 26 0) 40 0 27 (nI 0) = M') ∨ (¬ gN N1 40 0 24 = 1 ∧ some (.int (nI (if gN N1 40 0 26 = 0 then 0 else 2))) = r ∧ N1 = M'))
theorem ri_Sc {M : Mem} {b : Nat} : ScR M (rInit M b) := by
  unfold rInit
  exact (ScR_N (by omega)).tr ((ScR_N (by omega)).tr ((ScR_N (by omega)).tr ((ScR_N (by omega)).tr ((ScR_N (by omega)).tr ((ScR_N (by omega)).tr ((ScR_I (by omega)).tr ((ScR_J (by omega)).tr ((ScR_N (by omega)).tr ((ScR_N (by omega)).tr ((ScR_N (by omega)).tr ((ScR_N (by omega)).tr ((ScR_I (by omega)).tr ((ScR_I (by omega)).tr (ScR_N (by omega)))))))))))))))
theorem ri_N {M : Mem} {b : Nat} : gN (rInit M b) 40 0 23 = b ∧ gN (rInit M b) 40 0 11 = 0 ∧ gN (rInit M b) 40 0 22 = 0 ∧ gN (rInit M b) 40 0 24 = 0 ∧ gN (rInit M b) 40 0 25 = 0 ∧ gN (rInit M b) 40 0 26 = 0 ∧ gN (rInit M b) 40 0 29 = 0 ∧ gN (rInit M b) 40 0 30 = 0 ∧ gN (rInit M b) 40 0 31 = 0 ∧ gN (rInit M b) 40 0 32 = 0 ∧ gN (rInit M b) 40 0 35 = 0 := by
  unfold rInit
  simp [gNN, gNI, gNJ]
theorem Out_enter0 {N N' : Mem} {c : Nat} {x : Int64} (hr : REnter N c x N') (hi : RI N) (hsc : Sca N) (hd : gN N 40 0 11 = 0) (hg : Go 0 N) : Out 0 N' := by
  have h25 : gN N 40 0 25 ≤ 1 := by have := hg.2.1; omega
  rcases hr with ⟨-, rfl⟩ | ⟨h1, h2, h3, ⟨-, rfl⟩ | ⟨hok, rfl⟩⟩
  · exact Out_stop hi h25 hg.2.2.1
  · exact Out_stop hi h25 hg.2.2.1
  · unfold okC at hok
    have hS : ScR N (sN N 40 0 29 (gN N 40 0 29 + 1)) := ScR_N (by omega)
    have hsc2 : Sca (sN N 40 0 29 (gN N 40 0 29 + 1)) := by
      unfold Sca at hsc ⊢
      simp only [gNN, Nat.reduceEqDiff, and_false, if_false, true_and, if_true]
      omega
    exact Out_go (RMI_push (d := 0) (Or.inl rfl) ⟨RI_ScR hS hi, hsc2⟩ (by rw [gNN, if_neg (by omega)]; exact hd) (by omega) (by rw [hS.2]; exact h1) (by rw [totR_Sc hS]; exact h2) (fun g hg => by omega)) (Go_push (Go_N hg (by omega)))
theorem Out.run {N : Mem} {b : Nat} (h : Out b N) (h1 : gN N 40 0 24 = 0) (h2 : gN N 40 0 25 = 0) : (∃ f, RMI N (f + 1)) ∧ Go (gN N 40 0 35) N := by
  obtain ⟨⟨d, hd⟩, hb⟩ := h.2.2.2.2 h1 h2
  exact ⟨⟨d - 1, by rw [show d - 1 + 1 = d by have := hd.2.1; omega]; exact hd⟩, h1, h2, h.2.2.2.1, rfl⟩
theorem RMI.allR {N : Mem} {d : Nat} (h : RMI N d) : allR N := by
  intro g hg
  rw [h.2.2.2.1] at hg
  have hf := h.2.2.2.2.1 g hg
  have h6 := h.1.1
  have hm := h.1.2 (gN N 51 0 g) (by have := hf.1; omega)
  exact ⟨by have := hf.1; omega, hm, by have := hf.2.2.1; have := hm.1; omega⟩
theorem RMI.low {N : Mem} {d : Nat} (h : RMI N d) : ∀ g, gN N 40 0 11 = g + 2 → gN N 51 0 g < 6 ∧ RIm N (gN N 51 0 g) ∧ gN N 52 0 g < gN N 41 0 (gN N 51 0 g) := by
  intro g hg
  have hd := h.2.2.2.1
  have ha := h.allR g (by omega)
  exact ⟨ha.1, ha.2.1, h.2.2.2.2.2.1 g (by omega)⟩
set_option maxRecDepth 20000 in
set_option maxHeartbeats 4000000 in
theorem ct_X11_begins {l : Launch} {G : Gm} {M : Mem} {d : Nat} (hm : RMI M d) (hz : gN M 52 0 (gN M 40 0 11 - 1) < gN M 41 0 (gN M 51 0 (gN M 40 0 11 - 1)) → rac M (gN M 51 0 (gN M 40 0 11 - 1)) (gN M 52 0 (gN M 40 0 11 - 1)) = 8 → (gJ M 53 0 (rR M (gN M 40 0 11 - 1) (gN M 51 0 (gN M 40 0 11 - 1)) (gN M 52 0 (gN M 40 0 11 - 1)))).toInt ≤ 200 ∧ gN M 40 0 22 + (gJ M 53 0 (rR M (gN M 40 0 11 - 1) (gN M 51 0 (gN M 40 0 11 - 1)) (gN M 52 0 (gN M 40 0 11 - 1)))).toInt.toNat ≤ 256) : Ct l G rM yX11_begins (.code yX11_begins cX11_begins 1 none :: GW) rmX11_begins [.ref (ad G 40 0)] M (fun r M' => none = r ∧ BegR M M') := by
  obtain ⟨f, rfl⟩ : ∃ f, d = f + 1 := ⟨d - 1, by have := hm.2.1; omega⟩
  have hd := hm.2.2.2.1
  have hd12 := hm.2.2.1
  have hsc := hm.2.2.2.2.2.2.2
  unfold Sca at hsc
  rw [show gN M 40 0 11 - 1 = f by omega] at hz
  have hF := hm.2.2.2.2.1 f (by omega)
  have h6 := hm.1.1
  have hm6 : gN M 51 0 f < 6 := by have := hF.1; omega
  have hmI := hm.1.2 _ hm6
  have hs40 := hmI.1
  refine Ct_of (cc := cX11_begins) (by decide) [(0, _)] rfl (Nat.le_of_ble_eq_true rfl) (fun pp ee ss mm aa bb mt cd C E => ?_)
  refine V_aload_n C dX11_begins_0 rfl rfl ?_
  refine gf_X11_194 C dX11_begins_1 ?_
  try simp only [gNN, gNI, gNJ, gIN, gII, gIJ, gJN, gJI, gJJ, Nat.reduceEqDiff, false_and, and_false, true_and, and_true, if_false, if_true]
  refine V_sipush C (nI 2000) dX11_begins_4 (by decide) ?_
  refine V_icmpN_ne (tgt := 16) C dX11_begins_7 (by omega) (by omega) (by decide) (fun h7 => ?_) (fun h7 => ?_)
  · skip
    refine V_aload_n C dX11_begins_16 rfl rfl ?_
    refine V_dup C dX11_begins_17 rfl ?_
    refine gf_X11_194 C dX11_begins_18 ?_
    try simp only [gNN, gNI, gNJ, gIN, gII, gIJ, gJN, gJI, gJJ, Nat.reduceEqDiff, false_and, and_false, true_and, and_true, if_false, if_true]
    refine V_iconst C (nI 1) dX11_begins_21 (by decide) ?_
    refine V_iaddN C dX11_begins_22 ?_
    refine pf_X11_194 C dX11_begins_23 ?_
    have hY := RMI_begun hm (by omega)
    have e : ∀ k i j, k ≠ 40 → gN (sN M 40 0 35 (gN M 40 0 35 + 1)) k i j = gN M k i j := fun k i j hk => by rw [gNN, if_neg (fun z => hk z.1)]
    have hFY := hY.2.2.2.2.1 f (by omega)
    have hscY := hY.2.2.2.2.2.2.2
    unfold Sca at hscY
    have hmIY := hY.1.2 (gN (sN M 40 0 35 (gN M 40 0 35 + 1)) 51 0 f) (by rw [e 51 _ _ (by omega)]; exact hm6)
    refine V_aload_n C dX11_begins_26 rfl rfl ?_
    refine V_aload_n C dX11_begins_27 rfl rfl ?_
    refine gf_X11_147 C dX11_begins_28 ?_
    try simp only [gNN, gNI, gNJ, gIN, gII, gIJ, gJN, gJI, gJJ, Nat.reduceEqDiff, false_and, and_false, true_and, and_true, if_false, if_true]
    refine V_iconst C (nI 1) dX11_begins_31 (by decide) ?_
    refine V_isubN C dX11_begins_32 (by omega) ?_
    rw [show gN M 40 0 11 - 1 = f by omega]
    by_cases hpl : gN M 52 0 f < gN M 41 0 (gN M 51 0 f)
    · refine V_callV C [_] (ct_X11_work (M := (sN M 40 0 35 (gN M 40 0 35 + 1))) (f := f) (m := gN (sN M 40 0 35 (gN M 40 0 35 + 1)) 51 0 f) (p := gN (sN M 40 0 35 (gN M 40 0 35 + 1)) 52 0 f) (by omega) rfl rfl (by rw [e 51 _ _ (by omega)]; exact hm6) hY.1 (by rw [e 52 _ _ (by omega), e 51 _ _ (by omega), e 41 _ _ (by omega)]; exact hpl) (by rw [hY.2.2.2.1]; omega) hY.low (by omega) (fun q => ?_) (fun q => ?_) (fun i hi => ?_) hFY.2.2.2.2.1 (by rw [hY.2.2.2.1]; omega) hY.allR (by omega) (by omega) (by omega)) cv_X11_work lk_X11_209 in_40 rfl rfl ⟨Nat.le_of_ble_eq_true rfl, Nat.le_of_ble_eq_true rfl⟩ rfl rfl (Nat.le_of_ble_eq_true rfl) dX11_begins_33 (fun r M' hr => ?_)
      · have q2 : gN (sN M 40 0 35 (gN M 40 0 35 + 1)) 42 0 (40 * gN (sN M 40 0 35 (gN M 40 0 35 + 1)) 51 0 f + gN (sN M 40 0 35 (gN M 40 0 35 + 1)) 52 0 f) = 8 := q
        rw [e 51 _ _ (by omega), e 52 _ _ (by omega), e 42 _ _ (by omega)] at q2
        have hq := hz hpl q2
        show (gJ M 53 0 (4 * f + gN (sN M 40 0 35 (gN M 40 0 35 + 1)) 43 0 (40 * gN (sN M 40 0 35 (gN M 40 0 35 + 1)) 51 0 f + gN (sN M 40 0 35 (gN M 40 0 35 + 1)) 52 0 f))).toInt ≤ 200 ∧ gN (sN M 40 0 35 (gN M 40 0 35 + 1)) 40 0 22 + (gJ M 53 0 (4 * f + gN (sN M 40 0 35 (gN M 40 0 35 + 1)) 43 0 (40 * gN (sN M 40 0 35 (gN M 40 0 35 + 1)) 51 0 f + gN (sN M 40 0 35 (gN M 40 0 35 + 1)) 52 0 f))).toInt.toNat ≤ 256
        rw [e 51 _ _ (by omega), e 52 _ _ (by omega), e 43 _ _ (by omega), gNN, if_neg (by omega)]
        exact hq
      · obtain ⟨q1, q2⟩ := hFY.2.2.2.2.2 q
        exact ⟨by omega, q2⟩
      · have := hFY.2.2.2.1 i hi; omega
      · obtain ⟨rfl, hW⟩ := hr
        refine V_vret C E dX11_begins_36 ?_
        exact ⟨rfl, Or.inr ⟨by omega, by rw [show gN M 40 0 11 - 1 = f by omega]; exact Or.inl ⟨by rw [e 52 _ _ (by omega), e 51 _ _ (by omega), e 41 _ _ (by omega)]; exact hpl, hW⟩⟩⟩
    · have hpe : gN M 52 0 f = gN M 41 0 (gN M 51 0 f) := by have := hF.2.2.1; omega
      refine V_callV C [_] (ct_X11_workE (M := (sN M 40 0 35 (gN M 40 0 35 + 1))) (f := f) (m := gN (sN M 40 0 35 (gN M 40 0 35 + 1)) 51 0 f) (by omega) rfl (by rw [e 52 _ _ (by omega), e 51 _ _ (by omega), e 41 _ _ (by omega)]; exact hpe) (by rw [e 51 _ _ (by omega)]; exact hm6) hmIY.1 (by rw [hY.2.2.2.1]; omega) (by rw [hY.2.2.2.1]; omega) hY.low) cv_X11_work lk_X11_209 in_40 rfl rfl ⟨Nat.le_of_ble_eq_true rfl, Nat.le_of_ble_eq_true rfl⟩ rfl rfl (Nat.le_of_ble_eq_true rfl) dX11_begins_33 (fun r M' hr => ?_)
      obtain ⟨rfl, hW⟩ := hr
      refine V_vret C E dX11_begins_36 ?_
      exact ⟨rfl, Or.inr ⟨by omega, by rw [show gN M 40 0 11 - 1 = f by omega]; exact Or.inr ⟨by rw [e 52 _ _ (by omega), e 51 _ _ (by omega), e 41 _ _ (by omega)]; exact hpe, hW⟩⟩⟩
  · skip
    refine V_aload_n C dX11_begins_10 rfl rfl ?_
    refine V_iconst C (nI 1) dX11_begins_11 (by decide) ?_
    refine pf_X11_143 C (by decide) dX11_begins_12 ?_
    refine V_vret C E dX11_begins_15 ?_
    exact ⟨rfl, Or.inl ⟨by omega, rfl⟩⟩

