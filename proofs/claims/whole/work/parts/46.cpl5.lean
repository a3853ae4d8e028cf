theorem rp_Sc {N : Mem} {c : Nat} {x : Int64} : ScR N (rPush N c x) := by
  unfold rPush
  exact (ScR_N (by omega)).tr ((ScR_N (by omega)).tr ((ScR_N (by omega)).tr ((ScR_N (by omega)).tr ((ScR_J (by omega)).tr ((ScR_J (by omega)).tr ((ScR_J (by omega)).tr ((ScR_J (by omega)).tr ((ScR_I (by omega)).tr ((ScR_N (by omega)).tr ((ScR_I (by omega)).tr ((ScR_N (by omega)).tr ((ScR_N (by omega)).tr (ScR_N (by omega))))))))))))))
theorem rp_EqN {N : Mem} {c g : Nat} {x : Int64} (hg : g < gN N 40 0 11) : EqN N (rPush N c x) g := by
  unfold rPush
  exact (EqN_N (by omega)).tr ((EqN_N (by omega)).tr ((EqN_N (by omega)).tr ((EqN_N (by omega)).tr ((EqN_J (by omega)).tr ((EqN_J (by omega)).tr ((EqN_J (by omega)).tr ((EqN_J (by omega)).tr ((EqN_I (by omega)).tr ((EqN_N (by omega)).tr ((EqN_I (by omega)).tr ((EqN_N (by omega)).tr ((EqN_N (by omega)).tr (EqN_N (by omega))))))))))))))
theorem Fr_push {M N : Mem} {d c : Nat} {x : Int64} (hd : gN N 40 0 11 = d) : Fr (fbegin M d c x) (rPush N c x) d := by
  unfold rPush fbegin
  rw [hd]
  refine ⟨by simp [gNN, gNI, gNJ, gIN, gII, gIJ, gJN, gJI, gJJ], fun r hr => ?_, fun i hi => ?_, by simp [gNN, gNI, gNJ, gIN, gII, gIJ, gJN, gJI, gJJ], by simp [gNN, gNI, gNJ, gIN, gII, gIJ, gJN, gJI, gJJ], fun q => ?_, by simp [gNN, gNI, gNJ, gIN, gII, gIJ, gJN, gJI, gJJ], by simp [gNN, gNI, gNJ, gIN, gII, gIJ, gJN, gJI, gJJ]⟩
  · rcases (show r = 0 ∨ r = 1 ∨ r = 2 ∨ r = 3 by omega) with rfl | rfl | rfl | rfl <;> simp [gNN, gNI, gNJ, gIN, gII, gIJ, gJN, gJI, gJJ]
  · rcases (show i = 0 ∨ i = 1 ∨ i = 2 by omega) with rfl | rfl | rfl <;> simp [gNN, gNI, gNJ, gIN, gII, gIJ, gJN, gJI, gJJ]
  · exact absurd (by simp [gNN, gNI, gNJ, gIN, gII, gIJ, gJN, gJI, gJJ]) q
theorem Sk_fb {M N : Mem} {f c : Nat} {x : Int64} (h : Sk M N) : Sk (fbegin M f c x) N := by
  unfold Sk at h ⊢
  rw [fb_N 7 _ _ (by omega), fb_N 7 _ _ (by omega), fb_N 7 _ _ (by omega), fb_N 7 _ _ (by omega), fb_N 7 _ _ (by omega), fb_N 7 _ _ (by omega), fb_I 2 _ _ (by omega), fb_I 7 _ _ (by omega), fb_I 7 _ _ (by omega), fb_J 7 _ _ (by omega)]
  exact h
theorem HI_push {N : Mem} {c e s : Nat} {x : Int64} (h : HI e N) : HI 0 (rPush (sN N 40 0 29 s) c x) := by
  obtain ⟨a1, m, a2, a3, a4⟩ := h
  have e11 : gN (rPush (sN N 40 0 29 s) c x) 40 0 11 = gN N 40 0 11 + 1 := by unfold rPush; simp [gNN, gNI, gNJ, gIN, gII, gIJ, gJN, gJI, gJJ]
  have e1 : sumH (rPush (sN N 40 0 29 s) c x) (gN N 40 0 11) = sumH N (gN N 40 0 11) := by
    refine sumH_eq (fun j hj => ?_)
    unfold rPush
    have q : gN (sN N 40 0 29 s) 40 0 11 = gN N 40 0 11 := by simp [gNN, gNI, gNJ, gIN, gII, gIJ, gJN, gJI, gJJ]
    rw [q]
    rw [gNN, if_neg (by omega), gNN, if_neg (by omega), gNN, if_neg (by omega)]
    simp [gNN, gNI, gNJ, gIN, gII, gIJ, gJN, gJI, gJJ]
  have e2 : hs1 (rPush (sN N 40 0 29 s) c x) (gN N 40 0 11) = 0 := by
    unfold hs1 rPush
    have q : gN (sN N 40 0 29 s) 40 0 11 = gN N 40 0 11 := by simp [gNN, gNI, gNJ, gIN, gII, gIJ, gJN, gJI, gJJ]
    rw [q]
    simp [gNN, gNI, gNJ, gIN, gII, gIJ, gJN, gJI, gJJ]
  unfold HI
  rw [e11, sumH_top, e1, e2]
  refine ⟨?_, m, ?_, by omega, ?_⟩
  · have : gI (rPush (sN N 40 0 29 s) c x) 40 0 33 = gI N 40 0 33 := by unfold rPush; simp [gNN, gNI, gNJ, gIN, gII, gIJ, gJN, gJI, gJJ]
    rw [this]; exact a1
  · have : gI (rPush (sN N 40 0 29 s) c x) 40 0 34 = gI N 40 0 34 := by unfold rPush; simp [gNN, gNI, gNJ, gIN, gII, gIJ, gJN, gJI, gJJ]
    rw [this]; exact a2
  · have : gN (rPush (sN N 40 0 29 s) c x) 40 0 35 = gN N 40 0 35 := by unfold rPush; simp [gNN, gNI, gNJ, gIN, gII, gIJ, gJN, gJI, gJJ]
    rw [this]; omega
/-- a CALL, also the first -/
theorem sim_enter {pk : Nat} {M N M' N' : Mem} {d n e : Nat} {x : Int64} (h : CZ pk M N d) (kz : Kz e N) (hn : n ≤ 5) (hM : (n < gN M 1 0 1 ∧ BegP pk M n x M') ∨ (¬ n < gN M 1 0 1 ∧ stp M = M')) (hR : REnter N n x N') : Rs pk M' N' := by
  obtain ⟨c1, c2, c3, c4, c5, c6, c7, c8, c9⟩ := h
  have hcnt := c2.2.2.1
  have htot := c2.tt (c := n) (by omega)
  rw [hcnt] at hM
  rcases hM with ⟨hn1, ⟨hl, rfl⟩ | ⟨hl, hd, r, X, ⟨hx, hE⟩, hM⟩⟩ | ⟨hn1, rfl⟩
  · rcases hR with ⟨_, rfl⟩ | ⟨_, q, q2, _⟩
    · exact Or.inr (Or.inr (CE_stop c2 c5 c6))
    · rw [htot] at hl; omega
  · rcases hR with ⟨q, _⟩ | ⟨_, _, _, hR⟩
    · rw [htot] at hl; omega
    rw [c3] at hE hM hx
    rw [fb_N 7 _ _ (by omega), fb_N 7 _ _ (by omega), c5.2.1] at hE
    unfold Sq at c6
    have hS : Sc M X := fb_Sc.tr (Sc_Fx hx)
    rcases hE with ⟨l, r1, s, ps⟩ | ⟨l, r0, s⟩
    · rcases hM with ⟨_, rfl⟩ | ⟨q, _⟩
      rotate_left
      · exact (r01 r1 q).elim
      rcases hR with ⟨no, _⟩ | ⟨ok, rfl⟩
      · unfold okC at no; omega
      have e11 : gN (sN N 40 0 29 (gN N 40 0 29 + 1)) 40 0 11 = d := by simpa [gNN, gNI, gNJ, gIN, gII, gIJ, gJN, gJI, gJJ] using c1
      refine Or.inl ⟨d, ?_, Pg_Sc c2 (hS.tr ((Sc_N (by omega)).tr (Sc_N (by omega)))) ((ScR_N (by omega)).tr rp_Sc), by simp [gNN, gNI, gNJ, gIN, gII, gIJ, gJN, gJI, gJJ], ?_, ?_, ?_, ?_, ?_, ?_, ?_, Or.inl ⟨?_, ?_⟩⟩
      · unfold rPush; simpa [gNN, gNI, gNJ, gIN, gII, gIJ, gJN, gJI, gJJ] using c1
      · refine Low_eq c4 (hS.tr ((Sc_N (by omega)).tr (Sc_N (by omega)))) (fun g hg => ?_) (fun g hg => (EqN_N (by omega)).tr (rp_EqN (by rw [e11]; exact hg)))
        refine EqF.tr ?_ ((EqF_Fx hx (by omega)).tr ((EqF_N (by omega)).tr (EqF_N (by omega))))
        exact fun k j _ _ => ⟨fb_Ni _ _ _ (by omega), fb_Ii _ _ _ (by omega), fb_Ji _ _ _ (by omega)⟩
      · exact Fr_eq (Fr_Fx hx (Fr_push e11)) ((EqF_N (by omega)).tr (EqF_N (by omega))) EqN_rf
      · have hk := Sk_Fx hx (Sk_fb (f := d) (c := n) (x := x) c5)
        obtain ⟨s1, s2, s3, s4, s5, s6, s7, s8, s9, s10, s11⟩ := hk
        have q3 := c5.2.2.1
        unfold rPush
        simp [Sk, gNN, gNI, gNJ, gIN, gII, gIJ, gJN, gJI, gJJ, q3, c1, s1, s2, s4, s5, s6, s7, s8, s9, s10, s11]
      · rw [gIN, gIN, hx.2.1, fb_I _ _ _ (by omega)]; exact c7
      · unfold rPush; simpa [gNN, gNI, gNJ, gIN, gII, gIJ, gJN, gJI, gJJ] using c8
      · unfold rPush; simpa [gNN, gNI, gNJ, gIN, gII, gIJ, gJN, gJI, gJJ] using c9
      · refine ⟨?_, ?_, HI_push kz.2.2⟩
        · unfold rPush; have := kz.1; simpa [gNN, gNI, gNJ, gIN, gII, gIJ, gJN, gJI, gJJ] using this
        · unfold rPush; have := kz.2.1; simpa [gNN, gNI, gNJ, gIN, gII, gIJ, gJN, gJI, gJJ] using this
      · have q1 : gN (rPush (sN N 40 0 29 (gN N 40 0 29 + 1)) n x) 51 0 d = n := by unfold rPush; rw [e11]; simp [gNN, gNI, gNJ, gIN, gII, gIJ, gJN, gJI, gJJ]
        have q2 : gN (rPush (sN N 40 0 29 (gN N 40 0 29 + 1)) n x) 52 0 d = 0 := by unfold rPush; rw [e11]; simp [gNN, gNI, gNJ, gIN, gII, gIJ, gJN, gJI, gJJ]
        rw [q1, q2]
        exact Pos_eq ps ((Sc_N (by omega)).tr (Sc_N (by omega))) (by simp [gNN, gNI, gNJ, gIN, gII, gIJ, gJN, gJI, gJJ])
      · unfold Sq
        have : gN X 7 0 1 = gN N 40 0 29 + 1 := by rw [s, c6]
        unfold rPush
        simpa [gNN, gNI, gNJ, gIN, gII, gIJ, gJN, gJI, gJJ] using this
    · rcases hM with ⟨q, _⟩ | ⟨_, rfl⟩
      · exact (r01 q r0).elim
      rcases hR with ⟨no, rfl⟩ | ⟨ok, _⟩
      · exact Or.inr (Or.inr (CE_stop (Pg_Sc c2 hS ScR_rf) (Sk_Fx hx (Sk_fb c5)) (by unfold Sq; rw [s]; exact c6)))
      · unfold okC at ok; omega
  · rcases hR with ⟨_, rfl⟩ | ⟨q, _⟩
    · exact Or.inr (Or.inr (CE_stop c2 c5 c6))
    · exact absurd q hn1
theorem sel_iff {M N : Mem} {c pl k h : Nat} (hp : Pg M N) (hc : c < 6) (hh : h < 4) : selP M c pl k h ↔ selR N c pl k h := by
  obtain ⟨a1, a2, a3, a4⟩ := (hp.2.2.2 c hc).2.2.2 h hh
  unfold selP selR
  rw [a1, a2, a4]
  have hb := bit1 (gI N 50 0 (4 * c + h) >>> (nI k &&& 31))
  have hne : ¬ (nI 1 = 0) := by decide
  constructor
  · rintro ⟨q1, q2, q3⟩
    rcases hb with hb | hb
    · exact absurd hb q3
    · exact ⟨q1, q2, hb⟩
  · rintro ⟨q1, q2, q3⟩
    exact ⟨q1, q2, by rw [q3]; exact hne⟩
/-- a HANDLER takes a THROW -/
theorem sim_take {pk : Nat} {M N M' N' : Mem} {d h k e : Nat} (hk1 : 1 ≤ k) (hz : CZ pk M N (d + 1)) (hm : RMI N (d + 1)) (hh : h < gN N 46 0 (gN N 51 0 d)) (h26 : gN N 40 0 26 = k) (h27 : gI N 40 0 27 = gI M 2 0 5) (hi : HI e N) (hM : HandP pk M d (gN N 51 0 d) h k M') (hR : RTake N d (4 * gN N 51 0 d + h) N') : Rs pk M' N' := by
  have h6 : gN N 51 0 d < 6 := by have := hm.1.1; have := (hm.2.2.2.2.1 d (by omega)).1; omega
  obtain ⟨c1, c2, c3, c4, c5, c6, c7, c8, c9⟩ := hz
  obtain ⟨z1, z2, z3, z4⟩ := c2.sz h6
  have ha := ((c2.2.2.2 _ h6).2.2.2 h (by omega)).2.2.1
  have ht := c5.2.2.2.1
  rcases hM with ⟨h30, rfl⟩ | ⟨h30, r, X, ⟨hx, hE⟩, hM⟩
  · rcases hR with ⟨_, rfl⟩ | ⟨q, _⟩
    · exact Or.inr (Or.inr (CE_stop c2 c5 c6))
    · omega
  · rcases hR with ⟨q, _⟩ | ⟨_, hR⟩
    · omega
    rw [c5.2.1] at hE
    unfold Sq at c6
    rcases hE with ⟨l, r1, s, ps⟩ | ⟨l, r0, s⟩
    · rcases hM with ⟨_, rfl⟩ | ⟨q, _⟩
      rotate_left
      · exact (r01 r1 q).elim
      rcases hR with ⟨no, _⟩ | ⟨ok, rfl⟩
      · unfold okC at no; omega
      rw [h26, h27, ← ha, ← z1]
      have hS : Sc X (sI (sN (sN X 7 0 5 (gN M 7 0 5 + 1)) 30 d 7 k) 30 d 8 (gI M 2 0 5)) := (Sc_N (by omega)).tr ((Sc_N (by omega)).tr (Sc_I (by omega)))
      refine Or.inl ⟨d, by simpa [gNN, gNI, gNJ, gIN, gII, gIJ, gJN, gJI, gJJ] using c1, Pg_Sc c2 ((Sc_Fx hx).tr hS) ((ScR_N (by omega)).tr ((ScR_N (by omega)).tr ((ScR_N (by omega)).tr ((ScR_I (by omega)).tr ((ScR_N (by omega)).tr ((ScR_I (by omega)).tr (ScR_N (by omega)))))))), ?_, ?_, ?_, ?_, ?_, by simpa [gNN, gNI, gNJ, gIN, gII, gIJ, gJN, gJI, gJJ] using c8, by simpa [gNN, gNI, gNJ, gIN, gII, gIJ, gJN, gJI, gJJ] using c9, ?_, Or.inl ⟨?_, ?_⟩⟩
      · have := (hx.1 2 0 3 (by omega) (by omega)).trans c3
        simpa [gNN, gNI, gNJ, gIN, gII, gIJ, gJN, gJI, gJJ] using this
      · refine Low_eq (fun g hg => c4 g (by omega)) ((Sc_Fx hx).tr hS) (fun g hg => (EqF_Fx hx (by omega)).tr ((EqF_N (by omega)).tr ((EqF_N (by omega)).tr (EqF_I (by omega))))) (fun g hg => (EqN_N (by omega)).tr ((EqN_N (by omega)).tr ((EqN_N (by omega)).tr ((EqN_I (by omega)).tr ((EqN_N (by omega)).tr ((EqN_I (by omega)).tr (EqN_N (by omega))))))))
      · refine Fr_52 (Fr_eq (Fr_caught hk1 (Fr_eq (Fr_Fx hx (c4 d (by omega)).1) (EqF_N (by omega)) ((EqN_N (by omega)).tr (EqN_N (by omega))))) EqF_rf ((EqN_N (by omega)).tr (EqN_I (by omega))))
      · obtain ⟨s1, s2, s3, s4, s5, s6, s7, s8, s9, s10, s11⟩ := Sk_Fx hx c5
        simp [Sk, gNN, gNI, gNJ, gIN, gII, gIJ, gJN, gJI, gJJ, ht, s1, s2, s3, s5, s6, s7, s8, s9, s10, s11]
      · have : gI X 2 0 6 = -1 := by rw [hx.2.1]; exact c7
        simpa [gNN, gNI, gNJ, gIN, gII, gIJ, gJN, gJI, gJJ] using this
      · refine ⟨by simp [gNN, gNI, gNJ, gIN, gII, gIJ, gJN, gJI, gJJ], by simp [gNN, gNI, gNJ, gIN, gII, gIJ, gJN, gJI, gJJ], HI_of hi (by simp [gNN, gNI, gNJ, gIN, gII, gIJ, gJN, gJI, gJJ]) (by simp [gNN, gNI, gNJ, gIN, gII, gIJ, gJN, gJI, gJJ]) (by simp [gNN, gNI, gNJ, gIN, gII, gIJ, gJN, gJI, gJJ])⟩
      · have := Pos_eq ps hS (by simp [gNN, gNI, gNJ, gIN, gII, gIJ, gJN, gJI, gJJ])
        simpa [gNN, gNI, gNJ, gIN, gII, gIJ, gJN, gJI, gJJ] using this
      · unfold Sq
        have : gN X 7 0 1 = gN N 40 0 29 + 1 := by rw [s, c6]
        simpa [gNN, gNI, gNJ, gIN, gII, gIJ, gJN, gJI, gJJ] using this
    · rcases hM with ⟨q, _⟩ | ⟨_, rfl⟩
      · exact (r01 q r0).elim
      rcases hR with ⟨no, rfl⟩ | ⟨ok, _⟩
      · exact Or.inr (Or.inr (CE_stop (Pg_Sc c2 (Sc_Fx hx) ScR_rf) (Sk_Fx hx c5) (by unfold Sq; rw [s]; exact c6)))
      · unfold okC at ok; omega
/-- a THROW goes up -/
theorem sim_raise {pk k : Nat} (hk : 1 ≤ k) : ∀ (d : Nat) (M N M' N' : Mem) (e : Nat), RaiseP pk k d M M' → RFailP k d N N' → CZ pk M N d → (1 ≤ d → RMI N d) → gN N 40 0 26 = k → gI N 40 0 27 = gI M 2 0 5 → HI e N → Rs pk M' N' := by
  intro d
  induction d with
  | zero =>
    intro M N M' N' e hM hN hz _ h26 h27 _
    obtain ⟨c1, c2, c3, c4, c5, c6, c7, c8, c9⟩ := hz
    obtain ⟨s1, s2, s3, s4, s5, s6, s7, s8, s9, s10, s11⟩ := c5
    have hM2 : sI (sI (sN M 7 0 2 k) 7 0 3 (gI M 2 0 5)) 2 0 6 (nI 2) = M' := hM
    have hN2 : sN N 40 0 25 1 = N' := hN
    subst hM2
    subst hN2
    refine Or.inr (Or.inr ⟨Pg_Sc c2 ((Sc_N (by omega)).tr ((Sc_I (by omega)).tr (Sc_I (by omega)))) (ScR_N (by omega)), Or.inr (Or.inr ⟨by simp [gNN, gNI, gNJ, gIN, gII, gIJ, gJN, gJI, gJJ], by simpa [gNN, gNI, gNJ, gIN, gII, gIJ, gJN, gJI, gJJ] using c8, by simp [gNN, gNI, gNJ, gIN, gII, gIJ, gJN, gJI, gJJ], ?_, ?_⟩)⟩)
    · simp [gNN, gNI, gNJ, gIN, gII, gIJ, gJN, gJI, gJJ]; omega
    · unfold Sq at c6
      refine ⟨by simpa [gNN, gNI, gNJ, gIN, gII, gIJ, gJN, gJI, gJJ] using c6, by simp [gNN, gNI, gNJ, gIN, gII, gIJ, gJN, gJI, gJJ, h26], by simp [gNN, gNI, gNJ, gIN, gII, gIJ, gJN, gJI, gJJ, h27], by simpa [gNN, gNI, gNJ, gIN, gII, gIJ, gJN, gJI, gJJ] using s3, by simpa [gNN, gNI, gNJ, gIN, gII, gIJ, gJN, gJI, gJJ] using s4, by simpa [gNN, gNI, gNJ, gIN, gII, gIJ, gJN, gJI, gJJ] using s5, by simpa [gNN, gNI, gNJ, gIN, gII, gIJ, gJN, gJI, gJJ] using s6, by simpa [gNN, gNI, gNJ, gIN, gII, gIJ, gJN, gJI, gJJ] using s7, ?_⟩
      have := s8.trans s9.symm
      simpa [gNN, gNI, gNJ, gIN, gII, gIJ, gJN, gJI, gJJ] using this
  | succ d ih =>
    intro M N M' N' e hM hN hz hm h26 h27 hi
    have hm1 := hm (by omega)
    have h6 : gN N 51 0 d < 6 := by have := hm1.1.1; have := (hm1.2.2.2.2.1 d (by omega)).1; omega
    have hP := hz.2.1
    obtain ⟨z1, z2, z3, z4⟩ := hP.sz h6
    obtain ⟨hF, hA⟩ := hz.2.2.2.1 d (by omega)
    have e3 : gN M 30 d 3 = gN N 51 0 d := hF.1
    have e4 : gN M 30 d 4 = gN N 52 0 d := hA.2.1
    unfold RaiseP at hM
    unfold RFailP at hN
    rw [e3, e4, z2] at hM
    rcases hM with ⟨h, hh, hs, hmin, hM⟩ | ⟨hno, hM⟩
    · rw [sel_iff hP h6 (by omega)] at hs
      rcases hN with ⟨h', hh', hs', hmin', hN⟩ | ⟨hno', _⟩
      · have he : h = h' := by
          rcases Nat.lt_trichotomy h h' with q | q | q
          · exact absurd hs (hmin' h q)
          · exact q
          · exact absurd ((sel_iff hP h6 (by omega)).mpr hs') (hmin h' q)
        subst he
        exact sim_take hk hz hm1 hh h26 h27 hi hM hN
      · exact absurd hs (hno' h hh)
    · rcases hN with ⟨h', hh', hs', _, _⟩ | ⟨_, hN⟩
      · exact absurd ((sel_iff hP h6 (by omega)).mpr hs') (hno h' hh')
      · refine ih (endF M d) (rLeave N) M' N' 0 hM hN (CZ_leave hz) (fun q => ?_) (by rw [rl_N _ _ _ (by omega)]; exact h26) ?_ (HI_leave hz.1 hi)
        · obtain ⟨d', rfl⟩ : ∃ d', d = d' + 1 := ⟨d - 1, by omega⟩
          exact RMI_leave hm1
        · have q1 : gI (rLeave N) 40 0 27 = gI N 40 0 27 := by unfold rLeave; simp [gNN, gNI, gNJ, gIN, gII, gIJ, gJN, gJI, gJJ]
          have q2 : gI (endF M d) 2 0 5 = gI M 2 0 5 := by unfold endF; simp [gNN, gNI, gNJ, gIN, gII, gIJ, gJN, gJI, gJJ]
          rw [q1, q2]; exact h27
theorem sim_fail {pk k e : Nat} {M N M' N' : Mem} {f : Nat} {n : Int32} (hk : 1 ≤ k) (h : CA pk M N f) (hi : HI e N) (hn : gI M 2 0 5 = n) (hM : RaiseP pk k (f + 1) M M') (hR : RFAIL N k n N') : Rs pk M' N' := by
  have hz := h.z
  unfold RFAIL at hR
  rw [h.1.2.2.2.1] at hR
  have hs : ScR N (sI (sN N 40 0 26 k) 40 0 27 n) := (ScR_N (by omega)).tr (ScR_I (by omega))
  have hN : ∀ g, EqN N (sI (sN N 40 0 26 k) 40 0 27 n) g := fun g => (EqN_N (by omega)).tr (EqN_I (by omega))
  obtain ⟨c1, c2, c3, c4, c5, c6, c7, c8, c9⟩ := hz
  refine sim_raise hk (f + 1) M _ M' N' 0 hM hR ⟨by simpa [gNN, gNI, gNJ, gIN, gII, gIJ, gJN, gJI, gJJ] using c1, Pg_Sc c2 Sc_rf hs, c3, Low_eq c4 Sc_rf (fun _ _ => EqF_rf) (fun g _ => hN g), ?_, ?_, c7, by simpa [gNN, gNI, gNJ, gIN, gII, gIJ, gJN, gJI, gJJ] using c8, by simpa [gNN, gNI, gNJ, gIN, gII, gIJ, gJN, gJI, gJJ] using c9⟩ (fun _ => RMI_I (RMI_scal h.1 (by omega) (by omega) (by omega))) (by simp [gNN, gNI, gNJ, gIN, gII, gIJ, gJN, gJI, gJJ]) (by simp [gNN, gNI, gNJ, gIN, gII, gIJ, gJN, gJI, gJJ, hn]) (HI_of hi (by simp [gNN, gNI, gNJ, gIN, gII, gIJ, gJN, gJI, gJJ]) (by simp [gNN, gNI, gNJ, gIN, gII, gIJ, gJN, gJI, gJJ]) (by simp [gNN, gNI, gNJ, gIN, gII, gIJ, gJN, gJI, gJJ]))
  · simpa [Sk, gNN, gNI, gNJ, gIN, gII, gIJ, gJN, gJI, gJJ] using c5
  · simpa [Sq, gNN, gNI, gNJ, gIN, gII, gIJ, gJN, gJI, gJJ] using c6
