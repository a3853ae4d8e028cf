theorem CG_move {pk : Nat} {M N X : Mem} {f s t e : Nat} (h : CA pk M N f) (kz : Kz e N) (hx : Fx M X f) (hpos : (Pos pk X f (gN N 51 0 f) t ∧ gN X 7 0 1 = s) ∨ (Pend pk X f (gN N 51 0 f) t ∧ gN X 7 0 1 + 1 = s)) : CG pk X (sN (sN N 40 0 29 s) 52 0 f t) f := by
  obtain ⟨c1, c2, c3, c4, c5, c6, c7, c8, c9, c10, c11⟩ := h
  have hd := (hx.1 2 0 3 (by omega) (by omega)).trans c3
  have ho : gI X 2 0 6 = -1 := by rw [hx.2.1]; exact c9
  have hd2 := c1.2.2.2.1
  refine ⟨by simpa [gNN, gNI, gNJ, gIN, gII, gIJ, gJN, gJI, gJJ] using hd2, Pg_Sc c2 (Sc_Fx hx) ((ScR_N (by omega)).tr (ScR_N (by omega))), hd, Low_eq c4 (Sc_Fx hx) (fun g hg => EqF_Fx hx (by omega)) (fun g hg => (EqN_N (by omega)).tr (EqN_N (by omega))), Fr_52 (Fr_N40 (Fr_Fx hx c5)), ?_, ho, by simpa [gNN, gNI, gNJ, gIN, gII, gIJ, gJN, gJI, gJJ] using c10, by simpa [gNN, gNI, gNJ, gIN, gII, gIJ, gJN, gJI, gJJ] using c11, Kz_of kz (by simp [gNN, gNI, gNJ, gIN, gII, gIJ, gJN, gJI, gJJ]) (by simp [gNN, gNI, gNJ, gIN, gII, gIJ, gJN, gJI, gJJ]) (by simp [gNN, gNI, gNJ, gIN, gII, gIJ, gJN, gJI, gJJ]) (by simp [gNN, gNI, gNJ, gIN, gII, gIJ, gJN, gJI, gJJ]), ?_⟩
  · have := Sk_Fx hx c7
    simpa [Sk, gNN, gNI, gNJ, gIN, gII, gIJ, gJN, gJI, gJJ] using this
  · rcases hpos with ⟨a, b⟩ | ⟨a, b⟩
    · exact Or.inl ⟨by simpa [gNN, gNI, gNJ, gIN, gII, gIJ, gJN, gJI, gJJ] using a, by simpa [Sq, gNN, gNI, gNJ, gIN, gII, gIJ, gJN, gJI, gJJ] using b⟩
    · exact Or.inr ⟨by simpa [gNN, gNI, gNJ, gIN, gII, gIJ, gJN, gJI, gJJ] using a, by simpa [gNN, gNI, gNJ, gIN, gII, gIJ, gJN, gJI, gJJ] using b⟩
theorem CG_move0 {pk : Nat} {M N X : Mem} {f t e : Nat} (h : CA pk M N f) (kz : Kz e N) (hx : Fx M X f) (hpos : Pos pk X f (gN N 51 0 f) t) (hs : gN X 7 0 1 = gN N 40 0 29) : CG pk X (sN N 52 0 f t) f := by
  have := CG_move (s := gN N 40 0 29) h kz hx (Or.inl ⟨hpos, hs⟩)
  rwa [sN_self] at this
theorem CA.fok {pk : Nat} {M N : Mem} {f : Nat} (h : CA pk M N f) : FrOK M f (gN N 51 0 f) := frOK h.2.1 (h.1.2.2.2.2.1 f (by omega)) h.2.2.2.2.1
/-- a jump -/
theorem sim_jump {pk : Nat} {M N M' N' : Mem} {f t e : Nat} (h : CA pk M N f) (kz : Kz e N) (hp : gN N 52 0 f < gN N 41 0 (gN N 51 0 f)) (hj : rac N (gN N 51 0 f) (gN N 52 0 f) = 6 ∨ rac N (gN N 51 0 f) (gN N 52 0 f) = 7) (hL : LeapP pk M f (gN N 51 0 f) (gN N 52 0 f) M') (ht : t ≤ 40) (hv : rnu N (gN N 51 0 f) (gN N 52 0 f) = lN t) (hR : RJmp N f t N') : Rs pk M' N' := by
  obtain ⟨i1, i2, -⟩ := h.ins hp
  obtain ⟨f1, f2, f3, f4⟩ := h.f
  have hF := h.fok
  have hk := h.2.2.2.2.2.2.1
  have hq := h.2.2.2.2.2.2.2.1
  have hP := h.2.1
  have hsc := h.1.2.2.2.2.2.2.2
  unfold Sca at hsc
  have hbk : bk (gN M 11 (gN N 51 0 f)) (gJ M 14 (gN N 51 0 f)) (gN N 52 0 f) ↔ t ≤ gN N 52 0 f := by
    unfold bk
    rw [i1, i2, hv, lN_le (by omega) (by omega)]
    exact ⟨fun q => q.2, fun q => ⟨hj, q⟩⟩
  have htg : tgt (gJ M 14 (gN N 51 0 f)) (gN M 10 (gN N 51 0 f) 4) (gN N 52 0 f) = min t (gN N 41 0 (gN N 51 0 f)) := by
    unfold tgt
    rw [i2, hv, (hP.sz f2).1, lN_toInt (by omega)]
    rfl
  have hbud : gN M 7 0 0 = gN N 40 0 23 := hk.2.1
  unfold Sq at hq
  obtain ⟨r, X, ⟨hx, hJ⟩, hM⟩ := hL
  rw [hbk, htg] at hJ
  rcases hJ with ⟨r1, b, s, ps⟩ | ⟨r1, b, l, s, ps⟩ | ⟨r0, b, l, s⟩ | ⟨r1, b, s, ps⟩
  · rcases hM with ⟨_, rfl⟩ | ⟨q, _⟩
    rotate_left
    · exact (r01 r1 q).elim
    rcases hR with ⟨b2, _⟩ | ⟨b2, _⟩ | ⟨_, rfl⟩
    · exact absurd b2 b
    · exact absurd b2 b
    · exact Or.inl ⟨f, CG_move0 h kz hx ps (s.trans hq)⟩
  · rcases hM with ⟨_, rfl⟩ | ⟨q, _⟩
    rotate_left
    · exact (r01 r1 q).elim
    rcases hR with ⟨_, no, _⟩ | ⟨_, ok, rfl⟩ | ⟨nb, _⟩
    · unfold okC at no; omega
    · exact Or.inl ⟨f, CG_move h kz hx (Or.inl ⟨ps, by rw [s, hq]⟩)⟩
    · exact absurd b nb
  · rcases hM with ⟨q, _⟩ | ⟨_, rfl⟩
    · exact (r01 q r0).elim
    rcases hR with ⟨_, _, rfl⟩ | ⟨_, ok, _⟩ | ⟨nb, _⟩
    · exact Or.inr (Or.inr (CE_stop (Pg_Sc hP (Sc_Fx hx) ScR_rf) (Sk_Fx hx hk) (s.trans hq)))
    · unfold okC at ok; omega
    · exact absurd b nb
  · rcases hM with ⟨_, rfl⟩ | ⟨q, _⟩
    rotate_left
    · exact (r01 r1 q).elim
    rcases hR with ⟨_, no, rfl⟩ | ⟨_, ok, rfl⟩ | ⟨nb, _⟩
    · have ps3 : Pend 3 X f (gN N 51 0 f) (min t (gN N 41 0 (gN N 51 0 f))) := by
        have e := ps.1
        rw [e] at ps
        exact ps
      refine Or.inr (Or.inl ⟨by rw [hx.2.1]; exact h.2.2.2.2.2.2.2.2.1, by simp [rstp, gNN, gNI, gNJ, gIN, gII, gIJ, gJN, gJI, gJJ], ps.1, ⟨f, _, _, f1, (hx.1 2 0 3 (by omega) (by omega)).trans h.2.2.1, FrOK_Fx hx hF, ps3⟩, ?_, ?_, Pg_Sc hP (Sc_Fx hx) ScR_stp, ?_, ?_⟩)
      · rw [hx.1 7 0 0 (by omega) (by omega)]; unfold okC at no; omega
      · rw [hx.1 7 0 0 (by omega) (by omega)]; omega
      · have := Sk_Fx hx hk
        simpa [Sk, rstp, gNN, gNI, gNJ, gIN, gII, gIJ, gJN, gJI, gJJ] using this
      · have : gN X 7 0 1 = gN N 40 0 29 := s.trans hq
        simpa [Sq, rstp, gNN, gNI, gNJ, gIN, gII, gIJ, gJN, gJI, gJJ] using this
    · exact Or.inl ⟨f, CG_move h kz hx (Or.inr ⟨ps, by rw [s, hq]⟩)⟩
    · exact absurd b nb
/-- the top FRAME leaves -/
theorem CZ_leave {pk : Nat} {M N : Mem} {d : Nat} (h : CZ pk M N (d + 1)) : CZ pk (endF M d) (rLeave N) d := by
  obtain ⟨c1, c2, c3, c4, c5, c6, c7, c8, c9⟩ := h
  obtain ⟨hF, hA⟩ := c4 d (by omega)
  have e0 := hF.2.2.1 0 (by omega)
  have e1 := hF.2.2.1 1 (by omega)
  have e2 := hF.2.2.1 2 (by omega)
  have hN : ∀ g, EqN N (rLeave N) g := fun g => (EqN_N (by omega)).tr ((EqN_I (by omega)).tr ((EqN_I (by omega)).tr (EqN_I (by omega))))
  refine ⟨by rw [rl_d, c1]; rfl, Pg_Sc c2 endF_Sc rl_Sc, by rw [endF_d, c3]; rfl, Low_eq (fun g hg => c4 g (by omega)) endF_Sc (fun g hg => (EqF_I (by omega)).tr (EqF_N (by omega))) (fun g _ => hN g), ?_, ?_, ?_, ?_, ?_⟩
  · obtain ⟨s1, s2, s3, s4, s5, s6, s7, s8, s9, s10, s11⟩ := c5
    have hh : gI M 2 0 4 - nI (0 + gN M 32 d 0 + gN M 32 d 1 + gN M 32 d 2) = gI N 40 0 33 - nI (gN N 59 0 (3 * d + 0)) - nI (gN N 59 0 (3 * d + 1)) - nI (gN N 59 0 (3 * d + 2)) := by
      rw [s1, e0, e1, e2, Nat.zero_add, nIa, nIa]
      simp only [Int32.sub_eq_add_neg, Int32.neg_add, Int32.add_assoc]
    unfold endF rLeave
    rw [c1, Nat.add_sub_cancel]
    refine ⟨?_, ?_, ?_, ?_, ?_, ?_, ?_, s8, s9, ?_, ?_⟩
    · simpa [gNN, gNI, gNJ, gIN, gII, gIJ, gJN, gJI, gJJ] using hh
    · simpa [gNN, gNI, gNJ, gIN, gII, gIJ, gJN, gJI, gJJ] using s2
    · simpa [gNN, gNI, gNJ, gIN, gII, gIJ, gJN, gJI, gJJ] using s3
    · simpa [gNN, gNI, gNJ, gIN, gII, gIJ, gJN, gJI, gJJ] using s4
    · simpa [gNN, gNI, gNJ, gIN, gII, gIJ, gJN, gJI, gJJ] using s5
    · simpa [gNN, gNI, gNJ, gIN, gII, gIJ, gJN, gJI, gJJ] using s6
    · simpa [gNN, gNI, gNJ, gIN, gII, gIJ, gJN, gJI, gJJ] using s7
    · simpa [gNN, gNI, gNJ, gIN, gII, gIJ, gJN, gJI, gJJ] using s10
    · simpa [gNN, gNI, gNJ, gIN, gII, gIJ, gJN, gJI, gJJ] using s11
  · unfold Sq at c6 ⊢
    rw [endF_30 7 0 1 (by omega), rl_N _ _ _ (by omega)]; exact c6
  · unfold endF; simpa [gNN, gNI, gNJ, gIN, gII, gIJ, gJN, gJI, gJJ] using c7
  · rw [rl_N _ _ _ (by omega)]; exact c8
  · rw [rl_N _ _ _ (by omega)]; exact c9
theorem HI_leave {N : Mem} {d e : Nat} (hd : gN N 40 0 11 = d + 1) (h : HI e N) : HI 0 (rLeave N) := by
  obtain ⟨a1, m, a2, a3, a4⟩ := h
  rw [hd] at a1 a3
  have e1 : sumH (rLeave N) d = sumH N d := sumH_eq (fun j _ => rl_N _ _ _ (by omega))
  have e2 : sumH N (d + 1) = sumH N d + hs1 N d := rfl
  unfold HI
  rw [rl_d, hd, Nat.add_sub_cancel, e1]
  refine ⟨?_, m, ?_, by omega, by rw [rl_N _ _ _ (by omega)]; omega⟩
  · have : gI (rLeave N) 40 0 33 = gI N 40 0 33 - nI (gN N 59 0 (3 * d + 0)) - nI (gN N 59 0 (3 * d + 1)) - nI (gN N 59 0 (3 * d + 2)) := by
      unfold rLeave; rw [hd, Nat.add_sub_cancel]; simp [gNN, gNI, gNJ, gIN, gII, gIJ, gJN, gJI, gJJ]
    rw [this, a1, e2]
    unfold hs1
    rw [nIa, nIa, nIa]
    generalize nI (sumH N d) = a
    generalize nI (gN N 59 0 (3 * d)) = b0
    generalize nI (gN N 59 0 (3 * d + 1)) = b1
    generalize nI (gN N 59 0 (3 * d + 2)) = b2
    rw [show a + (b0 + b1 + b2) = a + b2 + b1 + b0 by rw [Int32.add_assoc (a + b2), Int32.add_assoc a b2, Int32.add_comm b0 b1, Int32.add_comm (b1 + b0) b2], Int32.add_sub_cancel, Int32.add_sub_cancel, Int32.add_sub_cancel]
  · have : gI (rLeave N) 40 0 34 = gI N 40 0 34 := by unfold rLeave; simp [gNN, gNI, gNJ, gIN, gII, gIJ, gJN, gJI, gJJ]
    rw [this]; exact a2
theorem Kz_leave {N : Mem} {d e : Nat} (hd : gN N 40 0 11 = d + 1) (h : Kz e N) : Kz 0 (rLeave N) := by
  refine ⟨by rw [rl_N _ _ _ (by omega)]; exact h.1, ?_, HI_leave hd h.2.2⟩
  have : gI (rLeave N) 40 0 27 = gI N 40 0 27 := by unfold rLeave; simp [gNN, gNI, gNJ, gIN, gII, gIJ, gJN, gJI, gJJ]
  rw [this]; exact h.2.1
/-- a RETURN -/
theorem sim_give {pk : Nat} {M N M' N' : Mem} {f e : Nat} {v : Int64} (h : CA pk M N f) (kz : Kz e N) (hM : GiveP M f v M') (hR : RGive N v N') : Rs pk M' N' := by
  have hz := CZ_leave h.z
  have hd := h.1.2.2.2.1
  have hk := Kz_leave hd kz
  rcases hM with ⟨d1, rfl⟩ | ⟨g, d1, rfl⟩
  · rcases hR with ⟨-, rfl⟩ | ⟨g, d2, -⟩
    rotate_left
    · have := h.2.2.1; omega
    obtain ⟨c1, c2, c3, c4, c5, c6, c7, c8, c9⟩ := hz
    obtain ⟨s1, s2, s3, s4, s5, s6, s7, s8, s9, s10, s11⟩ := c5
    refine Or.inr (Or.inr ⟨Pg_Sc c2 ((Sc_J (by omega)).tr (Sc_I (by omega))) ((ScR_N (by omega)).tr (ScR_J (by omega))), Or.inr (Or.inl ⟨by simp [gNN, gNI, gNJ, gIN, gII, gIJ, gJN, gJI, gJJ], by simpa [gNN, gNI, gNJ, gIN, gII, gIJ, gJN, gJI, gJJ] using c8, by simp [gNN, gNI, gNJ, gIN, gII, gIJ, gJN, gJI, gJJ], by simpa [gNN, gNI, gNJ, gIN, gII, gIJ, gJN, gJI, gJJ] using hk.1, ?_⟩)⟩)
    unfold Sq at c6
    refine ⟨by simpa [gNN, gNI, gNJ, gIN, gII, gIJ, gJN, gJI, gJJ] using c6, ?_, ?_, by simpa [gNN, gNI, gNJ, gIN, gII, gIJ, gJN, gJI, gJJ] using s3, by simpa [gNN, gNI, gNJ, gIN, gII, gIJ, gJN, gJI, gJJ] using s4, by simpa [gNN, gNI, gNJ, gIN, gII, gIJ, gJN, gJI, gJJ] using s5, by simpa [gNN, gNI, gNJ, gIN, gII, gIJ, gJN, gJI, gJJ] using s6, by simpa [gNN, gNI, gNJ, gIN, gII, gIJ, gJN, gJI, gJJ] using s7, by simp [gNN, gNI, gNJ, gIN, gII, gIJ, gJN, gJI, gJJ]⟩
    · have := s10.trans hk.1.symm
      simpa [gNN, gNI, gNJ, gIN, gII, gIJ, gJN, gJI, gJJ] using this
    · have := s11.trans hk.2.1.symm
      simpa [gNN, gNI, gNJ, gIN, gII, gIJ, gJN, gJI, gJJ] using this
  · have e1 : f = g + 1 := by have := h.2.2.1; omega
    subst e1
    rcases hR with ⟨d2, -⟩ | ⟨g2, d2, rfl⟩
    · omega
    have e2 : g2 = g := by omega
    subst e2
    have hrl := RMI_leave h.1
    have ha := hz.a hrl
    have hlow := h.2.2.2.1 g2 (by omega)
    have hp := h.1.2.2.2.2.2.1 g2 (by omega)
    have hp2 : gN (rLeave N) 52 0 g2 < gN (rLeave N) 41 0 (gN (rLeave N) 51 0 g2) := by
      rw [rl_N _ _ _ (by omega), rl_N _ _ _ (by omega), rl_N _ _ _ (by omega)]; exact hp
    obtain ⟨i1, i2, i3, i4, i5, -⟩ := ha.ins hp2
    rw [rl_N _ _ _ (by omega), rl_N _ _ _ (by omega), endF_30 _ _ _ (by omega)] at i3 i5
    have i6 : 4 * g2 + gN M 12 (gN N 51 0 g2) (gN N 52 0 g2) = 4 * g2 + gN N 43 0 (40 * gN N 51 0 g2 + gN N 52 0 g2) := by
      rw [i3]; unfold rR; rw [rl_N _ _ _ (by omega)]
    rw [hlow.1.1, hlow.2.2.1, ← i6]
    have := sim_reg (v := v) ha hk hp2 i5
    rw [rl_N 52 0 g2 (by omega)] at this
    exact Or.inl ⟨g2, this⟩
