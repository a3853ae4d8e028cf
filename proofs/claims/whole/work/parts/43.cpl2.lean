theorem frOK {M N : Mem} {g : Nat} (hp : Pg M N) (hr : FrR N g) (hf : Fr M N g) : FrOK M g (gN N 51 0 g) := by
  have h6 := hp.1.1
  have h1 := hr.1
  have h3 := hp.2.2.1
  have h5 : gN N 51 0 g < 6 := by omega
  exact ⟨hf.1, h5, hp.1.2.1 _ h5, hp.1.2.2 _ (by omega), by rw [hp.tt h5]; exact hr.2.1⟩
theorem Sc_stp {M : Mem} : Sc M (stp M) := Sc_I (by omega)
theorem ScR_stp {N : Mem} : ScR N (rstp N) := ScR_N (by omega)
theorem CE_stop {M N : Mem} (hp : Pg M N) (hk : Sk M N) (hq : Sq M N) : CE (stp M) (rstp N) := by
  refine ⟨Pg_Sc hp Sc_stp ScR_stp, Or.inl ⟨?_, ?_, ?_, ?_⟩⟩
  · simp [stp, gNN, gNI, gNJ, gIN, gII, gIJ, gJN, gJI, gJJ]
  · simp [rstp, gNN, gNI, gNJ, gIN, gII, gIJ, gJN, gJI, gJJ]
  · simpa [Sk, stp, rstp, gNN, gNI, gNJ, gIN, gII, gIJ, gJN, gJI, gJJ] using hk
  · simpa [Sq, stp, rstp, gNN, gNI, gNJ, gIN, gII, gIJ, gJN, gJI, gJJ] using hq
theorem CG_next {pk : Nat} {M N M' N' : Mem} {f : Nat} (h : CA pk M N f) (hp : gN N 52 0 f < gN N 41 0 (gN N 51 0 f)) (hs : Sc M M') (hn : ScR N N') (hF : ∀ g, g < f → EqF M M' g) (hN : ∀ g, g < f → EqN N N' g) (h4 : gN M' 30 f 4 = gN M 30 f 4 ∧ gN M' 30 f 5 = gN M 30 f 5 ∧ gN M' 30 f 6 = gN M 30 f 6) (hd : gN M' 2 0 3 = gN M 2 0 3 ∧ gI M' 2 0 6 = gI M 2 0 6) (hdn : gN N' 40 0 11 = gN N 40 0 11 ∧ gN N' 40 0 24 = gN N 40 0 24 ∧ gN N' 40 0 25 = gN N 40 0 25) (kz : Kz 0 N') (h5 : gN N' 51 0 f = gN N 51 0 f ∧ gN N' 52 0 f = gN N 52 0 f + 1) (hst : Sq M' N') (hfr : Fr M' N' f) (hsk : Sk M' N') : CG pk M' N' f := by
  obtain ⟨c1, c2, c3, c4, c5, c6, c7, c8, c9, c10, c11⟩ := h
  have h6 : gN N 51 0 f < 6 := by have := c1.1.1; have := (c1.2.2.2.2.1 f (by omega)).1; omega
  refine ⟨by rw [hdn.1]; exact c1.2.2.2.1, Pg_Sc c2 hs hn, by rw [hd.1]; exact c3, Low_eq c4 hs hF hN, hfr, hsk, by rw [hd.2]; exact c9, by rw [hdn.2.1]; exact c10, by rw [hdn.2.2]; exact c11, kz, Or.inl ⟨?_, hst⟩⟩
  rw [h5.1, h5.2]
  exact Pos_eq (At.pos c6 (by rw [(c2.sz h6).1]; exact hp)) hs h4.2.2
theorem CA.f {pk : Nat} {M N : Mem} {f : Nat} (h : CA pk M N f) : f < 12 ∧ gN N 51 0 f < 6 ∧ gN N 40 0 11 = f + 1 ∧ gN N 41 0 (gN N 51 0 f) ≤ 40 := by
  have h1 := h.1.2.2.1
  have h2 := h.1.1.1
  have h3 := (h.1.2.2.2.2.1 f (by omega)).1
  exact ⟨by omega, by omega, h.1.2.2.2.1, (h.1.1.2 _ (by omega)).1⟩
theorem CA_num {pk : Nat} {M N : Mem} {f : Nat} {x : Int32} (h : CA pk M N f) : CA pk (sI M 2 0 5 x) N f := by
  obtain ⟨c1, c2, c3, c4, c5, c6, c7, c8, c9, c10, c11⟩ := h
  have hs : Sc M (sI M 2 0 5 x) := Sc_I (by omega)
  refine ⟨c1, Pg_Sc c2 hs ScR_rf, c3, Low_eq c4 hs (fun g _ => EqF_I (by omega)) (fun _ _ => EqN_rf), Fr_eq c5 (EqF_I (by omega)) EqN_rf, At_eq c6 hs rfl rfl rfl, ?_, c8, ?_, c10, c11⟩
  · simpa [Sk, gNN, gNI, gNJ, gIN, gII, gIJ, gJN, gJI, gJJ] using c7
  · simpa [gNN, gNI, gNJ, gIN, gII, gIJ, gJN, gJI, gJJ] using c9
/-- the INSTRUCTION at the top, in both -/
theorem CA.ins {pk : Nat} {M N : Mem} {f : Nat} (h : CA pk M N f) (hp : gN N 52 0 f < gN N 41 0 (gN N 51 0 f)) : gN M 11 (gN N 51 0 f) (gN N 52 0 f) = rac N (gN N 51 0 f) (gN N 52 0 f) ∧ gJ M 14 (gN N 51 0 f) (gN N 52 0 f) = rnu N (gN N 51 0 f) (gN N 52 0 f) ∧ 4 * f + gN M 12 (gN N 51 0 f) (gN N 52 0 f) = rR N f (gN N 51 0 f) (gN N 52 0 f) ∧ 4 * f + gN M 13 (gN N 51 0 f) (gN N 52 0 f) = rS N f (gN N 51 0 f) (gN N 52 0 f) ∧ gN M 12 (gN N 51 0 f) (gN N 52 0 f) < 4 ∧ gN M 13 (gN N 51 0 f) (gN N 52 0 f) < 4 ∧ gJ M 31 f (gN M 12 (gN N 51 0 f) (gN N 52 0 f)) = gJ N 53 0 (rR N f (gN N 51 0 f) (gN N 52 0 f)) ∧ gJ M 31 f (gN M 13 (gN N 51 0 f) (gN N 52 0 f)) = gJ N 53 0 (rS N f (gN N 51 0 f) (gN N 52 0 f)) := by
  obtain ⟨q1, q2, q3, q4⟩ := h.f
  obtain ⟨c1, c2, c3, c4, c5, c6, c7, c8, c9, c10, c11⟩ := h
  obtain ⟨a1, a2, a3, a4⟩ := (c2.2.2.2 _ q2).2.2.1 (gN N 52 0 f) (by omega)
  obtain ⟨b1, b2, b3⟩ := (c1.1.2 _ q2).2.2.1 (gN N 52 0 f) (by omega)
  have e1 : 4 * f + gN M 12 (gN N 51 0 f) (gN N 52 0 f) = rR N f (gN N 51 0 f) (gN N 52 0 f) := by rw [a2]; rfl
  have e2 : 4 * f + gN M 13 (gN N 51 0 f) (gN N 52 0 f) = rS N f (gN N 51 0 f) (gN N 52 0 f) := by rw [a3]; rfl
  refine ⟨a1, a4, e1, e2, by omega, by omega, ?_, ?_⟩
  · rw [← e1]; exact c5.2.1 _ (by omega)
  · rw [← e2]; exact c5.2.1 _ (by omega)
/-- the same of a FRAME before its fetch -/
theorem CG.ins {pk : Nat} {M N : Mem} {f : Nat} (h : CG pk M N f) (hm : RMI N (f + 1)) : gN N 51 0 f < 6 ∧ gN M 10 (gN N 51 0 f) 4 = gN N 41 0 (gN N 51 0 f) ∧ (mkP M (gN N 51 0 f) (gN N 52 0 f) ↔ (gN N 52 0 f < gN N 41 0 (gN N 51 0 f) ∧ rac N (gN N 51 0 f) (gN N 52 0 f) = 8)) ∧ (gN N 52 0 f < gN N 41 0 (gN N 51 0 f) → gJ M 31 f (gN M 12 (gN N 51 0 f) (gN N 52 0 f)) = gJ N 53 0 (rR N f (gN N 51 0 f) (gN N 52 0 f))) := by
  have h6 : gN N 51 0 f < 6 := by have := hm.1.1; have := (hm.2.2.2.2.1 f (by omega)).1; omega
  obtain ⟨c1, c2, c3, c4, c5, c6⟩ := h
  obtain ⟨z1, z2, z3, z4⟩ := c2.sz h6
  have hI : gN N 52 0 f < gN N 41 0 (gN N 51 0 f) → gN M 11 (gN N 51 0 f) (gN N 52 0 f) = rac N (gN N 51 0 f) (gN N 52 0 f) := fun q => (c2.ac h6).1 _ q
  refine ⟨h6, z1, ?_, fun q => ?_⟩
  · unfold mkP
    rw [z1]
    constructor
    · intro q; exact ⟨q.1, by rw [← hI q.1]; exact q.2⟩
    · intro q; exact ⟨q.1, by rw [hI q.1]; exact q.2⟩
  · obtain ⟨a1, a2, a3, a4⟩ := (c2.2.2.2 _ h6).2.2.1 (gN N 52 0 f) (by omega)
    obtain ⟨b1, b2, b3⟩ := (hm.1.2 _ h6).2.2.1 (gN N 52 0 f) (by omega)
    rw [c5.2.1 _ (by omega), a2]
    rfl
theorem Sk_Fx {M X N : Mem} {f : Nat} (h : Fx M X f) (hk : Sk M N) : Sk X N := by
  have e1 := h.1 7 0 0 (by omega) (by omega)
  have e2 := h.1 7 0 4 (by omega) (by omega)
  have e3 := h.1 7 0 5 (by omega) (by omega)
  have e4 := h.1 7 0 6 (by omega) (by omega)
  have e5 := h.1 7 0 8 (by omega) (by omega)
  have e6 := h.1 7 0 2 (by omega) (by omega)
  unfold Sk at hk ⊢
  rw [e1, e2, e3, e4, e5, e6, h.2.1, h.2.2]
  exact hk
theorem Fr_Fx {M X N : Mem} {f : Nat} (h : Fx M X f) (hk : Fr M N f) : Fr X N f := by
  have e1 := h.1 30 f 3 (by omega) (by omega)
  have e2 := h.1 33 f 2 (by omega) (by omega)
  have e3 := h.1 30 f 7 (by omega) (by omega)
  have e4 : ∀ i, gN X 32 f i = gN M 32 f i := fun i => h.1 32 f i (by omega) (by omega)
  unfold Fr at hk ⊢
  simp only [e1, e2, e3, e4, h.2.1, h.2.2]
  exact hk
theorem FetchP.r {pk : Nat} {M : Mem} {f c p s0 : Nat} {r : Option Value} {M' : Mem} (h : FetchP pk M f c p s0 r M') : some (.int (nI 1)) = r ∨ some (.int (nI 0)) = r := by
  rcases h.2 with ⟨h, _⟩ | ⟨h, _⟩
  · exact Or.inl h
  · exact Or.inr h
theorem r01 {r : Option Value} (h1 : some (.int (nI 1)) = r) (h0 : some (.int (nI 0)) = r) : False := by
  have := h1.trans h0.symm
  simp only [Option.some.injEq, Value.int.injEq] at this
  exact absurd this (by decide)
/-- a fetch that THE STOP ends -/
theorem sim_fetch0 {pk : Nat} {M N X N' : Mem} {f : Nat} (h : CG pk M N f) (hm : RMI N (f + 1)) (hF : FetchP pk M f (gN N 51 0 f) (gN N 52 0 f) (gN N 40 0 29) (some (.int (nI 0))) X) (hT : TurnR N N') : CE (stp X) N' := by
  obtain ⟨i1, i2, i3, i4⟩ := h.ins hm
  obtain ⟨c1, c2, c3, c4, c5, c6, c7, c8, c9, c10, c11⟩ := h
  obtain ⟨hx, hF⟩ := hF
  rcases hF with ⟨q, _⟩ | ⟨-, hk, hno, hs⟩
  · exact (r01 q rfl).elim
  obtain ⟨r, Y, hP, hB⟩ := hT
  rw [show gN N 40 0 11 - 1 = f by omega] at hP
  have hk2 := i3.mp hk
  rw [i4 hk2.1, c6.2.1] at hno
  rcases hP with ⟨hn, _⟩ | ⟨-, ⟨hok, _⟩ | ⟨-, hr, hY⟩⟩
  · exact absurd hk2 hn
  · exact absurd hok hno
  rcases hB with ⟨_, hN⟩ | ⟨hr2, _⟩
  · rw [← hN, ← hY]
    exact CE_stop (Pg_Sc c2 (Sc_Fx hx) ScR_rf) (Sk_Fx hx c6) hs
  · exact (r01 hr2 hr).elim
/-- a fetch -/
theorem sim_fetch1 {pk : Nat} {M N X N' : Mem} {f : Nat} (h : CG pk M N f) (hm : RMI N (f + 1)) (hF : FetchP pk M f (gN N 51 0 f) (gN N 52 0 f) (gN N 40 0 29) (some (.int (nI 1))) X) (hT : TurnR N N') : ∃ N1, CA pk X N1 f ∧ Kz 0 N1 ∧ BegR N1 N' ∧ (gN N1 52 0 f < gN N1 41 0 (gN N1 51 0 f) → rac N1 (gN N1 51 0 f) (gN N1 52 0 f) = 8 → (gJ N1 53 0 (rR N1 f (gN N1 51 0 f) (gN N1 52 0 f))).toInt ≤ 200) := by
  obtain ⟨i1, i2, i3, i4⟩ := h.ins hm
  obtain ⟨c1, c2, c3, c4, c5, c6, c7, c8, c9, c10, c11⟩ := h
  obtain ⟨hx, hF⟩ := hF
  rcases hF with ⟨-, hA, hc⟩ | ⟨q, _⟩
  rotate_left
  · exact (r01 rfl q).elim
  obtain ⟨r, Y, hP, hB⟩ := hT
  rw [show gN N 40 0 11 - 1 = f by omega] at hP
  have hd := (hx.1 2 0 3 (by omega) (by omega)).trans c3
  have ho : gI X 2 0 6 = -1 := by rw [hx.2.1]; exact c7
  have hL : Low pk X N f := Low_eq c4 (Sc_Fx hx) (fun g hg => EqF_Fx hx (by omega)) (fun _ _ => EqN_rf)
  rcases hc with ⟨hnk, hs⟩ | ⟨hk, hok2, hs⟩
  · rcases hP with ⟨hn, hr, hY⟩ | ⟨hk2, _⟩
    rotate_left
    · exact absurd (i3.mpr hk2) hnk
    rcases hB with ⟨hr2, _⟩ | ⟨_, hB⟩
    · exact (r01 hr hr2).elim
    subst hY
    exact ⟨N, ⟨hm, Pg_Sc c2 (Sc_Fx hx) ScR_rf, hd, hL, Fr_Fx hx c5, hA, Sk_Fx hx c6, hs, ho, c8, c9⟩, c10, hB, fun q1 q2 => absurd ⟨q1, q2⟩ hn⟩
  · have hk2 := i3.mp hk
    rw [i4 hk2.1, c6.2.1] at hok2
    rw [i4 hk2.1] at hs
    rcases hP with ⟨hn, _⟩ | ⟨-, ⟨hok, hr, hY⟩ | ⟨hno, _⟩⟩
    · exact absurd hk2 hn
    rotate_left
    · exact absurd hok2 hno
    rcases hB with ⟨hr2, _⟩ | ⟨_, hB⟩
    · exact (r01 hr hr2).elim
    subst hY
    refine ⟨_, ⟨RMI_steps hm (by omega) hok, Pg_Sc c2 (Sc_Fx hx) (ScR_N (by omega)), hd, Low_eq hL Sc_rf (fun _ _ => EqF_rf) (fun _ _ => EqN_N (by omega)), Fr_eq (Fr_Fx hx c5) EqF_rf (EqN_N (by omega)), ?_, ?_, ?_, ho, ?_, ?_⟩, ?_, hB, ?_⟩
    · simpa [gNN, gNI, gNJ, gIN, gII, gIJ, gJN, gJI, gJJ] using hA
    · have := Sk_Fx hx c6
      simpa [Sk, gNN, gNI, gNJ, gIN, gII, gIJ, gJN, gJI, gJJ] using this
    · simpa [Sq, gNN, gNI, gNJ, gIN, gII, gIJ, gJN, gJI, gJJ] using hs
    · simpa [gNN, gNI, gNJ, gIN, gII, gIJ, gJN, gJI, gJJ] using c8
    · simpa [gNN, gNI, gNJ, gIN, gII, gIJ, gJN, gJI, gJJ] using c9
    · exact Kz_of c10 (by simp [gNN, gNI, gNJ, gIN, gII, gIJ, gJN, gJI, gJJ]) (by simp [gNN, gNI, gNJ, gIN, gII, gIJ, gJN, gJI, gJJ]) (by simp [gNN, gNI, gNJ, gIN, gII, gIJ, gJN, gJI, gJJ]) (by simp [gNN, gNI, gNJ, gIN, gII, gIJ, gJN, gJI, gJJ])
    · intro _ _
      have := (paid_z (f := f) hm.2.2.2.2.2.2.2 hok).1
      simpa [rR, gNN, gNI, gNJ, gIN, gII, gIJ, gJN, gJI, gJJ] using this
/-- an INSTRUCTION begins -/
theorem sim_beg0 {pk : Nat} {M N N' : Mem} {f : Nat} (h : CA pk M N f) (hb : ¬ gN M 7 0 8 < 2000) (hB : BegR N N') : CE (stp M) N' := by
  obtain ⟨c1, c2, c3, c4, c5, c6, c7, c8, c9, c10, c11⟩ := h
  have e := c7.2.2.2.2.2.2.1
  rcases hB with ⟨_, hN⟩ | ⟨hlt, _⟩
  · rw [← hN]; exact CE_stop c2 c7 c8
  · omega
theorem sim_beg1 {pk : Nat} {M N N' : Mem} {f : Nat} (h : CA pk M N f) (hz : Kz 0 N) (hb : gN M 7 0 8 < 2000) (hB : BegR N N') : CA pk (sN M 7 0 8 (gN M 7 0 8 + 1)) (sN N 40 0 35 (gN N 40 0 35 + 1)) f ∧ Kz 1 (sN N 40 0 35 (gN N 40 0 35 + 1)) ∧ WorkT (sN N 40 0 35 (gN N 40 0 35 + 1)) f N' := by
  obtain ⟨c1, c2, c3, c4, c5, c6, c7, c8, c9, c10, c11⟩ := h
  have e := c7.2.2.2.2.2.2.1
  have hd := c1.2.2.2.1
  rcases hB with ⟨hh, _⟩ | ⟨hlt, hW⟩
  · omega
  rw [show gN N 40 0 11 - 1 = f by omega] at hW
  refine ⟨⟨RMI_begun c1 hlt, Pg_Sc c2 (Sc_N (by omega)) (ScR_N (by omega)), ?_, Low_eq c4 (Sc_N (by omega)) (fun _ _ => EqF_N (by omega)) (fun _ _ => EqN_N (by omega)), Fr_eq c5 (EqF_N (by omega)) (EqN_N (by omega)), ?_, ?_, ?_, c9, ?_, ?_⟩, ?_, hW⟩
  · simpa [gNN, gNI, gNJ, gIN, gII, gIJ, gJN, gJI, gJJ] using c3
  · have := At_eq c6 (Sc_N (k := 7) (i := 0) (j := 8) (v := gN M 7 0 8 + 1) (by omega)) (by simp [gNN, gNI, gNJ, gIN, gII, gIJ, gJN, gJI, gJJ]) (by simp [gNN, gNI, gNJ, gIN, gII, gIJ, gJN, gJI, gJJ]) (by simp [gNN, gNI, gNJ, gIN, gII, gIJ, gJN, gJI, gJJ])
    simpa [gNN, gNI, gNJ, gIN, gII, gIJ, gJN, gJI, gJJ] using this
  · obtain ⟨s1, s2, s3, s4, s5, s6, s7, s8, s9, s10, s11⟩ := c7
    simp [Sk, gNN, gNI, gNJ, gIN, gII, gIJ, gJN, gJI, gJJ, *]
  · simpa [Sq, gNN, gNI, gNJ, gIN, gII, gIJ, gJN, gJI, gJJ] using c8
  · simpa [gNN, gNI, gNJ, gIN, gII, gIJ, gJN, gJI, gJJ] using c10
  · simpa [gNN, gNI, gNJ, gIN, gII, gIJ, gJN, gJI, gJJ] using c11
  · obtain ⟨k1, k2, k3, m, k4, k5, k6⟩ := hz
    have e3 : sumH (sN N 40 0 35 (gN N 40 0 35 + 1)) (gN N 40 0 11) = sumH N (gN N 40 0 11) := sumH_eq (fun j _ => by simp [gNN, gNI, gNJ, gIN, gII, gIJ, gJN, gJI, gJJ])
    refine ⟨by simpa [gNN, gNI, gNJ, gIN, gII, gIJ, gJN, gJI, gJJ] using k1, by simpa [gNN, gNI, gNJ, gIN, gII, gIJ, gJN, gJI, gJJ] using k2, ?_, m, by simpa [gNN, gNI, gNJ, gIN, gII, gIJ, gJN, gJI, gJJ] using k4, ?_, ?_⟩
    · simpa [gNN, gNI, gNJ, gIN, gII, gIJ, gJN, gJI, gJJ, e3] using k3
    · simpa [gNN, gNI, gNJ, gIN, gII, gIJ, gJN, gJI, gJJ, e3] using k5
    · simp [gNN, gNI, gNJ, gIN, gII, gIJ, gJN, gJI, gJJ]; omega
