theorem sim_perf {pk : Nat} {M N M' N' : Mem} {f : Nat} {r : Option Value} (h : CA pk M N f) (kz : Kz 1 N) (hp : gN N 52 0 f < gN N 41 0 (gN N 51 0 f)) (hP : PerfP pk M f (gN N 51 0 f) (gN N 52 0 f) r M') (hW : RWork N f (gN N 51 0 f) (gN N 52 0 f) N') : PfR pk M' N N' f r := by
  obtain ⟨i1, i2, i3, i4, i5, i6, i7, i8⟩ := h.ins hp
  have h1 := CA_num (x := nI 0) h
  have hfr := h.2.2.2.2.1
  have hcnt := h.2.1.2.2.1
  unfold PerfP at hP
  rw [i1, i2] at hP
  unfold RWork at hW
  rcases hW with ⟨w0, w⟩ | ⟨w0, w⟩ | ⟨w0, w⟩ | ⟨w0, w⟩ | ⟨w0, w⟩ | ⟨w0, w⟩ | ⟨w0, w⟩ | ⟨w0, w⟩ | ⟨w0, w⟩ | ⟨w0, w⟩ | ⟨w0, w⟩ | ⟨w0, w⟩ | ⟨w0, w⟩ | ⟨w0, w⟩ | ⟨w0, w⟩
  · rcases hP with ⟨p0, q⟩ | ⟨p0, q⟩ | ⟨p0, q⟩ | ⟨p0, q⟩ | ⟨p0, q⟩ | ⟨p0, q⟩ | ⟨p0, q⟩ | ⟨p0, q⟩ | ⟨p0, q⟩ | ⟨p0, q⟩ | ⟨p0, q⟩ | ⟨p0, q⟩ <;> first | (exfalso; omega) | skip
    have := sim_reg (v := rnu N (gN N 51 0 f) (gN N 52 0 f)) h1 kz hp i5
    rw [i3, w, q.2] at this
    exact Or.inl ⟨q.1, Or.inl ⟨f, this⟩⟩
  · rcases hP with ⟨p0, q⟩ | ⟨p0, q⟩ | ⟨p0, q⟩ | ⟨p0, q⟩ | ⟨p0, q⟩ | ⟨p0, q⟩ | ⟨p0, q⟩ | ⟨p0, q⟩ | ⟨p0, q⟩ | ⟨p0, q⟩ | ⟨p0, q⟩ | ⟨p0, q⟩ <;> first | (exfalso; omega) | skip
    unfold ReckP at q
    simp only [gNI, gJI, i7, i8] at q
    rcases q with ⟨e, hr, hM⟩ | ⟨e, -⟩ | ⟨e, -⟩ | ⟨e, -⟩ | ⟨e, -⟩ | ⟨e, -⟩ <;> first | (exfalso; omega) | skip
    have := sim_reg (v := gJ N 53 0 (rR N f (gN N 51 0 f) (gN N 52 0 f)) + gJ N 53 0 (rS N f (gN N 51 0 f) (gN N 52 0 f))) h1 kz hp i5
    rw [i3, w, hM] at this
    exact Or.inl ⟨hr, Or.inl ⟨f, this⟩⟩
  · rcases hP with ⟨p0, q⟩ | ⟨p0, q⟩ | ⟨p0, q⟩ | ⟨p0, q⟩ | ⟨p0, q⟩ | ⟨p0, q⟩ | ⟨p0, q⟩ | ⟨p0, q⟩ | ⟨p0, q⟩ | ⟨p0, q⟩ | ⟨p0, q⟩ | ⟨p0, q⟩ <;> first | (exfalso; omega) | skip
    unfold ReckP at q
    simp only [gNI, gJI, i7, i8] at q
    rcases q with ⟨e, -⟩ | ⟨e, hr, hM⟩ | ⟨e, -⟩ | ⟨e, -⟩ | ⟨e, -⟩ | ⟨e, -⟩ <;> first | (exfalso; omega) | skip
    have := sim_reg (v := gJ N 53 0 (rR N f (gN N 51 0 f) (gN N 52 0 f)) - gJ N 53 0 (rS N f (gN N 51 0 f) (gN N 52 0 f))) h1 kz hp i5
    rw [i3, w, hM] at this
    exact Or.inl ⟨hr, Or.inl ⟨f, this⟩⟩
  · rcases hP with ⟨p0, q⟩ | ⟨p0, q⟩ | ⟨p0, q⟩ | ⟨p0, q⟩ | ⟨p0, q⟩ | ⟨p0, q⟩ | ⟨p0, q⟩ | ⟨p0, q⟩ | ⟨p0, q⟩ | ⟨p0, q⟩ | ⟨p0, q⟩ | ⟨p0, q⟩ <;> first | (exfalso; omega) | skip
    unfold ReckP at q
    simp only [gNI, gJI, i7, i8] at q
    rcases q with ⟨e, -⟩ | ⟨e, -⟩ | ⟨e, hr, hM⟩ | ⟨e, -⟩ | ⟨e, -⟩ | ⟨e, -⟩ <;> first | (exfalso; omega) | skip
    have := sim_reg (v := gJ N 53 0 (rR N f (gN N 51 0 f) (gN N 52 0 f)) * gJ N 53 0 (rS N f (gN N 51 0 f) (gN N 52 0 f))) h1 kz hp i5
    rw [i3, w, hM] at this
    exact Or.inl ⟨hr, Or.inl ⟨f, this⟩⟩
  · rcases hP with ⟨p0, q⟩ | ⟨p0, q⟩ | ⟨p0, q⟩ | ⟨p0, q⟩ | ⟨p0, q⟩ | ⟨p0, q⟩ | ⟨p0, q⟩ | ⟨p0, q⟩ | ⟨p0, q⟩ | ⟨p0, q⟩ | ⟨p0, q⟩ | ⟨p0, q⟩ <;> first | (exfalso; omega) | skip
    unfold ReckP at q
    simp only [gNI, gJI, i7, i8] at q
    rcases q with ⟨e, -⟩ | ⟨e, -⟩ | ⟨e, -⟩ | ⟨e, z, hr, hM⟩ | ⟨e, z, hr, hM⟩ | ⟨e, -⟩ <;> first | (exfalso; omega) | skip
    · rcases w with ⟨-, w⟩ | ⟨nz, -⟩
      · exact PfR_0 h (by omega) (by omega) hr hM w
      · exact absurd z nz
    · rcases w with ⟨yz, -⟩ | ⟨-, w⟩
      · exact absurd yz z
      · have := sim_reg (v := gJ N 53 0 (rR N f (gN N 51 0 f) (gN N 52 0 f)) / gJ N 53 0 (rS N f (gN N 51 0 f) (gN N 52 0 f))) h1 kz hp i5
        rw [if_neg (by decide)] at w
        rw [i3, w, hM] at this
        exact Or.inl ⟨hr, Or.inl ⟨f, this⟩⟩
  · rcases hP with ⟨p0, q⟩ | ⟨p0, q⟩ | ⟨p0, q⟩ | ⟨p0, q⟩ | ⟨p0, q⟩ | ⟨p0, q⟩ | ⟨p0, q⟩ | ⟨p0, q⟩ | ⟨p0, q⟩ | ⟨p0, q⟩ | ⟨p0, q⟩ | ⟨p0, q⟩ <;> first | (exfalso; omega) | skip
    unfold ReckP at q
    simp only [gNI, gJI, i7, i8] at q
    rcases q with ⟨e, -⟩ | ⟨e, -⟩ | ⟨e, -⟩ | ⟨e, z, hr, hM⟩ | ⟨e, -⟩ | ⟨e, z, hr, hM⟩ <;> first | (exfalso; omega) | skip
    · rcases w with ⟨-, w⟩ | ⟨nz, -⟩
      · exact PfR_0 h (by omega) (by omega) hr hM w
      · exact absurd z nz
    · rcases w with ⟨yz, -⟩ | ⟨-, w⟩
      · exact absurd yz z
      · have := sim_reg (v := gJ N 53 0 (rR N f (gN N 51 0 f) (gN N 52 0 f)) - gJ N 53 0 (rR N f (gN N 51 0 f) (gN N 52 0 f)) / gJ N 53 0 (rS N f (gN N 51 0 f) (gN N 52 0 f)) * gJ N 53 0 (rS N f (gN N 51 0 f) (gN N 52 0 f))) h1 kz hp i5
        rw [if_pos rfl] at w
        rw [i3, w, hM] at this
        exact Or.inl ⟨hr, Or.inl ⟨f, this⟩⟩
  · rcases hP with ⟨p0, q⟩ | ⟨p0, q⟩ | ⟨p0, q⟩ | ⟨p0, q⟩ | ⟨p0, q⟩ | ⟨p0, q⟩ | ⟨p0, q⟩ | ⟨p0, q⟩ | ⟨p0, q⟩ | ⟨p0, q⟩ | ⟨p0, q⟩ | ⟨p0, q⟩ <;> first | (exfalso; omega) | skip
    obtain ⟨t, ht, hv, w⟩ := w
    exact Or.inl ⟨q.1, sim_jump h1 kz hp (Or.inl w0) q.2 ht hv w⟩
  · rcases hP with ⟨p0, q⟩ | ⟨p0, q⟩ | ⟨p0, q⟩ | ⟨p0, q⟩ | ⟨p0, q⟩ | ⟨p0, q⟩ | ⟨p0, q⟩ | ⟨p0, q⟩ | ⟨p0, q⟩ | ⟨p0, q⟩ | ⟨p0, q⟩ | ⟨p0, q⟩ <;> first | (exfalso; omega) | skip
    rw [i7] at q
    obtain ⟨hr, q⟩ := q
    rcases q with ⟨hl, q⟩ | ⟨hl, hM⟩
    · rcases w with ⟨-, t, ht, hv, w⟩ | ⟨nl, -⟩
      · exact Or.inl ⟨hr, sim_jump h1 kz hp (Or.inr w0) q ht hv w⟩
      · exact absurd hl nl
    · rcases w with ⟨yl, -⟩ | ⟨-, w⟩
      · exact absurd yl hl
      · have := sim_nop h1 kz hp
        rw [w, hM] at this
        exact Or.inl ⟨hr, Or.inl ⟨f, this⟩⟩
  · rcases hP with ⟨p0, q⟩ | ⟨p0, q⟩ | ⟨p0, q⟩ | ⟨p0, q⟩ | ⟨p0, q⟩ | ⟨p0, q⟩ | ⟨p0, q⟩ | ⟨p0, q⟩ | ⟨p0, q⟩ | ⟨p0, q⟩ | ⟨p0, q⟩ | ⟨p0, q⟩ <;> first | (exfalso; omega) | skip
    obtain ⟨n, hn, hv, w⟩ := w
    obtain ⟨hr, n2, hn2, hv2, q⟩ := q
    have en : n2 = n := (lN_eq (by omega) (by omega)).mp (hv2.symm.trans hv)
    subst en
    rw [i7] at q
    exact Or.inl ⟨hr, sim_enter h1.z kz hn q w⟩
  · rcases hP with ⟨p0, q⟩ | ⟨p0, q⟩ | ⟨p0, q⟩ | ⟨p0, q⟩ | ⟨p0, q⟩ | ⟨p0, q⟩ | ⟨p0, q⟩ | ⟨p0, q⟩ | ⟨p0, q⟩ | ⟨p0, q⟩ | ⟨p0, q⟩ | ⟨p0, q⟩ <;> first | (exfalso; omega) | skip
    rw [i7] at q
    exact Or.inl ⟨q.1, sim_give h1 kz q.2 w⟩
  · rcases hP with ⟨p0, q⟩ | ⟨p0, q⟩ | ⟨p0, q⟩ | ⟨p0, q⟩ | ⟨p0, q⟩ | ⟨p0, q⟩ | ⟨p0, q⟩ | ⟨p0, q⟩ | ⟨p0, q⟩ | ⟨p0, q⟩ | ⟨p0, q⟩ | ⟨p0, q⟩ <;> first | (exfalso; omega) | skip
    obtain ⟨hr, hM⟩ := q
    rw [i7] at hM
    subst hM
    refine Or.inr ⟨8, by omega, by omega, hr, CA_num h1, ?_⟩
    rw [show gI (sI (sI M 2 0 5 (nI 0)) 2 0 5 (gJ N 53 0 (rR N f (gN N 51 0 f) (gN N 52 0 f))).toInt32) 2 0 5 = (gJ N 53 0 (rR N f (gN N 51 0 f) (gN N 52 0 f))).toInt32 by simp [gNN, gNI, gNJ, gIN, gII, gIJ, gJN, gJI, gJJ]]
    exact w
  · rcases hP with ⟨p0, q⟩ | ⟨p0, q⟩ | ⟨p0, q⟩ | ⟨p0, q⟩ | ⟨p0, q⟩ | ⟨p0, q⟩ | ⟨p0, q⟩ | ⟨p0, q⟩ | ⟨p0, q⟩ | ⟨p0, q⟩ | ⟨p0, q⟩ | ⟨p0, q⟩ <;> first | (exfalso; omega) | skip
    obtain ⟨hr, hM⟩ := q
    rw [hfr.2.2.2.2.2.2.1] at hr
    rw [hfr.2.2.2.2.2.2.2.1] at hM
    subst hM
    have h8 := (h.1.2.2.2.2.1 f (by omega)).2.2.2.2.1
    have e5 : gI (sI (sI M 2 0 5 (nI 0)) 2 0 5 (gI N 58 0 f)) 2 0 5 = gI N 58 0 f := by simp [gNN, gNI, gNJ, gIN, gII, gIJ, gJN, gJI, gJJ]
    rcases w with ⟨z, w⟩ | ⟨z, w⟩
    · rw [if_pos z] at hr
      exact Or.inr ⟨7, by omega, by omega, hr, CA_num h1, by rw [e5, hfr.2.2.2.2.2.2.2.2 z]; exact w⟩
    · rw [if_neg z] at hr
      exact Or.inr ⟨gN N 57 0 f, by omega, h8, hr, CA_num h1, by rw [e5]; exact w⟩
  · rcases hP with ⟨p0, q⟩ | ⟨p0, q⟩ | ⟨p0, q⟩ | ⟨p0, q⟩ | ⟨p0, q⟩ | ⟨p0, q⟩ | ⟨p0, q⟩ | ⟨p0, q⟩ | ⟨p0, q⟩ | ⟨p0, q⟩ | ⟨p0, q⟩ | ⟨p0, q⟩ <;> first | (exfalso; omega) | skip
    obtain ⟨g, hg, hv, w⟩ := w
    obtain ⟨hr, g2, hg2, hv2, q⟩ := q
    have en : g2 = g := (lN_eq (by omega) (by omega)).mp (hv2.symm.trans hv)
    subst en
    exact Or.inl ⟨hr, Or.inl ⟨f, sim_hold h1 kz hp hg q w⟩⟩
  · rcases hP with ⟨p0, q⟩ | ⟨p0, q⟩ | ⟨p0, q⟩ | ⟨p0, q⟩ | ⟨p0, q⟩ | ⟨p0, q⟩ | ⟨p0, q⟩ | ⟨p0, q⟩ | ⟨p0, q⟩ | ⟨p0, q⟩ | ⟨p0, q⟩ | ⟨p0, q⟩ <;> first | (exfalso; omega) | skip
    obtain ⟨g, hg, hv, w⟩ := w
    obtain ⟨g2, hg2, hv2, q⟩ := q
    have en : g2 = g := (lN_eq (by omega) (by omega)).mp (hv2.symm.trans hv)
    subst en
    have e := h1.2.2.2.2.1.2.2.1 g2 hg
    rcases q with ⟨hz, hr, hM⟩ | ⟨hz, hr, hM⟩
    · rcases w with ⟨yz, -⟩ | ⟨nz, w⟩
      · omega
      · exact Or.inl ⟨hr, Or.inl ⟨f, sim_let h1 kz hp hg nz hM w⟩⟩
    · rcases w with ⟨yz, w⟩ | ⟨nz, w⟩
      · exact PfR_0 h (by omega) (by omega) hr hM w
      · omega
  · by_cases e8 : rac N (gN N 51 0 f) (gN N 52 0 f) = 8
    · rcases hP with ⟨p0, q⟩ | ⟨p0, q⟩ | ⟨p0, q⟩ | ⟨p0, q⟩ | ⟨p0, q⟩ | ⟨p0, q⟩ | ⟨p0, q⟩ | ⟨p0, q⟩ | ⟨p0, q⟩ | ⟨p0, q⟩ | ⟨p0, q⟩ | ⟨p0, q⟩ <;> first | (exfalso; omega) | skip
      obtain ⟨n, hn, hv, q⟩ := q
      rw [i7] at q
      rcases w with ⟨-, w⟩ | ⟨e, -⟩ | ⟨e, -⟩ | ⟨e, -⟩ | ⟨e, -⟩ | ⟨e, -⟩ | ⟨e, -⟩ <;> first | (exfalso; omega) | skip
      rw [hv, lN_i] at w
      rcases q with ⟨hz, hr, hM⟩ | ⟨k, hk, hv2, hr, hM⟩
      · rcases w with ⟨-, w⟩ | ⟨k, hk, hv2, w⟩
        · exact PfR_0 h (by omega) (by omega) hr hM w
        · rw [hv2, lN_toInt (by omega)] at hz; omega
      · rcases w with ⟨hz, -⟩ | ⟨k3, hk3, hv3, w⟩
        · rw [hv2, lN_toInt (by omega)] at hz; omega
        · have ek : k3 = k := (lN_eq (by omega) (by omega)).mp (hv3.symm.trans hv2)
          subst ek
          have := sim_make (x := nI n) h1 kz hp hk (blank_eq hn)
          rw [hM, w] at this
          exact Or.inl ⟨hr, Or.inl ⟨f, this⟩⟩
    · rcases hP with ⟨p0, q⟩ | ⟨p0, q⟩ | ⟨p0, q⟩ | ⟨p0, q⟩ | ⟨p0, q⟩ | ⟨p0, q⟩ | ⟨p0, q⟩ | ⟨p0, q⟩ | ⟨p0, q⟩ | ⟨p0, q⟩ | ⟨p0, q⟩ | ⟨p0, q⟩ <;> first | (exfalso; omega) | skip
      exact sim_look h kz hp (by omega) q w
/-- the end of a METHOD -/
theorem sim_perfE {pk : Nat} {M N M' N' : Mem} {f : Nat} (h : CA pk M N f) (kz : Kz 1 N) (hP : GiveP (sI M 2 0 5 (nI 0)) f (lN 0) M') (hW : RGive N (lN 0) N') : Rs pk M' N' := sim_give (CA_num (x := nI 0) h) kz hP hW
