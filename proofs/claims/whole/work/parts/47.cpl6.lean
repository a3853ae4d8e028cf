def PfR (pk : Nat) (M' N N' : Mem) (f : Nat) (r : Option Value) : Prop := (some (.int (nI 0)) = r ∧ Rs pk M' N') ∨ (∃ k, 1 ≤ k ∧ k ≤ 8 ∧ some (.int (nI k)) = r ∧ CA pk M' N f ∧ RFAIL N k (gI M' 2 0 5) N')
theorem PfR_0 {pk : Nat} {M N M' N' : Mem} {f k : Nat} {r : Option Value} (h : CA pk M N f) (h1 : 1 ≤ k) (h8 : k ≤ 8) (hr : some (.int (nI k)) = r) (hM : sI M 2 0 5 (nI 0) = M') (hR : RFAIL N k (nI 0) N') : PfR pk M' N N' f r := by
  subst hM
  exact Or.inr ⟨k, h1, h8, hr, CA_num h, by rw [show gI (sI M 2 0 5 (nI 0)) 2 0 5 = nI 0 by simp [gNN, gNI, gNJ, gIN, gII, gIJ, gJN, gJI, gJJ]]; exact hR⟩
theorem flt_n {ln : Int32} {n : Nat} {i : Int64} (h : ln = -1) : flt ln n i = 1 := if_pos h
theorem flt_i {ln : Int32} {n : Nat} {i : Int64} (h : ¬ ln = -1) (h2 : ¬ isL n i) : flt ln n i = 2 := by unfold flt; rw [if_neg h, if_neg h2]
theorem flt_k {ln : Int32} {n : Nat} {i : Int64} (h : ¬ ln = -1) (h2 : isL n i) : flt ln n i = 0 := by unfold flt; rw [if_neg h, if_pos h2]
theorem blank_eq {n : Nat} (h : n ≤ 6) : (if nI n = nI 5 ∨ nI n = nI 6 then (-1 : Int64) else lN 0) = if nI 4 < nI n then -1 else lN 0 := by
  rcases (show n = 0 ∨ n = 1 ∨ n = 2 ∨ n = 3 ∨ n = 4 ∨ n = 5 ∨ n = 6 by omega) with rfl | rfl | rfl | rfl | rfl | rfl | rfl <;> decide +kernel
/-- a look at a ROW -/
theorem sim_look {pk : Nat} {M N M' N' : Mem} {f a : Nat} {r : Option Value} (h : CA pk M N f) (kz : Kz 1 N) (hp : gN N 52 0 f < gN N 41 0 (gN N 51 0 f)) (ha : 9 ≤ a ∧ a ≤ 12) (q : LookP (sI M 2 0 5 (nI 0)) f (gN N 51 0 f) (gN N 52 0 f) a r M') (w : RRows N f a (rR N f (gN N 51 0 f) (gN N 52 0 f)) (rS N f (gN N 51 0 f) (gN N 52 0 f)) (rnu N (gN N 51 0 f) (gN N 52 0 f)).toInt32 N') : PfR pk M' N N' f r := by
  obtain ⟨i1, i2, i3, i4, i5, i6, i7, i8⟩ := h.ins hp
  have h1 := CA_num (x := nI 0) h
  obtain ⟨a1, a2, a3, a4, a5, a6, a7, a8⟩ := h.2.2.2.2.1
  have hcl := (h.1.2.2.2.2.1 f (by omega)).2.2.2.2.2
  unfold LookP at q
  simp only [gNI, gJI, gII, Nat.reduceEqDiff, false_and, if_false, i2, i7, i8, a4] at q
  unfold RRows isR at w
  rcases q with ⟨ea, q⟩ | ⟨ea, n, hn, hv, q⟩ | ⟨ea, q⟩ | ⟨ea, q⟩
  · -- PUT
    rcases w with ⟨e, -⟩ | ⟨e, -⟩ | ⟨-, hl, w⟩ | ⟨e, -⟩ | ⟨-, hl, hx, w⟩ | ⟨e, -⟩ | ⟨-, hl, k, hk, hi, w⟩
    · omega
    · omega
    · rcases q with ⟨-, hr, hM⟩ | ⟨k, -, -, hl2, -⟩
      · rw [flt_n hl] at hr
        exact PfR_0 h (by omega) (by omega) hr hM w
      · exact absurd hl hl2
    · omega
    · have e6 := (a6 hl).1
      rw [e6] at q
      rcases q with ⟨-, hr, hM⟩ | ⟨k, hi, hk, -, -⟩
      · rw [flt_i hl hx] at hr
        exact PfR_0 h (by omega) (by omega) hr hM w
      · exfalso; apply hx; rw [hi, isL_lN (by omega)]; exact hk
    · omega
    · have e6 := (a6 hl).1
      rw [e6] at q
      have hb := (hcl hl).1
      have hsc := h.1.2.2.2.2.2.2.2
      unfold Sca at hsc
      rcases q with ⟨hno, -, -⟩ | ⟨k2, hi2, hk2, -, q⟩
      · exact absurd (flt_k hl (by rw [hi, isL_lN (by omega)]; exact hk)) hno
      have ek : k2 = k := (lN_eq (by omega) (by omega)).mp (hi2.symm.trans hi)
      subst ek
      rcases q with ⟨l6, l7, hr, hM⟩ | ⟨l6, hr, hM⟩
      · rcases w with ⟨-, -, w⟩ | ⟨nw, -⟩
        · exact PfR_0 h (by omega) (by omega) hr hM w
        · exact absurd ⟨l6, l7⟩ nw
      · rcases w with ⟨w6, w7, -⟩ | ⟨-, w⟩
        · exact absurd ⟨w6, w7⟩ l6
        · have := sim_put (v := fitt (gI N 54 0 f) (gJ N 53 0 (rR N f (gN N 51 0 f) (gN N 52 0 f)))) h1 kz hp hl hk
          rw [hM, w] at this
          exact Or.inl ⟨hr, Or.inl ⟨f, this⟩⟩
  · -- IS_OF
    rw [hv, lN_i] at w
    have e5 : nI n = nI 5 ↔ n = 5 := nI_eq (by omega) (by omega)
    rcases w with ⟨e, -⟩ | ⟨-, w⟩ | ⟨e, -⟩ | ⟨e, -⟩ | ⟨e, -⟩ | ⟨e, -⟩ | ⟨e, -⟩
    · omega
    · rw [e5] at w
      rcases q with ⟨y, hr, hM⟩ | ⟨y, hr, hM⟩
      · rcases w with ⟨-, w⟩ | ⟨ny, -⟩
        · have := sim_nop h1 kz hp
          rw [hM, w] at this
          exact Or.inl ⟨hr, Or.inl ⟨f, this⟩⟩
        · exact absurd y ny
      · rcases w with ⟨y2, -⟩ | ⟨-, w⟩
        · exact absurd y2 y
        · exact PfR_0 h (by omega) (by omega) hr hM w
    all_goals omega
  · -- COUNT
    rcases w with ⟨e, -⟩ | ⟨e, -⟩ | ⟨-, hl, w⟩ | ⟨-, hl, w⟩ | ⟨e, -⟩ | ⟨e, -⟩ | ⟨e, -⟩
    · omega
    · omega
    · rcases q with ⟨-, hr, hM⟩ | ⟨nl, -⟩
      · exact PfR_0 h (by omega) (by omega) hr hM w
      · exact absurd hl nl
    · rcases q with ⟨l2, -⟩ | ⟨-, hr, hM⟩
      · exact absurd l2 hl
      · have := sim_reg (v := lN (gN N 56 0 f)) h1 kz hp i5
        rw [i3, w, ← (a6 hl).1, hM] at this
        exact Or.inl ⟨hr, Or.inl ⟨f, this⟩⟩
    all_goals omega
  · -- GET
    rcases w with ⟨e, -⟩ | ⟨e, -⟩ | ⟨-, hl, w⟩ | ⟨e, -⟩ | ⟨-, hl, hx, w⟩ | ⟨-, hl, k, hk, hi, w⟩ | ⟨e, -⟩
    · omega
    · omega
    · rcases q with ⟨-, hr, hM⟩ | ⟨k, -, -, hl2, -⟩
      · rw [flt_n hl] at hr
        exact PfR_0 h (by omega) (by omega) hr hM w
      · exact absurd hl hl2
    · omega
    · have e6 := (a6 hl).1
      rw [e6] at q
      rcases q with ⟨-, hr, hM⟩ | ⟨k, hi, hk, -, -⟩
      · rw [flt_i hl hx] at hr
        exact PfR_0 h (by omega) (by omega) hr hM w
      · exfalso; apply hx; rw [hi, isL_lN (by omega)]; exact hk
    · obtain ⟨e6, e7⟩ := a6 hl
      rw [e6] at q
      have hb := (hcl hl).1
      have hsc := h.1.2.2.2.2.2.2.2
      unfold Sca at hsc
      rcases q with ⟨hno, -, -⟩ | ⟨k2, hi2, hk2, -, hr, hM⟩
      · exact absurd (flt_k hl (by rw [hi, isL_lN (by omega)]; exact hk)) hno
      have ek : k2 = k := (lN_eq (by omega) (by omega)).mp (hi2.symm.trans hi)
      subst ek
      have := sim_reg (v := gJ N 60 0 (gN N 55 0 f + k2)) h1 kz hp i5
      rw [i3, w, ← e7 _ hk, hM] at this
      exact Or.inl ⟨hr, Or.inl ⟨f, this⟩⟩
    · omega
