/-- between INSTRUCTIONS' parts: d FRAMES stand -/
def CZ (pk : Nat) (M N : Mem) (d : Nat) : Prop := gN N 40 0 11 = d ∧ Pg M N ∧ gN M 2 0 3 = d ∧ Low pk M N d ∧ Sk M N ∧ Sq M N ∧ gI M 2 0 6 = -1 ∧ gN N 40 0 24 = 0 ∧ gN N 40 0 25 = 0
theorem CA.z {pk : Nat} {M N : Mem} {f : Nat} (h : CA pk M N f) : CZ pk M N (f + 1) := by
  obtain ⟨c1, c2, c3, c4, c5, c6, c7, c8, c9, c10, c11⟩ := h
  refine ⟨c1.2.2.2.1, c2, c3, fun g hg => ?_, c7, c8, c9, c10, c11⟩
  by_cases e : g = f
  · subst e; exact ⟨c5, c6⟩
  · exact c4 g (by omega)
theorem CZ.a {pk : Nat} {M N : Mem} {f : Nat} (h : CZ pk M N (f + 1)) (hm : RMI N (f + 1)) : CA pk M N f := by
  obtain ⟨c1, c2, c3, c4, c5, c6, c7, c8, c9⟩ := h
  exact ⟨hm, c2, c3, fun g hg => c4 g (by omega), (c4 f (by omega)).1, (c4 f (by omega)).2, c5, c6, c7, c8, c9⟩
theorem Fr_reg {M N : Mem} {f r : Nat} {v : Int64} (h : Fr M N f) (hr : r < 4) : Fr (sJ M 31 f r v) (sJ N 53 0 (4 * f + r) v) f := by
  obtain ⟨a1, a2, a3, a4, a5, a6, a7, a8⟩ := h
  refine ⟨a1, fun k hk => ?_, a3, a4, a5, fun q => ⟨(a6 q).1, fun j hj => ?_⟩, a7, a8⟩
  · by_cases e : k = r
    · subst e; simp [gNN, gNI, gNJ, gIN, gII, gIJ, gJN, gJI, gJJ]
    · rw [gJJ, if_neg (by omega), gJJ, if_neg (by omega)]; exact a2 k hk
  · have := (a6 q).2 j hj
    simpa [gNN, gNI, gNJ, gIN, gII, gIJ, gJN, gJI, gJJ] using this
theorem Fr_hold {M N : Mem} {f r v : Nat} (h : Fr M N f) (hr : r ≤ 2) : Fr (sN M 32 f r v) (sN N 59 0 (3 * f + r) v) f := by
  obtain ⟨a1, a2, a3, a4, a5, a6, a7, a8⟩ := h
  refine ⟨by simpa [gNN, gNI, gNJ, gIN, gII, gIJ, gJN, gJI, gJJ] using a1, a2, fun k hk => ?_, a4, by simpa [gNN, gNI, gNJ, gIN, gII, gIJ, gJN, gJI, gJJ] using a5, fun q => ?_, by simpa [gNN, gNI, gNJ, gIN, gII, gIJ, gJN, gJI, gJJ] using a7, by simpa [gNN, gNI, gNJ, gIN, gII, gIJ, gJN, gJI, gJJ] using a8⟩
  · by_cases e : k = r
    · subst e; simp [gNN, gNI, gNJ, gIN, gII, gIJ, gJN, gJI, gJJ]
    · rw [gNN, if_neg (by omega), gNN, if_neg (by omega)]; exact a3 k hk
  · have := a6 q
    simpa [gNN, gNI, gNJ, gIN, gII, gIJ, gJN, gJI, gJJ] using this
theorem Fr_cell {M N : Mem} {f k : Nat} {v : Int64} (h : Fr M N f) : Fr (sJ M 34 f k v) (sJ N 60 0 (gN N 55 0 f + k) v) f := by
  obtain ⟨a1, a2, a3, a4, a5, a6, a7, a8⟩ := h
  refine ⟨a1, fun r hr => by have := a2 r hr; simpa [gNN, gNI, gNJ, gIN, gII, gIJ, gJN, gJI, gJJ] using this, a3, a4, a5, fun q => ⟨(a6 q).1, fun j hj => ?_⟩, a7, a8⟩
  by_cases e : j = k
  · subst e; simp [gNN, gNI, gNJ, gIN, gII, gIJ, gJN, gJI, gJJ]
  · rw [gJJ, if_neg (by omega), gJJ, if_neg (by rw [gNJ]; omega)]; exact (a6 q).2 j hj
theorem Fr_make {M N : Mem} {f n a : Nat} {x : Int32} {v : Int64} (h : Fr M N f) (hn : n ≤ 200) : Fr (fJ (sI (sN M 33 f 2 n) 33 f 1 x) 34 f n v) (fR (sN (sN (sI N 54 0 f x) 55 0 f a) 56 0 f n) a n v) f := by
  obtain ⟨a1, a2, a3, a4, a5, a6, a7, a8⟩ := h
  refine ⟨by simpa [gNf, gN_fR, gNN, gNI, gNJ, gIN, gII, gIJ, gJN, gJI, gJJ] using a1, fun r hr => by have := a2 r hr; simpa [gJf, gJ_fR, gNN, gNI, gNJ, gIN, gII, gIJ, gJN, gJI, gJJ] using this, fun i hi => by have := a3 i hi; simpa [gNf, gN_fR, gNN, gNI, gNJ, gIN, gII, gIJ, gJN, gJI, gJJ] using this, by simp [gIf, gI_fR, gNN, gNI, gNJ, gIN, gII, gIJ, gJN, gJI, gJJ], by simpa [gNf, gNN, gNI, gNJ, gIN, gII, gIJ, gJN, gJI, gJJ] using hn, fun q => ⟨by simp [gNf, gN_fR, gNN, gNI, gNJ, gIN, gII, gIJ, gJN, gJI, gJJ], fun j hj => ?_⟩, by simpa [gNf, gN_fR, gNN, gNI, gNJ, gIN, gII, gIJ, gJN, gJI, gJJ] using a7, by simpa [gIf, gI_fR, gN_fR, gNN, gNI, gNJ, gIN, gII, gIJ, gJN, gJI, gJJ] using a8⟩
  have hj2 : j < n := by simpa [gN_fR, gNN, gNI, gNJ, gIN, gII, gIJ, gJN, gJI, gJJ] using hj
  have e : gN (fR (sN (sN (sI N 54 0 f x) 55 0 f a) 56 0 f n) a n v) 55 0 f = a := by simp [gN_fR, gNN, gNI, gNJ, gIN, gII, gIJ, gJN, gJI, gJJ]
  rw [e, gJf, if_pos ⟨rfl, rfl, hj2⟩, gJ_fR, if_pos ⟨rfl, rfl, by omega, by omega⟩]
theorem Fr_caught {M N : Mem} {f k : Nat} {x : Int32} (hk : 1 ≤ k) (h : Fr M N f) : Fr (sI (sN M 30 f 7 k) 30 f 8 x) (sI (sN N 57 0 f k) 58 0 f x) f := by
  obtain ⟨a1, a2, a3, a4, a5, a6, a7, a8⟩ := h
  refine ⟨by simpa [gNN, gNI, gNJ, gIN, gII, gIJ, gJN, gJI, gJJ] using a1, a2, fun i hi => by have := a3 i hi; simpa [gNN, gNI, gNJ, gIN, gII, gIJ, gJN, gJI, gJJ] using this, by simpa [gNN, gNI, gNJ, gIN, gII, gIJ, gJN, gJI, gJJ] using a4, by simpa [gNN, gNI, gNJ, gIN, gII, gIJ, gJN, gJI, gJJ] using a5, fun q => ?_, by simp [gNN, gNI, gNJ, gIN, gII, gIJ, gJN, gJI, gJJ], by simp [gNN, gNI, gNJ, gIN, gII, gIJ, gJN, gJI, gJJ], fun q => absurd (show k = 0 by simpa [gNN, gNI, gNJ, gIN, gII, gIJ, gJN, gJI, gJJ] using q) (by omega)⟩
  have := a6 (by simpa [gNN, gNI, gNJ, gIN, gII, gIJ, gJN, gJI, gJJ] using q)
  simpa [gNN, gNI, gNJ, gIN, gII, gIJ, gJN, gJI, gJJ] using this
theorem Fr_52 {M N : Mem} {f g t : Nat} (h : Fr M N g) : Fr M (sN N 52 0 f t) g := by
  obtain ⟨a1, a2, a3, a4, a5, a6, a7, a8⟩ := h
  refine ⟨by simpa [gNN, gNI, gNJ, gIN, gII, gIJ, gJN, gJI, gJJ] using a1, a2, fun i hi => by have := a3 i hi; simpa [gNN, gNI, gNJ, gIN, gII, gIJ, gJN, gJI, gJJ] using this, a4, a5, fun q => ?_, by simpa [gNN, gNI, gNJ, gIN, gII, gIJ, gJN, gJI, gJJ] using a7, by simpa [gNN, gNI, gNJ, gIN, gII, gIJ, gJN, gJI, gJJ] using a8⟩
  have := a6 q
  simpa [gNN, gNI, gNJ, gIN, gII, gIJ, gJN, gJI, gJJ] using this
theorem Fr_N40 {M N : Mem} {g i j v : Nat} (h : Fr M N g) : Fr M (sN N 40 i j v) g := Fr_eq h EqF_rf (EqN_N (by omega))
/-- a register becomes v, and the FRAME goes on -/
theorem sim_reg {pk : Nat} {M N : Mem} {f r : Nat} {v : Int64} (h : CA pk M N f) {e : Nat} (kz : Kz e N) (hp : gN N 52 0 f < gN N 41 0 (gN N 51 0 f)) (hr : r < 4) : CG pk (sJ M 31 f r v) (sN (sJ N 53 0 (4 * f + r) v) 52 0 f (gN N 52 0 f + 1)) f := by
  have hk := h.2.2.2.2.2.2.1
  have hq := h.2.2.2.2.2.2.2.1
  have hf := h.2.2.2.2.1
  refine CG_next h hp (Sc_J (by omega)) ((ScR_J (by omega)).tr (ScR_N (by omega))) (fun g hg => EqF_J (by omega)) (fun g hg => (EqN_J (by omega)).tr (EqN_N (by omega))) ⟨rfl, rfl, rfl⟩ ⟨rfl, rfl⟩ ⟨by simp [gNN, gNI, gNJ, gIN, gII, gIJ, gJN, gJI, gJJ], by simp [gNN, gNI, gNJ, gIN, gII, gIJ, gJN, gJI, gJJ], by simp [gNN, gNI, gNJ, gIN, gII, gIJ, gJN, gJI, gJJ]⟩ (Kz_of kz (by simp [gNN, gNI, gNJ, gIN, gII, gIJ, gJN, gJI, gJJ]) (by simp [gNN, gNI, gNJ, gIN, gII, gIJ, gJN, gJI, gJJ]) (by simp [gNN, gNI, gNJ, gIN, gII, gIJ, gJN, gJI, gJJ]) (by simp [gNN, gNI, gNJ, gIN, gII, gIJ, gJN, gJI, gJJ])) ⟨by simp [gNN, gNI, gNJ, gIN, gII, gIJ, gJN, gJI, gJJ], by simp [gNN, gNI, gNJ, gIN, gII, gIJ, gJN, gJI, gJJ]⟩ (by simpa [Sq, gNN, gNI, gNJ, gIN, gII, gIJ, gJN, gJI, gJJ] using hq) (Fr_52 (Fr_reg hf hr)) ?_
  simpa [Sk, gNN, gNI, gNJ, gIN, gII, gIJ, gJN, gJI, gJJ] using hk
/-- nothing becomes of it, and the FRAME goes on -/
theorem sim_nop {pk : Nat} {M N : Mem} {f : Nat} (h : CA pk M N f) {e : Nat} (kz : Kz e N) (hp : gN N 52 0 f < gN N 41 0 (gN N 51 0 f)) : CG pk M (sN N 52 0 f (gN N 52 0 f + 1)) f := by
  have hk := h.2.2.2.2.2.2.1
  have hq := h.2.2.2.2.2.2.2.1
  have hf := h.2.2.2.2.1
  refine CG_next h hp Sc_rf (ScR_N (by omega)) (fun g hg => EqF_rf) (fun g hg => EqN_N (by omega)) ⟨rfl, rfl, rfl⟩ ⟨rfl, rfl⟩ ⟨by simp [gNN, gNI, gNJ, gIN, gII, gIJ, gJN, gJI, gJJ], by simp [gNN, gNI, gNJ, gIN, gII, gIJ, gJN, gJI, gJJ], by simp [gNN, gNI, gNJ, gIN, gII, gIJ, gJN, gJI, gJJ]⟩ (Kz_of kz (by simp [gNN, gNI, gNJ, gIN, gII, gIJ, gJN, gJI, gJJ]) (by simp [gNN, gNI, gNJ, gIN, gII, gIJ, gJN, gJI, gJJ]) (by simp [gNN, gNI, gNJ, gIN, gII, gIJ, gJN, gJI, gJJ]) (by simp [gNN, gNI, gNJ, gIN, gII, gIJ, gJN, gJI, gJJ])) ⟨by simp [gNN, gNI, gNJ, gIN, gII, gIJ, gJN, gJI, gJJ], by simp [gNN, gNI, gNJ, gIN, gII, gIJ, gJN, gJI, gJJ]⟩ (by simpa [Sq, gNN, gNI, gNJ, gIN, gII, gIJ, gJN, gJI, gJJ] using hq) (Fr_52 hf) ?_
  simpa [Sk, gNN, gNI, gNJ, gIN, gII, gIJ, gJN, gJI, gJJ] using hk
theorem sumH_top {N : Mem} {f : Nat} : sumH N (f + 1) = sumH N f + hs1 N f := rfl
theorem hs1_hold {N : Mem} {f i v : Nat} (hi : i ≤ 2) : hs1 (sN N 59 0 (3 * f + i) v) f + gN N 59 0 (3 * f + i) = hs1 N f + v := by
  unfold hs1
  rcases (show i = 0 ∨ i = 1 ∨ i = 2 by omega) with rfl | rfl | rfl <;> simp [gNN, gNI, gNJ, gIN, gII, gIJ, gJN, gJI, gJJ] <;> omega
theorem sumH_hold {N : Mem} {f i v : Nat} (hi : i ≤ 2) : sumH (sN N 59 0 (3 * f + i) v) (f + 1) + gN N 59 0 (3 * f + i) = sumH N (f + 1) + v := by
  have h1 := hs1_hold (N := N) (f := f) (v := v) hi
  have h2 : sumH (sN N 59 0 (3 * f + i) v) f = sumH N f := sumH_eq (fun j hj => by rw [gNN, if_neg (by omega)])
  rw [sumH_top, sumH_top, h2]
  omega
theorem hs1_le {N : Mem} {f i : Nat} (hi : i ≤ 2) : gN N 59 0 (3 * f + i) ≤ hs1 N f := by
  unfold hs1
  rcases (show i = 0 ∨ i = 1 ∨ i = 2 by omega) with rfl | rfl | rfl <;> (try simp only [Nat.add_zero]) <;> omega
theorem nIa (a b : Nat) : nI (a + b) = nI a + nI b := Int32.ofNat_add a b
theorem sim_hold {pk : Nat} {M N M' N' : Mem} {f g : Nat} (h : CA pk M N f) (kz : Kz 1 N) (hp : gN N 52 0 f < gN N 41 0 (gN N 51 0 f)) (hg : g ≤ 2) (hM : HoldP M f g M') (hN : rHold N f (3 * f + g) = N') : CG pk M' N' f := by
  have hk := h.2.2.2.2.2.2.1
  have hq := h.2.2.2.2.2.2.2.1
  have hf := h.2.2.2.2.1
  have hd := h.1.2.2.2.1
  have h35 := h.1.2.2.2.2.2.2.2.2.2.2.2.1
  have e := hf.2.2.1 g hg
  obtain ⟨k1, k2, k3, m, k4, k5, k6⟩ := kz
  rw [hd] at k3 k5
  have hsum := sumH_hold (N := N) (f := f) (v := gN N 59 0 (3 * f + g) + 1) hg
  have hlt : (gI N 40 0 34 < gI N 40 0 33 + nI 1) ↔ m < sumH N (f + 1) + 1 := by
    rw [k3, k4, ← nIa]; exact nI_ltI (by omega) (by omega)
  subst hM
  subst hN
  unfold rHold
  refine CG_next h hp ((Sc_N (by omega)).tr ((Sc_I (by omega)).tr (Sc_I (by omega)))) ((ScR_N (by omega)).tr ((ScR_I (by omega)).tr ((ScR_I (by omega)).tr (ScR_N (by omega))))) (fun i hi => (EqF_N (by omega)).tr ((EqF_I (by omega)).tr (EqF_I (by omega)))) (fun i hi => (EqN_N (by omega)).tr ((EqN_I (by omega)).tr ((EqN_I (by omega)).tr (EqN_N (by omega))))) ⟨by simp [gNN, gNI, gNJ, gIN, gII, gIJ, gJN, gJI, gJJ], by simp [gNN, gNI, gNJ, gIN, gII, gIJ, gJN, gJI, gJJ], by simp [gNN, gNI, gNJ, gIN, gII, gIJ, gJN, gJI, gJJ]⟩ ⟨by simp [gNN, gNI, gNJ, gIN, gII, gIJ, gJN, gJI, gJJ], by simp [gNN, gNI, gNJ, gIN, gII, gIJ, gJN, gJI, gJJ]⟩ ⟨by simp [gNN, gNI, gNJ, gIN, gII, gIJ, gJN, gJI, gJJ], by simp [gNN, gNI, gNJ, gIN, gII, gIJ, gJN, gJI, gJJ], by simp [gNN, gNI, gNJ, gIN, gII, gIJ, gJN, gJI, gJJ]⟩ ?_ ⟨by simp [gNN, gNI, gNJ, gIN, gII, gIJ, gJN, gJI, gJJ], by simp [gNN, gNI, gNJ, gIN, gII, gIJ, gJN, gJI, gJJ]⟩ (by simpa [Sq, gNN, gNI, gNJ, gIN, gII, gIJ, gJN, gJI, gJJ] using hq) ?_ ?_
  · have e3 : ∀ X : Mem, (∀ j, gN X 59 0 j = gN (sN N 59 0 (3 * f + g) (gN N 59 0 (3 * f + g) + 1)) 59 0 j) → sumH X (f + 1) = sumH N (f + 1) + 1 := fun X hX => by
      rw [sumH_eq (fun j _ => hX j)]; omega
    refine ⟨by simpa [gNN, gNI, gNJ, gIN, gII, gIJ, gJN, gJI, gJJ] using k1, by simpa [gNN, gNI, gNJ, gIN, gII, gIJ, gJN, gJI, gJJ] using k2, ?_⟩
    unfold HI
    rw [show gN (sN (sI (sI (sN N 59 0 (3 * f + g) (gN N 59 0 (3 * f + g) + 1)) 40 0 33 (gI N 40 0 33 + nI 1)) 40 0 34 (if gI N 40 0 34 < gI N 40 0 33 + nI 1 then gI N 40 0 33 + nI 1 else gI N 40 0 34)) 52 0 f (gN N 52 0 f + 1)) 40 0 11 = f + 1 by simpa [gNN, gNI, gNJ, gIN, gII, gIJ, gJN, gJI, gJJ] using hd]
    rw [e3 _ (fun j => by simp [gNN, gNI, gNJ, gIN, gII, gIJ, gJN, gJI, gJJ])]
    refine ⟨by simp [gNN, gNI, gNJ, gIN, gII, gIJ, gJN, gJI, gJJ, k3, nIa], max m (sumH N (f + 1) + 1), ?_, Nat.le_max_right _ _, by simp [gNN, gNI, gNJ, gIN, gII, gIJ, gJN, gJI, gJJ]; omega⟩
    simp only [gIN, gII, Nat.reduceEqDiff, and_false, if_false, and_self, if_true]
    by_cases hl : m < sumH N (f + 1) + 1
    · rw [if_pos (hlt.mpr hl), k3, Nat.max_eq_right (by omega), nIa]
    · rw [if_neg (fun q => hl (hlt.mp q)), k4, Nat.max_eq_left (by omega)]
  · rw [e]
    exact Fr_52 (Fr_eq (Fr_hold hf hg) ((EqF_I (by omega)).tr (EqF_I (by omega))) ((EqN_I (by omega)).tr (EqN_I (by omega))))
  · obtain ⟨s1, s2, s3, s4, s5, s6, s7, s8, s9, s10, s11⟩ := hk
    simp [Sk, gNN, gNI, gNJ, gIN, gII, gIJ, gJN, gJI, gJJ, *]
theorem sub1 (x : Int32) : x - nI 1 = x + (-1) := by
  have e : -(nI 1) = (-1 : Int32) := by decide
  rw [Int32.sub_eq_add_neg, e]
theorem sim_let {pk : Nat} {M N M' N' : Mem} {f g e0 : Nat} (h : CA pk M N f) (kz : Kz e0 N) (hp : gN N 52 0 f < gN N 41 0 (gN N 51 0 f)) (hg : g ≤ 2) (hg0 : ¬ gN N 59 0 (3 * f + g) = 0) (hM : sI (sN M 32 f g (gN M 32 f g - 1)) 2 0 4 (gI M 2 0 4 - nI 1) = M') (hN : rLet N f (3 * f + g) = N') : CG pk M' N' f := by
  have hk := h.2.2.2.2.2.2.1
  have hq := h.2.2.2.2.2.2.2.1
  have hf := h.2.2.2.2.1
  have hd := h.1.2.2.2.1
  have h35 := h.1.2.2.2.2.2.2.2.2.2.2.2.1
  have e := hf.2.2.1 g hg
  obtain ⟨k1, k2, k3, m, k4, k5, k6⟩ := kz
  rw [hd] at k3 k5
  have hsum := sumH_hold (N := N) (f := f) (v := gN N 59 0 (3 * f + g) - 1) hg
  have hle := hs1_le (N := N) (f := f) hg
  have htop := sumH_top (N := N) (f := f)
  have e33 : gI N 40 0 33 + (-1) = nI (sumH N (f + 1) - 1) := by
    obtain ⟨z, hz⟩ : ∃ z, sumH N (f + 1) = z + 1 := ⟨sumH N (f + 1) - 1, by omega⟩
    rw [← sub1, k3, hz, nIa, Int32.add_sub_cancel, Nat.add_sub_cancel]
  have hm34 : ¬ gI N 40 0 34 < gI N 40 0 33 + (-1) := by
    rw [e33, k4, nI_ltI (by omega) (by omega)]; omega
  obtain ⟨u, hu⟩ : ∃ u, u = gI M 2 0 4 - nI 1 := ⟨_, rfl⟩
  obtain ⟨w, hw⟩ : ∃ w, w = gI N 40 0 33 + (-1) := ⟨_, rfl⟩
  have huw : u = w := by rw [hu, hw, hk.1, sub1]
  rw [← hu] at hM
  unfold rLet at hN
  rw [if_neg hm34, ← hw] at hN
  rw [← hw] at e33
  clear hm34 hu hw
  subst hM
  subst hN
  refine CG_next h hp ((Sc_N (by omega)).tr (Sc_I (by omega))) ((ScR_N (by omega)).tr ((ScR_I (by omega)).tr ((ScR_I (by omega)).tr (ScR_N (by omega))))) (fun i hi => (EqF_N (by omega)).tr (EqF_I (by omega))) (fun i hi => (EqN_N (by omega)).tr ((EqN_I (by omega)).tr ((EqN_I (by omega)).tr (EqN_N (by omega))))) ⟨by simp [gNN, gNI, gNJ, gIN, gII, gIJ, gJN, gJI, gJJ], by simp [gNN, gNI, gNJ, gIN, gII, gIJ, gJN, gJI, gJJ], by simp [gNN, gNI, gNJ, gIN, gII, gIJ, gJN, gJI, gJJ]⟩ ⟨by simp [gNN, gNI, gNJ, gIN, gII, gIJ, gJN, gJI, gJJ], by simp [gNN, gNI, gNJ, gIN, gII, gIJ, gJN, gJI, gJJ]⟩ ⟨by simp [gNN, gNI, gNJ, gIN, gII, gIJ, gJN, gJI, gJJ], by simp [gNN, gNI, gNJ, gIN, gII, gIJ, gJN, gJI, gJJ], by simp [gNN, gNI, gNJ, gIN, gII, gIJ, gJN, gJI, gJJ]⟩ ?_ ⟨by simp [gNN, gNI, gNJ, gIN, gII, gIJ, gJN, gJI, gJJ], by simp [gNN, gNI, gNJ, gIN, gII, gIJ, gJN, gJI, gJJ]⟩ (by simpa [Sq, gNN, gNI, gNJ, gIN, gII, gIJ, gJN, gJI, gJJ] using hq) ?_ ?_
  · have e3 : ∀ X : Mem, (∀ j, gN X 59 0 j = gN (sN N 59 0 (3 * f + g) (gN N 59 0 (3 * f + g) - 1)) 59 0 j) → sumH X (f + 1) = sumH N (f + 1) - 1 := fun X hX => by
      rw [sumH_eq (fun j _ => hX j)]; omega
    refine ⟨by simpa [gNN, gNI, gNJ, gIN, gII, gIJ, gJN, gJI, gJJ] using k1, by simpa [gNN, gNI, gNJ, gIN, gII, gIJ, gJN, gJI, gJJ] using k2, ?_⟩
    unfold HI
    rw [show gN (sN (sI (sI (sN N 59 0 (3 * f + g) (gN N 59 0 (3 * f + g) - 1)) 40 0 33 w) 40 0 34 (gI N 40 0 34)) 52 0 f (gN N 52 0 f + 1)) 40 0 11 = f + 1 by simpa [gNN, gNI, gNJ, gIN, gII, gIJ, gJN, gJI, gJJ] using hd]
    rw [e3 _ (fun j => by simp [gNN, gNI, gNJ, gIN, gII, gIJ, gJN, gJI, gJJ])]
    exact ⟨by simp [gNN, gNI, gNJ, gIN, gII, gIJ, gJN, gJI, gJJ, e33], m, by simp [gNN, gNI, gNJ, gIN, gII, gIJ, gJN, gJI, gJJ, k4], by omega, by simp [gNN, gNI, gNJ, gIN, gII, gIJ, gJN, gJI, gJJ]; omega⟩
  · rw [e]
    exact Fr_52 (Fr_eq (Fr_hold hf hg) (EqF_I (by omega)) ((EqN_I (by omega)).tr (EqN_I (by omega))))
  · obtain ⟨s1, s2, s3, s4, s5, s6, s7, s8, s9, s10, s11⟩ := hk
    simp [Sk, gNN, gNI, gNJ, gIN, gII, gIJ, gJN, gJI, gJJ, huw, s2, s3, s4, s5, s6, s7, s8, s9, s10, s11]
theorem ScR_fR {N : Mem} {lo n : Nat} {v : Int64} : ScR N (fR N lo n v) := ⟨fun a b c h1 h2 => ⟨rfl, rfl, by rw [gJ_fR, if_neg (by omega)]⟩, rfl⟩
theorem sim_put {pk : Nat} {M N : Mem} {f k : Nat} {v : Int64} (h : CA pk M N f) {e : Nat} (kz : Kz e N) (hp : gN N 52 0 f < gN N 41 0 (gN N 51 0 f)) (hl : ¬ gI N 54 0 f = -1) (hk2 : k < gN N 56 0 f) : CG pk (sJ M 34 f k v) (sN (sJ N 60 0 (gN N 55 0 f + k) v) 52 0 f (gN N 52 0 f + 1)) f := by
  have hk := h.2.2.2.2.2.2.1
  have hq := h.2.2.2.2.2.2.2.1
  have hf := h.2.2.2.2.1
  have hj := h.1.2.2.2.2.2.2.1
  refine CG_next h hp (Sc_J (by omega)) ((ScR_J (by omega)).tr (ScR_N (by omega))) (fun g hg => EqF_J (by omega)) (fun g hg => (EqN_J (Or.inr (Or.inr ⟨rfl, fun q => ?_⟩))).tr (EqN_N (by omega))) ⟨rfl, rfl, rfl⟩ ⟨rfl, rfl⟩ ⟨by simp [gNN, gNI, gNJ, gIN, gII, gIJ, gJN, gJI, gJJ], by simp [gNN, gNI, gNJ, gIN, gII, gIJ, gJN, gJI, gJJ], by simp [gNN, gNI, gNJ, gIN, gII, gIJ, gJN, gJI, gJJ]⟩ (Kz_of kz (by simp [gNN, gNI, gNJ, gIN, gII, gIJ, gJN, gJI, gJJ]) (by simp [gNN, gNI, gNJ, gIN, gII, gIJ, gJN, gJI, gJJ]) (by simp [gNN, gNI, gNJ, gIN, gII, gIJ, gJN, gJI, gJJ]) (by simp [gNN, gNI, gNJ, gIN, gII, gIJ, gJN, gJI, gJJ])) ⟨by simp [gNN, gNI, gNJ, gIN, gII, gIJ, gJN, gJI, gJJ], by simp [gNN, gNI, gNJ, gIN, gII, gIJ, gJN, gJI, gJJ]⟩ (by simpa [Sq, gNN, gNI, gNJ, gIN, gII, gIJ, gJN, gJI, gJJ] using hq) (Fr_52 (Fr_cell hf)) ?_
  · have := hj g f hg (by omega) q hl
    omega
  · simpa [Sk, gNN, gNI, gNJ, gIN, gII, gIJ, gJN, gJI, gJJ] using hk
theorem sim_make {pk : Nat} {M N : Mem} {f n : Nat} {x : Int32} {v : Int64} (h : CA pk M N f) {e : Nat} (kz : Kz e N) (hp : gN N 52 0 f < gN N 41 0 (gN N 51 0 f)) (hn : n ≤ 200) (hv : v = if nI 4 < x then -1 else lN 0) : CG pk (sN (fJ (sI (sN M 33 f 2 n) 33 f 1 x) 34 f n v) 7 0 6 (gN M 7 0 6 + 1)) (rMk N f n x) f := by
  have hk := h.2.2.2.2.2.2.1
  have hq := h.2.2.2.2.2.2.2.1
  have hf := h.2.2.2.2.1
  have hA := h.1.2.2.2.2.1
  unfold rMk
  rw [← hv]
  refine CG_next h hp ((Sc_N (by omega)).tr ((Sc_I (by omega)).tr ((Sc_F (by omega)).tr (Sc_N (by omega))))) ?_ (fun i hi => (EqF_N (by omega)).tr ((EqF_I (by omega)).tr ((EqF_F (by omega)).tr (EqF_N (by omega))))) (fun i hi => ?_) ⟨by simp [gNf, gNN, gNI, gNJ, gIN, gII, gIJ, gJN, gJI, gJJ], by simp [gNf, gNN, gNI, gNJ, gIN, gII, gIJ, gJN, gJI, gJJ], by simp [gNf, gNN, gNI, gNJ, gIN, gII, gIJ, gJN, gJI, gJJ]⟩ ⟨by simp [gNf, gNN, gNI, gNJ, gIN, gII, gIJ, gJN, gJI, gJJ], by simp [gIf, gNN, gNI, gNJ, gIN, gII, gIJ, gJN, gJI, gJJ]⟩ ⟨by simp [gN_fR, gNN, gNI, gNJ, gIN, gII, gIJ, gJN, gJI, gJJ], by simp [gN_fR, gNN, gNI, gNJ, gIN, gII, gIJ, gJN, gJI, gJJ], by simp [gN_fR, gNN, gNI, gNJ, gIN, gII, gIJ, gJN, gJI, gJJ]⟩ (Kz_of kz (by simp [gN_fR, gI_fR, gNN, gNI, gNJ, gIN, gII, gIJ, gJN, gJI, gJJ]) (by simp [gN_fR, gI_fR, gNN, gNI, gNJ, gIN, gII, gIJ, gJN, gJI, gJJ]) (by simp [gN_fR, gI_fR, gNN, gNI, gNJ, gIN, gII, gIJ, gJN, gJI, gJJ]) (by simp [gN_fR, gI_fR, gNN, gNI, gNJ, gIN, gII, gIJ, gJN, gJI, gJJ])) ⟨by simp [gN_fR, gNN, gNI, gNJ, gIN, gII, gIJ, gJN, gJI, gJJ], by simp [gN_fR, gNN, gNI, gNJ, gIN, gII, gIJ, gJN, gJI, gJJ]⟩ (by simpa [Sq, gN_fR, gNf, gNN, gNI, gNJ, gIN, gII, gIJ, gJN, gJI, gJJ] using hq) ?_ ?_
  · exact (ScR_N (by omega)).tr ((ScR_I (by omega)).tr ((ScR_N (by omega)).tr ((ScR_N (by omega)).tr (ScR_fR.tr ((ScR_N (by omega)).tr (ScR_N (by omega)))))))
  · refine (EqN_N (by omega)).tr ((EqN_I (by omega)).tr ((EqN_N (by omega)).tr ((EqN_N (by omega)).tr (EqN.tr (EqN_fR fun q => ?_) ((EqN_N (by omega)).tr (EqN_N (by omega)))))))
    have hq2 : ¬ gI N 54 0 i = -1 := by
      have hne : ¬ i = f := by omega
      simpa [gNN, gNI, gNJ, gIN, gII, gIJ, gJN, gJI, gJJ, hne] using q
    have := ((hA i (by omega)).2.2.2.2.2 hq2).1
    have hne : ¬ i = f := by omega
    simpa [gNN, gNI, gNJ, gIN, gII, gIJ, gJN, gJI, gJJ, hne] using this
  · refine Fr_52 (Fr_N40 (Fr_eq (M := fJ (sI (sN M 33 f 2 n) 33 f 1 x) 34 f n v) ?_ (EqF_N (by omega)) EqN_rf))
    exact Fr_make (Fr_N40 hf) hn
  · obtain ⟨s1, s2, s3, s4, s5, s6, s7, s8, s9, s10, s11⟩ := hk
    simp [Sk, gNf, gIf, gJf, gN_fR, gI_fR, gJ_fR, gNN, gNI, gNJ, gIN, gII, gIJ, gJN, gJI, gJJ, *]
