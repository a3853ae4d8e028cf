theorem Eqf_rf {N : Mem} {g : Nat} : Eqf N N g := ⟨rfl, rfl, rfl, rfl, rfl, rfl, fun _ _ => rfl⟩
theorem RMI_J {N : Mem} {d k i j : Nat} {v : Int64} (h : RMI N d) (hk : 50 < k) : RMI (sJ N k i j v) d := by
  obtain ⟨h1, h2, h3, h4, h5, h6, h7, h8⟩ := h
  have hs : ScR N (sJ N k i j v) := ScR_J (Or.inr hk)
  exact ⟨RI_ScR hs h1, h2, h3, h4, fun g hg => FrR_eq hs ⟨rfl, rfl, rfl, rfl, rfl, rfl, fun _ _ => rfl⟩ (Nat.le_refl _) (Nat.le_refl _) (h5 g hg), h6, h7, h8⟩
theorem RMI_fR {N : Mem} {d lo n : Nat} {v : Int64} (h : RMI N d) : RMI (fR N lo n v) d := by
  obtain ⟨h1, h2, h3, h4, h5, h6, h7, h8⟩ := h
  have hs : ScR N (fR N lo n v) := ⟨fun a b c q1 q2 => ⟨rfl, rfl, by rw [gJ_fR, if_neg (by omega)]⟩, rfl⟩
  exact ⟨RI_ScR hs h1, h2, h3, h4, fun g hg => FrR_eq hs ⟨rfl, rfl, rfl, rfl, rfl, rfl, fun _ _ => rfl⟩ (Nat.le_refl _) (Nat.le_refl _) (h5 g hg), h6, h7, h8⟩
theorem RMI_I {N : Mem} {d i j : Nat} {v : Int32} (h : RMI N d) : RMI (sI N 40 i j v) d := by
  obtain ⟨h1, h2, h3, h4, h5, h6, h7, h8⟩ := h
  have hs : ScR N (sI N 40 i j v) := ScR_I (Or.inl rfl)
  have e : ∀ g, gI (sI N 40 i j v) 54 0 g = gI N 54 0 g := fun g => by rw [gII, if_neg (by omega)]
  exact ⟨RI_ScR hs h1, h2, h3, h4, fun g hg => FrR_eq hs ⟨rfl, rfl, e g, rfl, rfl, rfl, fun _ _ => rfl⟩ (Nat.le_refl _) (Nat.le_refl _) (h5 g hg), h6, Dj_eq (fun g _ => ⟨rfl, rfl, e g, rfl, rfl, rfl, fun _ _ => rfl⟩) h7, h8⟩
theorem Go_J {N : Mem} {b k i j : Nat} {v : Int64} (h : Go b N) : Go b (sJ N k i j v) := h
theorem Go_I {N : Mem} {b k i j : Nat} {v : Int32} (h : Go b N) : Go b (sI N k i j v) := h
theorem Go_N {N : Mem} {b k i j v : Nat} (h : Go b N) (hk : ¬ (k = 40 ∧ (j = 24 ∨ j = 25 ∨ j = 26 ∨ j = 35))) : Go b (sN N k i j v) := by
  obtain ⟨h1, h2, h3, h4⟩ := h
  refine ⟨?_, ?_, ?_, ?_⟩ <;> rw [gNN, if_neg (by omega)] <;> assumption
/-- a scalar of the run -/
theorem RMI_N {N : Mem} {d j v : Nat} (h : RMI N d) (hj : j ≠ 0 ∧ j ≠ 11) (hc : gN N 40 0 22 ≤ gN (sN N 40 0 j v) 40 0 22) (hb : gN N 40 0 35 ≤ gN (sN N 40 0 j v) 40 0 35) (hsc : Sca (sN N 40 0 j v)) : RMI (sN N 40 0 j v) d := by
  obtain ⟨h1, h2, h3, h4, h5, h6, h7, h8⟩ := h
  have hs : ScR N (sN N 40 0 j v) := ScR_N (by omega)
  have e : ∀ k i q, k ≠ 40 → gN (sN N 40 0 j v) k i q = gN N k i q := fun k i q hk => by rw [gNN, if_neg (fun z => hk z.1)]
  have hE : ∀ g, Eqf N (sN N 40 0 j v) g := fun g => ⟨e _ _ _ (by omega), e _ _ _ (by omega), rfl, e _ _ _ (by omega), e _ _ _ (by omega), e _ _ _ (by omega), fun _ _ => e _ _ _ (by omega)⟩
  refine ⟨RI_ScR hs h1, h2, h3, by rw [gNN, if_neg (by omega)]; exact h4, fun g hg => FrR_eq hs (hE g) hc hb (h5 g hg), fun g hg => ?_, Dj_eq (fun g _ => hE g) h7, hsc⟩
  rw [e 52 _ _ (by omega), e 51 _ _ (by omega), e 41 _ _ (by omega)]; exact h6 g hg
theorem RMI_steps {N : Mem} {d s : Nat} (h : RMI N d) (h1 : gN N 40 0 29 ≤ s) (h2 : s ≤ gN N 40 0 23) : RMI (sN N 40 0 29 s) d := by
  have hsc := h.2.2.2.2.2.2.2
  refine RMI_N h (by omega) (by simp [gNN]) (by simp [gNN]) ?_
  unfold Sca at hsc ⊢
  simp only [gNN, Nat.reduceEqDiff, and_false, if_false, true_and, if_true]
  omega
theorem RMI_begun {N : Mem} {d : Nat} (h : RMI N d) (h1 : gN N 40 0 35 < 2000) : RMI (sN N 40 0 35 (gN N 40 0 35 + 1)) d := by
  have hsc := h.2.2.2.2.2.2.2
  refine RMI_N h (by omega) (by simp [gNN]) (by simp [gNN]) ?_
  unfold Sca at hsc ⊢
  simp only [gNN, Nat.reduceEqDiff, and_false, if_false, true_and, if_true]
  omega
theorem RMI_scal {N : Mem} {d j v : Nat} (h : RMI N d) (hj : j ≠ 0 ∧ j ≠ 11 ∧ j ≠ 22 ∧ j ≠ 23 ∧ j ≠ 29 ∧ j ≠ 35) (h31 : j = 31 → v ≤ 30) (h30 : j = 30 → v ≤ 12) : RMI (sN N 40 0 j v) d := by
  have hsc := h.2.2.2.2.2.2.2
  refine RMI_N h (by omega) (by rw [gNN, if_neg (by omega)]; exact Nat.le_refl _) (by rw [gNN, if_neg (by omega)]; exact Nat.le_refl _) ?_
  unfold Sca at hsc ⊢
  have e : ∀ q, q ≠ j → gN (sN N 40 0 j v) 40 0 q = gN N 40 0 q := fun q hq => by rw [gNN, if_neg (fun z => hq z.2.2)]
  refine ⟨by rw [e 29 (by omega), e 23 (by omega)]; exact hsc.1, by rw [e 23 (by omega)]; exact hsc.2.1, by rw [e 22 (by omega), e 29 (by omega)]; exact hsc.2.2.1, ?_, by rw [e 35 (by omega)]; exact hsc.2.2.2.2.1, ?_⟩
  · by_cases q : j = 31
    · rw [gNN, if_pos ⟨rfl, rfl, q.symm⟩]; exact h31 q
    · rw [e 31 (by omega)]; exact hsc.2.2.2.1
  · by_cases q : j = 30
    · rw [gNN, if_pos ⟨rfl, rfl, q.symm⟩]; exact h30 q
    · rw [e 30 (by omega)]; exact hsc.2.2.2.2.2
/-- the top frame goes to another place -/
theorem RMI_place {N : Mem} {f t : Nat} (h : RMI N (f + 1)) (ht : t ≤ gN N 41 0 (gN N 51 0 f)) : RMI (sN N 52 0 f t) (f + 1) := by
  have hs : ScR N (sN N 52 0 f t) := ScR_N (by omega)
  have e : ∀ k i q, k ≠ 52 → gN (sN N 52 0 f t) k i q = gN N k i q := fun k i q hk => by rw [gNN, if_neg (fun z => hk z.1)]
  have hf := h.2.2.2.2.1 f (by omega)
  have hsc := h.2.2.2.2.2.2.2
  refine RMI_top h hs (e _ _ _ (by omega)) (fun g hg => ⟨e _ _ _ (by omega), by rw [gNN, if_neg (by omega)], rfl, e _ _ _ (by omega), e _ _ _ (by omega), e _ _ _ (by omega), fun _ _ => e _ _ _ (by omega)⟩) ?_ ⟨rfl, e _ _ _ (by omega), e _ _ _ (by omega)⟩ (by rw [e _ _ _ (by omega)]; exact Nat.le_refl _) (by rw [e _ _ _ (by omega)]; exact Nat.le_refl _) ?_
  · obtain ⟨q1, q2, q3, q4, q5, q6⟩ := hf
    unfold FrR
    rw [e 51 _ _ (by omega), e 40 _ _ (by omega), e 41 _ _ (by omega), e 57 _ _ (by omega), e 55 _ _ (by omega), e 56 _ _ (by omega), e 40 _ _ (by omega), e 40 _ _ (by omega), totR_Sc hs]
    refine ⟨q1, q2, by rw [gNN, if_pos ⟨rfl, rfl, rfl⟩]; exact ht, fun i hi => ?_, q5, q6⟩
    rw [e 59 _ _ (by omega)]; exact q4 i hi
  · unfold Sca
    rw [e 40 _ _ (by omega), e 40 _ _ (by omega), e 40 _ _ (by omega), e 40 _ _ (by omega), e 40 _ _ (by omega), e 40 _ _ (by omega)]; exact hsc
theorem Out_place {N : Mem} {b f t : Nat} (h : RMI N (f + 1)) (hg : Go b N) (ht : t ≤ gN N 41 0 (gN N 51 0 f)) : Out b (sN N 52 0 f t) := Out_go (RMI_place h ht) (Go_N hg (by omega))
/-- holds of the top frame -/
theorem RMI_hold {N : Mem} {f i v : Nat} (h : RMI N (f + 1)) (hi : i ≤ 2) (hv : v ≤ gN N 40 0 35) : RMI (sN N 59 0 (3 * f + i) v) (f + 1) := by
  have hs : ScR N (sN N 59 0 (3 * f + i) v) := ScR_N (by omega)
  have e : ∀ k i' q, k ≠ 59 → gN (sN N 59 0 (3 * f + i) v) k i' q = gN N k i' q := fun k i' q hk => by rw [gNN, if_neg (fun z => hk z.1)]
  have hf := h.2.2.2.2.1 f (by omega)
  have hsc := h.2.2.2.2.2.2.2
  refine RMI_top h hs (e _ _ _ (by omega)) (fun g hg => ⟨e _ _ _ (by omega), e _ _ _ (by omega), rfl, e _ _ _ (by omega), e _ _ _ (by omega), e _ _ _ (by omega), fun j hj => by rw [gNN, if_neg (by omega)]⟩) ?_ ⟨rfl, e _ _ _ (by omega), e _ _ _ (by omega)⟩ (by rw [e _ _ _ (by omega)]; exact Nat.le_refl _) (by rw [e _ _ _ (by omega)]; exact Nat.le_refl _) ?_
  · obtain ⟨q1, q2, q3, q4, q5, q6⟩ := hf
    unfold FrR
    rw [e 51 _ _ (by omega), e 40 _ _ (by omega), e 41 _ _ (by omega), e 52 _ _ (by omega), e 57 _ _ (by omega), e 55 _ _ (by omega), e 56 _ _ (by omega), e 40 _ _ (by omega), e 40 _ _ (by omega), totR_Sc hs]
    refine ⟨q1, q2, q3, fun j hj => ?_, q5, q6⟩
    rw [gNN]
    split
    · exact hv
    · exact q4 j hj
  · unfold Sca
    rw [e 40 _ _ (by omega), e 40 _ _ (by omega), e 40 _ _ (by omega), e 40 _ _ (by omega), e 40 _ _ (by omega), e 40 _ _ (by omega)]; exact hsc
/-- caught -/
theorem RMI_caught {N : Mem} {f v : Nat} (h : RMI N (f + 1)) (hv : v ≤ 8) : RMI (sN N 57 0 f v) (f + 1) := by
  have hs : ScR N (sN N 57 0 f v) := ScR_N (by omega)
  have e : ∀ k i' q, k ≠ 57 → gN (sN N 57 0 f v) k i' q = gN N k i' q := fun k i' q hk => by rw [gNN, if_neg (fun z => hk z.1)]
  have hf := h.2.2.2.2.1 f (by omega)
  have hsc := h.2.2.2.2.2.2.2
  refine RMI_top h hs (e _ _ _ (by omega)) (fun g hg => ⟨e _ _ _ (by omega), e _ _ _ (by omega), rfl, e _ _ _ (by omega), e _ _ _ (by omega), by rw [gNN, if_neg (by omega)], fun j hj => e _ _ _ (by omega)⟩) ?_ ⟨rfl, e _ _ _ (by omega), e _ _ _ (by omega)⟩ (by rw [e _ _ _ (by omega)]; exact Nat.le_refl _) (by rw [e _ _ _ (by omega)]; exact Nat.le_refl _) ?_
  · obtain ⟨q1, q2, q3, q4, q5, q6⟩ := hf
    unfold FrR
    rw [e 51 _ _ (by omega), e 40 _ _ (by omega), e 41 _ _ (by omega), e 52 _ _ (by omega), e 55 _ _ (by omega), e 56 _ _ (by omega), e 40 _ _ (by omega), e 40 _ _ (by omega), totR_Sc hs]
    refine ⟨q1, q2, q3, fun j hj => by rw [e 59 _ _ (by omega)]; exact q4 j hj, by rw [gNN, if_pos ⟨rfl, rfl, rfl⟩]; exact hv, q6⟩
  · unfold Sca
    rw [e 40 _ _ (by omega), e 40 _ _ (by omega), e 40 _ _ (by omega), e 40 _ _ (by omega), e 40 _ _ (by omega), e 40 _ _ (by omega)]; exact hsc
theorem RMI_I58 {N : Mem} {d i j : Nat} {v : Int32} (h : RMI N d) : RMI (sI N 58 i j v) d := by
  obtain ⟨h1, h2, h3, h4, h5, h6, h7, h8⟩ := h
  have hs : ScR N (sI N 58 i j v) := ScR_I (Or.inr (by omega))
  have e : ∀ g, gI (sI N 58 i j v) 54 0 g = gI N 54 0 g := fun g => by rw [gII, if_neg (by omega)]
  exact ⟨RI_ScR hs h1, h2, h3, h4, fun g hg => FrR_eq hs ⟨rfl, rfl, e g, rfl, rfl, rfl, fun _ _ => rfl⟩ (Nat.le_refl _) (Nat.le_refl _) (h5 g hg), h6, Dj_eq (fun g _ => ⟨rfl, rfl, e g, rfl, rfl, rfl, fun _ _ => rfl⟩) h7, h8⟩
