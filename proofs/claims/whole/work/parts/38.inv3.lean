/-- a row is made -/
theorem RMI_mk {N : Mem} {f n q : Nat} (h : RMI N (f + 1)) (hq : q ≤ 6) (hs : gN N 40 0 22 + n ≤ gN N 40 0 29) (hp : gN N 52 0 f < gN N 41 0 (gN N 51 0 f)) : RMI (rMk N f n (nI q)) (f + 1) := by
  have hf := h.2.2.2.2.1 f (by omega)
  have hsc := h.2.2.2.2.2.2.2
  unfold rMk
  have key : RMI (sN (fR (sN (sN (sI (sN N 40 0 32 (gN N 40 0 32 + 1)) 54 0 f (nI q)) 55 0 f (gN N 40 0 22)) 56 0 f n) (gN N 40 0 22) n (if nI 4 < nI q then -1 else lN 0)) 40 0 22 (gN N 40 0 22 + n)) (f + 1) := by
    generalize hX : sN (fR (sN (sN (sI (sN N 40 0 32 (gN N 40 0 32 + 1)) 54 0 f (nI q)) 55 0 f (gN N 40 0 22)) 56 0 f n) (gN N 40 0 22) n (if nI 4 < nI q then -1 else lN 0)) 40 0 22 (gN N 40 0 22 + n) = X
    have eN : ∀ k i j, ¬ (k = 40 ∧ i = 0 ∧ (j = 22 ∨ j = 32)) → ¬ (k = 55 ∧ i = 0 ∧ j = f) → ¬ (k = 56 ∧ i = 0 ∧ j = f) → gN X k i j = gN N k i j := by
      intro k i j h1 h2 h3
      rw [← hX, gNN, if_neg (by omega), gN_fR, gNN, if_neg h3, gNN, if_neg h2, gNI, gNN, if_neg (by omega)]
    have eI : ∀ k i j, ¬ (k = 54 ∧ i = 0 ∧ j = f) → gI X k i j = gI N k i j := by
      intro k i j h1
      rw [← hX, gIN, gI_fR, gIN, gIN, gII, if_neg h1, gIN]
    have eJ : ∀ k i j, ¬ k = 60 → gJ X k i j = gJ N k i j := by
      intro k i j h1
      rw [← hX, gJN, gJ_fR, if_neg (by omega), gJN, gJN, gJI, gJN]
    have e22 : gN X 40 0 22 = gN N 40 0 22 + n := by rw [← hX, gNN, if_pos ⟨rfl, rfl, rfl⟩]
    have e54 : gI X 54 0 f = nI q := by rw [← hX, gIN, gI_fR, gIN, gIN, gII, if_pos ⟨rfl, rfl, rfl⟩]
    have e55 : gN X 55 0 f = gN N 40 0 22 := by rw [← hX]; simp [gNN, gN_fR]
    have e56 : gN X 56 0 f = n := by rw [← hX]; simp [gNN, gN_fR]
    have hS : ScR N X := ⟨fun k i j h1 h2 => ⟨eN _ _ _ (by omega) (by omega) (by omega), eI _ _ _ (by omega), eJ _ _ _ (by omega)⟩, eN _ _ _ (by omega) (by omega) (by omega)⟩
    obtain ⟨h1, h2, h3, h4, h5, h6, h7, h8⟩ := h
    have hE : ∀ g, g < f → Eqf N X g := fun g hg => ⟨eN _ _ _ (by omega) (by omega) (by omega), eN _ _ _ (by omega) (by omega) (by omega), eI _ _ _ (by omega), eN _ _ _ (by omega) (by omega) (by omega), eN _ _ _ (by omega) (by omega) (by omega), eN _ _ _ (by omega) (by omega) (by omega), fun i _ => eN _ _ _ (by omega) (by omega) (by omega)⟩
    have e35 : gN X 40 0 35 = gN N 40 0 35 := eN _ _ _ (by omega) (by omega) (by omega)
    refine ⟨RI_ScR hS h1, h2, h3, (eN _ _ _ (by omega) (by omega) (by omega)).trans h4, fun g hg => ?_, fun g hg => ?_, fun g g' q1 q2 q3 q4 => ?_, ?_⟩
    · by_cases e : g = f
      · subst e
        obtain ⟨r1, r2, r3, r4, r5, r6⟩ := hf
        unfold FrR
        rw [eN 51 _ _ (by omega) (by omega) (by omega), eN 52 _ _ (by omega) (by omega) (by omega), eN 57 _ _ (by omega) (by omega) (by omega), eN 41 _ _ (by omega) (by omega) (by omega), eN 40 0 0 (by omega) (by omega) (by omega), totR_Sc hS, e54, e55, e56, e22, e35]
        exact ⟨r1, r2, r3, fun i hi => by rw [eN 59 _ _ (by omega) (by omega) (by omega)]; exact r4 i hi, r5, fun _ => ⟨by omega, q, hq, rfl⟩⟩
      · exact FrR_eq hS (hE g (by omega)) (by omega) (by omega) (h5 g hg)
    · obtain ⟨a1, a2, -⟩ := hE g (by omega)
      rw [a1, a2, eN 41 _ _ (by omega) (by omega) (by omega)]; exact h6 g hg
    · obtain ⟨-, -, a3, a4, a5, -⟩ := hE g (by omega)
      rw [a3] at q3
      have hg6 := (h5 g (by omega)).2.2.2.2.2 q3
      by_cases e : g' = f
      · subst e
        rw [a4, a5, e55, e56]
        exact Or.inl hg6.1
      · obtain ⟨-, -, b3, b4, b5, -⟩ := hE g' (by omega)
        rw [b3] at q4
        rw [a4, a5, b4, b5]; exact h7 g g' q1 q2 q3 q4
    · unfold Sca at hsc ⊢
      rw [eN 40 0 29 (by omega) (by omega) (by omega), eN 40 0 23 (by omega) (by omega) (by omega), eN 40 0 31 (by omega) (by omega) (by omega), eN 40 0 30 (by omega) (by omega) (by omega), e22, e35]
      omega
  refine RMI_place key ?_
  have e1 : ∀ k j, k ≠ 40 → k ≠ 55 → k ≠ 56 → gN (sN (fR (sN (sN (sI (sN N 40 0 32 (gN N 40 0 32 + 1)) 54 0 f (nI q)) 55 0 f (gN N 40 0 22)) 56 0 f n) (gN N 40 0 22) n (if nI 4 < nI q then -1 else lN 0)) 40 0 22 (gN N 40 0 22 + n)) k 0 j = gN N k 0 j := by
    intro k j h1 h2 h3
    rw [gNN, if_neg (by omega), gN_fR, gNN, if_neg (by omega), gNN, if_neg (by omega), gNI, gNN, if_neg (by omega)]
  rw [e1 51 _ (by omega) (by omega) (by omega), e1 41 _ (by omega) (by omega) (by omega)]
  omega
theorem Go_fR {N : Mem} {b lo n : Nat} {v : Int64} (h : Go b N) : Go b (fR N lo n v) := h
theorem Go_mk {N : Mem} {b f n : Nat} {x : Int32} (h : Go b N) : Go b (rMk N f n x) := by
  unfold rMk
  refine Go_N (Go_N (Go_fR (Go_N (Go_N (Go_I (Go_N h ?_)) ?_) ?_)) ?_) ?_ <;> omega
/-- a frame is begun -/
theorem RMI_push {N : Mem} {d c : Nat} {x : Int64} (h : d = 0 ∨ RMI N d) (h0 : RI N ∧ Sca N) (hfr : gN N 40 0 11 = d) (hd : d < 12) (hc : c < gN N 40 0 0) (ht : ¬ 70 < totR N c) (hlo : ∀ g, g + 1 = d → gN N 52 0 g < gN N 41 0 (gN N 51 0 g)) : RMI (rPush N c x) (d + 1) := by
  generalize hX : rPush N c x = X
  unfold rPush at hX
  rw [hfr] at hX
  have eN : ∀ k i j, ¬ (k = 40 ∧ i = 0 ∧ (j = 11 ∨ j = 30)) → ¬ ((k = 51 ∨ k = 52 ∨ k = 57) ∧ i = 0 ∧ j = d) → ¬ (k = 59 ∧ i = 0 ∧ (j = 3 * d ∨ j = 3 * d + 1 ∨ j = 3 * d + 2)) → gN X k i j = gN N k i j := by
    intro k i j h1 h2 h3
    rw [← hX, gNN, if_neg (by omega), gNN, if_neg (by omega), gNN, if_neg (by omega), gNI, gNN, if_neg (by omega), gNI, gNJ, gNJ, gNJ, gNJ, gNN, if_neg (by omega), gNN, if_neg (by omega), gNN, if_neg (by omega), gNN, if_neg (by omega)]
  have eI : ∀ k i j, ¬ ((k = 54 ∨ k = 58) ∧ i = 0 ∧ j = d) → gI X k i j = gI N k i j := by
    intro k i j h1
    rw [← hX, gIN, gIN, gIN, gII, if_neg (by omega), gIN, gII, if_neg (by omega), gIJ, gIJ, gIJ, gIJ, gIN, gIN, gIN, gIN]
  have eJ : ∀ k i j, ¬ k = 53 → gJ X k i j = gJ N k i j := by
    intro k i j h1
    rw [← hX, gJN, gJN, gJN, gJI, gJN, gJI, gJJ, if_neg (by omega), gJJ, if_neg (by omega), gJJ, if_neg (by omega), gJJ, if_neg (by omega), gJN, gJN, gJN, gJN]
  have e51 : gN X 51 0 d = c := by rw [← hX]; simp [gNN, gNI, gNJ]
  have e52 : gN X 52 0 d = 0 := by rw [← hX]; simp [gNN, gNI, gNJ]
  have e57 : gN X 57 0 d = 0 := by rw [← hX]; simp [gNN, gNI, gNJ]
  have e54 : gI X 54 0 d = -1 := by rw [← hX]; simp [gII, gIN, gIJ]
  have e59 : ∀ i, i ≤ 2 → gN X 59 0 (3 * d + i) = 0 := by
    intro i hi
    rcases (show i = 0 ∨ i = 1 ∨ i = 2 by omega) with rfl | rfl | rfl <;> rw [← hX] <;> simp [gNN, gNI, gNJ]
  have e11 : gN X 40 0 11 = d + 1 := by rw [← hX]; simp [gNN, gNI, gNJ]
  have e30 : gN X 40 0 30 = max (gN N 40 0 30) (d + 1) := by rw [← hX]; simp [gNN, gNI, gNJ]
  have hS : ScR N X := ⟨fun k i j h1 h2 => ⟨eN _ _ _ (by omega) (by omega) (by omega), eI _ _ _ (by omega), eJ _ _ _ (by omega)⟩, eN _ _ _ (by omega) (by omega) (by omega)⟩
  have hE : ∀ g, g < d → Eqf N X g := fun g hg => ⟨eN _ _ _ (by omega) (by omega) (by omega), eN _ _ _ (by omega) (by omega) (by omega), eI _ _ _ (by omega), eN _ _ _ (by omega) (by omega) (by omega), eN _ _ _ (by omega) (by omega) (by omega), eN _ _ _ (by omega) (by omega) (by omega), fun i _ => eN _ _ _ (by omega) (by omega) (by omega)⟩
  have e22 : gN X 40 0 22 = gN N 40 0 22 := eN _ _ _ (by omega) (by omega) (by omega)
  have e35 : gN X 40 0 35 = gN N 40 0 35 := eN _ _ _ (by omega) (by omega) (by omega)
  have hlow : ∀ g, g < d → FrR N g := fun g hg => by
    rcases h with h | h
    · omega
    · exact h.2.2.2.2.1 g hg
  refine ⟨RI_ScR hS h0.1, by omega, by omega, e11, fun g hg => ?_, fun g hg => ?_, fun g g' q1 q2 q3 q4 => ?_, ?_⟩
  · by_cases e : g = d
    · subst e
      unfold FrR
      rw [e51, e52, e57, e54, totR_Sc hS, hS.2]
      exact ⟨hc, by omega, Nat.zero_le _, fun i hi => by rw [e59 i hi]; exact Nat.zero_le _, by omega, fun q => absurd rfl q⟩
    · exact FrR_eq hS (hE g (by omega)) (by omega) (by omega) (hlow g (by omega))
  · obtain ⟨a1, a2, -⟩ := hE g (by omega)
    rw [a1, a2, eN 41 _ _ (by omega) (by omega) (by omega)]
    by_cases e : g + 1 = d
    · exact hlo g e
    · rcases h with h | h
      · omega
      · exact h.2.2.2.2.2.1 g (by omega)
  · obtain ⟨-, -, a3, a4, a5, -⟩ := hE g (by omega)
    rw [a3] at q3
    by_cases e : g' = d
    · subst e; exact absurd e54 q4
    · obtain ⟨-, -, b3, b4, b5, -⟩ := hE g' (by omega)
      rw [b3] at q4
      rw [a4, a5, b4, b5]
      rcases h with h | h
      · omega
      · exact h.2.2.2.2.2.2.1 g g' q1 (by omega) q3 q4
  · have hsc := h0.2
    unfold Sca at hsc ⊢
    rw [eN 40 0 29 (by omega) (by omega) (by omega), eN 40 0 23 (by omega) (by omega) (by omega), eN 40 0 31 (by omega) (by omega) (by omega), e30, e22, e35]
    omega
theorem Go_push {N : Mem} {b c : Nat} {x : Int64} (h : Go b N) : Go b (rPush N c x) := by
  unfold rPush
  refine Go_N (Go_N (Go_N (Go_I (Go_N (Go_I (Go_J (Go_J (Go_J (Go_J (Go_N (Go_N (Go_N (Go_N h ?_) ?_) ?_) ?_)))))) ?_)) ?_) ?_) ?_ <;> omega
