/-! the reference's run: what holds of its frames, turn by turn -/
def FrR (N : Mem) (g : Nat) : Prop := gN N 51 0 g < gN N 40 0 0 ∧ totR N (gN N 51 0 g) ≤ 70 ∧ gN N 52 0 g ≤ gN N 41 0 (gN N 51 0 g) ∧ (∀ i, i ≤ 2 → gN N 59 0 (3 * g + i) ≤ gN N 40 0 35) ∧ gN N 57 0 g ≤ 8 ∧ (¬ gI N 54 0 g = -1 → gN N 55 0 g + gN N 56 0 g ≤ gN N 40 0 22 ∧ ∃ n, n ≤ 6 ∧ gI N 54 0 g = nI n)
def Dj (N : Mem) (d : Nat) : Prop := ∀ g g', g < g' → g' < d → ¬ gI N 54 0 g = -1 → ¬ gI N 54 0 g' = -1 → gN N 55 0 g + gN N 56 0 g ≤ gN N 55 0 g' ∨ gN N 55 0 g' + gN N 56 0 g' ≤ gN N 55 0 g
def Sca (N : Mem) : Prop := gN N 40 0 29 ≤ gN N 40 0 23 ∧ gN N 40 0 23 ≤ 200 ∧ gN N 40 0 22 ≤ gN N 40 0 29 ∧ gN N 40 0 31 ≤ 30 ∧ gN N 40 0 35 ≤ 2000 ∧ gN N 40 0 30 ≤ 12
def RMI (N : Mem) (d : Nat) : Prop := RI N ∧ 1 ≤ d ∧ d ≤ 12 ∧ gN N 40 0 11 = d ∧ (∀ g, g < d → FrR N g) ∧ (∀ g, g + 1 < d → gN N 52 0 g < gN N 41 0 (gN N 51 0 g)) ∧ Dj N d ∧ Sca N
def Out (b : Nat) (N : Mem) : Prop := RI N ∧ gN N 40 0 24 ≤ 1 ∧ gN N 40 0 25 ≤ 1 ∧ gN N 40 0 26 ≤ 8 ∧ (gN N 40 0 24 = 0 → gN N 40 0 25 = 0 → (∃ d, RMI N d) ∧ gN N 40 0 35 = b)
theorem totR_Sc {N N' : Mem} {m : Nat} (h : ScR N N') : totR N' m = totR N m := by
  have e : ∀ {k : Nat}, 41 ≤ k → k ≤ 50 → ∀ i, gN N' k i = gN N k i := fun h1 h2 i => by funext j; exact (h.1 _ i j h1 h2).1
  have e2 : ∀ i, gJ N' 45 i = gJ N 45 i := fun i => by funext j; exact (h.1 45 i j (by omega) (by omega)).2.2
  unfold totR rac rnu
  rw [e (show 41 ≤ 41 by decide) (by decide), e (show 41 ≤ 42 by decide) (by decide), e (show 41 ≤ 46 by decide) (by decide), e2]
/-- a frame's numbers are the same -/
def Eqf (N N' : Mem) (g : Nat) : Prop := gN N' 51 0 g = gN N 51 0 g ∧ gN N' 52 0 g = gN N 52 0 g ∧ gI N' 54 0 g = gI N 54 0 g ∧ gN N' 55 0 g = gN N 55 0 g ∧ gN N' 56 0 g = gN N 56 0 g ∧ gN N' 57 0 g = gN N 57 0 g ∧ (∀ i, i ≤ 2 → gN N' 59 0 (3 * g + i) = gN N 59 0 (3 * g + i))
theorem FrR_eq {N N' : Mem} {g : Nat} (hs : ScR N N') (he : Eqf N N' g) (hc : gN N 40 0 22 ≤ gN N' 40 0 22) (hb : gN N 40 0 35 ≤ gN N' 40 0 35) (h : FrR N g) : FrR N' g := by
  obtain ⟨e1, e2, e3, e4, e5, e6, e7⟩ := he
  obtain ⟨h1, h2, h3, h4, h5, h6⟩ := h
  unfold FrR
  rw [e1, e2, e3, e4, e5, e6, totR_Sc hs, hs.2, (hs.1 41 0 _ (by omega) (by omega)).1]
  refine ⟨h1, h2, h3, fun i hi => ?_, h5, fun q => ?_⟩
  · rw [e7 i hi]; have := h4 i hi; omega
  · obtain ⟨q1, q2⟩ := h6 q
    exact ⟨by omega, q2⟩
theorem Dj_eq {N N' : Mem} {d : Nat} (he : ∀ g, g < d → Eqf N N' g) (h : Dj N d) : Dj N' d := by
  intro g g' h1 h2 h3 h4
  obtain ⟨-, -, a3, a4, a5, -⟩ := he g (by omega)
  obtain ⟨-, -, b3, b4, b5, -⟩ := he g' h2
  rw [a3] at h3; rw [b3] at h4
  rw [a4, a5, b4, b5]
  exact h g g' h1 h2 h3 h4
/-- only the top frame's place, registers or cells change -/
theorem RMI_top {N N' : Mem} {f : Nat} (h : RMI N (f + 1)) (hs : ScR N N') (hd : gN N' 40 0 11 = gN N 40 0 11) (he : ∀ g, g < f → Eqf N N' g) (ht : FrR N' f) (hj : gI N' 54 0 f = gI N 54 0 f ∧ gN N' 55 0 f = gN N 55 0 f ∧ gN N' 56 0 f = gN N 56 0 f) (hc : gN N 40 0 22 ≤ gN N' 40 0 22) (hb : gN N 40 0 35 ≤ gN N' 40 0 35) (hsc : Sca N') : RMI N' (f + 1) := by
  obtain ⟨h1, h2, h3, h4, h5, h6, h7, h8⟩ := h
  refine ⟨RI_ScR hs h1, h2, h3, hd.trans h4, fun g hg => ?_, fun g hg => ?_, fun g g' q1 q2 q3 q4 => ?_, hsc⟩
  · by_cases e : g = f
    · subst e; exact ht
    · exact FrR_eq hs (he g (by omega)) hc hb (h5 g hg)
  · obtain ⟨e1, e2, -⟩ := he g (by omega)
    rw [e1, e2, (hs.1 41 0 _ (by omega) (by omega)).1]; exact h6 g hg
  · obtain ⟨-, -, a3, a4, a5, -⟩ := he g (by omega)
    have hb : gI N' 54 0 g' = gI N 54 0 g' ∧ gN N' 55 0 g' = gN N 55 0 g' ∧ gN N' 56 0 g' = gN N 56 0 g' := by
      by_cases e : g' = f
      · subst e; exact hj
      · obtain ⟨-, -, b3, b4, b5, -⟩ := he g' (by omega); exact ⟨b3, b4, b5⟩
    rw [a3] at q3; rw [hb.1] at q4
    rw [a4, a5, hb.2.1, hb.2.2]
    exact h7 g g' q1 q2 q3 q4
/-- the frames below stay in order when the top one leaves -/
theorem RMI_leave {N : Mem} {f : Nat} (h : RMI N (f + 2)) : RMI (rLeave N) (f + 1) := by
  obtain ⟨h1, h2, h3, h4, h5, h6, h7, h8⟩ := h
  have hE : ∀ g, Eqf N (rLeave N) g := fun g => ⟨rl_N _ _ _ (by omega), rl_N _ _ _ (by omega), by unfold rLeave; simp [gII, gIN], rl_N _ _ _ (by omega), rl_N _ _ _ (by omega), rl_N _ _ _ (by omega), fun i _ => rl_N _ _ _ (by omega)⟩
  have e22 : gN (rLeave N) 40 0 22 = gN N 40 0 22 := rl_N _ _ _ (by omega)
  have e35 : gN (rLeave N) 40 0 35 = gN N 40 0 35 := rl_N _ _ _ (by omega)
  refine ⟨RI_ScR rl_Sc h1, by omega, by omega, by rw [rl_d, h4]; rfl, fun g hg => FrR_eq rl_Sc (hE g) (by omega) (by omega) (h5 g (by omega)), fun g hg => ?_, Dj_eq (fun g _ => hE g) (fun g g' q1 q2 => h7 g g' q1 (by omega)), ?_⟩
  · obtain ⟨e1, e2, -⟩ := hE g
    rw [e1, e2, rl_N 41 0 _ (by omega)]; exact h6 g (by omega)
  · unfold Sca
    rw [rl_N 40 0 29 (by omega), rl_N 40 0 23 (by omega), rl_N 40 0 31 (by omega), rl_N 40 0 30 (by omega), e22, e35]; exact h8
theorem rl_flags {N : Mem} : gN (rLeave N) 40 0 24 = gN N 40 0 24 ∧ gN (rLeave N) 40 0 25 = gN N 40 0 25 ∧ gN (rLeave N) 40 0 26 = gN N 40 0 26 ∧ gN (rLeave N) 40 0 35 = gN N 40 0 35 := ⟨rl_N _ _ _ (by omega), rl_N _ _ _ (by omega), rl_N _ _ _ (by omega), rl_N _ _ _ (by omega)⟩
/-- a stop is an end -/
theorem Out_stop {N : Mem} {b : Nat} (h : RI N) (h25 : gN N 40 0 25 ≤ 1) (h26 : gN N 40 0 26 ≤ 8) : Out b (rstp N) := by
  refine ⟨RI_ScR (ScR_N (by omega)) h, ?_, ?_, ?_, fun q => ?_⟩
  · unfold rstp; simp [gNN]
  · unfold rstp; simp [gNN]; exact h25
  · unfold rstp; simp [gNN]; exact h26
  · unfold rstp at q; simp [gNN] at q
/-- flags of a run that goes on -/
def Go (b : Nat) (N : Mem) : Prop := gN N 40 0 24 = 0 ∧ gN N 40 0 25 = 0 ∧ gN N 40 0 26 ≤ 8 ∧ gN N 40 0 35 = b
theorem Out_go {N : Mem} {b d : Nat} (h : RMI N d) (hg : Go b N) : Out b N := ⟨h.1, by have := hg.1; omega, by have := hg.2.1; omega, hg.2.2.1, fun _ _ => ⟨⟨d, h⟩, hg.2.2.2⟩⟩
