theorem Out_take {N N' : Mem} {b f h : Nat} (hr : RTake N f h N') (hm : RMI N (f + 1)) (hg : Go b N) : Out b N' := by
  have hsc := hm.2.2.2.2.2.2.2
  have h25 : gN N 40 0 25 ≤ 1 := by have := hg.2.1; omega
  rcases hr with ⟨-, rfl⟩ | ⟨ht, ⟨-, rfl⟩ | ⟨hok, rfl⟩⟩
  · exact Out_stop hm.1 h25 hg.2.2.1
  · exact Out_stop hm.1 h25 hg.2.2.1
  · have hk := hg.2.2.1
    unfold okC at hok
    have r1 : RMI (sN N 40 0 29 (gN N 40 0 29 + 1)) (f + 1) := RMI_steps hm (by omega) hok
    have r2 := RMI_scal (j := 31) (v := gN N 40 0 31 + 1) r1 (by omega) (fun _ => by omega) (fun q => by omega)
    have r3 := RMI_caught (v := gN N 40 0 26) r2 hk
    have r4 := RMI_I58 (i := 0) (j := f) (v := gI N 40 0 27) r3
    have r5 := RMI_scal (j := 26) (v := 0) r4 (by omega) (fun q => by omega) (fun q => by omega)
    have r6 := RMI_I (i := 0) (j := 27) (v := nI 0) r5
    have r7 := RMI_place (t := min (gN N 49 0 h) (gN N 41 0 (gN N 51 0 f))) r6 (by simp only [gNN, gNI, Nat.reduceEqDiff, false_and, if_false]; omega)
    refine Out_go r7 ⟨?_, ?_, ?_, ?_⟩
    · simp only [gNN, gNI, Nat.reduceEqDiff, false_and, and_false, if_false]; exact hg.1
    · simp only [gNN, gNI, Nat.reduceEqDiff, false_and, and_false, if_false]; exact hg.2.1
    · simp [gNN, gNI]
    · simp only [gNN, gNI, Nat.reduceEqDiff, false_and, and_false, if_false]; exact hg.2.2.2
theorem Go_leave {N : Mem} {b : Nat} (h : Go b N) : Go b (rLeave N) := by
  obtain ⟨e1, e2, e3, e4⟩ := rl_flags (N := N)
  exact ⟨e1.trans h.1, e2.trans h.2.1, by rw [e3]; exact h.2.2.1, e4.trans h.2.2.2⟩
theorem Out_fail {k b : Nat} : ∀ (d : Nat) (N N' : Mem), RFailP k d N N' → RI N → (1 ≤ d → RMI N d) → Go b N → Out b N' := by
  intro d
  induction d with
  | zero =>
    intro N N' hr hi _ hg
    have e : sN N 40 0 25 1 = N' := hr
    subst e
    refine ⟨RI_ScR (ScR_N (by omega)) hi, ?_, ?_, ?_, fun _ q => ?_⟩
    · simp [gNN]; have := hg.1; omega
    · simp [gNN]
    · simp [gNN]; exact hg.2.2.1
    · simp [gNN] at q
  | succ d ih =>
    intro N N' hr hi hm hg
    have hm := hm (by omega)
    rcases hr with ⟨h, -, -, -, ht⟩ | ⟨-, hr⟩
    · exact Out_take ht hm hg
    · refine ih _ _ hr (RI_ScR rl_Sc hi) (fun hd => ?_) (Go_leave hg)
      obtain ⟨f, rfl⟩ : ∃ f, d = f + 1 := ⟨d - 1, by omega⟩
      exact RMI_leave hm
theorem Out_FAIL {N N' : Mem} {k b f : Nat} {n : Int32} (hr : RFAIL N k n N') (hm : RMI N (f + 1)) (hk : k ≤ 8) (hg : Go b N) : Out b N' := by
  unfold RFAIL at hr
  rw [hm.2.2.2.1] at hr
  have r1 := RMI_I (i := 0) (j := 27) (v := n) (RMI_scal (j := 26) (v := k) hm (by omega) (fun q => by omega) (fun q => by omega))
  refine Out_fail _ _ _ hr r1.1 (fun _ => r1) ⟨?_, ?_, ?_, ?_⟩
  · simp only [gNN, gNI, Nat.reduceEqDiff, false_and, and_false, if_false]; exact hg.1
  · simp only [gNN, gNI, Nat.reduceEqDiff, false_and, and_false, if_false]; exact hg.2.1
  · simp [gNN, gNI]; exact hk
  · simp only [gNN, gNI, Nat.reduceEqDiff, false_and, and_false, if_false]; exact hg.2.2.2
theorem Out_give {N N' : Mem} {b f : Nat} {v : Int64} (hr : RGive N v N') (hm : RMI N (f + 1)) (hg : Go b N) : Out b N' := by
  rcases hr with ⟨-, rfl⟩ | ⟨g, hd, rfl⟩
  · obtain ⟨e1, e2, e3, e4⟩ := rl_flags (N := N)
    refine ⟨RI_ScR (rl_Sc.tr ((ScR_N (by omega)).tr (ScR_J (by omega)))) hm.1, ?_, ?_, ?_, fun _ q => ?_⟩
    · simp [gNN, gNJ]; rw [e1]; have := hg.1; omega
    · simp [gNN, gNJ]
    · simp [gNN, gNJ]; rw [e3]; exact hg.2.2.1
    · simp [gNN, gNJ] at q
  · have hf : f = g + 1 := by have := hm.2.2.2.1; omega
    subst hf
    have hp := hm.2.2.2.2.2.1 g (by omega)
    exact Out_place (RMI_J (RMI_leave hm) (by omega)) (Go_leave hg) (by simp only [gNJ]; rw [rl_N 41 0 _ (by omega), rl_N 51 0 _ (by omega)]; omega)
theorem Out_jmp {N N' : Mem} {b f t : Nat} (hr : RJmp N f t N') (hm : RMI N (f + 1)) (hg : Go b N) : Out b N' := by
  have hsc := hm.2.2.2.2.2.2.2
  rcases hr with ⟨-, -, rfl⟩ | ⟨-, hok, rfl⟩ | ⟨-, rfl⟩
  · exact Out_stop hm.1 (by have := hg.2.1; omega) hg.2.2.1
  · unfold okC at hok
    exact Out_place (RMI_steps hm (by omega) hok) (Go_N hg (by omega)) (by simp only [gNN, Nat.reduceEqDiff, false_and, if_false]; omega)
  · exact Out_place hm hg (by omega)
theorem Out_enter {N N' : Mem} {b f c : Nat} {x : Int64} (hr : REnter N c x N') (hm : RMI N (f + 1)) (hp : gN N 52 0 f < gN N 41 0 (gN N 51 0 f)) (hg : Go b N) : Out b N' := by
  have hsc := hm.2.2.2.2.2.2.2
  have h25 : gN N 40 0 25 ≤ 1 := by have := hg.2.1; omega
  rcases hr with ⟨-, rfl⟩ | ⟨h1, h2, h3, ⟨-, rfl⟩ | ⟨hok, rfl⟩⟩
  · exact Out_stop hm.1 h25 hg.2.2.1
  · exact Out_stop hm.1 h25 hg.2.2.1
  · unfold okC at hok
    have r1 := RMI_steps (s := gN N 40 0 29 + 1) hm (by omega) hok
    have hS : ScR N (sN N 40 0 29 (gN N 40 0 29 + 1)) := ScR_N (by omega)
    have hd := hm.2.2.2.1
    have hlo : ∀ g, g + 1 = f + 1 → gN (sN N 40 0 29 (gN N 40 0 29 + 1)) 52 0 g < gN (sN N 40 0 29 (gN N 40 0 29 + 1)) 41 0 (gN (sN N 40 0 29 (gN N 40 0 29 + 1)) 51 0 g) := by
      intro g hgf
      rw [show g = f by omega]
      simp only [gNN, Nat.reduceEqDiff, false_and, if_false]
      exact hp
    exact Out_go (RMI_push (Or.inr r1) ⟨r1.1, r1.2.2.2.2.2.2.2⟩ r1.2.2.2.1 (by omega) (by rw [hS.2]; exact h1) (by rw [totR_Sc hS]; exact h2) hlo) (Go_push (Go_N hg (by omega)))
theorem Out_inc {N : Mem} {b f k j : Nat} {v : Int64} (hm : RMI N (f + 1)) (hp : gN N 52 0 f < gN N 41 0 (gN N 51 0 f)) (hg : Go b N) (hk : 50 < k) : Out b (sN (sJ N k 0 j v) 52 0 f (gN N 52 0 f + 1)) := Out_place (RMI_J hm hk) hg hp
theorem Out_rows {N N' : Mem} {b f a r s : Nat} {x : Int32} (hr : RRows N f a r s x N') (hm : RMI N (f + 1)) (hp : gN N 52 0 f < gN N 41 0 (gN N 51 0 f)) (hg : Go b N) (hx : a = 8 → ∃ q, q ≤ 6 ∧ x = nI q) (hmk : a = 8 → ∀ n, gJ N 53 0 r = lN n → n ≤ 200 → gN N 40 0 22 + n ≤ gN N 40 0 29) : Out b N' := by
  rcases hr with ⟨ha, h⟩ | ⟨-, h⟩ | ⟨-, -, h⟩ | ⟨-, -, rfl⟩ | ⟨-, -, -, h⟩ | ⟨-, -, k, -, -, rfl⟩ | ⟨-, -, k, -, -, h⟩
  · rcases h with ⟨-, h⟩ | ⟨n, hn, hna, rfl⟩
    · exact Out_FAIL h hm (by omega) hg
    · obtain ⟨q, hq, rfl⟩ := hx ha
      exact Out_go (RMI_mk hm hq (hmk ha n hna hn) hp) (Go_mk hg)
  · rcases h with ⟨-, rfl⟩ | ⟨-, h⟩
    · exact Out_place hm hg hp
    · exact Out_FAIL h hm (by omega) hg
  · exact Out_FAIL h hm (by omega) hg
  · exact Out_inc hm hp hg (by omega)
  · exact Out_FAIL h hm (by omega) hg
  · exact Out_inc hm hp hg (by omega)
  · rcases h with ⟨-, -, h⟩ | ⟨-, rfl⟩
    · exact Out_FAIL h hm (by omega) hg
    · exact Out_inc hm hp hg (by omega)
theorem Out_work {N N' : Mem} {b f m p : Nat} (hr : RWork N f m p N') (hm : RMI N (f + 1)) (hmm : gN N 51 0 f = m) (hpp : gN N 52 0 f = p) (hp : p < gN N 41 0 m) (hg : Go b N) (hh : ∀ i, i ≤ 2 → gN N 59 0 (3 * f + i) + 1 ≤ gN N 40 0 35) (hmk : rac N m p = 8 → ∀ n, gJ N 53 0 (rR N f m p) = lN n → n ≤ 200 → gN N 40 0 22 + n ≤ gN N 40 0 29) : Out b N' := by
  have hp' : gN N 52 0 f < gN N 41 0 (gN N 51 0 f) := by rw [hmm, hpp]; exact hp
  have hck := (hm.2.2.2.2.1 f (by omega)).2.2.2.2.1
  have hi : RIm N m := hm.1.2 m (by have := (hm.2.2.2.2.1 f (by omega)).1; have := hm.1.1; omega)
  rw [← hpp] at hr
  rcases hr with ⟨-, rfl⟩ | ⟨-, rfl⟩ | ⟨-, rfl⟩ | ⟨-, rfl⟩ | ⟨-, h⟩ | ⟨-, h⟩ | ⟨-, t, -, -, h⟩ | ⟨-, h⟩ | ⟨-, n, -, -, h⟩ | ⟨-, h⟩ | ⟨-, h⟩ | ⟨-, h⟩ | ⟨-, g, hg2, -, rfl⟩ | ⟨-, g, hg2, -, h⟩ | ⟨ha, h⟩
  · exact Out_inc hm hp' hg (by omega)
  · exact Out_inc hm hp' hg (by omega)
  · exact Out_inc hm hp' hg (by omega)
  · exact Out_inc hm hp' hg (by omega)
  · rcases h with ⟨-, h⟩ | ⟨-, rfl⟩
    · exact Out_FAIL h hm (by omega) hg
    · exact Out_inc hm hp' hg (by omega)
  · rcases h with ⟨-, h⟩ | ⟨-, rfl⟩
    · exact Out_FAIL h hm (by omega) hg
    · exact Out_inc hm hp' hg (by omega)
  · exact Out_jmp h hm hg
  · rcases h with ⟨-, t, -, -, h⟩ | ⟨-, rfl⟩
    · exact Out_jmp h hm hg
    · exact Out_place hm hg hp'
  · exact Out_enter h hm hp' hg
  · exact Out_give h hm hg
  · exact Out_FAIL h hm (by omega) hg
  · rcases h with ⟨-, h⟩ | ⟨-, h⟩
    · exact Out_FAIL h hm (by omega) hg
    · exact Out_FAIL h hm hck hg
  · have r1 := RMI_hold (i := g) (v := gN N 59 0 (3 * f + g) + 1) hm hg2 (hh g hg2)
    have r2 := RMI_I (i := 0) (j := 34) (v := if gI N 40 0 34 < gI N 40 0 33 + nI 1 then gI N 40 0 33 + nI 1 else gI N 40 0 34) (RMI_I (i := 0) (j := 33) (v := gI N 40 0 33 + nI 1) r1)
    exact Out_place r2 (Go_I (Go_I (Go_N hg (by omega)))) (by simp only [gNN, gNI, Nat.reduceEqDiff, false_and, if_false]; exact hp')
  · rcases h with ⟨-, h⟩ | ⟨-, rfl⟩
    · exact Out_FAIL h hm (by omega) hg
    · have r1 := RMI_hold (i := g) (v := gN N 59 0 (3 * f + g) - 1) hm hg2 (by have := hh g hg2; omega)
      have r2 := RMI_I (i := 0) (j := 34) (v := if gI N 40 0 34 < gI N 40 0 33 + (-1) then gI N 40 0 33 + (-1) else gI N 40 0 34) (RMI_I (i := 0) (j := 33) (v := gI N 40 0 33 + (-1)) r1)
      exact Out_place r2 (Go_I (Go_I (Go_N hg (by omega)))) (by simp only [gNN, gNI, Nat.reduceEqDiff, false_and, if_false]; exact hp')
  · refine Out_rows h hm hp' hg (fun q => ?_) (fun q => ?_)
    · obtain ⟨v, hv1, hv2⟩ := (hi.2.2.2.2 p hp).2.1 (Or.inl (by rw [← hpp]; exact q))
      exact ⟨v, hv1, by show (gJ N 45 0 (40 * m + gN N 52 0 f)).toInt32 = _; rw [hpp, hv2, lN_i]⟩
    · rw [hpp] at q ⊢; exact hmk q
/-- a turn -/
def WorkT (N : Mem) (f : Nat) (N' : Mem) : Prop := (gN N 52 0 f < gN N 41 0 (gN N 51 0 f) ∧ RWork N f (gN N 51 0 f) (gN N 52 0 f) N') ∨ (gN N 52 0 f = gN N 41 0 (gN N 51 0 f) ∧ RGive N (lN 0) N')
def BegR (N N' : Mem) : Prop := (gN N 40 0 35 = 2000 ∧ rstp N = N') ∨ (gN N 40 0 35 < 2000 ∧ WorkT (sN N 40 0 35 (gN N 40 0 35 + 1)) (gN N 40 0 11 - 1) N')
def TurnR (N N' : Mem) : Prop := ∃ r X, PaidP N (gN N 40 0 11 - 1) r X ∧ ((some (.int (nI 0)) = r ∧ X = N') ∨ (some (.int (nI 1)) = r ∧ BegR X N'))
theorem Out_turn {N N' : Mem} {d : Nat} (hr : TurnR N N') (hm : RMI N d) (hg : Go (gN N 40 0 35) N) : Out (gN N 40 0 35 + 1) N' := by
  obtain ⟨f, rfl⟩ : ∃ f, d = f + 1 := ⟨d - 1, by have := hm.2.1; omega⟩
  have hd := hm.2.2.2.1
  have h25 : gN N 40 0 25 ≤ 1 := by have := hg.2.1; omega
  have hsc := hm.2.2.2.2.2.2.2
  obtain ⟨r, X, hP, hB⟩ := hr
  rw [show gN N 40 0 11 - 1 = f by omega] at hP
  have work : ∀ Y, RMI Y (f + 1) → Go (gN N 40 0 35) Y → (gN Y 40 0 35 = gN N 40 0 35) → (∀ i, i ≤ 2 → gN Y 59 0 (3 * f + i) ≤ gN Y 40 0 35) → (rac Y (gN Y 51 0 f) (gN Y 52 0 f) = 8 → gN Y 52 0 f < gN Y 41 0 (gN Y 51 0 f) → ∀ n, gJ Y 53 0 (rR Y f (gN Y 51 0 f) (gN Y 52 0 f)) = lN n → n ≤ 200 → gN Y 40 0 22 + n ≤ gN Y 40 0 29) → BegR Y N' → Out (gN N 40 0 35 + 1) N' := by
    intro Y hY hgY e35 hh hmk hBR
    have h25Y : gN Y 40 0 25 ≤ 1 := by have := hgY.2.1; omega
    have hdY := hY.2.2.2.1
    rcases hBR with ⟨-, rfl⟩ | ⟨hlt, hW⟩
    · exact Out_stop hY.1 h25Y hgY.2.2.1
    · have hY2 := RMI_begun hY hlt
      rw [show gN Y 40 0 11 - 1 = f by omega] at hW
      have hg2 : Go (gN N 40 0 35 + 1) (sN Y 40 0 35 (gN Y 40 0 35 + 1)) := ⟨by rw [gNN, if_neg (by omega)]; exact hgY.1, by rw [gNN, if_neg (by omega)]; exact hgY.2.1, by rw [gNN, if_neg (by omega)]; exact hgY.2.2.1, by rw [gNN, if_pos ⟨rfl, rfl, rfl⟩, e35]⟩
      have e : ∀ k i j, k ≠ 40 → gN (sN Y 40 0 35 (gN Y 40 0 35 + 1)) k i j = gN Y k i j := fun k i j hk => by rw [gNN, if_neg (fun z => hk z.1)]
      rcases hW with ⟨hp, hw⟩ | ⟨-, hw⟩
      · rw [e 52 _ _ (by omega), e 51 _ _ (by omega), e 41 _ _ (by omega)] at hp
        refine Out_work hw hY2 rfl rfl (by rw [e 52 _ _ (by omega), e 51 _ _ (by omega), e 41 _ _ (by omega)]; exact hp) hg2 (fun i hi => ?_) (fun q n hn1 hn2 => ?_)
        · rw [e 59 _ _ (by omega), gNN, if_pos ⟨rfl, rfl, rfl⟩]; have := hh i hi; omega
        · have hq : rac Y (gN Y 51 0 f) (gN Y 52 0 f) = 8 := by
            have q2 : gN (sN Y 40 0 35 (gN Y 40 0 35 + 1)) 42 0 (40 * gN (sN Y 40 0 35 (gN Y 40 0 35 + 1)) 51 0 f + gN (sN Y 40 0 35 (gN Y 40 0 35 + 1)) 52 0 f) = 8 := q
            rw [e 51 _ _ (by omega), e 52 _ _ (by omega), e 42 _ _ (by omega)] at q2
            exact q2
          have hn : gJ Y 53 0 (rR Y f (gN Y 51 0 f) (gN Y 52 0 f)) = lN n := by
            have q2 : gJ Y 53 0 (4 * f + gN (sN Y 40 0 35 (gN Y 40 0 35 + 1)) 43 0 (40 * gN (sN Y 40 0 35 (gN Y 40 0 35 + 1)) 51 0 f + gN (sN Y 40 0 35 (gN Y 40 0 35 + 1)) 52 0 f)) = lN n := hn1
            rw [e 51 _ _ (by omega), e 52 _ _ (by omega), e 43 _ _ (by omega)] at q2
            exact q2
          have := hmk hq hp n hn hn2
          rw [gNN, if_neg (by omega), gNN, if_neg (by omega)]
          exact this
      · exact Out_give hw hY2 hg2
  have hh := (hm.2.2.2.2.1 f (by omega)).2.2.2.1
  rcases hP with ⟨hno, rfl, rfl⟩ | ⟨hmk, ⟨hok, rfl, rfl⟩ | ⟨-, rfl, rfl⟩⟩
  · rcases hB with ⟨q, -⟩ | ⟨-, hB⟩
    · exact absurd q (by decide)
    · exact work N hm hg rfl hh (fun q1 q2 => absurd ⟨q2, q1⟩ hno) hB
  · rcases hB with ⟨q, -⟩ | ⟨-, hB⟩
    · exact absurd q (by decide)
    · unfold okC at hok
      refine work _ (RMI_steps hm (by omega) hok) (Go_N hg (by omega)) (by rw [gNN, if_neg (by omega)]) (fun i hi => by rw [gNN, if_neg (by omega), gNN, if_neg (by omega)]; exact hh i hi) (fun _ _ n hn1 hn2 => ?_) hB
      have e : gJ N 53 0 (rR N f (gN N 51 0 f) (gN N 52 0 f)) = lN n := hn1
      rw [e]
      have hc : cost (lN n) = 1 + n := by unfold cost; rw [lN_toInt (by omega), if_neg (by omega)]; rfl
      unfold Sca at hsc
      rw [gNN, if_neg (by omega), gNN, if_pos ⟨rfl, rfl, rfl⟩, hc]
      omega
  · rcases hB with ⟨-, rfl⟩ | ⟨q, -⟩
    · exact Out_stop hm.1 h25 hg.2.2.1
    · exact absurd q (by decide)
