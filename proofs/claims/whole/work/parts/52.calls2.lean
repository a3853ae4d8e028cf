/-! the calls that don't run: class and reference go on alike -/
theorem MkOK_k {M M' : Mem} {c : Nat} (h : ∀ k j, 10 ≤ k → k ≤ 24 → gN M' k c j = gN M k c j ∧ gI M' k c j = gI M k c j ∧ gJ M' k c j = gJ M k c j) (hi : MkOK M c) : MkOK M' c := by
  have e : ∀ k, 10 ≤ k → k ≤ 24 → gN M' k c = gN M k c := fun k h1 h2 => by funext j; exact (h k j h1 h2).1
  have e2 : gI M' 22 c = gI M 22 c := by funext j; exact (h 22 j (by decide) (by decide)).2.1
  have e3 : gJ M' 14 c = gJ M 14 c := by funext j; exact (h 14 j (by decide) (by decide)).2.2
  unfold MkOK at hi ⊢
  rw [e 10 (by decide) (by decide), e 11 (by decide) (by decide), e 12 (by decide) (by decide), e 17 (by decide) (by decide), e 19 (by decide) (by decide), e 20 (by decide) (by decide), e 21 (by decide) (by decide), e 24 (by decide) (by decide), e2, e3]
  exact hi
theorem Tl_of {M M' N N' : Mem} (h : Tl M N) (hm : (∀ j, gN M' 7 0 j = gN M 7 0 j) ∧ (∀ j, gI M' 7 0 j = gI M 7 0 j) ∧ (∀ j, gJ M' 7 0 j = gJ M 7 0 j)) (hn : (∀ j, 26 ≤ j → j ≤ 35 → gN N' 40 0 j = gN N 40 0 j) ∧ (∀ j, gI N' 40 0 j = gI N 40 0 j) ∧ (∀ j, gJ N' 40 0 j = gJ N 40 0 j)) : Tl M' N' := by
  obtain ⟨a1, a2, a3, a4, a5, a6, a7, a8, a9⟩ := h
  obtain ⟨m1, m2, m3⟩ := hm
  obtain ⟨n1, n2, n3⟩ := hn
  unfold Tl
  rw [m1, m1, m2, m1, m1, m1, m2, m1, m3, n2, n2, n3, n1 29 (by decide) (by decide), n1 26 (by decide) (by decide), n1 30 (by decide) (by decide), n1 31 (by decide) (by decide), n1 32 (by decide) (by decide), n1 35 (by decide) (by decide)]
  exact ⟨a1, a2, a3, a4, a5, a6, a7, a8, a9⟩
theorem RIm_k {N N' : Mem} {m : Nat} (h : ∀ k j, 41 ≤ k → k ≤ 50 → gN N' k 0 j = gN N k 0 j) (hJ : ∀ j, gJ N' 45 0 j = gJ N 45 0 j) (hi : RIm N m) : RIm N' m := by
  have e : ∀ k, 41 ≤ k → k ≤ 50 → gN N' k 0 = gN N k 0 := fun k h1 h2 => by funext j; exact h k j h1 h2
  have e3 : gJ N' 45 0 = gJ N 45 0 := by funext j; exact hJ j
  unfold RIm at hi ⊢
  rw [e 41 (by decide) (by decide), e 42 (by decide) (by decide), e 43 (by decide) (by decide), e 44 (by decide) (by decide), e 46 (by decide) (by decide), e 47 (by decide) (by decide), e 48 (by decide) (by decide), e 49 (by decide) (by decide), e3]
  exact hi
theorem nOK_0 {n : Nat} {P : Nat → Prop} (h : n = 0) : ∀ k, k < n → P k := fun k hk => absurd hk (by omega)
/-- METHOD -/
theorem cpl_method {M N M' N' : Mem} {r r' : Option Value} (h : CB M N) (hm : (gN M 1 0 1 = 6 ∧ some (.int (-3)) = r ∧ M = M') ∨ (gN M 1 0 1 < 6 ∧ some (.int (nI (gN M 1 0 1))) = r ∧ ∃ X, Sm (eM M (gN M 1 0 1)) X (gN M 1 0 1) ∧ MkOK X (gN M 1 0 1) ∧ sN X 1 0 1 (gN M 1 0 1 + 1) = M')) (hn : (gN N 40 0 0 = 6 ∧ some (.int (-3)) = r' ∧ N = N') ∨ (gN N 40 0 0 < 6 ∧ some (.int (nI (gN N 40 0 0))) = r' ∧ sN (sN (sN N 41 0 (gN N 40 0 0) 0) 46 0 (gN N 40 0 0) 0) 40 0 0 (gN N 40 0 0 + 1) = N')) : r = r' ∧ CB M' N' := by
  obtain ⟨⟨hPI, hRI, hc, hP⟩, hT⟩ := h
  rcases hm with ⟨a, rfl, rfl⟩ | ⟨a, rfl, X, hS, hK, rfl⟩
  · rcases hn with ⟨b, rfl, rfl⟩ | ⟨b, rfl, rfl⟩
    · exact ⟨rfl, ⟨hPI, hRI, hc, hP⟩, hT⟩
    · omega
  · rcases hn with ⟨b, rfl, rfl⟩ | ⟨b, rfl, rfl⟩
    · omega
    · refine ⟨by rw [hc], ⟨⟨?_, fun c hc6 => ?_, fun c hcc => ?_⟩, ⟨?_, fun m hm6 => ?_⟩, ?_, fun c hc6 => ?_⟩, ?_⟩
      · simp only [gNN, gNI, gNJ, gIN, gII, gIJ, gJN, gJI, gJJ, and_self, if_true]; omega
      · have h1 := CI_Sm hS (CI_eM (c := gN M 1 0 1) (hPI.2.1 c hc6))
        exact CI_of (fun k j q1 q2 => by rw [gNN, if_neg (by omega)]) (fun j => rfl) h1
      · simp only [gNN, gNI, gNJ, gIN, gII, gIJ, gJN, gJI, gJJ, and_self, if_true] at hcc
        by_cases e : c = gN M 1 0 1
        · subst e
          exact MkOK_k (fun k j q1 q2 => ⟨by rw [gNN, if_neg (by omega)], rfl, rfl⟩) hK
        · refine MkOK_k (fun k j q1 q2 => ⟨?_, ?_, ?_⟩) (hPI.2.2 c (by omega))
          · rw [gNN, if_neg (by omega), hS.1 k c j (by omega)]; unfold eM; rw [gNN, if_neg (by omega), gNN, if_neg (by omega)]
          · rw [gIN, hS.2.1 k c j (by omega)]; rfl
          · rw [gJN, hS.2.2 k c j]; rfl
      · simp only [gNN, gNI, gNJ, gIN, gII, gIJ, gJN, gJI, gJJ, and_self, if_true]; omega
      · have hR := hRI.2 m hm6
        by_cases e : m = gN N 40 0 0
        · subst e
          obtain ⟨r1, r2, r3, r4, r5⟩ := hR
          unfold RIm
          simp only [gNN, gNI, gNJ, gIN, gII, gIJ, gJN, gJI, gJJ, Nat.reduceEqDiff, false_and, and_false, true_and, and_true, and_self, if_false, if_true]
          exact ⟨by omega, by omega, r3, r4, fun k hk => absurd hk (by omega)⟩
        · obtain ⟨r1, r2, r3, r4, r5⟩ := hR
          unfold RIm
          simp only [gNN, gNI, gNJ, gIN, gII, gIJ, gJN, gJI, gJJ, Nat.reduceEqDiff, false_and, and_false, true_and, and_true, if_false, e]
          exact ⟨r1, r2, r3, r4, r5⟩
      · simp only [gNN, gNI, gNJ, gIN, gII, gIJ, gJN, gJI, gJJ, and_self, if_true]; omega
      · obtain ⟨p1, p2, p3, p4⟩ := hP c hc6
        have g1 : ∀ k j, 11 ≤ k → k ≤ 18 → gN (sN X 1 0 1 (gN M 1 0 1 + 1)) k c j = gN M k c j := fun k j q1 q2 => by
          rw [gNN, if_neg (by omega), hS.1 k c j (by omega)]; unfold eM; rw [gNN, if_neg (by omega), gNN, if_neg (by omega)]
        have g2 : ∀ j, gI (sN X 1 0 1 (gN M 1 0 1 + 1)) 18 c j = gI M 18 c j := fun j => by rw [gIN, hS.2.1 18 c j (by omega)]; rfl
        have g3 : ∀ j, gJ (sN X 1 0 1 (gN M 1 0 1 + 1)) 14 c j = gJ M 14 c j := fun j => by rw [gJN, hS.2.2 14 c j]; rfl
        have s4 : gN (sN X 1 0 1 (gN M 1 0 1 + 1)) 10 c 4 = if c = gN M 1 0 1 then 0 else gN M 10 c 4 := by
          rw [gNN, if_neg (by omega), hS.1 10 c 4 (by omega)]; unfold eM
          simp only [gNN, gNI, gNJ, gIN, gII, gIJ, gJN, gJI, gJJ, Nat.reduceEqDiff, and_false, true_and, and_true, if_false]
        have s9 : gN (sN X 1 0 1 (gN M 1 0 1 + 1)) 10 c 9 = if c = gN M 1 0 1 then 0 else gN M 10 c 9 := by
          rw [gNN, if_neg (by omega), hS.1 10 c 9 (by omega)]; unfold eM
          simp only [gNN, gNI, gNJ, gIN, gII, gIJ, gJN, gJI, gJJ, Nat.reduceEqDiff, and_false, true_and, and_true, if_false]
        refine ⟨?_, ?_, fun k hk => ?_, fun j hj => ?_⟩
        · rw [s4]; simp only [gNN, gNI, gNJ, gIN, gII, gIJ, gJN, gJI, gJJ, Nat.reduceEqDiff, false_and, true_and, if_false, ← hc, p1]
        · rw [s9]; simp only [gNN, gNI, gNJ, gIN, gII, gIJ, gJN, gJI, gJJ, Nat.reduceEqDiff, false_and, true_and, if_false, ← hc, p2]
        · rw [g1 11 k (by omega) (by omega), g1 12 k (by omega) (by omega), g1 13 k (by omega) (by omega), g3]
          simp only [gNN, gNI, gNJ, gIN, gII, gIJ, gJN, gJI, gJJ, Nat.reduceEqDiff, false_and, if_false]
          exact p3 k hk
        · rw [g1 15 j (by omega) (by omega), g1 16 j (by omega) (by omega), g1 17 j (by omega) (by omega), g2]
          simp only [gNN, gNI, gNJ, gIN, gII, gIJ, gJN, gJI, gJJ, Nat.reduceEqDiff, false_and, if_false]
          exact p4 j hj
      · refine Tl_of hT ⟨fun j => ?_, fun j => ?_, fun j => ?_⟩ ⟨fun j q1 q2 => ?_, fun j => rfl, fun j => rfl⟩
        · rw [gNN, if_neg (by omega), hS.1 7 0 j (by omega)]; unfold eM; rw [gNN, if_neg (by omega), gNN, if_neg (by omega)]
        · rw [gIN, hS.2.1 7 0 j (by omega)]; rfl
        · rw [gJN, hS.2.2 7 0 j]; rfl
        · simp only [gNN, gNI, gNJ, gIN, gII, gIJ, gJN, gJI, gJJ, Nat.reduceEqDiff, false_and, true_and, if_false]; rw [if_neg (by omega)]
theorem OKI_of {n c a r s : Nat} {v : Int64} (hc : c < n) (hn : n ≤ 6) (ha : a ≤ 18) (hr : r ≤ 3) (hs : s ≤ 3) (hv : nfit a v = 1) : OKI n (nI c) (nI a) (nI r) (nI s) v := ⟨(isM_nI (by omega)).mpr hc, (isM_nI (by omega)).mpr (by omega), (isM_nI (by omega)).mpr (by omega), (isM_nI (by omega)).mpr (by omega), by rw [nI_toInt (by omega)]; exact hv⟩
theorem OKH_of {n c f t a : Nat} {k : Int32} (hc : c < n) (hn : n ≤ 6) (hf : f ≤ 40) (ht : t ≤ 40) (ha : a ≤ 40) (hk : k &&& (-511) = 0) : OKH n (nI c) (nI f) (nI t) (nI a) k := ⟨(isM_nI (by omega)).mpr hc, (isM_nI (by omega)).mpr (by omega), (isM_nI (by omega)).mpr (by omega), (isM_nI (by omega)).mpr (by omega), hk⟩
