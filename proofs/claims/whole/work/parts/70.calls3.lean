theorem ifc {α : Type} {P Q : Prop} [Decidable P] [Decidable Q] {a b b' : α} (h : P ↔ Q) (e : b = b') : (if P then a else b) = (if Q then a else b') := by
  by_cases hp : P
  · rw [if_pos hp, if_pos (h.mp hp)]
  · rw [if_neg hp, if_neg (fun q => hp (h.mpr q)), e]
theorem ite_le {P : Prop} [Decidable P] {a b n : Nat} (h1 : a ≤ n) (h2 : b ≤ n) : (if P then a else b) ≤ n := by split <;> assumption
theorem RIm_rIns {N : Mem} {m c a r s : Nat} {v : Int64} (h : RIm N m) (hz : gN N 41 0 c < 40) (ha : a ≤ 18) (hr : r ≤ 3) (hs : s ≤ 3) (hv : nOK a v) (hc : c < 6) (hm : m < 6) : RIm (rIns N c a r s v) m := by
  obtain ⟨r1, r2, r3, r4, r5⟩ := h
  unfold RIm
  simp only [rIns, gNN, gNI, gNJ, gIN, gII, gIJ, gJN, gJI, gJJ, Nat.reduceEqDiff, false_and, and_false, true_and, and_true, if_false]
  refine ⟨ite_le (by omega) r1, r2, fun k hk => ⟨ite_le ha (r3 k hk).1, ite_le hr (r3 k hk).2.1, ite_le hs (r3 k hk).2.2⟩, r4, fun k hk => ?_⟩
  by_cases e : m = c
  · subst e
    rw [if_pos rfl] at hk
    by_cases e2 : k = gN N 41 0 m
    · rw [if_pos (by omega), if_pos (by omega)]; exact hv
    · rw [if_neg (by omega), if_neg (by omega)]; exact r5 k (by omega)
  · rw [if_neg e] at hk
    rw [if_neg (by omega), if_neg (by omega)]; exact r5 k hk
theorem RIm_rHnd {N : Mem} {m c f t a : Nat} {k : Int32} (h : RIm N m) (hz : gN N 46 0 c < 4) (hf : f ≤ 40) (ht : t ≤ 40) (ha : a ≤ 40) (hc : c < 6) (hm : m < 6) : RIm (rHnd N c f t a k) m := by
  obtain ⟨r1, r2, r3, r4, r5⟩ := h
  unfold RIm
  simp only [rHnd, gNN, gNI, gNJ, gIN, gII, gIJ, gJN, gJI, gJJ, Nat.reduceEqDiff, false_and, and_false, true_and, and_true, if_false]
  exact ⟨r1, ite_le (by omega) r2, r3, fun h hh => ⟨ite_le hf (r4 h hh).1, ite_le ht (r4 h hh).2.1, ite_le ha (r4 h hh).2.2⟩, r5⟩
/-- INSTRUCTION -/
theorem cpl_instruction {M N M' N' : Mem} {ra rb : Option Value} {m a r s : Int32} {v : Int64} (h : CB M N)
    (hm : (∃ c a' r' s', c < gN M 1 0 1 ∧ m = nI c ∧ a' ≤ 18 ∧ a = nI a' ∧ r' ≤ 3 ∧ r = nI r' ∧ s' ≤ 3 ∧ s = nI s' ∧ nfit a' v = 1 ∧ ((gN M 10 c 4 = 40 ∧ some (.int (-3)) = ra ∧ M = M') ∨ (gN M 10 c 4 < 40 ∧ some (.int (nI (gN M 10 c 4))) = ra ∧ Sm (aIns M c a' r' s' v) M' c ∧ MkOK M' c))) ∨ (¬ OKI (gN M 1 0 1) m a r s v ∧ some (.int (-2)) = ra ∧ M = M'))
    (hn : (∃ c a' r' s', c < gN N 40 0 0 ∧ m = nI c ∧ a' ≤ 18 ∧ a = nI a' ∧ r' ≤ 3 ∧ r = nI r' ∧ s' ≤ 3 ∧ s = nI s' ∧ nfit a' v = 1 ∧ ((gN N 41 0 c = 40 ∧ some (.int (-3)) = rb ∧ N = N') ∨ (gN N 41 0 c < 40 ∧ some (.int (nI (gN N 41 0 c))) = rb ∧ rIns N c a' r' s' v = N'))) ∨ (¬ OKI (gN N 40 0 0) m a r s v ∧ some (.int (-2)) = rb ∧ N = N')) : ra = rb ∧ CB M' N' := by
  obtain ⟨⟨hPI, hRI, hcn, hP⟩, hT⟩ := h
  have hn6 := hPI.1
  rcases hm with ⟨c, a', r', s', hc, rfl, ha, rfl, hr, rfl, hs, rfl, hv, hm⟩ | ⟨hno, rfl, rfl⟩
  · rcases hn with ⟨d, a2, r2, s2, hd, e1, ha2, e2, hr2, e3, hs2, e4, -, hn⟩ | ⟨hno, -⟩
    · obtain rfl : c = d := (nI_eq (by omega) (by omega)).mp e1
      obtain rfl : a' = a2 := (nI_eq (by omega) (by omega)).mp e2
      obtain rfl : r' = r2 := (nI_eq (by omega) (by omega)).mp e3
      obtain rfl : s' = s2 := (nI_eq (by omega) (by omega)).mp e4
      have hsz := (hP c (by omega)).1
      rcases hm with ⟨q, rfl, rfl⟩ | ⟨q, rfl, hS, hK⟩
      · rcases hn with ⟨w, rfl, rfl⟩ | ⟨w, rfl, rfl⟩
        · exact ⟨rfl, ⟨hPI, hRI, hcn, hP⟩, hT⟩
        · omega
      · rcases hn with ⟨w, rfl, rfl⟩ | ⟨w, rfl, rfl⟩
        · omega
        · have cM : gN M' 1 0 1 = gN M 1 0 1 := by rw [hS.1 1 0 1 (by omega)]; simp only [aIns, gNN, gNI, gNJ, gIN, gII, gIJ, gJN, gJI, gJJ, Nat.reduceEqDiff, false_and, if_false]
          have nv : nOK a' v := nOK_of hv
          refine ⟨by rw [hsz], ⟨⟨by omega, fun c' hc6 => CI_Sm hS (CI_aIns (hPI.2.1 c' hc6) q ha hr hs nv), fun c' hcc => ?_⟩, ⟨?_, fun m hm6 => ?_⟩, ?_, fun c' hc6 => ?_⟩, ?_⟩
          · by_cases e : c' = c
            · subst e; exact hK
            · refine MkOK_k (fun k j q1 q2 => ⟨?_, ?_, ?_⟩) (hPI.2.2 c' (by omega))
              · rw [hS.1 k c' j (by omega)]; simp only [aIns, gNN, gNI, gNJ, gIN, gII, gIJ, gJN, gJI, gJJ, e, false_and, and_false, if_false]
              · rw [hS.2.1 k c' j (by omega)]; rfl
              · rw [hS.2.2 k c' j]; simp only [aIns, gNN, gNI, gNJ, gIN, gII, gIJ, gJN, gJI, gJJ, e, false_and, and_false, if_false]
          · simp only [rIns, gNN, gNI, gNJ, gIN, gII, gIJ, gJN, gJI, gJJ, Nat.reduceEqDiff, false_and, if_false]; omega
          · exact RIm_rIns (hRI.2 m hm6) w ha hr hs nv (by omega) hm6
          · rw [cM]; simp only [rIns, gNN, gNI, gNJ, gIN, gII, gIJ, gJN, gJI, gJJ, Nat.reduceEqDiff, false_and, if_false]; exact hcn
          · obtain ⟨p1, p2, p3, p4⟩ := hP c' hc6
            refine ⟨?_, ?_, fun k hk => ?_, fun j hj => ?_⟩
            · rw [hS.1 10 c' 4 (by omega)]; simp only [aIns, rIns, gNN, gNI, gNJ, gIN, gII, gIJ, gJN, gJI, gJJ, Nat.reduceEqDiff, false_and, true_and, and_true, if_false]
              rw [p1, hsz]
            · rw [hS.1 10 c' 9 (by omega)]; simp only [aIns, rIns, gNN, gNI, gNJ, gIN, gII, gIJ, gJN, gJI, gJJ, Nat.reduceEqDiff, false_and, and_false, true_and, and_true, if_false]
              exact p2
            · obtain ⟨b1, b2, b3, b4⟩ := p3 k hk
              rw [hS.1 11 c' k (by omega), hS.1 12 c' k (by omega), hS.1 13 c' k (by omega), hS.2.2 14 c' k]
              simp only [aIns, rIns, gNN, gNI, gNJ, gIN, gII, gIJ, gJN, gJI, gJJ, Nat.reduceEqDiff, false_and, and_false, true_and, and_true, if_false]
              have e : (c' = c ∧ k = gN M 10 c 4) ↔ 40 * c' + k = 40 * c + gN N 41 0 c := by omega
              exact ⟨ifc e b1, ifc e b2, ifc e b3, ifc e b4⟩
            · rw [hS.1 15 c' j (by omega), hS.1 16 c' j (by omega), hS.1 17 c' j (by omega), hS.2.1 18 c' j (by omega)]
              simp only [aIns, rIns, gNN, gNI, gNJ, gIN, gII, gIJ, gJN, gJI, gJJ, Nat.reduceEqDiff, false_and, if_false]
              exact p4 j hj
          · refine Tl_of hT ⟨fun j => ?_, fun j => ?_, fun j => ?_⟩ ⟨fun j q1 q2 => ?_, fun j => rfl, fun j => ?_⟩
            · rw [hS.1 7 0 j (by omega)]; simp only [aIns, gNN, gNI, gNJ, gIN, gII, gIJ, gJN, gJI, gJJ, Nat.reduceEqDiff, false_and, if_false]
            · rw [hS.2.1 7 0 j (by omega)]; rfl
            · rw [hS.2.2 7 0 j]; simp only [aIns, gNN, gNI, gNJ, gIN, gII, gIJ, gJN, gJI, gJJ, Nat.reduceEqDiff, false_and, if_false]
            · simp only [rIns, gNN, gNI, gNJ, gIN, gII, gIJ, gJN, gJI, gJJ, Nat.reduceEqDiff, false_and, if_false]
            · simp only [rIns, gNN, gNI, gNJ, gIN, gII, gIJ, gJN, gJI, gJJ, Nat.reduceEqDiff, false_and, if_false]
    · exact absurd (OKI_of (by omega) (by omega) ha hr hs hv) hno
  · rcases hn with ⟨d, a2, r2, s2, hd, rfl, ha2, rfl, hr2, rfl, hs2, rfl, hv, -⟩ | ⟨-, rfl, rfl⟩
    · exact absurd (OKI_of (by omega) (by omega) ha2 hr2 hs2 hv) hno
    · exact ⟨rfl, ⟨hPI, hRI, hcn, hP⟩, hT⟩
/-- HANDLER -/
theorem cpl_handler {M N M' N' : Mem} {ra rb : Option Value} {m f t a k : Int32} (h : CB M N)
    (hm : (∃ c f' t' a', c < gN M 1 0 1 ∧ m = nI c ∧ f' ≤ 40 ∧ f = nI f' ∧ t' ≤ 40 ∧ t = nI t' ∧ a' ≤ 40 ∧ a = nI a' ∧ k &&& (-511) = 0 ∧ ((gN M 10 c 9 = 4 ∧ some (.int (-3)) = ra ∧ M = M') ∨ (gN M 10 c 9 < 4 ∧ some (.int (nI (gN M 10 c 9))) = ra ∧ Sm (aHnd M c f' t' a' k) M' c ∧ MkOK M' c))) ∨ (¬ OKH (gN M 1 0 1) m f t a k ∧ some (.int (-2)) = ra ∧ M = M'))
    (hn : (∃ c f' t' a', c < gN N 40 0 0 ∧ m = nI c ∧ f' ≤ 40 ∧ f = nI f' ∧ t' ≤ 40 ∧ t = nI t' ∧ a' ≤ 40 ∧ a = nI a' ∧ k &&& (-511) = 0 ∧ ((gN N 46 0 c = 4 ∧ some (.int (-3)) = rb ∧ N = N') ∨ (gN N 46 0 c < 4 ∧ some (.int (nI (gN N 46 0 c))) = rb ∧ rHnd N c f' t' a' k = N'))) ∨ (¬ OKH (gN N 40 0 0) m f t a k ∧ some (.int (-2)) = rb ∧ N = N')) : ra = rb ∧ CB M' N' := by
  obtain ⟨⟨hPI, hRI, hcn, hP⟩, hT⟩ := h
  have hn6 := hPI.1
  rcases hm with ⟨c, a', r', s', hc, rfl, ha, rfl, hr, rfl, hs, rfl, hv, hm⟩ | ⟨hno, rfl, rfl⟩
  · rcases hn with ⟨d, a2, r2, s2, hd, e1, ha2, e2, hr2, e3, hs2, e4, -, hn⟩ | ⟨hno, -⟩
    · obtain rfl : c = d := (nI_eq (by omega) (by omega)).mp e1
      obtain rfl : a' = a2 := (nI_eq (by omega) (by omega)).mp e2
      obtain rfl : r' = r2 := (nI_eq (by omega) (by omega)).mp e3
      obtain rfl : s' = s2 := (nI_eq (by omega) (by omega)).mp e4
      have hsz := (hP c (by omega)).2.1
      rcases hm with ⟨q, rfl, rfl⟩ | ⟨q, rfl, hS, hK⟩
      · rcases hn with ⟨w, rfl, rfl⟩ | ⟨w, rfl, rfl⟩
        · exact ⟨rfl, ⟨hPI, hRI, hcn, hP⟩, hT⟩
        · omega
      · rcases hn with ⟨w, rfl, rfl⟩ | ⟨w, rfl, rfl⟩
        · omega
        · have cM : gN M' 1 0 1 = gN M 1 0 1 := by rw [hS.1 1 0 1 (by omega)]; simp only [aHnd, gNN, gNI, gNJ, gIN, gII, gIJ, gJN, gJI, gJJ, Nat.reduceEqDiff, false_and, if_false]
          refine ⟨by rw [hsz], ⟨⟨by omega, fun c' hc6 => CI_Sm hS (CI_aHnd (hPI.2.1 c' hc6) q ha hr hs), fun c' hcc => ?_⟩, ⟨?_, fun m hm6 => ?_⟩, ?_, fun c' hc6 => ?_⟩, ?_⟩
          · by_cases e : c' = c
            · subst e; exact hK
            · refine MkOK_k (fun k j q1 q2 => ⟨?_, ?_, ?_⟩) (hPI.2.2 c' (by omega))
              · rw [hS.1 k c' j (by omega)]; simp only [aHnd, gNN, gNI, gNJ, gIN, gII, gIJ, gJN, gJI, gJJ, e, false_and, and_false, if_false]
              · rw [hS.2.1 k c' j (by omega)]; simp only [aHnd, gNN, gNI, gNJ, gIN, gII, gIJ, gJN, gJI, gJJ, e, false_and, and_false, if_false]
              · rw [hS.2.2 k c' j]; rfl
          · simp only [rHnd, gNN, gNI, gNJ, gIN, gII, gIJ, gJN, gJI, gJJ, Nat.reduceEqDiff, false_and, if_false]; omega
          · exact RIm_rHnd (hRI.2 m hm6) w ha hr hs (by omega) hm6
          · rw [cM]; simp only [rHnd, gNN, gNI, gNJ, gIN, gII, gIJ, gJN, gJI, gJJ, Nat.reduceEqDiff, false_and, if_false]; exact hcn
          · obtain ⟨p1, p2, p3, p4⟩ := hP c' hc6
            refine ⟨?_, ?_, fun k hk => ?_, fun j hj => ?_⟩
            · rw [hS.1 10 c' 4 (by omega)]; simp only [aHnd, rHnd, gNN, gNI, gNJ, gIN, gII, gIJ, gJN, gJI, gJJ, Nat.reduceEqDiff, false_and, and_false, true_and, and_true, if_false]
              exact p1
            · rw [hS.1 10 c' 9 (by omega)]; simp only [aHnd, rHnd, gNN, gNI, gNJ, gIN, gII, gIJ, gJN, gJI, gJJ, Nat.reduceEqDiff, false_and, true_and, and_true, if_false]
              rw [p2, hsz]
            · rw [hS.1 11 c' k (by omega), hS.1 12 c' k (by omega), hS.1 13 c' k (by omega), hS.2.2 14 c' k]
              simp only [aHnd, rHnd, gNN, gNI, gNJ, gIN, gII, gIJ, gJN, gJI, gJJ, Nat.reduceEqDiff, false_and, if_false]
              exact p3 k hk
            · obtain ⟨b1, b2, b3, b4⟩ := p4 j hj
              rw [hS.1 15 c' j (by omega), hS.1 16 c' j (by omega), hS.1 17 c' j (by omega), hS.2.1 18 c' j (by omega)]
              simp only [aHnd, rHnd, gNN, gNI, gNJ, gIN, gII, gIJ, gJN, gJI, gJJ, Nat.reduceEqDiff, false_and, and_false, true_and, and_true, if_false]
              have e : (c' = c ∧ j = gN M 10 c 9) ↔ 4 * c' + j = 4 * c + gN N 46 0 c := by omega
              exact ⟨ifc e b1, ifc e b2, ifc e b3, ifc e b4⟩
          · refine Tl_of hT ⟨fun j => ?_, fun j => ?_, fun j => ?_⟩ ⟨fun j q1 q2 => ?_, fun j => ?_, fun j => rfl⟩
            · rw [hS.1 7 0 j (by omega)]; simp only [aHnd, gNN, gNI, gNJ, gIN, gII, gIJ, gJN, gJI, gJJ, Nat.reduceEqDiff, false_and, if_false]
            · rw [hS.2.1 7 0 j (by omega)]; simp only [aHnd, gNN, gNI, gNJ, gIN, gII, gIJ, gJN, gJI, gJJ, Nat.reduceEqDiff, false_and, if_false]
            · rw [hS.2.2 7 0 j]; rfl
            · simp only [rHnd, gNN, gNI, gNJ, gIN, gII, gIJ, gJN, gJI, gJJ, Nat.reduceEqDiff, false_and, if_false]
            · simp only [rHnd, gNN, gNI, gNJ, gIN, gII, gIJ, gJN, gJI, gJJ, Nat.reduceEqDiff, false_and, if_false]
    · exact absurd (OKH_of (by omega) (by omega) ha hr hs hv) hno
  · rcases hn with ⟨d, a2, r2, s2, hd, rfl, ha2, rfl, hr2, rfl, hs2, rfl, hv, -⟩ | ⟨-, rfl, rfl⟩
    · exact absurd (OKH_of (by omega) (by omega) ha2 hr2 hs2 hv) hno
    · exact ⟨rfl, ⟨hPI, hRI, hcn, hP⟩, hT⟩
theorem cpl_clear {M N : Mem} (h : CB M N) : CB (sN M 1 0 1 0) (sN N 40 0 0 0) := by
  obtain ⟨⟨hPI, hRI, hcn, hP⟩, hT⟩ := h
  refine ⟨⟨⟨?_, fun c hc => CI_of (fun k j q1 q2 => by rw [gNN, if_neg (by omega)]) (fun j => rfl) (hPI.2.1 c hc), fun c hc => ?_⟩, ⟨?_, fun m hm => RIm_k (fun k j q1 q2 => by rw [gNN, if_neg (by omega)]) (fun j => rfl) (hRI.2 m hm)⟩, ?_, fun c hc => ?_⟩, Tl_of hT ⟨fun j => ?_, fun j => rfl, fun j => rfl⟩ ⟨fun j q1 q2 => ?_, fun j => rfl, fun j => rfl⟩⟩
  · simp [gNN, gNI, gNJ, gIN, gII, gIJ, gJN, gJI, gJJ]
  · simp [gNN, gNI, gNJ, gIN, gII, gIJ, gJN, gJI, gJJ] at hc
  · simp [gNN, gNI, gNJ, gIN, gII, gIJ, gJN, gJI, gJJ]
  · simp [gNN, gNI, gNJ, gIN, gII, gIJ, gJN, gJI, gJJ]
  · obtain ⟨p1, p2, p3, p4⟩ := hP c hc
    unfold Pc
    simp only [gNN, gNI, gNJ, gIN, gII, gIJ, gJN, gJI, gJJ, Nat.reduceEqDiff, false_and, if_false]
    exact ⟨p1, p2, p3, p4⟩
  · rw [gNN, if_neg (by omega)]
  · rw [gNN, if_neg (by omega)]
theorem cpl_SmR {M N N' : Mem} (h : CB M N) (hs : SmR N N') : CB M N' := by
  obtain ⟨⟨hPI, hRI, hcn, hP⟩, hT⟩ := h
  have e0 : gN N' 40 0 0 = gN N 40 0 0 := hs.1 40 0 0 (by decide) (by decide) (by omega)
  refine ⟨⟨hPI, ⟨by rw [e0]; exact hRI.1, fun m hm => RIm_SmR hs (hRI.2 m hm)⟩, by rw [e0]; exact hcn, fun c hc => ?_⟩, Tl_of hT ⟨fun _ => rfl, fun _ => rfl, fun _ => rfl⟩ ⟨fun j q1 q2 => hs.1 40 0 j (by decide) (by decide) (by omega), fun j => hs.2.1 40 0 j (by decide), fun j => by rw [hs.2.2]⟩⟩
  obtain ⟨p1, p2, p3, p4⟩ := hP c hc
  have e : ∀ k j, 41 ≤ k → k ≤ 50 → gN N' k 0 j = gN N k 0 j := fun k j q1 q2 => hs.1 k 0 j (by omega) (by omega) (by omega)
  refine ⟨by rw [e 41 _ (by decide) (by decide)]; exact p1, by rw [e 46 _ (by decide) (by decide)]; exact p2, fun k hk => ?_, fun j hj => ?_⟩
  · rw [e 42 _ (by decide) (by decide), e 43 _ (by decide) (by decide), e 44 _ (by decide) (by decide), hs.2.2]
    exact p3 k hk
  · rw [e 47 _ (by decide) (by decide), e 48 _ (by decide) (by decide), e 49 _ (by decide) (by decide), hs.2.1 50 0 _ (by decide)]
    exact p4 j hj
/-- the entries are the only ones -/
theorem need_eq (ac : Nat → Nat) (nu : Nat → Int64) (n : Nat) : 1 + n + need ac nu n = beg ac n + 2 * bks ac nu n := by
  induction n with
  | zero => rfl
  | succ n ih => show 1 + (n + 1) + (need ac nu n + mk1 ac n + 2 * bk1 ac nu n) = (beg ac n + 1 + mk1 ac n) + 2 * (bks ac nu n + bk1 ac nu n); omega
theorem beg_cover (ac : Nat → Nat) : ∀ (n j : Nat), j < beg ac n → j = 0 ∨ ∃ k, k < n ∧ (j = beg ac k + mk1 ac k ∨ (ac k = 8 ∧ j = beg ac k)) := by
  intro n
  induction n with
  | zero => intro j hj; exact Or.inl (by have : beg ac 0 = 1 := rfl; omega)
  | succ n ih =>
    intro j hj
    have e : beg ac (n + 1) = beg ac n + 1 + mk1 ac n := rfl
    by_cases h : j < beg ac n
    · rcases ih j h with h | ⟨k, h1, h2⟩
      · exact Or.inl h
      · exact Or.inr ⟨k, by omega, h2⟩
    · by_cases h8 : ac n = 8
      · have hm : mk1 ac n = 1 := if_pos h8
        by_cases e2 : j = beg ac n
        · exact Or.inr ⟨n, by omega, Or.inr ⟨h8, e2⟩⟩
        · exact Or.inr ⟨n, by omega, Or.inl (by omega)⟩
      · have hm : mk1 ac n = 0 := if_neg h8
        exact Or.inr ⟨n, by omega, Or.inl (by omega)⟩
theorem bks_cover (ac : Nat → Nat) (nu : Nat → Int64) : ∀ (n j : Nat), j < 2 * bks ac nu n → ∃ k, k < n ∧ bk ac nu k ∧ (j = 2 * bks ac nu k ∨ j = 2 * bks ac nu k + 1) := by
  intro n
  induction n with
  | zero => intro j hj; have : bks ac nu 0 = 0 := rfl; omega
  | succ n ih =>
    intro j hj
    have e : bks ac nu (n + 1) = bks ac nu n + bk1 ac nu n := rfl
    by_cases h : j < 2 * bks ac nu n
    · obtain ⟨k, h1, h2⟩ := ih j h
      exact ⟨k, by omega, h2⟩
    · by_cases hb : bk ac nu n
      · rw [bk1_t hb] at e
        exact ⟨n, by omega, hb, by omega⟩
      · rw [bk1_f hb] at e
        omega
theorem Ent_u {ac fs av S Nn S' Nn' : Nat → Nat} {nu : Nat → Int64} {Gg Gg' : Nat → Int32} {n hn : Nat} (h : EntOK ac fs nu av n hn S Nn Gg) (h' : EntOK ac fs nu av n hn S' Nn' Gg') {j : Nat} (hj : j < tot ac nu n hn) : S j = S' j ∧ Nn j = Nn' j ∧ Gg j = Gg' j := by
  obtain ⟨a1, a2, a3, a4, a5⟩ := h
  obtain ⟨b1, b2, b3, b4, b5⟩ := h'
  have ht := need_eq ac nu n
  unfold tot at hj
  have ld : ∀ e b, LdE S Nn Gg e b → LdE S' Nn' Gg' e b → (j = e ∨ j = e + 1) → S j = S' j ∧ Nn j = Nn' j ∧ Gg j = Gg' j := by
    intro e b h1 h2 hje
    obtain ⟨x1, x2, x3, x4, x5, x6⟩ := h1
    obtain ⟨y1, y2, y3, y4, y5, y6⟩ := h2
    rcases hje with rfl | rfl
    · exact ⟨by rw [x1, y1], by rw [x2, y2], by rw [x3, y3]⟩
    · exact ⟨by rw [x4, y4], by rw [x5, y5], by rw [x6, y6]⟩
  by_cases c1 : j < beg ac n
  · rcases beg_cover ac n j c1 with rfl | ⟨k, hk, rfl | ⟨h8, rfl⟩⟩
    · exact ⟨by rw [a1.1, b1.1], by rw [a1.2.1, b1.2.1], by rw [a1.2.2, b1.2.2]⟩
    · obtain ⟨p1, p2, p3⟩ := a2 k hk
      obtain ⟨q1, q2, q3⟩ := b2 k hk
      exact ⟨by rw [p1.2.1, q1.2.1], by rw [p1.2.2, q1.2.2], by rw [p3, q3]⟩
    · obtain ⟨p1, p2, p3⟩ := a2 k hk
      obtain ⟨q1, q2, q3⟩ := b2 k hk
      exact ⟨by rw [(p1.1 h8).1, (q1.1 h8).1], by rw [(p1.1 h8).2, (q1.1 h8).2], by rw [p2 h8, q2 h8]⟩
  · by_cases c2 : j = beg ac n
    · subst c2
      exact ⟨by rw [a3.1, b3.1], by rw [a3.2.1, b3.2.1], by rw [a3.2.2, b3.2.2]⟩
    · by_cases c3 : j < beg ac n + 1 + 2 * bks ac nu n
      · obtain ⟨k, hk, hb, he⟩ := bks_cover ac nu n (j - (beg ac n + 1)) (by omega)
        exact ld _ _ (a4 k hk hb) (b4 k hk hb) (by omega)
      · obtain ⟨i, hi⟩ : ∃ i, i = (j - (beg ac n + 1 + 2 * bks ac nu n)) / 2 := ⟨_, rfl⟩
        exact ld _ _ (a5 i (by omega)) (b5 i (by omega)) (by omega)
theorem jgo_c {ac ac' : Nat → Nat} {nu nu' : Nat → Int64} {n k : Nat} (h : ∀ k, k < n → ac k = ac' k) (h2 : ∀ k, k < n → nu k = nu' k) (hk : k < n) : jgo ac nu n k = jgo ac' nu' n k := by
  unfold jgo tgt
  rw [h k hk, h2 k hk, beg_c n h, bks_c k (fun i hi => h i (by omega)) (fun i hi => h2 i (by omega)), beg_c (min (nu' k).toInt.toNat n) (fun i hi => h i (by omega))]
theorem Ent_c {ac ac' fs fs' av av' S Nn : Nat → Nat} {nu nu' : Nat → Int64} {Gg : Nat → Int32} {n hn : Nat} (h1 : ∀ k, k < n → ac k = ac' k) (h2 : ∀ k, k < n → nu k = nu' k) (h3 : ∀ k, k < n → fs k = fs' k) (h4 : ∀ k, k < hn → av k = av' k) (h : EntOK ac fs nu av n hn S Nn Gg) : EntOK ac' fs' nu' av' n hn S Nn Gg := by
  obtain ⟨a1, a2, a3, a4, a5⟩ := h
  have eb : ∀ k, k ≤ n → beg ac k = beg ac' k := fun k hk => beg_c k (fun i hi => h1 i (by omega))
  have ek : ∀ k, k ≤ n → bks ac nu k = bks ac' nu' k := fun k hk => bks_c k (fun i hi => h1 i (by omega)) (fun i hi => h2 i (by omega))
  refine ⟨a1, fun k hk => ?_, by rw [← eb n (by omega)]; exact a3, fun k hk hb => ?_, fun j hj => ?_⟩
  · obtain ⟨p1, p2, p3⟩ := a2 k hk
    unfold PlE at p1 ⊢
    rw [← eb k (by omega), ← mk1_c (h1 k hk), ← jgo_c h1 h2 hk, ← h1 k hk, ← h3 k hk]
    exact ⟨p1, p2, p3⟩
  · have hb' : bk ac nu k := by unfold bk at hb ⊢; rw [h1 k hk, h2 k hk]; exact hb
    have := a4 k hk hb'
    unfold tgt at this ⊢
    rw [← eb n (by omega), ← ek k (by omega), ← eb _ (by omega), ← h2 k hk]
    exact this
  · have := a5 j hj
    rw [← eb n (by omega), ← ek n (by omega), ← eb _ (by omega), ← h4 j hj]
    exact this
/-- ENTRY -/
theorem cpl_entry {M N M' N' : Mem} {ra rb : Option Value} {m i x : Int32} (h : CB M N)
    (hm : M = M' ∧ ((∃ c w, c < gN M 1 0 1 ∧ m = nI c ∧ w ≤ 2 ∧ x = nI w ∧ ((70 < totV M c ∧ some (.int (-4)) = ra) ∨ (¬ 70 < totV M c ∧ ((∃ j, j < totV M c ∧ i = nI j ∧ some (.int (ent M c w j)) = ra) ∨ (¬ isM (totV M c) i ∧ some (.int (-1)) = ra))))) ∨ (¬ (isM (gN M 1 0 1) m ∧ isM 3 x) ∧ some (.int (-2)) = ra)))
    (hn : (∃ c w, c < gN N 40 0 0 ∧ m = nI c ∧ w ≤ 2 ∧ x = nI w ∧ ((70 < totR N c ∧ some (.int (-4)) = rb ∧ N = N') ∨ (¬ 70 < totR N c ∧ RP2 N N' c (gN N 41 0 c) (gN N 46 0 c) ∧ ((∃ j, j < totR N c ∧ i = nI j ∧ some (.int (entR N' w j)) = rb) ∨ (¬ isM (totR N c) i ∧ some (.int (-1)) = rb))))) ∨ (¬ (isM (gN N 40 0 0) m ∧ isM 3 x) ∧ some (.int (-2)) = rb ∧ N = N')) : ra = rb ∧ CB M' N' := by
  have hB := h
  obtain ⟨⟨hPI, hRI, hcn, hP⟩, hT⟩ := h
  have hPg : Pg M N := ⟨hPI, hRI, hcn, hP⟩
  have hn6 := hPI.1
  obtain ⟨rfl, hm⟩ := hm
  rcases hm with ⟨c, w, hc, rfl, hw, rfl, hm⟩ | ⟨hno, rfl⟩
  · have htt := hPg.tt (c := c) (by omega)
    rcases hn with ⟨d, w2, hd, e1, hw2, e2, hn⟩ | ⟨hno, -⟩
    · obtain rfl : c = d := (nI_eq (by omega) (by omega)).mp e1
      obtain rfl : w = w2 := (nI_eq (by omega) (by omega)).mp e2
      rcases hm with ⟨q, rfl⟩ | ⟨q, hm⟩
      · rcases hn with ⟨-, rfl, rfl⟩ | ⟨z, -⟩
        · exact ⟨rfl, hB⟩
        · omega
      · rcases hn with ⟨z, -⟩ | ⟨z, hR, hn⟩
        · omega
        · refine ⟨?_, cpl_SmR hB hR.1⟩
          rcases hm with ⟨j, hj, rfl, rfl⟩ | ⟨hj, rfl⟩
          · rcases hn with ⟨j2, hj2, e3, rfl⟩ | ⟨hj2, rfl⟩
            · obtain rfl : j = j2 := (nI_eq (by omega) (by omega)).mp e3
              have hmk := hPI.2.2 c hc
              rcases hmk with ⟨b, -⟩ | ⟨-, -, -, -, hE, -⟩
              · exact absurd b q
              · obtain ⟨ac1, ac2⟩ := hPg.ac (c := c) (by omega)
                obtain ⟨s1, s2, s3, s4⟩ := hPg.sz (c := c) (by omega)
                rw [s1, s2] at hE
                have hE2 := Ent_c (ac' := rac N c) (fs' := rfs N c) (nu' := rnu N c) (av' := rav N c) ac1 ac2 (fun k hk => ((hP c (by omega)).2.2.1 k (by omega)).2.1) (fun k hk => ((hP c (by omega)).2.2.2 k (by omega)).2.2.1) hE
                obtain ⟨u1, u2, u3⟩ := Ent_u hE2 hR.ent.2 (j := j) hj2
                unfold ent entR
                rw [u1, u2, u3]
            · exact absurd ((isM_nI (by omega)).mpr (by omega)) hj2
          · rcases hn with ⟨j2, hj2, rfl, rfl⟩ | ⟨hj2, rfl⟩
            · exact absurd ((isM_nI (by omega)).mpr (by omega)) hj
            · rfl
    · exact absurd ⟨(isM_nI (by omega)).mpr (by omega), (isM_nI (by omega)).mpr (by omega)⟩ hno
  · rcases hn with ⟨d, w2, hd, rfl, hw2, rfl, -⟩ | ⟨-, rfl, rfl⟩
    · exact absurd ⟨(isM_nI (by omega)).mpr (by omega), (isM_nI (by omega)).mpr (by omega)⟩ hno
    · exact ⟨rfl, hB⟩
/-- ENTRIES -/
theorem cpl_entries {M N M' N' : Mem} {ra rb : Option Value} {m : Int32} (h : CB M N)
    (hm : M = M' ∧ ((∃ c, c < gN M 1 0 1 ∧ m = nI c ∧ some (.int (if 70 < totV M c then -4 else nI (totV M c))) = ra) ∨ (¬ isM (gN M 1 0 1) m ∧ some (.int (-2)) = ra)))
    (hn : N = N' ∧ ((∃ c, c < gN N 40 0 0 ∧ m = nI c ∧ some (.int (if 70 < totR N c then -4 else nI (totR N c))) = rb) ∨ (¬ isM (gN N 40 0 0) m ∧ some (.int (-2)) = rb))) : ra = rb ∧ CB M' N' := by
  have hn6 := h.1.1.1
  have hcn := h.1.2.2.1
  obtain ⟨rfl, hm⟩ := hm
  obtain ⟨rfl, hn⟩ := hn
  refine ⟨?_, h⟩
  rcases hm with ⟨c, hc, rfl, rfl⟩ | ⟨hno, rfl⟩
  · rcases hn with ⟨d, hd, e1, rfl⟩ | ⟨hno, rfl⟩
    · obtain rfl : c = d := (nI_eq (by omega) (by omega)).mp e1
      rw [h.1.tt (c := c) (by omega)]
    · exact absurd ((isM_nI (by omega)).mpr (by omega)) hno
  · rcases hn with ⟨d, hd, rfl, rfl⟩ | ⟨-, rfl⟩
    · exact absurd ((isM_nI (by omega)).mpr (by omega)) hno
    · rfl
/-- ABOUT -/
theorem cpl_about {M N M' N' : Mem} {ra rb : Option Value} {m x : Int32} (h : CB M N)
    (hm : M = M' ∧ ((∃ c w, c < gN M 1 0 1 ∧ m = nI c ∧ w ≤ 2 ∧ x = nI w ∧ some (.int (abt M c w)) = ra) ∨ (¬ (isM (gN M 1 0 1) m ∧ isM 3 x) ∧ some (.int (-2)) = ra)))
    (hn : N = N' ∧ ((∃ c w, c < gN N 40 0 0 ∧ m = nI c ∧ w ≤ 2 ∧ x = nI w ∧ some (.int (abR N c w)) = rb) ∨ (¬ (isM (gN N 40 0 0) m ∧ isM 3 x) ∧ some (.int (-2)) = rb))) : ra = rb ∧ CB M' N' := by
  have hn6 := h.1.1.1
  have hcn := h.1.2.2.1
  obtain ⟨rfl, hm⟩ := hm
  obtain ⟨rfl, hn⟩ := hn
  refine ⟨?_, h⟩
  rcases hm with ⟨c, w, hc, rfl, hw, rfl, rfl⟩ | ⟨hno, rfl⟩
  · rcases hn with ⟨d, w2, hd, e1, hw2, e2, rfl⟩ | ⟨hno, rfl⟩
    · obtain rfl : c = d := (nI_eq (by omega) (by omega)).mp e1
      obtain rfl : w = w2 := (nI_eq (by omega) (by omega)).mp e2
      obtain ⟨ac1, ac2⟩ := h.1.ac (c := c) (by omega)
      obtain ⟨s1, s2, s3, s4⟩ := h.1.sz (c := c) (by omega)
      have e := mks_mkc (gN M 11 c) (gJ M 14 c) (gN M 10 c 4)
      have e2 := mks_c (gN N 41 0 c) ac1 ac2
      unfold abt abR
      rw [h.1.tt (c := c) (by omega), s1, s2]
      rw [s1] at e
      rw [show 1 + mkc (gN M 11 c) (gN N 41 0 c) + bks (gN M 11 c) (gJ M 14 c) (gN N 41 0 c) + gN N 46 0 c = 1 + gN N 46 0 c + mks (rac N c) (rnu N c) (gN N 41 0 c) by omega]
    · exact absurd ⟨(isM_nI (by omega)).mpr (by omega), (isM_nI (by omega)).mpr (by omega)⟩ hno
  · rcases hn with ⟨d, w2, hd, rfl, hw2, rfl, rfl⟩ | ⟨-, rfl⟩
    · exact absurd ⟨(isM_nI (by omega)).mpr (by omega), (isM_nI (by omega)).mpr (by omega)⟩ hno
    · rfl
/-- RUN, STEP -/
theorem cpl_run {M N M' N' : Mem} {ra rb : Option Value} {m q : Int32} {x : Int64} (h : CB M N)
    (hm : (¬ (isM (gN M 1 0 1) m ∧ isM 201 q) ∧ some (.int (-2)) = ra ∧ M = M') ∨ (∃ c b, c < gN M 1 0 1 ∧ m = nI c ∧ b ≤ 200 ∧ q = nI b ∧ ((70 < totV M c ∧ some (.int (-4)) = ra ∧ M = M') ∨ (¬ 70 < totV M c ∧ ∃ N', RunsP N c b x ra N' ∧ CB M' N'))))
    (hn : (∃ c b, c < gN N 40 0 0 ∧ m = nI c ∧ b ≤ 200 ∧ q = nI b ∧ ((70 < totR N c ∧ some (.int (-4)) = rb ∧ N = N') ∨ (¬ 70 < totR N c ∧ RunsP N c b x rb N'))) ∨ (¬ (isM (gN N 40 0 0) m ∧ isM 201 q) ∧ some (.int (-2)) = rb ∧ N = N')) : ra = rb ∧ CB M' N' := by
  have hn6 := h.1.1.1
  have hcn := h.1.2.2.1
  rcases hm with ⟨hno, rfl, rfl⟩ | ⟨c, b, hc, rfl, hb, rfl, hm⟩
  · rcases hn with ⟨d, b2, hd, rfl, hb2, rfl, -⟩ | ⟨-, rfl, rfl⟩
    · exact absurd ⟨(isM_nI (by omega)).mpr (by omega), (isM_nI (by omega)).mpr (by omega)⟩ hno
    · exact ⟨rfl, h⟩
  · have htt := h.1.tt (c := c) (by omega)
    rcases hn with ⟨d, b2, hd, e1, hb2, e2, hn⟩ | ⟨hno, -⟩
    · obtain rfl : c = d := (nI_eq (by omega) (by omega)).mp e1
      obtain rfl : b = b2 := (nI_eq (by omega) (by omega)).mp e2
      rcases hm with ⟨z, rfl, rfl⟩ | ⟨z, N2, hR, hC⟩
      · rcases hn with ⟨-, rfl, rfl⟩ | ⟨z2, -⟩
        · exact ⟨rfl, h⟩
        · omega
      · rcases hn with ⟨z2, -⟩ | ⟨-, hR2⟩
        · omega
        · obtain ⟨rfl, rfl⟩ := RunsP_u h.1.2.1 hb hR hR2
          exact ⟨rfl, hC⟩
    · exact absurd ⟨(isM_nI (by omega)).mpr (by omega), (isM_nI (by omega)).mpr (by omega)⟩ hno
theorem cpl_told {M N : Mem} {x : Int32} (h : CB M N) : tel (nI (gN M 7 0 1)) (nI (gN M 7 0 2)) (gI M 7 0 3) (nI (gN M 7 0 4)) (nI (gN M 7 0 5)) (nI (gN M 7 0 6)) (gI M 7 0 7) (nI (gN M 7 0 8)) x = tel (nI (gN N 40 0 29)) (nI (gN N 40 0 26)) (gI N 40 0 27) (nI (gN N 40 0 30)) (nI (gN N 40 0 31)) (nI (gN N 40 0 32)) (gI N 40 0 34) (nI (gN N 40 0 35)) x := by
  obtain ⟨a1, a2, a3, a4, a5, a6, a7, a8, a9⟩ := h.2
  rw [a1, a2, a3, a4, a5, a6, a7, a8]
theorem CB_start : CB M0 N0 := by
  have z : ∀ k i j, gN M0 k i j = 0 := fun _ _ _ => rfl
  have zn : ∀ k i j, gN N0 k i j = 0 := fun _ _ _ => rfl
  refine ⟨⟨⟨by rw [z]; omega, fun c hc => ?_, fun c hc => absurd hc (by rw [z]; omega)⟩, ⟨by rw [zn]; omega, fun m hm => ?_⟩, rfl, fun c hc => ?_⟩, ?_⟩
  · unfold CI
    simp only [z]
    exact ⟨by omega, by omega, fun _ _ => by omega, fun _ _ => by omega, fun k hk => absurd hk (by omega)⟩
  · unfold RIm
    simp only [zn]
    exact ⟨by omega, by omega, fun _ _ => by omega, fun _ _ => by omega, fun k hk => absurd hk (by omega)⟩
  · exact ⟨rfl, rfl, fun k hk => ⟨rfl, rfl, rfl, rfl⟩, fun j hj => ⟨rfl, rfl, rfl, rfl⟩⟩
  · exact ⟨rfl, rfl, rfl, rfl, rfl, rfl, rfl, rfl, rfl⟩
