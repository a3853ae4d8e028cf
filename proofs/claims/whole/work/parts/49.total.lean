/-! the reference's turns: each comes to an end -/
theorem RTake_ex {N : Mem} {f h : Nat} (ht : gN N 40 0 31 ≤ 30) : ∃ N', RTake N f h N' := by
  by_cases h1 : gN N 40 0 31 = 30
  · exact ⟨_, Or.inl ⟨h1, rfl⟩⟩
  · by_cases h2 : okC N 1
    · exact ⟨_, Or.inr ⟨by omega, Or.inr ⟨h2, rfl⟩⟩⟩
    · exact ⟨_, Or.inr ⟨by omega, Or.inl ⟨h2, rfl⟩⟩⟩
theorem least {P : Nat → Prop} (n : Nat) : (∃ h, h < n ∧ P h ∧ ∀ h', h' < h → ¬ P h') ∨ (∀ h, h < n → ¬ P h) := by
  induction n with
  | zero => exact Or.inr (fun h hh => absurd hh (by omega))
  | succ n ih =>
    rcases ih with ⟨h, a, b, c⟩ | ih
    · exact Or.inl ⟨h, by omega, b, c⟩
    · by_cases hp : P n
      · exact Or.inl ⟨n, by omega, hp, ih⟩
      · refine Or.inr (fun h hh => ?_)
        by_cases e : h = n
        · subst e; exact hp
        · exact ih h (by omega)
theorem RFailP_ex {k : Nat} : ∀ (d : Nat) (N : Mem), gN N 40 0 31 ≤ 30 → ∃ N', RFailP k d N N' := by
  intro d
  induction d with
  | zero => intro N _; exact ⟨_, rfl⟩
  | succ d ih =>
    intro N ht
    rcases least (P := selR N (gN N 51 0 d) (gN N 52 0 d) k) (gN N 46 0 (gN N 51 0 d)) with ⟨h, a, b, c⟩ | hno
    · obtain ⟨N', hN⟩ := RTake_ex (f := d) (h := 4 * gN N 51 0 d + h) ht
      exact ⟨N', Or.inl ⟨h, a, b, c, hN⟩⟩
    · obtain ⟨N', hN⟩ := ih (rLeave N) (by rw [rl_N _ _ _ (by omega)]; exact ht)
      exact ⟨N', Or.inr ⟨hno, hN⟩⟩
theorem RFAIL_ex {N : Mem} {k : Nat} {n : Int32} (ht : gN N 40 0 31 ≤ 30) : ∃ N', RFAIL N k n N' := RFailP_ex _ _ (by simpa [gNN, gNI, gNJ, gIN, gII, gIJ, gJN, gJI, gJJ] using ht)
theorem REnter_ex {N : Mem} {c : Nat} {x : Int64} (hd : gN N 40 0 11 ≤ 12) : ∃ N', REnter N c x N' := by
  by_cases h1 : ¬ c < gN N 40 0 0 ∨ 70 < totR N c ∨ gN N 40 0 11 = 12
  · exact ⟨_, Or.inl ⟨h1, rfl⟩⟩
  · by_cases h2 : okC N 1
    · exact ⟨_, Or.inr ⟨by omega, by omega, by omega, Or.inr ⟨h2, rfl⟩⟩⟩
    · exact ⟨_, Or.inr ⟨by omega, by omega, by omega, Or.inl ⟨h2, rfl⟩⟩⟩
theorem RGive_ex {N : Mem} {v : Int64} (hd : 1 ≤ gN N 40 0 11) : ∃ N', RGive N v N' := by
  by_cases h1 : gN N 40 0 11 = 1
  · exact ⟨_, Or.inl ⟨h1, rfl⟩⟩
  · exact ⟨_, Or.inr ⟨gN N 40 0 11 - 2, by omega, rfl⟩⟩
theorem RJmp_ex {N : Mem} {f t : Nat} : ∃ N', RJmp N f t N' := by
  by_cases h1 : t ≤ gN N 52 0 f
  · by_cases h2 : okC N 1
    · exact ⟨_, Or.inr (Or.inl ⟨h1, h2, rfl⟩)⟩
    · exact ⟨_, Or.inl ⟨h1, h2, rfl⟩⟩
  · exact ⟨_, Or.inr (Or.inr ⟨h1, rfl⟩)⟩
theorem RDiv_ex {N : Mem} {f r s o : Nat} (ht : gN N 40 0 31 ≤ 30) : ∃ N', RDiv N f r s o N' := by
  by_cases h1 : gJ N 53 0 s = lN 0
  · obtain ⟨N', h⟩ := RFAIL_ex (k := 6) (n := nI 0) ht
    exact ⟨N', Or.inl ⟨h1, h⟩⟩
  · exact ⟨_, Or.inr ⟨h1, rfl⟩⟩
theorem RMake_ex {N : Mem} {f : Nat} {a : Int64} {x : Int32} (ht : gN N 40 0 31 ≤ 30) (ha : a.toInt ≤ 200) : ∃ N', RMake N f a x N' := by
  by_cases h1 : a.toInt < 0
  · obtain ⟨N', h⟩ := RFAIL_ex (k := 3) (n := nI 0) ht
    exact ⟨N', Or.inl ⟨h1, h⟩⟩
  · obtain ⟨k, hk, e⟩ := isL_of (n := 201) (x := a) ⟨by omega, by omega⟩ (by decide)
    exact ⟨_, Or.inr ⟨k, by omega, e, rfl⟩⟩
theorem RRows_ex {N : Mem} {f a r s : Nat} {x : Int32} (ht : gN N 40 0 31 ≤ 30) (ha : 8 ≤ a ∧ a ≤ 12) (hz : a = 8 → (gJ N 53 0 r).toInt ≤ 200) (hb : ¬ gI N 54 0 f = -1 → gN N 56 0 f < 2 ^ 31) : ∃ N', RRows N f a r s x N' := by
  unfold RRows
  by_cases e8 : a = 8
  · obtain ⟨N', h⟩ := RMake_ex (f := f) (x := x) ht (hz e8)
    exact ⟨N', Or.inl ⟨e8, h⟩⟩
  by_cases e11 : a = 11
  · by_cases hi : isR N f x
    · exact ⟨_, Or.inr (Or.inl ⟨e11, Or.inl ⟨hi, rfl⟩⟩)⟩
    · obtain ⟨N', h⟩ := RFAIL_ex (k := 5) (n := nI 0) ht
      exact ⟨N', Or.inr (Or.inl ⟨e11, Or.inr ⟨hi, h⟩⟩)⟩
  by_cases hl : gI N 54 0 f = -1
  · obtain ⟨N', h⟩ := RFAIL_ex (k := 1) (n := nI 0) ht
    exact ⟨N', Or.inr (Or.inr (Or.inl ⟨by omega, hl, h⟩))⟩
  by_cases e12 : a = 12
  · exact ⟨_, Or.inr (Or.inr (Or.inr (Or.inl ⟨e12, hl, rfl⟩)))⟩
  by_cases hi : isL (gN N 56 0 f) (gJ N 53 0 s)
  · obtain ⟨k, hk, e⟩ := isL_of hi (hb hl)
    by_cases e9 : a = 9
    · exact ⟨_, Or.inr (Or.inr (Or.inr (Or.inr (Or.inr (Or.inl ⟨e9, hl, k, hk, e, rfl⟩)))))⟩
    · by_cases h6 : gI N 54 0 f = nI 6 ∧ gJ N 53 0 r &&& lN 1 = lN 0
      · obtain ⟨N', h⟩ := RFAIL_ex (k := 4) (n := nI 0) ht
        exact ⟨N', Or.inr (Or.inr (Or.inr (Or.inr (Or.inr (Or.inr ⟨by omega, hl, k, hk, e, Or.inl ⟨h6.1, h6.2, h⟩⟩)))))⟩
      · exact ⟨_, Or.inr (Or.inr (Or.inr (Or.inr (Or.inr (Or.inr ⟨by omega, hl, k, hk, e, Or.inr ⟨h6, rfl⟩⟩)))))⟩
  · obtain ⟨N', h⟩ := RFAIL_ex (k := 2) (n := nI 0) ht
    exact ⟨N', Or.inr (Or.inr (Or.inr (Or.inr (Or.inl ⟨by omega, hl, hi, h⟩))))⟩
theorem RWork_ex {N : Mem} {f m p : Nat} (hm : RMI N (f + 1)) (hmm : gN N 51 0 f = m) (hp : p < gN N 41 0 m) (hz : rac N m p = 8 → (gJ N 53 0 (rR N f m p)).toInt ≤ 200) : ∃ N', RWork N f m p N' := by
  have hF := hm.2.2.2.2.1 f (by omega)
  have h6 : m < 6 := by have := hm.1.1; have := hF.1; omega
  have hI := hm.1.2 m h6
  have hd := hm.2.2.2.1
  have hd2 := hm.2.2.1
  have hsc := hm.2.2.2.2.2.2.2
  unfold Sca at hsc
  have ht : gN N 40 0 31 ≤ 30 := by omega
  have hr := hI.2.2.1 p (by have := hI.1; omega)
  have ho := hI.2.2.2.2 p hp
  have ha : rac N m p ≤ 18 := hr.1
  have ho2 : nOK (rac N m p) (rnu N m p) := ho
  obtain ⟨o1, o2, o3, o4⟩ := ho2
  unfold RWork
  by_cases e0 : rac N m p = 0
  · exact ⟨_, Or.inl ⟨e0, rfl⟩⟩
  by_cases e1 : rac N m p = 1
  · exact ⟨_, Or.inr (Or.inl ⟨e1, rfl⟩)⟩
  by_cases e2 : rac N m p = 2
  · exact ⟨_, Or.inr (Or.inr (Or.inl ⟨e2, rfl⟩))⟩
  by_cases e3 : rac N m p = 3
  · exact ⟨_, Or.inr (Or.inr (Or.inr (Or.inl ⟨e3, rfl⟩)))⟩
  by_cases e4 : rac N m p = 4
  · obtain ⟨N', h⟩ := RDiv_ex (f := f) (r := rR N f m p) (s := rS N f m p) (o := 1) ht
    exact ⟨N', Or.inr (Or.inr (Or.inr (Or.inr (Or.inl ⟨e4, h⟩))))⟩
  by_cases e5 : rac N m p = 5
  · obtain ⟨N', h⟩ := RDiv_ex (f := f) (r := rR N f m p) (s := rS N f m p) (o := 0) ht
    exact ⟨N', Or.inr (Or.inr (Or.inr (Or.inr (Or.inr (Or.inl ⟨e5, h⟩)))))⟩
  by_cases e6 : rac N m p = 6
  · obtain ⟨t, t1, t2⟩ := o1 (Or.inl e6)
    obtain ⟨N', h⟩ := RJmp_ex (N := N) (f := f) (t := t)
    exact ⟨N', Or.inr (Or.inr (Or.inr (Or.inr (Or.inr (Or.inr (Or.inl ⟨e6, t, t1, t2, h⟩))))))⟩
  by_cases e7 : rac N m p = 7
  · obtain ⟨t, t1, t2⟩ := o1 (Or.inr e7)
    by_cases hl : lN 0 < gJ N 53 0 (rR N f m p)
    · obtain ⟨N', h⟩ := RJmp_ex (N := N) (f := f) (t := t)
      exact ⟨N', Or.inr (Or.inr (Or.inr (Or.inr (Or.inr (Or.inr (Or.inr (Or.inl ⟨e7, Or.inl ⟨hl, t, t1, t2, h⟩⟩)))))))⟩
    · exact ⟨_, Or.inr (Or.inr (Or.inr (Or.inr (Or.inr (Or.inr (Or.inr (Or.inl ⟨e7, Or.inr ⟨hl, rfl⟩⟩)))))))⟩
  by_cases e13 : rac N m p = 13
  · obtain ⟨t, t1, t2⟩ := o3 e13
    obtain ⟨N', h⟩ := REnter_ex (N := N) (c := t) (x := gJ N 53 0 (rR N f m p)) (by omega)
    exact ⟨N', Or.inr (Or.inr (Or.inr (Or.inr (Or.inr (Or.inr (Or.inr (Or.inr (Or.inl ⟨e13, t, t1, t2, h⟩))))))))⟩
  by_cases e14 : rac N m p = 14
  · obtain ⟨N', h⟩ := RGive_ex (N := N) (v := gJ N 53 0 (rR N f m p)) (by omega)
    exact ⟨N', Or.inr (Or.inr (Or.inr (Or.inr (Or.inr (Or.inr (Or.inr (Or.inr (Or.inr (Or.inl ⟨e14, h⟩)))))))))⟩
  by_cases e15 : rac N m p = 15
  · obtain ⟨N', h⟩ := RFAIL_ex (k := 8) (n := (gJ N 53 0 (rR N f m p)).toInt32) ht
    exact ⟨N', Or.inr (Or.inr (Or.inr (Or.inr (Or.inr (Or.inr (Or.inr (Or.inr (Or.inr (Or.inr (Or.inl ⟨e15, h⟩))))))))))⟩
  by_cases e16 : rac N m p = 16
  · by_cases hk : gN N 57 0 f = 0
    · obtain ⟨N', h⟩ := RFAIL_ex (k := 7) (n := nI 0) ht
      exact ⟨N', Or.inr (Or.inr (Or.inr (Or.inr (Or.inr (Or.inr (Or.inr (Or.inr (Or.inr (Or.inr (Or.inr (Or.inl ⟨e16, Or.inl ⟨hk, h⟩⟩)))))))))))⟩
    · obtain ⟨N', h⟩ := RFAIL_ex (k := gN N 57 0 f) (n := gI N 58 0 f) ht
      exact ⟨N', Or.inr (Or.inr (Or.inr (Or.inr (Or.inr (Or.inr (Or.inr (Or.inr (Or.inr (Or.inr (Or.inr (Or.inl ⟨e16, Or.inr ⟨hk, h⟩⟩)))))))))))⟩
  by_cases e17 : rac N m p = 17
  · obtain ⟨t, t1, t2⟩ := o4 (Or.inl e17)
    exact ⟨_, Or.inr (Or.inr (Or.inr (Or.inr (Or.inr (Or.inr (Or.inr (Or.inr (Or.inr (Or.inr (Or.inr (Or.inr (Or.inl ⟨e17, t, t1, t2, rfl⟩))))))))))))⟩
  by_cases e18 : rac N m p = 18
  · obtain ⟨t, t1, t2⟩ := o4 (Or.inr e18)
    by_cases hk : gN N 59 0 (3 * f + t) = 0
    · obtain ⟨N', h⟩ := RFAIL_ex (k := 7) (n := nI 0) ht
      exact ⟨N', Or.inr (Or.inr (Or.inr (Or.inr (Or.inr (Or.inr (Or.inr (Or.inr (Or.inr (Or.inr (Or.inr (Or.inr (Or.inr (Or.inl ⟨e18, t, t1, t2, Or.inl ⟨hk, h⟩⟩)))))))))))))⟩
    · exact ⟨_, Or.inr (Or.inr (Or.inr (Or.inr (Or.inr (Or.inr (Or.inr (Or.inr (Or.inr (Or.inr (Or.inr (Or.inr (Or.inr (Or.inl ⟨e18, t, t1, t2, Or.inr ⟨hk, rfl⟩⟩)))))))))))))⟩
  obtain ⟨N', h⟩ := RRows_ex (N := N) (f := f) (a := rac N m p) (r := rR N f m p) (s := rS N f m p) (x := (rnu N m p).toInt32) ht (by omega) hz (fun q => by have := (hF.2.2.2.2.2 q).1; omega)
  exact ⟨N', Or.inr (Or.inr (Or.inr (Or.inr (Or.inr (Or.inr (Or.inr (Or.inr (Or.inr (Or.inr (Or.inr (Or.inr (Or.inr (Or.inr ⟨by omega, h⟩)))))))))))))⟩
theorem BegR_ex {N : Mem} {f : Nat} (hm : RMI N (f + 1)) (hz : gN N 52 0 f < gN N 41 0 (gN N 51 0 f) → rac N (gN N 51 0 f) (gN N 52 0 f) = 8 → (gJ N 53 0 (rR N f (gN N 51 0 f) (gN N 52 0 f))).toInt ≤ 200) : ∃ N', BegR N N' := by
  have hF := hm.2.2.2.2.1 f (by omega)
  have hd := hm.2.2.2.1
  have hsc := hm.2.2.2.2.2.2.2
  unfold Sca at hsc
  by_cases hb : gN N 40 0 35 = 2000
  · exact ⟨_, Or.inl ⟨hb, rfl⟩⟩
  have hm2 := RMI_begun hm (by omega)
  have hpl := hF.2.2.1
  unfold BegR WorkT
  rw [show gN N 40 0 11 - 1 = f by omega]
  by_cases hp : gN N 52 0 f < gN N 41 0 (gN N 51 0 f)
  · have e1 : gN (sN N 40 0 35 (gN N 40 0 35 + 1)) 51 0 f = gN N 51 0 f := by simp [gNN, gNI, gNJ, gIN, gII, gIJ, gJN, gJI, gJJ]
    have e2 : gN (sN N 40 0 35 (gN N 40 0 35 + 1)) 52 0 f = gN N 52 0 f := by simp [gNN, gNI, gNJ, gIN, gII, gIJ, gJN, gJI, gJJ]
    obtain ⟨N', h⟩ := RWork_ex (p := gN N 52 0 f) hm2 e1 (by simpa [gNN, gNI, gNJ, gIN, gII, gIJ, gJN, gJI, gJJ] using hp) (fun q => by
      have := hz hp (by simpa [rac, gNN, gNI, gNJ, gIN, gII, gIJ, gJN, gJI, gJJ] using q)
      simpa [rR, gNN, gNI, gNJ, gIN, gII, gIJ, gJN, gJI, gJJ] using this)
    exact ⟨N', Or.inr ⟨by omega, Or.inl ⟨by simpa [gNN, gNI, gNJ, gIN, gII, gIJ, gJN, gJI, gJJ] using hp, by rw [e1, e2]; exact h⟩⟩⟩
  · obtain ⟨N', h⟩ := RGive_ex (N := sN N 40 0 35 (gN N 40 0 35 + 1)) (v := lN 0) (by simp [gNN, gNI, gNJ, gIN, gII, gIJ, gJN, gJI, gJJ]; omega)
    exact ⟨N', Or.inr ⟨by omega, Or.inr ⟨by simp [gNN, gNI, gNJ, gIN, gII, gIJ, gJN, gJI, gJJ]; omega, h⟩⟩⟩
theorem TurnR_ex {N : Mem} {f : Nat} (hm : RMI N (f + 1)) : ∃ N', TurnR N N' := by
  have hd := hm.2.2.2.1
  unfold TurnR
  rw [show gN N 40 0 11 - 1 = f by omega]
  by_cases hk : gN N 52 0 f < gN N 41 0 (gN N 51 0 f) ∧ rac N (gN N 51 0 f) (gN N 52 0 f) = 8
  · by_cases hok : okC N (cost (gJ N 53 0 (rR N f (gN N 51 0 f) (gN N 52 0 f))))
    · obtain ⟨N', h⟩ := BegR_ex (RMI_steps (s := gN N 40 0 29 + cost (gJ N 53 0 (rR N f (gN N 51 0 f) (gN N 52 0 f)))) hm (by omega) hok) (fun _ _ => by
        have := (paid_z (f := f) hm.2.2.2.2.2.2.2 hok).1
        simpa [rR, gNN, gNI, gNJ, gIN, gII, gIJ, gJN, gJI, gJJ] using this)
      exact ⟨N', _, _, Or.inr ⟨hk, Or.inl ⟨hok, rfl, rfl⟩⟩, Or.inr ⟨rfl, h⟩⟩
    · exact ⟨_, _, _, Or.inr ⟨hk, Or.inr ⟨hok, rfl, rfl⟩⟩, Or.inl ⟨rfl, rfl⟩⟩
  · obtain ⟨N', h⟩ := BegR_ex hm (fun q1 q2 => absurd ⟨q1, q2⟩ hk)
    exact ⟨N', _, _, Or.inl ⟨hk, rfl, rfl⟩, Or.inr ⟨rfl, h⟩⟩
theorem RunR_ex : ∀ (fu : Nat) (N : Mem), Out (gN N 40 0 35) N → (gN N 40 0 24 = 0 → gN N 40 0 25 = 0 → 2001 - gN N 40 0 35 ≤ fu) → ∃ k N1, RunR k N N1 := by
  intro fu
  induction fu with
  | zero =>
    intro N hO hb
    by_cases h : gN N 40 0 24 = 0 ∧ gN N 40 0 25 = 0
    · obtain ⟨⟨f, hm⟩, -⟩ := hO.run h.1 h.2
      have hsc := hm.2.2.2.2.2.2.2
      unfold Sca at hsc
      have := hb h.1 h.2
      omega
    · exact ⟨0, N, by have := hO.2.1; have := hO.2.2.1; omega, rfl⟩
  | succ fu ih =>
    intro N hO hb
    by_cases h : gN N 40 0 24 = 0 ∧ gN N 40 0 25 = 0
    · obtain ⟨⟨f, hm⟩, hg⟩ := hO.run h.1 h.2
      obtain ⟨X, hT⟩ := TurnR_ex hm
      have hO2 := Out_turn hT hm hg
      obtain ⟨k, N1, hk⟩ := ih X hO2.self (fun q1 q2 => by have := hO2.bg q1 q2; have := hb h.1 h.2; omega)
      exact ⟨k + 1, N1, h.1, h.2, X, hT, hk⟩
    · exact ⟨0, N, by have := hO.2.1; have := hO.2.2.1; omega, rfl⟩
theorem sim_late {pk : Nat} {M N X : Mem} {f : Nat} (h : CL pk M N) (hx : Fx M X f) (hs : gN X 7 0 1 = gN M 7 0 1) : CE (stp X) N := by
  obtain ⟨c1, c2, c3, c4, c5, c6, c7, c8, c9⟩ := h
  refine ⟨Pg_Sc c7 ((Sc_Fx hx).tr Sc_stp) ScR_rf, Or.inl ⟨by simp [stp, gNN, gNI, gNJ, gIN, gII, gIJ, gJN, gJI, gJJ], c2, ?_, ?_⟩⟩
  · have := Sk_Fx hx c8
    simpa [Sk, stp, gNN, gNI, gNJ, gIN, gII, gIJ, gJN, gJI, gJJ] using this
  · have : gN X 7 0 1 = gN N 40 0 29 := hs.trans c9
    simpa [Sq, stp, gNN, gNI, gNJ, gIN, gII, gIJ, gJN, gJI, gJJ] using this
