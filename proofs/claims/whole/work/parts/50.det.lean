/-! the reference's turns: each comes to one end -/
theorem lN_e {a b : Nat} (ha : a < 2 ^ 31) (hb : b < 2 ^ 31) (h : lN a = lN b) : a = b := by
  have h1 := (isL_lN (n := b + 1) ha).mp (by rw [h]; exact (isL_lN hb).mpr (by omega))
  have h2 := (isL_lN (n := a + 1) hb).mp (by rw [← h]; exact (isL_lN ha).mpr (by omega))
  omega
theorem RTake_u {N A B : Mem} {f h : Nat} (h1 : RTake N f h A) (h2 : RTake N f h B) : A = B := by
  rcases h1 with ⟨a, rfl⟩ | ⟨a, ⟨b, rfl⟩ | ⟨b, rfl⟩⟩ <;> rcases h2 with ⟨c, e⟩ | ⟨c, ⟨d, e⟩ | ⟨d, e⟩⟩ <;> first | exact e | (exfalso; omega) | exact absurd b d | exact absurd d b
theorem RFailP_u {k : Nat} : ∀ (d : Nat) (N A B : Mem), RFailP k d N A → RFailP k d N B → A = B := by
  intro d
  induction d with
  | zero => intro N A B h1 h2; exact Eq.trans (Eq.symm h1) h2
  | succ d ih =>
    intro N A B h1 h2
    rcases h1 with ⟨h, a, b, c, t⟩ | ⟨n, t⟩ <;> rcases h2 with ⟨h', a', b', c', t'⟩ | ⟨n', t'⟩
    · have e : h = h' := by
        by_cases q : h < h'
        · exact absurd b (c' h q)
        · by_cases q2 : h' < h
          · exact absurd b' (c h' q2)
          · omega
      subst e
      exact RTake_u t t'
    · exact absurd b (n' h a)
    · exact absurd b' (n h' a')
    · exact ih _ _ _ t t'
theorem RFAIL_u {N A B : Mem} {k : Nat} {n : Int32} (h1 : RFAIL N k n A) (h2 : RFAIL N k n B) : A = B := RFailP_u _ _ _ _ h1 h2
theorem REnter_u {N A B : Mem} {c : Nat} {x : Int64} (h1 : REnter N c x A) (h2 : REnter N c x B) : A = B := by
  rcases h1 with ⟨a, rfl⟩ | ⟨a, a2, a3, ⟨b, rfl⟩ | ⟨b, rfl⟩⟩ <;> rcases h2 with ⟨c, e⟩ | ⟨c, c2, c3, ⟨d, e⟩ | ⟨d, e⟩⟩ <;> first | exact e | (exfalso; omega) | exact absurd b d | exact absurd d b
theorem RGive_u {N A B : Mem} {v : Int64} (h1 : RGive N v A) (h2 : RGive N v B) : A = B := by
  rcases h1 with ⟨a, rfl⟩ | ⟨g, a, rfl⟩ <;> rcases h2 with ⟨c, e⟩ | ⟨g', c, e⟩
  · exact e
  · omega
  · omega
  · obtain rfl : g = g' := by omega
    exact e
theorem RJmp_u {N A B : Mem} {f t : Nat} (h1 : RJmp N f t A) (h2 : RJmp N f t B) : A = B := by
  rcases h1 with ⟨a, b, rfl⟩ | ⟨a, b, rfl⟩ | ⟨a, rfl⟩ <;> rcases h2 with ⟨c, d, e⟩ | ⟨c, d, e⟩ | ⟨c, e⟩ <;> first | exact e | exact absurd b d | exact absurd d b | exact absurd a c | exact absurd c a
theorem RDiv_u {N A B : Mem} {f r s o : Nat} (h1 : RDiv N f r s o A) (h2 : RDiv N f r s o B) : A = B := by
  rcases h1 with ⟨a, b⟩ | ⟨a, rfl⟩ <;> rcases h2 with ⟨c, d⟩ | ⟨c, d⟩ <;> first | exact RFAIL_u b d | exact d | exact absurd a c | exact absurd c a
theorem RMake_u {N A B : Mem} {f : Nat} {a : Int64} {x : Int32} (h1 : RMake N f a x A) (h2 : RMake N f a x B) : A = B := by
  have q : ∀ n, n ≤ 200 → a = lN n → ¬ a.toInt < 0 := fun n hn e q => by
    have := (isL_lN (n := 201) (k := n) (by omega)).mpr (by omega)
    rw [← e] at this
    have := this.1
    omega
  rcases h1 with ⟨a, b⟩ | ⟨n, a, b, rfl⟩ <;> rcases h2 with ⟨c, d⟩ | ⟨m, c, d, e⟩
  · exact RFAIL_u b d
  · exact absurd a (q m c d)
  · exact absurd c (q n a b)
  · obtain rfl : n = m := lN_e (by omega) (by omega) (b.symm.trans d)
    exact e
theorem RRows_u {N A B : Mem} {f a r s : Nat} {x : Int32} (hb : ¬ gI N 54 0 f = -1 → gN N 56 0 f < 2 ^ 31) (h1 : RRows N f a r s x A) (h2 : RRows N f a r s x B) : A = B := by
  unfold RRows at h1 h2
  have q : ∀ k, ¬ gI N 54 0 f = -1 → k < gN N 56 0 f → gJ N 53 0 s = lN k → isL (gN N 56 0 f) (gJ N 53 0 s) := fun k h3 hk e => by rw [e]; exact (isL_lN (by have := hb h3; omega)).mpr hk
  rcases h1 with ⟨a1, h1⟩ | ⟨a1, h1⟩ | ⟨a1, b1, h1⟩ | ⟨a1, b1, h1⟩ | ⟨a1, b1, c1, h1⟩ | ⟨a1, b1, k1, c1, d1, h1⟩ | ⟨a1, b1, k1, c1, d1, h1⟩ <;> rcases h2 with ⟨a2, h2⟩ | ⟨a2, h2⟩ | ⟨a2, b2, h2⟩ | ⟨a2, b2, h2⟩ | ⟨a2, b2, c2, h2⟩ | ⟨a2, b2, k2, c2, d2, h2⟩ | ⟨a2, b2, k2, c2, d2, h2⟩ <;> first | (exfalso; omega) | exact RMake_u h1 h2 | exact RFAIL_u h1 h2 | exact h1.symm.trans h2 | exact absurd b1 b2 | exact absurd b2 b1 | exact absurd (q _ b1 c1 d1) c2 | exact absurd (q _ b2 c2 d2) c1 | skip
  · rcases h1 with ⟨b1, h1⟩ | ⟨b1, h1⟩ <;> rcases h2 with ⟨b2, h2⟩ | ⟨b2, h2⟩ <;> first | exact absurd b1 b2 | exact absurd b2 b1 | exact RFAIL_u h1 h2 | exact h1.symm.trans h2
  · have := hb b1
    obtain rfl : k1 = k2 := lN_e (by omega) (by omega) (d1.symm.trans d2)
    exact h1.symm.trans h2
  · have := hb b1
    obtain rfl : k1 = k2 := lN_e (by omega) (by omega) (d1.symm.trans d2)
    rcases h1 with ⟨e1, e2, h1⟩ | ⟨e1, h1⟩ <;> rcases h2 with ⟨g1, g2, h2⟩ | ⟨g1, h2⟩ <;> first | exact RFAIL_u h1 h2 | exact h1.symm.trans h2 | exact absurd ⟨e1, e2⟩ g1 | exact absurd ⟨g1, g2⟩ e1
theorem RWork_u {N A B : Mem} {f m p : Nat} (hb : ¬ gI N 54 0 f = -1 → gN N 56 0 f < 2 ^ 31) (h1 : RWork N f m p A) (h2 : RWork N f m p B) : A = B := by
  unfold RWork at h1 h2
  rcases h1 with ⟨a1, h1⟩ | ⟨a1, h1⟩ | ⟨a1, h1⟩ | ⟨a1, h1⟩ | ⟨a1, h1⟩ | ⟨a1, h1⟩ | ⟨a1, h1⟩ | ⟨a1, h1⟩ | ⟨a1, h1⟩ | ⟨a1, h1⟩ | ⟨a1, h1⟩ | ⟨a1, h1⟩ | ⟨a1, h1⟩ | ⟨a1, h1⟩ | ⟨a1, h1⟩ <;> rcases h2 with ⟨a2, h2⟩ | ⟨a2, h2⟩ | ⟨a2, h2⟩ | ⟨a2, h2⟩ | ⟨a2, h2⟩ | ⟨a2, h2⟩ | ⟨a2, h2⟩ | ⟨a2, h2⟩ | ⟨a2, h2⟩ | ⟨a2, h2⟩ | ⟨a2, h2⟩ | ⟨a2, h2⟩ | ⟨a2, h2⟩ | ⟨a2, h2⟩ | ⟨a2, h2⟩ <;> first | (exfalso; clear h1 h2; omega) | exact h1.symm.trans h2 | exact RDiv_u h1 h2 | exact RGive_u h1 h2 | exact RFAIL_u h1 h2 | exact RRows_u hb h1 h2 | skip
  · obtain ⟨t, b1, c1, h1⟩ := h1
    obtain ⟨t', b2, c2, h2⟩ := h2
    obtain rfl : t = t' := lN_e (by omega) (by omega) (c1.symm.trans c2)
    exact RJmp_u h1 h2
  · rcases h1 with ⟨d1, t, b1, c1, h1⟩ | ⟨d1, h1⟩ <;> rcases h2 with ⟨d2, t', b2, c2, h2⟩ | ⟨d2, h2⟩
    · obtain rfl : t = t' := lN_e (by omega) (by omega) (c1.symm.trans c2)
      exact RJmp_u h1 h2
    · exact absurd d1 d2
    · exact absurd d2 d1
    · exact h1.symm.trans h2
  · obtain ⟨t, b1, c1, h1⟩ := h1
    obtain ⟨t', b2, c2, h2⟩ := h2
    obtain rfl : t = t' := lN_e (by omega) (by omega) (c1.symm.trans c2)
    exact REnter_u h1 h2
  · rcases h1 with ⟨d1, h1⟩ | ⟨d1, h1⟩ <;> rcases h2 with ⟨d2, h2⟩ | ⟨d2, h2⟩ <;> first | exact RFAIL_u h1 h2 | exact absurd d1 d2 | exact absurd d2 d1
  · obtain ⟨t, b1, c1, h1⟩ := h1
    obtain ⟨t', b2, c2, h2⟩ := h2
    obtain rfl : t = t' := lN_e (by omega) (by omega) (c1.symm.trans c2)
    exact h1.symm.trans h2
  · obtain ⟨t, b1, c1, h1⟩ := h1
    obtain ⟨t', b2, c2, h2⟩ := h2
    obtain rfl : t = t' := lN_e (by omega) (by omega) (c1.symm.trans c2)
    rcases h1 with ⟨d1, h1⟩ | ⟨d1, h1⟩ <;> rcases h2 with ⟨d2, h2⟩ | ⟨d2, h2⟩ <;> first | exact RFAIL_u h1 h2 | exact h1.symm.trans h2 | exact absurd d1 d2 | exact absurd d2 d1
theorem BegR_u {N A B : Mem} {f : Nat} (hm : RMI N (f + 1)) (h1 : BegR N A) (h2 : BegR N B) : A = B := by
  have hd := hm.2.2.2.1
  have hF := hm.2.2.2.2.1 f (by omega)
  have hsc := hm.2.2.2.2.2.2.2
  unfold Sca at hsc
  unfold BegR WorkT at h1 h2
  rw [show gN N 40 0 11 - 1 = f by omega] at h1 h2
  rcases h1 with ⟨a1, h1⟩ | ⟨a1, ⟨b1, h1⟩ | ⟨b1, h1⟩⟩ <;> rcases h2 with ⟨a2, h2⟩ | ⟨a2, ⟨b2, h2⟩ | ⟨b2, h2⟩⟩ <;> first | exact h1.symm.trans h2 | (exfalso; clear h1 h2; omega) | exact RGive_u h1 h2 | skip
  exact RWork_u (fun q => by have := (hF.2.2.2.2.2 q).1; show gN N 56 0 f < _; omega) h1 h2
theorem TurnR_u {N A B : Mem} {f : Nat} (hm : RMI N (f + 1)) (h1 : TurnR N A) (h2 : TurnR N B) : A = B := by
  obtain ⟨r, X, p1, w1⟩ := h1
  obtain ⟨r', X', p2, w2⟩ := h2
  have hd := hm.2.2.2.1
  rw [show gN N 40 0 11 - 1 = f by omega] at p1 p2
  have e01 : ¬ (some (Value.int (nI 0)) = some (.int (nI 1))) := fun q => r01 (r := some (.int (nI 1))) rfl q
  rcases p1 with ⟨a, rfl, rfl⟩ | ⟨a, ⟨b, rfl, rfl⟩ | ⟨b, rfl, rfl⟩⟩ <;> rcases p2 with ⟨a', rfl, rfl⟩ | ⟨a', ⟨b', rfl, rfl⟩ | ⟨b', rfl, rfl⟩⟩ <;> first | exact absurd a a' | exact absurd a' a | exact absurd b b' | exact absurd b' b | skip
  · rcases w1 with ⟨q, -⟩ | ⟨-, w1⟩
    · exact absurd q e01
    · rcases w2 with ⟨q, -⟩ | ⟨-, w2⟩
      · exact absurd q e01
      · exact BegR_u hm w1 w2
  · rcases w1 with ⟨q, -⟩ | ⟨-, w1⟩
    · exact absurd q e01
    · rcases w2 with ⟨q, -⟩ | ⟨-, w2⟩
      · exact absurd q e01
      · exact BegR_u (RMI_steps hm (by omega) b) w1 w2
  · rcases w1 with ⟨-, w1⟩ | ⟨q, -⟩
    · rcases w2 with ⟨-, w2⟩ | ⟨q, -⟩
      · exact w1.symm.trans w2
      · exact absurd q.symm e01
    · exact absurd q.symm e01
theorem RunR_u : ∀ (k k' : Nat) (N A B : Mem), Out (gN N 40 0 35) N → RunR k N A → RunR k' N B → A = B := by
  intro k
  induction k with
  | zero =>
    intro k' N A B hO h1 h2
    cases k' with
    | zero => exact h1.2.symm.trans h2.2
    | succ k' => exact absurd h1.1 (by have := h2.1; have := h2.2.1; omega)
  | succ k ih =>
    intro k' N A B hO h1 h2
    cases k' with
    | zero => exact absurd h2.1 (by have := h1.1; have := h1.2.1; omega)
    | succ k' =>
      obtain ⟨q1, q2, X, t1, r1⟩ := h1
      obtain ⟨-, -, X', t2, r2⟩ := h2
      obtain ⟨⟨f, hm⟩, hg⟩ := hO.run q1 q2
      obtain rfl := TurnR_u hm t1 t2
      exact ih k' X A B (Out_turn t1 hm hg).self r1 r2
theorem Out_init {N X : Mem} {c b : Nat} {x : Int64} (hp : RI N) (hb : b ≤ 200) (hEn : REnter (rInit N b) c x X) : Out 0 X := Out_enter0 hEn (RI_ScR ri_Sc hp) (by obtain ⟨i1, i2, i3, i4, i5, i6, i7, i8, i9, i10, i11⟩ := ri_N (M := N) (b := b); unfold Sca; omega) ri_N.2.1 ⟨ri_N.2.2.2.1, ri_N.2.2.2.2.1, by rw [ri_N.2.2.2.2.2.1]; omega, ri_N.2.2.2.2.2.2.2.2.2.2⟩
theorem Run_ex {N : Mem} {c b : Nat} {x : Int64} (hp : RI N) (hb : b ≤ 200) : ∃ X k N1, REnter (rInit N b) c x X ∧ Out 0 X ∧ RunR k X N1 := by
  obtain ⟨X, hX⟩ := REnter_ex (N := rInit N b) (c := c) (x := x) (by rw [ri_N.2.1]; omega)
  have hO := Out_init hp hb hX
  obtain ⟨k, N1, h⟩ := RunR_ex 2001 X hO.self (fun _ _ => by omega)
  exact ⟨X, k, N1, hX, hO, h⟩
theorem RunsP_u {N A B : Mem} {c b : Nat} {x : Int64} {r r' : Option Value} (hp : RI N) (hb : b ≤ 200) (h1 : RunsP N c b x r A) (h2 : RunsP N c b x r' B) : r = r' ∧ A = B := by
  obtain ⟨X, k, N1, e1, k1, w1⟩ := h1
  obtain ⟨X', k', N1', e2, k2, w2⟩ := h2
  obtain rfl := REnter_u e1 e2
  obtain rfl := RunR_u _ _ _ _ _ (Out_init hp hb e1).self k1 k2
  rcases w1 with ⟨a, b1, c1⟩ | ⟨a, b1, c1⟩ <;> rcases w2 with ⟨a', b2, c2⟩ | ⟨a', b2, c2⟩ <;> first | exact absurd a a' | exact absurd a' a | exact ⟨b1.symm.trans b2, c1.symm.trans c2⟩
