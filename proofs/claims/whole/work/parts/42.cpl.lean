/-! the class's memory M and the reference's memory N: what is the same in both -/
def Pc (M N : Mem) (c : Nat) : Prop := gN M 10 c 4 = gN N 41 0 c ∧ gN M 10 c 9 = gN N 46 0 c ∧ (∀ k, k < 40 → gN M 11 c k = gN N 42 0 (40 * c + k) ∧ gN M 12 c k = gN N 43 0 (40 * c + k) ∧ gN M 13 c k = gN N 44 0 (40 * c + k) ∧ gJ M 14 c k = gJ N 45 0 (40 * c + k)) ∧ (∀ h, h < 4 → gN M 15 c h = gN N 47 0 (4 * c + h) ∧ gN M 16 c h = gN N 48 0 (4 * c + h) ∧ gN M 17 c h = gN N 49 0 (4 * c + h) ∧ gI M 18 c h = gI N 50 0 (4 * c + h))
def Pg (M N : Mem) : Prop := PI M ∧ RI N ∧ gN M 1 0 1 = gN N 40 0 0 ∧ ∀ c, c < 6 → Pc M N c
theorem Pg_Sc {M M' N N' : Mem} (h : Pg M N) (hm : Sc M M') (hn : ScR N N') : Pg M' N' := by
  obtain ⟨h1, h2, h3, h4⟩ := h
  refine ⟨PI_Sc hm h1, RI_ScR hn h2, by rw [hm.2, hn.2]; exact h3, fun c hc => ?_⟩
  obtain ⟨a1, a2, a3, a4⟩ := h4 c hc
  have e1 : ∀ k i j, 10 ≤ k → k ≤ 24 → gN M' k i j = gN M k i j := fun k i j q1 q2 => (hm.1 k i j q1 q2).1
  have e2 : ∀ k i j, 10 ≤ k → k ≤ 24 → gI M' k i j = gI M k i j := fun k i j q1 q2 => (hm.1 k i j q1 q2).2.1
  have e3 : ∀ k i j, 10 ≤ k → k ≤ 24 → gJ M' k i j = gJ M k i j := fun k i j q1 q2 => (hm.1 k i j q1 q2).2.2
  have f1 : ∀ k i j, 41 ≤ k → k ≤ 50 → gN N' k i j = gN N k i j := fun k i j q1 q2 => (hn.1 k i j q1 q2).1
  have f2 : ∀ k i j, 41 ≤ k → k ≤ 50 → gI N' k i j = gI N k i j := fun k i j q1 q2 => (hn.1 k i j q1 q2).2.1
  have f3 : ∀ k i j, 41 ≤ k → k ≤ 50 → gJ N' k i j = gJ N k i j := fun k i j q1 q2 => (hn.1 k i j q1 q2).2.2
  refine ⟨by rw [e1 10 _ _ (by decide) (by decide), f1 41 _ _ (by decide) (by decide)]; exact a1, by rw [e1 10 _ _ (by decide) (by decide), f1 46 _ _ (by decide) (by decide)]; exact a2, fun k hk => ?_, fun j hj => ?_⟩
  · obtain ⟨b1, b2, b3, b4⟩ := a3 k hk
    exact ⟨by rw [e1 11 _ _ (by decide) (by decide), f1 42 _ _ (by decide) (by decide)]; exact b1, by rw [e1 12 _ _ (by decide) (by decide), f1 43 _ _ (by decide) (by decide)]; exact b2, by rw [e1 13 _ _ (by decide) (by decide), f1 44 _ _ (by decide) (by decide)]; exact b3, by rw [e3 14 _ _ (by decide) (by decide), f3 45 _ _ (by decide) (by decide)]; exact b4⟩
  · obtain ⟨b1, b2, b3, b4⟩ := a4 j hj
    exact ⟨by rw [e1 15 _ _ (by decide) (by decide), f1 47 _ _ (by decide) (by decide)]; exact b1, by rw [e1 16 _ _ (by decide) (by decide), f1 48 _ _ (by decide) (by decide)]; exact b2, by rw [e1 17 _ _ (by decide) (by decide), f1 49 _ _ (by decide) (by decide)]; exact b3, by rw [e2 18 _ _ (by decide) (by decide), f2 50 _ _ (by decide) (by decide)]; exact b4⟩
theorem mk1_c {ac ac' : Nat → Nat} {k : Nat} (h : ac k = ac' k) : mk1 ac k = mk1 ac' k := by unfold mk1; rw [h]
theorem bk1_c {ac ac' : Nat → Nat} {nu nu' : Nat → Int64} {k : Nat} (h : ac k = ac' k) (h2 : nu k = nu' k) : bk1 ac nu k = bk1 ac' nu' k := by unfold bk1; rw [h, h2]
theorem need_c {ac ac' : Nat → Nat} {nu nu' : Nat → Int64} (n : Nat) (h : ∀ k, k < n → ac k = ac' k) (h2 : ∀ k, k < n → nu k = nu' k) : need ac nu n = need ac' nu' n := by
  induction n with
  | zero => rfl
  | succ n ih => show need ac nu n + mk1 ac n + 2 * bk1 ac nu n = need ac' nu' n + mk1 ac' n + 2 * bk1 ac' nu' n; rw [ih (fun k hk => h k (by omega)) (fun k hk => h2 k (by omega)), mk1_c (h n (by omega)), bk1_c (h n (by omega)) (h2 n (by omega))]
theorem beg_c {ac ac' : Nat → Nat} (n : Nat) (h : ∀ k, k < n → ac k = ac' k) : beg ac n = beg ac' n := by
  induction n with
  | zero => rfl
  | succ n ih => show beg ac n + 1 + mk1 ac n = beg ac' n + 1 + mk1 ac' n; rw [ih (fun k hk => h k (by omega)), mk1_c (h n (by omega))]
theorem bks_c {ac ac' : Nat → Nat} {nu nu' : Nat → Int64} (n : Nat) (h : ∀ k, k < n → ac k = ac' k) (h2 : ∀ k, k < n → nu k = nu' k) : bks ac nu n = bks ac' nu' n := by
  induction n with
  | zero => rfl
  | succ n ih => show bks ac nu n + bk1 ac nu n = bks ac' nu' n + bk1 ac' nu' n; rw [ih (fun k hk => h k (by omega)) (fun k hk => h2 k (by omega)), bk1_c (h n (by omega)) (h2 n (by omega))]
theorem mks_c {ac ac' : Nat → Nat} {nu nu' : Nat → Int64} (n : Nat) (h : ∀ k, k < n → ac k = ac' k) (h2 : ∀ k, k < n → nu k = nu' k) : mks ac nu n = mks ac' nu' n := by
  induction n with
  | zero => rfl
  | succ n ih => show mks ac nu n + mk1 ac n + bk1 ac nu n = mks ac' nu' n + mk1 ac' n + bk1 ac' nu' n; rw [ih (fun k hk => h k (by omega)) (fun k hk => h2 k (by omega)), mk1_c (h n (by omega)), bk1_c (h n (by omega)) (h2 n (by omega))]
theorem mks_mkc (ac : Nat → Nat) (nu : Nat → Int64) (n : Nat) : mks ac nu n = mkc ac n + bks ac nu n := by
  induction n with
  | zero => rfl
  | succ n ih => show mks ac nu n + mk1 ac n + bk1 ac nu n = (mkc ac n + mk1 ac n) + (bks ac nu n + bk1 ac nu n); omega
theorem Pg.sz {M N : Mem} (h : Pg M N) {c : Nat} (hc : c < 6) : gN M 10 c 4 = gN N 41 0 c ∧ gN M 10 c 9 = gN N 46 0 c ∧ gN N 41 0 c ≤ 40 ∧ gN N 46 0 c ≤ 4 := ⟨(h.2.2.2 c hc).1, (h.2.2.2 c hc).2.1, (h.2.1.2 c hc).1, (h.2.1.2 c hc).2.1⟩
theorem Pg.ac {M N : Mem} (h : Pg M N) {c : Nat} (hc : c < 6) : (∀ k, k < gN N 41 0 c → gN M 11 c k = rac N c k) ∧ (∀ k, k < gN N 41 0 c → gJ M 14 c k = rnu N c k) := by
  have h2 := (h.sz hc).2.2.1
  exact ⟨fun k hk => ((h.2.2.2 c hc).2.2.1 k (by omega)).1, fun k hk => ((h.2.2.2 c hc).2.2.1 k (by omega)).2.2.2⟩
theorem Pg.tt {M N : Mem} (h : Pg M N) {c : Nat} (hc : c < 6) : totV M c = totR N c := by
  obtain ⟨a1, a2⟩ := h.ac hc
  unfold totV totR tot
  rw [(h.sz hc).1, (h.sz hc).2.1, need_c _ a1 a2]
/-- a FRAME is the same in both -/
def Fr (M N : Mem) (g : Nat) : Prop := gN M 30 g 3 = gN N 51 0 g ∧ (∀ r, r < 4 → gJ M 31 g r = gJ N 53 0 (4 * g + r)) ∧ (∀ i, i ≤ 2 → gN M 32 g i = gN N 59 0 (3 * g + i)) ∧ gI M 33 g 1 = gI N 54 0 g ∧ gN M 33 g 2 ≤ 200 ∧ (¬ gI N 54 0 g = -1 → gN M 33 g 2 = gN N 56 0 g ∧ ∀ j, j < gN N 56 0 g → gJ M 34 g j = gJ N 60 0 (gN N 55 0 g + j)) ∧ gN M 30 g 7 = gN N 57 0 g ∧ gI M 30 g 8 = gI N 58 0 g ∧ (gN N 57 0 g = 0 → gI N 58 0 g = nI 0)
/-- what a FRAME's cells tell stays -/
def EqF (M M' : Mem) (g : Nat) : Prop := ∀ k j, 30 ≤ k → k ≤ 34 → gN M' k g j = gN M k g j ∧ gI M' k g j = gI M k g j ∧ gJ M' k g j = gJ M k g j
def EqN (N N' : Mem) (g : Nat) : Prop := (∀ k, 51 ≤ k → k ≤ 58 → k ≠ 53 → gN N' k 0 g = gN N k 0 g ∧ gI N' k 0 g = gI N k 0 g) ∧ (∀ r, r < 4 → gJ N' 53 0 (4 * g + r) = gJ N 53 0 (4 * g + r)) ∧ (∀ i, i ≤ 2 → gN N' 59 0 (3 * g + i) = gN N 59 0 (3 * g + i)) ∧ (¬ gI N 54 0 g = -1 → ∀ j, j < gN N 56 0 g → gJ N' 60 0 (gN N 55 0 g + j) = gJ N 60 0 (gN N 55 0 g + j))
theorem EqF_rf {M : Mem} {g : Nat} : EqF M M g := fun _ _ _ _ => ⟨rfl, rfl, rfl⟩
theorem EqF.tr {M M' M'' : Mem} {g : Nat} (h : EqF M M' g) (h2 : EqF M' M'' g) : EqF M M'' g := fun k j a b => ⟨(h2 k j a b).1.trans (h k j a b).1, (h2 k j a b).2.1.trans (h k j a b).2.1, (h2 k j a b).2.2.trans (h k j a b).2.2⟩
theorem EqF_N {M : Mem} {g k i j v : Nat} (h : k < 30 ∨ i ≠ g) : EqF M (sN M k i j v) g := fun a c q1 q2 => ⟨by rw [gNN, if_neg (by omega)], rfl, rfl⟩
theorem EqF_I {M : Mem} {g k i j : Nat} {v : Int32} (h : k < 30 ∨ i ≠ g) : EqF M (sI M k i j v) g := fun a c q1 q2 => ⟨rfl, by rw [gII, if_neg (by omega)], rfl⟩
theorem EqF_J {M : Mem} {g k i j : Nat} {v : Int64} (h : k < 30 ∨ i ≠ g) : EqF M (sJ M k i j v) g := fun a c q1 q2 => ⟨rfl, rfl, by rw [gJJ, if_neg (by omega)]⟩
theorem EqF_F {M : Mem} {g k i n : Nat} {v : Int64} (h : k < 30 ∨ i ≠ g) : EqF M (fJ M k i n v) g := fun a c q1 q2 => ⟨rfl, rfl, by rw [gJf, if_neg (by omega)]⟩
theorem EqF_Fx {M M' : Mem} {f g : Nat} (h : Fx M M' f) (hg : g ≠ f) : EqF M M' g := fun k j q1 q2 => ⟨h.1 k g j (by omega) (by omega), by rw [h.2.1], by rw [h.2.2]⟩
theorem EqN_rf {N : Mem} {g : Nat} : EqN N N g := ⟨fun _ _ _ _ => ⟨rfl, rfl⟩, fun _ _ => rfl, fun _ _ => rfl, fun _ _ _ => rfl⟩
theorem EqN.tr {N N' N'' : Mem} {g : Nat} (h : EqN N N' g) (h2 : EqN N' N'' g) : EqN N N'' g := by
  refine ⟨fun k a b c => ⟨(h2.1 k a b c).1.trans (h.1 k a b c).1, (h2.1 k a b c).2.trans (h.1 k a b c).2⟩, fun r hr => (h2.2.1 r hr).trans (h.2.1 r hr), fun i hi => (h2.2.2.1 i hi).trans (h.2.2.1 i hi), fun q j hj => ?_⟩
  have e4 := (h.1 54 (by decide) (by decide) (by decide)).2
  have e5 := (h.1 55 (by decide) (by decide) (by decide)).1
  have e6 := (h.1 56 (by decide) (by decide) (by decide)).1
  have := h2.2.2.2 (by rw [e4]; exact q) j (by rw [e6]; exact hj)
  rw [e5] at this
  exact this.trans (h.2.2.2 q j hj)
theorem EqN_N {N : Mem} {g k i j v : Nat} (h : k < 51 ∨ 59 < k ∨ (k < 59 ∧ j ≠ g) ∨ (k = 59 ∧ (j < 3 * g ∨ 3 * g + 2 < j))) : EqN N (sN N k i j v) g := ⟨fun a q1 q2 q3 => ⟨by rw [gNN, if_neg (by omega)], rfl⟩, fun _ _ => rfl, fun a q => by rw [gNN, if_neg (by omega)], fun _ _ _ => rfl⟩
theorem EqN_I {N : Mem} {g k i j : Nat} {v : Int32} (h : k < 51 ∨ 59 ≤ k ∨ j ≠ g) : EqN N (sI N k i j v) g := ⟨fun a q1 q2 q3 => ⟨rfl, by rw [gII, if_neg (by omega)]⟩, fun _ _ => rfl, fun _ _ => rfl, fun _ _ _ => rfl⟩
theorem EqN_J {N : Mem} {g k i j : Nat} {v : Int64} (h : k < 51 ∨ (k = 53 ∧ (j < 4 * g ∨ 4 * g + 3 < j)) ∨ (k = 60 ∧ (¬ gI N 54 0 g = -1 → j < gN N 55 0 g ∨ gN N 55 0 g + gN N 56 0 g ≤ j))) : EqN N (sJ N k i j v) g := by
  refine ⟨fun a q1 q2 q3 => ⟨rfl, rfl⟩, fun r hr => by rw [gJJ, if_neg (by omega)], fun _ _ => rfl, fun q a ha => ?_⟩
  rw [gJJ, if_neg]
  rintro ⟨e1, -, e3⟩
  rcases h with h | h | ⟨-, h⟩
  · omega
  · omega
  · have := h q
    omega
theorem EqN_fR {N : Mem} {g lo n : Nat} {v : Int64} (h : ¬ gI N 54 0 g = -1 → gN N 55 0 g + gN N 56 0 g ≤ lo) : EqN N (fR N lo n v) g := by
  refine ⟨fun a q1 q2 q3 => ⟨rfl, rfl⟩, fun r hr => by rw [gJ_fR, if_neg (by omega)], fun _ _ => rfl, fun q a ha => ?_⟩
  have := h q
  rw [gJ_fR, if_neg (by omega)]
theorem Fr_eq {M M' N N' : Mem} {g : Nat} (h : Fr M N g) (hm : EqF M M' g) (hn : EqN N N' g) : Fr M' N' g := by
  obtain ⟨a1, a2, a3, a4, a5, a6, a7, a8⟩ := h
  have e51 := (hn.1 51 (by decide) (by decide) (by decide)).1
  have e54 := (hn.1 54 (by decide) (by decide) (by decide)).2
  have e55 := (hn.1 55 (by decide) (by decide) (by decide)).1
  have e56 := (hn.1 56 (by decide) (by decide) (by decide)).1
  have e57 := (hn.1 57 (by decide) (by decide) (by decide)).1
  have e58 := (hn.1 58 (by decide) (by decide) (by decide)).2
  refine ⟨by rw [(hm 30 3 (by decide) (by decide)).1, e51]; exact a1, fun r hr => by rw [(hm 31 r (by decide) (by decide)).2.2, hn.2.1 r hr]; exact a2 r hr, fun i hi => by rw [(hm 32 i (by decide) (by decide)).1, hn.2.2.1 i hi]; exact a3 i hi, by rw [(hm 33 1 (by decide) (by decide)).2.1, e54]; exact a4, by rw [(hm 33 2 (by decide) (by decide)).1]; exact a5, fun q => ?_, by rw [(hm 30 7 (by decide) (by decide)).1, e57]; exact a7, by rw [(hm 30 8 (by decide) (by decide)).2.1, e58]; exact a8.1, by rw [e57, e58]; exact a8.2⟩
  rw [e54] at q
  refine ⟨by rw [(hm 33 2 (by decide) (by decide)).1, e56]; exact (a6 q).1, fun j hj => ?_⟩
  rw [e56] at hj
  rw [(hm 34 j (by decide) (by decide)).2.2, e55, hn.2.2.2 q j hj]
  exact (a6 q).2 j hj
theorem At_eq {pk : Nat} {M M' : Mem} {g c p : Nat} (h : At pk M g c p) (hs : Sc M M') (h4 : gN M' 30 g 4 = gN M 30 g 4) (h5 : gN M' 30 g 5 = gN M 30 g 5) (h6 : gN M' 30 g 6 = gN M 30 g 6) : At pk M' g c p := by
  unfold At at h ⊢
  rw [hs.n (k := 10) (by decide) (by decide), hs.n (k := 11) (by decide) (by decide), h4, h5, h6]
  exact h
theorem Pos_eq {pk : Nat} {M M' : Mem} {g c p : Nat} (h : Pos pk M g c p) (hs : Sc M M') (h6 : gN M' 30 g 6 = gN M 30 g 6) : Pos pk M' g c p := by
  unfold Pos at h ⊢
  rw [hs.n (k := 10) (by decide) (by decide), hs.n (k := 11) (by decide) (by decide), hs.n (k := 19) (by decide) (by decide), hs.n (k := 20) (by decide) (by decide), hs.i (k := 22) (by decide) (by decide), h6]
  exact h
theorem Pend_eq {pk : Nat} {M M' : Mem} {g c p : Nat} (h : Pend pk M g c p) (hs : Sc M M') (h6 : gN M' 30 g 6 = gN M 30 g 6) : Pend pk M' g c p := by
  unfold Pend at h ⊢
  rw [hs.n (k := 10) (by decide) (by decide), hs.n (k := 11) (by decide) (by decide), hs.n (k := 19) (by decide) (by decide), hs.n (k := 20) (by decide) (by decide), hs.i (k := 22) (by decide) (by decide), h6]
  exact h
/-- the FRAMES below f are the same, each at its CALL -/
def Low (pk : Nat) (M N : Mem) (f : Nat) : Prop := ∀ g, g < f → Fr M N g ∧ At pk M g (gN N 51 0 g) (gN N 52 0 g)
theorem Low_eq {pk : Nat} {M M' N N' : Mem} {f : Nat} (h : Low pk M N f) (hs : Sc M M') (hm : ∀ g, g < f → EqF M M' g) (hn : ∀ g, g < f → EqN N N' g) : Low pk M' N' f := by
  intro g hg
  obtain ⟨h1, h2⟩ := h g hg
  refine ⟨Fr_eq h1 (hm g hg) (hn g hg), ?_⟩
  rw [((hn g hg).1 51 (by decide) (by decide) (by decide)).1, ((hn g hg).1 52 (by decide) (by decide) (by decide)).1]
  exact At_eq h2 hs (hm g hg 30 4 (by decide) (by decide)).1 (hm g hg 30 5 (by decide) (by decide)).1 (hm g hg 30 6 (by decide) (by decide)).1
/-- what is counted, but the STEPS -/
def Sk (M N : Mem) : Prop := gI M 2 0 4 = gI N 40 0 33 ∧ gN M 7 0 0 = gN N 40 0 23 ∧ gN M 7 0 4 = gN N 40 0 30 ∧ gN M 7 0 5 = gN N 40 0 31 ∧ gN M 7 0 6 = gN N 40 0 32 ∧ gI M 7 0 7 = gI N 40 0 34 ∧ gN M 7 0 8 = gN N 40 0 35 ∧ gJ M 7 0 9 = lN 0 ∧ gJ N 40 0 28 = lN 0 ∧ gN M 7 0 2 = 0 ∧ gI M 7 0 3 = nI 0
/-- how many GUARDS are held -/
def hs1 (N : Mem) (g : Nat) : Nat := gN N 59 0 (3 * g) + gN N 59 0 (3 * g + 1) + gN N 59 0 (3 * g + 2)
def sumH (N : Mem) : Nat → Nat
  | 0 => 0
  | d + 1 => sumH N d + hs1 N d
theorem sumH_eq {N N' : Mem} {d : Nat} (h : ∀ j, j < 3 * d → gN N' 59 0 j = gN N 59 0 j) : sumH N' d = sumH N d := by
  induction d with
  | zero => rfl
  | succ d ih =>
    show sumH N' d + hs1 N' d = sumH N d + hs1 N d
    rw [ih (fun j hj => h j (by omega))]
    unfold hs1
    rw [h _ (by omega), h _ (by omega), h _ (by omega)]
def HI (e : Nat) (N : Mem) : Prop := gI N 40 0 33 = nI (sumH N (gN N 40 0 11)) ∧ ∃ m, gI N 40 0 34 = nI m ∧ sumH N (gN N 40 0 11) ≤ m ∧ m + e ≤ gN N 40 0 35
def Kz (e : Nat) (N : Mem) : Prop := gN N 40 0 26 = 0 ∧ gI N 40 0 27 = nI 0 ∧ HI e N
theorem HI_of {N N' : Mem} {e : Nat} (h : HI e N) (h1 : gI N' 40 0 33 = gI N 40 0 33 ∧ gI N' 40 0 34 = gI N 40 0 34 ∧ gN N' 40 0 11 = gN N 40 0 11) (h2 : gN N 40 0 35 ≤ gN N' 40 0 35) (h3 : ∀ j, gN N' 59 0 j = gN N 59 0 j) : HI 0 N' := by
  obtain ⟨a1, m, a2, a3, a4⟩ := h
  have e3 : sumH N' (gN N' 40 0 11) = sumH N (gN N 40 0 11) := by rw [h1.2.2]; exact sumH_eq (fun j _ => h3 j)
  exact ⟨by rw [h1.1, e3]; exact a1, m, by rw [h1.2.1]; exact a2, by rw [e3]; exact a3, by omega⟩
theorem Kz_of {N N' : Mem} {e : Nat} (h : Kz e N) (h0 : gN N' 40 0 26 = gN N 40 0 26 ∧ gI N' 40 0 27 = gI N 40 0 27) (h1 : gI N' 40 0 33 = gI N 40 0 33 ∧ gI N' 40 0 34 = gI N 40 0 34 ∧ gN N' 40 0 11 = gN N 40 0 11) (h2 : gN N 40 0 35 ≤ gN N' 40 0 35) (h3 : ∀ j, gN N' 59 0 j = gN N 59 0 j) : Kz 0 N' := ⟨by rw [h0.1]; exact h.1, by rw [h0.2]; exact h.2.1, HI_of h.2.2 h1 h2 h3⟩
def Sq (M N : Mem) : Prop := gN M 7 0 1 = gN N 40 0 29
/-- an INSTRUCTION is fetched -/
def CA (pk : Nat) (M N : Mem) (f : Nat) : Prop := RMI N (f + 1) ∧ Pg M N ∧ gN M 2 0 3 = f + 1 ∧ Low pk M N f ∧ Fr M N f ∧ At pk M f (gN N 51 0 f) (gN N 52 0 f) ∧ Sk M N ∧ Sq M N ∧ gI M 2 0 6 = -1 ∧ gN N 40 0 24 = 0 ∧ gN N 40 0 25 = 0
/-- it goes on -/
def CG (pk : Nat) (M N : Mem) (f : Nat) : Prop := gN N 40 0 11 = f + 1 ∧ Pg M N ∧ gN M 2 0 3 = f + 1 ∧ Low pk M N f ∧ Fr M N f ∧ Sk M N ∧ gI M 2 0 6 = -1 ∧ gN N 40 0 24 = 0 ∧ gN N 40 0 25 = 0 ∧ Kz 0 N ∧ ((Pos pk M f (gN N 51 0 f) (gN N 52 0 f) ∧ Sq M N) ∨ (Pend pk M f (gN N 51 0 f) (gN N 52 0 f) ∧ gN M 7 0 1 + 1 = gN N 40 0 29))
/-- a jump's MARK is ahead, which THE STOP stands before -/
def CL (pk : Nat) (M N : Mem) : Prop := gI M 2 0 6 = -1 ∧ gN N 40 0 24 = 1 ∧ pk = 3 ∧ (∃ f c p, f < 12 ∧ gN M 2 0 3 = f + 1 ∧ FrOK M f c ∧ Pend 3 M f c p) ∧ gN M 7 0 1 = gN M 7 0 0 ∧ gN M 7 0 0 ≤ 200 ∧ Pg M N ∧ Sk M N ∧ Sq M N
/-- what is told at last -/
def Tl (M N : Mem) : Prop := gN M 7 0 1 = gN N 40 0 29 ∧ gN M 7 0 2 = gN N 40 0 26 ∧ gI M 7 0 3 = gI N 40 0 27 ∧ gN M 7 0 4 = gN N 40 0 30 ∧ gN M 7 0 5 = gN N 40 0 31 ∧ gN M 7 0 6 = gN N 40 0 32 ∧ gI M 7 0 7 = gI N 40 0 34 ∧ gN M 7 0 8 = gN N 40 0 35 ∧ gJ M 7 0 9 = gJ N 40 0 28
def CE (M N : Mem) : Prop := Pg M N ∧ ((gI M 2 0 6 = nI 1 ∧ gN N 40 0 24 = 1 ∧ Sk M N ∧ Sq M N) ∨ (gI M 2 0 6 = nI 0 ∧ gN N 40 0 24 = 0 ∧ gN N 40 0 25 = 1 ∧ gN N 40 0 26 = 0 ∧ Tl M N) ∨ (gI M 2 0 6 = nI 2 ∧ gN N 40 0 24 = 0 ∧ gN N 40 0 25 = 1 ∧ ¬ gN N 40 0 26 = 0 ∧ Tl M N))
def Rs (pk : Nat) (M N : Mem) : Prop := (∃ f, CG pk M N f) ∨ CL pk M N ∨ CE M N
def CB (M N : Mem) : Prop := Pg M N ∧ Tl M N
