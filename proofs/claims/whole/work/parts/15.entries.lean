/-- where a jump leads: its PLACE; the entry to which it goes -/
def tgt (nu : Nat → Int64) (n k : Nat) : Nat := min (nu k).toInt.toNat n
def jgo (ac : Nat → Nat) (nu : Nat → Int64) (n k : Nat) : Int32 := if ac k = 6 ∨ ac k = 7 then (if (ac k = 6 ∨ ac k = 7) ∧ nu k ≤ lN k then nI (beg ac n + 1 + 2 * bks ac nu k) else nI (beg ac (tgt nu n k))) else -1
def LdE (S Nn : Nat → Nat) (Gg : Nat → Int32) (e b : Nat) : Prop := S e = 1 ∧ Nn e = 0 ∧ Gg e = -1 ∧ S (e + 1) = 3 ∧ Nn (e + 1) = b ∧ Gg (e + 1) = nI b
theorem LdE.keep {S Nn S' Nn' : Nat → Nat} {Gg Gg' : Nat → Int32} {e b : Nat} (h : LdE S Nn Gg e b) (h1 : S' e = S e ∧ S' (e + 1) = S (e + 1)) (h2 : Nn' e = Nn e ∧ Nn' (e + 1) = Nn (e + 1)) (h3 : Gg' e = Gg e ∧ Gg' (e + 1) = Gg (e + 1)) : LdE S' Nn' Gg' e b := by
  unfold LdE
  rw [h1.1, h1.2, h2.1, h2.2, h3.1, h3.2]
  exact h
/-- the entries of a METHOD, as they must be -/
def EntOK (ac fs : Nat → Nat) (nu : Nat → Int64) (av : Nat → Nat) (n hn : Nat) (S Nn : Nat → Nat) (Gg : Nat → Int32) : Prop :=
  (S 0 = 1 ∧ Nn 0 = 0 ∧ Gg 0 = -1) ∧ (∀ k, k < n → PlE ac fs S Nn k ∧ (ac k = 8 → Gg (beg ac k) = -1) ∧ Gg (beg ac k + mk1 ac k) = jgo ac nu n k) ∧ (S (beg ac n) = 0 ∧ Nn (beg ac n) = n ∧ Gg (beg ac n) = -1) ∧ (∀ k, k < n → bk ac nu k → LdE S Nn Gg (beg ac n + 1 + 2 * bks ac nu k) (beg ac (tgt nu n k))) ∧ (∀ j, j < hn → LdE S Nn Gg (beg ac n + 1 + 2 * bks ac nu n + 2 * j) (beg ac (min (av j) n)))
def EInv (ac fs : Nat → Nat) (nu : Nat → Int64) (av : Nat → Nat) (n : Nat) (M Z : Mem) (c p h : Nat) : Prop :=
  Sm M Z c ∧ gN Z 19 c 5 = beg ac n + 1 + 2 * bks ac nu p + 2 * h ∧ gN Z 19 c 6 = gN M 19 c 6 + mkc ac n + bks ac nu p + h ∧ gN Z 19 c 7 = gN M 19 c 7 ∧ (∀ k, k ≤ n → gN Z 23 c k = beg ac k) ∧ (∀ k, k < n → PlE ac fs (gN Z 20 c) (gN Z 21 c) k ∧ (ac k = 8 → gI Z 22 c (beg ac k) = -1) ∧ gI Z 22 c (beg ac k + mk1 ac k) = if k < p then jgo ac nu n k else -1) ∧ (gN Z 20 c (beg ac n) = 0 ∧ gN Z 21 c (beg ac n) = n ∧ gI Z 22 c (beg ac n) = -1) ∧ (gN Z 20 c 0 = gN M 20 c 0 ∧ gN Z 21 c 0 = gN M 21 c 0 ∧ gI Z 22 c 0 = gI M 22 c 0) ∧ (∀ k, k < p → bk ac nu k → LdE (gN Z 20 c) (gN Z 21 c) (gI Z 22 c) (beg ac n + 1 + 2 * bks ac nu k) (beg ac (tgt nu n k))) ∧ (∀ j, j < h → LdE (gN Z 20 c) (gN Z 21 c) (gI Z 22 c) (beg ac n + 1 + 2 * bks ac nu n + 2 * j) (beg ac (min (av j) n)) ∧ gN Z 24 c j = beg ac n + 1 + 2 * bks ac nu n + 2 * j)
theorem bks_mono (ac : Nat → Nat) (nu : Nat → Int64) {a b : Nat} (h : a < b) : bks ac nu a + bk1 ac nu a ≤ bks ac nu b := by
  induction b with
  | zero => omega
  | succ b ih =>
    show _ ≤ bks ac nu b + bk1 ac nu b
    by_cases e : a = b
    · subst e; omega
    · have := ih (by omega); omega
theorem bk1_t {ac : Nat → Nat} {nu : Nat → Int64} {k : Nat} (h : bk ac nu k) : bk1 ac nu k = 1 := if_pos h
theorem bk1_f {ac : Nat → Nat} {nu : Nat → Int64} {k : Nat} (h : ¬ bk ac nu k) : bk1 ac nu k = 0 := if_neg h
/-- the start of the jumps -/
theorem EInv.start {ac fs : Nat → Nat} {nu : Nat → Int64} {av : Nat → Nat} {n c : Nat} {M X : Mem} (h : PInv ac fs M X c n) : EInv ac fs nu av n M (addE (sN X 23 c n (gN X 19 c 5)) c 0 n (-1)) c 0 0 := by
  obtain ⟨h1, h2, h3, h4, h5, h6, h7, h8⟩ := h
  have hb := beg_pos ac n
  have z0 : gN (sN X 23 c n (gN X 19 c 5)) 19 c 5 = beg ac n := by rw [gNN, if_neg (by omega), h2]
  refine ⟨h1.tr ((Sm_sN (by omega)).tr Sm_add), ?_, ?_, ?_, fun k hk => ?_, fun k hk => ?_, ⟨?_, ?_, ?_⟩, ⟨?_, ?_, ?_⟩, fun k hk => absurd hk (by omega), fun k hk => absurd hk (by omega)⟩
  · rw [addE_sz, z0]; show _ = beg ac n + 1 + 2 * 0 + 2 * 0; omega
  · rw [addE_mk, gNN, if_neg (by omega), h3, if_neg (by omega)]; show _ = gN M 19 c 6 + mkc ac n + 0 + 0; omega
  · rw [addE_lg, gNN, if_neg (by omega), h4]
  · rw [addE_23, gNN]
    by_cases e : k = n
    · subst e; rw [if_pos ⟨rfl, rfl, rfl⟩, h2]
    · rw [if_neg (by omega)]; exact (h5 k (by omega)).1
  · obtain ⟨g1, g2, g3, g4⟩ := h5 k hk
    have hbm := beg_mono ac hk
    refine ⟨g2.keep (z := beg ac n) (by omega) (fun j hj => ?_) (fun j hj => ?_), fun q => ?_, ?_⟩
    · rw [addE_20, z0, if_neg (by omega), gNN, if_neg (by omega)]
    · rw [addE_21, z0, if_neg (by omega), gNN, if_neg (by omega)]
    · rw [addE_22, z0, if_neg (by omega), gIN]; exact g3 q
    · rw [addE_22, z0, if_neg (by omega), gIN, if_neg (by omega)]; exact g4
  · rw [addE_20, z0, if_pos rfl]
  · rw [addE_21, z0, if_pos rfl]
  · rw [addE_22, z0, if_pos rfl]
  · rw [addE_20, z0, if_neg (by omega), gNN, if_neg (by omega), h6]
  · rw [addE_21, z0, if_neg (by omega), gNN, if_neg (by omega), h7]
  · rw [addE_22, z0, if_neg (by omega), gIN, h8]
/-- a lead is added -/
def addL (M : Mem) (c b : Nat) : Mem := addE (addE M c 1 0 (-1)) c 3 b (nI b)
theorem addL_sz {M : Mem} {c b : Nat} : gN (addL M c b) 19 c 5 = gN M 19 c 5 + 2 := by unfold addL; rw [addE_sz, addE_sz]
theorem addL_mk {M : Mem} {c b : Nat} : gN (addL M c b) 19 c 6 = gN M 19 c 6 + 1 := by unfold addL; rw [addE_mk, addE_mk, if_pos (by omega), if_neg (by omega)]
theorem addL_lg {M : Mem} {c b : Nat} : gN (addL M c b) 19 c 7 = gN M 19 c 7 := by unfold addL; rw [addE_lg, addE_lg]
theorem addL_20 {M : Mem} {c b j : Nat} (h : j < gN M 19 c 5) : gN (addL M c b) 20 c j = gN M 20 c j := by unfold addL; rw [addE_20, addE_sz, if_neg (by omega), addE_20, if_neg (by omega)]
theorem addL_21 {M : Mem} {c b j : Nat} (h : j < gN M 19 c 5) : gN (addL M c b) 21 c j = gN M 21 c j := by unfold addL; rw [addE_21, addE_sz, if_neg (by omega), addE_21, if_neg (by omega)]
theorem addL_22 {M : Mem} {c b j : Nat} (h : j < gN M 19 c 5) : gI (addL M c b) 22 c j = gI M 22 c j := by unfold addL; rw [addE_22, addE_sz, if_neg (by omega), addE_22, if_neg (by omega)]
theorem addL_23 {M : Mem} {c b j : Nat} : gN (addL M c b) 23 c j = gN M 23 c j := by unfold addL; rw [addE_23, addE_23]
theorem addL_24 {M : Mem} {c b j : Nat} : gN (addL M c b) 24 c j = gN M 24 c j := by unfold addL; rw [addE_24, addE_24]
theorem addL_Sm {M : Mem} {c b : Nat} : Sm M (addL M c b) c := Sm_add.tr Sm_add
theorem addL_new {M : Mem} {c b : Nat} : LdE (gN (addL M c b) 20 c) (gN (addL M c b) 21 c) (gI (addL M c b) 22 c) (gN M 19 c 5) b := by
  unfold addL LdE
  refine ⟨?_, ?_, ?_, ?_, ?_, ?_⟩ <;> simp [addE_20, addE_21, addE_22, addE_sz]
/-- a jump is gone through -/
theorem EInv.jump0 {ac fs : Nat → Nat} {nu : Nat → Int64} {av : Nat → Nat} {n c p : Nat} {M Z : Mem} (h : EInv ac fs nu av n M Z c p 0) (hp : p < n) (hj : ¬ (ac p = 6 ∨ ac p = 7)) : EInv ac fs nu av n M Z c (p + 1) 0 := by
  obtain ⟨h1, h2, h3, h4, h5, h6, h7, h8, h9, h10⟩ := h
  have hb : ¬ bk ac nu p := fun q => hj q.1
  have e1 : bks ac nu (p + 1) = bks ac nu p := by show bks ac nu p + bk1 ac nu p = _; rw [bk1_f hb]; rfl
  refine ⟨h1, by rw [e1]; exact h2, by rw [e1]; exact h3, h4, h5, fun k hk => ?_, h7, h8, fun k hk q => ?_, fun j hj => absurd hj (by omega)⟩
  · obtain ⟨g1, g2, g3⟩ := h6 k hk
    refine ⟨g1, g2, ?_⟩
    rw [g3]
    by_cases e : k = p
    · subst e; rw [if_neg (by omega), if_pos (by omega)]; unfold jgo; rw [if_neg hj]
    · by_cases e2 : k < p
      · rw [if_pos e2, if_pos (by omega)]
      · rw [if_neg e2, if_neg (by omega)]
  · by_cases e : k = p
    · subst e; exact absurd q hb
    · exact h9 k (by omega) q
theorem EInv.jump1 {ac fs : Nat → Nat} {nu : Nat → Int64} {av : Nat → Nat} {n c p : Nat} {M Z : Mem} (h : EInv ac fs nu av n M Z c p 0) (hp : p < n) (hj : ac p = 6 ∨ ac p = 7) (hb : ¬ bk ac nu p) : EInv ac fs nu av n M (sI Z 22 c (beg ac p) (nI (beg ac (tgt nu n p)))) c (p + 1) 0 := by
  obtain ⟨h1, h2, h3, h4, h5, h6, h7, h8, h9, h10⟩ := h
  have e1 : bks ac nu (p + 1) = bks ac nu p := by show bks ac nu p + bk1 ac nu p = _; rw [bk1_f hb]; rfl
  have hbp := beg_mono ac hp
  have hb1 := beg_pos ac p
  have hm : mk1 ac p = 0 := by unfold mk1; rw [if_neg (by omega)]
  refine ⟨h1.tr Sm_sI, by rw [e1]; exact h2, by rw [e1]; exact h3, h4, h5, fun k hk => ?_, ⟨h7.1, h7.2.1, ?_⟩, ⟨h8.1, h8.2.1, ?_⟩, fun k hk q => ?_, fun j hj => absurd hj (by omega)⟩
  · obtain ⟨g1, g2, g3⟩ := h6 k hk
    refine ⟨g1, fun q => ?_, ?_⟩
    · rw [gII, if_neg]
      · exact g2 q
      · rintro ⟨-, -, e⟩
        by_cases e2 : k = p
        · subst e2; omega
        · rcases Nat.lt_or_gt_of_ne e2 with q2 | q2
          · have := beg_mono ac q2; omega
          · have := beg_mono ac q2; omega
    · by_cases e : k = p
      · subst e
        rw [gII, if_pos ⟨rfl, rfl, by omega⟩, if_pos (by omega)]; unfold jgo; rw [if_pos hj]; exact (if_neg hb).symm
      · rw [gII, if_neg]
        · rw [g3]
          by_cases e2 : k < p
          · rw [if_pos e2, if_pos (by omega)]
          · rw [if_neg e2, if_neg (by omega)]
        · rintro ⟨-, -, e3⟩
          rcases Nat.lt_or_gt_of_ne e with q2 | q2
          · have := beg_mono ac q2; omega
          · have := beg_mono ac q2; omega
  · rw [gII, if_neg (by omega)]; exact h7.2.2
  · rw [gII, if_neg (by omega)]; exact h8.2.2
  · by_cases e : k = p
    · subst e; exact absurd q hb
    · refine (h9 k (by omega) q).keep ⟨rfl, rfl⟩ ⟨rfl, rfl⟩ ⟨?_, ?_⟩
      · rw [gII, if_neg (by omega)]
      · rw [gII, if_neg (by omega)]
theorem EInv.jump2 {ac fs : Nat → Nat} {nu : Nat → Int64} {av : Nat → Nat} {n c p : Nat} {M Z : Mem} (h : EInv ac fs nu av n M Z c p 0) (hp : p < n) (hb : bk ac nu p) : EInv ac fs nu av n M (sI (addL Z c (beg ac (tgt nu n p))) 22 c (beg ac p) (nI (gN Z 19 c 5))) c (p + 1) 0 := by
  obtain ⟨h1, h2, h3, h4, h5, h6, h7, h8, h9, h10⟩ := h
  have hj := hb.1
  have e1 : bks ac nu (p + 1) = bks ac nu p + 1 := by show bks ac nu p + bk1 ac nu p = _; rw [bk1_t hb]
  have hbp := beg_mono ac hp
  have hb1 := beg_pos ac p
  have hm : mk1 ac p = 0 := by unfold mk1; rw [if_neg (by omega)]
  have hz : ∀ j, j < beg ac n + 1 → j < gN Z 19 c 5 := fun j hj => by omega
  refine ⟨h1.tr (addL_Sm.tr Sm_sI), ?_, ?_, ?_, fun k hk => ?_, fun k hk => ?_, ⟨?_, ?_, ?_⟩, ⟨?_, ?_, ?_⟩, fun k hk q => ?_, fun j hj => absurd hj (by omega)⟩
  · rw [gNI, addL_sz, h2, e1]; omega
  · rw [gNI, addL_mk, h3, e1]; omega
  · rw [gNI, addL_lg, h4]
  · rw [gNI, addL_23]; exact h5 k hk
  · obtain ⟨g1, g2, g3⟩ := h6 k hk
    have hbk := beg_mono ac hk
    refine ⟨g1.keep (z := beg ac n) (by omega) (fun j hj => ?_) (fun j hj => ?_), fun q => ?_, ?_⟩
    · rw [gNI, addL_20 (hz j (by omega))]
    · rw [gNI, addL_21 (hz j (by omega))]
    · rw [gII, if_neg]
      · rw [addL_22 (hz _ (by omega))]; exact g2 q
      · rintro ⟨-, -, e⟩
        by_cases e2 : k = p
        · subst e2; omega
        · rcases Nat.lt_or_gt_of_ne e2 with q2 | q2
          · have := beg_mono ac q2; omega
          · have := beg_mono ac q2; omega
    · by_cases e : k = p
      · subst e
        rw [gII, if_pos ⟨rfl, rfl, by omega⟩, if_pos (by omega)]; unfold jgo; rw [if_pos hj, h2]; exact (if_pos hb).symm
      · rw [gII, if_neg]
        · rw [addL_22 (hz _ (by omega)), g3]
          by_cases e2 : k < p
          · rw [if_pos e2, if_pos (by omega)]
          · rw [if_neg e2, if_neg (by omega)]
        · rintro ⟨-, -, e3⟩
          rcases Nat.lt_or_gt_of_ne e with q2 | q2
          · have := beg_mono ac q2; omega
          · have := beg_mono ac q2; omega
  · rw [gNI, addL_20 (hz _ (by omega))]; exact h7.1
  · rw [gNI, addL_21 (hz _ (by omega))]; exact h7.2.1
  · rw [gII, if_neg (by omega), addL_22 (hz _ (by omega))]; exact h7.2.2
  · rw [gNI, addL_20 (hz _ (by omega))]; exact h8.1
  · rw [gNI, addL_21 (hz _ (by omega))]; exact h8.2.1
  · rw [gII, if_neg (by omega), addL_22 (hz _ (by omega))]; exact h8.2.2
  · by_cases e : k = p
    · subst e
      have hn := addL_new (M := Z) (c := c) (b := beg ac (tgt nu n k))
      rw [show gN Z 19 c 5 = beg ac n + 1 + 2 * bks ac nu k by omega] at hn ⊢
      refine hn.keep ⟨rfl, rfl⟩ ⟨rfl, rfl⟩ ⟨?_, ?_⟩
      · rw [gII, if_neg (by omega)]
      · rw [gII, if_neg (by omega)]
    · have hbm := bks_mono ac nu (show k < p by omega)
      rw [bk1_t q] at hbm
      refine (h9 k (by omega) q).keep ⟨?_, ?_⟩ ⟨?_, ?_⟩ ⟨?_, ?_⟩
      · rw [gNI, addL_20 (by omega)]
      · rw [gNI, addL_20 (by omega)]
      · rw [gNI, addL_21 (by omega)]
      · rw [gNI, addL_21 (by omega)]
      · rw [gII, if_neg (by omega), addL_22 (by omega)]
      · rw [gII, if_neg (by omega), addL_22 (by omega)]
/-- a handler is gone through -/
theorem EInv.hand {ac fs : Nat → Nat} {nu : Nat → Int64} {av : Nat → Nat} {n c h : Nat} {M Z : Mem} (hh : EInv ac fs nu av n M Z c n h) : EInv ac fs nu av n M (sN (addL Z c (beg ac (min (av h) n))) 24 c h (gN Z 19 c 5)) c n (h + 1) := by
  obtain ⟨h1, h2, h3, h4, h5, h6, h7, h8, h9, h10⟩ := hh
  have hb0 := beg_pos ac n
  have hz : ∀ j, j < beg ac n + 1 → j < gN Z 19 c 5 := fun j hj => by omega
  refine ⟨h1.tr (addL_Sm.tr (Sm_sN (by omega))), ?_, ?_, ?_, fun k hk => ?_, fun k hk => ?_, ⟨?_, ?_, ?_⟩, ⟨?_, ?_, ?_⟩, fun k hk q => ?_, fun j hj => ?_⟩
  · rw [gNN, if_neg (by omega), addL_sz, h2]; omega
  · rw [gNN, if_neg (by omega), addL_mk, h3]; omega
  · rw [gNN, if_neg (by omega), addL_lg, h4]
  · rw [gNN, if_neg (by omega), addL_23]; exact h5 k hk
  · obtain ⟨g1, g2, g3⟩ := h6 k hk
    have hbk := beg_mono ac hk
    refine ⟨g1.keep (z := beg ac n) (by omega) (fun j hj => ?_) (fun j hj => ?_), fun q => ?_, ?_⟩
    · rw [gNN, if_neg (by omega), addL_20 (hz j (by omega))]
    · rw [gNN, if_neg (by omega), addL_21 (hz j (by omega))]
    · rw [gIN, addL_22 (hz _ (by omega))]; exact g2 q
    · rw [gIN, addL_22 (hz _ (by omega))]; exact g3
  · rw [gNN, if_neg (by omega), addL_20 (hz _ (by omega))]; exact h7.1
  · rw [gNN, if_neg (by omega), addL_21 (hz _ (by omega))]; exact h7.2.1
  · rw [gIN, addL_22 (hz _ (by omega))]; exact h7.2.2
  · rw [gNN, if_neg (by omega), addL_20 (hz _ (by omega))]; exact h8.1
  · rw [gNN, if_neg (by omega), addL_21 (hz _ (by omega))]; exact h8.2.1
  · rw [gIN, addL_22 (hz _ (by omega))]; exact h8.2.2
  · have hbm := bks_mono ac nu hk
    rw [bk1_t q] at hbm
    refine (h9 k hk q).keep ⟨?_, ?_⟩ ⟨?_, ?_⟩ ⟨?_, ?_⟩
    · rw [gNN, if_neg (by omega), addL_20 (by omega)]
    · rw [gNN, if_neg (by omega), addL_20 (by omega)]
    · rw [gNN, if_neg (by omega), addL_21 (by omega)]
    · rw [gNN, if_neg (by omega), addL_21 (by omega)]
    · rw [gIN, addL_22 (by omega)]
    · rw [gIN, addL_22 (by omega)]
  · by_cases e : j = h
    · subst e
      refine ⟨?_, by rw [gNN, if_pos ⟨rfl, rfl, rfl⟩, h2]⟩
      have hn := addL_new (M := Z) (c := c) (b := beg ac (min (av j) n))
      rw [show gN Z 19 c 5 = beg ac n + 1 + 2 * bks ac nu n + 2 * j by omega] at hn ⊢
      refine hn.keep ⟨?_, ?_⟩ ⟨?_, ?_⟩ ⟨rfl, rfl⟩
      · rw [gNN, if_neg (by omega)]
      · rw [gNN, if_neg (by omega)]
      · rw [gNN, if_neg (by omega)]
      · rw [gNN, if_neg (by omega)]
    · obtain ⟨g1, g2⟩ := h10 j (by omega)
      refine ⟨g1.keep ⟨?_, ?_⟩ ⟨?_, ?_⟩ ⟨?_, ?_⟩, by rw [gNN, if_neg (by omega), addL_24]; exact g2⟩
      · rw [gNN, if_neg (by omega), addL_20 (by omega)]
      · rw [gNN, if_neg (by omega), addL_20 (by omega)]
      · rw [gNN, if_neg (by omega), addL_21 (by omega)]
      · rw [gNN, if_neg (by omega), addL_21 (by omega)]
      · rw [gIN, addL_22 (by omega)]
      · rw [gIN, addL_22 (by omega)]
/-- the entries of the METHOD c stand -/
def MkOK (Z : Mem) (c : Nat) : Prop := (70 < tot (gN Z 11 c) (gJ Z 14 c) (gN Z 10 c 4) (gN Z 10 c 9) ∧ gN Z 19 c 7 = 1) ∨ (tot (gN Z 11 c) (gJ Z 14 c) (gN Z 10 c 4) (gN Z 10 c 9) ≤ 70 ∧ gN Z 19 c 7 = 0 ∧ gN Z 19 c 5 = tot (gN Z 11 c) (gJ Z 14 c) (gN Z 10 c 4) (gN Z 10 c 9) ∧ gN Z 19 c 6 = 1 + mkc (gN Z 11 c) (gN Z 10 c 4) + bks (gN Z 11 c) (gJ Z 14 c) (gN Z 10 c 4) + gN Z 10 c 9 ∧ EntOK (gN Z 11 c) (gN Z 12 c) (gJ Z 14 c) (gN Z 17 c) (gN Z 10 c 4) (gN Z 10 c 9) (gN Z 20 c) (gN Z 21 c) (gI Z 22 c) ∧ (∀ j, j < gN Z 10 c 9 → gN Z 24 c j = beg (gN Z 11 c) (gN Z 10 c 4) + 1 + 2 * bks (gN Z 11 c) (gJ Z 14 c) (gN Z 10 c 4) + 2 * j))
