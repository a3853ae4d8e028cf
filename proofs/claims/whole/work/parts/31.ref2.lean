/-- all stays but the entries that are laid -/
def SmR (M M' : Mem) : Prop := (∀ k i j, k ≠ 61 → k ≠ 62 → ¬ (k = 40 ∧ i = 0 ∧ j = 39) → gN M' k i j = gN M k i j) ∧ (∀ k i j, k ≠ 63 → gI M' k i j = gI M k i j) ∧ gJ M' = gJ M
theorem SmR_rf {M : Mem} : SmR M M := ⟨fun _ _ _ _ _ _ => rfl, fun _ _ _ _ => rfl, rfl⟩
theorem SmR.tr {M M' M'' : Mem} (h : SmR M M') (h2 : SmR M' M'') : SmR M M'' := ⟨fun k i j a b c => (h2.1 k i j a b c).trans (h.1 k i j a b c), fun k i j a => (h2.2.1 k i j a).trans (h.2.1 k i j a), h2.2.2.trans h.2.2⟩
theorem SmR_lay {M : Mem} {a n : Nat} {g : Int32} : SmR M (layE M a n g) := by
  refine ⟨fun k i j h1 h2 h3 => ?_, fun k i j h => ?_, rfl⟩
  · unfold layE; rw [gNN, if_neg h3, gNI, gNN, if_neg (fun q => h2 q.1), gNN, if_neg (fun q => h1 q.1)]
  · unfold layE; rw [gIN, gII, if_neg (fun q => h q.1)]; rfl
theorem SmR_39 {M : Mem} {v : Nat} : SmR M (sN M 40 0 39 v) := ⟨fun k i j h1 h2 h3 => by rw [gNN, if_neg h3], fun _ _ _ _ => rfl, rfl⟩
theorem SmR.fn {M M' : Mem} (h : SmR M M') {k : Nat} (h1 : k ≠ 61) (h2 : k ≠ 62) (h3 : k ≠ 40) (i : Nat) : gN M' k i = gN M k i := by
  funext j; exact h.1 k i j h1 h2 (fun q => h3 q.1)
theorem RIm_SmR {M M' : Mem} {m : Nat} (h : SmR M M') (hm : RIm M m) : RIm M' m := by
  unfold RIm at hm ⊢
  rw [h.fn (show 41 ≠ 61 by decide) (by decide) (by decide), h.fn (show 46 ≠ 61 by decide) (by decide) (by decide), h.fn (show 42 ≠ 61 by decide) (by decide) (by decide), h.fn (show 43 ≠ 61 by decide) (by decide) (by decide), h.fn (show 44 ≠ 61 by decide) (by decide) (by decide), h.fn (show 47 ≠ 61 by decide) (by decide) (by decide), h.fn (show 48 ≠ 61 by decide) (by decide) (by decide), h.fn (show 49 ≠ 61 by decide) (by decide) (by decide), h.2.2]
  exact hm
theorem rac_SmR {M M' : Mem} {m : Nat} (h : SmR M M') : rac M' m = rac M m ∧ rnu M' m = rnu M m ∧ rfs M' m = rfs M m ∧ rav M' m = rav M m := by
  unfold rac rnu rfs rav
  rw [h.fn (show 42 ≠ 61 by decide) (by decide) (by decide), h.fn (show 43 ≠ 61 by decide) (by decide) (by decide), h.fn (show 49 ≠ 61 by decide) (by decide) (by decide), h.2.2]
  exact ⟨rfl, rfl, rfl, rfl⟩
theorem lay_sz {M : Mem} {a n : Nat} {g : Int32} : gN (layE M a n g) 40 0 39 = gN M 40 0 39 + 1 := by unfold layE; rw [gNN, if_pos ⟨rfl, rfl, rfl⟩]
theorem lay_61 {M : Mem} {a n : Nat} {g : Int32} (j : Nat) : gN (layE M a n g) 61 0 j = if j = gN M 40 0 39 then a else gN M 61 0 j := by unfold layE; simp [gNN, gNI]
theorem lay_62 {M : Mem} {a n : Nat} {g : Int32} (j : Nat) : gN (layE M a n g) 62 0 j = if j = gN M 40 0 39 then n else gN M 62 0 j := by unfold layE; simp [gNN, gNI]
theorem lay_63 {M : Mem} {a n : Nat} {g : Int32} (j : Nat) : gI (layE M a n g) 63 0 j = if j = gN M 40 0 39 then g else gI M 63 0 j := by unfold layE; simp [gII, gIN]
def RP1 (M X : Mem) (m p : Nat) : Prop := SmR M X ∧ gN X 40 0 39 = beg (rac M m) p ∧ (gN X 61 0 0 = 1 ∧ gN X 62 0 0 = 0 ∧ gI X 63 0 0 = -1) ∧ (∀ k, k < p → PlE (rac M m) (rfs M m) (gN X 61 0) (gN X 62 0) k ∧ (rac M m k = 8 → gI X 63 0 (beg (rac M m) k) = -1) ∧ gI X 63 0 (beg (rac M m) k + mk1 (rac M m) k) = jgo (rac M m) (rnu M m) (gN M 41 0 m) k)
theorem RP1.step0 {M X : Mem} {m p : Nat} {g : Int32} (h : RP1 M X m p) (ha : ¬ rac M m p = 8) (hg : g = jgo (rac M m) (rnu M m) (gN M 41 0 m) p) : RP1 M (layE X 0 p g) m (p + 1) := by
  obtain ⟨h1, h2, h3, h4⟩ := h
  have hb := beg_pos (rac M m) p
  have hm : mk1 (rac M m) p = 0 := by unfold mk1; rw [if_neg ha]
  refine ⟨h1.tr SmR_lay, ?_, ⟨?_, ?_, ?_⟩, fun k hk => ?_⟩
  · rw [lay_sz, h2]; show _ = beg (rac M m) p + 1 + mk1 (rac M m) p; omega
  · rw [lay_61, if_neg (by omega)]; exact h3.1
  · rw [lay_62, if_neg (by omega)]; exact h3.2.1
  · rw [lay_63, if_neg (by omega)]; exact h3.2.2
  · by_cases e : k = p
    · subst e
      refine ⟨⟨fun q => absurd q ha, ?_, ?_⟩, fun q => absurd q ha, ?_⟩
      · rw [lay_61, if_pos (by omega)]
      · rw [lay_62, if_pos (by omega)]
      · rw [lay_63, if_pos (by omega)]; exact hg
    · obtain ⟨g1, g2, g3⟩ := h4 k (by omega)
      have hbm := beg_mono (rac M m) (show k < p by omega)
      refine ⟨g1.keep (z := beg (rac M m) p) (by omega) (fun j hj => ?_) (fun j hj => ?_), fun q => ?_, ?_⟩
      · rw [lay_61, if_neg (by omega)]
      · rw [lay_62, if_neg (by omega)]
      · rw [lay_63, if_neg (by omega)]; exact g2 q
      · rw [lay_63, if_neg (by omega)]; exact g3
theorem RP1.step8 {M X : Mem} {m p : Nat} {g : Int32} (h : RP1 M X m p) (ha : rac M m p = 8) (hg : g = jgo (rac M m) (rnu M m) (gN M 41 0 m) p) : RP1 M (layE (layE X 2 (rfs M m p) (-1)) 0 p g) m (p + 1) := by
  obtain ⟨h1, h2, h3, h4⟩ := h
  have hb := beg_pos (rac M m) p
  have hm : mk1 (rac M m) p = 1 := by unfold mk1; rw [if_pos ha]
  refine ⟨h1.tr (SmR_lay.tr SmR_lay), ?_, ⟨?_, ?_, ?_⟩, fun k hk => ?_⟩
  · rw [lay_sz, lay_sz, h2]; show _ = beg (rac M m) p + 1 + mk1 (rac M m) p; omega
  · rw [lay_61, lay_sz, if_neg (by omega), lay_61, if_neg (by omega)]; exact h3.1
  · rw [lay_62, lay_sz, if_neg (by omega), lay_62, if_neg (by omega)]; exact h3.2.1
  · rw [lay_63, lay_sz, if_neg (by omega), lay_63, if_neg (by omega)]; exact h3.2.2
  · by_cases e : k = p
    · subst e
      refine ⟨⟨fun _ => ⟨?_, ?_⟩, ?_, ?_⟩, fun q => ?_, ?_⟩
      · rw [lay_61, lay_sz, if_neg (by omega), lay_61, if_pos (by omega)]
      · rw [lay_62, lay_sz, if_neg (by omega), lay_62, if_pos (by omega)]
      · rw [lay_61, lay_sz, if_pos (by omega)]
      · rw [lay_62, lay_sz, if_pos (by omega)]
      · rw [lay_63, lay_sz, if_neg (by omega), lay_63, if_pos (by omega)]
      · rw [lay_63, lay_sz, if_pos (by omega)]; exact hg
    · obtain ⟨g1, g2, g3⟩ := h4 k (by omega)
      have hbm := beg_mono (rac M m) (show k < p by omega)
      refine ⟨g1.keep (z := beg (rac M m) p) (by omega) (fun j hj => ?_) (fun j hj => ?_), fun q => ?_, ?_⟩
      · rw [lay_61, lay_sz, if_neg (by omega), lay_61, if_neg (by omega)]
      · rw [lay_62, lay_sz, if_neg (by omega), lay_62, if_neg (by omega)]
      · rw [lay_63, lay_sz, if_neg (by omega), lay_63, if_neg (by omega)]; exact g2 q
      · rw [lay_63, lay_sz, if_neg (by omega), lay_63, if_neg (by omega)]; exact g3
/-- the leads of the jumps before q and of the handlers before h are laid -/
def RP2 (M X : Mem) (m q h : Nat) : Prop := SmR M X ∧ gN X 40 0 39 = beg (rac M m) (gN M 41 0 m) + 1 + 2 * bks (rac M m) (rnu M m) q + 2 * h ∧ (gN X 61 0 0 = 1 ∧ gN X 62 0 0 = 0 ∧ gI X 63 0 0 = -1) ∧ (∀ k, k < gN M 41 0 m → PlE (rac M m) (rfs M m) (gN X 61 0) (gN X 62 0) k ∧ (rac M m k = 8 → gI X 63 0 (beg (rac M m) k) = -1) ∧ gI X 63 0 (beg (rac M m) k + mk1 (rac M m) k) = jgo (rac M m) (rnu M m) (gN M 41 0 m) k) ∧ (gN X 61 0 (beg (rac M m) (gN M 41 0 m)) = 0 ∧ gN X 62 0 (beg (rac M m) (gN M 41 0 m)) = gN M 41 0 m ∧ gI X 63 0 (beg (rac M m) (gN M 41 0 m)) = -1) ∧ (∀ k, k < q → bk (rac M m) (rnu M m) k → LdE (gN X 61 0) (gN X 62 0) (gI X 63 0) (beg (rac M m) (gN M 41 0 m) + 1 + 2 * bks (rac M m) (rnu M m) k) (beg (rac M m) (tgt (rnu M m) (gN M 41 0 m) k))) ∧ (∀ j, j < h → LdE (gN X 61 0) (gN X 62 0) (gI X 63 0) (beg (rac M m) (gN M 41 0 m) + 1 + 2 * bks (rac M m) (rnu M m) (gN M 41 0 m) + 2 * j) (beg (rac M m) (min (rav M m j) (gN M 41 0 m))))
theorem RP2.start {M X : Mem} {m : Nat} (h : RP1 M X m (gN M 41 0 m)) : RP2 M (layE X 0 (gN M 41 0 m) (-1)) m 0 0 := by
  obtain ⟨h1, h2, h3, h4⟩ := h
  have hb := beg_pos (rac M m) (gN M 41 0 m)
  refine ⟨h1.tr SmR_lay, ?_, ⟨?_, ?_, ?_⟩, fun k hk => ?_, ⟨?_, ?_, ?_⟩, fun k hk => absurd hk (by omega), fun k hk => absurd hk (by omega)⟩
  · rw [lay_sz, h2]; show _ = _ + 1 + 2 * 0 + 2 * 0; omega
  · rw [lay_61, if_neg (by omega)]; exact h3.1
  · rw [lay_62, if_neg (by omega)]; exact h3.2.1
  · rw [lay_63, if_neg (by omega)]; exact h3.2.2
  · obtain ⟨g1, g2, g3⟩ := h4 k hk
    have hbm := beg_mono (rac M m) hk
    refine ⟨g1.keep (z := beg (rac M m) (gN M 41 0 m)) (by omega) (fun j hj => ?_) (fun j hj => ?_), fun q => ?_, ?_⟩
    · rw [lay_61, if_neg (by omega)]
    · rw [lay_62, if_neg (by omega)]
    · rw [lay_63, if_neg (by omega)]; exact g2 q
    · rw [lay_63, if_neg (by omega)]; exact g3
  · rw [lay_61, if_pos h2.symm]
  · rw [lay_62, if_pos h2.symm]
  · rw [lay_63, if_pos h2.symm]
def layL (M : Mem) (b : Nat) : Mem := layE (layE M 1 0 (-1)) 3 b (nI b)
theorem layL_sz {M : Mem} {b : Nat} : gN (layL M b) 40 0 39 = gN M 40 0 39 + 2 := by unfold layL; rw [lay_sz, lay_sz]
theorem layL_61 {M : Mem} {b j : Nat} (h : j < gN M 40 0 39) : gN (layL M b) 61 0 j = gN M 61 0 j := by unfold layL; rw [lay_61, lay_sz, if_neg (by omega), lay_61, if_neg (by omega)]
theorem layL_62 {M : Mem} {b j : Nat} (h : j < gN M 40 0 39) : gN (layL M b) 62 0 j = gN M 62 0 j := by unfold layL; rw [lay_62, lay_sz, if_neg (by omega), lay_62, if_neg (by omega)]
theorem layL_63 {M : Mem} {b j : Nat} (h : j < gN M 40 0 39) : gI (layL M b) 63 0 j = gI M 63 0 j := by unfold layL; rw [lay_63, lay_sz, if_neg (by omega), lay_63, if_neg (by omega)]
theorem layL_new {M : Mem} {b : Nat} : LdE (gN (layL M b) 61 0) (gN (layL M b) 62 0) (gI (layL M b) 63 0) (gN M 40 0 39) b := by
  unfold layL LdE
  refine ⟨?_, ?_, ?_, ?_, ?_, ?_⟩ <;> simp [lay_61, lay_62, lay_63, lay_sz]
theorem RP2.lead {M X : Mem} {m q h b : Nat} (hr : RP2 M X m q h) (hq : q ≤ gN M 41 0 m) : SmR M (layL X b) ∧ gN (layL X b) 40 0 39 = gN X 40 0 39 + 2 ∧ (gN (layL X b) 61 0 0 = 1 ∧ gN (layL X b) 62 0 0 = 0 ∧ gI (layL X b) 63 0 0 = -1) ∧ (∀ k, k < gN M 41 0 m → PlE (rac M m) (rfs M m) (gN (layL X b) 61 0) (gN (layL X b) 62 0) k ∧ (rac M m k = 8 → gI (layL X b) 63 0 (beg (rac M m) k) = -1) ∧ gI (layL X b) 63 0 (beg (rac M m) k + mk1 (rac M m) k) = jgo (rac M m) (rnu M m) (gN M 41 0 m) k) ∧ (gN (layL X b) 61 0 (beg (rac M m) (gN M 41 0 m)) = 0 ∧ gN (layL X b) 62 0 (beg (rac M m) (gN M 41 0 m)) = gN M 41 0 m ∧ gI (layL X b) 63 0 (beg (rac M m) (gN M 41 0 m)) = -1) ∧ (∀ k, k < q → bk (rac M m) (rnu M m) k → LdE (gN (layL X b) 61 0) (gN (layL X b) 62 0) (gI (layL X b) 63 0) (beg (rac M m) (gN M 41 0 m) + 1 + 2 * bks (rac M m) (rnu M m) k) (beg (rac M m) (tgt (rnu M m) (gN M 41 0 m) k))) ∧ LdE (gN (layL X b) 61 0) (gN (layL X b) 62 0) (gI (layL X b) 63 0) (gN X 40 0 39) b := by
  obtain ⟨h1, h2, h3, h4, h5, h6, h7⟩ := hr
  have hb := beg_pos (rac M m) (gN M 41 0 m)
  refine ⟨h1.tr (SmR_lay.tr SmR_lay), layL_sz, ⟨?_, ?_, ?_⟩, fun k hk => ?_, ⟨?_, ?_, ?_⟩, fun k hk hbk => ?_, layL_new⟩
  · rw [layL_61 (by omega)]; exact h3.1
  · rw [layL_62 (by omega)]; exact h3.2.1
  · rw [layL_63 (by omega)]; exact h3.2.2
  · obtain ⟨g1, g2, g3⟩ := h4 k hk
    have hbm := beg_mono (rac M m) hk
    refine ⟨g1.keep (z := beg (rac M m) (gN M 41 0 m)) (by omega) (fun j hj => layL_61 (by omega)) (fun j hj => layL_62 (by omega)), fun q => ?_, ?_⟩
    · rw [layL_63 (by omega)]; exact g2 q
    · rw [layL_63 (by omega)]; exact g3
  · rw [layL_61 (by omega)]; exact h5.1
  · rw [layL_62 (by omega)]; exact h5.2.1
  · rw [layL_63 (by omega)]; exact h5.2.2
  · have hbm := bks_mono (rac M m) (rnu M m) hk
    rw [bk1_t hbk] at hbm
    exact (h6 k hk hbk).keep ⟨layL_61 (by omega), layL_61 (by omega)⟩ ⟨layL_62 (by omega), layL_62 (by omega)⟩ ⟨layL_63 (by omega), layL_63 (by omega)⟩
theorem RP2.jump1 {M X : Mem} {m q : Nat} (hr : RP2 M X m q 0) (hq : q < gN M 41 0 m) (hb : bk (rac M m) (rnu M m) q) : RP2 M (layL X (beg (rac M m) (tgt (rnu M m) (gN M 41 0 m) q))) m (q + 1) 0 := by
  have e1 : bks (rac M m) (rnu M m) (q + 1) = bks (rac M m) (rnu M m) q + 1 := by show bks (rac M m) (rnu M m) q + bk1 (rac M m) (rnu M m) q = _; rw [bk1_t hb]
  have hz := hr.2.1
  obtain ⟨g1, g2, g3, g4, g5, g6, g7⟩ := hr.lead (b := beg (rac M m) (tgt (rnu M m) (gN M 41 0 m) q)) (by omega)
  refine ⟨g1, by rw [g2, hz, e1]; omega, g3, g4, g5, fun k hk hbk => ?_, fun j hj => absurd hj (by omega)⟩
  by_cases e : k = q
  · subst e; rw [hz] at g7; exact g7
  · exact g6 k (by omega) hbk
theorem RP2.jump0 {M X : Mem} {m q : Nat} (hr : RP2 M X m q 0) (hb : ¬ bk (rac M m) (rnu M m) q) : RP2 M X m (q + 1) 0 := by
  have e1 : bks (rac M m) (rnu M m) (q + 1) = bks (rac M m) (rnu M m) q := by show bks (rac M m) (rnu M m) q + bk1 (rac M m) (rnu M m) q = _; rw [bk1_f hb]; rfl
  obtain ⟨h1, h2, h3, h4, h5, h6, h7⟩ := hr
  refine ⟨h1, by rw [e1]; exact h2, h3, h4, h5, fun k hk hbk => ?_, fun j hj => absurd hj (by omega)⟩
  by_cases e : k = q
  · subst e; exact absurd hbk hb
  · exact h6 k (by omega) hbk
theorem RP2.hand {M X : Mem} {m h : Nat} (hr : RP2 M X m (gN M 41 0 m) h) : RP2 M (layL X (beg (rac M m) (min (rav M m h) (gN M 41 0 m)))) m (gN M 41 0 m) (h + 1) := by
  have hz := hr.2.1
  have h7 := hr.2.2.2.2.2.2
  obtain ⟨g1, g2, g3, g4, g5, g6, g7⟩ := hr.lead (b := beg (rac M m) (min (rav M m h) (gN M 41 0 m))) (Nat.le_refl _)
  refine ⟨g1, by rw [g2, hz]; omega, g3, g4, g5, g6, fun j hj => ?_⟩
  by_cases e : j = h
  · subst e; rw [hz] at g7; exact g7
  · exact (h7 j (by omega)).keep ⟨layL_61 (by omega), layL_61 (by omega)⟩ ⟨layL_62 (by omega), layL_62 (by omega)⟩ ⟨layL_63 (by omega), layL_63 (by omega)⟩
theorem RP2.ent {M X : Mem} {m : Nat} (hr : RP2 M X m (gN M 41 0 m) (gN M 46 0 m)) : gN X 40 0 39 = totR M m ∧ EntOK (rac M m) (rfs M m) (rnu M m) (rav M m) (gN M 41 0 m) (gN M 46 0 m) (gN X 61 0) (gN X 62 0) (gI X 63 0) := by
  obtain ⟨h1, h2, h3, h4, h5, h6, h7⟩ := hr
  exact ⟨by rw [h2, tot_beg]; rfl, h3, h4, h5, h6, h7⟩
