/-! numbers: what the methods answer, in words of their own -/
abbrev isM (n : Nat) (x : Int32) : Prop := 0 ≤ x.toInt ∧ x.toInt < n
abbrev isL (n : Nat) (x : Int64) : Prop := 0 ≤ x.toInt ∧ x.toInt < n
theorem wi_iff {n : Nat} {x : Int32} (h : n < 2 ^ 30) : (lN 0 ≤ x.toInt64 ∧ x.toInt64 ≤ (nI n - nI 1).toInt64) ↔ isM n x := by
  unfold isM
  rw [Int64.le_iff_toInt_le, Int64.le_iff_toInt_le, Int32.toInt_toInt64, Int32.toInt_toInt64, lN_toInt (by decide), pk_sub_toInt h (by decide)]
  omega
theorem wl_iff {n : Nat} {x : Int64} (h : n < 2 ^ 30) : (lN 0 ≤ x ∧ x ≤ (nI n - nI 1).toInt64) ↔ isL n x := by
  unfold isL
  rw [Int64.le_iff_toInt_le, Int64.le_iff_toInt_le, Int32.toInt_toInt64, lN_toInt (by decide), pk_sub_toInt h (by decide)]
  omega
theorem isM_nI {n k : Nat} (hk : k < 2 ^ 31) : isM n (nI k) ↔ k < n := by
  unfold isM
  rw [nI_toInt hk]
  omega
theorem isM_of {n : Nat} {x : Int32} (h : isM n x) (hn : n < 2 ^ 31) : ∃ k, k < n ∧ x = nI k := by
  obtain ⟨h1, h2⟩ := h
  refine ⟨x.toInt.toNat, by omega, Int32.toInt_inj.mp ?_⟩
  rw [nI_toInt (by omega)]
  omega
theorem isL_of {n : Nat} {x : Int64} (h : isL n x) (hn : n < 2 ^ 31) : ∃ k, k < n ∧ x = lN k := by
  obtain ⟨h1, h2⟩ := h
  refine ⟨x.toInt.toNat, by omega, Int64.toInt_inj.mp ?_⟩
  rw [lN_toInt (by omega)]
  omega
theorem isL_lN {n k : Nat} (hk : k < 2 ^ 31) : isL n (lN k) ↔ k < n := by
  unfold isL
  rw [lN_toInt hk]
  omega
/-- between 0 and n -/
theorem w0_iff {n : Nat} {x : Int32} (h : n < 2 ^ 30) : (lN 0 ≤ x.toInt64 ∧ x.toInt64 ≤ lN n) ↔ isM (n + 1) x := by
  unfold isM
  rw [Int64.le_iff_toInt_le, Int64.le_iff_toInt_le, Int32.toInt_toInt64, lN_toInt (by decide), lN_toInt (by omega)]
  omega
theorem w0l_iff {n : Nat} {x : Int64} (h : n < 2 ^ 30) : (lN 0 ≤ x ∧ x ≤ lN n) ↔ isL (n + 1) x := by
  unfold isL
  rw [Int64.le_iff_toInt_le, Int64.le_iff_toInt_le, lN_toInt (by decide), lN_toInt (by omega)]
  omega
theorem bN_iff {P Q : Prop} [Decidable P] [Decidable Q] (h : P ↔ Q) : bN P = bN Q := by
  unfold bN
  by_cases hp : P
  · rw [if_pos hp, if_pos (h.mp hp)]
  · rw [if_neg hp, if_neg (fun q => hp (h.mpr q))]

theorem min_nI {a b : Nat} (ha : a < 2 ^ 31) (hb : b < 2 ^ 31) : (if nI b < nI a then nI b else nI a) = nI (min a b) := by
  by_cases h : b < a
  · rw [if_pos ((nI_ltI hb ha).mpr h), Nat.min_eq_right (by omega)]
  · rw [if_neg (fun q => h ((nI_ltI hb ha).mp q)), Nat.min_eq_left (by omega)]
theorem max_nI {a b : Nat} (ha : a < 2 ^ 31) (hb : b < 2 ^ 31) : (if nI a < nI b then nI b else nI a) = nI (max a b) := by
  by_cases h : a < b
  · rw [if_pos ((nI_ltI ha hb).mpr h), Nat.max_eq_right (by omega)]
  · rw [if_neg (fun q => h ((nI_ltI ha hb).mp q)), Nat.max_eq_left (by omega)]
theorem min_lN {a b : Nat} (ha : a < 2 ^ 31) (hb : b < 2 ^ 31) : (if lN b < lN a then lN b else lN a) = lN (min a b) := by
  by_cases h : b < a
  · rw [if_pos ((lN_lt hb ha).mpr h), Nat.min_eq_right (by omega)]
  · rw [if_neg (fun q => h ((lN_lt hb ha).mp q)), Nat.min_eq_left (by omega)]
/-- does v fit an act -/
def nfit (a : Nat) (v : Int64) : Nat := if a = 6 ∨ a = 7 then bN (lN 0 ≤ v ∧ v ≤ lN 40) else if a = 8 ∨ a = 11 then bN (lN 0 ≤ v ∧ v ≤ lN 6) else if a = 13 then bN (lN 0 ≤ v ∧ v ≤ lN 5) else if a = 17 ∨ a = 18 then bN (lN 0 ≤ v ∧ v ≤ lN 2) else 1
theorem nfit_le (a : Nat) (v : Int64) : nfit a v ≤ 1 := by
  unfold nfit
  split
  · exact bN_le _
  split
  · exact bN_le _
  split
  · exact bN_le _
  split
  · exact bN_le _
  · exact Nat.le_refl 1
/-- a jump that leads back; the entries that INSTRUCTIONS before n want beside their own; where a PLACE begins; how many jumps before n lead back; marks before n -/
def jmp (ac : Nat → Nat) (k : Nat) : Prop := ac k = 6 ∨ ac k = 7
def bk (ac : Nat → Nat) (nu : Nat → Int64) (k : Nat) : Prop := (ac k = 6 ∨ ac k = 7) ∧ nu k ≤ lN k
def mk1 (ac : Nat → Nat) (k : Nat) : Nat := if ac k = 8 then 1 else 0
def bk1 (ac : Nat → Nat) (nu : Nat → Int64) (k : Nat) : Nat := if (ac k = 6 ∨ ac k = 7) ∧ nu k ≤ lN k then 1 else 0
def need (ac : Nat → Nat) (nu : Nat → Int64) : Nat → Nat
  | 0 => 0
  | n + 1 => need ac nu n + mk1 ac n + 2 * bk1 ac nu n
def beg (ac : Nat → Nat) : Nat → Nat
  | 0 => 1
  | n + 1 => beg ac n + 1 + mk1 ac n
def bks (ac : Nat → Nat) (nu : Nat → Int64) : Nat → Nat
  | 0 => 0
  | n + 1 => bks ac nu n + bk1 ac nu n
def mks (ac : Nat → Nat) (nu : Nat → Int64) : Nat → Nat
  | 0 => 0
  | n + 1 => mks ac nu n + mk1 ac n + bk1 ac nu n
def tot (ac : Nat → Nat) (nu : Nat → Int64) (n h : Nat) : Nat := 2 + n + 2 * h + need ac nu n
theorem mk1_le (ac : Nat → Nat) (k : Nat) : mk1 ac k ≤ 1 := by unfold mk1; split <;> omega
theorem bk1_le (ac : Nat → Nat) (nu : Nat → Int64) (k : Nat) : bk1 ac nu k ≤ 1 := by unfold bk1; split <;> omega
theorem need_le (ac : Nat → Nat) (nu : Nat → Int64) (n : Nat) : need ac nu n ≤ 3 * n := by
  induction n with
  | zero => exact Nat.le_refl 0
  | succ n ih =>
    have h1 := mk1_le ac n
    have h2 := bk1_le ac nu n
    show need ac nu n + mk1 ac n + 2 * bk1 ac nu n ≤ 3 * (n + 1)
    omega
theorem beg_need (ac : Nat → Nat) (nu : Nat → Int64) (n : Nat) : beg ac n + 2 * bks ac nu n = 1 + n + need ac nu n := by
  induction n with
  | zero => rfl
  | succ n ih =>
    show beg ac n + 1 + mk1 ac n + 2 * (bks ac nu n + bk1 ac nu n) = 1 + (n + 1) + (need ac nu n + mk1 ac n + 2 * bk1 ac nu n)
    omega
theorem beg_le (ac : Nat → Nat) (n : Nat) : beg ac n ≤ 1 + 2 * n := by
  induction n with
  | zero => exact Nat.le_refl 1
  | succ n ih =>
    have h1 := mk1_le ac n
    show beg ac n + 1 + mk1 ac n ≤ _
    omega
theorem beg_mono (ac : Nat → Nat) {a b : Nat} (h : a < b) : beg ac a + 1 + mk1 ac a ≤ beg ac b := by
  induction b with
  | zero => omega
  | succ b ih =>
    show _ ≤ beg ac b + 1 + mk1 ac b
    by_cases e : a = b
    · subst e; omega
    · have := ih (by omega); omega
theorem mks_le (ac : Nat → Nat) (nu : Nat → Int64) (n : Nat) : mks ac nu n ≤ need ac nu n := by
  induction n with
  | zero => exact Nat.le_refl 0
  | succ n ih =>
    show mks ac nu n + mk1 ac n + bk1 ac nu n ≤ need ac nu n + mk1 ac n + 2 * bk1 ac nu n
    omega

/-- a method's numbers, as its calls have checked them -/
def nOK (a : Nat) (v : Int64) : Prop := ((a = 6 ∨ a = 7) → ∃ n, n ≤ 40 ∧ v = lN n) ∧ ((a = 8 ∨ a = 11) → ∃ n, n ≤ 6 ∧ v = lN n) ∧ (a = 13 → ∃ n, n ≤ 5 ∧ v = lN n) ∧ ((a = 17 ∨ a = 18) → ∃ n, n ≤ 2 ∧ v = lN n)
theorem nOK_of {a : Nat} {v : Int64} (h : nfit a v = 1) : nOK a v := by
  unfold nfit at h
  refine ⟨fun ha => ?_, fun ha => ?_, fun ha => ?_, fun ha => ?_⟩
  · rw [if_pos ha] at h
    by_cases q : lN 0 ≤ v ∧ v ≤ lN 40
    · obtain ⟨k, hk, e⟩ := isL_of ((w0l_iff (by decide)).mp q) (by decide)
      exact ⟨k, by omega, e⟩
    · rw [bN_f q] at h; omega
  · rw [if_neg (by omega), if_pos ha] at h
    by_cases q : lN 0 ≤ v ∧ v ≤ lN 6
    · obtain ⟨k, hk, e⟩ := isL_of ((w0l_iff (by decide)).mp q) (by decide)
      exact ⟨k, by omega, e⟩
    · rw [bN_f q] at h; omega
  · rw [if_neg (by omega), if_neg (by omega), if_pos ha] at h
    by_cases q : lN 0 ≤ v ∧ v ≤ lN 5
    · obtain ⟨k, hk, e⟩ := isL_of ((w0l_iff (by decide)).mp q) (by decide)
      exact ⟨k, by omega, e⟩
    · rw [bN_f q] at h; omega
  · rw [if_neg (by omega), if_neg (by omega), if_neg (by omega), if_pos ha] at h
    by_cases q : lN 0 ≤ v ∧ v ≤ lN 2
    · obtain ⟨k, hk, e⟩ := isL_of ((w0l_iff (by decide)).mp q) (by decide)
      exact ⟨k, by omega, e⟩
    · rw [bN_f q] at h; omega
/-- a METHOD of the class is in order -/
def CI (M : Mem) (c : Nat) : Prop := gN M 10 c 4 ≤ 40 ∧ gN M 10 c 9 ≤ 4 ∧ (∀ k, k < 40 → gN M 11 c k ≤ 18 ∧ gN M 12 c k ≤ 3 ∧ gN M 13 c k ≤ 3) ∧ (∀ h, h < 4 → gN M 15 c h ≤ 40 ∧ gN M 16 c h ≤ 40 ∧ gN M 17 c h ≤ 40) ∧ (∀ k, k < gN M 10 c 4 → nOK (gN M 11 c k) (gJ M 14 c k))
theorem CI_of {M M' : Mem} {c : Nat} (h1 : ∀ k j, 10 ≤ k → k ≤ 18 → gN M' k c j = gN M k c j) (h2 : ∀ j, gJ M' 14 c j = gJ M 14 c j) (h : CI M c) : CI M' c := by
  unfold CI at h ⊢
  simp only [h1 10 _ (by decide) (by decide), h1 11 _ (by decide) (by decide), h1 12 _ (by decide) (by decide), h1 13 _ (by decide) (by decide), h1 15 _ (by decide) (by decide), h1 16 _ (by decide) (by decide), h1 17 _ (by decide) (by decide), h2]
  exact h
theorem CI_sN {M : Mem} {c k i j v : Nat} (hk : k < 10 ∨ 18 < k) : CI (sN M k i j v) c ↔ CI M c := by
  constructor <;> refine CI_of (fun a b h1 h2 => ?_) (fun _ => rfl)
  · rw [gNN, if_neg (by omega)]
  · rw [gNN, if_neg (by omega)]
theorem CI_sI {M : Mem} {c k i j : Nat} {v : Int32} : CI (sI M k i j v) c ↔ CI M c := Iff.rfl
theorem CI_sJ {M : Mem} {c k i j : Nat} {v : Int64} (hk : k < 10 ∨ 18 < k) : CI (sJ M k i j v) c ↔ CI M c := by
  constructor <;> refine CI_of (fun a b h1 h2 => rfl) (fun b => ?_)
  · rw [gJJ, if_neg (by omega)]
  · rw [gJJ, if_neg (by omega)]
/-- fill a row -/
def fJ (M : Mem) (k i n : Nat) (v : Int64) : Mem := (M.1, M.2.1, fun a b c => if a = k ∧ b = i ∧ c < n then v else M.2.2 a b c)
theorem fJ_0 {M : Mem} {k i : Nat} {v : Int64} : fJ M k i 0 v = M := by
  unfold fJ
  simp
theorem fJ_s {M : Mem} {k i n : Nat} {v : Int64} : sJ (fJ M k i n v) k i n v = fJ M k i (n + 1) v := by
  unfold fJ sJ u3
  simp only [Prod.mk.injEq, true_and]
  funext a b c
  by_cases h : a = k ∧ b = i
  · obtain ⟨rfl, rfl⟩ := h
    by_cases h2 : c = n
    · subst h2; simp
    · by_cases h3 : c < n
      · simp [h2, h3, Nat.lt_succ_of_lt h3]
      · have : ¬ c < n + 1 := by omega
        simp [h2, h3, this]
  · have h1 : ¬ (a = k ∧ b = i ∧ c = n) := fun q => h ⟨q.1, q.2.1⟩
    have h2 : ¬ (a = k ∧ b = i ∧ c < n) := fun q => h ⟨q.1, q.2.1⟩
    have h3 : ¬ (a = k ∧ b = i ∧ c < n + 1) := fun q => h ⟨q.1, q.2.1⟩
    simp only [h1, h2, h3, if_false]
theorem gNf {M : Mem} {k i n : Nat} {v : Int64} (a b c : Nat) : gN (fJ M k i n v) a b c = gN M a b c := rfl
theorem gIf {M : Mem} {k i n : Nat} {v : Int64} (a b c : Nat) : gI (fJ M k i n v) a b c = gI M a b c := rfl
theorem gJf {M : Mem} {k i n : Nat} {v : Int64} (a b c : Nat) : gJ (fJ M k i n v) a b c = if a = k ∧ b = i ∧ c < n then v else gJ M a b c := rfl
/-- what a MAKE costs -/
def cost (x : Int64) : Nat := if x.toInt < 0 then 1 else 1 + x.toInt.toNat
/-- a number as a cell of a lane tells it back -/
def fitt (ln : Int32) (v : Int64) : Int64 := if ln = nI 0 then v.toInt32.toInt8.toInt32.toInt64 else if ln = nI 1 then v.toInt32.toInt16.toInt32.toInt64 else if ln = nI 2 then v.toInt32.toInt64 else if ln = nI 3 then v else if ln = nI 4 then FP.d2l (FP.l2d v) else v &&& lN 7
/-- the throw of a look at a cell -/
def flt (ln : Int32) (n : Nat) (i : Int64) : Nat := if ln = -1 then 1 else if isL n i then 0 else 2
theorem flt_le (ln : Int32) (n : Nat) (i : Int64) : flt ln n i ≤ 2 := by
  unfold flt
  split
  · omega
  · split <;> omega
theorem flt_0 {ln : Int32} {n : Nat} {i : Int64} (h : flt ln n i = 0) : ¬ ln = -1 ∧ isL n i := by
  unfold flt at h
  split at h
  · omega
  · split at h
    · exact ⟨by assumption, by assumption⟩
    · omega
