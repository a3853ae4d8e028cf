def plC (G : Gm) (ad : Nat → Nat → Nat) (n : Nat) : va_W := (List.range n).flatMap (fun j => codL G (fun k => ad k j))
def plF (G : Gm) (ad : Nat → Nat → Nat) (b n : Nat) : va_W := (List.range n).flatMap (fun j => frmL G (fun k => ad k j) b)
def adN (ad : Nat → Nat → Nat) (a : Nat → Nat) (i : Nat) : Nat → Nat → Nat := fun k j => if j = i then a k else ad k j
def rqs (ad : Nat → Nat → Nat) (k i : Nat) : Nat → Option Nat := fun j => if j < i then some (ad k j) else none
theorem fm_c {α : Type} {l : List Nat} {f g : Nat → List α} (h : ∀ j ∈ l, f j = g j) : l.flatMap f = l.flatMap g := by
  induction l with
  | nil => rfl
  | cons a t ih => rw [List.flatMap_cons, List.flatMap_cons, h a List.mem_cons_self, ih (fun j hj => h j (List.mem_cons_of_mem _ hj))]
theorem adN_ne {ad : Nat → Nat → Nat} {a : Nat → Nat} {i j : Nat} (h : j ≠ i) : (fun k => adN ad a i k j) = fun k => ad k j := by
  funext k
  exact if_neg h
theorem adN_eq {ad : Nat → Nat → Nat} {a : Nat → Nat} {i : Nat} : (fun k => adN ad a i k i) = a := by
  funext k
  exact if_pos rfl
theorem plC_s {G : Gm} {ad : Nat → Nat → Nat} {a : Nat → Nat} {i : Nat} : plC G ad i ++ codL G a = plC G (adN ad a i) (i + 1) := by
  unfold plC
  rw [List.range_succ, List.flatMap_append, List.flatMap_singleton, adN_eq]
  congr 1
  exact fm_c (fun j hj => by rw [adN_ne (Nat.ne_of_lt (List.mem_range.mp hj))])
theorem plF_s {G : Gm} {ad : Nat → Nat → Nat} {a : Nat → Nat} {b i : Nat} : plF G ad b i ++ frmL G a b = plF G (adN ad a i) b (i + 1) := by
  unfold plF
  rw [List.range_succ, List.flatMap_append, List.flatMap_singleton, adN_eq]
  congr 1
  exact fm_c (fun j hj => by rw [adN_ne (Nat.ne_of_lt (List.mem_range.mp hj))])
theorem rqs_s {ad : Nat → Nat → Nat} {a : Nat → Nat} {k i : Nat} : va_up (rqs ad k i) i (some (a k)) = rqs (adN ad a i) k (i + 1) := by
  funext j
  unfold va_up rqs adN
  by_cases h : j = i
  · rw [if_pos h, if_pos (by omega), if_pos h]
  · rw [if_neg h, if_neg h]
    by_cases h2 : j < i
    · rw [if_pos h2, if_pos (by omega)]
    · rw [if_neg h2, if_neg (by omega)]
theorem perm3 {α : Type} {a b c : List α} : ((a ++ b) ++ c).Perm ((a ++ c) ++ b) := by
  rw [List.append_assoc, List.append_assoc]
  exact List.perm_append_comm.append_left a
theorem arrV_c {cA : ClassId} {n : Nat} {f g : Nat → Value} (h : ∀ j, j < n → f j = g j) : arrV cA n f = arrV cA n g := by
  unfold arrV
  congr 1
  apply Array.ext
  · simp
  · intro i h1 h2
    simp only [Array.size_ofFn] at h1
    simp only [Array.getElem_ofFn]
    exact h i h1
theorem VC_aQ {p : Program} {l : Launch} {e : Env} {R : Room} {s : State} {m : MethodId} {args : Array Value} {below : List Frame} {meth : Method} {c : Code} {G : Gm} {A : Nat → Prop} {nL : Nat} {Q : State → Prop} {cells slots : Nat} {ws : va_W} {pc : Nat} {lv : List (Nat × Value)} {st : List Value} {a n : Nat} {cA : ClassId} {f g : Nat → Option Nat} (X Y : va_W) (hw : ws = X ++ (a, aQ cA n f) :: Y) (h : ∀ j, j < n → f j = g j) (kk : VC p l e R s m args below meth c G A nL Q cells slots (X ++ (a, aQ cA n g) :: Y) pc lv st) : VC p l e R s m args below meth c G A nL Q cells slots ws pc lv st := by
  intro H locs ls hP hD hS hl
  subst hw
  refine kk H locs ls ?_ ?_ hS hl
  · have hP' : ∀ q ∈ X ++ (a, aQ cA n f) :: Y, va_at (G.1, G.2.1) vwCl q H := fun q hq => by
      obtain ⟨i, hi⟩ := List.getElem?_of_mem hq
      exact hP i q hi
    intro k q hk
    rcases List.mem_append.mp (List.mem_of_getElem? hk) with hm | hm
    · exact hP' q (List.mem_append.mpr (Or.inl hm))
    · rcases List.mem_cons.mp hm with rfl | hm
      · have h1 : H[a]? = some (vp_cell cA (n, .inr (.inr (.inr (.inr f))))) := hP' (a, aQ cA n f) (List.mem_append.mpr (Or.inr List.mem_cons_self))
        show H[a]? = some (vp_cell cA (n, .inr (.inr (.inr (.inr g)))))
        rw [h1, vp_cell_q, vp_cell_q, arrV_c (fun j hj => by rw [h j hj])]
      · exact hP' q (List.mem_append.mpr (Or.inr (List.mem_cons_of_mem _ hm)))
  · rw [va_D_iff] at hD ⊢
    refine ⟨?_, fun q hq => ?_⟩
    · have := hD.1
      simpa using this
    · rcases List.mem_append.mp hq with hm | hm
      · exact hD.2 q (List.mem_append.mpr (Or.inl hm))
      · rcases List.mem_cons.mp hm with rfl | hm
        · exact hD.2 (a, aQ cA n f) (List.mem_append.mpr (Or.inr List.mem_cons_self))
        · exact hD.2 q (List.mem_append.mpr (Or.inr (List.mem_cons_of_mem _ hm)))
abbrev rI_X5 : Room := { frames := 3, cells := 91, slots := 2706, locals := 60 }
set_option maxRecDepth 20000 in
set_option maxHeartbeats 4000000 in
theorem ctX5_init {l : Launch} {G : Gm} {h0 : Nat} : CtI l G yX5_init (.code yX5_init cX5_init 2 none :: GW) rI_X5 [.ref h0] [(h0, .inr (5, [.null, .int 0]))] (fun w1 => ∃ (qa : Nat) (ad : Nat → Nat → Nat), w1 = [(h0, .inr (5, [.ref qa, .int (nI 0)])), (qa, aQ (G.2.2.1 2) 6 (rqs ad 10 6))] ++ plC G ad 6) := by
  refine CtI_of (cc := cX5_init) (by decide) rfl [(0, _)] rfl (Nat.le_of_ble_eq_true rfl) (fun p e s m args below meth c A C E => ?_)
  refine VC_aload_n C dX5_init_0 rfl rfl ?_
  refine VC_objInit C lk_X5_3 wi_om wi_oc dX5_init_1 (Nat.le_of_ble_eq_true rfl) (Nat.le_of_ble_eq_true rfl) ?_
  refine VC_aload_n C dX5_init_4 rfl rfl ?_
  refine VC_bipush C (nI 6) dX5_init_5 (by decide) ?_
  refine VC_newq C (t := 2) rfl C.2.2.2.2.2.1.2.1 wi_cl_X5_9 (by decide) (Nat.le_of_ble_eq_true rfl) (Nat.le_of_ble_eq_true rfl) dX5_init_7 (fun qa => ?_)
  refine VC_w ([(h0, .inr (5, [.null, .int 0])), (qa, aQ (G.2.2.1 2) 6 (fun _ => none))]) rfl ?_
  refine VC_putF C 0 ([(h0, .inr (5, [.ref qa, .int 0])), (qa, aQ (G.2.2.1 2) 6 (fun _ => none))]) rfl rfl rfl inwX5 tyX5_ok nmX5 (by decide) fl_X5_11 rfl rfl rfl rfl rfl (Nat.le_of_ble_eq_true rfl) dX5_init_10 ?_
  refine VC_aload_n C dX5_init_13 rfl rfl ?_
  refine VC_iconst C (nI 0) dX5_init_14 (by decide) ?_
  refine VC_putf C 0 ([(h0, .inr (5, [.ref qa, .int (nI 0)])), (qa, aQ (G.2.2.1 2) 6 (fun _ => none))]) rfl rfl rfl inwX5 tyX5_ok nmX5 (by decide) fl_X5_17 rfl rfl rfl rfl (Nat.le_of_ble_eq_true rfl) dX5_init_15 ?_
  refine VC_iconst C (nI 0) dX5_init_18 (by decide) ?_
  refine VC_istore_n C dX5_init_19 rfl (by decide) rfl ?_
  have LP : ∀ (fu i : Nat) (ad : Nat → Nat → Nat), 6 - i < fu → i ≤ 6 → VC p l e rI_X5 s m args below meth c G A 2 (MQ below (va_Qv (S := va_W) (fun w1 => ∃ (qa : Nat) (ad : Nat → Nat → Nat), w1 = [(h0, .inr (5, [.ref qa, .int (nI 0)])), (qa, aQ (G.2.2.1 2) 6 (rqs ad 10 6))] ++ plC G ad 6) (fun w1 t => va_P (G.1, G.2.1) vwCl w1 t.heap ∧ va_D A w1) A) args s rI_X5.cells rI_X5.slots A) (1 + 15 * i) (6 + 450 * i) ([(h0, .inr (5, [.ref qa, .int (nI 0)])), (qa, aQ (G.2.2.1 2) 6 (rqs ad 10 i))] ++ plC G ad i) 20 [(1, .int (nI i)), (0, .ref h0)] [] := by
    intro fu
    induction fu with
    | zero => intros; omega
    | succ fu ih =>
      intro i ad hfu hi
      refine VC_iload_n C dX5_init_20 rfl rfl ?_
      refine VC_bipush C (nI 6) dX5_init_21 (by decide) ?_
      refine VC_icmpN_ge (tgt := 45) C dX5_init_23 (by omega) (by omega) (by decide) (fun h => ?_) (fun h => ?_)
      · obtain rfl : i = 6 := by omega
        refine VC_eq (k := 91) (n := 2706) rfl rfl rfl rfl rfl rfl ?_
        exact VC_vret C E dX5_init_45 ⟨qa, ad, rfl⟩
      · refine VC_aload_n C dX5_init_26 rfl rfl ?_
        refine VC_getf C 0 rfl rfl inwX5 (by decide) fl_X5_11 rfl rfl dX5_init_27 ?_
        refine VC_iload_n C dX5_init_30 rfl rfl ?_
        refine VC_new C inwX0 tyX0 tyX0_ok wi_cl_X5_9 wi_inX0 wi_iniX0 (ci := 0) (fs := [.null, .null, .null, .null, .int 0, .null, .null, .null, .null, .int 0, .null]) rfl (fun j hj => by rcases (show j = 0 ∨ j = 1 ∨ j = 2 ∨ j = 3 ∨ j = 4 ∨ j = 5 ∨ j = 6 ∨ j = 7 ∨ j = 8 ∨ j = 9 ∨ j = 10 by omega) with rfl | rfl | rfl | rfl | rfl | rfl | rfl | rfl | rfl | rfl | rfl <;> rfl) (show 1 + 15 * i + 1 ≤ 91 by omega) (show 6 + 450 * i + 11 ≤ 2706 by omega) dX5_init_31 (fun q => ?_)
        refine VC_perm perm3 ?_
        refine VC_dup C dX5_init_34 rfl ?_
        refine VC_callIN (wr := [(h0, .inr (5, [.ref qa, .int (nI 0)])), (qa, aQ (G.2.2.1 2) 6 (rqs ad 10 i))]) C ([(h0, .inr (5, [.ref qa, .int (nI 0)])), (qa, aQ (G.2.2.1 2) 6 (rqs ad 10 i))] ++ [(q, .inr (0, [.null, .null, .null, .null, .int 0, .null, .null, .null, .null, .int 0, .null]))]) (plC G ad i) rfl [] ctX0_init cI_X0 lk_X5_21 ⟨(Nat.le_of_ble_eq_true rfl), (Nat.le_of_ble_eq_true rfl)⟩ rfl rfl (Nat.le_of_ble_eq_true rfl) [2] [0, 1] rfl rfl (by decide) rfl (by decide) (by decide) ⟨show 1 + 15 * i + 1 + 14 ≤ 91 by omega, show 6 + 450 * i + 11 + 439 ≤ 2706 by omega⟩ dX5_init_35 (fun w1 hw1 => ?_)
        obtain ⟨a, rfl, rfl⟩ := hw1
        refine VC_aast C (t := 2) (r := (RX0, TX0, 11)) 1 2 (([(h0, .inr (5, [.ref qa, .int (nI 0)])), (qa, aQ (G.2.2.1 2) 6 (va_up (rqs ad 10 i) i (some (a 10))))] ++ codL G a) ++ plC G ad i) rfl rfl rfl rfl (by omega) (by decide) rfl dX5_init_38 ?_
        refine VC_iinc C (k := 0) (a := i) (b := 1) dX5_init_39 rfl (by decide) (by decide) rfl ?_
        refine VC_goto (tgt := 20) C dX5_init_42 (by decide) ?_
        refine VC_perm perm3 ?_
        exact VC_eq rfl rfl rfl (by rw [List.append_assoc, plC_s, rqs_s]) (show 1 + 15 * i + 1 + 14 = 1 + 15 * (i + 1) by omega) (show 6 + 450 * i + 11 + 439 = 6 + 450 * (i + 1) by omega) (ih (i + 1) (adN ad a i) (by omega) (by omega))
  exact VC_eq rfl rfl rfl rfl rfl rfl (LP 7 0 (fun _ _ => 0) (by omega) (by omega))
abbrev rI_X2 : Room := { frames := 3, cells := 62, slots := 2650, locals := 61 }
set_option maxRecDepth 20000 in
set_option maxHeartbeats 4000000 in
theorem ctX2_init {l : Launch} {G : Gm} {h0 hm qa b : Nat} {f : Nat → Option Nat} (hf : f 0 = some b) : CtI l G yX2_init (.code yX2_init cX2_init 3 none :: GW) rI_X2 [.ref h0, .ref hm] [(h0, .inr (2, [.null, .null, .null, .int 0, .int 0, .int 0, .int 0])), (hm, .inr (5, [.ref qa, .int (nI 0)])), (qa, aQ (G.2.2.1 2) 6 f)] (fun w1 => ∃ (qf qt : Nat) (ad : Nat → Nat → Nat), w1 = [(h0, .inr (2, [.ref hm, .ref qf, .ref qt, .int (nI 0), .int (nI 0), .int (nI 0), .int (nI 0)])), (hm, .inr (5, [.ref qa, .int (nI 0)])), (qa, aQ (G.2.2.1 2) 6 f), (qf, aQ (G.2.2.1 3) 12 (rqs ad 30 12)), (qt, .inr (8, [.int (nI 0), .int (nI 0), .int (nI 0), .int (nI 0), .int (nI 0), .int (nI 0), .int (nI 0), .int (nI 0), .int (nI 0), .long (lN 0)]))] ++ plF G ad b 12) := by
  refine CtI_of (cc := cX2_init) (by decide) rfl [(0, _), (1, _)] rfl (Nat.le_of_ble_eq_true rfl) (fun p e s m args below meth c A C E => ?_)
  refine VC_aload_n C dX2_init_0 rfl rfl ?_
  refine VC_objInit C lk_X2_3 wi_om wi_oc dX2_init_1 (Nat.le_of_ble_eq_true rfl) (Nat.le_of_ble_eq_true rfl) ?_
  refine VC_aload_n C dX2_init_4 rfl rfl ?_
  refine VC_bipush C (nI 12) dX2_init_5 (by decide) ?_
  refine VC_newq C (t := 3) rfl C.2.2.2.2.2.1.2.2 wi_cl_X2_9 (by decide) (Nat.le_of_ble_eq_true rfl) (Nat.le_of_ble_eq_true rfl) dX2_init_7 (fun qf => ?_)
  refine VC_w ([(h0, .inr (2, [.null, .null, .null, .int 0, .int 0, .int 0, .int 0])), (hm, .inr (5, [.ref qa, .int (nI 0)])), (qa, aQ (G.2.2.1 2) 6 f), (qf, aQ (G.2.2.1 3) 12 (fun _ => none))]) rfl ?_
  refine VC_putF C 0 ([(h0, .inr (2, [.null, .ref qf, .null, .int 0, .int 0, .int 0, .int 0])), (hm, .inr (5, [.ref qa, .int (nI 0)])), (qa, aQ (G.2.2.1 2) 6 f), (qf, aQ (G.2.2.1 3) 12 (fun _ => none))]) rfl rfl rfl inwX2 tyX2_ok nmX2 (by decide) fl_X2_11 rfl rfl rfl rfl rfl (Nat.le_of_ble_eq_true rfl) dX2_init_10 ?_
  refine VC_aload_n C dX2_init_13 rfl rfl ?_
  refine VC_new C inwX9 tyX9 tyX9_ok wi_cl_X2_17 wi_inX9 wi_iniX9 (ci := 8) (fs := [.int 0, .int 0, .int 0, .int 0, .int 0, .int 0, .int 0, .int 0, .int 0, .long 0]) rfl (fun j hj => by rcases (show j = 0 ∨ j = 1 ∨ j = 2 ∨ j = 3 ∨ j = 4 ∨ j = 5 ∨ j = 6 ∨ j = 7 ∨ j = 8 ∨ j = 9 by omega) with rfl | rfl | rfl | rfl | rfl | rfl | rfl | rfl | rfl | rfl <;> rfl) (Nat.le_of_ble_eq_true rfl) (Nat.le_of_ble_eq_true rfl) dX2_init_14 (fun qt => ?_)
  refine VC_w ([(h0, .inr (2, [.null, .ref qf, .null, .int 0, .int 0, .int 0, .int 0])), (hm, .inr (5, [.ref qa, .int (nI 0)])), (qa, aQ (G.2.2.1 2) 6 f), (qf, aQ (G.2.2.1 3) 12 (fun _ => none)), (qt, .inr (8, [.int 0, .int 0, .int 0, .int 0, .int 0, .int 0, .int 0, .int 0, .int 0, .long 0]))]) rfl ?_
  refine VC_dup C dX2_init_17 rfl ?_
  refine VC_callIN (wr := [(h0, .inr (2, [.null, .ref qf, .null, .int 0, .int 0, .int 0, .int 0])), (hm, .inr (5, [.ref qa, .int (nI 0)])), (qa, aQ (G.2.2.1 2) 6 f), (qf, aQ (G.2.2.1 3) 12 (fun _ => none))]) C ([(h0, .inr (2, [.null, .ref qf, .null, .int 0, .int 0, .int 0, .int 0])), (hm, .inr (5, [.ref qa, .int (nI 0)])), (qa, aQ (G.2.2.1 2) 6 f), (qf, aQ (G.2.2.1 3) 12 (fun _ => none)), (qt, .inr (8, [.int 0, .int 0, .int 0, .int 0, .int 0, .int 0, .int 0, .int 0, .int 0, .long 0]))]) [] rfl [] (ctX9_init) cI_X9 lk_X2_19 ⟨Nat.le_of_ble_eq_true rfl, Nat.le_of_ble_eq_true rfl⟩ rfl rfl (Nat.le_of_ble_eq_true rfl) [4] [0, 1, 2, 3] rfl rfl (by decide) rfl (by decide) (by decide) ⟨Nat.le_of_ble_eq_true rfl, Nat.le_of_ble_eq_true rfl⟩ dX2_init_18 (fun w1 hw1 => ?_)
  obtain rfl := hw1
  refine VC_w ([(h0, .inr (2, [.null, .ref qf, .null, .int 0, .int 0, .int 0, .int 0])), (hm, .inr (5, [.ref qa, .int (nI 0)])), (qa, aQ (G.2.2.1 2) 6 f), (qf, aQ (G.2.2.1 3) 12 (fun _ => none)), (qt, .inr (8, [.int (nI 0), .int (nI 0), .int (nI 0), .int (nI 0), .int (nI 0), .int (nI 0), .int (nI 0), .int (nI 0), .int (nI 0), .long (lN 0)]))]) rfl ?_
  refine VC_putF C 0 ([(h0, .inr (2, [.null, .ref qf, .ref qt, .int 0, .int 0, .int 0, .int 0])), (hm, .inr (5, [.ref qa, .int (nI 0)])), (qa, aQ (G.2.2.1 2) 6 f), (qf, aQ (G.2.2.1 3) 12 (fun _ => none)), (qt, .inr (8, [.int (nI 0), .int (nI 0), .int (nI 0), .int (nI 0), .int (nI 0), .int (nI 0), .int (nI 0), .int (nI 0), .int (nI 0), .long (lN 0)]))]) rfl rfl rfl inwX2 tyX2_ok nmX2 (by decide) fl_X2_20 rfl rfl rfl rfl rfl (Nat.le_of_ble_eq_true rfl) dX2_init_21 ?_
  refine VC_aload_n C dX2_init_24 rfl rfl ?_
  refine VC_iconst C (nI 0) dX2_init_25 (by decide) ?_
  refine VC_putf C 0 ([(h0, .inr (2, [.null, .ref qf, .ref qt, .int (nI 0), .int 0, .int 0, .int 0])), (hm, .inr (5, [.ref qa, .int (nI 0)])), (qa, aQ (G.2.2.1 2) 6 f), (qf, aQ (G.2.2.1 3) 12 (fun _ => none)), (qt, .inr (8, [.int (nI 0), .int (nI 0), .int (nI 0), .int (nI 0), .int (nI 0), .int (nI 0), .int (nI 0), .int (nI 0), .int (nI 0), .long (lN 0)]))]) rfl rfl rfl inwX2 tyX2_ok nmX2 (by decide) fl_X2_24 rfl rfl rfl rfl (Nat.le_of_ble_eq_true rfl) dX2_init_26 ?_
  refine VC_aload_n C dX2_init_29 rfl rfl ?_
  refine VC_iconst C (nI 0) dX2_init_30 (by decide) ?_
  refine VC_putf C 0 ([(h0, .inr (2, [.null, .ref qf, .ref qt, .int (nI 0), .int (nI 0), .int 0, .int 0])), (hm, .inr (5, [.ref qa, .int (nI 0)])), (qa, aQ (G.2.2.1 2) 6 f), (qf, aQ (G.2.2.1 3) 12 (fun _ => none)), (qt, .inr (8, [.int (nI 0), .int (nI 0), .int (nI 0), .int (nI 0), .int (nI 0), .int (nI 0), .int (nI 0), .int (nI 0), .int (nI 0), .long (lN 0)]))]) rfl rfl rfl inwX2 tyX2_ok nmX2 (by decide) fl_X2_28 rfl rfl rfl rfl (Nat.le_of_ble_eq_true rfl) dX2_init_31 ?_
  refine VC_aload_n C dX2_init_34 rfl rfl ?_
  refine VC_iconst C (nI 0) dX2_init_35 (by decide) ?_
  refine VC_putf C 0 ([(h0, .inr (2, [.null, .ref qf, .ref qt, .int (nI 0), .int (nI 0), .int (nI 0), .int 0])), (hm, .inr (5, [.ref qa, .int (nI 0)])), (qa, aQ (G.2.2.1 2) 6 f), (qf, aQ (G.2.2.1 3) 12 (fun _ => none)), (qt, .inr (8, [.int (nI 0), .int (nI 0), .int (nI 0), .int (nI 0), .int (nI 0), .int (nI 0), .int (nI 0), .int (nI 0), .int (nI 0), .long (lN 0)]))]) rfl rfl rfl inwX2 tyX2_ok nmX2 (by decide) fl_X2_31 rfl rfl rfl rfl (Nat.le_of_ble_eq_true rfl) dX2_init_36 ?_
  refine VC_aload_n C dX2_init_39 rfl rfl ?_
  refine VC_iconst C (nI 0) dX2_init_40 (by decide) ?_
  refine VC_putf C 0 ([(h0, .inr (2, [.null, .ref qf, .ref qt, .int (nI 0), .int (nI 0), .int (nI 0), .int (nI 0)])), (hm, .inr (5, [.ref qa, .int (nI 0)])), (qa, aQ (G.2.2.1 2) 6 f), (qf, aQ (G.2.2.1 3) 12 (fun _ => none)), (qt, .inr (8, [.int (nI 0), .int (nI 0), .int (nI 0), .int (nI 0), .int (nI 0), .int (nI 0), .int (nI 0), .int (nI 0), .int (nI 0), .long (lN 0)]))]) rfl rfl rfl inwX2 tyX2_ok nmX2 (by decide) fl_X2_34 rfl rfl rfl rfl (Nat.le_of_ble_eq_true rfl) dX2_init_41 ?_
  refine VC_aload_n C dX2_init_44 rfl rfl ?_
  refine VC_aload_n C dX2_init_45 rfl rfl ?_
  refine VC_putF C 0 ([(h0, .inr (2, [.ref hm, .ref qf, .ref qt, .int (nI 0), .int (nI 0), .int (nI 0), .int (nI 0)])), (hm, .inr (5, [.ref qa, .int (nI 0)])), (qa, aQ (G.2.2.1 2) 6 f), (qf, aQ (G.2.2.1 3) 12 (fun _ => none)), (qt, .inr (8, [.int (nI 0), .int (nI 0), .int (nI 0), .int (nI 0), .int (nI 0), .int (nI 0), .int (nI 0), .int (nI 0), .int (nI 0), .long (lN 0)]))]) rfl rfl rfl inwX2 tyX2_ok nmX2 (by decide) fl_X2_37 rfl rfl rfl rfl rfl (Nat.le_of_ble_eq_true rfl) dX2_init_46 ?_
  refine VC_iconst C (nI 0) dX2_init_49 (by decide) ?_
  refine VC_istore_n C dX2_init_50 rfl (by decide) rfl ?_
  have LP : ∀ (fu i : Nat) (ad : Nat → Nat → Nat), 12 - i < fu → i ≤ 12 → VC p l e rI_X2 s m args below meth c G A 3 (MQ below (va_Qv (S := va_W) (fun w1 => ∃ (qf qt : Nat) (ad : Nat → Nat → Nat), w1 = [(h0, .inr (2, [.ref hm, .ref qf, .ref qt, .int (nI 0), .int (nI 0), .int (nI 0), .int (nI 0)])), (hm, .inr (5, [.ref qa, .int (nI 0)])), (qa, aQ (G.2.2.1 2) 6 f), (qf, aQ (G.2.2.1 3) 12 (rqs ad 30 12)), (qt, .inr (8, [.int (nI 0), .int (nI 0), .int (nI 0), .int (nI 0), .int (nI 0), .int (nI 0), .int (nI 0), .int (nI 0), .int (nI 0), .long (lN 0)]))] ++ plF G ad b 12) (fun w1 t => va_P (G.1, G.2.1) vwCl w1 t.heap ∧ va_D A w1) A) args s rI_X2.cells rI_X2.slots A) (2 + 5 * i) (22 + 219 * i) ([(h0, .inr (2, [.ref hm, .ref qf, .ref qt, .int (nI 0), .int (nI 0), .int (nI 0), .int (nI 0)])), (hm, .inr (5, [.ref qa, .int (nI 0)])), (qa, aQ (G.2.2.1 2) 6 f), (qf, aQ (G.2.2.1 3) 12 (rqs ad 30 i)), (qt, .inr (8, [.int (nI 0), .int (nI 0), .int (nI 0), .int (nI 0), .int (nI 0), .int (nI 0), .int (nI 0), .int (nI 0), .int (nI 0), .long (lN 0)]))] ++ plF G ad b i) 51 [(2, .int (nI i)), (0, .ref h0), (1, .ref hm)] [] := by
    intro fu
    induction fu with
    | zero => intros; omega
    | succ fu ih =>
      intro i ad hfu hi
      refine VC_iload_n C dX2_init_51 rfl rfl ?_
      refine VC_bipush C (nI 12) dX2_init_52 (by decide) ?_
      refine VC_icmpN_ge (tgt := 82) C dX2_init_54 (by omega) (by omega) (by decide) (fun h => ?_) (fun h => ?_)
      · obtain rfl : i = 12 := by omega
        refine VC_eq (k := 62) (n := 2650) rfl rfl rfl rfl rfl rfl ?_
        exact VC_vret C E dX2_init_82 ⟨qf, qt, ad, rfl⟩
      · refine VC_aload_n C dX2_init_57 rfl rfl ?_
        refine VC_getf C 0 rfl rfl inwX2 (by decide) fl_X2_11 rfl rfl dX2_init_58 ?_
        refine VC_iload_n C dX2_init_61 rfl rfl ?_
        refine VC_new C inwX1 tyX1 tyX1_ok wi_cl_X2_9 wi_inX1 wi_iniX1 (ci := 1) (fs := [.null, .null, .null, .null, .int 0, .int 0, .int 0, .int 0, .int 0]) rfl (fun j hj => by rcases (show j = 0 ∨ j = 1 ∨ j = 2 ∨ j = 3 ∨ j = 4 ∨ j = 5 ∨ j = 6 ∨ j = 7 ∨ j = 8 by omega) with rfl | rfl | rfl | rfl | rfl | rfl | rfl | rfl | rfl <;> rfl) (show 2 + 5 * i + 1 ≤ 62 by omega) (show 22 + 219 * i + 9 ≤ 2650 by omega) dX2_init_62 (fun q => ?_)
        refine VC_perm perm3 ?_
        refine VC_dup C dX2_init_65 rfl ?_
        refine VC_aload_n C dX2_init_66 rfl rfl ?_
        refine VC_getfN C 1 rfl rfl inwX5 (by decide) fl_X2_41 rfl rfl dX2_init_67 ?_
        refine VC_iconst C (nI 0) dX2_init_70 (by decide) ?_
        refine VC_aald C (t := 2) (Cn := RX0) 2 rfl rfl (by decide) (by decide) hf dX2_init_71 ?_
        refine VC_callI (wr := [(h0, .inr (2, [.ref hm, .ref qf, .ref qt, .int (nI 0), .int (nI 0), .int (nI 0), .int (nI 0)])), (hm, .inr (5, [.ref qa, .int (nI 0)])), (qa, aQ (G.2.2.1 2) 6 f), (qf, aQ (G.2.2.1 3) 12 (rqs ad 30 i)), (qt, .inr (8, [.int (nI 0), .int (nI 0), .int (nI 0), .int (nI 0), .int (nI 0), .int (nI 0), .int (nI 0), .int (nI 0), .int (nI 0), .long (lN 0)]))]) C ([(h0, .inr (2, [.ref hm, .ref qf, .ref qt, .int (nI 0), .int (nI 0), .int (nI 0), .int (nI 0)])), (hm, .inr (5, [.ref qa, .int (nI 0)])), (qa, aQ (G.2.2.1 2) 6 f), (qf, aQ (G.2.2.1 3) 12 (rqs ad 30 i)), (qt, .inr (8, [.int (nI 0), .int (nI 0), .int (nI 0), .int (nI 0), .int (nI 0), .int (nI 0), .int (nI 0), .int (nI 0), .int (nI 0), .long (lN 0)]))] ++ [(q, .inr (1, [.null, .null, .null, .null, .int 0, .int 0, .int 0, .int 0, .int 0]))]) (plF G ad b i) rfl [.ref b] ctX1_init cI_X1 lk_X2_47 ⟨(Nat.le_of_ble_eq_true rfl), (Nat.le_of_ble_eq_true rfl)⟩ rfl rfl (Nat.le_of_ble_eq_true rfl) [5] [0, 1, 2, 3, 4] rfl rfl (by decide) rfl (by decide) (by decide) ⟨show 2 + 5 * i + 1 + 4 ≤ 62 by omega, show 22 + 219 * i + 9 + 210 ≤ 2650 by omega⟩ dX2_init_72 (fun w1 hw1 => ?_)
        obtain ⟨a, rfl, rfl⟩ := hw1
        refine VC_aast C (t := 3) (r := (RX1, TX1, 9)) 3 5 (([(h0, .inr (2, [.ref hm, .ref qf, .ref qt, .int (nI 0), .int (nI 0), .int (nI 0), .int (nI 0)])), (hm, .inr (5, [.ref qa, .int (nI 0)])), (qa, aQ (G.2.2.1 2) 6 f), (qf, aQ (G.2.2.1 3) 12 (va_up (rqs ad 30 i) i (some (a 30)))), (qt, .inr (8, [.int (nI 0), .int (nI 0), .int (nI 0), .int (nI 0), .int (nI 0), .int (nI 0), .int (nI 0), .int (nI 0), .int (nI 0), .long (lN 0)]))] ++ frmL G a b) ++ plF G ad b i) rfl rfl rfl rfl (by omega) (by decide) rfl dX2_init_75 ?_
        refine VC_iinc C (k := 0) (a := i) (b := 1) dX2_init_76 rfl (by decide) (by decide) rfl ?_
        refine VC_goto (tgt := 51) C dX2_init_79 (by decide) ?_
        refine VC_perm perm3 ?_
        exact VC_eq rfl rfl rfl (by rw [List.append_assoc, plF_s, rqs_s]) (show 2 + 5 * i + 1 + 4 = 2 + 5 * (i + 1) by omega) (show 22 + 219 * i + 9 + 210 = 22 + 219 * (i + 1) by omega) (ih (i + 1) (adN ad a i) (by omega) (by omega))
  exact VC_eq rfl rfl rfl rfl rfl rfl (LP 13 0 (fun _ _ => 0) (by omega) (by omega))
abbrev rI_X10 : Room := { frames := 4, cells := 157, slots := 5365, locals := 83 }
set_option maxRecDepth 20000 in
set_option maxHeartbeats 4000000 in
theorem ctX10_init {l : Launch} {G : Gm} {h0 : Nat} : CtI l G yX10_init (.code yX10_init cX10_init 1 none :: GW) rI_X10 [.ref h0] [(h0, .inr (9, [.null, .null, .null, .null]))] (fun w1 => ∃ adr : Nat → Nat → Nat, h0 = adr 0 0 ∧ w1 = wl (Ga G adr) rX M0) := by
  refine CtI_of (cc := cX10_init) (by decide) rfl [(0, _)] rfl (Nat.le_of_ble_eq_true rfl) (fun p e s m args below meth c A C E => ?_)
  refine VC_aload_n C dX10_init_0 rfl rfl ?_
  refine VC_objInit C lk_X10_1 wi_om wi_oc dX10_init_1 (Nat.le_of_ble_eq_true rfl) (Nat.le_of_ble_eq_true rfl) ?_
  refine VC_aload_n C dX10_init_4 rfl rfl ?_
  refine VC_new C inwX5 tyX5 tyX5_ok wi_cl_X10_7 wi_inX5 wi_iniX5 (ci := 5) (fs := [.null, .int 0]) rfl (fun j hj => by rcases (show j = 0 ∨ j = 1 by omega) with rfl | rfl <;> rfl) (Nat.le_of_ble_eq_true rfl) (Nat.le_of_ble_eq_true rfl) dX10_init_5 (fun q5 => ?_)
  refine VC_w ([(h0, .inr (9, [.null, .null, .null, .null])), (q5, .inr (5, [.null, .int 0]))]) rfl ?_
  refine VC_dup C dX10_init_8 rfl ?_
  refine VC_callI (wr := [(h0, .inr (9, [.null, .null, .null, .null]))]) C ([(h0, .inr (9, [.null, .null, .null, .null])), (q5, .inr (5, [.null, .int 0]))]) [] rfl [] (ctX5_init) cI_X5 lk_X10_9 ⟨Nat.le_of_ble_eq_true rfl, Nat.le_of_ble_eq_true rfl⟩ rfl rfl (Nat.le_of_ble_eq_true rfl) [1] [0] rfl rfl (by decide) rfl (by decide) (by decide) ⟨Nat.le_of_ble_eq_true rfl, Nat.le_of_ble_eq_true rfl⟩ dX10_init_9 (fun w1 hw1 => ?_)
  obtain ⟨qa, ad, rfl⟩ := hw1
  refine VC_w ([(h0, .inr (9, [.null, .null, .null, .null])), (q5, .inr (5, [.ref qa, .int (nI 0)])), (qa, aQ (G.2.2.1 2) 6 (rqs ad 10 6))] ++ plC G ad 6) ((List.append_nil _).trans rfl) ?_
  refine VC_putF C 0 ([(h0, .inr (9, [.ref q5, .null, .null, .null])), (q5, .inr (5, [.ref qa, .int (nI 0)])), (qa, aQ (G.2.2.1 2) 6 (rqs ad 10 6))] ++ plC G ad 6) rfl rfl rfl inwX10 tyX10_ok nmX10 (by decide) fl_X10_10 rfl rfl rfl rfl rfl (Nat.le_of_ble_eq_true rfl) dX10_init_12 ?_
  refine VC_aload_n C dX10_init_15 rfl rfl ?_
  refine VC_new C inwX2 tyX2 tyX2_ok wi_cl_X10_16 wi_inX2 wi_iniX2 (ci := 2) (fs := [.null, .null, .null, .int 0, .int 0, .int 0, .int 0]) rfl (fun j hj => by rcases (show j = 0 ∨ j = 1 ∨ j = 2 ∨ j = 3 ∨ j = 4 ∨ j = 5 ∨ j = 6 by omega) with rfl | rfl | rfl | rfl | rfl | rfl | rfl <;> rfl) (Nat.le_of_ble_eq_true rfl) (Nat.le_of_ble_eq_true rfl) dX10_init_16 (fun q16 => ?_)
  refine VC_perm perm3 ?_
  refine VC_w ([(h0, .inr (9, [.ref q5, .null, .null, .null])), (q5, .inr (5, [.ref qa, .int (nI 0)])), (qa, aQ (G.2.2.1 2) 6 (rqs ad 10 6)), (q16, .inr (2, [.null, .null, .null, .int 0, .int 0, .int 0, .int 0]))] ++ plC G ad 6) rfl ?_
  refine VC_dup C dX10_init_19 rfl ?_
  refine VC_aload_n C dX10_init_20 rfl rfl ?_
  refine VC_getf C 0 rfl rfl inwX10 (by decide) fl_X10_10 rfl rfl dX10_init_21 ?_
  refine VC_callI (wr := [(h0, .inr (9, [.ref q5, .null, .null, .null]))]) (wc := [(q16, .inr (2, [.null, .null, .null, .int 0, .int 0, .int 0, .int 0])), (q5, .inr (5, [.ref qa, .int (nI 0)])), (qa, aQ (G.2.2.1 2) 6 (rqs ad 10 6))]) C ([(h0, .inr (9, [.ref q5, .null, .null, .null])), (q5, .inr (5, [.ref qa, .int (nI 0)])), (qa, aQ (G.2.2.1 2) 6 (rqs ad 10 6)), (q16, .inr (2, [.null, .null, .null, .int 0, .int 0, .int 0, .int 0]))]) (plC G ad 6) rfl [.ref q5] (ctX2_init (b := ad 10 0) rfl) cI_X2 lk_X10_18 ⟨(Nat.le_of_ble_eq_true rfl), (Nat.le_of_ble_eq_true rfl)⟩ rfl rfl (Nat.le_of_ble_eq_true rfl) [3, 1, 2] [0] rfl rfl (by decide) rfl (by decide) (by decide) ⟨(Nat.le_of_ble_eq_true rfl), (Nat.le_of_ble_eq_true rfl)⟩ dX10_init_24 (fun w1 hw1 => ?_)
  obtain ⟨qf, qt, ad2, rfl⟩ := hw1
  refine VC_w ([(h0, .inr (9, [.ref q5, .null, .null, .null])), (q16, .inr (2, [.ref q5, .ref qf, .ref qt, .int (nI 0), .int (nI 0), .int (nI 0), .int (nI 0)])), (q5, .inr (5, [.ref qa, .int (nI 0)])), (qa, aQ (G.2.2.1 2) 6 (rqs ad 10 6)), (qf, aQ (G.2.2.1 3) 12 (rqs ad2 30 12)), (qt, .inr (8, [.int (nI 0), .int (nI 0), .int (nI 0), .int (nI 0), .int (nI 0), .int (nI 0), .int (nI 0), .int (nI 0), .int (nI 0), .long (lN 0)]))] ++ (plF G ad2 (ad 10 0) 12 ++ plC G ad 6)) (List.append_assoc [(h0, .inr (9, [.ref q5, .null, .null, .null])), (q16, .inr (2, [.ref q5, .ref qf, .ref qt, .int (nI 0), .int (nI 0), .int (nI 0), .int (nI 0)])), (q5, .inr (5, [.ref qa, .int (nI 0)])), (qa, aQ (G.2.2.1 2) 6 (rqs ad 10 6)), (qf, aQ (G.2.2.1 3) 12 (rqs ad2 30 12)), (qt, .inr (8, [.int (nI 0), .int (nI 0), .int (nI 0), .int (nI 0), .int (nI 0), .int (nI 0), .int (nI 0), .int (nI 0), .int (nI 0), .long (lN 0)]))] (plF G ad2 (ad 10 0) 12) (plC G ad 6)) ?_
  refine VC_putF C 0 ([(h0, .inr (9, [.ref q5, .ref q16, .null, .null])), (q16, .inr (2, [.ref q5, .ref qf, .ref qt, .int (nI 0), .int (nI 0), .int (nI 0), .int (nI 0)])), (q5, .inr (5, [.ref qa, .int (nI 0)])), (qa, aQ (G.2.2.1 2) 6 (rqs ad 10 6)), (qf, aQ (G.2.2.1 3) 12 (rqs ad2 30 12)), (qt, .inr (8, [.int (nI 0), .int (nI 0), .int (nI 0), .int (nI 0), .int (nI 0), .int (nI 0), .int (nI 0), .int (nI 0), .int (nI 0), .long (lN 0)]))] ++ (plF G ad2 (ad 10 0) 12 ++ plC G ad 6)) rfl rfl rfl inwX10 tyX10_ok nmX10 (by decide) fl_X10_21 rfl rfl rfl rfl rfl (Nat.le_of_ble_eq_true rfl) dX10_init_27 ?_
  refine VC_aload_n C dX10_init_30 rfl rfl ?_
  refine VC_new C inwX3 tyX3 tyX3_ok wi_cl_X10_25 wi_inX3 wi_iniX3 (ci := 3) (fs := []) rfl (fun j hj => absurd hj (by omega)) (Nat.le_of_ble_eq_true rfl) (Nat.le_of_ble_eq_true rfl) dX10_init_31 (fun q31 => ?_)
  refine VC_perm perm3 ?_
  refine VC_w ([(h0, .inr (9, [.ref q5, .ref q16, .null, .null])), (q16, .inr (2, [.ref q5, .ref qf, .ref qt, .int (nI 0), .int (nI 0), .int (nI 0), .int (nI 0)])), (q5, .inr (5, [.ref qa, .int (nI 0)])), (qa, aQ (G.2.2.1 2) 6 (rqs ad 10 6)), (qf, aQ (G.2.2.1 3) 12 (rqs ad2 30 12)), (qt, .inr (8, [.int (nI 0), .int (nI 0), .int (nI 0), .int (nI 0), .int (nI 0), .int (nI 0), .int (nI 0), .int (nI 0), .int (nI 0), .long (lN 0)])), (q31, .inr (3, []))] ++ (plF G ad2 (ad 10 0) 12 ++ plC G ad 6)) rfl ?_
  refine VC_dup C dX10_init_34 rfl ?_
  refine VC_callIN (wr := [(h0, .inr (9, [.ref q5, .ref q16, .null, .null])), (q16, .inr (2, [.ref q5, .ref qf, .ref qt, .int (nI 0), .int (nI 0), .int (nI 0), .int (nI 0)])), (q5, .inr (5, [.ref qa, .int (nI 0)])), (qa, aQ (G.2.2.1 2) 6 (rqs ad 10 6)), (qf, aQ (G.2.2.1 3) 12 (rqs ad2 30 12)), (qt, .inr (8, [.int (nI 0), .int (nI 0), .int (nI 0), .int (nI 0), .int (nI 0), .int (nI 0), .int (nI 0), .int (nI 0), .int (nI 0), .long (lN 0)]))]) C ([(h0, .inr (9, [.ref q5, .ref q16, .null, .null])), (q16, .inr (2, [.ref q5, .ref qf, .ref qt, .int (nI 0), .int (nI 0), .int (nI 0), .int (nI 0)])), (q5, .inr (5, [.ref qa, .int (nI 0)])), (qa, aQ (G.2.2.1 2) 6 (rqs ad 10 6)), (qf, aQ (G.2.2.1 3) 12 (rqs ad2 30 12)), (qt, .inr (8, [.int (nI 0), .int (nI 0), .int (nI 0), .int (nI 0), .int (nI 0), .int (nI 0), .int (nI 0), .int (nI 0), .int (nI 0), .long (lN 0)])), (q31, .inr (3, []))]) (plF G ad2 (ad 10 0) 12 ++ plC G ad 6) rfl [] ctX3_init cI_X3 lk_X10_27 ⟨(Nat.le_of_ble_eq_true rfl), (Nat.le_of_ble_eq_true rfl)⟩ rfl rfl (Nat.le_of_ble_eq_true rfl) [6] [0, 1, 2, 3, 4, 5] rfl rfl (by decide) rfl (by decide) (by decide) ⟨(Nat.le_of_ble_eq_true rfl), (Nat.le_of_ble_eq_true rfl)⟩ dX10_init_35 (fun w1 hw1 => ?_)
  obtain rfl := hw1
  refine VC_w ([(h0, .inr (9, [.ref q5, .ref q16, .null, .null])), (q16, .inr (2, [.ref q5, .ref qf, .ref qt, .int (nI 0), .int (nI 0), .int (nI 0), .int (nI 0)])), (q5, .inr (5, [.ref qa, .int (nI 0)])), (qa, aQ (G.2.2.1 2) 6 (rqs ad 10 6)), (qf, aQ (G.2.2.1 3) 12 (rqs ad2 30 12)), (qt, .inr (8, [.int (nI 0), .int (nI 0), .int (nI 0), .int (nI 0), .int (nI 0), .int (nI 0), .int (nI 0), .int (nI 0), .int (nI 0), .long (lN 0)])), (q31, .inr (3, []))] ++ (plF G ad2 (ad 10 0) 12 ++ plC G ad 6)) rfl ?_
  refine VC_putF C 0 ([(h0, .inr (9, [.ref q5, .ref q16, .ref q31, .null])), (q16, .inr (2, [.ref q5, .ref qf, .ref qt, .int (nI 0), .int (nI 0), .int (nI 0), .int (nI 0)])), (q5, .inr (5, [.ref qa, .int (nI 0)])), (qa, aQ (G.2.2.1 2) 6 (rqs ad 10 6)), (qf, aQ (G.2.2.1 3) 12 (rqs ad2 30 12)), (qt, .inr (8, [.int (nI 0), .int (nI 0), .int (nI 0), .int (nI 0), .int (nI 0), .int (nI 0), .int (nI 0), .int (nI 0), .int (nI 0), .long (lN 0)])), (q31, .inr (3, []))] ++ (plF G ad2 (ad 10 0) 12 ++ plC G ad 6)) rfl rfl rfl inwX10 tyX10_ok nmX10 (by decide) fl_X10_28 rfl rfl rfl rfl rfl (Nat.le_of_ble_eq_true rfl) dX10_init_38 ?_
  refine VC_aload_n C dX10_init_41 rfl rfl ?_
  refine VC_new C inwX7 tyX7 tyX7_ok wi_cl_X10_32 wi_inX7 wi_iniX7 (ci := 6) (fs := []) rfl (fun j hj => absurd hj (by omega)) (Nat.le_of_ble_eq_true rfl) (Nat.le_of_ble_eq_true rfl) dX10_init_42 (fun q42 => ?_)
  refine VC_perm perm3 ?_
  refine VC_w ([(h0, .inr (9, [.ref q5, .ref q16, .ref q31, .null])), (q16, .inr (2, [.ref q5, .ref qf, .ref qt, .int (nI 0), .int (nI 0), .int (nI 0), .int (nI 0)])), (q5, .inr (5, [.ref qa, .int (nI 0)])), (qa, aQ (G.2.2.1 2) 6 (rqs ad 10 6)), (qf, aQ (G.2.2.1 3) 12 (rqs ad2 30 12)), (qt, .inr (8, [.int (nI 0), .int (nI 0), .int (nI 0), .int (nI 0), .int (nI 0), .int (nI 0), .int (nI 0), .int (nI 0), .int (nI 0), .long (lN 0)])), (q31, .inr (3, [])), (q42, .inr (6, []))] ++ (plF G ad2 (ad 10 0) 12 ++ plC G ad 6)) rfl ?_
  refine VC_dup C dX10_init_45 rfl ?_
  refine VC_callIN (wr := [(h0, .inr (9, [.ref q5, .ref q16, .ref q31, .null])), (q16, .inr (2, [.ref q5, .ref qf, .ref qt, .int (nI 0), .int (nI 0), .int (nI 0), .int (nI 0)])), (q5, .inr (5, [.ref qa, .int (nI 0)])), (qa, aQ (G.2.2.1 2) 6 (rqs ad 10 6)), (qf, aQ (G.2.2.1 3) 12 (rqs ad2 30 12)), (qt, .inr (8, [.int (nI 0), .int (nI 0), .int (nI 0), .int (nI 0), .int (nI 0), .int (nI 0), .int (nI 0), .int (nI 0), .int (nI 0), .long (lN 0)])), (q31, .inr (3, []))]) C ([(h0, .inr (9, [.ref q5, .ref q16, .ref q31, .null])), (q16, .inr (2, [.ref q5, .ref qf, .ref qt, .int (nI 0), .int (nI 0), .int (nI 0), .int (nI 0)])), (q5, .inr (5, [.ref qa, .int (nI 0)])), (qa, aQ (G.2.2.1 2) 6 (rqs ad 10 6)), (qf, aQ (G.2.2.1 3) 12 (rqs ad2 30 12)), (qt, .inr (8, [.int (nI 0), .int (nI 0), .int (nI 0), .int (nI 0), .int (nI 0), .int (nI 0), .int (nI 0), .int (nI 0), .int (nI 0), .long (lN 0)])), (q31, .inr (3, [])), (q42, .inr (6, []))]) (plF G ad2 (ad 10 0) 12 ++ plC G ad 6) rfl [] ctX7_init cI_X7 lk_X10_34 ⟨(Nat.le_of_ble_eq_true rfl), (Nat.le_of_ble_eq_true rfl)⟩ rfl rfl (Nat.le_of_ble_eq_true rfl) [7] [0, 1, 2, 3, 4, 5, 6] rfl rfl (by decide) rfl (by decide) (by decide) ⟨(Nat.le_of_ble_eq_true rfl), (Nat.le_of_ble_eq_true rfl)⟩ dX10_init_46 (fun w1 hw1 => ?_)
  obtain rfl := hw1
  refine VC_w ([(h0, .inr (9, [.ref q5, .ref q16, .ref q31, .null])), (q16, .inr (2, [.ref q5, .ref qf, .ref qt, .int (nI 0), .int (nI 0), .int (nI 0), .int (nI 0)])), (q5, .inr (5, [.ref qa, .int (nI 0)])), (qa, aQ (G.2.2.1 2) 6 (rqs ad 10 6)), (qf, aQ (G.2.2.1 3) 12 (rqs ad2 30 12)), (qt, .inr (8, [.int (nI 0), .int (nI 0), .int (nI 0), .int (nI 0), .int (nI 0), .int (nI 0), .int (nI 0), .int (nI 0), .int (nI 0), .long (lN 0)])), (q31, .inr (3, [])), (q42, .inr (6, []))] ++ (plF G ad2 (ad 10 0) 12 ++ plC G ad 6)) rfl ?_
  refine VC_putF C 0 ([(h0, .inr (9, [.ref q5, .ref q16, .ref q31, .ref q42])), (q16, .inr (2, [.ref q5, .ref qf, .ref qt, .int (nI 0), .int (nI 0), .int (nI 0), .int (nI 0)])), (q5, .inr (5, [.ref qa, .int (nI 0)])), (qa, aQ (G.2.2.1 2) 6 (rqs ad 10 6)), (qf, aQ (G.2.2.1 3) 12 (rqs ad2 30 12)), (qt, .inr (8, [.int (nI 0), .int (nI 0), .int (nI 0), .int (nI 0), .int (nI 0), .int (nI 0), .int (nI 0), .int (nI 0), .int (nI 0), .long (lN 0)])), (q31, .inr (3, [])), (q42, .inr (6, []))] ++ (plF G ad2 (ad 10 0) 12 ++ plC G ad 6)) rfl rfl rfl inwX10 tyX10_ok nmX10 (by decide) fl_X10_35 rfl rfl rfl rfl rfl (Nat.le_of_ble_eq_true rfl) dX10_init_49 ?_
  refine VC_perm (((perm_idx 8 (l := [(h0, .inr (9, [.ref q5, .ref q16, .ref q31, .ref q42])), (q16, .inr (2, [.ref q5, .ref qf, .ref qt, .int (nI 0), .int (nI 0), .int (nI 0), .int (nI 0)])), (q5, .inr (5, [.ref qa, .int (nI 0)])), (qa, aQ (G.2.2.1 2) 6 (rqs ad 10 6)), (qf, aQ (G.2.2.1 3) 12 (rqs ad2 30 12)), (qt, .inr (8, [.int (nI 0), .int (nI 0), .int (nI 0), .int (nI 0), .int (nI 0), .int (nI 0), .int (nI 0), .int (nI 0), .int (nI 0), .long (lN 0)])), (q31, .inr (3, [])), (q42, .inr (6, []))]) (is := [0, 2, 1, 6, 7, 3, 4, 5]) (by decide) rfl rfl : List.Perm _ ([(h0, .inr (9, [.ref q5, .ref q16, .ref q31, .ref q42])), (q5, .inr (5, [.ref qa, .int (nI 0)])), (q16, .inr (2, [.ref q5, .ref qf, .ref qt, .int (nI 0), .int (nI 0), .int (nI 0), .int (nI 0)])), (q31, .inr (3, [])), (q42, .inr (6, [])), (qa, aQ (G.2.2.1 2) 6 (rqs ad 10 6)), (qf, aQ (G.2.2.1 3) 12 (rqs ad2 30 12)), (qt, .inr (8, [.int (nI 0), .int (nI 0), .int (nI 0), .int (nI 0), .int (nI 0), .int (nI 0), .int (nI 0), .int (nI 0), .int (nI 0), .long (lN 0)]))]))).append (List.perm_append_comm (l₁ := plF G ad2 (ad 10 0) 12) (l₂ := plC G ad 6))) ?_
  refine VC_aQ (g := fun j => some (ad 10 j)) [(h0, .inr (9, [.ref q5, .ref q16, .ref q31, .ref q42])), (q5, .inr (5, [.ref qa, .int (nI 0)])), (q16, .inr (2, [.ref q5, .ref qf, .ref qt, .int (nI 0), .int (nI 0), .int (nI 0), .int (nI 0)])), (q31, .inr (3, [])), (q42, .inr (6, []))] ([(qf, aQ (G.2.2.1 3) 12 (rqs ad2 30 12)), (qt, .inr (8, [.int (nI 0), .int (nI 0), .int (nI 0), .int (nI 0), .int (nI 0), .int (nI 0), .int (nI 0), .int (nI 0), .int (nI 0), .long (lN 0)]))] ++ (plC G ad 6 ++ plF G ad2 (ad 10 0) 12)) rfl (fun j hj => if_pos hj) ?_
  refine VC_aQ (g := fun j => some (ad2 30 j)) [(h0, .inr (9, [.ref q5, .ref q16, .ref q31, .ref q42])), (q5, .inr (5, [.ref qa, .int (nI 0)])), (q16, .inr (2, [.ref q5, .ref qf, .ref qt, .int (nI 0), .int (nI 0), .int (nI 0), .int (nI 0)])), (q31, .inr (3, [])), (q42, .inr (6, [])), (qa, aQ (G.2.2.1 2) 6 (fun j => some (ad 10 j)))] ([(qt, .inr (8, [.int (nI 0), .int (nI 0), .int (nI 0), .int (nI 0), .int (nI 0), .int (nI 0), .int (nI 0), .int (nI 0), .int (nI 0), .long (lN 0)]))] ++ (plC G ad 6 ++ plF G ad2 (ad 10 0) 12)) rfl (fun j hj => if_pos hj) ?_
  refine VC_eq (k := 157) (n := 5365) rfl rfl rfl rfl rfl rfl ?_
  exact VC_vret C E dX10_init_52 ⟨(fun k i => match k with | 0 => h0 | 1 => q5 | 2 => q16 | 3 => q31 | 4 => q42 | 5 => qa | 6 => qf | 7 => qt | k => if k < 25 then ad k i else ad2 k i), rfl, rfl⟩
