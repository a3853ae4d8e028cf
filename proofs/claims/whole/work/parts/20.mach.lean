section VR6
variable {p : Program} {l : Launch} {e : Env} {R : Room} {s : State} {m : MethodId} {args : Array Value} {below : List Frame} {meth : Method} {c : Code} {G : Gm} {nL : Nat} {Q : State → Prop} {M : Mem} {pc : Nat} {lv : List (Nat × Value)} {st : List Value} {cc : ByteArray} {a0 : Cond}
theorem VP_enter (C : Cx p s m args c cc RX2 nL G rX a0) {pk index count : Nat} {rest : List Value} {post : Option Value → Mem → Prop} (hpk : pk = 3 ∨ pk = 4) (As : List Value) (ct3 : pk = 3 → Ct l G rX yX3_enter (.code yX3_enter cX3_enter 3 (some .boolean) :: GW) rmX3_enter (.ref (ad G 3 0) :: As) M post) (ct7 : pk = 4 → Ct l G rX yX7_enter (.code yX7_enter cX7_enter 3 (some .boolean) :: GW) rmX7_enter (.ref (ad G 4 0) :: As) M post) (lk : Cond.methodLink RX2 index ⟨"StepMarks$Pacer", "enter", "(LStepMarks$Frame;LStepMarks$Tally;)Z"⟩ ∈ GW) (hR3 : rmX3_enter.frames + 1 ≤ R.frames ∧ 8 + (3 + 11) + rmX3_enter.locals ≤ R.locals) (hR7 : rmX7_enter.frames + 1 ≤ R.frames ∧ 8 + (3 + 11) + rmX7_enter.locals ≤ R.locals) (hn : As.length = 2) (hst : st = As.reverse ++ .ref (ad G pk 0) :: rest) (hW : (rest.map fun v => v.category).sum ≤ 8) (d : decode cc pc = .ok (.invokeinterface index count, 5)) (kk : ∀ (r : Option Value) (M' : Mem), post r M' → V p l e R s m args below meth c G rX nL Q M' (pc + 5) lv (rcons r rest)) : V p l e R s m args below meth c G rX nL Q M pc lv st := by
  rcases hpk with rfl | rfl
  · exact V_callF C As (ct3 rfl) cf_X3_enter C.2.2.2.2.2.1.2.2.1.1 lk in_3 rfl rfl hR3 hn hst hW d kk
  · exact V_callF C As (ct7 rfl) cf_X7_enter C.2.2.2.2.2.1.2.2.1.2 lk in_4 rfl rfl hR7 hn hst hW d kk
theorem VP_fetch (C : Cx p s m args c cc RX2 nL G rX a0) {pk index count : Nat} {rest : List Value} {post : Option Value → Mem → Prop} (hpk : pk = 3 ∨ pk = 4) (As : List Value) (ct3 : pk = 3 → Ct l G rX yX3_fetch (.code yX3_fetch cX3_fetch 5 (some .boolean) :: GW) rmX3_fetch (.ref (ad G 3 0) :: As) M post) (ct7 : pk = 4 → Ct l G rX yX7_fetch (.code yX7_fetch cX7_fetch 4 (some .boolean) :: GW) rmX7_fetch (.ref (ad G 4 0) :: As) M post) (lk : Cond.methodLink RX2 index ⟨"StepMarks$Pacer", "fetch", "(LStepMarks$Frame;LStepMarks$Tally;)Z"⟩ ∈ GW) (hR3 : rmX3_fetch.frames + 1 ≤ R.frames ∧ 8 + (5 + 11) + rmX3_fetch.locals ≤ R.locals) (hR7 : rmX7_fetch.frames + 1 ≤ R.frames ∧ 8 + (4 + 11) + rmX7_fetch.locals ≤ R.locals) (hn : As.length = 2) (hst : st = As.reverse ++ .ref (ad G pk 0) :: rest) (hW : (rest.map fun v => v.category).sum ≤ 8) (d : decode cc pc = .ok (.invokeinterface index count, 5)) (kk : ∀ (r : Option Value) (M' : Mem), post r M' → V p l e R s m args below meth c G rX nL Q M' (pc + 5) lv (rcons r rest)) : V p l e R s m args below meth c G rX nL Q M pc lv st := by
  rcases hpk with rfl | rfl
  · exact V_callF C As (ct3 rfl) cf_X3_fetch C.2.2.2.2.2.1.2.2.2.1.1 lk in_3 rfl rfl hR3 hn hst hW d kk
  · exact V_callF C As (ct7 rfl) cf_X7_fetch C.2.2.2.2.2.1.2.2.2.1.2 lk in_4 rfl rfl hR7 hn hst hW d kk
theorem VP_jump (C : Cx p s m args c cc RX2 nL G rX a0) {pk index count : Nat} {rest : List Value} {post : Option Value → Mem → Prop} (hpk : pk = 3 ∨ pk = 4) (As : List Value) (ct3 : pk = 3 → Ct l G rX yX3_jump (.code yX3_jump cX3_jump 3 (some .boolean) :: GW) rmX3_jump (.ref (ad G 3 0) :: As) M post) (ct7 : pk = 4 → Ct l G rX yX7_jump (.code yX7_jump cX7_jump 3 (some .boolean) :: GW) rmX7_jump (.ref (ad G 4 0) :: As) M post) (lk : Cond.methodLink RX2 index ⟨"StepMarks$Pacer", "jump", "(LStepMarks$Frame;LStepMarks$Tally;)Z"⟩ ∈ GW) (hR3 : rmX3_jump.frames + 1 ≤ R.frames ∧ 8 + (3 + 11) + rmX3_jump.locals ≤ R.locals) (hR7 : rmX7_jump.frames + 1 ≤ R.frames ∧ 8 + (3 + 11) + rmX7_jump.locals ≤ R.locals) (hn : As.length = 2) (hst : st = As.reverse ++ .ref (ad G pk 0) :: rest) (hW : (rest.map fun v => v.category).sum ≤ 8) (d : decode cc pc = .ok (.invokeinterface index count, 5)) (kk : ∀ (r : Option Value) (M' : Mem), post r M' → V p l e R s m args below meth c G rX nL Q M' (pc + 5) lv (rcons r rest)) : V p l e R s m args below meth c G rX nL Q M pc lv st := by
  rcases hpk with rfl | rfl
  · exact V_callF C As (ct3 rfl) cf_X3_jump C.2.2.2.2.2.1.2.2.2.2.1.1 lk in_3 rfl rfl hR3 hn hst hW d kk
  · exact V_callF C As (ct7 rfl) cf_X7_jump C.2.2.2.2.2.1.2.2.2.2.1.2 lk in_4 rfl rfl hR7 hn hst hW d kk
theorem VP_take (C : Cx p s m args c cc RX2 nL G rX a0) {pk index count : Nat} {rest : List Value} {post : Option Value → Mem → Prop} (hpk : pk = 3 ∨ pk = 4) (As : List Value) (ct3 : pk = 3 → Ct l G rX yX3_take (.code yX3_take cX3_take 4 (some .boolean) :: GW) rmX3_take (.ref (ad G 3 0) :: As) M post) (ct7 : pk = 4 → Ct l G rX yX7_take (.code yX7_take cX7_take 4 (some .boolean) :: GW) rmX7_take (.ref (ad G 4 0) :: As) M post) (lk : Cond.methodLink RX2 index ⟨"StepMarks$Pacer", "take", "(LStepMarks$Frame;ILStepMarks$Tally;)Z"⟩ ∈ GW) (hR3 : rmX3_take.frames + 1 ≤ R.frames ∧ 8 + (4 + 11) + rmX3_take.locals ≤ R.locals) (hR7 : rmX7_take.frames + 1 ≤ R.frames ∧ 8 + (4 + 11) + rmX7_take.locals ≤ R.locals) (hn : As.length = 3) (hst : st = As.reverse ++ .ref (ad G pk 0) :: rest) (hW : (rest.map fun v => v.category).sum ≤ 8) (d : decode cc pc = .ok (.invokeinterface index count, 5)) (kk : ∀ (r : Option Value) (M' : Mem), post r M' → V p l e R s m args below meth c G rX nL Q M' (pc + 5) lv (rcons r rest)) : V p l e R s m args below meth c G rX nL Q M pc lv st := by
  rcases hpk with rfl | rfl
  · exact V_callF C As (ct3 rfl) cf_X3_take C.2.2.2.2.2.1.2.2.2.2.2.1 lk in_3 rfl rfl hR3 hn hst hW d kk
  · exact V_callF C As (ct7 rfl) cf_X7_take C.2.2.2.2.2.1.2.2.2.2.2.2 lk in_4 rfl rfl hR7 hn hst hW d kk
end VR6
/-- the METHODS stay -/
def Sc (M M' : Mem) : Prop := (∀ k i j, 10 ≤ k → k ≤ 24 → gN M' k i j = gN M k i j ∧ gI M' k i j = gI M k i j ∧ gJ M' k i j = gJ M k i j) ∧ gN M' 1 0 1 = gN M 1 0 1
theorem Sc_rf {M : Mem} : Sc M M := ⟨fun _ _ _ _ _ => ⟨rfl, rfl, rfl⟩, rfl⟩
theorem Sc.tr {M M' M'' : Mem} (h : Sc M M') (h2 : Sc M' M'') : Sc M M'' := ⟨fun k i j a b => ⟨(h2.1 k i j a b).1.trans (h.1 k i j a b).1, (h2.1 k i j a b).2.1.trans (h.1 k i j a b).2.1, (h2.1 k i j a b).2.2.trans (h.1 k i j a b).2.2⟩, h2.2.trans h.2⟩
theorem Sc_N {M : Mem} {k i j v : Nat} (h : (k < 10 ∧ k ≠ 1) ∨ 24 < k) : Sc M (sN M k i j v) := ⟨fun a b c h1 h2 => ⟨by rw [gNN, if_neg (by omega)], rfl, rfl⟩, by rw [gNN, if_neg (by omega)]⟩
theorem Sc_I {M : Mem} {k i j : Nat} {v : Int32} (h : k < 10 ∨ 24 < k) : Sc M (sI M k i j v) := ⟨fun a b c h1 h2 => ⟨rfl, by rw [gII, if_neg (by omega)], rfl⟩, rfl⟩
theorem Sc_J {M : Mem} {k i j : Nat} {v : Int64} (h : k < 10 ∨ 24 < k) : Sc M (sJ M k i j v) := ⟨fun a b c h1 h2 => ⟨rfl, rfl, by rw [gJJ, if_neg (by omega)]⟩, rfl⟩
theorem Sc_F {M : Mem} {k i n : Nat} {v : Int64} (h : k < 10 ∨ 24 < k) : Sc M (fJ M k i n v) := ⟨fun a b c h1 h2 => ⟨rfl, rfl, by rw [gJf, if_neg (by omega)]⟩, rfl⟩
theorem Sc_Fx {M M' : Mem} {f : Nat} (h : Fx M M' f) : Sc M M' := ⟨fun k i j h1 h2 => ⟨h.1 k i j (by omega) (by omega), by rw [h.2.1], by rw [h.2.2]⟩, h.1 1 0 1 (by omega) (by omega)⟩
theorem Sc.n {M M' : Mem} (h : Sc M M') {k : Nat} (h1 : 10 ≤ k) (h2 : k ≤ 24) (i : Nat) : gN M' k i = gN M k i := by funext j; exact (h.1 k i j h1 h2).1
theorem Sc.i {M M' : Mem} (h : Sc M M') {k : Nat} (h1 : 10 ≤ k) (h2 : k ≤ 24) (i : Nat) : gI M' k i = gI M k i := by funext j; exact (h.1 k i j h1 h2).2.1
theorem Sc.j {M M' : Mem} (h : Sc M M') {k : Nat} (h1 : 10 ≤ k) (h2 : k ≤ 24) (i : Nat) : gJ M' k i = gJ M k i := by funext j; exact (h.1 k i j h1 h2).2.2
theorem CI_Sc {M M' : Mem} {c : Nat} (h : Sc M M') (hi : CI M c) : CI M' c := CI_of (fun k j h1 h2 => (h.1 k c j h1 (by omega)).1) (fun j => (h.1 14 c j (by omega) (by omega)).2.2) hi
theorem totV_Sc {M M' : Mem} {c : Nat} (h : Sc M M') : totV M' c = totV M c := by
  unfold totV
  rw [h.n (show 10 ≤ 11 by decide) (by decide), h.n (show 10 ≤ 10 by decide) (by decide), h.j (show 10 ≤ 14 by decide) (by decide)]
theorem MkOK_Sc {M M' : Mem} {c : Nat} (h : Sc M M') (hi : MkOK M c) : MkOK M' c := by
  unfold MkOK at hi ⊢
  rw [h.n (show 10 ≤ 10 by decide) (by decide), h.n (show 10 ≤ 11 by decide) (by decide), h.n (show 10 ≤ 12 by decide) (by decide), h.n (show 10 ≤ 17 by decide) (by decide), h.n (show 10 ≤ 19 by decide) (by decide), h.n (show 10 ≤ 20 by decide) (by decide), h.n (show 10 ≤ 21 by decide) (by decide), h.n (show 10 ≤ 24 by decide) (by decide), h.i (show 10 ≤ 22 by decide) (by decide), h.j (show 10 ≤ 14 by decide) (by decide)]
  exact hi
theorem PI_Sc {M M' : Mem} (h : Sc M M') (hi : PI M) : PI M' := ⟨by rw [h.2]; exact hi.1, fun c hc => CI_Sc h (hi.2.1 c hc), fun c hc => MkOK_Sc h (hi.2.2 c (by rw [← h.2]; exact hc))⟩
theorem FrOK_Sc {M M' : Mem} {f c : Nat} (h : Sc M M') (hf : gN M' 30 f 3 = gN M 30 f 3) (hi : FrOK M f c) : FrOK M' f c := ⟨hf.trans hi.1, hi.2.1, CI_Sc h hi.2.2.1, MkOK_Sc h hi.2.2.2.1, by rw [totV_Sc h]; exact hi.2.2.2.2⟩
def stp (M : Mem) : Mem := sI M 2 0 6 (nI 1)
def endF (M : Mem) (f : Nat) : Mem := sN (sI M 2 0 4 (gI M 2 0 4 - nI (0 + gN M 32 f 0 + gN M 32 f 1 + gN M 32 f 2))) 2 0 3 (gN M 2 0 3 - 1)
def LeapP (pk : Nat) (M : Mem) (f c p : Nat) (M' : Mem) : Prop := ∃ r X, JumpP pk M f c p r X ∧ ((some (.int (nI 1)) = r ∧ X = M') ∨ (some (.int (nI 0)) = r ∧ stp X = M'))
def BegP (pk : Nat) (M : Mem) (c : Nat) (x : Int64) (M' : Mem) : Prop := ((70 < totV M c ∨ gN M 2 0 3 = 12) ∧ stp M = M') ∨ (¬ 70 < totV M c ∧ gN M 2 0 3 < 12 ∧ ∃ r X, EnterP pk (fbegin M (gN M 2 0 3) c x) (gN M 2 0 3) c 0 r X ∧ ((some (.int (nI 1)) = r ∧ sN (sN X 2 0 3 (gN M 2 0 3 + 1)) 7 0 4 (max (gN M 7 0 4) (gN M 2 0 3 + 1)) = M') ∨ (some (.int (nI 0)) = r ∧ stp X = M')))
def MakeP (M : Mem) (f : Nat) (x : Int32) (a : Int64) (r : Option Value) (M' : Mem) : Prop := (a.toInt < 0 ∧ some (.int (nI 3)) = r ∧ M = M') ∨ (∃ n, n ≤ 200 ∧ a = lN n ∧ some (.int (nI 0)) = r ∧ sN (fJ (sI (sN M 33 f 2 n) 33 f 1 x) 34 f n (if x = nI 5 ∨ x = nI 6 then -1 else lN 0)) 7 0 6 (gN M 7 0 6 + 1) = M')
def HoldP (M : Mem) (f g : Nat) (M' : Mem) : Prop := sI (sI (sN M 32 f g (gN M 32 f g + 1)) 2 0 4 (gI M 2 0 4 + nI 1)) 7 0 7 (if gI M 7 0 7 < gI M 2 0 4 + nI 1 then gI M 2 0 4 + nI 1 else gI M 7 0 7) = M'
def LetP (M : Mem) (f g : Nat) (r : Option Value) (M' : Mem) : Prop := (0 < gN M 32 f g ∧ some (.int (nI 0)) = r ∧ sI (sN M 32 f g (gN M 32 f g - 1)) 2 0 4 (gI M 2 0 4 - nI 1) = M') ∨ (gN M 32 f g = 0 ∧ some (.int (nI 7)) = r ∧ M = M')
def LookP (M : Mem) (f c p a : Nat) (r : Option Value) (M' : Mem) : Prop :=
  (a = 10 ∧ ((¬ flt (gI M 33 f 1) (gN M 33 f 2) (gJ M 31 f (gN M 13 c p)) = 0 ∧ some (.int (nI (flt (gI M 33 f 1) (gN M 33 f 2) (gJ M 31 f (gN M 13 c p))))) = r ∧ M = M') ∨ (∃ k, gJ M 31 f (gN M 13 c p) = lN k ∧ k < gN M 33 f 2 ∧ ¬ gI M 33 f 1 = -1 ∧ ((gI M 33 f 1 = nI 6 ∧ gJ M 31 f (gN M 12 c p) &&& lN 1 = lN 0 ∧ some (.int (nI 4)) = r ∧ M = M') ∨ (¬ (gI M 33 f 1 = nI 6 ∧ gJ M 31 f (gN M 12 c p) &&& lN 1 = lN 0) ∧ some (.int (nI 0)) = r ∧ sJ M 34 f k (fitt (gI M 33 f 1) (gJ M 31 f (gN M 12 c p))) = M'))))) ∨
  (a = 11 ∧ ∃ n, n ≤ 6 ∧ gJ M 14 c p = lN n ∧ (((gI M 33 f 1 = -1 ∨ gI M 33 f 1 = nI n ∨ (gI M 33 f 1 = nI 6 ∧ n = 5)) ∧ some (.int (nI 0)) = r ∧ M = M') ∨ (¬ (gI M 33 f 1 = -1 ∨ gI M 33 f 1 = nI n ∨ (gI M 33 f 1 = nI 6 ∧ n = 5)) ∧ some (.int (nI 5)) = r ∧ M = M'))) ∨
  (a = 12 ∧ ((gI M 33 f 1 = -1 ∧ some (.int (nI 1)) = r ∧ M = M') ∨ (¬ gI M 33 f 1 = -1 ∧ some (.int (nI 0)) = r ∧ sJ M 31 f (gN M 12 c p) (lN (gN M 33 f 2)) = M'))) ∨
  (a = 9 ∧ ((¬ flt (gI M 33 f 1) (gN M 33 f 2) (gJ M 31 f (gN M 13 c p)) = 0 ∧ some (.int (nI (flt (gI M 33 f 1) (gN M 33 f 2) (gJ M 31 f (gN M 13 c p))))) = r ∧ M = M') ∨ (∃ k, gJ M 31 f (gN M 13 c p) = lN k ∧ k < gN M 33 f 2 ∧ ¬ gI M 33 f 1 = -1 ∧ some (.int (nI 0)) = r ∧ sJ M 31 f (gN M 12 c p) (gJ M 34 f k) = M')))
def ReckP (M : Mem) (f c p a : Nat) (r : Option Value) (M' : Mem) : Prop :=
  (a = 1 ∧ some (.int (nI 0)) = r ∧ sJ M 31 f (gN M 12 c p) (gJ M 31 f (gN M 12 c p) + gJ M 31 f (gN M 13 c p)) = M') ∨ (a = 2 ∧ some (.int (nI 0)) = r ∧ sJ M 31 f (gN M 12 c p) (gJ M 31 f (gN M 12 c p) - gJ M 31 f (gN M 13 c p)) = M') ∨ (a = 3 ∧ some (.int (nI 0)) = r ∧ sJ M 31 f (gN M 12 c p) (gJ M 31 f (gN M 12 c p) * gJ M 31 f (gN M 13 c p)) = M') ∨
  ((a = 4 ∨ a = 5) ∧ gJ M 31 f (gN M 13 c p) = lN 0 ∧ some (.int (nI 6)) = r ∧ M = M') ∨ (a = 4 ∧ ¬ gJ M 31 f (gN M 13 c p) = lN 0 ∧ some (.int (nI 0)) = r ∧ sJ M 31 f (gN M 12 c p) (gJ M 31 f (gN M 12 c p) / gJ M 31 f (gN M 13 c p)) = M') ∨ (a = 5 ∧ ¬ gJ M 31 f (gN M 13 c p) = lN 0 ∧ some (.int (nI 0)) = r ∧ sJ M 31 f (gN M 12 c p) (gJ M 31 f (gN M 12 c p) - gJ M 31 f (gN M 12 c p) / gJ M 31 f (gN M 13 c p) * gJ M 31 f (gN M 13 c p)) = M')
set_option maxRecDepth 20000 in
set_option maxHeartbeats 4000000 in
theorem ct_X2_top {l : Launch} {G : Gm} {M : Mem} (hd : gN M 2 0 3 ≤ 12) : Ct l G rX yX2_top (.code yX2_top cX2_top 1 (some (.object "StepMarks$Frame")) :: GW) rmX2_top [.ref (ad G 2 0)] M (fun r M' => (∃ f, f < 12 ∧ gN M 2 0 3 = f + 1 ∧ some (.ref (ad G 30 f)) = r ∧ M = M') ∨ (gN M 2 0 3 = 0 ∧ some .null = r ∧ M = M')) := by
  refine Ct_of (cc := cX2_top) (by decide) [(0, _)] rfl (Nat.le_of_ble_eq_true rfl) (fun pp ee ss mm aa bb mt cd C E => ?_)
  refine V_aload_n C dX2_top_0 rfl rfl ?_
  refine gf_X2_24 C dX2_top_1 ?_
  refine V_i2lN C dX2_top_4 (by omega) ?_
  refine V_lconst C (lN 1) dX2_top_5 (by decide) ?_
  refine V_ldc2 C kL_X2_101 dX2_top_6 ?_
  refine V_callSN C [_, _, _] (ct_X10_within) cs_X10_within lk_X2_52 ⟨Nat.le_of_ble_eq_true rfl, Nat.le_of_ble_eq_true rfl⟩ rfl rfl (Nat.le_of_ble_eq_true rfl) dX2_top_9 (fun r M' hr => ?_)
  obtain ⟨rfl, rfl⟩ := hr
  refine V_ifB_eq (tgt := 29) C dX2_top_12 (by decide) (fun h12 => ?_) (fun h12 => ?_)
  · skip
    rw [pk_lLE (by omega) (by omega), pk_lLE (by omega) (by omega)] at h12
    refine V_null C dX2_top_29 ?_
    refine V_aret C E dX2_top_30 (Or.inl rfl) ?_
    first | exact Or.inl ⟨_, by omega, by omega, rfl, rfl⟩ | exact Or.inr ⟨by omega, rfl, rfl⟩
  · skip
    rw [pk_lLE (by omega) (by omega), pk_lLE (by omega) (by omega)] at h12
    refine V_aload_n C dX2_top_15 rfl rfl ?_
    refine gf_X2_11 C dX2_top_16 ?_
    refine V_aload_n C dX2_top_19 rfl rfl ?_
    refine gf_X2_24 C dX2_top_20 ?_
    refine V_iconst C (nI 1) dX2_top_23 (by decide) ?_
    refine V_isubN C dX2_top_24 (by omega) ?_
    refine ld_6 C (by omega) dX2_top_25 ?_
    refine V_goto (tgt := 30) C dX2_top_26 (by decide) ?_
    refine V_aret C E dX2_top_30 (Or.inr ⟨_, rfl⟩) ?_
    first | exact Or.inl ⟨_, by omega, by omega, rfl, rfl⟩ | exact Or.inr ⟨by omega, rfl, rfl⟩

set_option maxRecDepth 20000 in
set_option maxHeartbeats 4000000 in
theorem ct_X2_stop {l : Launch} {G : Gm} {M : Mem}  : Ct l G rX yX2_stop (.code yX2_stop cX2_stop 1 none :: GW) rmX2_stop [.ref (ad G 2 0)] M (fun r M' => none = r ∧ stp M = M') := by
  refine Ct_of (cc := cX2_stop) (by decide) [(0, _)] rfl (Nat.le_of_ble_eq_true rfl) (fun pp ee ss mm aa bb mt cd C E => ?_)
  refine V_aload_n C dX2_stop_0 rfl rfl ?_
  refine V_iconst C (nI 1) dX2_stop_1 (by decide) ?_
  refine pf_X2_34 C dX2_stop_2 ?_
  refine V_vret C E dX2_stop_5 ?_
  exact ⟨rfl, rfl⟩

set_option maxRecDepth 20000 in
set_option maxHeartbeats 4000000 in
theorem ct_X2_endFrame {l : Launch} {G : Gm} {M : Mem} {f : Nat} (hf : f < 12) (hd : 1 ≤ gN M 2 0 3) : Ct l G rX yX2_endFrame (.code yX2_endFrame cX2_endFrame 2 none :: GW) rmX2_endFrame [.ref (ad G 2 0), .ref (ad G 30 f)] M (fun r M' => none = r ∧ endF M f = M') := by
  refine Ct_of (cc := cX2_endFrame) (by decide) [(0, _), (1, _)] rfl (Nat.le_of_ble_eq_true rfl) (fun pp ee ss mm aa bb mt cd C E => ?_)
  refine V_aload_n C dX2_endFrame_0 rfl rfl ?_
  refine V_dup C dX2_endFrame_1 rfl ?_
  refine gf_X2_28 C dX2_endFrame_2 ?_
  try simp only [gNN, gNI, gNJ, gIN, gII, gIJ, gJN, gJI, gJJ, Nat.reduceEqDiff, false_and, and_false, true_and, and_true, if_false, if_true]
  refine V_aload_n C dX2_endFrame_5 rfl rfl ?_
  refine V_callV C [] (ct_X1_held (by omega)) cv_X1_held lk_X2_119 (in_30 (by omega)) rfl rfl ⟨Nat.le_of_ble_eq_true rfl, Nat.le_of_ble_eq_true rfl⟩ rfl rfl (Nat.le_of_ble_eq_true rfl) dX2_endFrame_6 (fun r M' hr => ?_)
  obtain ⟨rfl, rfl⟩ := hr
  try simp only [gNN, gNI, gNJ, gIN, gII, gIJ, gJN, gJI, gJJ, Nat.reduceEqDiff, false_and, and_false, true_and, and_true, if_false, if_true]
  refine V_isub C dX2_endFrame_9 ?_
  refine pf_X2_28 C dX2_endFrame_10 ?_
  refine V_aload_n C dX2_endFrame_13 rfl rfl ?_
  refine V_dup C dX2_endFrame_14 rfl ?_
  refine gf_X2_24 C dX2_endFrame_15 ?_
  try simp only [gNN, gNI, gNJ, gIN, gII, gIJ, gJN, gJI, gJJ, Nat.reduceEqDiff, false_and, and_false, true_and, and_true, if_false, if_true]
  refine V_iconst C (nI 1) dX2_endFrame_18 (by decide) ?_
  refine V_isubN C dX2_endFrame_19 (by omega) ?_
  refine pf_X2_24 C dX2_endFrame_20 ?_
  refine V_vret C E dX2_endFrame_23 ?_
  exact ⟨rfl, rfl⟩

set_option maxRecDepth 20000 in
set_option maxHeartbeats 4000000 in
theorem ct_X2_make {l : Launch} {G : Gm} {M : Mem} {f : Nat} (hf : f < 12) {x : Int32} {a : Int64} (ha : a.toInt ≤ 200) : Ct l G rX yX2_make (.code yX2_make cX2_make 6 (some .int) :: GW) rmX2_make [.ref (ad G 2 0), .ref (ad G 30 f), .int x, .long a] M (fun r M' => MakeP M f x a r M') := by
  refine Ct_of (cc := cX2_make) (by decide) [(0, _), (1, _), (2, _), (3, _)] rfl (Nat.le_of_ble_eq_true rfl) (fun pp ee ss mm aa bb mt cd C E => ?_)
  refine V_aload_n C dX2_make_0 rfl rfl ?_
  refine gf_X2_191 C (by omega) dX2_make_1 ?_
  refine V_iload_n C dX2_make_4 rfl rfl ?_
  refine V_lload_n C dX2_make_5 rfl rfl ?_
  refine V_callV C [_, _] (ct_X8_make hf ha) cv_X8_make lk_X2_195 (in_33 (by omega)) rfl rfl ⟨Nat.le_of_ble_eq_true rfl, Nat.le_of_ble_eq_true rfl⟩ rfl rfl (Nat.le_of_ble_eq_true rfl) dX2_make_6 (fun r M' hr => ?_)
  rcases hr with ⟨hneg, rfl, rfl⟩ | ⟨n, hn, han, rfl, rfl⟩
  · skip
    refine V_istore (lv' := [(5, _), (0, _), (1, _), (2, _), (3, _)]) C dX2_make_9 (by decide) rfl ?_
    refine V_iload C dX2_make_11 rfl ?_
    refine V_ifN_ne (tgt := 29) C dX2_make_13 (by omega) (by decide) (fun h13 => ?_) (fun h13 => ?_)
    · skip
      refine V_iload C dX2_make_29 rfl ?_
      refine V_iret C E dX2_make_31 ?_
      first | exact Or.inl ⟨hneg, rfl, rfl⟩ | exact Or.inr ⟨n, hn, han, rfl, by rw [show gN (fJ (sI (sN M 33 f 2 n) 33 f 1 x) 34 f n (if x = nI 5 ∨ x = nI 6 then -1 else lN 0)) 7 0 6 = gN M 7 0 6 by simp [gNf, gNI, gNN]]⟩ | omega
    · skip
      refine V_aload_n C dX2_make_16 rfl rfl ?_
      refine gf_X2_20 C dX2_make_17 ?_
      refine V_dup C dX2_make_20 rfl ?_
      refine gf_X2_200 C dX2_make_21 ?_
      refine V_iconst C (nI 1) dX2_make_24 (by decide) ?_
      refine V_iaddN C dX2_make_25 ?_
      refine pf_X2_200 C dX2_make_26 ?_
      refine V_iload C dX2_make_29 rfl ?_
      refine V_iret C E dX2_make_31 ?_
      first | exact Or.inl ⟨hneg, rfl, rfl⟩ | exact Or.inr ⟨n, hn, han, rfl, by rw [show gN (fJ (sI (sN M 33 f 2 n) 33 f 1 x) 34 f n (if x = nI 5 ∨ x = nI 6 then -1 else lN 0)) 7 0 6 = gN M 7 0 6 by simp [gNf, gNI, gNN]]⟩ | omega
  · skip
    refine V_istore (lv' := [(5, _), (0, _), (1, _), (2, _), (3, _)]) C dX2_make_9 (by decide) rfl ?_
    refine V_iload C dX2_make_11 rfl ?_
    refine V_ifN_ne (tgt := 29) C dX2_make_13 (by omega) (by decide) (fun h13 => ?_) (fun h13 => ?_)
    · skip
      refine V_iload C dX2_make_29 rfl ?_
      refine V_iret C E dX2_make_31 ?_
      first | exact Or.inl ⟨hneg, rfl, rfl⟩ | exact Or.inr ⟨n, hn, han, rfl, by rw [show gN (fJ (sI (sN M 33 f 2 n) 33 f 1 x) 34 f n (if x = nI 5 ∨ x = nI 6 then -1 else lN 0)) 7 0 6 = gN M 7 0 6 by simp [gNf, gNI, gNN]]⟩ | omega
    · skip
      refine V_aload_n C dX2_make_16 rfl rfl ?_
      refine gf_X2_20 C dX2_make_17 ?_
      refine V_dup C dX2_make_20 rfl ?_
      refine gf_X2_200 C dX2_make_21 ?_
      refine V_iconst C (nI 1) dX2_make_24 (by decide) ?_
      refine V_iaddN C dX2_make_25 ?_
      refine pf_X2_200 C dX2_make_26 ?_
      refine V_iload C dX2_make_29 rfl ?_
      refine V_iret C E dX2_make_31 ?_
      first | exact Or.inl ⟨hneg, rfl, rfl⟩ | exact Or.inr ⟨n, hn, han, rfl, by rw [show gN (fJ (sI (sN M 33 f 2 n) 33 f 1 x) 34 f n (if x = nI 5 ∨ x = nI 6 then -1 else lN 0)) 7 0 6 = gN M 7 0 6 by simp [gNf, gNI, gNN]]⟩ | omega

set_option maxRecDepth 20000 in
set_option maxHeartbeats 4000000 in
theorem ct_X2_hold {l : Launch} {G : Gm} {M : Mem} {f : Nat} (hf : f < 12) {g : Nat} (hg : g ≤ 2) : Ct l G rX yX2_hold (.code yX2_hold cX2_hold 4 (some .int) :: GW) rmX2_hold [.ref (ad G 2 0), .ref (ad G 30 f), .long (lN g)] M (fun r M' => some (.int (nI 0)) = r ∧ HoldP M f g M') := by
  refine Ct_of (cc := cX2_hold) (by decide) [(0, _), (1, _), (2, _)] rfl (Nat.le_of_ble_eq_true rfl) (fun pp ee ss mm aa bb mt cd C E => ?_)
  refine V_aload_n C dX2_hold_0 rfl rfl ?_
  refine V_lload_n C dX2_hold_1 rfl rfl ?_
  refine V_callV C [_] (ct_X1_hold hf hg) cv_X1_hold lk_X2_233 (in_30 (by omega)) rfl rfl ⟨Nat.le_of_ble_eq_true rfl, Nat.le_of_ble_eq_true rfl⟩ rfl rfl (Nat.le_of_ble_eq_true rfl) dX2_hold_2 (fun r M' hr => ?_)
  obtain ⟨rfl, rfl⟩ := hr
  try simp only [gNN, gNI, gNJ, gIN, gII, gIJ, gJN, gJI, gJJ, Nat.reduceEqDiff, false_and, and_false, true_and, and_true, if_false, if_true]
  refine V_ifN_eq (tgt := 39) C dX2_hold_5 (by omega) (by decide) (fun h5 => ?_) (fun h5 => ?_)
  · skip
    refine V_iconst C (nI 0) dX2_hold_39 (by decide) ?_
    refine V_iret C E dX2_hold_40 ?_
    first | exact ⟨rfl, rfl⟩ | omega
  · skip
    refine V_aload_n C dX2_hold_8 rfl rfl ?_
    refine V_dup C dX2_hold_9 rfl ?_
    refine gf_X2_28 C dX2_hold_10 ?_
    try simp only [gNN, gNI, gNJ, gIN, gII, gIJ, gJN, gJI, gJJ, Nat.reduceEqDiff, false_and, and_false, true_and, and_true, if_false, if_true]
    refine V_iconst C (nI 1) dX2_hold_13 (by decide) ?_
    refine V_iadd C dX2_hold_14 ?_
    refine pf_X2_28 C dX2_hold_15 ?_
    refine V_aload_n C dX2_hold_18 rfl rfl ?_
    refine gf_X2_20 C dX2_hold_19 ?_
    try simp only [gNN, gNI, gNJ, gIN, gII, gIJ, gJN, gJI, gJJ, Nat.reduceEqDiff, false_and, and_false, true_and, and_true, if_false, if_true]
    refine V_aload_n C dX2_hold_22 rfl rfl ?_
    refine gf_X2_20 C dX2_hold_23 ?_
    try simp only [gNN, gNI, gNJ, gIN, gII, gIJ, gJN, gJI, gJJ, Nat.reduceEqDiff, false_and, and_false, true_and, and_true, if_false, if_true]
    refine gf_X2_235 C dX2_hold_26 ?_
    try simp only [gNN, gNI, gNJ, gIN, gII, gIJ, gJN, gJI, gJJ, Nat.reduceEqDiff, false_and, and_false, true_and, and_true, if_false, if_true]
    refine V_aload_n C dX2_hold_29 rfl rfl ?_
    refine gf_X2_28 C dX2_hold_30 ?_
    try simp only [gNN, gNI, gNJ, gIN, gII, gIJ, gJN, gJI, gJJ, Nat.reduceEqDiff, false_and, and_false, true_and, and_true, if_false, if_true]
    refine V_mmax C lk_X2_113 ms_max mi_Math mc_max (by decide) (Nat.le_of_ble_eq_true rfl) dX2_hold_33 ?_
    refine pf_X2_235 C dX2_hold_36 ?_
    refine V_iconst C (nI 0) dX2_hold_39 (by decide) ?_
    refine V_iret C E dX2_hold_40 ?_
    first | exact ⟨rfl, rfl⟩ | omega

set_option maxRecDepth 20000 in
set_option maxHeartbeats 4000000 in
theorem ct_X2_let {l : Launch} {G : Gm} {M : Mem} {f : Nat} (hf : f < 12) {g : Nat} (hg : g ≤ 2) (hb : gN M 32 f g ≤ 2000) : Ct l G rX yX2_let (.code yX2_let cX2_let 4 (some .int) :: GW) rmX2_let [.ref (ad G 2 0), .ref (ad G 30 f), .long (lN g)] M (fun r M' => LetP M f g r M') := by
  refine Ct_of (cc := cX2_let) (by decide) [(0, _), (1, _), (2, _)] rfl (Nat.le_of_ble_eq_true rfl) (fun pp ee ss mm aa bb mt cd C E => ?_)
  refine V_aload_n C dX2_let_0 rfl rfl ?_
  refine V_lload_n C dX2_let_1 rfl rfl ?_
  refine V_callV C [_] (ct_X1_let hf hg hb) cv_X1_let lk_X2_238 (in_30 (by omega)) rfl rfl ⟨Nat.le_of_ble_eq_true rfl, Nat.le_of_ble_eq_true rfl⟩ rfl rfl (Nat.le_of_ble_eq_true rfl) dX2_let_2 (fun r M' hr => ?_)
  obtain ⟨rfl, rfl⟩ := hr
  refine V_ifB_ne (tgt := 11) C dX2_let_5 (by decide) (fun h5 => ?_) (fun h5 => ?_)
  · skip
    rw [if_pos h5]
    refine V_aload_n C dX2_let_11 rfl rfl ?_
    refine V_dup C dX2_let_12 rfl ?_
    refine gf_X2_28 C dX2_let_13 ?_
    refine V_iconst C (nI 1) dX2_let_16 (by decide) ?_
    refine V_isub C dX2_let_17 ?_
    refine pf_X2_28 C dX2_let_18 ?_
    refine V_iconst C (nI 0) dX2_let_21 (by decide) ?_
    refine V_iret C E dX2_let_22 ?_
    exact Or.inl ⟨h5, rfl, rfl⟩
  · skip
    rw [if_neg h5]
    refine V_bipush C (nI 7) dX2_let_8 (by decide) ?_
    refine V_iret C E dX2_let_10 ?_
    exact Or.inr ⟨by omega, rfl, rfl⟩

set_option maxRecDepth 20000 in
set_option maxHeartbeats 4000000 in
theorem ct_X2_reckon {l : Launch} {G : Gm} {M : Mem} {f c p : Nat} (hf : f < 12) (hF : FrOK M f c) (hp : gN M 30 f 4 = p) (hp2 : p < gN M 10 c 4) {a : Nat} (ha : 1 ≤ a ∧ a ≤ 5) : Ct l G rX yX2_reckon (.code yX2_reckon cX2_reckon 8 (some .int) :: GW) rmX2_reckon [.ref (ad G 2 0), .ref (ad G 30 f), .int (nI a)] M (fun r M' => ReckP M f c p a r M') := by
  have hc := hF.1
  have hc6 := hF.2.1
  have hi := hF.2.2.1
  have hs := hi.1
  have hrg := hi.2.2.1 p (by omega)
  refine Ct_of (cc := cX2_reckon) (by decide) [(0, _), (1, _), (2, _)] rfl (Nat.le_of_ble_eq_true rfl) (fun pp ee ss mm aa bb mt cd C E => ?_)
  refine V_aload_n C dX2_reckon_0 rfl rfl ?_
  refine gf_X2_122 C (by omega) dX2_reckon_1 ?_
  rw [hc]
  refine V_aload_n C dX2_reckon_4 rfl rfl ?_
  refine gf_X2_126 C (by omega) dX2_reckon_5 ?_
  rw [hp]
  refine V_callV C [_] (ct_X0_first hc6 hi (by omega)) cv_X0_first lk_X2_133 (in_10 (by omega)) rfl rfl ⟨Nat.le_of_ble_eq_true rfl, Nat.le_of_ble_eq_true rfl⟩ rfl rfl (Nat.le_of_ble_eq_true rfl) dX2_reckon_8 (fun r M' hr => ?_)
  obtain ⟨rfl, rfl⟩ := hr
  rw [if_pos hp2]
  refine V_istore_n (lv' := [(3, _), (0, _), (1, _), (2, _)]) C dX2_reckon_11 rfl (by decide) rfl ?_
  refine V_aload_n C dX2_reckon_12 rfl rfl ?_
  refine V_iload_n C dX2_reckon_13 rfl rfl ?_
  refine V_callV C [_] (ct_X1_register (by omega) (by omega)) cv_X1_register lk_X2_147 (in_30 (by omega)) rfl rfl ⟨Nat.le_of_ble_eq_true rfl, Nat.le_of_ble_eq_true rfl⟩ rfl rfl (Nat.le_of_ble_eq_true rfl) dX2_reckon_14 (fun r M' hr => ?_)
  obtain ⟨rfl, rfl⟩ := hr
  refine V_lstore (lv' := [(4, _), (3, _), (0, _), (1, _), (2, _)]) C dX2_reckon_17 (by decide) rfl ?_
  refine V_aload_n C dX2_reckon_19 rfl rfl ?_
  refine V_aload_n C dX2_reckon_20 rfl rfl ?_
  refine gf_X2_122 C (by omega) dX2_reckon_21 ?_
  rw [hc]
  refine V_aload_n C dX2_reckon_24 rfl rfl ?_
  refine gf_X2_126 C (by omega) dX2_reckon_25 ?_
  rw [hp]
  refine V_callV C [_] (ct_X0_second hc6 hi (by omega)) cv_X0_second lk_X2_185 (in_10 (by omega)) rfl rfl ⟨Nat.le_of_ble_eq_true rfl, Nat.le_of_ble_eq_true rfl⟩ rfl rfl (Nat.le_of_ble_eq_true rfl) dX2_reckon_28 (fun r M' hr => ?_)
  obtain ⟨rfl, rfl⟩ := hr
  rw [if_pos hp2]
  refine V_callV C [_] (ct_X1_register (by omega) (by omega)) cv_X1_register lk_X2_147 (in_30 (by omega)) rfl rfl ⟨Nat.le_of_ble_eq_true rfl, Nat.le_of_ble_eq_true rfl⟩ rfl rfl (Nat.le_of_ble_eq_true rfl) dX2_reckon_31 (fun r M' hr => ?_)
  obtain ⟨rfl, rfl⟩ := hr
  refine V_lstore (lv' := [(6, _), (4, _), (3, _), (0, _), (1, _), (2, _)]) C dX2_reckon_34 (by decide) rfl ?_
  refine V_iload_n C dX2_reckon_36 rfl rfl ?_
  by_cases h37_1 : a = 1
  · refine V_tabIn (tgt := 64) C dX2_reckon_37 (1) (by rw [h37_1]; decide) (by decide) (by decide) rfl (by decide) ?_
    subst h37_1
    refine V_aload_n C dX2_reckon_64 rfl rfl ?_
    refine V_iload_n C dX2_reckon_65 rfl rfl ?_
    refine V_lload C dX2_reckon_66 rfl ?_
    refine V_lload C dX2_reckon_68 rfl ?_
    refine V_ladd C dX2_reckon_70 ?_
    refine V_callV C [_, _] (ct_X1_become (by omega) (by omega)) cv_X1_become lk_X2_139 (in_30 (by omega)) rfl rfl ⟨Nat.le_of_ble_eq_true rfl, Nat.le_of_ble_eq_true rfl⟩ rfl rfl (Nat.le_of_ble_eq_true rfl) dX2_reckon_71 (fun r M' hr => ?_)
    obtain ⟨rfl, rfl⟩ := hr
    refine V_iconst C (nI 0) dX2_reckon_74 (by decide) ?_
    refine V_iret C E dX2_reckon_75 ?_
    exact Or.inl ⟨rfl, rfl, rfl⟩
  by_cases h37_2 : a = 2
  · refine V_tabIn (tgt := 76) C dX2_reckon_37 (2) (by rw [h37_2]; decide) (by decide) (by decide) rfl (by decide) ?_
    subst h37_2
    refine V_aload_n C dX2_reckon_76 rfl rfl ?_
    refine V_iload_n C dX2_reckon_77 rfl rfl ?_
    refine V_lload C dX2_reckon_78 rfl ?_
    refine V_lload C dX2_reckon_80 rfl ?_
    refine V_lsub C dX2_reckon_82 ?_
    refine V_callV C [_, _] (ct_X1_become (by omega) (by omega)) cv_X1_become lk_X2_139 (in_30 (by omega)) rfl rfl ⟨Nat.le_of_ble_eq_true rfl, Nat.le_of_ble_eq_true rfl⟩ rfl rfl (Nat.le_of_ble_eq_true rfl) dX2_reckon_83 (fun r M' hr => ?_)
    obtain ⟨rfl, rfl⟩ := hr
    refine V_iconst C (nI 0) dX2_reckon_86 (by decide) ?_
    refine V_iret C E dX2_reckon_87 ?_
    exact Or.inr (Or.inl ⟨rfl, rfl, rfl⟩)
  by_cases h37_3 : a = 3
  · refine V_tabIn (tgt := 88) C dX2_reckon_37 (3) (by rw [h37_3]; decide) (by decide) (by decide) rfl (by decide) ?_
    subst h37_3
    refine V_aload_n C dX2_reckon_88 rfl rfl ?_
    refine V_iload_n C dX2_reckon_89 rfl rfl ?_
    refine V_lload C dX2_reckon_90 rfl ?_
    refine V_lload C dX2_reckon_92 rfl ?_
    refine V_lmul C dX2_reckon_94 ?_
    refine V_callV C [_, _] (ct_X1_become (by omega) (by omega)) cv_X1_become lk_X2_139 (in_30 (by omega)) rfl rfl ⟨Nat.le_of_ble_eq_true rfl, Nat.le_of_ble_eq_true rfl⟩ rfl rfl (Nat.le_of_ble_eq_true rfl) dX2_reckon_95 (fun r M' hr => ?_)
    obtain ⟨rfl, rfl⟩ := hr
    refine V_iconst C (nI 0) dX2_reckon_98 (by decide) ?_
    refine V_iret C E dX2_reckon_99 ?_
    exact Or.inr (Or.inr (Or.inl ⟨rfl, rfl, rfl⟩))
  refine V_tabOut (tgt := 100) C dX2_reckon_37 (by rw [nI_toInt (show a < 2 ^ 31 by omega)]; omega) (by decide) ?_
  refine V_lload C dX2_reckon_100 rfl ?_
  refine V_lconst C (lN 0) dX2_reckon_102 (by decide) ?_
  refine V_lcmp C dX2_reckon_103 ?_
  refine V_ifL_ne (tgt := 110) C dX2_reckon_104 (by decide) (fun h104 => ?_) (fun h104 => ?_)
  · skip
    refine V_aload_n C dX2_reckon_110 rfl rfl ?_
    refine V_iload_n C dX2_reckon_111 rfl rfl ?_
    refine V_iload_n C dX2_reckon_112 rfl rfl ?_
    refine V_iconst C (nI 4) dX2_reckon_113 (by decide) ?_
    refine V_icmpN_ne (tgt := 125) C dX2_reckon_114 (by omega) (by omega) (by decide) (fun h114 => ?_) (fun h114 => ?_)
    · skip
      refine V_lload C dX2_reckon_125 rfl ?_
      refine V_lload C dX2_reckon_127 rfl ?_
      refine V_lrem C dX2_reckon_129 (fun q => h104 (by rw [q]; decide)) ?_
      refine V_callV C [_, _] (ct_X1_become (by omega) (by omega)) cv_X1_become lk_X2_139 (in_30 (by omega)) rfl rfl ⟨Nat.le_of_ble_eq_true rfl, Nat.le_of_ble_eq_true rfl⟩ rfl rfl (Nat.le_of_ble_eq_true rfl) dX2_reckon_130 (fun r M' hr => ?_)
      obtain ⟨rfl, rfl⟩ := hr
      refine V_iconst C (nI 0) dX2_reckon_133 (by decide) ?_
      refine V_iret C E dX2_reckon_134 ?_
      first | exact Or.inr (Or.inr (Or.inr (Or.inr (Or.inl ⟨h114, h104, rfl, rfl⟩)))) | exact Or.inr (Or.inr (Or.inr (Or.inr (Or.inr ⟨by omega, h104, rfl, rfl⟩))))
    · skip
      refine V_lload C dX2_reckon_117 rfl ?_
      refine V_lload C dX2_reckon_119 rfl ?_
      refine V_ldiv C dX2_reckon_121 (fun q => h104 (by rw [q]; decide)) ?_
      refine V_goto (tgt := 130) C dX2_reckon_122 (by decide) ?_
      refine V_callV C [_, _] (ct_X1_become (by omega) (by omega)) cv_X1_become lk_X2_139 (in_30 (by omega)) rfl rfl ⟨Nat.le_of_ble_eq_true rfl, Nat.le_of_ble_eq_true rfl⟩ rfl rfl (Nat.le_of_ble_eq_true rfl) dX2_reckon_130 (fun r M' hr => ?_)
      obtain ⟨rfl, rfl⟩ := hr
      refine V_iconst C (nI 0) dX2_reckon_133 (by decide) ?_
      refine V_iret C E dX2_reckon_134 ?_
      first | exact Or.inr (Or.inr (Or.inr (Or.inr (Or.inl ⟨h114, h104, rfl, rfl⟩)))) | exact Or.inr (Or.inr (Or.inr (Or.inr (Or.inr ⟨by omega, h104, rfl, rfl⟩))))
  · skip
    refine V_bipush C (nI 6) dX2_reckon_107 (by decide) ?_
    refine V_iret C E dX2_reckon_109 ?_
    exact Or.inr (Or.inr (Or.inr (Or.inl ⟨by omega, h104, rfl, rfl⟩)))

set_option maxRecDepth 20000 in
set_option maxHeartbeats 4000000 in
theorem ct_X2_look {l : Launch} {G : Gm} {M : Mem} {f c p : Nat} (hf : f < 12) (hF : FrOK M f c) (hp : gN M 30 f 4 = p) (hp2 : p < gN M 10 c 4) {a : Nat} (ha : 9 ≤ a ∧ a ≤ 12) (haa : a = gN M 11 c p) (hn : gN M 33 f 2 ≤ 200) : Ct l G rX yX2_look (.code yX2_look cX2_look 8 (some .int) :: GW) rmX2_look [.ref (ad G 2 0), .ref (ad G 30 f), .int (nI a)] M (fun r M' => LookP M f c p a r M') := by
  have hc := hF.1
  have hc6 := hF.2.1
  have hi := hF.2.2.1
  have hs := hi.1
  have hrg := hi.2.2.1 p (by omega)
  refine Ct_of (cc := cX2_look) (by decide) [(0, _), (1, _), (2, _)] rfl (Nat.le_of_ble_eq_true rfl) (fun pp ee ss mm aa bb mt cd C E => ?_)
  refine V_aload_n C dX2_look_0 rfl rfl ?_
  refine gf_X2_191 C (by omega) dX2_look_1 ?_
  refine V_astore_n (lv' := [(3, _), (0, _), (1, _), (2, _)]) C dX2_look_4 rfl (by decide) rfl ?_
  refine V_aload_n C dX2_look_5 rfl rfl ?_
  refine gf_X2_122 C (by omega) dX2_look_6 ?_
  rw [hc]
  refine V_aload_n C dX2_look_9 rfl rfl ?_
  refine gf_X2_126 C (by omega) dX2_look_10 ?_
  rw [hp]
  refine V_callV C [_] (ct_X0_first hc6 hi (by omega)) cv_X0_first lk_X2_133 (in_10 (by omega)) rfl rfl ⟨Nat.le_of_ble_eq_true rfl, Nat.le_of_ble_eq_true rfl⟩ rfl rfl (Nat.le_of_ble_eq_true rfl) dX2_look_13 (fun r M' hr => ?_)
  obtain ⟨rfl, rfl⟩ := hr
  rw [if_pos hp2]
  refine V_istore (lv' := [(4, _), (3, _), (0, _), (1, _), (2, _)]) C dX2_look_16 (by decide) rfl ?_
  refine V_aload_n C dX2_look_18 rfl rfl ?_
  refine V_aload_n C dX2_look_19 rfl rfl ?_
  refine gf_X2_122 C (by omega) dX2_look_20 ?_
  rw [hc]
  refine V_aload_n C dX2_look_23 rfl rfl ?_
  refine gf_X2_126 C (by omega) dX2_look_24 ?_
  rw [hp]
  refine V_callV C [_] (ct_X0_second hc6 hi (by omega)) cv_X0_second lk_X2_185 (in_10 (by omega)) rfl rfl ⟨Nat.le_of_ble_eq_true rfl, Nat.le_of_ble_eq_true rfl⟩ rfl rfl (Nat.le_of_ble_eq_true rfl) dX2_look_27 (fun r M' hr => ?_)
  obtain ⟨rfl, rfl⟩ := hr
  rw [if_pos hp2]
  refine V_callV C [_] (ct_X1_register (by omega) (by omega)) cv_X1_register lk_X2_147 (in_30 (by omega)) rfl rfl ⟨Nat.le_of_ble_eq_true rfl, Nat.le_of_ble_eq_true rfl⟩ rfl rfl (Nat.le_of_ble_eq_true rfl) dX2_look_30 (fun r M' hr => ?_)
  obtain ⟨rfl, rfl⟩ := hr
  refine V_lstore (lv' := [(5, _), (4, _), (3, _), (0, _), (1, _), (2, _)]) C dX2_look_33 (by decide) rfl ?_
  refine V_iload_n C dX2_look_35 rfl rfl ?_
  refine V_bipush C (nI 10) dX2_look_36 (by decide) ?_
  refine V_icmpN_ne (tgt := 54) C dX2_look_38 (by omega) (by omega) (by decide) (fun h38 => ?_) (fun h38 => ?_)
  · skip
    refine V_iload_n C dX2_look_54 rfl rfl ?_
    refine V_bipush C (nI 11) dX2_look_55 (by decide) ?_
    refine V_icmpN_ne (tgt := 84) C dX2_look_57 (by omega) (by omega) (by decide) (fun h57 => ?_) (fun h57 => ?_)
    · skip
      refine V_iload_n C dX2_look_84 rfl rfl ?_
      refine V_bipush C (nI 12) dX2_look_85 (by decide) ?_
      refine V_icmpN_ne (tgt := 113) C dX2_look_87 (by omega) (by omega) (by decide) (fun h87 => ?_) (fun h87 => ?_)
      · skip
        refine V_aload_n C dX2_look_113 rfl rfl ?_
        refine V_lload C dX2_look_114 rfl ?_
        refine V_callV C [_] (ct_X8_fault hf hn) cv_X8_fault lk_X2_217 (in_33 (by omega)) rfl rfl ⟨Nat.le_of_ble_eq_true rfl, Nat.le_of_ble_eq_true rfl⟩ rfl rfl (Nat.le_of_ble_eq_true rfl) dX2_look_116 (fun r M' hr => ?_)
        obtain ⟨rfl, rfl⟩ := hr
        have hfl := flt_le (gI M 33 f 1) (gN M 33 f 2) (gJ M 31 f (gN M 13 c p))
        refine V_istore (lv' := [(7, _), (5, _), (4, _), (3, _), (0, _), (1, _), (2, _)]) C dX2_look_119 (by decide) rfl ?_
        refine V_iload C dX2_look_121 rfl ?_
        refine V_ifN_ne (tgt := 138) C dX2_look_123 (by omega) (by decide) (fun h123 => ?_) (fun h123 => ?_)
        · skip
          refine V_iload C dX2_look_138 rfl ?_
          refine V_iret C E dX2_look_140 ?_
          first | exact Or.inr (Or.inr (Or.inr ⟨by omega, Or.inl ⟨h123, rfl, rfl⟩⟩)) | exact Or.inr (Or.inr (Or.inr ⟨by omega, Or.inr ⟨k, hkx, hk, hl, by rw [← hkx, h123], rfl⟩⟩))
        · skip
          obtain ⟨hl, hkL⟩ := flt_0 h123
          obtain ⟨k, hk, hkx⟩ := isL_of hkL (by omega)
          rw [hkx]
          refine V_aload_n C dX2_look_126 rfl rfl ?_
          refine V_iload C dX2_look_127 rfl ?_
          refine V_aload_n C dX2_look_129 rfl rfl ?_
          refine V_lload C dX2_look_130 rfl ?_
          refine V_callV C [_] (ct_X8_cell hf hn hk hl) cv_X8_cell lk_X2_221 (in_33 (by omega)) rfl rfl ⟨Nat.le_of_ble_eq_true rfl, Nat.le_of_ble_eq_true rfl⟩ rfl rfl (Nat.le_of_ble_eq_true rfl) dX2_look_132 (fun r M' hr => ?_)
          obtain ⟨rfl, rfl⟩ := hr
          skip
          refine V_callV C [_, _] (ct_X1_become (by omega) (by omega)) cv_X1_become lk_X2_139 (in_30 (by omega)) rfl rfl ⟨Nat.le_of_ble_eq_true rfl, Nat.le_of_ble_eq_true rfl⟩ rfl rfl (Nat.le_of_ble_eq_true rfl) dX2_look_135 (fun r M' hr => ?_)
          obtain ⟨rfl, rfl⟩ := hr
          refine V_iload C dX2_look_138 rfl ?_
          refine V_iret C E dX2_look_140 ?_
          first | exact Or.inr (Or.inr (Or.inr ⟨by omega, Or.inl ⟨h123, rfl, rfl⟩⟩)) | exact Or.inr (Or.inr (Or.inr ⟨by omega, Or.inr ⟨k, hkx, hk, hl, by rw [← hkx, h123], rfl⟩⟩))
      · skip
        refine V_aload_n C dX2_look_90 rfl rfl ?_
        refine gf_X2_211 C (by omega) dX2_look_91 ?_
        refine V_iconst C (-1) dX2_look_94 (by decide) ?_
        refine V_icmp_ne (tgt := 100) C dX2_look_95 (by decide) (fun h95 => ?_) (fun h95 => ?_)
        · skip
          refine V_aload_n C dX2_look_100 rfl rfl ?_
          refine V_iload C dX2_look_101 rfl ?_
          refine V_aload_n C dX2_look_103 rfl rfl ?_
          refine gf_X2_214 C (by omega) dX2_look_104 ?_
          refine V_i2lN C dX2_look_107 (by omega) ?_
          refine V_callV C [_, _] (ct_X1_become (by omega) (by omega)) cv_X1_become lk_X2_139 (in_30 (by omega)) rfl rfl ⟨Nat.le_of_ble_eq_true rfl, Nat.le_of_ble_eq_true rfl⟩ rfl rfl (Nat.le_of_ble_eq_true rfl) dX2_look_108 (fun r M' hr => ?_)
          obtain ⟨rfl, rfl⟩ := hr
          refine V_iconst C (nI 0) dX2_look_111 (by decide) ?_
          refine V_iret C E dX2_look_112 ?_
          exact Or.inr (Or.inr (Or.inl ⟨h87, Or.inr ⟨h95, rfl, rfl⟩⟩))
        · skip
          refine V_iconst C (nI 1) dX2_look_98 (by decide) ?_
          refine V_iret C E dX2_look_99 ?_
          exact Or.inr (Or.inr (Or.inl ⟨h87, Or.inl ⟨h95, rfl, rfl⟩⟩))
    · skip
      obtain ⟨v, hv1, hv2⟩ := (hi.2.2.2.2 p hp2).2.1 (Or.inr (by omega))
      refine V_aload_n C dX2_look_60 rfl rfl ?_
      refine V_aload_n C dX2_look_61 rfl rfl ?_
      refine gf_X2_122 C (by omega) dX2_look_62 ?_
      rw [hc]
      refine V_aload_n C dX2_look_65 rfl rfl ?_
      refine gf_X2_126 C (by omega) dX2_look_66 ?_
      rw [hp]
      refine V_callV C [_] (ct_X0_number hc6 hi (by omega)) cv_X0_number lk_X2_136 (in_10 (by omega)) rfl rfl ⟨Nat.le_of_ble_eq_true rfl, Nat.le_of_ble_eq_true rfl⟩ rfl rfl (Nat.le_of_ble_eq_true rfl) dX2_look_69 (fun r M' hr => ?_)
      obtain ⟨rfl, rfl⟩ := hr
      rw [if_pos hp2, hv2]
      refine V_callV C [_] (ct_X8_isOf hf hv1) cv_X8_isOf lk_X2_207 (in_33 (by omega)) rfl rfl ⟨Nat.le_of_ble_eq_true rfl, Nat.le_of_ble_eq_true rfl⟩ rfl rfl (Nat.le_of_ble_eq_true rfl) dX2_look_72 (fun r M' hr => ?_)
      obtain ⟨rfl, rfl⟩ := hr
      refine V_ifB_eq (tgt := 82) C dX2_look_75 (by decide) (fun h75 => ?_) (fun h75 => ?_)
      · skip
        refine V_iconst C (nI 5) dX2_look_82 (by decide) ?_
        refine V_iret C E dX2_look_83 ?_
        first | exact Or.inr (Or.inl ⟨h57, v, hv1, hv2, Or.inl ⟨h75, rfl, rfl⟩⟩) | exact Or.inr (Or.inl ⟨h57, v, hv1, hv2, Or.inr ⟨h75, rfl, rfl⟩⟩)
      · skip
        refine V_iconst C (nI 0) dX2_look_78 (by decide) ?_
        refine V_goto (tgt := 83) C dX2_look_79 (by decide) ?_
        refine V_iret C E dX2_look_83 ?_
        first | exact Or.inr (Or.inl ⟨h57, v, hv1, hv2, Or.inl ⟨h75, rfl, rfl⟩⟩) | exact Or.inr (Or.inl ⟨h57, v, hv1, hv2, Or.inr ⟨h75, rfl, rfl⟩⟩)
  · skip
    refine V_aload_n C dX2_look_41 rfl rfl ?_
    refine V_lload C dX2_look_42 rfl ?_
    refine V_aload_n C dX2_look_44 rfl rfl ?_
    refine V_iload C dX2_look_45 rfl ?_
    refine V_callV C [_] (ct_X1_register (by omega) (by omega)) cv_X1_register lk_X2_147 (in_30 (by omega)) rfl rfl ⟨Nat.le_of_ble_eq_true rfl, Nat.le_of_ble_eq_true rfl⟩ rfl rfl (Nat.le_of_ble_eq_true rfl) dX2_look_47 (fun r M' hr => ?_)
    obtain ⟨rfl, rfl⟩ := hr
    refine V_callV C [_, _] (ct_X8_put hf hn) cv_X8_put lk_X2_203 (in_33 (by omega)) rfl rfl ⟨Nat.le_of_ble_eq_true rfl, Nat.le_of_ble_eq_true rfl⟩ rfl rfl (Nat.le_of_ble_eq_true rfl) dX2_look_50 (fun r M' hr => ?_)
    obtain ⟨y, rfl⟩ : ∃ y : Int32, r = some (.int y) := by rcases hr with ⟨_, h, _⟩ | ⟨k, _, _, _, ⟨_, _, h, _⟩ | ⟨_, h, _⟩⟩ <;> exact ⟨_, h.symm⟩
    refine V_iret C E dX2_look_53 ?_
    exact Or.inl ⟨by omega, hr⟩

