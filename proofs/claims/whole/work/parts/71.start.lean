/-! THE CLAIM OUT OF ONE WALK OF THE LAW'S BODY. Your part is whole_start (and what it stands on); all else here is the same for every law, but numbers. -/
def R_law : String := "StepMarksLaw"
def lw_P (b : Addr) (xs : List Int32) (args : Array Value) (s : State) : Prop := args = #[.ref b] ∧ s.IntsAt b xs ∧ xs.length ≤ 3584 ∧ (Jvm.Cond.and given_1 narrow_1).before args s = true
def lw_Q (_ : Array Value) (s : State) (o : Outcome) (t : State) : Prop := o = .returned (some (.int 1)) ∧ Framed s o t [] 600000 7302250
def lw_Z (below : List Frame) (a : Array Value) (s : State) : State → Prop := fun t => ∃ o, t.status = .running ∧ Ended t below o ∧ lw_Q a s o t
/-- the law's own end, with 1 on the stack, nothing written that was there before, its room as the claim has it -/
theorem lw_ret {p : Program} {l : Launch} {e : Env} {s : State} {m : MethodId} {below : List Frame} {meth : Method} {c : Code} {b : Nat} (hx : p.tables.exec = Jvm.exec) (hb : c.code = code) (hr : meth.sig.returnType = ret) (hlocks : meth.locks = false) {pc : Nat} {H : Heap} {ls : Array Slot} (hdg : decode code pc = .ok (.ireturn, 1)) : W p l e room_1 s m #[Value.ref b] below meth c H [] 600000 7302250 (lw_Z below #[Value.ref b] s) (F0 m pc ls [.int 1]) := by
  intro T hT X
  obtain ⟨fs, hret, hrun, hended, hW, hframe⟩ := X.leave (v := some (.int 1)) (hlocks := hlocks) (fun h => by rw [hr] at h; cases h)
  have hmeth' : T.vm.method? m = some meth := X.method'
  refine ⟨T.setFrames fs, ?_, .returned (some (.int 1)), hrun, hended, rfl, ⟨_, rfl⟩, hW, hframe⟩
  jvm_step X.here [X.here.top, hx, hb, hdg, hmeth', hr, ret, narrow_b1]
  (try refine ⟨rfl, ?_⟩); (try refine ⟨rfl, ?_⟩)
  first | (intro acts; rw [hret _ acts rfl rfl rfl]) | rw [hret _ _ rfl rfl rfl]
  exact Steps.refl _
/-- what holds at the law's entry: the machine, the code, the tables' words (any of lw_tbl by 'hts w (by decide +kernel)'), the script of L ints xs at the cell b, what the Statement gives of the start (any of its parts by flat_of_before) -/
def lw_At (p : Program) (s : State) (m : MethodId) (meth : Method) (c : Code) (b L : Nat) (xs : Nat → Int32) : Prop :=
  p.tables.exec = Jvm.exec ∧ c.code = code ∧ meth.sig.returnType = ret ∧ c.maxLocals = 4 ∧ s.vm.findClass R_law = some m.cls ∧ (∀ w ∈ lw_tbl, w.before #[Value.ref b] s = true) ∧ va_X b L xs s s.heap ∧ b < s.heap.size ∧ meth.locks = false ∧ (Jvm.Cond.and given_1 narrow_1).before #[Value.ref b] s = true
theorem gw_tbl {w : Cond} (h : w ∈ GW) : w ∈ lw_tbl := (List.mem_filter.mp h).1
set_option maxHeartbeats 4000000 in
set_option maxRecDepth 20000 in
theorem start_K {s : State} {args : Array Value} (hts : ∀ w ∈ lw_tbl, w.before args s = true) : ∃ G : Gm, Kx2 G s := by
  have g : ∀ w ∈ GW, w.before args s = true := fun w hw => hts w (gw_tbl hw)
  obtain ⟨c0, i0, k0⟩ := u_known (C := RX0) (T := TX0) (N := 11) (n := 11) hts (fun w hw => gw_tbl (inwX0 w hw)) (g _ wi_inX0)
  obtain ⟨c1, i1, k1⟩ := u_known (C := RX1) (T := TX1) (N := 9) (n := 9) hts (fun w hw => gw_tbl (inwX1 w hw)) (g _ wi_inX1)
  obtain ⟨c2, i2, k2⟩ := u_known (C := RX2) (T := TX2) (N := 7) (n := 7) hts (fun w hw => gw_tbl (inwX2 w hw)) (g _ wi_inX2)
  obtain ⟨c3, i3, k3⟩ := u_known (C := RX3) (T := TX3) (N := 0) (n := 0) hts (fun w hw => gw_tbl (inwX3 w hw)) (g _ wi_inX3)
  obtain ⟨c4, i4, k4⟩ := u_known (C := RX4) (T := TX4) (N := 8) (n := 8) hts (fun w hw => gw_tbl (inwX4 w hw)) (g _ wi_inX4)
  obtain ⟨c5, i5, k5⟩ := u_known (C := RX5) (T := TX5) (N := 2) (n := 2) hts (fun w hw => gw_tbl (inwX5 w hw)) (g _ wi_inX5)
  obtain ⟨c6, i6, k6⟩ := u_known (C := RX7) (T := TX7) (N := 0) (n := 0) hts (fun w hw => gw_tbl (inwX7 w hw)) (g _ wi_inX7)
  obtain ⟨c7, i7, k7⟩ := u_known (C := RX8) (T := TX8) (N := 3) (n := 3) hts (fun w hw => gw_tbl (inwX8 w hw)) (g _ wi_inX8)
  obtain ⟨c8, i8, k8⟩ := u_known (C := RX9) (T := TX9) (N := 10) (n := 10) hts (fun w hw => gw_tbl (inwX9 w hw)) (g _ wi_inX9)
  obtain ⟨c9, i9, k9⟩ := u_known (C := RX10) (T := TX10) (N := 4) (n := 4) hts (fun w hw => gw_tbl (inwX10 w hw)) (g _ wi_inX10)
  obtain ⟨c10, i10, k10⟩ := u_known (C := RX11) (T := TX11) (N := 40) (n := 40) hts (fun w hw => gw_tbl (inwX11 w hw)) (g _ wi_inX11)
  obtain ⟨aI, kI, pI, hI1, hI2, hI3⟩ := Cond.arrayClass_spec (g _ wi_aI)
  obtain ⟨aJ, kJ, pJ, hJ1, hJ2, hJ3⟩ := Cond.arrayClass_spec (g _ wi_aJ)
  have hoC := hts (.arrayOver (.object "StepMarks$Code")) (List.mem_of_getElem? (i := 71) (by decide +kernel))
  have hoF := hts (.arrayOver (.object "StepMarks$Frame")) (List.mem_of_getElem? (i := 171) (by decide +kernel))
  obtain ⟨pC, aC, kC, hC1, hC2, hC3, hC4, hC5⟩ := Cond.arrayOver_spec hoC
  obtain ⟨pF, aF, kF, hF1, hF2, hF3, hF4, hF5⟩ := Cond.arrayOver_spec hoF
  refine ⟨(fun k => match k with | 0 => c0 | 1 => c1 | 2 => c2 | 3 => c3 | 4 => c4 | 5 => c5 | 6 => c6 | 7 => c7 | 8 => c8 | 9 => c9 | _ => c10, fun k => match k with | 0 => i0 | 1 => i1 | 2 => i2 | 3 => i3 | 4 => i4 | 5 => i5 | 6 => i6 | 7 => i7 | 8 => i8 | 9 => i9 | _ => i10, fun k => match k with | 0 => aI | 1 => aJ | 2 => aC | _ => aF, fun _ _ => 0), ⟨⟨fun k q hq => ?_, fun k q hq => ?_⟩, fun w hw => ?_, ?_⟩, va_AO.of hoC, va_AO.of hoF⟩
  · match k, hq with
    | 0, hq => cases hq; exact k0
    | 1, hq => cases hq; exact k1
    | 2, hq => cases hq; exact k2
    | 3, hq => cases hq; exact k3
    | 4, hq => cases hq; exact k4
    | 5, hq => cases hq; exact k5
    | 6, hq => cases hq; exact k6
    | 7, hq => cases hq; exact k7
    | 8, hq => cases hq; exact k8
    | 9, hq => cases hq; exact k9
    | 10, hq => cases hq; exact k10
    | k + 11, hq => simp [vwCl] at hq
  · match k, hq with
    | 0, hq => cases hq; exact ⟨fun n z => ⟨fun k h => (by cases h), kI, hI2, pI, hI3⟩, hI1⟩
    | 1, hq => cases hq; exact ⟨fun n z => ⟨fun k h => (by cases h), kJ, hJ2, pJ, hJ3⟩, hJ1⟩
    | 2, hq => cases hq; exact ⟨fun n z => ⟨fun k h => (by cases h), kC, hC3, pC, hC4⟩, kC, pC, hC3, hC4, hC1, hC5⟩
    | 3, hq => cases hq; exact ⟨fun n z => ⟨fun k h => (by cases h), kF, hF3, pF, hF4⟩, kF, pF, hF3, hF4, hF1, hF5⟩
    | k + 4, hq => simp [tys] at hq
  · have h2 := (List.mem_filter.mp hw).2
    have h1 := hts w (List.mem_filter.mp hw).1
    cases w <;> first | (simp [isNest] at h2; done) | exact va_Nw.of rfl h1
  · exact ⟨⟨(va_Fw.of (hts _ (List.mem_of_getElem? (i := 478) (by decide +kernel))) (hts _ (List.mem_of_getElem? (i := 477) (by decide +kernel))) (hts _ (List.mem_of_getElem? (i := 483) (by decide +kernel))) (hts _ (List.mem_of_getElem? (i := 481) (by decide +kernel))) (hts _ (List.mem_of_getElem? (i := 479) (by decide +kernel)))), (va_Fw.of (hts _ (List.mem_of_getElem? (i := 478) (by decide +kernel))) (hts _ (List.mem_of_getElem? (i := 477) (by decide +kernel))) (hts _ (List.mem_of_getElem? (i := 519) (by decide +kernel))) (hts _ (List.mem_of_getElem? (i := 517) (by decide +kernel))) (hts _ (List.mem_of_getElem? (i := 515) (by decide +kernel))))⟩, ⟨(va_Fw.of (hts _ (List.mem_of_getElem? (i := 533) (by decide +kernel))) (hts _ (List.mem_of_getElem? (i := 532) (by decide +kernel))) (hts _ (List.mem_of_getElem? (i := 537) (by decide +kernel))) (hts _ (List.mem_of_getElem? (i := 535) (by decide +kernel))) (hts _ (List.mem_of_getElem? (i := 479) (by decide +kernel)))), (va_Fw.of (hts _ (List.mem_of_getElem? (i := 533) (by decide +kernel))) (hts _ (List.mem_of_getElem? (i := 532) (by decide +kernel))) (hts _ (List.mem_of_getElem? (i := 542) (by decide +kernel))) (hts _ (List.mem_of_getElem? (i := 540) (by decide +kernel))) (hts _ (List.mem_of_getElem? (i := 515) (by decide +kernel))))⟩, ⟨(va_Fw.of (hts _ (List.mem_of_getElem? (i := 570) (by decide +kernel))) (hts _ (List.mem_of_getElem? (i := 569) (by decide +kernel))) (hts _ (List.mem_of_getElem? (i := 574) (by decide +kernel))) (hts _ (List.mem_of_getElem? (i := 572) (by decide +kernel))) (hts _ (List.mem_of_getElem? (i := 479) (by decide +kernel)))), (va_Fw.of (hts _ (List.mem_of_getElem? (i := 570) (by decide +kernel))) (hts _ (List.mem_of_getElem? (i := 569) (by decide +kernel))) (hts _ (List.mem_of_getElem? (i := 579) (by decide +kernel))) (hts _ (List.mem_of_getElem? (i := 577) (by decide +kernel))) (hts _ (List.mem_of_getElem? (i := 515) (by decide +kernel))))⟩, ⟨(va_Fw.of (hts _ (List.mem_of_getElem? (i := 681) (by decide +kernel))) (hts _ (List.mem_of_getElem? (i := 680) (by decide +kernel))) (hts _ (List.mem_of_getElem? (i := 685) (by decide +kernel))) (hts _ (List.mem_of_getElem? (i := 683) (by decide +kernel))) (hts _ (List.mem_of_getElem? (i := 479) (by decide +kernel)))), (va_Fw.of (hts _ (List.mem_of_getElem? (i := 681) (by decide +kernel))) (hts _ (List.mem_of_getElem? (i := 680) (by decide +kernel))) (hts _ (List.mem_of_getElem? (i := 694) (by decide +kernel))) (hts _ (List.mem_of_getElem? (i := 692) (by decide +kernel))) (hts _ (List.mem_of_getElem? (i := 515) (by decide +kernel))))⟩⟩
