theorem wl_cl7 : Cond.classLink RL 7 RX10 ∈ GW := gw_in 56 (by decide +kernel) (by decide +kernel)
theorem wl_cl10 : Cond.classLink RL 10 RX11 ∈ GW := gw_in 740 (by decide +kernel) (by decide +kernel)
theorem inj_of {α β : Type} {f : α → β} {l : List α} (h : (l.map f).Nodup) : ∀ a ∈ l, ∀ b ∈ l, f a = f b → a = b := by
  intro a ha b hb e
  obtain ⟨i, hi⟩ := List.getElem?_of_mem ha
  obtain ⟨j, hj⟩ := List.getElem?_of_mem hb
  have h1 : (l.map f)[i]? = some (f a) := by rw [List.getElem?_map, hi]; rfl
  have h2 : (l.map f)[j]? = some (f b) := by rw [List.getElem?_map, hj]; rfl
  have hlt := (List.getElem?_eq_some_iff.mp h1).1
  have hij : i = j := (List.getElem?_inj hlt h).mp (h1.trans ((congrArg some e).trans h2.symm))
  subst hij
  exact Option.some.inj (hi.symm.trans hj)
theorem rX_lt : ∀ q ∈ rX, q.1 < 40 := by decide +kernel
theorem rM_ge : ∀ q ∈ rM, 40 ≤ q.1 := by decide +kernel
theorem wl_fst {G : Gm} {ro : List (Nat × Nat)} {M : Mem} : (wl G ro M).map (fun q => q.1) = ro.map (fun q => ad G q.1 q.2) := by
  unfold wl
  rw [List.map_map]
  rfl
def adJ (adr : Nat → Nat → Nat) (a : Nat → Nat) : Nat → Nat → Nat := fun k i => if k < 40 then adr k i else a k
theorem enc_X {G : Gm} {adr : Nat → Nat → Nat} {a : Nat → Nat} {M : Mem} (k i : Nat) (h : k < 40) : enc (Ga G adr) M k i = enc (Ga G (adJ adr a)) M k i := by
  match k, h with
  | 0, _ => rfl
  | 1, _ => rfl
  | 2, _ => rfl
  | 3, _ => rfl
  | 4, _ => rfl
  | 5, _ => rfl
  | 6, _ => rfl
  | 7, _ => rfl
  | 8, _ => rfl
  | 9, _ => rfl
  | 10, _ => rfl
  | 11, _ => rfl
  | 12, _ => rfl
  | 13, _ => rfl
  | 14, _ => rfl
  | 15, _ => rfl
  | 16, _ => rfl
  | 17, _ => rfl
  | 18, _ => rfl
  | 19, _ => rfl
  | 20, _ => rfl
  | 21, _ => rfl
  | 22, _ => rfl
  | 23, _ => rfl
  | 24, _ => rfl
  | 25, _ => rfl
  | 26, _ => rfl
  | 27, _ => rfl
  | 28, _ => rfl
  | 29, _ => rfl
  | 30, _ => rfl
  | 31, _ => rfl
  | 32, _ => rfl
  | 33, _ => rfl
  | 34, _ => rfl
  | 35, _ => rfl
  | 36, _ => rfl
  | 37, _ => rfl
  | 38, _ => rfl
  | 39, _ => rfl
  | n + 40, h => exact absurd h (by omega)
theorem enc_M {G : Gm} {adr : Nat → Nat → Nat} {a : Nat → Nat} {M : Mem} (k i : Nat) (h : 40 ≤ k) : enc (Ga G (fun k _ => a k)) M k i = enc (Ga G (adJ adr a)) M k i := by
  match k, h with
  | 0, h => exact absurd h (by omega)
  | 1, h => exact absurd h (by omega)
  | 2, h => exact absurd h (by omega)
  | 3, h => exact absurd h (by omega)
  | 4, h => exact absurd h (by omega)
  | 5, h => exact absurd h (by omega)
  | 6, h => exact absurd h (by omega)
  | 7, h => exact absurd h (by omega)
  | 8, h => exact absurd h (by omega)
  | 9, h => exact absurd h (by omega)
  | 10, h => exact absurd h (by omega)
  | 11, h => exact absurd h (by omega)
  | 12, h => exact absurd h (by omega)
  | 13, h => exact absurd h (by omega)
  | 14, h => exact absurd h (by omega)
  | 15, h => exact absurd h (by omega)
  | 16, h => exact absurd h (by omega)
  | 17, h => exact absurd h (by omega)
  | 18, h => exact absurd h (by omega)
  | 19, h => exact absurd h (by omega)
  | 20, h => exact absurd h (by omega)
  | 21, h => exact absurd h (by omega)
  | 22, h => exact absurd h (by omega)
  | 23, h => exact absurd h (by omega)
  | 24, h => exact absurd h (by omega)
  | 25, h => exact absurd h (by omega)
  | 26, h => exact absurd h (by omega)
  | 27, h => exact absurd h (by omega)
  | 28, h => exact absurd h (by omega)
  | 29, h => exact absurd h (by omega)
  | 30, h => exact absurd h (by omega)
  | 31, h => exact absurd h (by omega)
  | 32, h => exact absurd h (by omega)
  | 33, h => exact absurd h (by omega)
  | 34, h => exact absurd h (by omega)
  | 35, h => exact absurd h (by omega)
  | 36, h => exact absurd h (by omega)
  | 37, h => exact absurd h (by omega)
  | 38, h => exact absurd h (by omega)
  | 39, h => exact absurd h (by omega)
  | 40, h => rfl
  | 41, h => rfl
  | 42, h => rfl
  | 43, h => rfl
  | 44, h => rfl
  | 45, h => rfl
  | 46, h => rfl
  | 47, h => rfl
  | 48, h => rfl
  | 49, h => rfl
  | 50, h => rfl
  | 51, h => rfl
  | 52, h => rfl
  | 53, h => rfl
  | 54, h => rfl
  | 55, h => rfl
  | 56, h => rfl
  | 57, h => rfl
  | 58, h => rfl
  | 59, h => rfl
  | 60, h => rfl
  | 61, h => rfl
  | 62, h => rfl
  | 63, h => rfl
  | n + 64, h => rfl
theorem wl_X {G : Gm} {adr : Nat → Nat → Nat} {a : Nat → Nat} : wl (Ga G adr) rX M0 = wl (Ga G (adJ adr a)) rX M0 := by
  unfold wl
  refine List.map_congr_left (fun q hq => ?_)
  have h := rX_lt q hq
  rw [enc_X (a := a) _ _ h]
  refine Prod.ext ?_ rfl
  show adr q.1 q.2 = adJ adr a q.1 q.2
  exact (if_pos h).symm
theorem wl_M {G : Gm} {adr : Nat → Nat → Nat} {a : Nat → Nat} : wl (Ga G (fun k _ => a k)) rM N0 = wl (Ga G (adJ adr a)) rM N0 := by
  unfold wl
  refine List.map_congr_left (fun q hq => ?_)
  have h := rM_ge q hq
  rw [enc_M (adr := adr) _ _ h]
  refine Prod.ext ?_ rfl
  show a q.1 = adJ adr a q.1 q.2
  exact (if_neg (by omega)).symm
theorem va_D_one {A : Nat → Prop} {q : Nat} {e : va_E} (h : A q) : va_D A [(q, e)] := by
  rw [va_D_iff]
  refine ⟨?_, fun x hx => ?_⟩
  · simp
  · rw [List.mem_singleton.mp hx]
    exact h
/-- from the second constructor's end on -/
theorem law_tail {p : Program} {l : Launch} {e : Env} {s : State} {m : MethodId} {b : Nat} {below : List Frame} {meth : Method} {c : Code} {G : Gm} {adr : Nat → Nat → Nat} {a : Nat → Nat} {L : Nat} {xs : Nat → Int32} {cells slots : Nat} {H : Heap} {locs : List Loc} {ls : Array Slot} (hL : L ≤ 3584) (hx : p.tables.exec = Jvm.exec) (hb : c.code = code) (hml : c.maxLocals = 4) (hown : s.vm.findClass RL = some m.cls) (hts2 : ∀ w ∈ Cond.initialized RX0 :: GW, w.before #[Value.ref b] s = true) (hK : Kx2 G s) (hr : meth.sig.returnType = ret) (hlocks : meth.locks = false) (hX : va_X b L xs s s.heap) (hbl : b < s.heap.size) (hcs : cells ≤ room_1.cells ∧ slots ≤ room_1.slots)
    (hP : va_P (G.1, G.2.1) vwCl (wl (Ga G (fun k _ => a k)) rM N0 ++ wl (Ga G adr) rX M0) H) (hD : va_D (fun q : Nat => s.heap.size ≤ q) (wl (Ga G (fun k _ => a k)) rM N0 ++ wl (Ga G adr) rX M0)) (hS : va_S (fun q : Nat => s.heap.size ≤ q) s.heap H locs) (hl : lv_has ls 4 [(1, .ref (adr 0 0)), (0, .ref b)]) : W p l e room_1 s m #[Value.ref b] below meth c H locs cells slots (lw_Z below #[Value.ref b] s) (F0 m 15 ls [.ref (a 40)]) := by
  rw [wl_X (a := a), wl_M (adr := adr)] at hP hD
  have hPX : va_P (G.1, G.2.1) vwCl (wl (Ga G (adJ adr a)) rX M0) H := va_P_mem hP (fun q hq => List.mem_append.mpr (Or.inr hq))
  have hPM : va_P (G.1, G.2.1) vwCl (wl (Ga G (adJ adr a)) rM N0) H := va_P_mem hP (fun q hq => List.mem_append.mpr (Or.inl hq))
  rw [va_D_iff, List.map_append, wl_fst, wl_fst, ← List.map_append] at hD
  have hin := inj_of hD.1
  have hfr : ∀ ro M', (∀ x ∈ wl (Ga G (adJ adr a)) ro M', x ∈ wl (Ga G (adJ adr a)) rM N0 ++ wl (Ga G (adJ adr a)) rX M0) → ∀ q ∈ ro, s.heap.size ≤ ad (Ga G (adJ adr a)) q.1 q.2 := fun ro M' h q hq => hD.2 _ (h _ (List.mem_map.mpr ⟨q, hq, rfl⟩))
  have C : CxL p s m b meth c (Ga G (adJ adr a)) L xs := by
    refine ⟨⟨hx, hb, hml, hown, hts2, hK.1, rX_nd, fun q hq q' hq' e => hin q (List.mem_append.mpr (Or.inr hq)) q' (List.mem_append.mpr (Or.inr hq')) e⟩, ⟨hx, hb, hml, hown, hts2, hK.1, rM_nd, fun q hq q' hq' e => hin q (List.mem_append.mpr (Or.inl hq)) q' (List.mem_append.mpr (Or.inl hq')) e⟩, hfr rX M0 (fun x h => List.mem_append.mpr (Or.inr h)), hfr rM N0 (fun x h => List.mem_append.mpr (Or.inl h)), fun q hq q' hq' e => ?_, hX, hbl⟩
    have h1 := hin q (List.mem_append.mpr (Or.inr hq)) q' (List.mem_append.mpr (Or.inl hq')) e
    have h2 := rX_lt q hq
    have h3 := rM_ge q' hq'
    rw [h1] at h2
    exact Nat.lt_irrefl _ (Nat.lt_of_lt_of_le h2 h3)
  refine lv_astore_n hx hb dL_law_15 rfl hl (by decide) rfl (fun ls hl => ?_)
  refine lv_iconst hx hb dL_law_16 (v := nI 0) (by decide) ?_
  refine lv_istore_n hx hb dL_law_17 rfl hl (by decide) rfl (fun ls hl => ?_)
  exact law_loop C hL hcs hr hlocks (L + 8) 0 M0 N0 (Nat.le_of_eq (Nat.sub_zero _)) (Nat.zero_le _) CB_start H locs ls hPX hPM hS hl
/-- from the first constructor's end on -/
theorem law_mid {p : Program} {l : Launch} {e : Env} {s : State} {m : MethodId} {b : Nat} {below : List Frame} {meth : Method} {c : Code} {G : Gm} {adr : Nat → Nat → Nat} {L : Nat} {xs : Nat → Int32} {H : Heap} {locs : List Loc} {ls : Array Slot} (hL : L ≤ 3584) (hx : p.tables.exec = Jvm.exec) (hb : c.code = code) (hml : c.maxLocals = 4) (hown' : s.vm.findClass RL = some m.cls) (hts2 : ∀ w ∈ Cond.initialized RX0 :: GW, w.before #[Value.ref b] s = true) (hK : Kx2 G s) (hr : meth.sig.returnType = ret) (hlocks : meth.locks = false) (hX : va_X b L xs s s.heap) (hbl : b < s.heap.size)
    {cells slots : Nat} (hcs : cells ≤ 1000 ∧ slots ≤ 10000) (hP : va_P (G.1, G.2.1) vwCl (wl (Ga G adr) rX M0) H) (hD : va_D (fun q : Nat => s.heap.size ≤ q) (wl (Ga G adr) rX M0)) (hS : va_S (fun q : Nat => s.heap.size ≤ q) s.heap H locs) (hl : lv_has ls 4 [(0, .ref b)]) : W p l e room_1 s m #[Value.ref b] below meth c H locs cells slots (lw_Z below #[Value.ref b] s) (F0 m 7 ls [.ref (adr 0 0)]) := by
  have g : ∀ w ∈ GW, w.before #[Value.ref b] s = true := fun w hw => hts2 w (List.mem_cons_of_mem _ hw)
  have hA : ∀ q : Nat, s.heap.size ≤ q → (fun q : Nat => s.heap.size ≤ q) q := fun _ h => h
  have hc1 : cells + 1 ≤ room_1.cells := Nat.le_trans (Nat.succ_le_succ hcs.1) (Nat.le_of_ble_eq_true rfl)
  have hc2 : slots + 40 ≤ room_1.slots := Nat.le_trans (Nat.add_le_add_right hcs.2 40) (Nat.le_of_ble_eq_true rfl)
  have hc3 : cells + 1 + rI_X11.cells ≤ room_1.cells := Nat.le_trans (Nat.add_le_add_right (Nat.succ_le_succ hcs.1) _) (Nat.le_of_ble_eq_true rfl)
  have hc4 : slots + 40 + rI_X11.slots ≤ room_1.slots := Nat.le_trans (Nat.add_le_add_right (Nat.add_le_add_right hcs.2 40) _) (Nat.le_of_ble_eq_true rfl)
  refine lv_astore_n hx hb dL_law_7 rfl hl (by decide) rfl (fun ls hl => ?_)
  refine va_new (ci := 10) (fs := [.int 0, .null, .null, .null, .null, .null, .null, .null, .null, .null, .null, .int 0, .null, .null, .null, .null, .null, .null, .null, .null, .null, .null, .int 0, .int 0, .int 0, .int 0, .int 0, .int 0, .long 0, .int 0, .int 0, .int 0, .int 0, .int 0, .int 0, .int 0, .null, .null, .null, .int 0]) (C := RX11) (T := TX11) (N := 40) hx hb hts2 (fun w hw => List.mem_cons_of_mem _ (inwX11 w hw)) tyX11 tyX11_ok hown' (g _ wl_cl10) (g _ wi_inX11) (g _ wi_iniX11) hK.1.1 hP hD hS hA rfl (fun j hj => by rcases (show j = 0 ∨ j = 1 ∨ j = 2 ∨ j = 3 ∨ j = 4 ∨ j = 5 ∨ j = 6 ∨ j = 7 ∨ j = 8 ∨ j = 9 ∨ j = 10 ∨ j = 11 ∨ j = 12 ∨ j = 13 ∨ j = 14 ∨ j = 15 ∨ j = 16 ∨ j = 17 ∨ j = 18 ∨ j = 19 ∨ j = 20 ∨ j = 21 ∨ j = 22 ∨ j = 23 ∨ j = 24 ∨ j = 25 ∨ j = 26 ∨ j = 27 ∨ j = 28 ∨ j = 29 ∨ j = 30 ∨ j = 31 ∨ j = 32 ∨ j = 33 ∨ j = 34 ∨ j = 35 ∨ j = 36 ∨ j = 37 ∨ j = 38 ∨ j = 39 by omega) with rfl | rfl | rfl | rfl | rfl | rfl | rfl | rfl | rfl | rfl | rfl | rfl | rfl | rfl | rfl | rfl | rfl | rfl | rfl | rfl | rfl | rfl | rfl | rfl | rfl | rfl | rfl | rfl | rfl | rfl | rfl | rfl | rfl | rfl | rfl | rfl | rfl | rfl | rfl | rfl <;> rfl) hc1 hc2 dL_law_8 (fun q1 H hP hD hS => ?_)
  generalize hw : wl (Ga G adr) rX M0 = wx at hP hD
  have hP : va_P (G.1, G.2.1) vwCl ([(q1, .inr (10, [.int 0, .null, .null, .null, .null, .null, .null, .null, .null, .null, .null, .int 0, .null, .null, .null, .null, .null, .null, .null, .null, .null, .null, .int 0, .int 0, .int 0, .int 0, .int 0, .int 0, .long 0, .int 0, .int 0, .int 0, .int 0, .int 0, .int 0, .int 0, .null, .null, .null, .int 0]))] ++ wx) H := va_P_mem hP (fun q hq => (List.mem_append.mp hq).elim (fun h => List.mem_append.mpr (Or.inr h)) (fun h => List.mem_append.mpr (Or.inl h)))
  have hD : va_D (fun q : Nat => s.heap.size ≤ q) ([(q1, .inr (10, [.int 0, .null, .null, .null, .null, .null, .null, .null, .null, .null, .null, .int 0, .null, .null, .null, .null, .null, .null, .null, .null, .null, .null, .int 0, .int 0, .int 0, .int 0, .int 0, .int 0, .long 0, .int 0, .int 0, .int 0, .int 0, .int 0, .int 0, .int 0, .null, .null, .null, .int 0]))] ++ wx) := va_D_perm hD List.perm_append_comm
  have hPc : va_P (G.1, G.2.1) vwCl [(q1, .inr (10, [.int 0, .null, .null, .null, .null, .null, .null, .null, .null, .null, .null, .int 0, .null, .null, .null, .null, .null, .null, .null, .null, .null, .null, .int 0, .int 0, .int 0, .int 0, .int 0, .int 0, .long 0, .int 0, .int 0, .int 0, .int 0, .int 0, .int 0, .int 0, .null, .null, .null, .int 0]))] H := va_P_mem hP (fun q hq => List.mem_append.mpr (Or.inl hq))
  have hDc : va_D (fun q : Nat => s.heap.size ≤ q) [(q1, .inr (10, [.int 0, .null, .null, .null, .null, .null, .null, .null, .null, .null, .null, .int 0, .null, .null, .null, .null, .null, .null, .null, .null, .null, .null, .int 0, .int 0, .int 0, .int 0, .int 0, .int 0, .long 0, .int 0, .int 0, .int 0, .int 0, .int 0, .int 0, .int 0, .null, .null, .null, .int 0]))] := va_D_one (hD.2 0 _ rfl)
  refine lv_dup hx hb dL_law_11 rfl ?_
  refine VC_ran (G := G) (A := fun q : Nat => s.heap.size ≤ q) (nL := 4) (lv := [(1, .ref (adr 0 0)), (0, .ref b)]) (X := [(q1, .inr (10, [.int 0, .null, .null, .null, .null, .null, .null, .null, .null, .null, .null, .int 0, .null, .null, .null, .null, .null, .null, .null, .null, .null, .null, .int 0, .int 0, .int 0, .int 0, .int 0, .int 0, .long 0, .int 0, .int 0, .int 0, .int 0, .int 0, .int 0, .int 0, .null, .null, .null, .int 0]))]) (wr := []) (pl := wx) [0] [] (va_runI (R := room_1) (g := F0 m 12 ls _) (As := []) (rest := [.ref q1]) (b := q1) ⟨hx, hb, hml, hown', hts2⟩ (ctX11_init (l := l) (G := G) (h0 := q1) H.size) (cwI 0 hts2 (gw_good wi_kcX11) rfl rfl rfl (g _ wi_iniX11) (g _ lk_L_12) (g _ wi_imX11) rfl (by decide +kernel) ⟨(Nat.le_of_ble_eq_true rfl), (Nat.le_of_ble_eq_true rfl)⟩) ⟨PcI_blind, fun U hU hW => ⟨rfl, by rw [hU], by rw [hU]; exact hPc, Kx2.warm hW hK, va_D.weaken hDc (fun _ _ _ _ => trivial)⟩⟩ rfl rfl hl.1 rfl (lv_room (Nat.le_of_ble_eq_true rfl)) dL_law_12 ⟨hc3, hc4⟩) hA hP hD hS hl rfl rfl rfl (by decide) (by decide) (fun w1 hw1 => ?_)
  obtain ⟨a, rfl, rfl⟩ := hw1
  intro H locs ls hP hD hS hl
  subst hw
  rw [List.nil_append] at hP hD
  exact law_tail hL hx hb hml hown' hts2 hK hr hlocks hX hbl ⟨hc3, hc4⟩ hP hD hS hl
set_option maxRecDepth 20000 in
set_option maxHeartbeats 4000000 in
theorem whole_start {p : Program} {e : Env} {s : State} {m : MethodId} {below : List Frame} {meth : Method} {c : Code} (l : Launch) {b L : Nat} {xs : Nat → Int32} (hL : L ≤ 3584) (C0 : lw_At p s m meth c b L xs) : W p l e room_1 s m #[Value.ref b] below meth c s.heap [] 0 0 (lw_Z below #[Value.ref b] s) (entryFrame m ([Value.ref b] : List Value).toArray 4) := by
  obtain ⟨hx, hb, hr, hml, hown, hts, hX, hbl, hlocks, hgv⟩ := id C0
  have hown' : s.vm.findClass RL = some m.cls := hown
  obtain ⟨G, hK⟩ := start_K hts
  have g : ∀ w ∈ GW, w.before #[Value.ref b] s = true := fun w hw => hts w (gw_tbl hw)
  have hts2 : ∀ w ∈ Cond.initialized RX0 :: GW, w.before #[Value.ref b] s = true := fun w hw => by
    rcases List.mem_cons.mp hw with rfl | h
    · exact g _ wi_iniX0
    · exact g w h
  have hA : ∀ q : Nat, s.heap.size ≤ q → (fun q : Nat => s.heap.size ≤ q) q := fun _ h => h
  have hS : va_S (fun q : Nat => s.heap.size ≤ q) s.heap s.heap [] := va_S.rf
  have hP : va_P (G.1, G.2.1) vwCl [] s.heap := fun k q h => by simp at h
  have hD : va_D (fun q : Nat => s.heap.size ≤ q) [] := ⟨fun i j p q h => by simp at h, fun k q h => by simp at h⟩
  have hl := lv_entry ([.ref b]) (n := 4) (Nat.le_of_ble_eq_true rfl)
  rw [lg_entry_eq]
  generalize (lg_sl ([.ref b]) ++ List.replicate (4 - (lg_sl ([.ref b])).length) Slot.unset).toArray = ls at hl ⊢
  have hl : lv_has ls 4 [(0, .ref b)] := hl
  refine va_new (ci := 9) (fs := [.null, .null, .null, .null]) (C := RX10) (T := TX10) (N := 4) hx hb hts2 (fun w hw => List.mem_cons_of_mem _ (inwX10 w hw)) tyX10 tyX10_ok hown' (g _ wl_cl7) (g _ wi_inX10) (g _ wi_iniX10) hK.1.1 hP hD hS hA rfl (fun j hj => by rcases (show j = 0 ∨ j = 1 ∨ j = 2 ∨ j = 3 by omega) with rfl | rfl | rfl | rfl <;> rfl) (Nat.le_of_ble_eq_true rfl) (Nat.le_of_ble_eq_true rfl) dL_law_0 (fun q0 H hP hD hS => ?_)
  refine lv_dup hx hb dL_law_3 rfl ?_
  refine VC_ran (G := G) (A := fun q : Nat => s.heap.size ≤ q) (nL := 4) (lv := [(0, .ref b)]) (X := [(q0, .inr (9, [.null, .null, .null, .null]))]) (wr := []) (pl := []) [0] [] (va_runI (R := room_1) (g := F0 m 4 ls _) (As := []) (rest := [.ref q0]) (b := q0) ⟨hx, hb, hml, hown', hts2⟩ (ctX10_init (l := l) (G := G) (h0 := q0) H.size) (cwI 0 hts2 (gw_good wi_kcX10) rfl rfl rfl (g _ wi_iniX10) (g _ lk_L_9) (g _ wi_imX10) rfl (by decide +kernel) ⟨(Nat.le_of_ble_eq_true rfl), (Nat.le_of_ble_eq_true rfl)⟩) ⟨PcI_blind, fun U hU hW => ⟨rfl, by rw [hU], by rw [hU]; exact hP, Kx2.warm hW hK, va_D.weaken hD (fun _ _ _ _ => trivial)⟩⟩ rfl rfl hl.1 rfl (lv_room (Nat.le_of_ble_eq_true rfl)) dL_law_4 ⟨(Nat.le_of_ble_eq_true rfl), (Nat.le_of_ble_eq_true rfl)⟩) hA hP hD hS hl rfl rfl rfl (by decide) (by decide) (fun w1 hw1 => ?_)
  obtain ⟨adr, rfl, rfl⟩ := hw1
  intro H locs ls hP hD hS hl
  rw [List.nil_append, List.append_nil] at hP hD
  exact law_mid hL hx hb hml hown' hts2 hK hr hlocks hX hbl ⟨Nat.le_of_ble_eq_true rfl, Nat.le_of_ble_eq_true rfl⟩ hP hD hS hl

