section VR4
variable {p : Program} {l : Launch} {e : Env} {R : Room} {s : State} {m : MethodId} {args : Array Value} {below : List Frame} {meth : Method} {c : Code} {G : Gm} {ro : List (Nat × Nat)} {nL : Nat} {Q : State → Prop} {M : Mem} {pc : Nat} {lv : List (Nat × Value)} {st : List Value} {cc : ByteArray} {own : String} {a0 : Cond}
theorem V_astore_nN (C : Cx p s m args c cc own nL G ro a0) {k : Fin 4} {i : Nat} {lv' : List (Nat × Value)} (d : decode cc pc = .ok (.astore_n k, 1)) (hi : (k : Nat) = i) (hn : i < nL) (hl : (i, Value.null) :: lv.filter (fun q => !(q.1 == i) && !(q.1 + 1 == i && q.2.category == 2)) = lv') (kk : V p l e R s m args below meth c G ro nL Q M (pc + 1) lv' st) : V p l e R s m args below meth c G ro nL Q M pc lv (.null :: st) := fun H locs ls hP hS h => lv_astore_nN C.1 C.2.1 d hi h hn hl (fun ls h => kk H locs ls hP hS h)
theorem V_astoreN (C : Cx p s m args c cc own nL G ro a0) {i : Nat} {lv' : List (Nat × Value)} (d : decode cc pc = .ok (.astore i, 2)) (hn : i < nL) (hl : (i, Value.null) :: lv.filter (fun q => !(q.1 == i) && !(q.1 + 1 == i && q.2.category == 2)) = lv') (kk : V p l e R s m args below meth c G ro nL Q M (pc + 2) lv' st) : V p l e R s m args below meth c G ro nL Q M pc lv (.null :: st) := fun H locs ls hP hS h => lv_astoreN C.1 C.2.1 d h hn hl (fun ls h => kk H locs ls hP hS h)
end VR4
theorem sw_out {x : Int32} {lo hi : Int} (h0 : 0 ≤ lo) (h1 : hi < 2 ^ 31) (h : ∀ n : Nat, lo ≤ n → (n : Int) ≤ hi → ¬ x = nI n) : x.toInt < lo ∨ hi < x.toInt := by
  by_cases a : x.toInt < lo
  · exact Or.inl a
  by_cases b : hi < x.toInt
  · exact Or.inr b
  exfalso
  have e : (x.toInt.toNat : Int) = x.toInt := Int.toNat_of_nonneg (by omega)
  refine h x.toInt.toNat (by omega) (by omega) (Int32.toInt_inj.mp ?_)
  rw [nI_toInt (by omega)]
  omega
theorem bN_t {P : Prop} [Decidable P] (h : P) : bN P = 1 := if_pos h
theorem bN_f {P : Prop} [Decidable P] (h : ¬ P) : bN P = 0 := if_neg h
theorem bN_le (P : Prop) [Decidable P] : bN P ≤ 1 := by unfold bN; split <;> omega
theorem kL_X10_46 : Cond.constantLong RX10 46 (lN 18) ∈ GW := (show (18 : Int64) = lN 18 by decide +kernel) ▸ kl_X10_46
theorem kL_X10_121 : Cond.constantLong RX10 121 (lN 3) ∈ GW := (show (3 : Int64) = lN 3 by decide +kernel) ▸ kl_X10_121
theorem kL_X10_123 : Cond.constantLong RX10 123 (lN 40) ∈ GW := (show (40 : Int64) = lN 40 by decide +kernel) ▸ kl_X10_123
theorem kL_X10_125 : Cond.constantLong RX10 125 (lN 6) ∈ GW := (show (6 : Int64) = lN 6 by decide +kernel) ▸ kl_X10_125
theorem kL_X10_127 : Cond.constantLong RX10 127 (lN 5) ∈ GW := (show (5 : Int64) = lN 5 by decide +kernel) ▸ kl_X10_127
theorem kL_X10_106 : Cond.constantLong RX10 106 (lN 2) ∈ GW := (show (2 : Int64) = lN 2 by decide +kernel) ▸ kl_X10_106
theorem kL_X2_50 : Cond.constantLong RX2 50 (lN 200) ∈ GW := (show (200 : Int64) = lN 200 by decide +kernel) ▸ kl_X2_50
theorem kL_X2_101 : Cond.constantLong RX2 101 (lN 12) ∈ GW := (show (12 : Int64) = lN 12 by decide +kernel) ▸ kl_X2_101
theorem kL_X8_22 : Cond.constantLong RX8 22 (lN 200) ∈ GW := (show (200 : Int64) = lN 200 by decide +kernel) ▸ kl_X8_22
theorem kL_X8_34 : Cond.constantLong RX8 34 (-1) ∈ GW := kl_X8_34
theorem kL_X8_50 : Cond.constantLong RX8 50 (lN 7) ∈ GW := (show (7 : Int64) = lN 7 by decide +kernel) ▸ kl_X8_50
theorem kL_X8_48 : Cond.constantLong RX8 48 (lN 5) ∈ GW := (show (5 : Int64) = lN 5 by decide +kernel) ▸ kl_X8_48
theorem kL_X1_49 : Cond.constantLong RX1 49 (lN 2) ∈ GW := (show (2 : Int64) = lN 2 by decide +kernel) ▸ kl_X1_49
theorem kL_X11_100 : Cond.constantLong RX11 100 (lN 18) ∈ GW := (show (18 : Int64) = lN 18 by decide +kernel) ▸ kl_X11_100
theorem kL_X11_102 : Cond.constantLong RX11 102 (lN 3) ∈ GW := (show (3 : Int64) = lN 3 by decide +kernel) ▸ kl_X11_102
theorem kL_X11_88 : Cond.constantLong RX11 88 (lN 40) ∈ GW := (show (40 : Int64) = lN 40 by decide +kernel) ▸ kl_X11_88
theorem kL_X11_90 : Cond.constantLong RX11 90 (lN 6) ∈ GW := (show (6 : Int64) = lN 6 by decide +kernel) ▸ kl_X11_90
theorem kL_X11_92 : Cond.constantLong RX11 92 (lN 5) ∈ GW := (show (5 : Int64) = lN 5 by decide +kernel) ▸ kl_X11_92
theorem kL_X11_94 : Cond.constantLong RX11 94 (lN 2) ∈ GW := (show (2 : Int64) = lN 2 by decide +kernel) ▸ kl_X11_94
theorem kL_X11_183 : Cond.constantLong RX11 183 (lN 200) ∈ GW := (show (200 : Int64) = lN 200 by decide +kernel) ▸ kl_X11_183
theorem kL_X11_207 : Cond.constantLong RX11 207 (lN 1000) ∈ GW := (show (1000 : Int64) = lN 1000 by decide +kernel) ▸ kl_X11_207
theorem kL_X11_236 : Cond.constantLong RX11 236 (-1) ∈ GW := kl_X11_236
theorem kL_X11_234 : Cond.constantLong RX11 234 (lN 7) ∈ GW := (show (7 : Int64) = lN 7 by decide +kernel) ▸ kl_X11_234
theorem kL_L_18 : Cond.constantLong RL 18 (lN 4294967295) ∈ GW := (show (4294967295 : Int64) = lN 4294967295 by decide +kernel) ▸ kl_L_18
