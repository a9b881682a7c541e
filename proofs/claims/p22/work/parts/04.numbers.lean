theorem dX3_within_0 : decode cX3_within 0 = .ok (.iload_n 1, 1) := by decide +kernel
theorem dX3_within_1 : decode cX3_within 1 = .ok (.iload_n 2, 1) := by decide +kernel
theorem dX3_within_2 : decode cX3_within 2 = .ok (.iload_n 0, 1) := by decide +kernel
theorem dX3_within_3 : decode cX3_within 3 = .ok (.invokestatic 9, 3) := by decide +kernel
theorem dX3_within_6 : decode cX3_within 6 = .ok (.invokestatic 15, 3) := by decide +kernel
theorem dX3_within_9 : decode cX3_within 9 = .ok (.ireturn, 1) := by decide +kernel
set_option maxRecDepth 20000 in
theorem ggX3_safePrimeFrom_X3_isOddPrime : GoodIn wsX3_safePrimeFrom wsX3_isOddPrime := goodIn_r _ [5] (by decide +kernel) (by decide +kernel)
set_option maxRecDepth 20000 in
theorem gX3_safePrimeFrom_X3_isOddPrime : GoodIn wsX3_safePrimeFrom (va_wsS RX3 19 yX3_isOddPrime wsX3_isOddPrime) := goodIn_app (goodIn_of _ (by decide +kernel)) ggX3_safePrimeFrom_X3_isOddPrime
theorem dX3_safePrimeFrom_0 : decode cX3_safePrimeFrom 0 = .ok (.iload_n 0, 1) := by decide +kernel
theorem dX3_safePrimeFrom_1 : decode cX3_safePrimeFrom 1 = .ok (.bipush 11, 2) := by decide +kernel
theorem dX3_safePrimeFrom_3 : decode cX3_safePrimeFrom 3 = .ok (.iadd, 1) := by decide +kernel
theorem dX3_safePrimeFrom_4 : decode cX3_safePrimeFrom 4 = .ok (.iload_n 0, 1) := by decide +kernel
theorem dX3_safePrimeFrom_5 : decode cX3_safePrimeFrom 5 = .ok (.bipush 12, 2) := by decide +kernel
theorem dX3_safePrimeFrom_7 : decode cX3_safePrimeFrom 7 = .ok (.irem, 1) := by decide +kernel
theorem dX3_safePrimeFrom_8 : decode cX3_safePrimeFrom 8 = .ok (.isub, 1) := by decide +kernel
theorem dX3_safePrimeFrom_9 : decode cX3_safePrimeFrom 9 = .ok (.istore_n 1, 1) := by decide +kernel
theorem dX3_safePrimeFrom_10 : decode cX3_safePrimeFrom 10 = .ok (.iload_n 1, 1) := by decide +kernel
theorem dX3_safePrimeFrom_11 : decode cX3_safePrimeFrom 11 = .ok (.ldc 18, 2) := by decide +kernel
theorem dX3_safePrimeFrom_13 : decode cX3_safePrimeFrom 13 = .ok (.if_icmp .ge 27, 3) := by decide +kernel
theorem dX3_safePrimeFrom_16 : decode cX3_safePrimeFrom 16 = .ok (.iload_n 1, 1) := by decide +kernel
theorem dX3_safePrimeFrom_17 : decode cX3_safePrimeFrom 17 = .ok (.iconst 2, 1) := by decide +kernel
theorem dX3_safePrimeFrom_18 : decode cX3_safePrimeFrom 18 = .ok (.idiv, 1) := by decide +kernel
theorem dX3_safePrimeFrom_19 : decode cX3_safePrimeFrom 19 = .ok (.invokestatic 19, 3) := by decide +kernel
theorem dX3_safePrimeFrom_22 : decode cX3_safePrimeFrom 22 = .ok (.ifCond .eq 12, 3) := by decide +kernel
theorem dX3_safePrimeFrom_25 : decode cX3_safePrimeFrom 25 = .ok (.iload_n 1, 1) := by decide +kernel
theorem dX3_safePrimeFrom_26 : decode cX3_safePrimeFrom 26 = .ok (.invokestatic 19, 3) := by decide +kernel
theorem dX3_safePrimeFrom_29 : decode cX3_safePrimeFrom 29 = .ok (.ifCond .eq 5, 3) := by decide +kernel
theorem dX3_safePrimeFrom_32 : decode cX3_safePrimeFrom 32 = .ok (.iload_n 1, 1) := by decide +kernel
theorem dX3_safePrimeFrom_33 : decode cX3_safePrimeFrom 33 = .ok (.ireturn, 1) := by decide +kernel
theorem dX3_safePrimeFrom_34 : decode cX3_safePrimeFrom 34 = .ok (.iinc 1 12, 3) := by decide +kernel
theorem dX3_safePrimeFrom_37 : decode cX3_safePrimeFrom 37 = .ok (.goto (-27), 3) := by decide +kernel
theorem dX3_safePrimeFrom_40 : decode cX3_safePrimeFrom 40 = .ok (.ldc 18, 2) := by decide +kernel
theorem dX3_safePrimeFrom_42 : decode cX3_safePrimeFrom 42 = .ok (.ireturn, 1) := by decide +kernel
theorem dX3_isOddPrime_0 : decode cX3_isOddPrime 0 = .ok (.iconst 3, 1) := by decide +kernel
theorem dX3_isOddPrime_1 : decode cX3_isOddPrime 1 = .ok (.istore_n 1, 1) := by decide +kernel
theorem dX3_isOddPrime_2 : decode cX3_isOddPrime 2 = .ok (.iload_n 1, 1) := by decide +kernel
theorem dX3_isOddPrime_3 : decode cX3_isOddPrime 3 = .ok (.iload_n 0, 1) := by decide +kernel
theorem dX3_isOddPrime_4 : decode cX3_isOddPrime 4 = .ok (.iload_n 1, 1) := by decide +kernel
theorem dX3_isOddPrime_5 : decode cX3_isOddPrime 5 = .ok (.idiv, 1) := by decide +kernel
theorem dX3_isOddPrime_6 : decode cX3_isOddPrime 6 = .ok (.if_icmp .gt 17, 3) := by decide +kernel
theorem dX3_isOddPrime_9 : decode cX3_isOddPrime 9 = .ok (.iload_n 0, 1) := by decide +kernel
theorem dX3_isOddPrime_10 : decode cX3_isOddPrime 10 = .ok (.iload_n 1, 1) := by decide +kernel
theorem dX3_isOddPrime_11 : decode cX3_isOddPrime 11 = .ok (.irem, 1) := by decide +kernel
theorem dX3_isOddPrime_12 : decode cX3_isOddPrime 12 = .ok (.ifCond .ne 5, 3) := by decide +kernel
theorem dX3_isOddPrime_15 : decode cX3_isOddPrime 15 = .ok (.iconst 0, 1) := by decide +kernel
theorem dX3_isOddPrime_16 : decode cX3_isOddPrime 16 = .ok (.ireturn, 1) := by decide +kernel
theorem dX3_isOddPrime_17 : decode cX3_isOddPrime 17 = .ok (.iinc 1 2, 3) := by decide +kernel
theorem dX3_isOddPrime_20 : decode cX3_isOddPrime 20 = .ok (.goto (-18), 3) := by decide +kernel
theorem dX3_isOddPrime_23 : decode cX3_isOddPrime 23 = .ok (.iconst 1, 1) := by decide +kernel
theorem dX3_isOddPrime_24 : decode cX3_isOddPrime 24 = .ok (.ireturn, 1) := by decide +kernel
theorem dX3_times_0 : decode cX3_times 0 = .ok (.iload_n 2, 1) := by decide +kernel
theorem dX3_times_1 : decode cX3_times 1 = .ok (.ifCond .le 15, 3) := by decide +kernel
theorem dX3_times_4 : decode cX3_times 4 = .ok (.iload_n 0, 1) := by decide +kernel
theorem dX3_times_5 : decode cX3_times 5 = .ok (.i2l, 1) := by decide +kernel
theorem dX3_times_6 : decode cX3_times 6 = .ok (.iload_n 1, 1) := by decide +kernel
theorem dX3_times_7 : decode cX3_times 7 = .ok (.i2l, 1) := by decide +kernel
theorem dX3_times_8 : decode cX3_times 8 = .ok (.lmul, 1) := by decide +kernel
theorem dX3_times_9 : decode cX3_times 9 = .ok (.iload_n 2, 1) := by decide +kernel
theorem dX3_times_10 : decode cX3_times 10 = .ok (.i2l, 1) := by decide +kernel
theorem dX3_times_11 : decode cX3_times 11 = .ok (.lrem, 1) := by decide +kernel
theorem dX3_times_12 : decode cX3_times 12 = .ok (.l2i, 1) := by decide +kernel
theorem dX3_times_13 : decode cX3_times 13 = .ok (.goto 4, 3) := by decide +kernel
theorem dX3_times_17 : decode cX3_times 17 = .ok (.ireturn, 1) := by decide +kernel
set_option maxRecDepth 20000 in
theorem ggX3_power_X3_times : GoodIn wsX3_power wsX3_times := goodIn_r _ [4] (by decide +kernel) (by decide +kernel)
set_option maxRecDepth 20000 in
theorem gX3_power_X3_times : GoodIn wsX3_power (va_wsS RX3 25 yX3_times wsX3_times) := goodIn_app (goodIn_of _ (by decide +kernel)) ggX3_power_X3_times
theorem dX3_power_0 : decode cX3_power 0 = .ok (.iconst 1, 1) := by decide +kernel
theorem dX3_power_1 : decode cX3_power 1 = .ok (.istore_n 3, 1) := by decide +kernel
theorem dX3_power_2 : decode cX3_power 2 = .ok (.iload_n 0, 1) := by decide +kernel
theorem dX3_power_3 : decode cX3_power 3 = .ok (.istore 4, 2) := by decide +kernel
theorem dX3_power_5 : decode cX3_power 5 = .ok (.iload_n 1, 1) := by decide +kernel
theorem dX3_power_6 : decode cX3_power 6 = .ok (.istore 5, 2) := by decide +kernel
theorem dX3_power_8 : decode cX3_power 8 = .ok (.iload 5, 2) := by decide +kernel
theorem dX3_power_10 : decode cX3_power 10 = .ok (.ifCond .le 38, 3) := by decide +kernel
theorem dX3_power_13 : decode cX3_power 13 = .ok (.iload 5, 2) := by decide +kernel
theorem dX3_power_15 : decode cX3_power 15 = .ok (.iconst 1, 1) := by decide +kernel
theorem dX3_power_16 : decode cX3_power 16 = .ok (.iand, 1) := by decide +kernel
theorem dX3_power_17 : decode cX3_power 17 = .ok (.iconst 1, 1) := by decide +kernel
theorem dX3_power_18 : decode cX3_power 18 = .ok (.if_icmp .ne 11, 3) := by decide +kernel
theorem dX3_power_21 : decode cX3_power 21 = .ok (.iload_n 3, 1) := by decide +kernel
theorem dX3_power_22 : decode cX3_power 22 = .ok (.iload 4, 2) := by decide +kernel
theorem dX3_power_24 : decode cX3_power 24 = .ok (.iload_n 2, 1) := by decide +kernel
theorem dX3_power_25 : decode cX3_power 25 = .ok (.invokestatic 25, 3) := by decide +kernel
theorem dX3_power_28 : decode cX3_power 28 = .ok (.istore_n 3, 1) := by decide +kernel
theorem dX3_power_29 : decode cX3_power 29 = .ok (.iload 4, 2) := by decide +kernel
theorem dX3_power_31 : decode cX3_power 31 = .ok (.iload 4, 2) := by decide +kernel
theorem dX3_power_33 : decode cX3_power 33 = .ok (.iload_n 2, 1) := by decide +kernel
theorem dX3_power_34 : decode cX3_power 34 = .ok (.invokestatic 25, 3) := by decide +kernel
theorem dX3_power_37 : decode cX3_power 37 = .ok (.istore 4, 2) := by decide +kernel
theorem dX3_power_39 : decode cX3_power 39 = .ok (.iload 5, 2) := by decide +kernel
theorem dX3_power_41 : decode cX3_power 41 = .ok (.iconst 1, 1) := by decide +kernel
theorem dX3_power_42 : decode cX3_power 42 = .ok (.ishr, 1) := by decide +kernel
theorem dX3_power_43 : decode cX3_power 43 = .ok (.istore 5, 2) := by decide +kernel
theorem dX3_power_45 : decode cX3_power 45 = .ok (.goto (-37), 3) := by decide +kernel
theorem dX3_power_48 : decode cX3_power 48 = .ok (.iload_n 3, 1) := by decide +kernel
theorem dX3_power_49 : decode cX3_power 49 = .ok (.ireturn, 1) := by decide +kernel
theorem dX3_digested_0 : decode cX3_digested 0 = .ok (.lload_n 0, 1) := by decide +kernel
theorem dX3_digested_1 : decode cX3_digested 1 = .ok (.lload_n 2, 1) := by decide +kernel
theorem dX3_digested_2 : decode cX3_digested 2 = .ok (.lxor, 1) := by decide +kernel
theorem dX3_digested_3 : decode cX3_digested 3 = .ok (.ldc2_w 32, 3) := by decide +kernel
theorem dX3_digested_6 : decode cX3_digested 6 = .ok (.lmul, 1) := by decide +kernel
theorem dX3_digested_7 : decode cX3_digested 7 = .ok (.lreturn, 1) := by decide +kernel
set_option maxHeartbeats 4000000 in
set_option maxRecDepth 100000 in
/-- within: taken into lo .. hi -/
theorem c_X3_within (l : Launch) (D : va_G) (cA : Nat → ClassId) (x : Int32) (lo : Int32) (hi : Int32) : Met l yX3_within wsX3_within ({ frames := 1, cells := 0, slots := 0, locals := 30 }) (rPc vwCl D cA [] [.int x, .int lo, .int hi]) (rq_x (some (.int (wi x lo hi)))) 0 0 (fun _ => False) := by
  refine Met.ofW (cc := cX3_within) (maxL := 3) (ret := (some .int)) (by decide) rfl ?_
  intro p e s m args below meth c s₁ B hml hv
  obtain ⟨rfl, hP, hK⟩ := hv
  have hx := B.exec
  have hb := B.bytes
  have hr := B.returns
  have hts := atoms_spec (ws := wsX3_within) B.pre
  have hown : s.vm.findClass RX3 = some m.cls := findClass_of_methodNamed B.named
  have hlocks := B.notSynchronized
  have hl := lv_entry ([.int x, .int lo, .int hi]) (n := 3) (Nat.le_of_ble_eq_true rfl)
  rw [lg_entry_eq]
  generalize (lg_sl ([.int x, .int lo, .int hi]) ++ List.replicate (3 - (lg_sl ([.int x, .int lo, .int hi])).length) Slot.unset).toArray = ls at hl ⊢
  have hl : lv_has ls 3 [(0, .int x), (1, .int lo), (2, .int hi)] := hl
  refine lv_iload_n hx hb dX3_within_0 rfl (lv_at hl 1 rfl) ?_
  refine lv_iload_n hx hb dX3_within_1 rfl (lv_at hl 2 rfl) ?_
  refine lv_iload_n hx hb dX3_within_2 rfl (lv_at hl 0 rfl) ?_
  refine va_mmin hx hb (hml.trans hl.1.symm) hown (hts (.methodLink RX3 9 Lib.Math.min.name) (by decide +kernel)) (hts (.static Lib.Math.min.name) (by decide +kernel)) (hts (.initialized "java/lang/Math") (by decide +kernel)) (hts (.code Lib.Math.min.name Lib.Math.min.code 2 (some .int)) (by decide +kernel)) (Nat.le_of_ble_eq_true rfl) (Nat.le_of_ble_eq_true rfl) (Nat.le_of_ble_eq_true rfl) (Nat.le_of_ble_eq_true rfl) dX3_within_3 ?_
  refine va_mmax hx hb (hml.trans hl.1.symm) hown (hts (.methodLink RX3 15 Lib.Math.max.name) (by decide +kernel)) (hts (.static Lib.Math.max.name) (by decide +kernel)) (hts (.initialized "java/lang/Math") (by decide +kernel)) (hts (.code Lib.Math.max.name Lib.Math.max.code 2 (some .int)) (by decide +kernel)) (Nat.le_of_ble_eq_true rfl) (Nat.le_of_ble_eq_true rfl) (Nat.le_of_ble_eq_true rfl) (Nat.le_of_ble_eq_true rfl) dX3_within_6 ?_
  exact W.iret (v := (if lo < (if x < hi then x else hi) then (if x < hi then x else hi) else lo)) hx hb hr (fun t ht hW => ⟨congrArg (fun z => Outcome.returned (some (Value.int z))) (rfl), ht⟩) (fun _ h => by cases h) dX3_within_9

set_option maxHeartbeats 4000000 in
set_option maxRecDepth 100000 in
theorem c_X3_times (l : Launch) (D : va_G) (cA : Nat → ClassId) (a : Int32) (b : Int32) (q : Int32) (hq : 0 < q) : Met l yX3_times wsX3_times ({ frames := 0, cells := 0, slots := 0, locals := 0 }) (rPc vwCl D cA [] [.int a, .int b, .int q]) (rq_x (some (.int (tm q a b)))) 0 0 (fun _ => False) := by
  refine Met.ofW (cc := cX3_times) (maxL := 3) (ret := (some .int)) (by decide) rfl ?_
  intro p e s m args below meth c s₁ B hml hv
  obtain ⟨rfl, hP, hK⟩ := hv
  have hx := B.exec
  have hb := B.bytes
  have hr := B.returns
  have hts := atoms_spec (ws := wsX3_times) B.pre
  have hown : s.vm.findClass RX3 = some m.cls := findClass_of_methodNamed B.named
  have hlocks := B.notSynchronized
  have hl := lv_entry ([.int a, .int b, .int q]) (n := 3) (Nat.le_of_ble_eq_true rfl)
  rw [lg_entry_eq]
  generalize (lg_sl ([.int a, .int b, .int q]) ++ List.replicate (3 - (lg_sl ([.int a, .int b, .int q])).length) Slot.unset).toArray = ls at hl ⊢
  have hl : lv_has ls 3 [(0, .int a), (1, .int b), (2, .int q)] := hl
  refine lv_iload_n hx hb dX3_times_0 rfl (lv_at hl 2 rfl) ?_
  refine lv_if_le (tgt := 16) hx hb dX3_times_1 (by decide) (fun c_1 => ?_) (fun c_1 => ?_)
  · exact absurd c_1 (Int32.not_le.mpr hq)
  · skip
    refine lv_iload_n hx hb dX3_times_4 rfl (lv_at hl 0 rfl) ?_
    refine lv_i2l hx hb dX3_times_5 rfl ?_
    refine lv_iload_n hx hb dX3_times_6 rfl (lv_at hl 1 rfl) ?_
    refine lv_i2l hx hb dX3_times_7 rfl ?_
    refine lv_lmul hx hb dX3_times_8 ?_
    refine lv_iload_n hx hb dX3_times_9 rfl (lv_at hl 2 rfl) ?_
    refine lv_i2l hx hb dX3_times_10 rfl ?_
    refine lv_lrem hx hb dX3_times_11 (tm_ne hq) ?_
    refine lv_l2i hx hb dX3_times_12 rfl ?_
    refine lv_goto (tgt := 17) hx hb dX3_times_13 (by decide) ?_
    exact W.iret (v := ((a.toInt64 * b.toInt64) - (a.toInt64 * b.toInt64) / q.toInt64 * q.toInt64).toInt32) hx hb hr (fun t ht hW => ⟨congrArg (fun z => Outcome.returned (some (Value.int z))) (rfl), ht⟩) (fun _ h => by cases h) dX3_times_17

set_option maxHeartbeats 4000000 in
set_option maxRecDepth 100000 in
theorem c_X3_digested (l : Launch) (D : va_G) (cA : Nat → ClassId) (d : Int64) (x : Int64) : Met l yX3_digested wsX3_digested ({ frames := 0, cells := 0, slots := 0, locals := 0 }) (rPc vwCl D cA [] [.long d, .long x]) (rq_x (some (.long (dg d x)))) 0 0 (fun _ => False) := by
  refine Met.ofW (cc := cX3_digested) (maxL := 4) (ret := (some .long)) (by decide) rfl ?_
  intro p e s m args below meth c s₁ B hml hv
  obtain ⟨rfl, hP, hK⟩ := hv
  have hx := B.exec
  have hb := B.bytes
  have hr := B.returns
  have hts := atoms_spec (ws := wsX3_digested) B.pre
  have hown : s.vm.findClass RX3 = some m.cls := findClass_of_methodNamed B.named
  have hlocks := B.notSynchronized
  have hl := lv_entry ([.long d, .long x]) (n := 4) (Nat.le_of_ble_eq_true rfl)
  rw [lg_entry_eq]
  generalize (lg_sl ([.long d, .long x]) ++ List.replicate (4 - (lg_sl ([.long d, .long x])).length) Slot.unset).toArray = ls at hl ⊢
  have hl : lv_has ls 4 [(0, .long d), (2, .long x)] := hl
  refine lv_lload_n hx hb dX3_digested_0 rfl (lv_at hl 0 rfl) ?_
  refine lv_lload_n hx hb dX3_digested_1 rfl (lv_at hl 1 rfl) ?_
  refine lv_lxor hx hb dX3_digested_2 ?_
  refine lv_ldc2 (v := (1099511628211)) hx hb hown (hts (.constantLong RX3 32 (1099511628211)) (by decide +kernel)) dX3_digested_3 ?_
  refine lv_lmul hx hb dX3_digested_6 ?_
  exact W.lret (v := ((d ^^^ x) * (1099511628211))) hx hb hr (fun t ht hW => ⟨congrArg (fun z => Outcome.returned (some (Value.long z))) (rfl), ht⟩) (fun _ h => by cases h) dX3_digested_7

set_option maxHeartbeats 4000000 in
set_option maxRecDepth 100000 in
theorem c_X3_isOddPrime (l : Launch) (D : va_G) (cA : Nat → ClassId) (n : Int32) (n0 : Nat) (hn : n = nI n0) (hN : n0 < 1000000) : Met l yX3_isOddPrime wsX3_isOddPrime ({ frames := 0, cells := 0, slots := 0, locals := 0 }) (rPc vwCl D cA [] [.int n]) (rq_p (fun r => (r = 1 ∧ sp_odd n0) ∨ (r = 0 ∧ ¬ sp_odd n0))) 0 0 (fun _ => False) := by
  refine Met.ofW (cc := cX3_isOddPrime) (maxL := 2) (ret := (some .boolean)) (by decide) rfl ?_
  intro p e s m args below meth c s₁ B hml hv
  obtain ⟨rfl, hP, hK⟩ := hv
  have hx := B.exec
  have hb := B.bytes
  have hr := B.returns
  have hts := atoms_spec (ws := wsX3_isOddPrime) B.pre
  have hown : s.vm.findClass RX3 = some m.cls := findClass_of_methodNamed B.named
  have hlocks := B.notSynchronized
  have hl := lv_entry ([.int n]) (n := 2) (Nat.le_of_ble_eq_true rfl)
  rw [lg_entry_eq]
  generalize (lg_sl ([.int n]) ++ List.replicate (2 - (lg_sl ([.int n])).length) Slot.unset).toArray = ls at hl ⊢
  have hl : lv_has ls 2 [(0, .int n)] := hl
  refine lv_iconst (v := 3) hx hb dX3_isOddPrime_0 (by decide) ?_
  refine lv_istore_n (lv' := [(1, .int 3), (0, .int n)]) hx hb dX3_isOddPrime_1 rfl hl (by decide) rfl (fun ls hl => ?_)
  have loop2 : ∀ (f k : Nat) (z : Int32), z = nI k → 2000 ≤ k + f → 3 ≤ k → k % 2 = 1 → k ≤ 1003 → (∀ j : Nat, 3 ≤ j → j % 2 = 1 → j < k → ¬ n0 % j = 0) → ∀ ls : Array Slot, lv_has ls 2 [(0, .int n), (1, .int z)] → W p l e (headSpec wsX3_isOddPrime ({ frames := 0, cells := 0, slots := 0, locals := 0 })).room s m [.int n].toArray below meth c s.heap [] 0 0 (MQ below (rq_p (fun r => (r = 1 ∧ sp_odd n0) ∨ (r = 0 ∧ ¬ sp_odd n0))) [.int n].toArray s 0 0 (fun _ => False)) (F0 m 2 ls []) := by
    intro f
    induction f with
    | zero =>
      intro k z hz h0 h1 h2 h3
      omega
    | succ f ih =>
      intro k z hz h0 h1 h2 h3 h4 ls hl
      refine lv_iload_n hx hb dX3_isOddPrime_2 rfl (lv_at hl 1 rfl) ?_
      refine lv_iload_n hx hb dX3_isOddPrime_3 rfl (lv_at hl 0 rfl) ?_
      refine lv_iload_n hx hb dX3_isOddPrime_4 rfl (lv_at hl 1 rfl) ?_
      refine lv_idiv hx hb dX3_isOddPrime_5 (nI_ne0z hz (by omega) (by omega)) ?_
      refine lv_icmp_gt (tgt := 23) hx hb dX3_isOddPrime_6 (by decide) (fun c_6 => ?_) (fun c_6 => ?_)
      · skip
        refine lv_iconst (v := 1) hx hb dX3_isOddPrime_23 (by decide) ?_
        exact W.zret (v := 1) hx hb hr rfl (fun t ht hW => ⟨1, rfl, Or.inl ⟨rfl, op_yes hn hN hz h1 h3 h4 c_6⟩, ht⟩) (fun _ h => by cases h) dX3_isOddPrime_24
      · skip
        refine lv_iload_n hx hb dX3_isOddPrime_9 rfl (lv_at hl 0 rfl) ?_
        refine lv_iload_n hx hb dX3_isOddPrime_10 rfl (lv_at hl 1 rfl) ?_
        refine lv_irem hx hb dX3_isOddPrime_11 (nI_ne0z hz (by omega) (by omega)) ?_
        refine lv_if_ne (tgt := 17) hx hb dX3_isOddPrime_12 (by decide) (fun c_12 => ?_) (fun c_12 => ?_)
        · skip
          refine lv_iinc (v := (z + 2)) (lv' := [(1, .int (z + 2)), (0, .int n)]) hx hb dX3_isOddPrime_17 hl (k := 1) rfl rfl (by decide) rfl (fun ls hl => ?_)
          refine lv_goto (tgt := 2) hx hb dX3_isOddPrime_20 (by decide) ?_
          obtain ⟨g1, g2⟩ := op_next hn hN hz h1 h2 h3 h4 c_6 c_12
          exact ih (k + 2) (z + 2) (by rw [hz]; exact nI_add k 2) (by omega) (by omega) (by omega) g1 g2 ls (lv_sub hl [1, 0] rfl)
        · skip
          refine lv_iconst (v := 0) hx hb dX3_isOddPrime_15 (by decide) ?_
          exact W.zret (v := 0) hx hb hr rfl (fun t ht hW => ⟨0, rfl, Or.inr ⟨rfl, op_no hn hN hz h1 h2 h3 c_6 c_12⟩, ht⟩) (fun _ h => by cases h) dX3_isOddPrime_16
  exact loop2 2000 3 3 rfl (by omega) (by omega) (by omega) (by omega) (fun j a b c => by omega) ls (lv_sub hl [1, 0] rfl)

set_option maxHeartbeats 4000000 in
set_option maxRecDepth 100000 in
theorem c_X3_safePrimeFrom (l : Launch) (D : va_G) (cA : Nat → ClassId) (n : Int32) (n0 : Nat) (hn : n = nI n0) (h11 : 11 ≤ n0) (hN : n0 ≤ 999959) : Met l yX3_safePrimeFrom wsX3_safePrimeFrom ({ frames := 1, cells := 0, slots := 0, locals := 21 }) (rPc vwCl D cA [] [.int n]) (rq_p (fun r => ∃ k : Nat, k ≤ 999959 ∧ r = nI k ∧ sp_least n0 k)) 0 0 (fun _ => False) := by
  refine Met.ofW (cc := cX3_safePrimeFrom) (maxL := 2) (ret := (some .int)) (by decide) rfl ?_
  intro p e s m args below meth c s₁ B hml hv
  obtain ⟨rfl, hP, hK⟩ := hv
  have hx := B.exec
  have hb := B.bytes
  have hr := B.returns
  have hts := atoms_spec (ws := wsX3_safePrimeFrom) B.pre
  have hown : s.vm.findClass RX3 = some m.cls := findClass_of_methodNamed B.named
  have hlocks := B.notSynchronized
  have hl := lv_entry ([.int n]) (n := 2) (Nat.le_of_ble_eq_true rfl)
  rw [lg_entry_eq]
  generalize (lg_sl ([.int n]) ++ List.replicate (2 - (lg_sl ([.int n])).length) Slot.unset).toArray = ls at hl ⊢
  have hl : lv_has ls 2 [(0, .int n)] := hl
  refine lv_iload_n hx hb dX3_safePrimeFrom_0 rfl (lv_at hl 0 rfl) ?_
  refine lv_bipush (v := 11) hx hb dX3_safePrimeFrom_1 (by decide) ?_
  refine lv_iadd hx hb dX3_safePrimeFrom_3 ?_
  refine lv_iload_n hx hb dX3_safePrimeFrom_4 rfl (lv_at hl 0 rfl) ?_
  refine lv_bipush (v := 12) hx hb dX3_safePrimeFrom_5 (by decide) ?_
  refine lv_irem hx hb dX3_safePrimeFrom_7 (by decide) ?_
  refine lv_isub hx hb dX3_safePrimeFrom_8 ?_
  refine lv_topi (fun z0 e_z0 => ?_)
  refine lv_istore_n (lv' := [(1, .int z0), (0, .int n)]) hx hb dX3_safePrimeFrom_9 rfl hl (by decide) rfl (fun ls hl => ?_)
  have loop10 : ∀ (f k : Nat) (z : Int32), z = nI k → 1100000 ≤ k + f → n0 ≤ k → k % 12 = 11 → k ≤ 999959 → (∀ j : Nat, n0 ≤ j → j < k → ¬ sp_safe j) → ∀ ls : Array Slot, lv_has ls 2 [(0, .int n), (1, .int z)] → W p l e (headSpec wsX3_safePrimeFrom ({ frames := 1, cells := 0, slots := 0, locals := 21 })).room s m [.int n].toArray below meth c s.heap [] 0 0 (MQ below (rq_p (fun r => ∃ k : Nat, k ≤ 999959 ∧ r = nI k ∧ sp_least n0 k)) [.int n].toArray s 0 0 (fun _ => False)) (F0 m 10 ls []) := by
    intro f
    induction f with
    | zero =>
      intro k z hz h0 h1 h2 h3
      omega
    | succ f ih =>
      intro k z hz h0 h1 h2 h3 h4 ls hl
      refine lv_iload_n hx hb dX3_safePrimeFrom_10 rfl (lv_at hl 1 rfl) ?_
      refine lv_ldc (v := (999959)) hx hb hown (hts (.constant RX3 18 (999959)) (by decide +kernel)) dX3_safePrimeFrom_11 ?_
      refine lv_icmp_ge (tgt := 40) hx hb dX3_safePrimeFrom_13 (by decide) (fun c_13 => ?_) (fun c_13 => ?_)
      · skip
        refine lv_ldc (v := (999959)) hx hb hown (hts (.constant RX3 18 (999959)) (by decide +kernel)) dX3_safePrimeFrom_40 ?_
        exact W.iret (v := (999959)) hx hb hr (fun t ht hW => ⟨(999959), rfl, sf_end hz h1 h3 h4 c_13, ht⟩) (fun _ h => by cases h) dX3_safePrimeFrom_42
      · skip
        refine lv_iload_n hx hb dX3_safePrimeFrom_16 rfl (lv_at hl 1 rfl) ?_
        refine lv_iconst (v := 2) hx hb dX3_safePrimeFrom_17 (by decide) ?_
        refine lv_idiv hx hb dX3_safePrimeFrom_18 (by decide) ?_
        refine rq_callp (rn_S (As := [.int (z / 2)]) (rest := []) ⟨hx, hb, hml, hown, hts⟩ (c_X3_isOddPrime l D cA (z / 2) (k / 2) (sf_half hz h3) (by omega)) (va_cwS 1 hts gX3_safePrimeFrom_X3_isOddPrime rfl rfl rfl (by decide +kernel) ⟨Nat.le_of_ble_eq_true rfl, Nat.le_of_ble_eq_true rfl⟩) hK hP [] rfl rfl hl.1 rfl (Nat.le_of_ble_eq_true rfl) dX3_safePrimeFrom_19 ⟨Nat.le_of_ble_eq_true rfl, Nat.le_of_ble_eq_true rfl⟩) (fun r_1 h_r_1 => ?_)
        refine lv_if_eq (tgt := 34) hx hb dX3_safePrimeFrom_22 (by decide) (fun c_22 => ?_) (fun c_22 => ?_)
        · skip
          refine lv_iinc (v := (z + 12)) (lv' := [(1, .int (z + 12)), (0, .int n)]) hx hb dX3_safePrimeFrom_34 hl (k := 1) rfl rfl (by decide) rfl (fun ls hl => ?_)
          refine lv_goto (tgt := 10) hx hb dX3_safePrimeFrom_37 (by decide) ?_
          obtain ⟨g1, g2⟩ := sf_next hz h11 h1 h2 h3 h4 c_13 (sf_not1 h11 h1 h2 h_r_1 c_22)
          exact ih (k + 12) (z + 12) (by rw [hz]; exact nI_add k 12) (by omega) (by omega) (by omega) g1 g2 ls (lv_sub hl [1, 0] rfl)
        · skip
          refine lv_iload_n hx hb dX3_safePrimeFrom_25 rfl (lv_at hl 1 rfl) ?_
          refine rq_callp (rn_S (As := [.int z]) (rest := []) ⟨hx, hb, hml, hown, hts⟩ (c_X3_isOddPrime l D cA z k hz (by omega)) (va_cwS 1 hts gX3_safePrimeFrom_X3_isOddPrime rfl rfl rfl (by decide +kernel) ⟨Nat.le_of_ble_eq_true rfl, Nat.le_of_ble_eq_true rfl⟩) hK hP [] rfl rfl hl.1 rfl (Nat.le_of_ble_eq_true rfl) dX3_safePrimeFrom_26 ⟨Nat.le_of_ble_eq_true rfl, Nat.le_of_ble_eq_true rfl⟩) (fun r_2 h_r_2 => ?_)
          refine lv_if_eq (tgt := 34) hx hb dX3_safePrimeFrom_29 (by decide) (fun c_29 => ?_) (fun c_29 => ?_)
          · skip
            refine lv_iinc (v := (z + 12)) (lv' := [(1, .int (z + 12)), (0, .int n)]) hx hb dX3_safePrimeFrom_34 hl (k := 1) rfl rfl (by decide) rfl (fun ls hl => ?_)
            refine lv_goto (tgt := 10) hx hb dX3_safePrimeFrom_37 (by decide) ?_
            obtain ⟨g1, g2⟩ := sf_next hz h11 h1 h2 h3 h4 c_13 (sf_not2 h11 h1 h2 h_r_1 c_22 h_r_2 c_29)
            exact ih (k + 12) (z + 12) (by rw [hz]; exact nI_add k 12) (by omega) (by omega) (by omega) g1 g2 ls (lv_sub hl [1, 0] rfl)
          · skip
            refine lv_iload_n hx hb dX3_safePrimeFrom_32 rfl (lv_at hl 1 rfl) ?_
            exact W.iret (v := z) hx hb hr (fun t ht hW => ⟨z, rfl, sf_yes hz h11 h1 h2 h3 h4 h_r_1 c_22 h_r_2 c_29, ht⟩) (fun _ h => by cases h) dX3_safePrimeFrom_33
  obtain ⟨k, g1, g2, g3, g4, g5⟩ := sf_start hn h11 hN e_z0
  exact loop10 1100000 k z0 g1 (by omega) g2 g3 g4 g5 ls (lv_sub hl [1, 0] rfl)

set_option maxHeartbeats 4000000 in
set_option maxRecDepth 100000 in
theorem c_X3_power (l : Launch) (D : va_G) (cA : Nat → ClassId) (a : Int32) (x : Int32) (q : Int32) (x0 : Nat) (hx0 : x = nI x0) (hX : x0 < 2 ^ 31) (hq : 0 < q) : Met l yX3_power wsX3_power ({ frames := 1, cells := 0, slots := 0, locals := 22 }) (rPc vwCl D cA [] [.int a, .int x, .int q]) (rq_x (some (.int (pw q 32 x0 1 a)))) 0 0 (fun _ => False) := by
  refine Met.ofW (cc := cX3_power) (maxL := 6) (ret := (some .int)) (by decide) rfl ?_
  intro p e s m args below meth c s₁ B hml hv
  obtain ⟨rfl, hP, hK⟩ := hv
  have hx := B.exec
  have hb := B.bytes
  have hr := B.returns
  have hts := atoms_spec (ws := wsX3_power) B.pre
  have hown : s.vm.findClass RX3 = some m.cls := findClass_of_methodNamed B.named
  have hlocks := B.notSynchronized
  have hl := lv_entry ([.int a, .int x, .int q]) (n := 6) (Nat.le_of_ble_eq_true rfl)
  rw [lg_entry_eq]
  generalize (lg_sl ([.int a, .int x, .int q]) ++ List.replicate (6 - (lg_sl ([.int a, .int x, .int q])).length) Slot.unset).toArray = ls at hl ⊢
  have hl : lv_has ls 6 [(0, .int a), (1, .int x), (2, .int q)] := hl
  refine lv_iconst (v := 1) hx hb dX3_power_0 (by decide) ?_
  refine lv_istore_n (lv' := [(3, .int 1), (0, .int a), (1, .int x), (2, .int q)]) hx hb dX3_power_1 rfl hl (by decide) rfl (fun ls hl => ?_)
  refine lv_iload_n hx hb dX3_power_2 rfl (lv_at hl 1 rfl) ?_
  refine lv_istore (lv' := [(4, .int a), (3, .int 1), (0, .int a), (1, .int x), (2, .int q)]) hx hb dX3_power_3 hl (by decide) rfl (fun ls hl => ?_)
  refine lv_iload_n hx hb dX3_power_5 rfl (lv_at hl 3 rfl) ?_
  refine lv_istore (lv' := [(5, .int x), (4, .int a), (3, .int 1), (0, .int a), (1, .int x), (2, .int q)]) hx hb dX3_power_6 hl (by decide) rfl (fun ls hl => ?_)
  have loop8 : ∀ (f n : Nat) (z r b : Int32), z = nI n → 0 < f → n < 2 ^ (f - 1) → n < 2 ^ 31 → pw q f n r b = pw q 32 x0 1 a → ∀ ls : Array Slot, lv_has ls 6 [(0, .int a), (1, .int x), (2, .int q), (3, .int r), (4, .int b), (5, .int z)] → W p l e (headSpec wsX3_power ({ frames := 1, cells := 0, slots := 0, locals := 22 })).room s m [.int a, .int x, .int q].toArray below meth c s.heap [] 0 0 (MQ below (rq_x (some (.int (pw q 32 x0 1 a)))) [.int a, .int x, .int q].toArray s 0 0 (fun _ => False)) (F0 m 8 ls []) := by
    intro f
    induction f with
    | zero =>
      intro n z r b hz h1
      omega
    | succ f ih =>
      intro n z r b hz h1 h2 h3 hw ls hl
      refine lv_iload hx hb dX3_power_8 (lv_at hl 5 rfl) ?_
      refine lv_if_le (tgt := 48) hx hb dX3_power_10 (by decide) (fun c_10 => ?_) (fun c_10 => ?_)
      · skip
        refine lv_iload_n hx hb dX3_power_48 rfl (lv_at hl 3 rfl) ?_
        exact W.iret (v := r) hx hb hr (fun t ht hW => ⟨congrArg (fun z => Outcome.returned (some (Value.int z))) (pw_end hz h3 c_10 hw), ht⟩) (fun _ h => by cases h) dX3_power_49
      · skip
        refine lv_iload hx hb dX3_power_13 (lv_at hl 5 rfl) ?_
        refine lv_iconst (v := 1) hx hb dX3_power_15 (by decide) ?_
        refine lv_iand hx hb dX3_power_16 ?_
        refine lv_iconst (v := 1) hx hb dX3_power_17 (by decide) ?_
        refine lv_icmp_ne (tgt := 29) hx hb dX3_power_18 (by decide) (fun c_18 => ?_) (fun c_18 => ?_)
        · skip
          refine lv_iload hx hb dX3_power_29 (lv_at hl 4 rfl) ?_
          refine lv_iload hx hb dX3_power_31 (lv_at hl 4 rfl) ?_
          refine lv_iload_n hx hb dX3_power_33 rfl (lv_at hl 2 rfl) ?_
          refine rq_call1 (v := .int (tm q b b)) (rn_S (As := [.int b, .int b, .int q]) (rest := []) ⟨hx, hb, hml, hown, hts⟩ (c_X3_times l D cA b b q (by assumption)) (va_cwS 3 hts gX3_power_X3_times rfl rfl rfl (by decide +kernel) ⟨Nat.le_of_ble_eq_true rfl, Nat.le_of_ble_eq_true rfl⟩) hK hP [] rfl rfl hl.1 rfl (Nat.le_of_ble_eq_true rfl) dX3_power_34 ⟨Nat.le_of_ble_eq_true rfl, Nat.le_of_ble_eq_true rfl⟩) ?_
          refine lv_istore (lv' := [(4, .int (tm q b b)), (0, .int a), (1, .int x), (2, .int q), (3, .int r), (5, .int z)]) hx hb dX3_power_37 hl (by decide) rfl (fun ls hl => ?_)
          refine lv_iload hx hb dX3_power_39 (lv_at hl 5 rfl) ?_
          refine lv_iconst (v := 1) hx hb dX3_power_41 (by decide) ?_
          refine lv_ishr hx hb dX3_power_42 ?_
          refine lv_istore (lv' := [(5, .int (z >>> (1 &&& 31))), (4, .int (tm q b b)), (0, .int a), (1, .int x), (2, .int q), (3, .int r)]) hx hb dX3_power_43 hl (by decide) rfl (fun ls hl => ?_)
          refine lv_goto (tgt := 8) hx hb dX3_power_45 (by decide) ?_
          obtain ⟨g1, g2, g3, g4⟩ := pw_even hz h2 h3 c_10 c_18 hw
          exact ih (n / 2) _ _ _ g1 g2 g3 (by omega) g4 ls (lv_sub hl [2, 3, 4, 5, 1, 0] rfl)
        · skip
          refine lv_iload_n hx hb dX3_power_21 rfl (lv_at hl 3 rfl) ?_
          refine lv_iload hx hb dX3_power_22 (lv_at hl 4 rfl) ?_
          refine lv_iload_n hx hb dX3_power_24 rfl (lv_at hl 2 rfl) ?_
          refine rq_call1 (v := .int (tm q r b)) (rn_S (As := [.int r, .int b, .int q]) (rest := []) ⟨hx, hb, hml, hown, hts⟩ (c_X3_times l D cA r b q (by assumption)) (va_cwS 3 hts gX3_power_X3_times rfl rfl rfl (by decide +kernel) ⟨Nat.le_of_ble_eq_true rfl, Nat.le_of_ble_eq_true rfl⟩) hK hP [] rfl rfl hl.1 rfl (Nat.le_of_ble_eq_true rfl) dX3_power_25 ⟨Nat.le_of_ble_eq_true rfl, Nat.le_of_ble_eq_true rfl⟩) ?_
          refine lv_istore_n (lv' := [(3, .int (tm q r b)), (0, .int a), (1, .int x), (2, .int q), (4, .int b), (5, .int z)]) hx hb dX3_power_28 rfl hl (by decide) rfl (fun ls hl => ?_)
          refine lv_iload hx hb dX3_power_29 (lv_at hl 4 rfl) ?_
          refine lv_iload hx hb dX3_power_31 (lv_at hl 4 rfl) ?_
          refine lv_iload_n hx hb dX3_power_33 rfl (lv_at hl 3 rfl) ?_
          refine rq_call1 (v := .int (tm q b b)) (rn_S (As := [.int b, .int b, .int q]) (rest := []) ⟨hx, hb, hml, hown, hts⟩ (c_X3_times l D cA b b q (by assumption)) (va_cwS 3 hts gX3_power_X3_times rfl rfl rfl (by decide +kernel) ⟨Nat.le_of_ble_eq_true rfl, Nat.le_of_ble_eq_true rfl⟩) hK hP [] rfl rfl hl.1 rfl (Nat.le_of_ble_eq_true rfl) dX3_power_34 ⟨Nat.le_of_ble_eq_true rfl, Nat.le_of_ble_eq_true rfl⟩) ?_
          refine lv_istore (lv' := [(4, .int (tm q b b)), (3, .int (tm q r b)), (0, .int a), (1, .int x), (2, .int q), (5, .int z)]) hx hb dX3_power_37 hl (by decide) rfl (fun ls hl => ?_)
          refine lv_iload hx hb dX3_power_39 (lv_at hl 5 rfl) ?_
          refine lv_iconst (v := 1) hx hb dX3_power_41 (by decide) ?_
          refine lv_ishr hx hb dX3_power_42 ?_
          refine lv_istore (lv' := [(5, .int (z >>> (1 &&& 31))), (4, .int (tm q b b)), (3, .int (tm q r b)), (0, .int a), (1, .int x), (2, .int q)]) hx hb dX3_power_43 hl (by decide) rfl (fun ls hl => ?_)
          refine lv_goto (tgt := 8) hx hb dX3_power_45 (by decide) ?_
          obtain ⟨g1, g2, g3, g4⟩ := pw_odd hz h2 h3 c_10 c_18 hw
          exact ih (n / 2) _ _ _ g1 g2 g3 (by omega) g4 ls (lv_sub hl [3, 4, 5, 2, 1, 0] rfl)
  exact loop8 32 x0 x 1 a hx0 (by omega) hX hX rfl ls (lv_sub hl [3, 4, 5, 2, 1, 0] rfl)
