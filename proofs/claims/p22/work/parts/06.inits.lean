set_option maxRecDepth 20000 in
theorem ggX2_init_X2_clear : GoodIn wsX2_init wsX2_clear := goodIn_r _ [11, 5, 6, 12, 13, 14, 15, 16, 17] (by decide +kernel) (by decide +kernel)
set_option maxRecDepth 20000 in
theorem gX2_init_X2_clear : GoodIn wsX2_init (wsV RX2 18 RX2 yX2_clear wsX2_clear) := goodIn_app (goodIn_of _ (by decide +kernel)) ggX2_init_X2_clear
theorem dX2_init_0 : decode cX2_init 0 = .ok (.aload_n 0, 1) := by decide +kernel
theorem dX2_init_1 : decode cX2_init 1 = .ok (.invokespecial 3, 3) := by decide +kernel
theorem dX2_init_4 : decode cX2_init 4 = .ok (.aload_n 0, 1) := by decide +kernel
theorem dX2_init_5 : decode cX2_init 5 = .ok (.bipush 40, 2) := by decide +kernel
theorem dX2_init_7 : decode cX2_init 7 = .ok (.newarray .int, 2) := by decide +kernel
theorem dX2_init_9 : decode cX2_init 9 = .ok (.putfield 9, 3) := by decide +kernel
theorem dX2_init_12 : decode cX2_init 12 = .ok (.aload_n 0, 1) := by decide +kernel
theorem dX2_init_13 : decode cX2_init 13 = .ok (.bipush 40, 2) := by decide +kernel
theorem dX2_init_15 : decode cX2_init 15 = .ok (.newarray .int, 2) := by decide +kernel
theorem dX2_init_17 : decode cX2_init 17 = .ok (.putfield 15, 3) := by decide +kernel
theorem dX2_init_20 : decode cX2_init 20 = .ok (.aload_n 0, 1) := by decide +kernel
theorem dX2_init_21 : decode cX2_init 21 = .ok (.invokevirtual 18, 3) := by decide +kernel
theorem dX2_init_24 : decode cX2_init 24 = .ok (.return_, 1) := by decide +kernel
set_option maxRecDepth 20000 in
theorem ggX4_init_X4_clear : GoodIn wsX4_init wsX4_clear := goodIn_r _ [11, 5, 6, 12, 13, 14, 15, 16, 17] (by decide +kernel) (by decide +kernel)
set_option maxRecDepth 20000 in
theorem gX4_init_X4_clear : GoodIn wsX4_init (wsV RX4 18 RX4 yX4_clear wsX4_clear) := goodIn_app (goodIn_of _ (by decide +kernel)) ggX4_init_X4_clear
theorem dX4_init_0 : decode cX4_init 0 = .ok (.aload_n 0, 1) := by decide +kernel
theorem dX4_init_1 : decode cX4_init 1 = .ok (.invokespecial 3, 3) := by decide +kernel
theorem dX4_init_4 : decode cX4_init 4 = .ok (.aload_n 0, 1) := by decide +kernel
theorem dX4_init_5 : decode cX4_init 5 = .ok (.bipush 40, 2) := by decide +kernel
theorem dX4_init_7 : decode cX4_init 7 = .ok (.newarray .int, 2) := by decide +kernel
theorem dX4_init_9 : decode cX4_init 9 = .ok (.putfield 9, 3) := by decide +kernel
theorem dX4_init_12 : decode cX4_init 12 = .ok (.aload_n 0, 1) := by decide +kernel
theorem dX4_init_13 : decode cX4_init 13 = .ok (.bipush 40, 2) := by decide +kernel
theorem dX4_init_15 : decode cX4_init 15 = .ok (.newarray .int, 2) := by decide +kernel
theorem dX4_init_17 : decode cX4_init 17 = .ok (.putfield 15, 3) := by decide +kernel
theorem dX4_init_20 : decode cX4_init 20 = .ok (.aload_n 0, 1) := by decide +kernel
theorem dX4_init_21 : decode cX4_init 21 = .ok (.invokevirtual 18, 3) := by decide +kernel
theorem dX4_init_24 : decode cX4_init 24 = .ok (.return_, 1) := by decide +kernel
set_option maxHeartbeats 4000000 in
set_option maxRecDepth 100000 in
theorem c_X4_init (l : Launch) (D : va_G) (cA : Nat → ClassId) (h0 : Nat) (sz : Nat) : Met l yX4_init wsX4_init ({ frames := 2, cells := 2, slots := 80, locals := 43 }) (iPc vwCl D cA sz [(h0, .inr (3, [.null, .null]))] [.ref h0]) (va_Qv (fun _ : Nat × Nat => True) (fun (u : Nat × Nat) (t : State) => va_P D vwCl [(h0, .inr (3, [.ref u.1, .ref u.2])), (u.1, .inl (cA 0, 40, .inl (fun _ => -1))), (u.2, .inl (cA 0, 40, .inl (fun _ => -1)))] t.heap ∧ va_K D vwCl (tyS cA) t ∧ va_D (va_A [(h0, .inr (3, [.null, .null]))] sz) [(h0, .inr (3, [.ref u.1, .ref u.2])), (u.1, .inl (cA 0, 40, .inl (fun _ => -1))), (u.2, .inl (cA 0, 40, .inl (fun _ => -1)))]) (va_A [(h0, .inr (3, [.null, .null]))] sz)) 2 80 (va_A [(h0, .inr (3, [.null, .null]))] sz) := by
  refine Met.ofW (cc := cX4_init) (maxL := 1) (ret := none) (by decide) rfl ?_
  intro p e s m args below meth c s₁ B hml hv
  obtain ⟨rfl, hsz, hP, hK, hD0, hX⟩ := hv
  have hx := B.exec
  have hb := B.bytes
  have hr := B.returns
  have hts := atoms_spec (ws := wsX4_init) B.pre
  have hown : s.vm.findClass RX4 = some m.cls := findClass_of_methodNamed B.named
  have hlocks := B.notSynchronized
  have hin : meth.name = "<init>" := (name_of_methodNamed B.named B.method).1
  have hin_X4 : ∀ w ∈ wsX40, w ∈ wsX4_init := fun w h => List.mem_cons_of_mem _ (List.mem_append_right _ h)
  have w_RX4_9 := hts (.fieldLink RX4 9 "MixElection$Pairs" "firsts" "[I") (by decide +kernel)
  have w_RX4_15 := hts (.fieldLink RX4 15 "MixElection$Pairs" "seconds" "[I") (by decide +kernel)
  subst hsz
  have hD := hD0.self (sz := s.heap.size)
  generalize hAe : va_A [(h0, .inr (3, [.null, .null]))] s.heap.size = A at hD ⊢
  have hA : ∀ q : Nat, s.heap.size ≤ q → A q := fun q h => by rw [← hAe]; exact Or.inr h
  have hS : va_S A s.heap s.heap [] := va_S.rf
  have hP : va_P D vwCl [(h0, .inr (3, [.null, .null]))] s.heap := hP
  have hl := lv_entry ([.ref h0]) (n := 1) (Nat.le_of_ble_eq_true rfl)
  rw [lg_entry_eq]
  generalize (lg_sl ([.ref h0]) ++ List.replicate (1 - (lg_sl ([.ref h0])).length) Slot.unset).toArray = ls at hl ⊢
  have hl : lv_has ls 1 [(0, .ref h0)] := hl
  refine lv_aload_n hx hb dX4_init_0 rfl (lv_at hl 0 rfl) ?_
  refine W.objInit hx hb hown (hts (.methodLink RX4 3 objectInit) (by decide +kernel)) (hts (.instanceMethod objectInit) (by decide +kernel)) (hts (.code objectInit ⟨#[0xb1]⟩ 1 none) (by decide +kernel)) rfl (by rw [hml]; exact hl.1) rfl dX4_init_1 (Nat.le_of_ble_eq_true rfl) (Nat.le_of_ble_eq_true rfl) ?_
  refine W.eq (g2 := F0 m 4 ls []) rfl ?_
  refine lv_aload_n hx hb dX4_init_4 rfl (lv_at hl 0 rfl) ?_
  refine lv_bipush (v := 40) hx hb dX4_init_5 (by decide) ?_
  refine ka_newa (atype := .int) (ty := .int) (N' := 40) (n := 40) (a0 := (40, .inl (fun _ => 0))) hx hb (hts (.arrayClass .int) (by decide +kernel)) rfl hK hP hD hS hA 0 rfl (fun _ => rfl) (by decide) rfl (by decide) (Nat.le_of_ble_eq_true rfl) (Nat.le_of_ble_eq_true rfl) dX4_init_7 (fun q7 H hP hD hS => ?_)
  refine W.widen (k := 1) (n := 40) (by omega) (by omega) ?_
  have hP : va_P D vwCl [(h0, .inr (3, [.null, .null])), (q7, .inl (cA 0, 40, .inl (fun _ => 0)))] H := hP
  have hD : va_D A [(h0, .inr (3, [.null, .null])), (q7, .inl (cA 0, 40, .inl (fun _ => 0)))] := hD
  refine va_putF (D := D) (ci := 3) (v := .ref q7) (ty := (.array .int)) (C := RX4) (T := TX4) (N := 2) hx hb hts hin_X4 tyX4 tyX4_ok nmX4 hown hK hP hD hS 0 rfl rfl 0 (by decide) (w_RX4_9) (fun _ h9 => h9) rfl hin rfl (by decide +kernel) rfl rfl (Nat.le_of_ble_eq_true rfl) dX4_init_9 (fun H locs hP hD hS => ?_)
  have hP : va_P D vwCl [(h0, .inr (3, [.ref q7, .null])), (q7, .inl (cA 0, 40, .inl (fun _ => 0)))] H := hP
  have hD : va_D A [(h0, .inr (3, [.ref q7, .null])), (q7, .inl (cA 0, 40, .inl (fun _ => 0)))] := hD
  refine lv_aload_n hx hb dX4_init_12 rfl (lv_at hl 0 rfl) ?_
  refine lv_bipush (v := 40) hx hb dX4_init_13 (by decide) ?_
  refine ka_newa (atype := .int) (ty := .int) (N' := 40) (n := 40) (a0 := (40, .inl (fun _ => 0))) hx hb (hts (.arrayClass .int) (by decide +kernel)) rfl hK hP hD hS hA 0 rfl (fun _ => rfl) (by decide) rfl (by decide) (Nat.le_of_ble_eq_true rfl) (Nat.le_of_ble_eq_true rfl) dX4_init_15 (fun q15 H hP hD hS => ?_)
  refine W.widen (k := 2) (n := 80) (by omega) (by omega) ?_
  have hP : va_P D vwCl [(h0, .inr (3, [.ref q7, .null])), (q7, .inl (cA 0, 40, .inl (fun _ => 0))), (q15, .inl (cA 0, 40, .inl (fun _ => 0)))] H := hP
  have hD : va_D A [(h0, .inr (3, [.ref q7, .null])), (q7, .inl (cA 0, 40, .inl (fun _ => 0))), (q15, .inl (cA 0, 40, .inl (fun _ => 0)))] := hD
  refine va_putF (D := D) (ci := 3) (v := .ref q15) (ty := (.array .int)) (C := RX4) (T := TX4) (N := 2) hx hb hts hin_X4 tyX4 tyX4_ok nmX4 hown hK hP hD hS 0 rfl rfl 1 (by decide) (w_RX4_15) (fun _ h9 => h9) rfl hin rfl (by decide +kernel) rfl rfl (Nat.le_of_ble_eq_true rfl) dX4_init_17 (fun H locs hP hD hS => ?_)
  have hP : va_P D vwCl [(h0, .inr (3, [.ref q7, .ref q15])), (q7, .inl (cA 0, 40, .inl (fun _ => 0))), (q15, .inl (cA 0, 40, .inl (fun _ => 0)))] H := hP
  have hD : va_D A [(h0, .inr (3, [.ref q7, .ref q15])), (q7, .inl (cA 0, 40, .inl (fun _ => 0))), (q15, .inl (cA 0, 40, .inl (fun _ => 0)))] := hD
  refine lv_aload_n hx hb dX4_init_20 rfl (lv_at hl 0 rfl) ?_
  refine wq_call0 (wc := [(h0, .inr (3, [.ref q7, .ref q15])), (q7, .inl (cA 0, 40, .inl (fun _ => 0))), (q15, .inl (cA 0, 40, .inl (fun _ => 0)))]) (w1 := [(h0, .inr (3, [.ref q7, .ref q15])), (q7, .inl (cA 0, 40, .inl (fun _ => -1))), (q15, .inl (cA 0, 40, .inl (fun _ => -1)))]) (ws' := [(h0, .inr (3, [.ref q7, .ref q15])), (q7, .inl (cA 0, 40, .inl (fun _ => -1))), (q15, .inl (cA 0, 40, .inl (fun _ => -1)))]) (wn_V (As := []) (rest := []) (ci := 3) (fs := [.ref q7, .ref q15]) ⟨hx, hb, hml, hown, hts⟩ (c_X4_clear l D cA h0 q7 q15 (fun _ => 0) (fun _ => 0)) rfl (cwV 0 hts gX4_init_X4_clear rfl rfl rfl (by decide +kernel) ⟨Nat.le_of_ble_eq_true rfl, Nat.le_of_ble_eq_true rfl⟩) hK hP hD [0, 1, 2] rfl (by decide) rfl rfl rfl hl.1 rfl (Nat.le_of_ble_eq_true rfl) dX4_init_21 ⟨Nat.le_of_ble_eq_true rfl, Nat.le_of_ble_eq_true rfl⟩) hP hD hS [0, 1, 2] [] rfl rfl rfl rfl rfl rfl (fun H locs hP hD hS => ?_)
  refine W.widen (k := 2) (n := 80) (by omega) (by omega) ?_
  have hP9 := hP.sub (ws' := [(h0, .inr (3, [.ref q7, .ref q15])), (q7, .inl (cA 0, 40, .inl (fun _ => -1))), (q15, .inl (cA 0, 40, .inl (fun _ => -1)))]) [0, 1, 2] rfl
  have hD9 := hD.sub (ws' := [(h0, .inr (3, [.ref q7, .ref q15])), (q7, .inl (cA 0, 40, .inl (fun _ => -1))), (q15, .inl (cA 0, 40, .inl (fun _ => -1)))]) [0, 1, 2] (by decide) rfl
  exact W.vret hx hb hr (fun t ht hW => ⟨⟨(q7, q15), rfl, trivial, by rw [ht]; exact hP9, va_K.moved hW.alike hK, hD9⟩, hS.F ht⟩) hS.2.2 dX4_init_24

set_option maxHeartbeats 4000000 in
set_option maxRecDepth 100000 in
theorem c_X2_init (l : Launch) (D : va_G) (cA : Nat → ClassId) (h0 : Nat) (sz : Nat) : Met l yX2_init wsX2_init ({ frames := 2, cells := 2, slots := 80, locals := 43 }) (iPc vwCl D cA sz [(h0, .inr (2, [.null, .null]))] [.ref h0]) (va_Qv (fun _ : Nat × Nat => True) (fun (u : Nat × Nat) (t : State) => va_P D vwCl [(h0, .inr (2, [.ref u.1, .ref u.2])), (u.1, .inl (cA 0, 40, .inl (fun _ => -1))), (u.2, .inl (cA 0, 40, .inl (fun _ => -1)))] t.heap ∧ va_K D vwCl (tyS cA) t ∧ va_D (va_A [(h0, .inr (2, [.null, .null]))] sz) [(h0, .inr (2, [.ref u.1, .ref u.2])), (u.1, .inl (cA 0, 40, .inl (fun _ => -1))), (u.2, .inl (cA 0, 40, .inl (fun _ => -1)))]) (va_A [(h0, .inr (2, [.null, .null]))] sz)) 2 80 (va_A [(h0, .inr (2, [.null, .null]))] sz) := by
  refine Met.ofW (cc := cX2_init) (maxL := 1) (ret := none) (by decide) rfl ?_
  intro p e s m args below meth c s₁ B hml hv
  obtain ⟨rfl, hsz, hP, hK, hD0, hX⟩ := hv
  have hx := B.exec
  have hb := B.bytes
  have hr := B.returns
  have hts := atoms_spec (ws := wsX2_init) B.pre
  have hown : s.vm.findClass RX2 = some m.cls := findClass_of_methodNamed B.named
  have hlocks := B.notSynchronized
  have hin : meth.name = "<init>" := (name_of_methodNamed B.named B.method).1
  have hin_X2 : ∀ w ∈ wsX20, w ∈ wsX2_init := fun w h => List.mem_cons_of_mem _ (List.mem_append_right _ h)
  have w_RX2_9 := hts (.fieldLink RX2 9 "MixElection$Moves" "targets" "[I") (by decide +kernel)
  have w_RX2_15 := hts (.fieldLink RX2 15 "MixElection$Moves" "exponents" "[I") (by decide +kernel)
  subst hsz
  have hD := hD0.self (sz := s.heap.size)
  generalize hAe : va_A [(h0, .inr (2, [.null, .null]))] s.heap.size = A at hD ⊢
  have hA : ∀ q : Nat, s.heap.size ≤ q → A q := fun q h => by rw [← hAe]; exact Or.inr h
  have hS : va_S A s.heap s.heap [] := va_S.rf
  have hP : va_P D vwCl [(h0, .inr (2, [.null, .null]))] s.heap := hP
  have hl := lv_entry ([.ref h0]) (n := 1) (Nat.le_of_ble_eq_true rfl)
  rw [lg_entry_eq]
  generalize (lg_sl ([.ref h0]) ++ List.replicate (1 - (lg_sl ([.ref h0])).length) Slot.unset).toArray = ls at hl ⊢
  have hl : lv_has ls 1 [(0, .ref h0)] := hl
  refine lv_aload_n hx hb dX2_init_0 rfl (lv_at hl 0 rfl) ?_
  refine W.objInit hx hb hown (hts (.methodLink RX2 3 objectInit) (by decide +kernel)) (hts (.instanceMethod objectInit) (by decide +kernel)) (hts (.code objectInit ⟨#[0xb1]⟩ 1 none) (by decide +kernel)) rfl (by rw [hml]; exact hl.1) rfl dX2_init_1 (Nat.le_of_ble_eq_true rfl) (Nat.le_of_ble_eq_true rfl) ?_
  refine W.eq (g2 := F0 m 4 ls []) rfl ?_
  refine lv_aload_n hx hb dX2_init_4 rfl (lv_at hl 0 rfl) ?_
  refine lv_bipush (v := 40) hx hb dX2_init_5 (by decide) ?_
  refine ka_newa (atype := .int) (ty := .int) (N' := 40) (n := 40) (a0 := (40, .inl (fun _ => 0))) hx hb (hts (.arrayClass .int) (by decide +kernel)) rfl hK hP hD hS hA 0 rfl (fun _ => rfl) (by decide) rfl (by decide) (Nat.le_of_ble_eq_true rfl) (Nat.le_of_ble_eq_true rfl) dX2_init_7 (fun q7 H hP hD hS => ?_)
  refine W.widen (k := 1) (n := 40) (by omega) (by omega) ?_
  have hP : va_P D vwCl [(h0, .inr (2, [.null, .null])), (q7, .inl (cA 0, 40, .inl (fun _ => 0)))] H := hP
  have hD : va_D A [(h0, .inr (2, [.null, .null])), (q7, .inl (cA 0, 40, .inl (fun _ => 0)))] := hD
  refine va_putF (D := D) (ci := 2) (v := .ref q7) (ty := (.array .int)) (C := RX2) (T := TX2) (N := 2) hx hb hts hin_X2 tyX2 tyX2_ok nmX2 hown hK hP hD hS 0 rfl rfl 0 (by decide) (w_RX2_9) (fun _ h9 => h9) rfl hin rfl (by decide +kernel) rfl rfl (Nat.le_of_ble_eq_true rfl) dX2_init_9 (fun H locs hP hD hS => ?_)
  have hP : va_P D vwCl [(h0, .inr (2, [.ref q7, .null])), (q7, .inl (cA 0, 40, .inl (fun _ => 0)))] H := hP
  have hD : va_D A [(h0, .inr (2, [.ref q7, .null])), (q7, .inl (cA 0, 40, .inl (fun _ => 0)))] := hD
  refine lv_aload_n hx hb dX2_init_12 rfl (lv_at hl 0 rfl) ?_
  refine lv_bipush (v := 40) hx hb dX2_init_13 (by decide) ?_
  refine ka_newa (atype := .int) (ty := .int) (N' := 40) (n := 40) (a0 := (40, .inl (fun _ => 0))) hx hb (hts (.arrayClass .int) (by decide +kernel)) rfl hK hP hD hS hA 0 rfl (fun _ => rfl) (by decide) rfl (by decide) (Nat.le_of_ble_eq_true rfl) (Nat.le_of_ble_eq_true rfl) dX2_init_15 (fun q15 H hP hD hS => ?_)
  refine W.widen (k := 2) (n := 80) (by omega) (by omega) ?_
  have hP : va_P D vwCl [(h0, .inr (2, [.ref q7, .null])), (q7, .inl (cA 0, 40, .inl (fun _ => 0))), (q15, .inl (cA 0, 40, .inl (fun _ => 0)))] H := hP
  have hD : va_D A [(h0, .inr (2, [.ref q7, .null])), (q7, .inl (cA 0, 40, .inl (fun _ => 0))), (q15, .inl (cA 0, 40, .inl (fun _ => 0)))] := hD
  refine va_putF (D := D) (ci := 2) (v := .ref q15) (ty := (.array .int)) (C := RX2) (T := TX2) (N := 2) hx hb hts hin_X2 tyX2 tyX2_ok nmX2 hown hK hP hD hS 0 rfl rfl 1 (by decide) (w_RX2_15) (fun _ h9 => h9) rfl hin rfl (by decide +kernel) rfl rfl (Nat.le_of_ble_eq_true rfl) dX2_init_17 (fun H locs hP hD hS => ?_)
  have hP : va_P D vwCl [(h0, .inr (2, [.ref q7, .ref q15])), (q7, .inl (cA 0, 40, .inl (fun _ => 0))), (q15, .inl (cA 0, 40, .inl (fun _ => 0)))] H := hP
  have hD : va_D A [(h0, .inr (2, [.ref q7, .ref q15])), (q7, .inl (cA 0, 40, .inl (fun _ => 0))), (q15, .inl (cA 0, 40, .inl (fun _ => 0)))] := hD
  refine lv_aload_n hx hb dX2_init_20 rfl (lv_at hl 0 rfl) ?_
  refine wq_call0 (wc := [(h0, .inr (2, [.ref q7, .ref q15])), (q7, .inl (cA 0, 40, .inl (fun _ => 0))), (q15, .inl (cA 0, 40, .inl (fun _ => 0)))]) (w1 := [(h0, .inr (2, [.ref q7, .ref q15])), (q7, .inl (cA 0, 40, .inl (fun _ => -1))), (q15, .inl (cA 0, 40, .inl (fun _ => -1)))]) (ws' := [(h0, .inr (2, [.ref q7, .ref q15])), (q7, .inl (cA 0, 40, .inl (fun _ => -1))), (q15, .inl (cA 0, 40, .inl (fun _ => -1)))]) (wn_V (As := []) (rest := []) (ci := 2) (fs := [.ref q7, .ref q15]) ⟨hx, hb, hml, hown, hts⟩ (c_X2_clear l D cA h0 q7 q15 (fun _ => 0) (fun _ => 0)) rfl (cwV 0 hts gX2_init_X2_clear rfl rfl rfl (by decide +kernel) ⟨Nat.le_of_ble_eq_true rfl, Nat.le_of_ble_eq_true rfl⟩) hK hP hD [0, 1, 2] rfl (by decide) rfl rfl rfl hl.1 rfl (Nat.le_of_ble_eq_true rfl) dX2_init_21 ⟨Nat.le_of_ble_eq_true rfl, Nat.le_of_ble_eq_true rfl⟩) hP hD hS [0, 1, 2] [] rfl rfl rfl rfl rfl rfl (fun H locs hP hD hS => ?_)
  refine W.widen (k := 2) (n := 80) (by omega) (by omega) ?_
  have hP9 := hP.sub (ws' := [(h0, .inr (2, [.ref q7, .ref q15])), (q7, .inl (cA 0, 40, .inl (fun _ => -1))), (q15, .inl (cA 0, 40, .inl (fun _ => -1)))]) [0, 1, 2] rfl
  have hD9 := hD.sub (ws' := [(h0, .inr (2, [.ref q7, .ref q15])), (q7, .inl (cA 0, 40, .inl (fun _ => -1))), (q15, .inl (cA 0, 40, .inl (fun _ => -1)))]) [0, 1, 2] (by decide) rfl
  exact W.vret hx hb hr (fun t ht hW => ⟨⟨(q7, q15), rfl, trivial, by rw [ht]; exact hP9, va_K.moved hW.alike hK, hD9⟩, hS.F ht⟩) hS.2.2 dX2_init_24
