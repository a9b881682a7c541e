theorem dX6_size_0 : decode cX6_size 0 = .ok (.aload_n 0, 1) := by decide +kernel
theorem dX6_size_1 : decode cX6_size 1 = .ok (.getfield 33, 3) := by decide +kernel
theorem dX6_size_4 : decode cX6_size 4 = .ok (.ireturn, 1) := by decide +kernel
theorem dX6_needed_0 : decode cX6_needed 0 = .ok (.aload_n 0, 1) := by decide +kernel
theorem dX6_needed_1 : decode cX6_needed 1 = .ok (.getfield 37, 3) := by decide +kernel
theorem dX6_needed_4 : decode cX6_needed 4 = .ok (.ireturn, 1) := by decide +kernel
theorem dX6_givers_0 : decode cX6_givers 0 = .ok (.aload_n 0, 1) := by decide +kernel
theorem dX6_givers_1 : decode cX6_givers 1 = .ok (.getfield 56, 3) := by decide +kernel
theorem dX6_givers_4 : decode cX6_givers 4 = .ok (.ireturn, 1) := by decide +kernel
theorem dX6_secretKey_0 : decode cX6_secretKey 0 = .ok (.aload_n 0, 1) := by decide +kernel
theorem dX6_secretKey_1 : decode cX6_secretKey 1 = .ok (.getfield 40, 3) := by decide +kernel
theorem dX6_secretKey_4 : decode cX6_secretKey 4 = .ok (.iconst 0, 1) := by decide +kernel
theorem dX6_secretKey_5 : decode cX6_secretKey 5 = .ok (.iaload, 1) := by decide +kernel
theorem dX6_secretKey_6 : decode cX6_secretKey 6 = .ok (.ireturn, 1) := by decide +kernel
set_option maxRecDepth 20000 in
theorem ggX6_setCoefficient_X1_isExponent : GoodIn wsX6_setCoefficient wsX1_isExponent := goodIn_r _ [8, 9, 18, 19, 20] (by decide +kernel) (by decide +kernel)
set_option maxRecDepth 20000 in
theorem gX6_setCoefficient_X1_isExponent : GoodIn wsX6_setCoefficient (wsV RX6 59 RX1 yX1_isExponent wsX1_isExponent) := goodIn_app (goodIn_of _ (by decide +kernel)) ggX6_setCoefficient_X1_isExponent
theorem dX6_setCoefficient_0 : decode cX6_setCoefficient 0 = .ok (.iload_n 1, 1) := by decide +kernel
theorem dX6_setCoefficient_1 : decode cX6_setCoefficient 1 = .ok (.ifCond .lt 30, 3) := by decide +kernel
theorem dX6_setCoefficient_4 : decode cX6_setCoefficient 4 = .ok (.iload_n 1, 1) := by decide +kernel
theorem dX6_setCoefficient_5 : decode cX6_setCoefficient 5 = .ok (.aload_n 0, 1) := by decide +kernel
theorem dX6_setCoefficient_6 : decode cX6_setCoefficient 6 = .ok (.getfield 37, 3) := by decide +kernel
theorem dX6_setCoefficient_9 : decode cX6_setCoefficient 9 = .ok (.if_icmp .ge 22, 3) := by decide +kernel
theorem dX6_setCoefficient_12 : decode cX6_setCoefficient 12 = .ok (.aload_n 0, 1) := by decide +kernel
theorem dX6_setCoefficient_13 : decode cX6_setCoefficient 13 = .ok (.getfield 9, 3) := by decide +kernel
theorem dX6_setCoefficient_16 : decode cX6_setCoefficient 16 = .ok (.iload_n 2, 1) := by decide +kernel
theorem dX6_setCoefficient_17 : decode cX6_setCoefficient 17 = .ok (.invokevirtual 59, 3) := by decide +kernel
theorem dX6_setCoefficient_20 : decode cX6_setCoefficient 20 = .ok (.ifCond .eq 11, 3) := by decide +kernel
theorem dX6_setCoefficient_23 : decode cX6_setCoefficient 23 = .ok (.iload_n 1, 1) := by decide +kernel
theorem dX6_setCoefficient_24 : decode cX6_setCoefficient 24 = .ok (.ifCond .ne 9, 3) := by decide +kernel
theorem dX6_setCoefficient_27 : decode cX6_setCoefficient 27 = .ok (.iload_n 2, 1) := by decide +kernel
theorem dX6_setCoefficient_28 : decode cX6_setCoefficient 28 = .ok (.ifCond .ne 5, 3) := by decide +kernel
theorem dX6_setCoefficient_31 : decode cX6_setCoefficient 31 = .ok (.iconst 0, 1) := by decide +kernel
theorem dX6_setCoefficient_32 : decode cX6_setCoefficient 32 = .ok (.ireturn, 1) := by decide +kernel
theorem dX6_setCoefficient_33 : decode cX6_setCoefficient 33 = .ok (.aload_n 0, 1) := by decide +kernel
theorem dX6_setCoefficient_34 : decode cX6_setCoefficient 34 = .ok (.getfield 40, 3) := by decide +kernel
theorem dX6_setCoefficient_37 : decode cX6_setCoefficient 37 = .ok (.iload_n 1, 1) := by decide +kernel
theorem dX6_setCoefficient_38 : decode cX6_setCoefficient 38 = .ok (.iload_n 2, 1) := by decide +kernel
theorem dX6_setCoefficient_39 : decode cX6_setCoefficient 39 = .ok (.iastore, 1) := by decide +kernel
theorem dX6_setCoefficient_40 : decode cX6_setCoefficient 40 = .ok (.iconst 1, 1) := by decide +kernel
theorem dX6_setCoefficient_41 : decode cX6_setCoefficient 41 = .ok (.ireturn, 1) := by decide +kernel
abbrev scC (i v tk gq : Int32) : Prop := 0 ≤ i ∧ i < tk ∧ (0 ≤ v ∧ v < gq) ∧ ¬ (i = 0 ∧ v = 0)
set_option maxHeartbeats 4000000 in
set_option maxRecDepth 100000 in
theorem c_X6_size (l : Launch) (D : va_G) (cA : Nat → ClassId) (tt : Nat) (g : Nat) (ts : Int32) (tk : Int32) (tco : Nat) (t4 : Nat) (t5 : Nat) (t6 : Nat) (tv : Int32) : Met l yX6_size wsX6_size ({ frames := 0, cells := 0, slots := 0, locals := 0 }) (rPc vwCl D cA [(tt, .inr (5, [.ref g, .int ts, .int tk, .ref tco, .ref t4, .ref t5, .ref t6, .int tv]))] [.ref tt]) (rq_x (some (.int ts))) 0 0 (fun _ => False) := by
  refine Met.ofW (cc := cX6_size) (maxL := 1) (ret := (some .int)) (by decide) rfl ?_
  intro p e s m args below meth c s₁ B hml hv
  obtain ⟨rfl, hP, hK⟩ := hv
  have hx := B.exec
  have hb := B.bytes
  have hr := B.returns
  have hts := atoms_spec (ws := wsX6_size) B.pre
  have hown : s.vm.findClass RX6 = some m.cls := findClass_of_methodNamed B.named
  have hlocks := B.notSynchronized
  have hin_X6 : ∀ w ∈ wsX60, w ∈ wsX6_size := fun w h => List.mem_cons_of_mem _ (List.mem_append_right _ h)
  have w_RX6_33 := hts (.fieldLink RX6 33 "MixElection$Trustees" "size" "I") (by decide +kernel)
  have hl := lv_entry ([.ref tt]) (n := 1) (Nat.le_of_ble_eq_true rfl)
  rw [lg_entry_eq]
  generalize (lg_sl ([.ref tt]) ++ List.replicate (1 - (lg_sl ([.ref tt])).length) Slot.unset).toArray = ls at hl ⊢
  have hl : lv_has ls 1 [(0, .ref tt)] := hl
  refine lv_aload_n hx hb dX6_size_0 rfl (lv_at hl 0 rfl) ?_
  refine va_get (D := D) (ci := 5) (v := .int ts) (C := RX6) (T := TX6) (N := 8) hx hb hts hin_X6 hown hK hP 0 rfl rfl 1 (by decide) (w_RX6_33) (fun _ h9 => h9) rfl dX6_size_1 ?_
  exact W.iret (v := ts) hx hb hr (fun t ht hW => ⟨congrArg (fun z => Outcome.returned (some (Value.int z))) (rfl), ht⟩) (fun _ h => by cases h) dX6_size_4

set_option maxHeartbeats 4000000 in
set_option maxRecDepth 100000 in
theorem c_X6_needed (l : Launch) (D : va_G) (cA : Nat → ClassId) (tt : Nat) (g : Nat) (ts : Int32) (tk : Int32) (tco : Nat) (t4 : Nat) (t5 : Nat) (t6 : Nat) (tv : Int32) : Met l yX6_needed wsX6_needed ({ frames := 0, cells := 0, slots := 0, locals := 0 }) (rPc vwCl D cA [(tt, .inr (5, [.ref g, .int ts, .int tk, .ref tco, .ref t4, .ref t5, .ref t6, .int tv]))] [.ref tt]) (rq_x (some (.int tk))) 0 0 (fun _ => False) := by
  refine Met.ofW (cc := cX6_needed) (maxL := 1) (ret := (some .int)) (by decide) rfl ?_
  intro p e s m args below meth c s₁ B hml hv
  obtain ⟨rfl, hP, hK⟩ := hv
  have hx := B.exec
  have hb := B.bytes
  have hr := B.returns
  have hts := atoms_spec (ws := wsX6_needed) B.pre
  have hown : s.vm.findClass RX6 = some m.cls := findClass_of_methodNamed B.named
  have hlocks := B.notSynchronized
  have hin_X6 : ∀ w ∈ wsX60, w ∈ wsX6_needed := fun w h => List.mem_cons_of_mem _ (List.mem_append_right _ h)
  have w_RX6_37 := hts (.fieldLink RX6 37 "MixElection$Trustees" "threshold" "I") (by decide +kernel)
  have hl := lv_entry ([.ref tt]) (n := 1) (Nat.le_of_ble_eq_true rfl)
  rw [lg_entry_eq]
  generalize (lg_sl ([.ref tt]) ++ List.replicate (1 - (lg_sl ([.ref tt])).length) Slot.unset).toArray = ls at hl ⊢
  have hl : lv_has ls 1 [(0, .ref tt)] := hl
  refine lv_aload_n hx hb dX6_needed_0 rfl (lv_at hl 0 rfl) ?_
  refine va_get (D := D) (ci := 5) (v := .int tk) (C := RX6) (T := TX6) (N := 8) hx hb hts hin_X6 hown hK hP 0 rfl rfl 2 (by decide) (w_RX6_37) (fun _ h9 => h9) rfl dX6_needed_1 ?_
  exact W.iret (v := tk) hx hb hr (fun t ht hW => ⟨congrArg (fun z => Outcome.returned (some (Value.int z))) (rfl), ht⟩) (fun _ h => by cases h) dX6_needed_4

set_option maxHeartbeats 4000000 in
set_option maxRecDepth 100000 in
theorem c_X6_givers (l : Launch) (D : va_G) (cA : Nat → ClassId) (tt : Nat) (g : Nat) (ts : Int32) (tk : Int32) (tco : Nat) (t4 : Nat) (t5 : Nat) (t6 : Nat) (tv : Int32) : Met l yX6_givers wsX6_givers ({ frames := 0, cells := 0, slots := 0, locals := 0 }) (rPc vwCl D cA [(tt, .inr (5, [.ref g, .int ts, .int tk, .ref tco, .ref t4, .ref t5, .ref t6, .int tv]))] [.ref tt]) (rq_x (some (.int tv))) 0 0 (fun _ => False) := by
  refine Met.ofW (cc := cX6_givers) (maxL := 1) (ret := (some .int)) (by decide) rfl ?_
  intro p e s m args below meth c s₁ B hml hv
  obtain ⟨rfl, hP, hK⟩ := hv
  have hx := B.exec
  have hb := B.bytes
  have hr := B.returns
  have hts := atoms_spec (ws := wsX6_givers) B.pre
  have hown : s.vm.findClass RX6 = some m.cls := findClass_of_methodNamed B.named
  have hlocks := B.notSynchronized
  have hin_X6 : ∀ w ∈ wsX60, w ∈ wsX6_givers := fun w h => List.mem_cons_of_mem _ (List.mem_append_right _ h)
  have w_RX6_56 := hts (.fieldLink RX6 56 "MixElection$Trustees" "givers" "I") (by decide +kernel)
  have hl := lv_entry ([.ref tt]) (n := 1) (Nat.le_of_ble_eq_true rfl)
  rw [lg_entry_eq]
  generalize (lg_sl ([.ref tt]) ++ List.replicate (1 - (lg_sl ([.ref tt])).length) Slot.unset).toArray = ls at hl ⊢
  have hl : lv_has ls 1 [(0, .ref tt)] := hl
  refine lv_aload_n hx hb dX6_givers_0 rfl (lv_at hl 0 rfl) ?_
  refine va_get (D := D) (ci := 5) (v := .int tv) (C := RX6) (T := TX6) (N := 8) hx hb hts hin_X6 hown hK hP 0 rfl rfl 7 (by decide) (w_RX6_56) (fun _ h9 => h9) rfl dX6_givers_1 ?_
  exact W.iret (v := tv) hx hb hr (fun t ht hW => ⟨congrArg (fun z => Outcome.returned (some (Value.int z))) (rfl), ht⟩) (fun _ h => by cases h) dX6_givers_4

set_option maxHeartbeats 4000000 in
set_option maxRecDepth 100000 in
theorem c_X6_secretKey (l : Launch) (D : va_G) (cA : Nat → ClassId) (tt : Nat) (g : Nat) (ts : Int32) (tk : Int32) (tco : Nat) (t4 : Nat) (t5 : Nat) (t6 : Nat) (tv : Int32) (k0 : Nat) (cf : Nat → Int32) (hk1 : 1 ≤ k0 ∧ k0 ≤ 5) : Met l yX6_secretKey wsX6_secretKey ({ frames := 0, cells := 0, slots := 0, locals := 0 }) (rPc vwCl D cA [(tt, .inr (5, [.ref g, .int ts, .int tk, .ref tco, .ref t4, .ref t5, .ref t6, .int tv])), (tco, .inl (cA 0, k0, .inl cf))] [.ref tt]) (rq_x (some (.int (cf (0 : Int32).toNatClampNeg)))) 0 0 (fun _ => False) := by
  refine Met.ofW (cc := cX6_secretKey) (maxL := 1) (ret := (some .int)) (by decide) rfl ?_
  intro p e s m args below meth c s₁ B hml hv
  obtain ⟨rfl, hP, hK⟩ := hv
  have hx := B.exec
  have hb := B.bytes
  have hr := B.returns
  have hts := atoms_spec (ws := wsX6_secretKey) B.pre
  have hown : s.vm.findClass RX6 = some m.cls := findClass_of_methodNamed B.named
  have hlocks := B.notSynchronized
  have hin_X6 : ∀ w ∈ wsX60, w ∈ wsX6_secretKey := fun w h => List.mem_cons_of_mem _ (List.mem_append_right _ h)
  have w_RX6_40 := hts (.fieldLink RX6 40 "MixElection$Trustees" "coefficients" "[I") (by decide +kernel)
  have hl := lv_entry ([.ref tt]) (n := 1) (Nat.le_of_ble_eq_true rfl)
  rw [lg_entry_eq]
  generalize (lg_sl ([.ref tt]) ++ List.replicate (1 - (lg_sl ([.ref tt])).length) Slot.unset).toArray = ls at hl ⊢
  have hl : lv_has ls 1 [(0, .ref tt)] := hl
  refine lv_aload_n hx hb dX6_secretKey_0 rfl (lv_at hl 0 rfl) ?_
  refine va_get (D := D) (ci := 5) (v := .ref tco) (C := RX6) (T := TX6) (N := 8) hx hb hts hin_X6 hown hK hP 0 rfl rfl 3 (by decide) (w_RX6_40) (fun _ h9 => h9) rfl dX6_secretKey_1 ?_
  refine lv_iconst (v := 0) hx hb dX6_secretKey_4 (by decide) ?_
  refine va_iald hx hb hK hP 1 0 rfl rfl (vp_in_nI (n := 0) (by omega) (by omega)) dX6_secretKey_5 ?_
  exact W.iret (v := (cf (0 : Int32).toNatClampNeg)) hx hb hr (fun t ht hW => ⟨congrArg (fun z => Outcome.returned (some (Value.int z))) (rfl), ht⟩) (fun _ h => by cases h) dX6_secretKey_6

set_option maxHeartbeats 4000000 in
set_option maxRecDepth 100000 in
theorem c_X6_setCoefficient_no (l : Launch) (D : va_G) (cA : Nat → ClassId) (tt : Nat) (g : Nat) (ts : Int32) (tk : Int32) (tco : Nat) (t4 : Nat) (t5 : Nat) (t6 : Nat) (tv : Int32) (gp : Int32) (gq : Int32) (gh : Int32) (i : Int32) (v : Int32) (hs : ¬ scC i v tk gq) : Met l yX6_setCoefficient wsX6_setCoefficient ({ frames := 1, cells := 0, slots := 0, locals := 21 }) (rPc vwCl D cA [(tt, .inr (5, [.ref g, .int ts, .int tk, .ref tco, .ref t4, .ref t5, .ref t6, .int tv])), (g, .inr (1, [.int gp, .int gq, .int gh]))] [.ref tt, .int i, .int v]) (rq_x (some (.int 0))) 0 0 (fun _ => False) := by
  refine Met.ofW (cc := cX6_setCoefficient) (maxL := 3) (ret := (some .boolean)) (by decide) rfl ?_
  intro p e s m args below meth c s₁ B hml hv
  obtain ⟨rfl, hP, hK⟩ := hv
  have hx := B.exec
  have hb := B.bytes
  have hr := B.returns
  have hts := atoms_spec (ws := wsX6_setCoefficient) B.pre
  have hown : s.vm.findClass RX6 = some m.cls := findClass_of_methodNamed B.named
  have hlocks := B.notSynchronized
  have hin_X6 : ∀ w ∈ wsX60, w ∈ wsX6_setCoefficient := fun w h => List.mem_cons_of_mem _ (List.mem_append_left _ (List.mem_append_right _ h))
  have w_RX6_37 := hts (.fieldLink RX6 37 "MixElection$Trustees" "threshold" "I") (by decide +kernel)
  have w_RX6_9 := hts (.fieldLink RX6 9 "MixElection$Trustees" "group" "LMixElection$Group;") (by decide +kernel)
  have hl := lv_entry ([.ref tt, .int i, .int v]) (n := 3) (Nat.le_of_ble_eq_true rfl)
  rw [lg_entry_eq]
  generalize (lg_sl ([.ref tt, .int i, .int v]) ++ List.replicate (3 - (lg_sl ([.ref tt, .int i, .int v])).length) Slot.unset).toArray = ls at hl ⊢
  have hl : lv_has ls 3 [(0, .ref tt), (1, .int i), (2, .int v)] := hl
  refine lv_iload_n hx hb dX6_setCoefficient_0 rfl (lv_at hl 1 rfl) ?_
  refine lv_if_lt (tgt := 31) hx hb dX6_setCoefficient_1 (by decide) (fun c_1 => ?_) (fun c_1 => ?_)
  · skip
    refine lv_iconst (v := 0) hx hb dX6_setCoefficient_31 (by decide) ?_
    exact W.zret (v := 0) hx hb hr rfl (fun t ht hW => ⟨congrArg (fun z => Outcome.returned (some (Value.int z))) (rfl), ht⟩) (fun _ h => by cases h) dX6_setCoefficient_32
  · skip
    refine lv_iload_n hx hb dX6_setCoefficient_4 rfl (lv_at hl 1 rfl) ?_
    refine lv_aload_n hx hb dX6_setCoefficient_5 rfl (lv_at hl 0 rfl) ?_
    refine va_get (D := D) (ci := 5) (v := .int tk) (C := RX6) (T := TX6) (N := 8) hx hb hts hin_X6 hown hK hP 0 rfl rfl 2 (by decide) (w_RX6_37) (fun _ h9 => h9) rfl dX6_setCoefficient_6 ?_
    refine lv_icmp_ge (tgt := 31) hx hb dX6_setCoefficient_9 (by decide) (fun c_9 => ?_) (fun c_9 => ?_)
    · skip
      refine lv_iconst (v := 0) hx hb dX6_setCoefficient_31 (by decide) ?_
      exact W.zret (v := 0) hx hb hr rfl (fun t ht hW => ⟨congrArg (fun z => Outcome.returned (some (Value.int z))) (rfl), ht⟩) (fun _ h => by cases h) dX6_setCoefficient_32
    · skip
      refine lv_aload_n hx hb dX6_setCoefficient_12 rfl (lv_at hl 0 rfl) ?_
      refine va_get (D := D) (ci := 5) (v := .ref g) (C := RX6) (T := TX6) (N := 8) hx hb hts hin_X6 hown hK hP 0 rfl rfl 0 (by decide) (w_RX6_9) (fun _ h9 => h9) rfl dX6_setCoefficient_13 ?_
      refine lv_iload_n hx hb dX6_setCoefficient_16 rfl (lv_at hl 2 rfl) ?_
      refine rq_call1 (v := .int (bI (0 ≤ v ∧ v < gq))) (rn_V (As := [.int v]) (rest := []) (ci := 1) (fs := [.int gp, .int gq, .int gh]) ⟨hx, hb, hml, hown, hts⟩ (c_X1_isExponent l D cA g gp gq gh v) rfl (cwV 1 hts gX6_setCoefficient_X1_isExponent rfl rfl rfl (by decide +kernel) ⟨Nat.le_of_ble_eq_true rfl, Nat.le_of_ble_eq_true rfl⟩) hK hP [1] rfl rfl rfl hl.1 rfl (Nat.le_of_ble_eq_true rfl) dX6_setCoefficient_17 ⟨Nat.le_of_ble_eq_true rfl, Nat.le_of_ble_eq_true rfl⟩) ?_
      refine lv_if_eq (tgt := 31) hx hb dX6_setCoefficient_20 (by decide) (fun c_20 => ?_) (fun c_20 => ?_)
      · skip
        refine lv_iconst (v := 0) hx hb dX6_setCoefficient_31 (by decide) ?_
        exact W.zret (v := 0) hx hb hr rfl (fun t ht hW => ⟨congrArg (fun z => Outcome.returned (some (Value.int z))) (rfl), ht⟩) (fun _ h => by cases h) dX6_setCoefficient_32
      · skip
        refine lv_iload_n hx hb dX6_setCoefficient_23 rfl (lv_at hl 1 rfl) ?_
        refine lv_if_ne (tgt := 33) hx hb dX6_setCoefficient_24 (by decide) (fun c_24 => ?_) (fun c_24 => ?_)
        · skip
          exact absurd ⟨Int32.not_lt.mp c_1, Int32.not_le.mp c_9, bI_1 c_20, fun h => c_24 h.1⟩ hs
        · skip
          refine lv_iload_n hx hb dX6_setCoefficient_27 rfl (lv_at hl 2 rfl) ?_
          refine lv_if_ne (tgt := 33) hx hb dX6_setCoefficient_28 (by decide) (fun c_28 => ?_) (fun c_28 => ?_)
          · skip
            exact absurd ⟨Int32.not_lt.mp c_1, Int32.not_le.mp c_9, bI_1 c_20, fun h => c_28 h.2⟩ hs
          · skip
            refine lv_iconst (v := 0) hx hb dX6_setCoefficient_31 (by decide) ?_
            exact W.zret (v := 0) hx hb hr rfl (fun t ht hW => ⟨congrArg (fun z => Outcome.returned (some (Value.int z))) (rfl), ht⟩) (fun _ h => by cases h) dX6_setCoefficient_32

set_option maxHeartbeats 4000000 in
set_option maxRecDepth 100000 in
theorem c_X6_setCoefficient_ok (l : Launch) (D : va_G) (cA : Nat → ClassId) (tt : Nat) (g : Nat) (ts : Int32) (tk : Int32) (tco : Nat) (t4 : Nat) (t5 : Nat) (t6 : Nat) (tv : Int32) (gp : Int32) (gq : Int32) (gh : Int32) (i : Int32) (v : Int32) (k0 : Nat) (cf : Nat → Int32) (hs : scC i v tk gq) (htk : tk = nI k0) (hk1 : 1 ≤ k0 ∧ k0 ≤ 5) : Met l yX6_setCoefficient wsX6_setCoefficient ({ frames := 1, cells := 0, slots := 0, locals := 21 }) (wPc vwCl D cA [(tt, .inr (5, [.ref g, .int ts, .int tk, .ref tco, .ref t4, .ref t5, .ref t6, .int tv])), (g, .inr (1, [.int gp, .int gq, .int gh])), (tco, .inl (cA 0, k0, .inl cf))] [.ref tt, .int i, .int v]) (wq_x vwCl D [(tt, .inr (5, [.ref g, .int ts, .int tk, .ref tco, .ref t4, .ref t5, .ref t6, .int tv])), (g, .inr (1, [.int gp, .int gq, .int gh])), (tco, .inl (cA 0, k0, .inl (upd cf i.toNatClampNeg v)))] (some (.int 1)) (wA [(tt, .inr (5, [.ref g, .int ts, .int tk, .ref tco, .ref t4, .ref t5, .ref t6, .int tv])), (g, .inr (1, [.int gp, .int gq, .int gh])), (tco, .inl (cA 0, k0, .inl cf))])) 0 0 (wA [(tt, .inr (5, [.ref g, .int ts, .int tk, .ref tco, .ref t4, .ref t5, .ref t6, .int tv])), (g, .inr (1, [.int gp, .int gq, .int gh])), (tco, .inl (cA 0, k0, .inl cf))]) := by
  refine Met.ofW (cc := cX6_setCoefficient) (maxL := 3) (ret := (some .boolean)) (by decide) rfl ?_
  intro p e s m args below meth c s₁ B hml hv
  obtain ⟨rfl, hP, hK, hD0⟩ := hv
  have hx := B.exec
  have hb := B.bytes
  have hr := B.returns
  have hts := atoms_spec (ws := wsX6_setCoefficient) B.pre
  have hown : s.vm.findClass RX6 = some m.cls := findClass_of_methodNamed B.named
  have hlocks := B.notSynchronized
  have hin_X6 : ∀ w ∈ wsX60, w ∈ wsX6_setCoefficient := fun w h => List.mem_cons_of_mem _ (List.mem_append_left _ (List.mem_append_right _ h))
  have w_RX6_37 := hts (.fieldLink RX6 37 "MixElection$Trustees" "threshold" "I") (by decide +kernel)
  have w_RX6_9 := hts (.fieldLink RX6 9 "MixElection$Trustees" "group" "LMixElection$Group;") (by decide +kernel)
  have w_RX6_40 := hts (.fieldLink RX6 40 "MixElection$Trustees" "coefficients" "[I") (by decide +kernel)
  have hD : va_D (wA [(tt, .inr (5, [.ref g, .int ts, .int tk, .ref tco, .ref t4, .ref t5, .ref t6, .int tv])), (g, .inr (1, [.int gp, .int gq, .int gh])), (tco, .inl (cA 0, k0, .inl cf))]) [(tt, .inr (5, [.ref g, .int ts, .int tk, .ref tco, .ref t4, .ref t5, .ref t6, .int tv])), (g, .inr (1, [.int gp, .int gq, .int gh])), (tco, .inl (cA 0, k0, .inl cf))] := ⟨hD0.1, fun k q h => List.mem_map.mpr ⟨q, List.mem_of_getElem? h, rfl⟩⟩
  have hS : va_S (wA [(tt, .inr (5, [.ref g, .int ts, .int tk, .ref tco, .ref t4, .ref t5, .ref t6, .int tv])), (g, .inr (1, [.int gp, .int gq, .int gh])), (tco, .inl (cA 0, k0, .inl cf))]) s.heap s.heap [] := va_S.rf
  generalize hAe : wA [(tt, .inr (5, [.ref g, .int ts, .int tk, .ref tco, .ref t4, .ref t5, .ref t6, .int tv])), (g, .inr (1, [.int gp, .int gq, .int gh])), (tco, .inl (cA 0, k0, .inl cf))] = A at hD hS ⊢
  have hP : va_P D vwCl [(tt, .inr (5, [.ref g, .int ts, .int tk, .ref tco, .ref t4, .ref t5, .ref t6, .int tv])), (g, .inr (1, [.int gp, .int gq, .int gh])), (tco, .inl (cA 0, k0, .inl cf))] s.heap := hP
  have hl := lv_entry ([.ref tt, .int i, .int v]) (n := 3) (Nat.le_of_ble_eq_true rfl)
  rw [lg_entry_eq]
  generalize (lg_sl ([.ref tt, .int i, .int v]) ++ List.replicate (3 - (lg_sl ([.ref tt, .int i, .int v])).length) Slot.unset).toArray = ls at hl ⊢
  have hl : lv_has ls 3 [(0, .ref tt), (1, .int i), (2, .int v)] := hl
  refine lv_iload_n hx hb dX6_setCoefficient_0 rfl (lv_at hl 1 rfl) ?_
  refine lv_if_lt (tgt := 31) hx hb dX6_setCoefficient_1 (by decide) (fun c_1 => ?_) (fun c_1 => ?_)
  · skip
    exact absurd c_1 (Int32.not_lt.mpr hs.1)
  · skip
    refine lv_iload_n hx hb dX6_setCoefficient_4 rfl (lv_at hl 1 rfl) ?_
    refine lv_aload_n hx hb dX6_setCoefficient_5 rfl (lv_at hl 0 rfl) ?_
    refine va_get (D := D) (ci := 5) (v := .int tk) (C := RX6) (T := TX6) (N := 8) hx hb hts hin_X6 hown hK hP 0 rfl rfl 2 (by decide) (w_RX6_37) (fun _ h9 => h9) rfl dX6_setCoefficient_6 ?_
    refine lv_icmp_ge (tgt := 31) hx hb dX6_setCoefficient_9 (by decide) (fun c_9 => ?_) (fun c_9 => ?_)
    · skip
      exact absurd hs.2.1 (Int32.not_lt.mpr c_9)
    · skip
      refine lv_aload_n hx hb dX6_setCoefficient_12 rfl (lv_at hl 0 rfl) ?_
      refine va_get (D := D) (ci := 5) (v := .ref g) (C := RX6) (T := TX6) (N := 8) hx hb hts hin_X6 hown hK hP 0 rfl rfl 0 (by decide) (w_RX6_9) (fun _ h9 => h9) rfl dX6_setCoefficient_13 ?_
      refine lv_iload_n hx hb dX6_setCoefficient_16 rfl (lv_at hl 2 rfl) ?_
      refine rq_call1 (v := .int (bI (0 ≤ v ∧ v < gq))) (rn_V (As := [.int v]) (rest := []) (ci := 1) (fs := [.int gp, .int gq, .int gh]) ⟨hx, hb, hml, hown, hts⟩ (c_X1_isExponent l D cA g gp gq gh v) rfl (cwV 1 hts gX6_setCoefficient_X1_isExponent rfl rfl rfl (by decide +kernel) ⟨Nat.le_of_ble_eq_true rfl, Nat.le_of_ble_eq_true rfl⟩) hK hP [1] rfl rfl rfl hl.1 rfl (Nat.le_of_ble_eq_true rfl) dX6_setCoefficient_17 ⟨Nat.le_of_ble_eq_true rfl, Nat.le_of_ble_eq_true rfl⟩) ?_
      refine lv_if_eq (tgt := 31) hx hb dX6_setCoefficient_20 (by decide) (fun c_20 => ?_) (fun c_20 => ?_)
      · skip
        exact absurd hs.2.2.1 (bI_0 c_20)
      · skip
        refine lv_iload_n hx hb dX6_setCoefficient_23 rfl (lv_at hl 1 rfl) ?_
        refine lv_if_ne (tgt := 33) hx hb dX6_setCoefficient_24 (by decide) (fun c_24 => ?_) (fun c_24 => ?_)
        · skip
          refine lv_aload_n hx hb dX6_setCoefficient_33 rfl (lv_at hl 0 rfl) ?_
          refine va_get (D := D) (ci := 5) (v := .ref tco) (C := RX6) (T := TX6) (N := 8) hx hb hts hin_X6 hown hK hP 0 rfl rfl 3 (by decide) (w_RX6_40) (fun _ h9 => h9) rfl dX6_setCoefficient_34 ?_
          refine lv_iload_n hx hb dX6_setCoefficient_37 rfl (lv_at hl 1 rfl) ?_
          refine lv_iload_n hx hb dX6_setCoefficient_38 rfl (lv_at hl 2 rfl) ?_
          refine va_iast hx hb hK hP hD hS 2 0 rfl rfl (ix_in ⟨hs.1, hs.2.1⟩ htk (Nat.le_refl _) (by omega)) dX6_setCoefficient_39 (fun H locs hP hD hS => ?_)
          have hP : va_P D vwCl [(tt, .inr (5, [.ref g, .int ts, .int tk, .ref tco, .ref t4, .ref t5, .ref t6, .int tv])), (g, .inr (1, [.int gp, .int gq, .int gh])), (tco, .inl (cA 0, k0, .inl (upd cf i.toNatClampNeg v)))] H := hP
          have hD : va_D A [(tt, .inr (5, [.ref g, .int ts, .int tk, .ref tco, .ref t4, .ref t5, .ref t6, .int tv])), (g, .inr (1, [.int gp, .int gq, .int gh])), (tco, .inl (cA 0, k0, .inl (upd cf i.toNatClampNeg v)))] := hD
          refine lv_iconst (v := 1) hx hb dX6_setCoefficient_40 (by decide) ?_
          have hP9 : va_P D vwCl [(tt, .inr (5, [.ref g, .int ts, .int tk, .ref tco, .ref t4, .ref t5, .ref t6, .int tv])), (g, .inr (1, [.int gp, .int gq, .int gh])), (tco, .inl (cA 0, k0, .inl (upd cf i.toNatClampNeg v)))] H := hP
          exact W.zret (v := 1) hx hb hr rfl (fun t ht hW => ⟨congrArg (fun z => Outcome.returned (some (Value.int z))) (rfl), by rw [ht]; exact hP9, hS.F ht⟩) hS.2.2 dX6_setCoefficient_41
        · skip
          refine lv_iload_n hx hb dX6_setCoefficient_27 rfl (lv_at hl 2 rfl) ?_
          refine lv_if_ne (tgt := 33) hx hb dX6_setCoefficient_28 (by decide) (fun c_28 => ?_) (fun c_28 => ?_)
          · skip
            refine lv_aload_n hx hb dX6_setCoefficient_33 rfl (lv_at hl 0 rfl) ?_
            refine va_get (D := D) (ci := 5) (v := .ref tco) (C := RX6) (T := TX6) (N := 8) hx hb hts hin_X6 hown hK hP 0 rfl rfl 3 (by decide) (w_RX6_40) (fun _ h9 => h9) rfl dX6_setCoefficient_34 ?_
            refine lv_iload_n hx hb dX6_setCoefficient_37 rfl (lv_at hl 1 rfl) ?_
            refine lv_iload_n hx hb dX6_setCoefficient_38 rfl (lv_at hl 2 rfl) ?_
            refine va_iast hx hb hK hP hD hS 2 0 rfl rfl (ix_in ⟨hs.1, hs.2.1⟩ htk (Nat.le_refl _) (by omega)) dX6_setCoefficient_39 (fun H locs hP hD hS => ?_)
            have hP : va_P D vwCl [(tt, .inr (5, [.ref g, .int ts, .int tk, .ref tco, .ref t4, .ref t5, .ref t6, .int tv])), (g, .inr (1, [.int gp, .int gq, .int gh])), (tco, .inl (cA 0, k0, .inl (upd cf i.toNatClampNeg v)))] H := hP
            have hD : va_D A [(tt, .inr (5, [.ref g, .int ts, .int tk, .ref tco, .ref t4, .ref t5, .ref t6, .int tv])), (g, .inr (1, [.int gp, .int gq, .int gh])), (tco, .inl (cA 0, k0, .inl (upd cf i.toNatClampNeg v)))] := hD
            refine lv_iconst (v := 1) hx hb dX6_setCoefficient_40 (by decide) ?_
            have hP9 : va_P D vwCl [(tt, .inr (5, [.ref g, .int ts, .int tk, .ref tco, .ref t4, .ref t5, .ref t6, .int tv])), (g, .inr (1, [.int gp, .int gq, .int gh])), (tco, .inl (cA 0, k0, .inl (upd cf i.toNatClampNeg v)))] H := hP
            exact W.zret (v := 1) hx hb hr rfl (fun t ht hW => ⟨congrArg (fun z => Outcome.returned (some (Value.int z))) (rfl), by rw [ht]; exact hP9, hS.F ht⟩) hS.2.2 dX6_setCoefficient_41
          · skip
            exact absurd ⟨c_24, c_28⟩ hs.2.2.2
