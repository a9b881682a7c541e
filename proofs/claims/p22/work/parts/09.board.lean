theorem dX0_init_0 : decode cX0_init 0 = .ok (.aload_n 0, 1) := by decide +kernel
theorem dX0_init_1 : decode cX0_init 1 = .ok (.invokespecial 3, 3) := by decide +kernel
theorem dX0_init_4 : decode cX0_init 4 = .ok (.aload_n 0, 1) := by decide +kernel
theorem dX0_init_5 : decode cX0_init 5 = .ok (.sipush 600, 3) := by decide +kernel
theorem dX0_init_8 : decode cX0_init 8 = .ok (.newarray .int, 2) := by decide +kernel
theorem dX0_init_10 : decode cX0_init 10 = .ok (.putfield 9, 3) := by decide +kernel
theorem dX0_init_13 : decode cX0_init 13 = .ok (.aload_n 0, 1) := by decide +kernel
theorem dX0_init_14 : decode cX0_init 14 = .ok (.sipush 600, 3) := by decide +kernel
theorem dX0_init_17 : decode cX0_init 17 = .ok (.newarray .int, 2) := by decide +kernel
theorem dX0_init_19 : decode cX0_init 19 = .ok (.putfield 15, 3) := by decide +kernel
theorem dX0_init_22 : decode cX0_init 22 = .ok (.aload_n 0, 1) := by decide +kernel
theorem dX0_init_23 : decode cX0_init 23 = .ok (.sipush 600, 3) := by decide +kernel
theorem dX0_init_26 : decode cX0_init 26 = .ok (.newarray .int, 2) := by decide +kernel
theorem dX0_init_28 : decode cX0_init 28 = .ok (.putfield 18, 3) := by decide +kernel
theorem dX0_init_31 : decode cX0_init 31 = .ok (.aload_n 0, 1) := by decide +kernel
theorem dX0_init_32 : decode cX0_init 32 = .ok (.sipush 600, 3) := by decide +kernel
theorem dX0_init_35 : decode cX0_init 35 = .ok (.newarray .long, 2) := by decide +kernel
theorem dX0_init_37 : decode cX0_init 37 = .ok (.putfield 21, 3) := by decide +kernel
theorem dX0_init_40 : decode cX0_init 40 = .ok (.aload_n 0, 1) := by decide +kernel
theorem dX0_init_41 : decode cX0_init 41 = .ok (.sipush 600, 3) := by decide +kernel
theorem dX0_init_44 : decode cX0_init 44 = .ok (.newarray .long, 2) := by decide +kernel
theorem dX0_init_46 : decode cX0_init 46 = .ok (.putfield 25, 3) := by decide +kernel
theorem dX0_init_49 : decode cX0_init 49 = .ok (.return_, 1) := by decide +kernel
theorem dX0_size_0 : decode cX0_size 0 = .ok (.aload_n 0, 1) := by decide +kernel
theorem dX0_size_1 : decode cX0_size 1 = .ok (.getfield 28, 3) := by decide +kernel
theorem dX0_size_4 : decode cX0_size 4 = .ok (.ireturn, 1) := by decide +kernel
set_option maxRecDepth 20000 in
theorem ggX0_add_X0_chainOf : GoodIn wsX0_add wsX0_chainOf := goodIn_r _ [11, 12, 6, 13, 14, 15, 10, 16, 1, 22, 23, 24, 25, 26, 27] (by decide +kernel) (by decide +kernel)
set_option maxRecDepth 20000 in
theorem gX0_add_X0_chainOf : GoodIn wsX0_add (wsV RX0 32 RX0 yX0_chainOf wsX0_chainOf) := goodIn_app (goodIn_of _ (by decide +kernel)) ggX0_add_X0_chainOf
set_option maxRecDepth 20000 in
theorem ggX0_add_X3_digested : GoodIn wsX0_add wsX3_digested := goodIn_r _ [20, 21] (by decide +kernel) (by decide +kernel)
set_option maxRecDepth 20000 in
theorem gX0_add_X3_digested : GoodIn wsX0_add (va_wsS RX0 36 yX3_digested wsX3_digested) := goodIn_app (goodIn_of _ (by decide +kernel)) ggX0_add_X3_digested
theorem dX0_add_0 : decode cX0_add 0 = .ok (.aload_n 0, 1) := by decide +kernel
theorem dX0_add_1 : decode cX0_add 1 = .ok (.getfield 28, 3) := by decide +kernel
theorem dX0_add_4 : decode cX0_add 4 = .ok (.sipush 600, 3) := by decide +kernel
theorem dX0_add_7 : decode cX0_add 7 = .ok (.if_icmp .lt 5, 3) := by decide +kernel
theorem dX0_add_12 : decode cX0_add 12 = .ok (.aload_n 0, 1) := by decide +kernel
theorem dX0_add_13 : decode cX0_add 13 = .ok (.aload_n 0, 1) := by decide +kernel
theorem dX0_add_14 : decode cX0_add 14 = .ok (.getfield 28, 3) := by decide +kernel
theorem dX0_add_17 : decode cX0_add 17 = .ok (.iconst 1, 1) := by decide +kernel
theorem dX0_add_18 : decode cX0_add 18 = .ok (.isub, 1) := by decide +kernel
theorem dX0_add_19 : decode cX0_add 19 = .ok (.invokevirtual 32, 3) := by decide +kernel
theorem dX0_add_22 : decode cX0_add 22 = .ok (.lstore 6, 2) := by decide +kernel
theorem dX0_add_24 : decode cX0_add 24 = .ok (.lload 6, 2) := by decide +kernel
theorem dX0_add_26 : decode cX0_add 26 = .ok (.iload_n 1, 1) := by decide +kernel
theorem dX0_add_27 : decode cX0_add 27 = .ok (.i2l, 1) := by decide +kernel
theorem dX0_add_28 : decode cX0_add 28 = .ok (.invokestatic 36, 3) := by decide +kernel
theorem dX0_add_31 : decode cX0_add 31 = .ok (.lstore 6, 2) := by decide +kernel
theorem dX0_add_33 : decode cX0_add 33 = .ok (.lload 6, 2) := by decide +kernel
theorem dX0_add_35 : decode cX0_add 35 = .ok (.iload_n 2, 1) := by decide +kernel
theorem dX0_add_36 : decode cX0_add 36 = .ok (.i2l, 1) := by decide +kernel
theorem dX0_add_37 : decode cX0_add 37 = .ok (.invokestatic 36, 3) := by decide +kernel
theorem dX0_add_40 : decode cX0_add 40 = .ok (.lstore 6, 2) := by decide +kernel
theorem dX0_add_42 : decode cX0_add 42 = .ok (.lload 6, 2) := by decide +kernel
theorem dX0_add_44 : decode cX0_add 44 = .ok (.iload_n 3, 1) := by decide +kernel
theorem dX0_add_45 : decode cX0_add 45 = .ok (.i2l, 1) := by decide +kernel
theorem dX0_add_46 : decode cX0_add 46 = .ok (.invokestatic 36, 3) := by decide +kernel
theorem dX0_add_49 : decode cX0_add 49 = .ok (.lstore 6, 2) := by decide +kernel
theorem dX0_add_51 : decode cX0_add 51 = .ok (.lload 6, 2) := by decide +kernel
theorem dX0_add_53 : decode cX0_add 53 = .ok (.lload 4, 2) := by decide +kernel
theorem dX0_add_55 : decode cX0_add 55 = .ok (.invokestatic 36, 3) := by decide +kernel
theorem dX0_add_58 : decode cX0_add 58 = .ok (.lstore 6, 2) := by decide +kernel
theorem dX0_add_60 : decode cX0_add 60 = .ok (.aload_n 0, 1) := by decide +kernel
theorem dX0_add_61 : decode cX0_add 61 = .ok (.getfield 9, 3) := by decide +kernel
theorem dX0_add_64 : decode cX0_add 64 = .ok (.aload_n 0, 1) := by decide +kernel
theorem dX0_add_65 : decode cX0_add 65 = .ok (.getfield 28, 3) := by decide +kernel
theorem dX0_add_68 : decode cX0_add 68 = .ok (.iload_n 1, 1) := by decide +kernel
theorem dX0_add_69 : decode cX0_add 69 = .ok (.iastore, 1) := by decide +kernel
theorem dX0_add_70 : decode cX0_add 70 = .ok (.aload_n 0, 1) := by decide +kernel
theorem dX0_add_71 : decode cX0_add 71 = .ok (.getfield 15, 3) := by decide +kernel
theorem dX0_add_74 : decode cX0_add 74 = .ok (.aload_n 0, 1) := by decide +kernel
theorem dX0_add_75 : decode cX0_add 75 = .ok (.getfield 28, 3) := by decide +kernel
theorem dX0_add_78 : decode cX0_add 78 = .ok (.iload_n 2, 1) := by decide +kernel
theorem dX0_add_79 : decode cX0_add 79 = .ok (.iastore, 1) := by decide +kernel
theorem dX0_add_80 : decode cX0_add 80 = .ok (.aload_n 0, 1) := by decide +kernel
theorem dX0_add_81 : decode cX0_add 81 = .ok (.getfield 18, 3) := by decide +kernel
theorem dX0_add_84 : decode cX0_add 84 = .ok (.aload_n 0, 1) := by decide +kernel
theorem dX0_add_85 : decode cX0_add 85 = .ok (.getfield 28, 3) := by decide +kernel
theorem dX0_add_88 : decode cX0_add 88 = .ok (.iload_n 3, 1) := by decide +kernel
theorem dX0_add_89 : decode cX0_add 89 = .ok (.iastore, 1) := by decide +kernel
theorem dX0_add_90 : decode cX0_add 90 = .ok (.aload_n 0, 1) := by decide +kernel
theorem dX0_add_91 : decode cX0_add 91 = .ok (.getfield 21, 3) := by decide +kernel
theorem dX0_add_94 : decode cX0_add 94 = .ok (.aload_n 0, 1) := by decide +kernel
theorem dX0_add_95 : decode cX0_add 95 = .ok (.getfield 28, 3) := by decide +kernel
theorem dX0_add_98 : decode cX0_add 98 = .ok (.lload 4, 2) := by decide +kernel
theorem dX0_add_100 : decode cX0_add 100 = .ok (.lastore, 1) := by decide +kernel
theorem dX0_add_101 : decode cX0_add 101 = .ok (.aload_n 0, 1) := by decide +kernel
theorem dX0_add_102 : decode cX0_add 102 = .ok (.getfield 25, 3) := by decide +kernel
theorem dX0_add_105 : decode cX0_add 105 = .ok (.aload_n 0, 1) := by decide +kernel
theorem dX0_add_106 : decode cX0_add 106 = .ok (.getfield 28, 3) := by decide +kernel
theorem dX0_add_109 : decode cX0_add 109 = .ok (.lload 6, 2) := by decide +kernel
theorem dX0_add_111 : decode cX0_add 111 = .ok (.lastore, 1) := by decide +kernel
theorem dX0_add_112 : decode cX0_add 112 = .ok (.aload_n 0, 1) := by decide +kernel
theorem dX0_add_113 : decode cX0_add 113 = .ok (.dup, 1) := by decide +kernel
theorem dX0_add_114 : decode cX0_add 114 = .ok (.getfield 28, 3) := by decide +kernel
theorem dX0_add_117 : decode cX0_add 117 = .ok (.iconst 1, 1) := by decide +kernel
theorem dX0_add_118 : decode cX0_add 118 = .ok (.iadd, 1) := by decide +kernel
theorem dX0_add_119 : decode cX0_add 119 = .ok (.putfield 28, 3) := by decide +kernel
theorem dX0_add_122 : decode cX0_add 122 = .ok (.lload 6, 2) := by decide +kernel
theorem dX0_add_124 : decode cX0_add 124 = .ok (.lreturn, 1) := by decide +kernel
theorem dX0_has_0 : decode cX0_has 0 = .ok (.iload_n 1, 1) := by decide +kernel
theorem dX0_has_1 : decode cX0_has 1 = .ok (.ifCond .lt 15, 3) := by decide +kernel
theorem dX0_has_4 : decode cX0_has 4 = .ok (.iload_n 1, 1) := by decide +kernel
theorem dX0_has_5 : decode cX0_has 5 = .ok (.aload_n 0, 1) := by decide +kernel
theorem dX0_has_6 : decode cX0_has 6 = .ok (.getfield 28, 3) := by decide +kernel
theorem dX0_has_9 : decode cX0_has 9 = .ok (.if_icmp .ge 7, 3) := by decide +kernel
theorem dX0_has_12 : decode cX0_has 12 = .ok (.iconst 1, 1) := by decide +kernel
theorem dX0_has_13 : decode cX0_has 13 = .ok (.goto 4, 3) := by decide +kernel
theorem dX0_has_16 : decode cX0_has 16 = .ok (.iconst 0, 1) := by decide +kernel
theorem dX0_has_17 : decode cX0_has 17 = .ok (.ireturn, 1) := by decide +kernel
set_option maxRecDepth 20000 in
theorem ggX0_field_X0_has : GoodIn wsX0_field wsX0_has := goodIn_r _ [9, 10, 11, 12, 13, 14, 15, 16] (by decide +kernel) (by decide +kernel)
set_option maxRecDepth 20000 in
theorem gX0_field_X0_has : GoodIn wsX0_field (wsV RX0 42 RX0 yX0_has wsX0_has) := goodIn_app (goodIn_of _ (by decide +kernel)) ggX0_field_X0_has
theorem dX0_field_0 : decode cX0_field 0 = .ok (.aload_n 0, 1) := by decide +kernel
theorem dX0_field_1 : decode cX0_field 1 = .ok (.iload_n 1, 1) := by decide +kernel
theorem dX0_field_2 : decode cX0_field 2 = .ok (.invokevirtual 42, 3) := by decide +kernel
theorem dX0_field_5 : decode cX0_field 5 = .ok (.ifCond .ne 5, 3) := by decide +kernel
theorem dX0_field_8 : decode cX0_field 8 = .ok (.lconst 0, 1) := by decide +kernel
theorem dX0_field_9 : decode cX0_field 9 = .ok (.lreturn, 1) := by decide +kernel
set_option maxRecDepth 20000 in
theorem ggX0_chainOf_X0_has : GoodIn wsX0_chainOf wsX0_has := goodIn_r _ [7, 8, 9, 10, 11, 12, 13, 14] (by decide +kernel) (by decide +kernel)
set_option maxRecDepth 20000 in
theorem gX0_chainOf_X0_has : GoodIn wsX0_chainOf (wsV RX0 42 RX0 yX0_has wsX0_has) := goodIn_app (goodIn_of _ (by decide +kernel)) ggX0_chainOf_X0_has
theorem dX0_chainOf_0 : decode cX0_chainOf 0 = .ok (.iload_n 1, 1) := by decide +kernel
theorem dX0_chainOf_1 : decode cX0_chainOf 1 = .ok (.iconst (-1), 1) := by decide +kernel
theorem dX0_chainOf_2 : decode cX0_chainOf 2 = .ok (.if_icmp .ne 7, 3) := by decide +kernel
theorem dX0_chainOf_5 : decode cX0_chainOf 5 = .ok (.ldc2_w 46, 3) := by decide +kernel
theorem dX0_chainOf_8 : decode cX0_chainOf 8 = .ok (.lreturn, 1) := by decide +kernel
theorem dX0_chainOf_9 : decode cX0_chainOf 9 = .ok (.aload_n 0, 1) := by decide +kernel
theorem dX0_chainOf_10 : decode cX0_chainOf 10 = .ok (.iload_n 1, 1) := by decide +kernel
theorem dX0_chainOf_11 : decode cX0_chainOf 11 = .ok (.invokevirtual 42, 3) := by decide +kernel
theorem dX0_chainOf_14 : decode cX0_chainOf 14 = .ok (.ifCond .eq 12, 3) := by decide +kernel
theorem dX0_chainOf_17 : decode cX0_chainOf 17 = .ok (.aload_n 0, 1) := by decide +kernel
theorem dX0_chainOf_18 : decode cX0_chainOf 18 = .ok (.getfield 25, 3) := by decide +kernel
theorem dX0_chainOf_21 : decode cX0_chainOf 21 = .ok (.iload_n 1, 1) := by decide +kernel
theorem dX0_chainOf_22 : decode cX0_chainOf 22 = .ok (.laload, 1) := by decide +kernel
theorem dX0_chainOf_23 : decode cX0_chainOf 23 = .ok (.goto 4, 3) := by decide +kernel
theorem dX0_chainOf_26 : decode cX0_chainOf 26 = .ok (.lconst 0, 1) := by decide +kernel
theorem dX0_chainOf_27 : decode cX0_chainOf 27 = .ok (.lreturn, 1) := by decide +kernel
def cho (cf : Nat → Int64) (n i : Int32) : Int64 := if i = -1 then -3750763034362895579 else if 0 ≤ i ∧ i < n then cf i.toNatClampNeg else 0
theorem ix_in {i n : Int32} {n0 N : Nat} (h : 0 ≤ i ∧ i < n) (hn : n = nI n0) (h6 : n0 ≤ N) (hN : N < 2 ^ 31 := by decide) : vp_in i N := by
  rw [vp_in_iff]
  have h1 := Int32.le_iff_toInt_le.mp h.1
  have h2 := Int32.lt_iff_toInt_lt.mp h.2
  rw [hn, nI_toInt (by omega)] at h2
  have h3 : (0 : Int32).toInt = 0 := rfl
  omega
theorem ad_in {n : Int32} {n0 : Nat} (hn : n = nI n0) (h6 : n0 < 600) : vp_in n 600 := by rw [hn]; exact vp_in_nI h6 (by decide)
theorem ad_lt {n : Int32} {n0 : Nat} (hn : n = nI n0) (h6 : n0 < 600) : n < 600 := by rw [hn]; exact nI_lt (b := 600) h6 (by decide)
set_option maxHeartbeats 4000000 in
set_option maxRecDepth 100000 in
theorem c_X0_size (l : Launch) (D : va_G) (cA : Nat → ClassId) (b : Nat) (ka : Nat) (xa : Nat) (ya : Nat) (za : Nat) (ca : Nat) (n : Int32) : Met l yX0_size wsX0_size ({ frames := 0, cells := 0, slots := 0, locals := 0 }) (rPc vwCl D cA [(b, .inr (0, [.ref ka, .ref xa, .ref ya, .ref za, .ref ca, .int n]))] [.ref b]) (rq_x (some (.int n))) 0 0 (fun _ => False) := by
  refine Met.ofW (cc := cX0_size) (maxL := 1) (ret := (some .int)) (by decide) rfl ?_
  intro p e s m args below meth c s₁ B hml hv
  obtain ⟨rfl, hP, hK⟩ := hv
  have hx := B.exec
  have hb := B.bytes
  have hr := B.returns
  have hts := atoms_spec (ws := wsX0_size) B.pre
  have hown : s.vm.findClass RX0 = some m.cls := findClass_of_methodNamed B.named
  have hlocks := B.notSynchronized
  have hin_X0 : ∀ w ∈ wsX00, w ∈ wsX0_size := fun w h => List.mem_cons_of_mem _ (List.mem_append_right _ h)
  have w_RX0_28 := hts (.fieldLink RX0 28 "MixElection$Board" "size" "I") (by decide +kernel)
  have hl := lv_entry ([.ref b]) (n := 1) (Nat.le_of_ble_eq_true rfl)
  rw [lg_entry_eq]
  generalize (lg_sl ([.ref b]) ++ List.replicate (1 - (lg_sl ([.ref b])).length) Slot.unset).toArray = ls at hl ⊢
  have hl : lv_has ls 1 [(0, .ref b)] := hl
  refine lv_aload_n hx hb dX0_size_0 rfl (lv_at hl 0 rfl) ?_
  refine va_get (D := D) (ci := 0) (v := .int n) (C := RX0) (T := TX0) (N := 6) hx hb hts hin_X0 hown hK hP 0 rfl rfl 5 (by decide) (w_RX0_28) (fun _ h9 => h9) rfl dX0_size_1 ?_
  exact W.iret (v := n) hx hb hr (fun t ht hW => ⟨congrArg (fun z => Outcome.returned (some (Value.int z))) (rfl), ht⟩) (fun _ h => by cases h) dX0_size_4

set_option maxHeartbeats 4000000 in
set_option maxRecDepth 100000 in
theorem c_X0_has (l : Launch) (D : va_G) (cA : Nat → ClassId) (b : Nat) (ka : Nat) (xa : Nat) (ya : Nat) (za : Nat) (ca : Nat) (n : Int32) (i : Int32) : Met l yX0_has wsX0_has ({ frames := 0, cells := 0, slots := 0, locals := 0 }) (rPc vwCl D cA [(b, .inr (0, [.ref ka, .ref xa, .ref ya, .ref za, .ref ca, .int n]))] [.ref b, .int i]) (rq_x (some (.int (bI (0 ≤ i ∧ i < n))))) 0 0 (fun _ => False) := by
  refine Met.ofW (cc := cX0_has) (maxL := 2) (ret := (some .boolean)) (by decide) rfl ?_
  intro p e s m args below meth c s₁ B hml hv
  obtain ⟨rfl, hP, hK⟩ := hv
  have hx := B.exec
  have hb := B.bytes
  have hr := B.returns
  have hts := atoms_spec (ws := wsX0_has) B.pre
  have hown : s.vm.findClass RX0 = some m.cls := findClass_of_methodNamed B.named
  have hlocks := B.notSynchronized
  have hin_X0 : ∀ w ∈ wsX00, w ∈ wsX0_has := fun w h => List.mem_cons_of_mem _ (List.mem_append_right _ h)
  have w_RX0_28 := hts (.fieldLink RX0 28 "MixElection$Board" "size" "I") (by decide +kernel)
  have hl := lv_entry ([.ref b, .int i]) (n := 2) (Nat.le_of_ble_eq_true rfl)
  rw [lg_entry_eq]
  generalize (lg_sl ([.ref b, .int i]) ++ List.replicate (2 - (lg_sl ([.ref b, .int i])).length) Slot.unset).toArray = ls at hl ⊢
  have hl : lv_has ls 2 [(0, .ref b), (1, .int i)] := hl
  refine lv_iload_n hx hb dX0_has_0 rfl (lv_at hl 1 rfl) ?_
  refine lv_if_lt (tgt := 16) hx hb dX0_has_1 (by decide) (fun c_1 => ?_) (fun c_1 => ?_)
  · skip
    refine lv_iconst (v := 0) hx hb dX0_has_16 (by decide) ?_
    exact W.zret (v := 0) hx hb hr rfl (fun t ht hW => ⟨congrArg (fun z => Outcome.returned (some (Value.int z))) (bI_f (fun h => absurd c_1 (Int32.not_lt.mpr h.1))), ht⟩) (fun _ h => by cases h) dX0_has_17
  · skip
    refine lv_iload_n hx hb dX0_has_4 rfl (lv_at hl 1 rfl) ?_
    refine lv_aload_n hx hb dX0_has_5 rfl (lv_at hl 0 rfl) ?_
    refine va_get (D := D) (ci := 0) (v := .int n) (C := RX0) (T := TX0) (N := 6) hx hb hts hin_X0 hown hK hP 0 rfl rfl 5 (by decide) (w_RX0_28) (fun _ h9 => h9) rfl dX0_has_6 ?_
    refine lv_icmp_ge (tgt := 16) hx hb dX0_has_9 (by decide) (fun c_9 => ?_) (fun c_9 => ?_)
    · skip
      refine lv_iconst (v := 0) hx hb dX0_has_16 (by decide) ?_
      exact W.zret (v := 0) hx hb hr rfl (fun t ht hW => ⟨congrArg (fun z => Outcome.returned (some (Value.int z))) (bI_f (fun h => absurd h.2 (Int32.not_lt.mpr c_9))), ht⟩) (fun _ h => by cases h) dX0_has_17
    · skip
      refine lv_iconst (v := 1) hx hb dX0_has_12 (by decide) ?_
      refine lv_goto (tgt := 17) hx hb dX0_has_13 (by decide) ?_
      exact W.zret (v := 1) hx hb hr rfl (fun t ht hW => ⟨congrArg (fun z => Outcome.returned (some (Value.int z))) (bI_t ⟨Int32.not_lt.mp c_1, Int32.not_le.mp c_9⟩), ht⟩) (fun _ h => by cases h) dX0_has_17

set_option maxHeartbeats 4000000 in
set_option maxRecDepth 100000 in
theorem c_X0_chainOf (l : Launch) (D : va_G) (cA : Nat → ClassId) (b : Nat) (ka : Nat) (xa : Nat) (ya : Nat) (za : Nat) (ca : Nat) (n : Int32) (i : Int32) (cf : Nat → Int64) (n0 : Nat) (hn : n = nI n0) (h6 : n0 ≤ 600) : Met l yX0_chainOf wsX0_chainOf ({ frames := 1, cells := 0, slots := 0, locals := 21 }) (rPc vwCl D cA [(b, .inr (0, [.ref ka, .ref xa, .ref ya, .ref za, .ref ca, .int n])), (ca, .inl (cA 2, 600, .inr (.inl cf)))] [.ref b, .int i]) (rq_x (some (.long (cho cf n i)))) 0 0 (fun _ => False) := by
  refine Met.ofW (cc := cX0_chainOf) (maxL := 2) (ret := (some .long)) (by decide) rfl ?_
  intro p e s m args below meth c s₁ B hml hv
  obtain ⟨rfl, hP, hK⟩ := hv
  have hx := B.exec
  have hb := B.bytes
  have hr := B.returns
  have hts := atoms_spec (ws := wsX0_chainOf) B.pre
  have hown : s.vm.findClass RX0 = some m.cls := findClass_of_methodNamed B.named
  have hlocks := B.notSynchronized
  have hin_X0 : ∀ w ∈ wsX00, w ∈ wsX0_chainOf := fun w h => List.mem_cons_of_mem _ (List.mem_append_right _ h)
  have w_RX0_25 := hts (.fieldLink RX0 25 "MixElection$Board" "chains" "[J") (by decide +kernel)
  have hl := lv_entry ([.ref b, .int i]) (n := 2) (Nat.le_of_ble_eq_true rfl)
  rw [lg_entry_eq]
  generalize (lg_sl ([.ref b, .int i]) ++ List.replicate (2 - (lg_sl ([.ref b, .int i])).length) Slot.unset).toArray = ls at hl ⊢
  have hl : lv_has ls 2 [(0, .ref b), (1, .int i)] := hl
  refine lv_iload_n hx hb dX0_chainOf_0 rfl (lv_at hl 1 rfl) ?_
  refine lv_iconst (v := (-1)) hx hb dX0_chainOf_1 (by decide) ?_
  refine lv_icmp_ne (tgt := 9) hx hb dX0_chainOf_2 (by decide) (fun c_2 => ?_) (fun c_2 => ?_)
  · skip
    refine lv_aload_n hx hb dX0_chainOf_9 rfl (lv_at hl 0 rfl) ?_
    refine lv_iload_n hx hb dX0_chainOf_10 rfl (lv_at hl 1 rfl) ?_
    refine rq_call1 (v := .int (bI (0 ≤ i ∧ i < n))) (rn_V (As := [.int i]) (rest := []) (ci := 0) (fs := [.ref ka, .ref xa, .ref ya, .ref za, .ref ca, .int n]) ⟨hx, hb, hml, hown, hts⟩ (c_X0_has l D cA b ka xa ya za ca n i) rfl (cwV 1 hts gX0_chainOf_X0_has rfl rfl rfl (by decide +kernel) ⟨Nat.le_of_ble_eq_true rfl, Nat.le_of_ble_eq_true rfl⟩) hK hP [0] rfl rfl rfl hl.1 rfl (Nat.le_of_ble_eq_true rfl) dX0_chainOf_11 ⟨Nat.le_of_ble_eq_true rfl, Nat.le_of_ble_eq_true rfl⟩) ?_
    refine lv_if_eq (tgt := 26) hx hb dX0_chainOf_14 (by decide) (fun c_14 => ?_) (fun c_14 => ?_)
    · skip
      refine lv_lconst (v := 0) hx hb dX0_chainOf_26 (by decide) ?_
      exact W.lret (v := 0) hx hb hr (fun t ht hW => ⟨congrArg (fun z => Outcome.returned (some (Value.long z))) ((by rw [cho, if_neg c_2, if_neg (bI_0 c_14)])), ht⟩) (fun _ h => by cases h) dX0_chainOf_27
    · skip
      refine lv_aload_n hx hb dX0_chainOf_17 rfl (lv_at hl 0 rfl) ?_
      refine va_get (D := D) (ci := 0) (v := .ref ca) (C := RX0) (T := TX0) (N := 6) hx hb hts hin_X0 hown hK hP 0 rfl rfl 4 (by decide) (w_RX0_25) (fun _ h9 => h9) rfl dX0_chainOf_18 ?_
      refine lv_iload_n hx hb dX0_chainOf_21 rfl (lv_at hl 1 rfl) ?_
      refine va_lald hx hb hK hP 1 2 rfl rfl (ix_in (bI_1 c_14) hn h6) dX0_chainOf_22 ?_
      refine lv_goto (tgt := 27) hx hb dX0_chainOf_23 (by decide) ?_
      exact W.lret (v := (cf i.toNatClampNeg)) hx hb hr (fun t ht hW => ⟨congrArg (fun z => Outcome.returned (some (Value.long z))) ((by rw [cho, if_neg c_2, if_pos (bI_1 c_14)])), ht⟩) (fun _ h => by cases h) dX0_chainOf_27
  · skip
    refine lv_ldc2 (v := (-3750763034362895579)) hx hb hown (hts (.constantLong RX0 46 (-3750763034362895579)) (by decide +kernel)) dX0_chainOf_5 ?_
    exact W.lret (v := (-3750763034362895579)) hx hb hr (fun t ht hW => ⟨congrArg (fun z => Outcome.returned (some (Value.long z))) ((by rw [cho, if_pos c_2])), ht⟩) (fun _ h => by cases h) dX0_chainOf_8

set_option maxHeartbeats 4000000 in
set_option maxRecDepth 100000 in
theorem c_X0_field_no (l : Launch) (D : va_G) (cA : Nat → ClassId) (b : Nat) (ka : Nat) (xa : Nat) (ya : Nat) (za : Nat) (ca : Nat) (n : Int32) (i : Int32) (w : Int32) (hi : ¬ (0 ≤ i ∧ i < n)) : Met l yX0_field wsX0_field ({ frames := 1, cells := 0, slots := 0, locals := 21 }) (rPc vwCl D cA [(b, .inr (0, [.ref ka, .ref xa, .ref ya, .ref za, .ref ca, .int n]))] [.ref b, .int i, .int w]) (rq_x (some (.long 0))) 0 0 (fun _ => False) := by
  refine Met.ofW (cc := cX0_field) (maxL := 3) (ret := (some .long)) (by decide) rfl ?_
  intro p e s m args below meth c s₁ B hml hv
  obtain ⟨rfl, hP, hK⟩ := hv
  have hx := B.exec
  have hb := B.bytes
  have hr := B.returns
  have hts := atoms_spec (ws := wsX0_field) B.pre
  have hown : s.vm.findClass RX0 = some m.cls := findClass_of_methodNamed B.named
  have hlocks := B.notSynchronized
  have hl := lv_entry ([.ref b, .int i, .int w]) (n := 3) (Nat.le_of_ble_eq_true rfl)
  rw [lg_entry_eq]
  generalize (lg_sl ([.ref b, .int i, .int w]) ++ List.replicate (3 - (lg_sl ([.ref b, .int i, .int w])).length) Slot.unset).toArray = ls at hl ⊢
  have hl : lv_has ls 3 [(0, .ref b), (1, .int i), (2, .int w)] := hl
  refine lv_aload_n hx hb dX0_field_0 rfl (lv_at hl 0 rfl) ?_
  refine lv_iload_n hx hb dX0_field_1 rfl (lv_at hl 1 rfl) ?_
  refine rq_call1 (v := .int (bI (0 ≤ i ∧ i < n))) (rn_V (As := [.int i]) (rest := []) (ci := 0) (fs := [.ref ka, .ref xa, .ref ya, .ref za, .ref ca, .int n]) ⟨hx, hb, hml, hown, hts⟩ (c_X0_has l D cA b ka xa ya za ca n i) rfl (cwV 1 hts gX0_field_X0_has rfl rfl rfl (by decide +kernel) ⟨Nat.le_of_ble_eq_true rfl, Nat.le_of_ble_eq_true rfl⟩) hK hP [0] rfl rfl rfl hl.1 rfl (Nat.le_of_ble_eq_true rfl) dX0_field_2 ⟨Nat.le_of_ble_eq_true rfl, Nat.le_of_ble_eq_true rfl⟩) ?_
  refine lv_if_ne (tgt := 10) hx hb dX0_field_5 (by decide) (fun c_5 => ?_) (fun c_5 => ?_)
  · exact absurd (bI_f hi).symm c_5
  · skip
    refine lv_lconst (v := 0) hx hb dX0_field_8 (by decide) ?_
    exact W.lret (v := 0) hx hb hr (fun t ht hW => ⟨congrArg (fun z => Outcome.returned (some (Value.long z))) (rfl), ht⟩) (fun _ h => by cases h) dX0_field_9

set_option maxHeartbeats 4000000 in
set_option maxRecDepth 100000 in
theorem c_X0_add (l : Launch) (D : va_G) (cA : Nat → ClassId) (b : Nat) (ka : Nat) (xa : Nat) (ya : Nat) (za : Nat) (ca : Nat) (n : Int32) (kf : Nat → Int32) (xf : Nat → Int32) (yf : Nat → Int32) (zf : Nat → Int64) (cf : Nat → Int64) (kd : Int32) (x : Int32) (y : Int32) (z : Int64) (n0 : Nat) (hn : n = nI n0) (h6 : n0 < 600) : Met l yX0_add wsX0_add ({ frames := 2, cells := 0, slots := 0, locals := 42 }) (wPc vwCl D cA [(b, .inr (0, [.ref ka, .ref xa, .ref ya, .ref za, .ref ca, .int n])), (ka, .inl (cA 0, 600, .inl kf)), (xa, .inl (cA 0, 600, .inl xf)), (ya, .inl (cA 0, 600, .inl yf)), (za, .inl (cA 2, 600, .inr (.inl zf))), (ca, .inl (cA 2, 600, .inr (.inl cf)))] [.ref b, .int kd, .int x, .int y, .long z]) (wq_x vwCl D [(b, .inr (0, [.ref ka, .ref xa, .ref ya, .ref za, .ref ca, .int (n + 1)])), (ka, .inl (cA 0, 600, .inl (upd kf n.toNatClampNeg kd))), (xa, .inl (cA 0, 600, .inl (upd xf n.toNatClampNeg x))), (ya, .inl (cA 0, 600, .inl (upd yf n.toNatClampNeg y))), (za, .inl (cA 2, 600, .inr (.inl (vp_updL zf n.toNatClampNeg z)))), (ca, .inl (cA 2, 600, .inr (.inl (vp_updL cf n.toNatClampNeg (dg (dg (dg (dg (cho cf n (n - 1)) (kd.toInt64)) (x.toInt64)) (y.toInt64)) z)))))] (some (.long (dg (dg (dg (dg (cho cf n (n - 1)) (kd.toInt64)) (x.toInt64)) (y.toInt64)) z))) (wA [(b, .inr (0, [.ref ka, .ref xa, .ref ya, .ref za, .ref ca, .int n])), (ka, .inl (cA 0, 600, .inl kf)), (xa, .inl (cA 0, 600, .inl xf)), (ya, .inl (cA 0, 600, .inl yf)), (za, .inl (cA 2, 600, .inr (.inl zf))), (ca, .inl (cA 2, 600, .inr (.inl cf)))])) 0 0 (wA [(b, .inr (0, [.ref ka, .ref xa, .ref ya, .ref za, .ref ca, .int n])), (ka, .inl (cA 0, 600, .inl kf)), (xa, .inl (cA 0, 600, .inl xf)), (ya, .inl (cA 0, 600, .inl yf)), (za, .inl (cA 2, 600, .inr (.inl zf))), (ca, .inl (cA 2, 600, .inr (.inl cf)))]) := by
  refine Met.ofW (cc := cX0_add) (maxL := 8) (ret := (some .long)) (by decide) rfl ?_
  intro p e s m args below meth c s₁ B hml hv
  obtain ⟨rfl, hP, hK, hD0⟩ := hv
  have hx := B.exec
  have hb := B.bytes
  have hr := B.returns
  have hts := atoms_spec (ws := wsX0_add) B.pre
  have hown : s.vm.findClass RX0 = some m.cls := findClass_of_methodNamed B.named
  have hlocks := B.notSynchronized
  have hin_X0 : ∀ w ∈ wsX00, w ∈ wsX0_add := fun w h => List.mem_cons_of_mem _ (List.mem_append_right _ h)
  have w_RX0_28 := hts (.fieldLink RX0 28 "MixElection$Board" "size" "I") (by decide +kernel)
  have w_RX0_9 := hts (.fieldLink RX0 9 "MixElection$Board" "kinds" "[I") (by decide +kernel)
  have w_RX0_15 := hts (.fieldLink RX0 15 "MixElection$Board" "xs" "[I") (by decide +kernel)
  have w_RX0_18 := hts (.fieldLink RX0 18 "MixElection$Board" "ys" "[I") (by decide +kernel)
  have w_RX0_21 := hts (.fieldLink RX0 21 "MixElection$Board" "zs" "[J") (by decide +kernel)
  have w_RX0_25 := hts (.fieldLink RX0 25 "MixElection$Board" "chains" "[J") (by decide +kernel)
  have hD : va_D (wA [(b, .inr (0, [.ref ka, .ref xa, .ref ya, .ref za, .ref ca, .int n])), (ka, .inl (cA 0, 600, .inl kf)), (xa, .inl (cA 0, 600, .inl xf)), (ya, .inl (cA 0, 600, .inl yf)), (za, .inl (cA 2, 600, .inr (.inl zf))), (ca, .inl (cA 2, 600, .inr (.inl cf)))]) [(b, .inr (0, [.ref ka, .ref xa, .ref ya, .ref za, .ref ca, .int n])), (ka, .inl (cA 0, 600, .inl kf)), (xa, .inl (cA 0, 600, .inl xf)), (ya, .inl (cA 0, 600, .inl yf)), (za, .inl (cA 2, 600, .inr (.inl zf))), (ca, .inl (cA 2, 600, .inr (.inl cf)))] := ⟨hD0.1, fun k q h => List.mem_map.mpr ⟨q, List.mem_of_getElem? h, rfl⟩⟩
  have hS : va_S (wA [(b, .inr (0, [.ref ka, .ref xa, .ref ya, .ref za, .ref ca, .int n])), (ka, .inl (cA 0, 600, .inl kf)), (xa, .inl (cA 0, 600, .inl xf)), (ya, .inl (cA 0, 600, .inl yf)), (za, .inl (cA 2, 600, .inr (.inl zf))), (ca, .inl (cA 2, 600, .inr (.inl cf)))]) s.heap s.heap [] := va_S.rf
  generalize hAe : wA [(b, .inr (0, [.ref ka, .ref xa, .ref ya, .ref za, .ref ca, .int n])), (ka, .inl (cA 0, 600, .inl kf)), (xa, .inl (cA 0, 600, .inl xf)), (ya, .inl (cA 0, 600, .inl yf)), (za, .inl (cA 2, 600, .inr (.inl zf))), (ca, .inl (cA 2, 600, .inr (.inl cf)))] = A at hD hS ⊢
  have hP : va_P D vwCl [(b, .inr (0, [.ref ka, .ref xa, .ref ya, .ref za, .ref ca, .int n])), (ka, .inl (cA 0, 600, .inl kf)), (xa, .inl (cA 0, 600, .inl xf)), (ya, .inl (cA 0, 600, .inl yf)), (za, .inl (cA 2, 600, .inr (.inl zf))), (ca, .inl (cA 2, 600, .inr (.inl cf)))] s.heap := hP
  have hl := lv_entry ([.ref b, .int kd, .int x, .int y, .long z]) (n := 8) (Nat.le_of_ble_eq_true rfl)
  rw [lg_entry_eq]
  generalize (lg_sl ([.ref b, .int kd, .int x, .int y, .long z]) ++ List.replicate (8 - (lg_sl ([.ref b, .int kd, .int x, .int y, .long z])).length) Slot.unset).toArray = ls at hl ⊢
  have hl : lv_has ls 8 [(0, .ref b), (1, .int kd), (2, .int x), (3, .int y), (4, .long z)] := hl
  refine lv_aload_n hx hb dX0_add_0 rfl (lv_at hl 0 rfl) ?_
  refine va_get (D := D) (ci := 0) (v := .int n) (C := RX0) (T := TX0) (N := 6) hx hb hts hin_X0 hown hK hP 0 rfl rfl 5 (by decide) (w_RX0_28) (fun _ h9 => h9) rfl dX0_add_1 ?_
  refine lv_sipush (v := 600) hx hb dX0_add_4 (by decide) ?_
  refine lv_icmp_lt (tgt := 12) hx hb dX0_add_7 (by decide) (fun c_7 => ?_) (fun c_7 => ?_)
  · skip
    refine lv_aload_n hx hb dX0_add_12 rfl (lv_at hl 0 rfl) ?_
    refine lv_aload_n hx hb dX0_add_13 rfl (lv_at hl 0 rfl) ?_
    refine va_get (D := D) (ci := 0) (v := .int n) (C := RX0) (T := TX0) (N := 6) hx hb hts hin_X0 hown hK hP 0 rfl rfl 5 (by decide) (w_RX0_28) (fun _ h9 => h9) rfl dX0_add_14 ?_
    refine lv_iconst (v := 1) hx hb dX0_add_17 (by decide) ?_
    refine lv_isub hx hb dX0_add_18 ?_
    refine rq_call1 (v := .long (cho cf n (n - 1))) (rn_V (As := [.int (n - 1)]) (rest := []) (ci := 0) (fs := [.ref ka, .ref xa, .ref ya, .ref za, .ref ca, .int n]) ⟨hx, hb, hml, hown, hts⟩ (c_X0_chainOf l D cA b ka xa ya za ca n (n - 1) cf n0 hn (by omega)) rfl (cwV 1 hts gX0_add_X0_chainOf rfl rfl rfl (by decide +kernel) ⟨Nat.le_of_ble_eq_true rfl, Nat.le_of_ble_eq_true rfl⟩) hK hP [0, 5] rfl rfl rfl hl.1 rfl (Nat.le_of_ble_eq_true rfl) dX0_add_19 ⟨Nat.le_of_ble_eq_true rfl, Nat.le_of_ble_eq_true rfl⟩) ?_
    refine lv_lstore (lv' := [(6, .long (cho cf n (n - 1))), (0, .ref b), (1, .int kd), (2, .int x), (3, .int y), (4, .long z)]) hx hb dX0_add_22 hl (by decide) rfl (fun ls hl => ?_)
    refine lv_lload hx hb dX0_add_24 (lv_at hl 0 rfl) ?_
    refine lv_iload_n hx hb dX0_add_26 rfl (lv_at hl 2 rfl) ?_
    refine lv_i2l hx hb dX0_add_27 rfl ?_
    refine rq_call1 (v := .long (dg (cho cf n (n - 1)) kd.toInt64)) (rn_S (As := [.long (cho cf n (n - 1)), .long kd.toInt64]) (rest := []) ⟨hx, hb, hml, hown, hts⟩ (c_X3_digested l D cA (cho cf n (n - 1)) kd.toInt64) (va_cwS 2 hts gX0_add_X3_digested rfl rfl rfl (by decide +kernel) ⟨Nat.le_of_ble_eq_true rfl, Nat.le_of_ble_eq_true rfl⟩) hK hP [] rfl rfl hl.1 rfl (Nat.le_of_ble_eq_true rfl) dX0_add_28 ⟨Nat.le_of_ble_eq_true rfl, Nat.le_of_ble_eq_true rfl⟩) ?_
    refine lv_lstore (lv' := [(6, .long (dg (cho cf n (n - 1)) kd.toInt64)), (0, .ref b), (1, .int kd), (2, .int x), (3, .int y), (4, .long z)]) hx hb dX0_add_31 hl (by decide) rfl (fun ls hl => ?_)
    refine lv_lload hx hb dX0_add_33 (lv_at hl 0 rfl) ?_
    refine lv_iload_n hx hb dX0_add_35 rfl (lv_at hl 3 rfl) ?_
    refine lv_i2l hx hb dX0_add_36 rfl ?_
    refine rq_call1 (v := .long (dg (dg (cho cf n (n - 1)) kd.toInt64) x.toInt64)) (rn_S (As := [.long (dg (cho cf n (n - 1)) kd.toInt64), .long x.toInt64]) (rest := []) ⟨hx, hb, hml, hown, hts⟩ (c_X3_digested l D cA (dg (cho cf n (n - 1)) kd.toInt64) x.toInt64) (va_cwS 2 hts gX0_add_X3_digested rfl rfl rfl (by decide +kernel) ⟨Nat.le_of_ble_eq_true rfl, Nat.le_of_ble_eq_true rfl⟩) hK hP [] rfl rfl hl.1 rfl (Nat.le_of_ble_eq_true rfl) dX0_add_37 ⟨Nat.le_of_ble_eq_true rfl, Nat.le_of_ble_eq_true rfl⟩) ?_
    refine lv_lstore (lv' := [(6, .long (dg (dg (cho cf n (n - 1)) kd.toInt64) x.toInt64)), (0, .ref b), (1, .int kd), (2, .int x), (3, .int y), (4, .long z)]) hx hb dX0_add_40 hl (by decide) rfl (fun ls hl => ?_)
    refine lv_lload hx hb dX0_add_42 (lv_at hl 0 rfl) ?_
    refine lv_iload_n hx hb dX0_add_44 rfl (lv_at hl 4 rfl) ?_
    refine lv_i2l hx hb dX0_add_45 rfl ?_
    refine rq_call1 (v := .long (dg (dg (dg (cho cf n (n - 1)) kd.toInt64) x.toInt64) y.toInt64)) (rn_S (As := [.long (dg (dg (cho cf n (n - 1)) kd.toInt64) x.toInt64), .long y.toInt64]) (rest := []) ⟨hx, hb, hml, hown, hts⟩ (c_X3_digested l D cA (dg (dg (cho cf n (n - 1)) kd.toInt64) x.toInt64) y.toInt64) (va_cwS 2 hts gX0_add_X3_digested rfl rfl rfl (by decide +kernel) ⟨Nat.le_of_ble_eq_true rfl, Nat.le_of_ble_eq_true rfl⟩) hK hP [] rfl rfl hl.1 rfl (Nat.le_of_ble_eq_true rfl) dX0_add_46 ⟨Nat.le_of_ble_eq_true rfl, Nat.le_of_ble_eq_true rfl⟩) ?_
    refine lv_lstore (lv' := [(6, .long (dg (dg (dg (cho cf n (n - 1)) kd.toInt64) x.toInt64) y.toInt64)), (0, .ref b), (1, .int kd), (2, .int x), (3, .int y), (4, .long z)]) hx hb dX0_add_49 hl (by decide) rfl (fun ls hl => ?_)
    refine lv_lload hx hb dX0_add_51 (lv_at hl 0 rfl) ?_
    refine lv_lload hx hb dX0_add_53 (lv_at hl 5 rfl) ?_
    refine rq_call1 (v := .long (dg (dg (dg (dg (cho cf n (n - 1)) kd.toInt64) x.toInt64) y.toInt64) z)) (rn_S (As := [.long (dg (dg (dg (cho cf n (n - 1)) kd.toInt64) x.toInt64) y.toInt64), .long z]) (rest := []) ⟨hx, hb, hml, hown, hts⟩ (c_X3_digested l D cA (dg (dg (dg (cho cf n (n - 1)) kd.toInt64) x.toInt64) y.toInt64) z) (va_cwS 2 hts gX0_add_X3_digested rfl rfl rfl (by decide +kernel) ⟨Nat.le_of_ble_eq_true rfl, Nat.le_of_ble_eq_true rfl⟩) hK hP [] rfl rfl hl.1 rfl (Nat.le_of_ble_eq_true rfl) dX0_add_55 ⟨Nat.le_of_ble_eq_true rfl, Nat.le_of_ble_eq_true rfl⟩) ?_
    refine lv_lstore (lv' := [(6, .long (dg (dg (dg (dg (cho cf n (n - 1)) kd.toInt64) x.toInt64) y.toInt64) z)), (0, .ref b), (1, .int kd), (2, .int x), (3, .int y), (4, .long z)]) hx hb dX0_add_58 hl (by decide) rfl (fun ls hl => ?_)
    refine lv_aload_n hx hb dX0_add_60 rfl (lv_at hl 1 rfl) ?_
    refine va_get (D := D) (ci := 0) (v := .ref ka) (C := RX0) (T := TX0) (N := 6) hx hb hts hin_X0 hown hK hP 0 rfl rfl 0 (by decide) (w_RX0_9) (fun _ h9 => h9) rfl dX0_add_61 ?_
    refine lv_aload_n hx hb dX0_add_64 rfl (lv_at hl 1 rfl) ?_
    refine va_get (D := D) (ci := 0) (v := .int n) (C := RX0) (T := TX0) (N := 6) hx hb hts hin_X0 hown hK hP 0 rfl rfl 5 (by decide) (w_RX0_28) (fun _ h9 => h9) rfl dX0_add_65 ?_
    refine lv_iload_n hx hb dX0_add_68 rfl (lv_at hl 2 rfl) ?_
    refine va_iast hx hb hK hP hD hS 1 0 rfl rfl (ad_in hn h6) dX0_add_69 (fun H locs hP hD hS => ?_)
    have hP : va_P D vwCl [(b, .inr (0, [.ref ka, .ref xa, .ref ya, .ref za, .ref ca, .int n])), (ka, .inl (cA 0, 600, .inl (upd kf n.toNatClampNeg kd))), (xa, .inl (cA 0, 600, .inl xf)), (ya, .inl (cA 0, 600, .inl yf)), (za, .inl (cA 2, 600, .inr (.inl zf))), (ca, .inl (cA 2, 600, .inr (.inl cf)))] H := hP
    have hD : va_D A [(b, .inr (0, [.ref ka, .ref xa, .ref ya, .ref za, .ref ca, .int n])), (ka, .inl (cA 0, 600, .inl (upd kf n.toNatClampNeg kd))), (xa, .inl (cA 0, 600, .inl xf)), (ya, .inl (cA 0, 600, .inl yf)), (za, .inl (cA 2, 600, .inr (.inl zf))), (ca, .inl (cA 2, 600, .inr (.inl cf)))] := hD
    refine lv_aload_n hx hb dX0_add_70 rfl (lv_at hl 1 rfl) ?_
    refine va_get (D := D) (ci := 0) (v := .ref xa) (C := RX0) (T := TX0) (N := 6) hx hb hts hin_X0 hown hK hP 0 rfl rfl 1 (by decide) (w_RX0_15) (fun _ h9 => h9) rfl dX0_add_71 ?_
    refine lv_aload_n hx hb dX0_add_74 rfl (lv_at hl 1 rfl) ?_
    refine va_get (D := D) (ci := 0) (v := .int n) (C := RX0) (T := TX0) (N := 6) hx hb hts hin_X0 hown hK hP 0 rfl rfl 5 (by decide) (w_RX0_28) (fun _ h9 => h9) rfl dX0_add_75 ?_
    refine lv_iload_n hx hb dX0_add_78 rfl (lv_at hl 3 rfl) ?_
    refine va_iast hx hb hK hP hD hS 2 0 rfl rfl (ad_in hn h6) dX0_add_79 (fun H locs hP hD hS => ?_)
    have hP : va_P D vwCl [(b, .inr (0, [.ref ka, .ref xa, .ref ya, .ref za, .ref ca, .int n])), (ka, .inl (cA 0, 600, .inl (upd kf n.toNatClampNeg kd))), (xa, .inl (cA 0, 600, .inl (upd xf n.toNatClampNeg x))), (ya, .inl (cA 0, 600, .inl yf)), (za, .inl (cA 2, 600, .inr (.inl zf))), (ca, .inl (cA 2, 600, .inr (.inl cf)))] H := hP
    have hD : va_D A [(b, .inr (0, [.ref ka, .ref xa, .ref ya, .ref za, .ref ca, .int n])), (ka, .inl (cA 0, 600, .inl (upd kf n.toNatClampNeg kd))), (xa, .inl (cA 0, 600, .inl (upd xf n.toNatClampNeg x))), (ya, .inl (cA 0, 600, .inl yf)), (za, .inl (cA 2, 600, .inr (.inl zf))), (ca, .inl (cA 2, 600, .inr (.inl cf)))] := hD
    refine lv_aload_n hx hb dX0_add_80 rfl (lv_at hl 1 rfl) ?_
    refine va_get (D := D) (ci := 0) (v := .ref ya) (C := RX0) (T := TX0) (N := 6) hx hb hts hin_X0 hown hK hP 0 rfl rfl 2 (by decide) (w_RX0_18) (fun _ h9 => h9) rfl dX0_add_81 ?_
    refine lv_aload_n hx hb dX0_add_84 rfl (lv_at hl 1 rfl) ?_
    refine va_get (D := D) (ci := 0) (v := .int n) (C := RX0) (T := TX0) (N := 6) hx hb hts hin_X0 hown hK hP 0 rfl rfl 5 (by decide) (w_RX0_28) (fun _ h9 => h9) rfl dX0_add_85 ?_
    refine lv_iload_n hx hb dX0_add_88 rfl (lv_at hl 4 rfl) ?_
    refine va_iast hx hb hK hP hD hS 3 0 rfl rfl (ad_in hn h6) dX0_add_89 (fun H locs hP hD hS => ?_)
    have hP : va_P D vwCl [(b, .inr (0, [.ref ka, .ref xa, .ref ya, .ref za, .ref ca, .int n])), (ka, .inl (cA 0, 600, .inl (upd kf n.toNatClampNeg kd))), (xa, .inl (cA 0, 600, .inl (upd xf n.toNatClampNeg x))), (ya, .inl (cA 0, 600, .inl (upd yf n.toNatClampNeg y))), (za, .inl (cA 2, 600, .inr (.inl zf))), (ca, .inl (cA 2, 600, .inr (.inl cf)))] H := hP
    have hD : va_D A [(b, .inr (0, [.ref ka, .ref xa, .ref ya, .ref za, .ref ca, .int n])), (ka, .inl (cA 0, 600, .inl (upd kf n.toNatClampNeg kd))), (xa, .inl (cA 0, 600, .inl (upd xf n.toNatClampNeg x))), (ya, .inl (cA 0, 600, .inl (upd yf n.toNatClampNeg y))), (za, .inl (cA 2, 600, .inr (.inl zf))), (ca, .inl (cA 2, 600, .inr (.inl cf)))] := hD
    refine lv_aload_n hx hb dX0_add_90 rfl (lv_at hl 1 rfl) ?_
    refine va_get (D := D) (ci := 0) (v := .ref za) (C := RX0) (T := TX0) (N := 6) hx hb hts hin_X0 hown hK hP 0 rfl rfl 3 (by decide) (w_RX0_21) (fun _ h9 => h9) rfl dX0_add_91 ?_
    refine lv_aload_n hx hb dX0_add_94 rfl (lv_at hl 1 rfl) ?_
    refine va_get (D := D) (ci := 0) (v := .int n) (C := RX0) (T := TX0) (N := 6) hx hb hts hin_X0 hown hK hP 0 rfl rfl 5 (by decide) (w_RX0_28) (fun _ h9 => h9) rfl dX0_add_95 ?_
    refine lv_lload hx hb dX0_add_98 (lv_at hl 5 rfl) ?_
    refine va_last hx hb hK hP hD hS 4 2 rfl rfl (ad_in hn h6) dX0_add_100 (fun H locs hP hD hS => ?_)
    have hP : va_P D vwCl [(b, .inr (0, [.ref ka, .ref xa, .ref ya, .ref za, .ref ca, .int n])), (ka, .inl (cA 0, 600, .inl (upd kf n.toNatClampNeg kd))), (xa, .inl (cA 0, 600, .inl (upd xf n.toNatClampNeg x))), (ya, .inl (cA 0, 600, .inl (upd yf n.toNatClampNeg y))), (za, .inl (cA 2, 600, .inr (.inl (vp_updL zf n.toNatClampNeg z)))), (ca, .inl (cA 2, 600, .inr (.inl cf)))] H := hP
    have hD : va_D A [(b, .inr (0, [.ref ka, .ref xa, .ref ya, .ref za, .ref ca, .int n])), (ka, .inl (cA 0, 600, .inl (upd kf n.toNatClampNeg kd))), (xa, .inl (cA 0, 600, .inl (upd xf n.toNatClampNeg x))), (ya, .inl (cA 0, 600, .inl (upd yf n.toNatClampNeg y))), (za, .inl (cA 2, 600, .inr (.inl (vp_updL zf n.toNatClampNeg z)))), (ca, .inl (cA 2, 600, .inr (.inl cf)))] := hD
    refine lv_aload_n hx hb dX0_add_101 rfl (lv_at hl 1 rfl) ?_
    refine va_get (D := D) (ci := 0) (v := .ref ca) (C := RX0) (T := TX0) (N := 6) hx hb hts hin_X0 hown hK hP 0 rfl rfl 4 (by decide) (w_RX0_25) (fun _ h9 => h9) rfl dX0_add_102 ?_
    refine lv_aload_n hx hb dX0_add_105 rfl (lv_at hl 1 rfl) ?_
    refine va_get (D := D) (ci := 0) (v := .int n) (C := RX0) (T := TX0) (N := 6) hx hb hts hin_X0 hown hK hP 0 rfl rfl 5 (by decide) (w_RX0_28) (fun _ h9 => h9) rfl dX0_add_106 ?_
    refine lv_lload hx hb dX0_add_109 (lv_at hl 0 rfl) ?_
    refine va_last hx hb hK hP hD hS 5 2 rfl rfl (ad_in hn h6) dX0_add_111 (fun H locs hP hD hS => ?_)
    have hP : va_P D vwCl [(b, .inr (0, [.ref ka, .ref xa, .ref ya, .ref za, .ref ca, .int n])), (ka, .inl (cA 0, 600, .inl (upd kf n.toNatClampNeg kd))), (xa, .inl (cA 0, 600, .inl (upd xf n.toNatClampNeg x))), (ya, .inl (cA 0, 600, .inl (upd yf n.toNatClampNeg y))), (za, .inl (cA 2, 600, .inr (.inl (vp_updL zf n.toNatClampNeg z)))), (ca, .inl (cA 2, 600, .inr (.inl (vp_updL cf n.toNatClampNeg (dg (dg (dg (dg (cho cf n (n - 1)) kd.toInt64) x.toInt64) y.toInt64) z)))))] H := hP
    have hD : va_D A [(b, .inr (0, [.ref ka, .ref xa, .ref ya, .ref za, .ref ca, .int n])), (ka, .inl (cA 0, 600, .inl (upd kf n.toNatClampNeg kd))), (xa, .inl (cA 0, 600, .inl (upd xf n.toNatClampNeg x))), (ya, .inl (cA 0, 600, .inl (upd yf n.toNatClampNeg y))), (za, .inl (cA 2, 600, .inr (.inl (vp_updL zf n.toNatClampNeg z)))), (ca, .inl (cA 2, 600, .inr (.inl (vp_updL cf n.toNatClampNeg (dg (dg (dg (dg (cho cf n (n - 1)) kd.toInt64) x.toInt64) y.toInt64) z)))))] := hD
    refine lv_aload_n hx hb dX0_add_112 rfl (lv_at hl 1 rfl) ?_
    refine lv_dup hx hb dX0_add_113 rfl ?_
    refine va_get (D := D) (ci := 0) (v := .int n) (C := RX0) (T := TX0) (N := 6) hx hb hts hin_X0 hown hK hP 0 rfl rfl 5 (by decide) (w_RX0_28) (fun _ h9 => h9) rfl dX0_add_114 ?_
    refine lv_iconst (v := 1) hx hb dX0_add_117 (by decide) ?_
    refine lv_iadd hx hb dX0_add_118 ?_
    refine va_put (D := D) (ci := 0) (v := .int (n + 1)) (ty := .int) (C := RX0) (T := TX0) (N := 6) hx hb hts hin_X0 tyX0 tyX0_ok nmX0 hown hK hP hD hS 0 rfl rfl 5 (by decide) (w_RX0_28) (fun _ h9 => h9) rfl (by decide +kernel) rfl rfl (Nat.le_of_ble_eq_true rfl) dX0_add_119 (fun H locs hP hD hS => ?_)
    have hP : va_P D vwCl [(b, .inr (0, [.ref ka, .ref xa, .ref ya, .ref za, .ref ca, .int (n + 1)])), (ka, .inl (cA 0, 600, .inl (upd kf n.toNatClampNeg kd))), (xa, .inl (cA 0, 600, .inl (upd xf n.toNatClampNeg x))), (ya, .inl (cA 0, 600, .inl (upd yf n.toNatClampNeg y))), (za, .inl (cA 2, 600, .inr (.inl (vp_updL zf n.toNatClampNeg z)))), (ca, .inl (cA 2, 600, .inr (.inl (vp_updL cf n.toNatClampNeg (dg (dg (dg (dg (cho cf n (n - 1)) kd.toInt64) x.toInt64) y.toInt64) z)))))] H := hP
    have hD : va_D A [(b, .inr (0, [.ref ka, .ref xa, .ref ya, .ref za, .ref ca, .int (n + 1)])), (ka, .inl (cA 0, 600, .inl (upd kf n.toNatClampNeg kd))), (xa, .inl (cA 0, 600, .inl (upd xf n.toNatClampNeg x))), (ya, .inl (cA 0, 600, .inl (upd yf n.toNatClampNeg y))), (za, .inl (cA 2, 600, .inr (.inl (vp_updL zf n.toNatClampNeg z)))), (ca, .inl (cA 2, 600, .inr (.inl (vp_updL cf n.toNatClampNeg (dg (dg (dg (dg (cho cf n (n - 1)) kd.toInt64) x.toInt64) y.toInt64) z)))))] := hD
    refine lv_lload hx hb dX0_add_122 (lv_at hl 0 rfl) ?_
    have hP9 : va_P D vwCl [(b, .inr (0, [.ref ka, .ref xa, .ref ya, .ref za, .ref ca, .int (n + 1)])), (ka, .inl (cA 0, 600, .inl (upd kf n.toNatClampNeg kd))), (xa, .inl (cA 0, 600, .inl (upd xf n.toNatClampNeg x))), (ya, .inl (cA 0, 600, .inl (upd yf n.toNatClampNeg y))), (za, .inl (cA 2, 600, .inr (.inl (vp_updL zf n.toNatClampNeg z)))), (ca, .inl (cA 2, 600, .inr (.inl (vp_updL cf n.toNatClampNeg (dg (dg (dg (dg (cho cf n (n - 1)) (kd.toInt64)) (x.toInt64)) (y.toInt64)) z)))))] H := hP
    exact W.lret (v := (dg (dg (dg (dg (cho cf n (n - 1)) kd.toInt64) x.toInt64) y.toInt64) z)) hx hb hr (fun t ht hW => ⟨congrArg (fun z => Outcome.returned (some (Value.long z))) (rfl), by rw [ht]; exact hP9, hS.F ht⟩) hS.2.2 dX0_add_124
  · exact absurd (ad_lt hn h6) c_7

set_option maxHeartbeats 4000000 in
set_option maxRecDepth 100000 in
theorem c_X0_init (l : Launch) (D : va_G) (cA : Nat → ClassId) (b : Nat) (sz : Nat) : Met l yX0_init wsX0_init ({ frames := 1, cells := 5, slots := 3000, locals := 20 }) (iPc vwCl D cA sz [(b, .inr (0, [.null, .null, .null, .null, .null, .int 0]))] [.ref b]) (va_Qv (fun _ : Nat → Nat => True) (fun (u : Nat → Nat) (t : State) => va_P D vwCl [(b, .inr (0, [.ref (u 0), .ref (u 1), .ref (u 2), .ref (u 3), .ref (u 4), .int 0])), ((u 0), .inl (cA 0, 600, .inl (fun _ => 0))), ((u 1), .inl (cA 0, 600, .inl (fun _ => 0))), ((u 2), .inl (cA 0, 600, .inl (fun _ => 0))), ((u 3), .inl (cA 2, 600, .inr (.inl (fun _ => 0)))), ((u 4), .inl (cA 2, 600, .inr (.inl (fun _ => 0))))] t.heap ∧ va_K D vwCl (tyS cA) t ∧ va_D (va_A [(b, .inr (0, [.null, .null, .null, .null, .null, .int 0]))] sz) [(b, .inr (0, [.ref (u 0), .ref (u 1), .ref (u 2), .ref (u 3), .ref (u 4), .int 0])), ((u 0), .inl (cA 0, 600, .inl (fun _ => 0))), ((u 1), .inl (cA 0, 600, .inl (fun _ => 0))), ((u 2), .inl (cA 0, 600, .inl (fun _ => 0))), ((u 3), .inl (cA 2, 600, .inr (.inl (fun _ => 0)))), ((u 4), .inl (cA 2, 600, .inr (.inl (fun _ => 0))))]) (va_A [(b, .inr (0, [.null, .null, .null, .null, .null, .int 0]))] sz)) 5 3000 (va_A [(b, .inr (0, [.null, .null, .null, .null, .null, .int 0]))] sz) := by
  refine Met.ofW (cc := cX0_init) (maxL := 1) (ret := none) (by decide) rfl ?_
  intro p e s m args below meth c s₁ B hml hv
  obtain ⟨rfl, hsz, hP, hK, hD0, hX⟩ := hv
  have hx := B.exec
  have hb := B.bytes
  have hr := B.returns
  have hts := atoms_spec (ws := wsX0_init) B.pre
  have hown : s.vm.findClass RX0 = some m.cls := findClass_of_methodNamed B.named
  have hlocks := B.notSynchronized
  have hin : meth.name = "<init>" := (name_of_methodNamed B.named B.method).1
  have hin_X0 : ∀ w ∈ wsX00, w ∈ wsX0_init := fun w h => List.mem_cons_of_mem _ (List.mem_append_right _ h)
  have w_RX0_9 := hts (.fieldLink RX0 9 "MixElection$Board" "kinds" "[I") (by decide +kernel)
  have w_RX0_15 := hts (.fieldLink RX0 15 "MixElection$Board" "xs" "[I") (by decide +kernel)
  have w_RX0_18 := hts (.fieldLink RX0 18 "MixElection$Board" "ys" "[I") (by decide +kernel)
  have w_RX0_21 := hts (.fieldLink RX0 21 "MixElection$Board" "zs" "[J") (by decide +kernel)
  have w_RX0_25 := hts (.fieldLink RX0 25 "MixElection$Board" "chains" "[J") (by decide +kernel)
  subst hsz
  have hD := hD0.self (sz := s.heap.size)
  generalize hAe : va_A [(b, .inr (0, [.null, .null, .null, .null, .null, .int 0]))] s.heap.size = A at hD ⊢
  have hA : ∀ q : Nat, s.heap.size ≤ q → A q := fun q h => by rw [← hAe]; exact Or.inr h
  have hS : va_S A s.heap s.heap [] := va_S.rf
  have hP : va_P D vwCl [(b, .inr (0, [.null, .null, .null, .null, .null, .int 0]))] s.heap := hP
  have hl := lv_entry ([.ref b]) (n := 1) (Nat.le_of_ble_eq_true rfl)
  rw [lg_entry_eq]
  generalize (lg_sl ([.ref b]) ++ List.replicate (1 - (lg_sl ([.ref b])).length) Slot.unset).toArray = ls at hl ⊢
  have hl : lv_has ls 1 [(0, .ref b)] := hl
  refine lv_aload_n hx hb dX0_init_0 rfl (lv_at hl 0 rfl) ?_
  refine W.objInit hx hb hown (hts (.methodLink RX0 3 objectInit) (by decide +kernel)) (hts (.instanceMethod objectInit) (by decide +kernel)) (hts (.code objectInit ⟨#[0xb1]⟩ 1 none) (by decide +kernel)) rfl (by rw [hml]; exact hl.1) rfl dX0_init_1 (Nat.le_of_ble_eq_true rfl) (Nat.le_of_ble_eq_true rfl) ?_
  refine W.eq (g2 := F0 m 4 ls []) rfl ?_
  refine lv_aload_n hx hb dX0_init_4 rfl (lv_at hl 0 rfl) ?_
  refine lv_sipush (v := 600) hx hb dX0_init_5 (by decide) ?_
  refine ka_newa (atype := .int) (ty := .int) (N' := 600) (n := 600) (a0 := (600, .inl (fun _ => 0))) hx hb (hts (.arrayClass .int) (by decide +kernel)) rfl hK hP hD hS hA 0 rfl (fun _ => rfl) (by decide) rfl (by decide) (Nat.le_of_ble_eq_true rfl) (Nat.le_of_ble_eq_true rfl) dX0_init_8 (fun q8 H hP hD hS => ?_)
  refine W.widen (k := 1) (n := 600) (by omega) (by omega) ?_
  have hP : va_P D vwCl [(b, .inr (0, [.null, .null, .null, .null, .null, .int 0])), (q8, .inl (cA 0, 600, .inl (fun _ => 0)))] H := hP
  have hD : va_D A [(b, .inr (0, [.null, .null, .null, .null, .null, .int 0])), (q8, .inl (cA 0, 600, .inl (fun _ => 0)))] := hD
  refine va_putF (D := D) (ci := 0) (v := .ref q8) (ty := (.array .int)) (C := RX0) (T := TX0) (N := 6) hx hb hts hin_X0 tyX0 tyX0_ok nmX0 hown hK hP hD hS 0 rfl rfl 0 (by decide) (w_RX0_9) (fun _ h9 => h9) rfl hin rfl (by decide +kernel) rfl rfl (Nat.le_of_ble_eq_true rfl) dX0_init_10 (fun H locs hP hD hS => ?_)
  have hP : va_P D vwCl [(b, .inr (0, [.ref q8, .null, .null, .null, .null, .int 0])), (q8, .inl (cA 0, 600, .inl (fun _ => 0)))] H := hP
  have hD : va_D A [(b, .inr (0, [.ref q8, .null, .null, .null, .null, .int 0])), (q8, .inl (cA 0, 600, .inl (fun _ => 0)))] := hD
  refine lv_aload_n hx hb dX0_init_13 rfl (lv_at hl 0 rfl) ?_
  refine lv_sipush (v := 600) hx hb dX0_init_14 (by decide) ?_
  refine ka_newa (atype := .int) (ty := .int) (N' := 600) (n := 600) (a0 := (600, .inl (fun _ => 0))) hx hb (hts (.arrayClass .int) (by decide +kernel)) rfl hK hP hD hS hA 0 rfl (fun _ => rfl) (by decide) rfl (by decide) (Nat.le_of_ble_eq_true rfl) (Nat.le_of_ble_eq_true rfl) dX0_init_17 (fun q17 H hP hD hS => ?_)
  refine W.widen (k := 2) (n := 1200) (by omega) (by omega) ?_
  have hP : va_P D vwCl [(b, .inr (0, [.ref q8, .null, .null, .null, .null, .int 0])), (q8, .inl (cA 0, 600, .inl (fun _ => 0))), (q17, .inl (cA 0, 600, .inl (fun _ => 0)))] H := hP
  have hD : va_D A [(b, .inr (0, [.ref q8, .null, .null, .null, .null, .int 0])), (q8, .inl (cA 0, 600, .inl (fun _ => 0))), (q17, .inl (cA 0, 600, .inl (fun _ => 0)))] := hD
  refine va_putF (D := D) (ci := 0) (v := .ref q17) (ty := (.array .int)) (C := RX0) (T := TX0) (N := 6) hx hb hts hin_X0 tyX0 tyX0_ok nmX0 hown hK hP hD hS 0 rfl rfl 1 (by decide) (w_RX0_15) (fun _ h9 => h9) rfl hin rfl (by decide +kernel) rfl rfl (Nat.le_of_ble_eq_true rfl) dX0_init_19 (fun H locs hP hD hS => ?_)
  have hP : va_P D vwCl [(b, .inr (0, [.ref q8, .ref q17, .null, .null, .null, .int 0])), (q8, .inl (cA 0, 600, .inl (fun _ => 0))), (q17, .inl (cA 0, 600, .inl (fun _ => 0)))] H := hP
  have hD : va_D A [(b, .inr (0, [.ref q8, .ref q17, .null, .null, .null, .int 0])), (q8, .inl (cA 0, 600, .inl (fun _ => 0))), (q17, .inl (cA 0, 600, .inl (fun _ => 0)))] := hD
  refine lv_aload_n hx hb dX0_init_22 rfl (lv_at hl 0 rfl) ?_
  refine lv_sipush (v := 600) hx hb dX0_init_23 (by decide) ?_
  refine ka_newa (atype := .int) (ty := .int) (N' := 600) (n := 600) (a0 := (600, .inl (fun _ => 0))) hx hb (hts (.arrayClass .int) (by decide +kernel)) rfl hK hP hD hS hA 0 rfl (fun _ => rfl) (by decide) rfl (by decide) (Nat.le_of_ble_eq_true rfl) (Nat.le_of_ble_eq_true rfl) dX0_init_26 (fun q26 H hP hD hS => ?_)
  refine W.widen (k := 3) (n := 1800) (by omega) (by omega) ?_
  have hP : va_P D vwCl [(b, .inr (0, [.ref q8, .ref q17, .null, .null, .null, .int 0])), (q8, .inl (cA 0, 600, .inl (fun _ => 0))), (q17, .inl (cA 0, 600, .inl (fun _ => 0))), (q26, .inl (cA 0, 600, .inl (fun _ => 0)))] H := hP
  have hD : va_D A [(b, .inr (0, [.ref q8, .ref q17, .null, .null, .null, .int 0])), (q8, .inl (cA 0, 600, .inl (fun _ => 0))), (q17, .inl (cA 0, 600, .inl (fun _ => 0))), (q26, .inl (cA 0, 600, .inl (fun _ => 0)))] := hD
  refine va_putF (D := D) (ci := 0) (v := .ref q26) (ty := (.array .int)) (C := RX0) (T := TX0) (N := 6) hx hb hts hin_X0 tyX0 tyX0_ok nmX0 hown hK hP hD hS 0 rfl rfl 2 (by decide) (w_RX0_18) (fun _ h9 => h9) rfl hin rfl (by decide +kernel) rfl rfl (Nat.le_of_ble_eq_true rfl) dX0_init_28 (fun H locs hP hD hS => ?_)
  have hP : va_P D vwCl [(b, .inr (0, [.ref q8, .ref q17, .ref q26, .null, .null, .int 0])), (q8, .inl (cA 0, 600, .inl (fun _ => 0))), (q17, .inl (cA 0, 600, .inl (fun _ => 0))), (q26, .inl (cA 0, 600, .inl (fun _ => 0)))] H := hP
  have hD : va_D A [(b, .inr (0, [.ref q8, .ref q17, .ref q26, .null, .null, .int 0])), (q8, .inl (cA 0, 600, .inl (fun _ => 0))), (q17, .inl (cA 0, 600, .inl (fun _ => 0))), (q26, .inl (cA 0, 600, .inl (fun _ => 0)))] := hD
  refine lv_aload_n hx hb dX0_init_31 rfl (lv_at hl 0 rfl) ?_
  refine lv_sipush (v := 600) hx hb dX0_init_32 (by decide) ?_
  refine ka_newa (atype := .long) (ty := .long) (N' := 600) (n := 600) (a0 := (600, .inr (.inl (fun _ => 0)))) hx hb (hts (.arrayClass .long) (by decide +kernel)) rfl hK hP hD hS hA 2 rfl (fun _ => rfl) (by decide) rfl (by decide) (Nat.le_of_ble_eq_true rfl) (Nat.le_of_ble_eq_true rfl) dX0_init_35 (fun q35 H hP hD hS => ?_)
  refine W.widen (k := 4) (n := 2400) (by omega) (by omega) ?_
  have hP : va_P D vwCl [(b, .inr (0, [.ref q8, .ref q17, .ref q26, .null, .null, .int 0])), (q8, .inl (cA 0, 600, .inl (fun _ => 0))), (q17, .inl (cA 0, 600, .inl (fun _ => 0))), (q26, .inl (cA 0, 600, .inl (fun _ => 0))), (q35, .inl (cA 2, 600, .inr (.inl (fun _ => 0))))] H := hP
  have hD : va_D A [(b, .inr (0, [.ref q8, .ref q17, .ref q26, .null, .null, .int 0])), (q8, .inl (cA 0, 600, .inl (fun _ => 0))), (q17, .inl (cA 0, 600, .inl (fun _ => 0))), (q26, .inl (cA 0, 600, .inl (fun _ => 0))), (q35, .inl (cA 2, 600, .inr (.inl (fun _ => 0))))] := hD
  refine va_putF (D := D) (ci := 0) (v := .ref q35) (ty := (.array .long)) (C := RX0) (T := TX0) (N := 6) hx hb hts hin_X0 tyX0 tyX0_ok nmX0 hown hK hP hD hS 0 rfl rfl 3 (by decide) (w_RX0_21) (fun _ h9 => h9) rfl hin rfl (by decide +kernel) rfl rfl (Nat.le_of_ble_eq_true rfl) dX0_init_37 (fun H locs hP hD hS => ?_)
  have hP : va_P D vwCl [(b, .inr (0, [.ref q8, .ref q17, .ref q26, .ref q35, .null, .int 0])), (q8, .inl (cA 0, 600, .inl (fun _ => 0))), (q17, .inl (cA 0, 600, .inl (fun _ => 0))), (q26, .inl (cA 0, 600, .inl (fun _ => 0))), (q35, .inl (cA 2, 600, .inr (.inl (fun _ => 0))))] H := hP
  have hD : va_D A [(b, .inr (0, [.ref q8, .ref q17, .ref q26, .ref q35, .null, .int 0])), (q8, .inl (cA 0, 600, .inl (fun _ => 0))), (q17, .inl (cA 0, 600, .inl (fun _ => 0))), (q26, .inl (cA 0, 600, .inl (fun _ => 0))), (q35, .inl (cA 2, 600, .inr (.inl (fun _ => 0))))] := hD
  refine lv_aload_n hx hb dX0_init_40 rfl (lv_at hl 0 rfl) ?_
  refine lv_sipush (v := 600) hx hb dX0_init_41 (by decide) ?_
  refine ka_newa (atype := .long) (ty := .long) (N' := 600) (n := 600) (a0 := (600, .inr (.inl (fun _ => 0)))) hx hb (hts (.arrayClass .long) (by decide +kernel)) rfl hK hP hD hS hA 2 rfl (fun _ => rfl) (by decide) rfl (by decide) (Nat.le_of_ble_eq_true rfl) (Nat.le_of_ble_eq_true rfl) dX0_init_44 (fun q44 H hP hD hS => ?_)
  refine W.widen (k := 5) (n := 3000) (by omega) (by omega) ?_
  have hP : va_P D vwCl [(b, .inr (0, [.ref q8, .ref q17, .ref q26, .ref q35, .null, .int 0])), (q8, .inl (cA 0, 600, .inl (fun _ => 0))), (q17, .inl (cA 0, 600, .inl (fun _ => 0))), (q26, .inl (cA 0, 600, .inl (fun _ => 0))), (q35, .inl (cA 2, 600, .inr (.inl (fun _ => 0)))), (q44, .inl (cA 2, 600, .inr (.inl (fun _ => 0))))] H := hP
  have hD : va_D A [(b, .inr (0, [.ref q8, .ref q17, .ref q26, .ref q35, .null, .int 0])), (q8, .inl (cA 0, 600, .inl (fun _ => 0))), (q17, .inl (cA 0, 600, .inl (fun _ => 0))), (q26, .inl (cA 0, 600, .inl (fun _ => 0))), (q35, .inl (cA 2, 600, .inr (.inl (fun _ => 0)))), (q44, .inl (cA 2, 600, .inr (.inl (fun _ => 0))))] := hD
  refine va_putF (D := D) (ci := 0) (v := .ref q44) (ty := (.array .long)) (C := RX0) (T := TX0) (N := 6) hx hb hts hin_X0 tyX0 tyX0_ok nmX0 hown hK hP hD hS 0 rfl rfl 4 (by decide) (w_RX0_25) (fun _ h9 => h9) rfl hin rfl (by decide +kernel) rfl rfl (Nat.le_of_ble_eq_true rfl) dX0_init_46 (fun H locs hP hD hS => ?_)
  have hP : va_P D vwCl [(b, .inr (0, [.ref q8, .ref q17, .ref q26, .ref q35, .ref q44, .int 0])), (q8, .inl (cA 0, 600, .inl (fun _ => 0))), (q17, .inl (cA 0, 600, .inl (fun _ => 0))), (q26, .inl (cA 0, 600, .inl (fun _ => 0))), (q35, .inl (cA 2, 600, .inr (.inl (fun _ => 0)))), (q44, .inl (cA 2, 600, .inr (.inl (fun _ => 0))))] H := hP
  have hD : va_D A [(b, .inr (0, [.ref q8, .ref q17, .ref q26, .ref q35, .ref q44, .int 0])), (q8, .inl (cA 0, 600, .inl (fun _ => 0))), (q17, .inl (cA 0, 600, .inl (fun _ => 0))), (q26, .inl (cA 0, 600, .inl (fun _ => 0))), (q35, .inl (cA 2, 600, .inr (.inl (fun _ => 0)))), (q44, .inl (cA 2, 600, .inr (.inl (fun _ => 0))))] := hD
  refine W.widen (k := 5) (n := 3000) (by omega) (by omega) ?_
  have hP9 := hP.sub (ws' := [(b, .inr (0, [.ref q8, .ref q17, .ref q26, .ref q35, .ref q44, .int 0])), (q8, .inl (cA 0, 600, .inl (fun _ => 0))), (q17, .inl (cA 0, 600, .inl (fun _ => 0))), (q26, .inl (cA 0, 600, .inl (fun _ => 0))), (q35, .inl (cA 2, 600, .inr (.inl (fun _ => 0)))), (q44, .inl (cA 2, 600, .inr (.inl (fun _ => 0))))]) [0, 1, 2, 3, 4, 5] rfl
  have hD9 := hD.sub (ws' := [(b, .inr (0, [.ref q8, .ref q17, .ref q26, .ref q35, .ref q44, .int 0])), (q8, .inl (cA 0, 600, .inl (fun _ => 0))), (q17, .inl (cA 0, 600, .inl (fun _ => 0))), (q26, .inl (cA 0, 600, .inl (fun _ => 0))), (q35, .inl (cA 2, 600, .inr (.inl (fun _ => 0)))), (q44, .inl (cA 2, 600, .inr (.inl (fun _ => 0))))]) [0, 1, 2, 3, 4, 5] (by decide) rfl
  exact W.vret hx hb hr (fun t ht hW => ⟨⟨(fun i => [q8, q17, q26, q35, q44].getD i 0), rfl, trivial, by rw [ht]; exact hP9, va_K.moved hW.alike hK, hD9⟩, hS.F ht⟩) hS.2.2 dX0_init_49
