set_option maxRecDepth 20000 in
theorem ggX5_init_X2_init : GoodIn wsX5_init wsX2_init := goodIn_r _ [14, 15, 2, 3, 16, 17, 18, 19, 20, 21, 6, 22, 23, 24, 25, 26, 38, 39] (by decide +kernel) (by decide +kernel)
set_option maxRecDepth 20000 in
theorem gX5_init_X2_init : GoodIn wsX5_init (wsX2_init) := ggX5_init_X2_init
set_option maxRecDepth 20000 in
theorem ggX5_init_X4_init : GoodIn wsX5_init wsX4_init := goodIn_r _ [29, 30, 2, 3, 16, 31, 32, 33, 34, 35, 10, 36, 37, 24, 25, 26, 42, 43] (by decide +kernel) (by decide +kernel)
set_option maxRecDepth 20000 in
theorem gX5_init_X4_init : GoodIn wsX5_init (wsX4_init) := ggX5_init_X4_init
theorem dX5_init_0 : decode cX5_init 0 = .ok (.aload_n 0, 1) := by decide +kernel
theorem dX5_init_1 : decode cX5_init 1 = .ok (.invokespecial 3, 3) := by decide +kernel
theorem dX5_init_4 : decode cX5_init 4 = .ok (.aload_n 0, 1) := by decide +kernel
theorem dX5_init_5 : decode cX5_init 5 = .ok (.new 9, 3) := by decide +kernel
theorem dX5_init_8 : decode cX5_init 8 = .ok (.dup, 1) := by decide +kernel
theorem dX5_init_9 : decode cX5_init 9 = .ok (.invokespecial 11, 3) := by decide +kernel
theorem dX5_init_12 : decode cX5_init 12 = .ok (.putfield 12, 3) := by decide +kernel
theorem dX5_init_15 : decode cX5_init 15 = .ok (.aload_n 0, 1) := by decide +kernel
theorem dX5_init_16 : decode cX5_init 16 = .ok (.new 18, 3) := by decide +kernel
theorem dX5_init_19 : decode cX5_init 19 = .ok (.dup, 1) := by decide +kernel
theorem dX5_init_20 : decode cX5_init 20 = .ok (.invokespecial 20, 3) := by decide +kernel
theorem dX5_init_23 : decode cX5_init 23 = .ok (.putfield 21, 3) := by decide +kernel
theorem dX5_init_26 : decode cX5_init 26 = .ok (.return_, 1) := by decide +kernel
set_option maxRecDepth 20000 in
theorem ggX6_init_X1_order : GoodIn wsX6_init wsX1_order := goodIn_r _ [22, 23, 40, 41, 42] (by decide +kernel) (by decide +kernel)
set_option maxRecDepth 20000 in
theorem gX6_init_X1_order : GoodIn wsX6_init (wsV RX6 15 RX1 yX1_order wsX1_order) := goodIn_app (goodIn_of _ (by decide +kernel)) ggX6_init_X1_order
set_option maxRecDepth 20000 in
theorem ggX6_init_X3_within : GoodIn wsX6_init wsX3_within := goodIn_r _ [27, 28, 6, 7, 8, 29, 30, 31] (by decide +kernel) (by decide +kernel)
set_option maxRecDepth 20000 in
theorem gX6_init_X3_within : GoodIn wsX6_init (va_wsS RX6 27 yX3_within wsX3_within) := goodIn_app (goodIn_of _ (by decide +kernel)) ggX6_init_X3_within
theorem dX6_init_0 : decode cX6_init 0 = .ok (.aload_n 0, 1) := by decide +kernel
theorem dX6_init_1 : decode cX6_init 1 = .ok (.invokespecial 3, 3) := by decide +kernel
theorem dX6_init_4 : decode cX6_init 4 = .ok (.aload_n 0, 1) := by decide +kernel
theorem dX6_init_5 : decode cX6_init 5 = .ok (.aload_n 1, 1) := by decide +kernel
theorem dX6_init_6 : decode cX6_init 6 = .ok (.putfield 9, 3) := by decide +kernel
theorem dX6_init_9 : decode cX6_init 9 = .ok (.aload_n 0, 1) := by decide +kernel
theorem dX6_init_10 : decode cX6_init 10 = .ok (.iload_n 2, 1) := by decide +kernel
theorem dX6_init_11 : decode cX6_init 11 = .ok (.iconst 1, 1) := by decide +kernel
theorem dX6_init_12 : decode cX6_init 12 = .ok (.iconst 5, 1) := by decide +kernel
theorem dX6_init_13 : decode cX6_init 13 = .ok (.aload_n 1, 1) := by decide +kernel
theorem dX6_init_14 : decode cX6_init 14 = .ok (.invokevirtual 15, 3) := by decide +kernel
theorem dX6_init_17 : decode cX6_init 17 = .ok (.iconst 1, 1) := by decide +kernel
theorem dX6_init_18 : decode cX6_init 18 = .ok (.isub, 1) := by decide +kernel
theorem dX6_init_19 : decode cX6_init 19 = .ok (.invokestatic 21, 3) := by decide +kernel
theorem dX6_init_22 : decode cX6_init 22 = .ok (.invokestatic 27, 3) := by decide +kernel
theorem dX6_init_25 : decode cX6_init 25 = .ok (.putfield 33, 3) := by decide +kernel
theorem dX6_init_28 : decode cX6_init 28 = .ok (.aload_n 0, 1) := by decide +kernel
theorem dX6_init_29 : decode cX6_init 29 = .ok (.iload_n 3, 1) := by decide +kernel
theorem dX6_init_30 : decode cX6_init 30 = .ok (.iconst 1, 1) := by decide +kernel
theorem dX6_init_31 : decode cX6_init 31 = .ok (.aload_n 0, 1) := by decide +kernel
theorem dX6_init_32 : decode cX6_init 32 = .ok (.getfield 33, 3) := by decide +kernel
theorem dX6_init_35 : decode cX6_init 35 = .ok (.invokestatic 27, 3) := by decide +kernel
theorem dX6_init_38 : decode cX6_init 38 = .ok (.putfield 37, 3) := by decide +kernel
theorem dX6_init_41 : decode cX6_init 41 = .ok (.aload_n 0, 1) := by decide +kernel
theorem dX6_init_42 : decode cX6_init 42 = .ok (.aload_n 0, 1) := by decide +kernel
theorem dX6_init_43 : decode cX6_init 43 = .ok (.getfield 37, 3) := by decide +kernel
theorem dX6_init_46 : decode cX6_init 46 = .ok (.newarray .int, 2) := by decide +kernel
theorem dX6_init_48 : decode cX6_init 48 = .ok (.putfield 40, 3) := by decide +kernel
theorem dX6_init_51 : decode cX6_init 51 = .ok (.aload_n 0, 1) := by decide +kernel
theorem dX6_init_52 : decode cX6_init 52 = .ok (.getfield 40, 3) := by decide +kernel
theorem dX6_init_55 : decode cX6_init 55 = .ok (.iconst 0, 1) := by decide +kernel
theorem dX6_init_56 : decode cX6_init 56 = .ok (.iconst 1, 1) := by decide +kernel
theorem dX6_init_57 : decode cX6_init 57 = .ok (.iastore, 1) := by decide +kernel
theorem dX6_init_58 : decode cX6_init 58 = .ok (.aload_n 0, 1) := by decide +kernel
theorem dX6_init_59 : decode cX6_init 59 = .ok (.aload_n 0, 1) := by decide +kernel
theorem dX6_init_60 : decode cX6_init 60 = .ok (.getfield 33, 3) := by decide +kernel
theorem dX6_init_63 : decode cX6_init 63 = .ok (.iconst 1, 1) := by decide +kernel
theorem dX6_init_64 : decode cX6_init 64 = .ok (.iadd, 1) := by decide +kernel
theorem dX6_init_65 : decode cX6_init 65 = .ok (.newarray .boolean, 2) := by decide +kernel
theorem dX6_init_67 : decode cX6_init 67 = .ok (.putfield 44, 3) := by decide +kernel
theorem dX6_init_70 : decode cX6_init 70 = .ok (.aload_n 0, 1) := by decide +kernel
theorem dX6_init_71 : decode cX6_init 71 = .ok (.aload_n 0, 1) := by decide +kernel
theorem dX6_init_72 : decode cX6_init 72 = .ok (.getfield 33, 3) := by decide +kernel
theorem dX6_init_75 : decode cX6_init 75 = .ok (.iconst 1, 1) := by decide +kernel
theorem dX6_init_76 : decode cX6_init 76 = .ok (.iadd, 1) := by decide +kernel
theorem dX6_init_77 : decode cX6_init 77 = .ok (.bipush 40, 2) := by decide +kernel
theorem dX6_init_79 : decode cX6_init 79 = .ok (.multianewarray 48 2, 4) := by decide +kernel
theorem dX6_init_83 : decode cX6_init 83 = .ok (.putfield 50, 3) := by decide +kernel
theorem dX6_init_86 : decode cX6_init 86 = .ok (.aload_n 0, 1) := by decide +kernel
theorem dX6_init_87 : decode cX6_init 87 = .ok (.aload_n 0, 1) := by decide +kernel
theorem dX6_init_88 : decode cX6_init 88 = .ok (.getfield 33, 3) := by decide +kernel
theorem dX6_init_91 : decode cX6_init 91 = .ok (.iconst 1, 1) := by decide +kernel
theorem dX6_init_92 : decode cX6_init 92 = .ok (.iadd, 1) := by decide +kernel
theorem dX6_init_93 : decode cX6_init 93 = .ok (.newarray .int, 2) := by decide +kernel
theorem dX6_init_95 : decode cX6_init 95 = .ok (.putfield 53, 3) := by decide +kernel
theorem dX6_init_98 : decode cX6_init 98 = .ok (.return_, 1) := by decide +kernel
theorem sp_val {r : Int32} {n0 p0 : Nat} (h : ∃ k : Nat, k ≤ 999959 ∧ r = nI k ∧ sp_least n0 k) (hp : sp_least n0 p0) : r = nI p0 := by
  obtain ⟨k, _, h1, h2⟩ := h
  rw [h1, sp_uniq h2 hp]
theorem gq_half {p0 q0 : Nat} (hq : p0 = 2 * q0 + 1) (hp9 : p0 ≤ 999959) : (nI p0 - 1) / 2 = nI q0 := by
  rw [show (nI p0 - 1 : Int32) = nI (p0 - 1) from pk_sub (a := p0) (b := 1) (by omega), show (nI (p0 - 1) / 2 : Int32) = nI ((p0 - 1) / 2) from pk_div (a := p0 - 1) (d := 2) (by omega) (by omega) (by omega)]
  congr 1
  omega
set_option maxHeartbeats 4000000 in
set_option maxRecDepth 100000 in
theorem c_X5_new (l : Launch) (D : va_G) (cA : Nat → ClassId) (h0 : Nat) (sz : Nat) : Met l yX5_init wsX5_init ({ frames := 3, cells := 6, slots := 164, locals := 63 }) (iPc vwCl D cA sz [(h0, .inr (4, [.null, .null]))] [.ref h0]) (va_Qv (fun _ : Nat → Nat => True) (fun (u : Nat → Nat) (t : State) => va_P D vwCl [(h0, .inr (4, [.ref (u 0), .ref (u 1)])), ((u 0), .inr (2, [.ref (u 2), .ref (u 3)])), ((u 2), .inl (cA 0, 40, .inl (fun _ => -1))), ((u 3), .inl (cA 0, 40, .inl (fun _ => -1))), ((u 1), .inr (3, [.ref (u 4), .ref (u 5)])), ((u 4), .inl (cA 0, 40, .inl (fun _ => -1))), ((u 5), .inl (cA 0, 40, .inl (fun _ => -1)))] t.heap ∧ va_K D vwCl (tyS cA) t ∧ va_D (va_A [(h0, .inr (4, [.null, .null]))] sz) [(h0, .inr (4, [.ref (u 0), .ref (u 1)])), ((u 0), .inr (2, [.ref (u 2), .ref (u 3)])), ((u 2), .inl (cA 0, 40, .inl (fun _ => -1))), ((u 3), .inl (cA 0, 40, .inl (fun _ => -1))), ((u 1), .inr (3, [.ref (u 4), .ref (u 5)])), ((u 4), .inl (cA 0, 40, .inl (fun _ => -1))), ((u 5), .inl (cA 0, 40, .inl (fun _ => -1)))]) (va_A [(h0, .inr (4, [.null, .null]))] sz)) 6 164 (va_A [(h0, .inr (4, [.null, .null]))] sz) := by
  refine Met.ofW (cc := cX5_init) (maxL := 1) (ret := none) (by decide) rfl ?_
  intro p e s m args below meth c s₁ B hml hv
  obtain ⟨rfl, hsz, hP, hK, hD0, hX⟩ := hv
  have hx := B.exec
  have hb := B.bytes
  have hr := B.returns
  have hts := atoms_spec (ws := wsX5_init) B.pre
  have hown : s.vm.findClass RX5 = some m.cls := findClass_of_methodNamed B.named
  have hlocks := B.notSynchronized
  have hin : meth.name = "<init>" := (name_of_methodNamed B.named B.method).1
  have hin_X2 : ∀ w ∈ wsX20, w ∈ wsX5_init := fun w h => List.mem_cons_of_mem _ (List.mem_append_left _ (List.mem_append_left _ (List.mem_append_right _ h)))
  have hin_X5 : ∀ w ∈ wsX50, w ∈ wsX5_init := fun w h => List.mem_cons_of_mem _ (List.mem_append_left _ (List.mem_append_right _ h))
  have hin_X4 : ∀ w ∈ wsX40, w ∈ wsX5_init := fun w h => List.mem_cons_of_mem _ (List.mem_append_right _ h)
  have w_RX5_12 := hts (.fieldLink RX5 12 "MixElection$Staging" "moves" "LMixElection$Moves;") (by decide +kernel)
  have w_RX5_21 := hts (.fieldLink RX5 21 "MixElection$Staging" "forged" "LMixElection$Pairs;") (by decide +kernel)
  subst hsz
  have hD := hD0.self (sz := s.heap.size)
  generalize hAe : va_A [(h0, .inr (4, [.null, .null]))] s.heap.size = A at hD ⊢
  have hA : ∀ q : Nat, s.heap.size ≤ q → A q := fun q h => by rw [← hAe]; exact Or.inr h
  have hS : va_S A s.heap s.heap [] := va_S.rf
  have hP : va_P D vwCl [(h0, .inr (4, [.null, .null]))] s.heap := hP
  have hl := lv_entry ([.ref h0]) (n := 1) (Nat.le_of_ble_eq_true rfl)
  rw [lg_entry_eq]
  generalize (lg_sl ([.ref h0]) ++ List.replicate (1 - (lg_sl ([.ref h0])).length) Slot.unset).toArray = ls at hl ⊢
  have hl : lv_has ls 1 [(0, .ref h0)] := hl
  refine lv_aload_n hx hb dX5_init_0 rfl (lv_at hl 0 rfl) ?_
  refine W.objInit hx hb hown (hts (.methodLink RX5 3 objectInit) (by decide +kernel)) (hts (.instanceMethod objectInit) (by decide +kernel)) (hts (.code objectInit ⟨#[0xb1]⟩ 1 none) (by decide +kernel)) rfl (by rw [hml]; exact hl.1) rfl dX5_init_1 (Nat.le_of_ble_eq_true rfl) (Nat.le_of_ble_eq_true rfl) ?_
  refine W.eq (g2 := F0 m 4 ls []) rfl ?_
  refine lv_aload_n hx hb dX5_init_4 rfl (lv_at hl 0 rfl) ?_
  refine va_new (ci := 2) (fs := [.null, .null]) (C := RX2) (T := TX2) (N := 2) hx hb hts hin_X2 tyX2 tyX2_ok hown (hts (.classLink RX5 9 RX2) (by decide +kernel)) (hts (.instantiable RX2 2) (by decide +kernel)) (hts (.initialized RX2) (by decide +kernel)) hK hP hD hS hA rfl (fun j hj => by rcases (show j = 0 ∨ j = 1 by omega) with rfl | rfl <;> rfl) (Nat.le_of_ble_eq_true rfl) (Nat.le_of_ble_eq_true rfl) dX5_init_5 (fun q5 H hP hD hS => ?_)
  refine W.widen (k := 1) (n := 2) (by omega) (by omega) ?_
  have hP : va_P D vwCl [(h0, .inr (4, [.null, .null])), (q5, .inr (2, [.null, .null]))] H := hP
  have hD : va_D A [(h0, .inr (4, [.null, .null])), (q5, .inr (2, [.null, .null]))] := hD
  refine lv_dup hx hb dX5_init_8 rfl ?_
  have hPc := hP.sub (ws' := [(q5, .inr (2, [.null, .null]))]) [1] rfl
  have hDc := hD.sub (ws' := [(q5, .inr (2, [.null, .null]))]) [1] (by decide) rfl
  have hFc := va_free (wc := [(q5, .inr (2, [.null, .null]))]) hD hS hA [1] rfl
  refine va_callv (va_runI (As := []) (rest := [.ref q5, .ref h0]) ⟨hx, hb, hml, hown, hts⟩ (c_X2_init l D cA q5 H.size) (cwI 0 hts gX5_init_X2_init rfl rfl rfl (hts (.initialized RX2) (by decide +kernel)) (hts (.methodLink RX5 11 yX2_init) (by decide +kernel)) (hts (.instanceMethod yX2_init) (by decide +kernel)) rfl (by decide +kernel) ⟨Nat.le_of_ble_eq_true rfl, Nat.le_of_ble_eq_true rfl⟩) ⟨in_blind, fun U hU hW => ⟨rfl, by rw [hU], by rw [hU]; exact hPc, va_K.moved hW.alike hK, hDc.weaken (fun _ _ _ _ => trivial), hX.moved hW.alike⟩⟩ rfl rfl hl.1 rfl (lv_room (Nat.le_of_ble_eq_true rfl)) dX5_init_9 ⟨Nat.le_of_ble_eq_true rfl, Nat.le_of_ble_eq_true rfl⟩) hS (fun q _ h => hFc q h) hFc (fun u t H1 locs ht hvm hw hB hz1 hk1 hS => ?_)
  obtain ⟨a_9, b_9⟩ := u
  obtain ⟨hP1, hK1, hD1⟩ := hB
  rw [ht] at hP1
  obtain _ := hw
  obtain ⟨hP, hD⟩ := va_join (wr := [(h0, .inr (4, [.null, .null]))]) (w1 := [(q5, .inr (2, [.ref a_9, .ref b_9])), (a_9, .inl (cA 0, 40, .inl (fun _ => -1))), (b_9, .inl (cA 0, 40, .inl (fun _ => -1)))]) hP hD [1] [0] rfl rfl (by decide) (by decide) hk1 hFc hP1 hD1
  generalize H1 = H at hP hS ⊢
  have hP : va_P D vwCl [(h0, .inr (4, [.null, .null])), (q5, .inr (2, [.ref a_9, .ref b_9])), (a_9, .inl (cA 0, 40, .inl (fun _ => -1))), (b_9, .inl (cA 0, 40, .inl (fun _ => -1)))] H := hP
  have hD : va_D A [(h0, .inr (4, [.null, .null])), (q5, .inr (2, [.ref a_9, .ref b_9])), (a_9, .inl (cA 0, 40, .inl (fun _ => -1))), (b_9, .inl (cA 0, 40, .inl (fun _ => -1)))] := hD
  refine W.widen (k := 3) (n := 82) (by omega) (by omega) ?_
  refine va_putF (D := D) (ci := 4) (v := .ref q5) (ty := (.object "MixElection$Moves")) (C := RX5) (T := TX5) (N := 2) hx hb hts hin_X5 tyX5 tyX5_ok nmX5 hown hK hP hD hS 0 rfl rfl 0 (by decide) (w_RX5_12) (fun _ h9 => h9) rfl hin rfl (by decide +kernel) rfl rfl (Nat.le_of_ble_eq_true rfl) dX5_init_12 (fun H locs hP hD hS => ?_)
  have hP : va_P D vwCl [(h0, .inr (4, [.ref q5, .null])), (q5, .inr (2, [.ref a_9, .ref b_9])), (a_9, .inl (cA 0, 40, .inl (fun _ => -1))), (b_9, .inl (cA 0, 40, .inl (fun _ => -1)))] H := hP
  have hD : va_D A [(h0, .inr (4, [.ref q5, .null])), (q5, .inr (2, [.ref a_9, .ref b_9])), (a_9, .inl (cA 0, 40, .inl (fun _ => -1))), (b_9, .inl (cA 0, 40, .inl (fun _ => -1)))] := hD
  refine lv_aload_n hx hb dX5_init_15 rfl (lv_at hl 0 rfl) ?_
  refine va_new (ci := 3) (fs := [.null, .null]) (C := RX4) (T := TX4) (N := 2) hx hb hts hin_X4 tyX4 tyX4_ok hown (hts (.classLink RX5 18 RX4) (by decide +kernel)) (hts (.instantiable RX4 2) (by decide +kernel)) (hts (.initialized RX4) (by decide +kernel)) hK hP hD hS hA rfl (fun j hj => by rcases (show j = 0 ∨ j = 1 by omega) with rfl | rfl <;> rfl) (Nat.le_of_ble_eq_true rfl) (Nat.le_of_ble_eq_true rfl) dX5_init_16 (fun q16 H hP hD hS => ?_)
  refine W.widen (k := 4) (n := 84) (by omega) (by omega) ?_
  have hP : va_P D vwCl [(h0, .inr (4, [.ref q5, .null])), (q5, .inr (2, [.ref a_9, .ref b_9])), (a_9, .inl (cA 0, 40, .inl (fun _ => -1))), (b_9, .inl (cA 0, 40, .inl (fun _ => -1))), (q16, .inr (3, [.null, .null]))] H := hP
  have hD : va_D A [(h0, .inr (4, [.ref q5, .null])), (q5, .inr (2, [.ref a_9, .ref b_9])), (a_9, .inl (cA 0, 40, .inl (fun _ => -1))), (b_9, .inl (cA 0, 40, .inl (fun _ => -1))), (q16, .inr (3, [.null, .null]))] := hD
  refine lv_dup hx hb dX5_init_19 rfl ?_
  have hPc := hP.sub (ws' := [(q16, .inr (3, [.null, .null]))]) [4] rfl
  have hDc := hD.sub (ws' := [(q16, .inr (3, [.null, .null]))]) [4] (by decide) rfl
  have hFc := va_free (wc := [(q16, .inr (3, [.null, .null]))]) hD hS hA [4] rfl
  refine va_callv (va_runI (As := []) (rest := [.ref q16, .ref h0]) ⟨hx, hb, hml, hown, hts⟩ (c_X4_init l D cA q16 H.size) (cwI 0 hts gX5_init_X4_init rfl rfl rfl (hts (.initialized RX4) (by decide +kernel)) (hts (.methodLink RX5 20 yX4_init) (by decide +kernel)) (hts (.instanceMethod yX4_init) (by decide +kernel)) rfl (by decide +kernel) ⟨Nat.le_of_ble_eq_true rfl, Nat.le_of_ble_eq_true rfl⟩) ⟨in_blind, fun U hU hW => ⟨rfl, by rw [hU], by rw [hU]; exact hPc, va_K.moved hW.alike hK, hDc.weaken (fun _ _ _ _ => trivial), hX.moved hW.alike⟩⟩ rfl rfl hl.1 rfl (lv_room (Nat.le_of_ble_eq_true rfl)) dX5_init_20 ⟨Nat.le_of_ble_eq_true rfl, Nat.le_of_ble_eq_true rfl⟩) hS (fun q _ h => hFc q h) hFc (fun u t H1 locs ht hvm hw hB hz1 hk1 hS => ?_)
  obtain ⟨a_20, b_20⟩ := u
  obtain ⟨hP1, hK1, hD1⟩ := hB
  rw [ht] at hP1
  obtain _ := hw
  obtain ⟨hP, hD⟩ := va_join (wr := [(h0, .inr (4, [.ref q5, .null])), (q5, .inr (2, [.ref a_9, .ref b_9])), (a_9, .inl (cA 0, 40, .inl (fun _ => -1))), (b_9, .inl (cA 0, 40, .inl (fun _ => -1)))]) (w1 := [(q16, .inr (3, [.ref a_20, .ref b_20])), (a_20, .inl (cA 0, 40, .inl (fun _ => -1))), (b_20, .inl (cA 0, 40, .inl (fun _ => -1)))]) hP hD [4] [0, 1, 2, 3] rfl rfl (by decide) (by decide) hk1 hFc hP1 hD1
  generalize H1 = H at hP hS ⊢
  have hP : va_P D vwCl [(h0, .inr (4, [.ref q5, .null])), (q5, .inr (2, [.ref a_9, .ref b_9])), (a_9, .inl (cA 0, 40, .inl (fun _ => -1))), (b_9, .inl (cA 0, 40, .inl (fun _ => -1))), (q16, .inr (3, [.ref a_20, .ref b_20])), (a_20, .inl (cA 0, 40, .inl (fun _ => -1))), (b_20, .inl (cA 0, 40, .inl (fun _ => -1)))] H := hP
  have hD : va_D A [(h0, .inr (4, [.ref q5, .null])), (q5, .inr (2, [.ref a_9, .ref b_9])), (a_9, .inl (cA 0, 40, .inl (fun _ => -1))), (b_9, .inl (cA 0, 40, .inl (fun _ => -1))), (q16, .inr (3, [.ref a_20, .ref b_20])), (a_20, .inl (cA 0, 40, .inl (fun _ => -1))), (b_20, .inl (cA 0, 40, .inl (fun _ => -1)))] := hD
  refine W.widen (k := 6) (n := 164) (by omega) (by omega) ?_
  refine va_putF (D := D) (ci := 4) (v := .ref q16) (ty := (.object "MixElection$Pairs")) (C := RX5) (T := TX5) (N := 2) hx hb hts hin_X5 tyX5 tyX5_ok nmX5 hown hK hP hD hS 0 rfl rfl 1 (by decide) (w_RX5_21) (fun _ h9 => h9) rfl hin rfl (by decide +kernel) rfl rfl (Nat.le_of_ble_eq_true rfl) dX5_init_23 (fun H locs hP hD hS => ?_)
  have hP : va_P D vwCl [(h0, .inr (4, [.ref q5, .ref q16])), (q5, .inr (2, [.ref a_9, .ref b_9])), (a_9, .inl (cA 0, 40, .inl (fun _ => -1))), (b_9, .inl (cA 0, 40, .inl (fun _ => -1))), (q16, .inr (3, [.ref a_20, .ref b_20])), (a_20, .inl (cA 0, 40, .inl (fun _ => -1))), (b_20, .inl (cA 0, 40, .inl (fun _ => -1)))] H := hP
  have hD : va_D A [(h0, .inr (4, [.ref q5, .ref q16])), (q5, .inr (2, [.ref a_9, .ref b_9])), (a_9, .inl (cA 0, 40, .inl (fun _ => -1))), (b_9, .inl (cA 0, 40, .inl (fun _ => -1))), (q16, .inr (3, [.ref a_20, .ref b_20])), (a_20, .inl (cA 0, 40, .inl (fun _ => -1))), (b_20, .inl (cA 0, 40, .inl (fun _ => -1)))] := hD
  refine W.widen (k := 6) (n := 164) (by omega) (by omega) ?_
  have hP9 := hP.sub (ws' := [(h0, .inr (4, [.ref q5, .ref q16])), (q5, .inr (2, [.ref a_9, .ref b_9])), (a_9, .inl (cA 0, 40, .inl (fun _ => -1))), (b_9, .inl (cA 0, 40, .inl (fun _ => -1))), (q16, .inr (3, [.ref a_20, .ref b_20])), (a_20, .inl (cA 0, 40, .inl (fun _ => -1))), (b_20, .inl (cA 0, 40, .inl (fun _ => -1)))]) [0, 1, 2, 3, 4, 5, 6] rfl
  have hD9 := hD.sub (ws' := [(h0, .inr (4, [.ref q5, .ref q16])), (q5, .inr (2, [.ref a_9, .ref b_9])), (a_9, .inl (cA 0, 40, .inl (fun _ => -1))), (b_9, .inl (cA 0, 40, .inl (fun _ => -1))), (q16, .inr (3, [.ref a_20, .ref b_20])), (a_20, .inl (cA 0, 40, .inl (fun _ => -1))), (b_20, .inl (cA 0, 40, .inl (fun _ => -1)))]) [0, 1, 2, 3, 4, 5, 6] (by decide) rfl
  exact W.vret hx hb hr (fun t ht hW => ⟨⟨(fun i => [q5, q16, a_9, b_9, a_20, b_20].getD i 0), rfl, trivial, by rw [ht]; exact hP9, va_K.moved hW.alike hK, hD9⟩, hS.F ht⟩) hS.2.2 dX5_init_26

set_option maxHeartbeats 4000000 in
set_option maxRecDepth 100000 in
theorem c_X6_new (l : Launch) (D : va_G) (cA : Nat → ClassId) (h0 : Nat) (g : Nat) (gp : Int32) (gq : Int32) (gh : Int32) (tr : Int32) (th : Int32) (t0 : Nat) (k0 : Nat) (hT : wi tr 1 (if gq - 1 < 5 then gq - 1 else 5) = nI t0) (ht : 1 ≤ t0 ∧ t0 ≤ 5) (hK0 : wi th 1 (nI t0) = nI k0) (hk : 1 ≤ k0 ∧ k0 ≤ t0) (sz : Nat) : Met l yX6_init wsX6_init ({ frames := 2, cells := 10, slots := 263, locals := 52 }) (iPc vwCl D cA sz [(h0, .inr (5, [.null, .int 0, .int 0, .null, .null, .null, .null, .int 0])), (g, .inr (1, [.int gp, .int gq, .int gh]))] [.ref h0, .ref g, .int tr, .int th]) (va_Qv (fun _ : Nat → Nat => True) (fun (u : Nat → Nat) (t : State) => va_P D vwCl ([(h0, .inr (5, [.ref g, .int (nI t0), .int (nI k0), .ref (u 0), .ref (u 1), .ref (u 2), .ref (u 3), .int 0])), (g, .inr (1, [.int gp, .int gq, .int gh])), ((u 0), .inl (cA 0, k0, .inl (upd (fun _ => 0) (0 : Int32).toNatClampNeg 1))), ((u 1), .inl (cA 1, (t0 + 1), .inl (fun _ => 0))), ((u 2), .inl (cA 4, (t0 + 1), .inr (.inr (.inr (.inr (fun k => some ((u 4) + k))))))), ((u 3), .inl (cA 0, (t0 + 1), .inl (fun _ => 0)))] ++ (rwT cA (u 4) (fun _ _ => 0) (t0 + 1))) t.heap ∧ va_K D vwCl (tyS cA) t ∧ va_D (va_A [(h0, .inr (5, [.null, .int 0, .int 0, .null, .null, .null, .null, .int 0])), (g, .inr (1, [.int gp, .int gq, .int gh]))] sz) ([(h0, .inr (5, [.ref g, .int (nI t0), .int (nI k0), .ref (u 0), .ref (u 1), .ref (u 2), .ref (u 3), .int 0])), (g, .inr (1, [.int gp, .int gq, .int gh])), ((u 0), .inl (cA 0, k0, .inl (upd (fun _ => 0) (0 : Int32).toNatClampNeg 1))), ((u 1), .inl (cA 1, (t0 + 1), .inl (fun _ => 0))), ((u 2), .inl (cA 4, (t0 + 1), .inr (.inr (.inr (.inr (fun k => some ((u 4) + k))))))), ((u 3), .inl (cA 0, (t0 + 1), .inl (fun _ => 0)))] ++ (rwT cA (u 4) (fun _ _ => 0) (t0 + 1)))) (va_A [(h0, .inr (5, [.null, .int 0, .int 0, .null, .null, .null, .null, .int 0])), (g, .inr (1, [.int gp, .int gq, .int gh]))] sz)) 10 263 (va_A [(h0, .inr (5, [.null, .int 0, .int 0, .null, .null, .null, .null, .int 0])), (g, .inr (1, [.int gp, .int gq, .int gh]))] sz) := by
  refine Met.ofW (cc := cX6_init) (maxL := 4) (ret := none) (by decide) rfl ?_
  intro p e s m args below meth c s₁ B hml hv
  obtain ⟨rfl, hsz, hP, hK, hD0, hX⟩ := hv
  have hx := B.exec
  have hb := B.bytes
  have hr := B.returns
  have hts := atoms_spec (ws := wsX6_init) B.pre
  have hown : s.vm.findClass RX6 = some m.cls := findClass_of_methodNamed B.named
  have hlocks := B.notSynchronized
  have hin : meth.name = "<init>" := (name_of_methodNamed B.named B.method).1
  have hin_X6 : ∀ w ∈ wsX60, w ∈ wsX6_init := fun w h => List.mem_cons_of_mem _ (List.mem_append_left _ (List.mem_append_right _ h))
  have w_RX6_9 := hts (.fieldLink RX6 9 "MixElection$Trustees" "group" "LMixElection$Group;") (by decide +kernel)
  have w_RX6_33 := hts (.fieldLink RX6 33 "MixElection$Trustees" "size" "I") (by decide +kernel)
  have w_RX6_37 := hts (.fieldLink RX6 37 "MixElection$Trustees" "threshold" "I") (by decide +kernel)
  have w_RX6_40 := hts (.fieldLink RX6 40 "MixElection$Trustees" "coefficients" "[I") (by decide +kernel)
  have w_RX6_44 := hts (.fieldLink RX6 44 "MixElection$Trustees" "hasGiven" "[Z") (by decide +kernel)
  have w_RX6_50 := hts (.fieldLink RX6 50 "MixElection$Trustees" "gifts" "[[I") (by decide +kernel)
  have w_RX6_53 := hts (.fieldLink RX6 53 "MixElection$Trustees" "weights" "[I") (by decide +kernel)
  subst hsz
  have hD := hD0.self (sz := s.heap.size)
  generalize hAe : va_A [(h0, .inr (5, [.null, .int 0, .int 0, .null, .null, .null, .null, .int 0])), (g, .inr (1, [.int gp, .int gq, .int gh]))] s.heap.size = A at hD ⊢
  have hA : ∀ q : Nat, s.heap.size ≤ q → A q := fun q h => by rw [← hAe]; exact Or.inr h
  have hS : va_S A s.heap s.heap [] := va_S.rf
  have hP : va_P D vwCl [(h0, .inr (5, [.null, .int 0, .int 0, .null, .null, .null, .null, .int 0])), (g, .inr (1, [.int gp, .int gq, .int gh]))] s.heap := hP
  have hl := lv_entry ([.ref h0, .ref g, .int tr, .int th]) (n := 4) (Nat.le_of_ble_eq_true rfl)
  rw [lg_entry_eq]
  generalize (lg_sl ([.ref h0, .ref g, .int tr, .int th]) ++ List.replicate (4 - (lg_sl ([.ref h0, .ref g, .int tr, .int th])).length) Slot.unset).toArray = ls at hl ⊢
  have hl : lv_has ls 4 [(0, .ref h0), (1, .ref g), (2, .int tr), (3, .int th)] := hl
  refine lv_aload_n hx hb dX6_init_0 rfl (lv_at hl 0 rfl) ?_
  refine W.objInit hx hb hown (hts (.methodLink RX6 3 objectInit) (by decide +kernel)) (hts (.instanceMethod objectInit) (by decide +kernel)) (hts (.code objectInit ⟨#[0xb1]⟩ 1 none) (by decide +kernel)) rfl (by rw [hml]; exact hl.1) rfl dX6_init_1 (Nat.le_of_ble_eq_true rfl) (Nat.le_of_ble_eq_true rfl) ?_
  refine W.eq (g2 := F0 m 4 ls []) rfl ?_
  refine lv_aload_n hx hb dX6_init_4 rfl (lv_at hl 0 rfl) ?_
  refine lv_aload_n hx hb dX6_init_5 rfl (lv_at hl 1 rfl) ?_
  refine va_putF (D := D) (ci := 5) (v := .ref g) (ty := (.object "MixElection$Group")) (C := RX6) (T := TX6) (N := 8) hx hb hts hin_X6 tyX6 tyX6_ok nmX6 hown hK hP hD hS 0 rfl rfl 0 (by decide) (w_RX6_9) (fun _ h9 => h9) rfl hin rfl (by decide +kernel) rfl rfl (Nat.le_of_ble_eq_true rfl) dX6_init_6 (fun H locs hP hD hS => ?_)
  have hP : va_P D vwCl [(h0, .inr (5, [.ref g, .int 0, .int 0, .null, .null, .null, .null, .int 0])), (g, .inr (1, [.int gp, .int gq, .int gh]))] H := hP
  have hD : va_D A [(h0, .inr (5, [.ref g, .int 0, .int 0, .null, .null, .null, .null, .int 0])), (g, .inr (1, [.int gp, .int gq, .int gh]))] := hD
  refine lv_aload_n hx hb dX6_init_9 rfl (lv_at hl 0 rfl) ?_
  refine lv_iload_n hx hb dX6_init_10 rfl (lv_at hl 2 rfl) ?_
  refine lv_iconst (v := 1) hx hb dX6_init_11 (by decide) ?_
  refine lv_iconst (v := 5) hx hb dX6_init_12 (by decide) ?_
  refine lv_aload_n hx hb dX6_init_13 rfl (lv_at hl 1 rfl) ?_
  refine rq_call1 (v := .int gq) (rn_V (As := []) (rest := [.int 5, .int 1, .int tr, .ref h0]) (ci := 1) (fs := [.int gp, .int gq, .int gh]) ⟨hx, hb, hml, hown, hts⟩ (c_X1_order l D cA g gp gq gh) rfl (cwV 0 hts gX6_init_X1_order rfl rfl rfl (by decide +kernel) ⟨Nat.le_of_ble_eq_true rfl, Nat.le_of_ble_eq_true rfl⟩) hK hP [1] rfl rfl rfl hl.1 rfl (Nat.le_of_ble_eq_true rfl) dX6_init_14 ⟨Nat.le_of_ble_eq_true rfl, Nat.le_of_ble_eq_true rfl⟩) ?_
  refine lv_iconst (v := 1) hx hb dX6_init_17 (by decide) ?_
  refine lv_isub hx hb dX6_init_18 ?_
  refine va_mmin hx hb (hml.trans hl.1.symm) hown (hts (.methodLink RX6 21 Lib.Math.min.name) (by decide +kernel)) (hts (.static Lib.Math.min.name) (by decide +kernel)) (hts (.initialized "java/lang/Math") (by decide +kernel)) (hts (.code Lib.Math.min.name Lib.Math.min.code 2 (some .int)) (by decide +kernel)) (Nat.le_of_ble_eq_true rfl) (Nat.le_of_ble_eq_true rfl) (Nat.le_of_ble_eq_true rfl) (Nat.le_of_ble_eq_true rfl) dX6_init_19 ?_
  refine rq_call1 (v := .int (wi tr 1 (if (gq - 1) < 5 then (gq - 1) else 5))) (rn_S (As := [.int tr, .int 1, .int (if (gq - 1) < 5 then (gq - 1) else 5)]) (rest := [.ref h0]) ⟨hx, hb, hml, hown, hts⟩ (c_X3_within l D cA tr 1 (if (gq - 1) < 5 then (gq - 1) else 5)) (va_cwS 3 hts gX6_init_X3_within rfl rfl rfl (by decide +kernel) ⟨Nat.le_of_ble_eq_true rfl, Nat.le_of_ble_eq_true rfl⟩) hK hP [] rfl rfl hl.1 rfl (Nat.le_of_ble_eq_true rfl) dX6_init_22 ⟨Nat.le_of_ble_eq_true rfl, Nat.le_of_ble_eq_true rfl⟩) ?_
  rw [hT]
  refine va_putF (D := D) (ci := 5) (v := .int (nI t0)) (ty := .int) (C := RX6) (T := TX6) (N := 8) hx hb hts hin_X6 tyX6 tyX6_ok nmX6 hown hK hP hD hS 0 rfl rfl 1 (by decide) (w_RX6_33) (fun _ h9 => h9) rfl hin rfl (by decide +kernel) rfl rfl (Nat.le_of_ble_eq_true rfl) dX6_init_25 (fun H locs hP hD hS => ?_)
  have hP : va_P D vwCl [(h0, .inr (5, [.ref g, .int (nI t0), .int 0, .null, .null, .null, .null, .int 0])), (g, .inr (1, [.int gp, .int gq, .int gh]))] H := hP
  have hD : va_D A [(h0, .inr (5, [.ref g, .int (nI t0), .int 0, .null, .null, .null, .null, .int 0])), (g, .inr (1, [.int gp, .int gq, .int gh]))] := hD
  refine lv_aload_n hx hb dX6_init_28 rfl (lv_at hl 0 rfl) ?_
  refine lv_iload_n hx hb dX6_init_29 rfl (lv_at hl 3 rfl) ?_
  refine lv_iconst (v := 1) hx hb dX6_init_30 (by decide) ?_
  refine lv_aload_n hx hb dX6_init_31 rfl (lv_at hl 0 rfl) ?_
  refine va_get (D := D) (ci := 5) (v := .int (nI t0)) (C := RX6) (T := TX6) (N := 8) hx hb hts hin_X6 hown hK hP 0 rfl rfl 1 (by decide) (w_RX6_33) (fun _ h9 => h9) rfl dX6_init_32 ?_
  refine rq_call1 (v := .int (wi th 1 (nI t0))) (rn_S (As := [.int th, .int 1, .int (nI t0)]) (rest := [.ref h0]) ⟨hx, hb, hml, hown, hts⟩ (c_X3_within l D cA th 1 (nI t0)) (va_cwS 3 hts gX6_init_X3_within rfl rfl rfl (by decide +kernel) ⟨Nat.le_of_ble_eq_true rfl, Nat.le_of_ble_eq_true rfl⟩) hK hP [] rfl rfl hl.1 rfl (Nat.le_of_ble_eq_true rfl) dX6_init_35 ⟨Nat.le_of_ble_eq_true rfl, Nat.le_of_ble_eq_true rfl⟩) ?_
  rw [hK0]
  refine va_putF (D := D) (ci := 5) (v := .int (nI k0)) (ty := .int) (C := RX6) (T := TX6) (N := 8) hx hb hts hin_X6 tyX6 tyX6_ok nmX6 hown hK hP hD hS 0 rfl rfl 2 (by decide) (w_RX6_37) (fun _ h9 => h9) rfl hin rfl (by decide +kernel) rfl rfl (Nat.le_of_ble_eq_true rfl) dX6_init_38 (fun H locs hP hD hS => ?_)
  have hP : va_P D vwCl [(h0, .inr (5, [.ref g, .int (nI t0), .int (nI k0), .null, .null, .null, .null, .int 0])), (g, .inr (1, [.int gp, .int gq, .int gh]))] H := hP
  have hD : va_D A [(h0, .inr (5, [.ref g, .int (nI t0), .int (nI k0), .null, .null, .null, .null, .int 0])), (g, .inr (1, [.int gp, .int gq, .int gh]))] := hD
  refine lv_aload_n hx hb dX6_init_41 rfl (lv_at hl 0 rfl) ?_
  refine lv_aload_n hx hb dX6_init_42 rfl (lv_at hl 0 rfl) ?_
  refine va_get (D := D) (ci := 5) (v := .int (nI k0)) (C := RX6) (T := TX6) (N := 8) hx hb hts hin_X6 hown hK hP 0 rfl rfl 2 (by decide) (w_RX6_37) (fun _ h9 => h9) rfl dX6_init_43 ?_
  refine ka_newa (atype := .int) (ty := .int) (N' := k0) (n := (nI k0)) (a0 := (k0, .inl (fun _ => 0))) hx hb (hts (.arrayClass .int) (by decide +kernel)) rfl hK hP hD hS hA 0 rfl (fun _ => rfl) (nI_pos (by omega)) (nI_clamp (by omega)) (by show k0 * 4 ≤ 536870912; omega) (Nat.le_of_ble_eq_true rfl) (Nat.le_trans (show 0 + k0 ≤ 5 by omega) (Nat.le_of_ble_eq_true rfl)) dX6_init_46 (fun q46 H hP hD hS => ?_)
  refine W.widen (k := 1) (n := 5) (by omega) (by omega) ?_
  have hP : va_P D vwCl [(h0, .inr (5, [.ref g, .int (nI t0), .int (nI k0), .null, .null, .null, .null, .int 0])), (g, .inr (1, [.int gp, .int gq, .int gh])), (q46, .inl (cA 0, k0, .inl (fun _ => 0)))] H := hP
  have hD : va_D A [(h0, .inr (5, [.ref g, .int (nI t0), .int (nI k0), .null, .null, .null, .null, .int 0])), (g, .inr (1, [.int gp, .int gq, .int gh])), (q46, .inl (cA 0, k0, .inl (fun _ => 0)))] := hD
  refine va_putF (D := D) (ci := 5) (v := .ref q46) (ty := (.array .int)) (C := RX6) (T := TX6) (N := 8) hx hb hts hin_X6 tyX6 tyX6_ok nmX6 hown hK hP hD hS 0 rfl rfl 3 (by decide) (w_RX6_40) (fun _ h9 => h9) rfl hin rfl (by decide +kernel) rfl rfl (Nat.le_of_ble_eq_true rfl) dX6_init_48 (fun H locs hP hD hS => ?_)
  have hP : va_P D vwCl [(h0, .inr (5, [.ref g, .int (nI t0), .int (nI k0), .ref q46, .null, .null, .null, .int 0])), (g, .inr (1, [.int gp, .int gq, .int gh])), (q46, .inl (cA 0, k0, .inl (fun _ => 0)))] H := hP
  have hD : va_D A [(h0, .inr (5, [.ref g, .int (nI t0), .int (nI k0), .ref q46, .null, .null, .null, .int 0])), (g, .inr (1, [.int gp, .int gq, .int gh])), (q46, .inl (cA 0, k0, .inl (fun _ => 0)))] := hD
  refine lv_aload_n hx hb dX6_init_51 rfl (lv_at hl 0 rfl) ?_
  refine va_get (D := D) (ci := 5) (v := .ref q46) (C := RX6) (T := TX6) (N := 8) hx hb hts hin_X6 hown hK hP 0 rfl rfl 3 (by decide) (w_RX6_40) (fun _ h9 => h9) rfl dX6_init_52 ?_
  refine lv_iconst (v := 0) hx hb dX6_init_55 (by decide) ?_
  refine lv_iconst (v := 1) hx hb dX6_init_56 (by decide) ?_
  refine va_iast hx hb hK hP hD hS 2 0 rfl rfl (vp_in_nI (n := 0) (by omega) (by omega)) dX6_init_57 (fun H locs hP hD hS => ?_)
  have hP : va_P D vwCl [(h0, .inr (5, [.ref g, .int (nI t0), .int (nI k0), .ref q46, .null, .null, .null, .int 0])), (g, .inr (1, [.int gp, .int gq, .int gh])), (q46, .inl (cA 0, k0, .inl (upd (fun _ => 0) (0 : Int32).toNatClampNeg 1)))] H := hP
  have hD : va_D A [(h0, .inr (5, [.ref g, .int (nI t0), .int (nI k0), .ref q46, .null, .null, .null, .int 0])), (g, .inr (1, [.int gp, .int gq, .int gh])), (q46, .inl (cA 0, k0, .inl (upd (fun _ => 0) (0 : Int32).toNatClampNeg 1)))] := hD
  refine lv_aload_n hx hb dX6_init_58 rfl (lv_at hl 0 rfl) ?_
  refine lv_aload_n hx hb dX6_init_59 rfl (lv_at hl 0 rfl) ?_
  refine va_get (D := D) (ci := 5) (v := .int (nI t0)) (C := RX6) (T := TX6) (N := 8) hx hb hts hin_X6 hown hK hP 0 rfl rfl 1 (by decide) (w_RX6_33) (fun _ h9 => h9) rfl dX6_init_60 ?_
  refine lv_iconst (v := 1) hx hb dX6_init_63 (by decide) ?_
  refine lv_iadd hx hb dX6_init_64 ?_
  refine ka_newa (atype := .boolean) (ty := .boolean) (N' := (t0 + 1)) (n := ((nI t0) + 1)) (a0 := ((t0 + 1), .inl (fun _ => 0))) hx hb (hts (.arrayClass .boolean) (by decide +kernel)) rfl hK hP hD hS hA 1 rfl (fun _ => rfl) (by rw [nI_1]; exact nI_pos (by omega)) (by rw [nI_1]; exact nI_clamp (by omega)) (by show (t0 + 1) * 1 ≤ 536870912; omega) (Nat.le_of_ble_eq_true rfl) (Nat.le_trans (show 5 + (t0 + 1) ≤ 11 by omega) (Nat.le_of_ble_eq_true rfl)) dX6_init_65 (fun q65 H hP hD hS => ?_)
  refine W.widen (k := 2) (n := 11) (by omega) (by omega) ?_
  have hP : va_P D vwCl [(h0, .inr (5, [.ref g, .int (nI t0), .int (nI k0), .ref q46, .null, .null, .null, .int 0])), (g, .inr (1, [.int gp, .int gq, .int gh])), (q46, .inl (cA 0, k0, .inl (upd (fun _ => 0) (0 : Int32).toNatClampNeg 1))), (q65, .inl (cA 1, (t0 + 1), .inl (fun _ => 0)))] H := hP
  have hD : va_D A [(h0, .inr (5, [.ref g, .int (nI t0), .int (nI k0), .ref q46, .null, .null, .null, .int 0])), (g, .inr (1, [.int gp, .int gq, .int gh])), (q46, .inl (cA 0, k0, .inl (upd (fun _ => 0) (0 : Int32).toNatClampNeg 1))), (q65, .inl (cA 1, (t0 + 1), .inl (fun _ => 0)))] := hD
  refine va_putF (D := D) (ci := 5) (v := .ref q65) (ty := (.array .boolean)) (C := RX6) (T := TX6) (N := 8) hx hb hts hin_X6 tyX6 tyX6_ok nmX6 hown hK hP hD hS 0 rfl rfl 4 (by decide) (w_RX6_44) (fun _ h9 => h9) rfl hin rfl (by decide +kernel) rfl rfl (Nat.le_of_ble_eq_true rfl) dX6_init_67 (fun H locs hP hD hS => ?_)
  have hP : va_P D vwCl [(h0, .inr (5, [.ref g, .int (nI t0), .int (nI k0), .ref q46, .ref q65, .null, .null, .int 0])), (g, .inr (1, [.int gp, .int gq, .int gh])), (q46, .inl (cA 0, k0, .inl (upd (fun _ => 0) (0 : Int32).toNatClampNeg 1))), (q65, .inl (cA 1, (t0 + 1), .inl (fun _ => 0)))] H := hP
  have hD : va_D A [(h0, .inr (5, [.ref g, .int (nI t0), .int (nI k0), .ref q46, .ref q65, .null, .null, .int 0])), (g, .inr (1, [.int gp, .int gq, .int gh])), (q46, .inl (cA 0, k0, .inl (upd (fun _ => 0) (0 : Int32).toNatClampNeg 1))), (q65, .inl (cA 1, (t0 + 1), .inl (fun _ => 0)))] := hD
  refine lv_aload_n hx hb dX6_init_70 rfl (lv_at hl 0 rfl) ?_
  refine lv_aload_n hx hb dX6_init_71 rfl (lv_at hl 0 rfl) ?_
  refine va_get (D := D) (ci := 5) (v := .int (nI t0)) (C := RX6) (T := TX6) (N := 8) hx hb hts hin_X6 hown hK hP 0 rfl rfl 1 (by decide) (w_RX6_33) (fun _ h9 => h9) rfl dX6_init_72 ?_
  refine lv_iconst (v := 1) hx hb dX6_init_75 (by decide) ?_
  refine lv_iadd hx hb dX6_init_76 ?_
  refine lv_bipush (v := 40) hx hb dX6_init_77 (by decide) ?_
  refine mu_row2 (n := ((nI t0) + 1)) (k := 40) (N := (t0 + 1)) hx hb hown (hts (.classLink RX6 48 "[[I") (by decide +kernel)) hX hK hP hD hS hA (by rw [nI_1]; exact nI_pos (by omega)) (by rw [nI_1]; exact nI_clamp (by omega)) (by decide) rfl (by omega) (Nat.le_trans (show 2 + 1 + (t0 + 1) ≤ 9 by omega) (Nat.le_of_ble_eq_true rfl)) (Nat.le_trans (show 11 + (t0 + 1) + (t0 + 1) * 40 ≤ 257 by omega) (Nat.le_of_ble_eq_true rfl)) dX6_init_79 (fun q79 H locs hP hD hS => ?_)
  refine W.widen (k := 9) (n := 257) (by omega) (by omega) ?_
  have hP : va_P D vwCl ([(h0, .inr (5, [.ref g, .int (nI t0), .int (nI k0), .ref q46, .ref q65, .null, .null, .int 0])), (g, .inr (1, [.int gp, .int gq, .int gh])), (q46, .inl (cA 0, k0, .inl (upd (fun _ => 0) (0 : Int32).toNatClampNeg 1))), (q65, .inl (cA 1, (t0 + 1), .inl (fun _ => 0))), (q79, .inl (cA 4, (t0 + 1), .inr (.inr (.inr (.inr (fun k => some (q79 + 1 + k)))))))] ++ (rwT cA (q79 + 1) (fun _ _ => 0) (t0 + 1))) H := hP
  have hD : va_D A ([(h0, .inr (5, [.ref g, .int (nI t0), .int (nI k0), .ref q46, .ref q65, .null, .null, .int 0])), (g, .inr (1, [.int gp, .int gq, .int gh])), (q46, .inl (cA 0, k0, .inl (upd (fun _ => 0) (0 : Int32).toNatClampNeg 1))), (q65, .inl (cA 1, (t0 + 1), .inl (fun _ => 0))), (q79, .inl (cA 4, (t0 + 1), .inr (.inr (.inr (.inr (fun k => some (q79 + 1 + k)))))))] ++ (rwT cA (q79 + 1) (fun _ _ => 0) (t0 + 1))) := hD
  refine va_putF (D := D) (ci := 5) (v := .ref q79) (ty := (.array (.array .int))) (C := RX6) (T := TX6) (N := 8) hx hb hts hin_X6 tyX6 tyX6_ok nmX6 hown hK hP hD hS 0 rfl rfl 5 (by decide) (w_RX6_50) (fun _ h9 => h9) rfl hin rfl (by decide +kernel) rfl rfl (Nat.le_of_ble_eq_true rfl) dX6_init_83 (fun H locs hP hD hS => ?_)
  have hP : va_P D vwCl ([(h0, .inr (5, [.ref g, .int (nI t0), .int (nI k0), .ref q46, .ref q65, .ref q79, .null, .int 0])), (g, .inr (1, [.int gp, .int gq, .int gh])), (q46, .inl (cA 0, k0, .inl (upd (fun _ => 0) (0 : Int32).toNatClampNeg 1))), (q65, .inl (cA 1, (t0 + 1), .inl (fun _ => 0))), (q79, .inl (cA 4, (t0 + 1), .inr (.inr (.inr (.inr (fun k => some (q79 + 1 + k)))))))] ++ (rwT cA (q79 + 1) (fun _ _ => 0) (t0 + 1))) H := hP
  have hD : va_D A ([(h0, .inr (5, [.ref g, .int (nI t0), .int (nI k0), .ref q46, .ref q65, .ref q79, .null, .int 0])), (g, .inr (1, [.int gp, .int gq, .int gh])), (q46, .inl (cA 0, k0, .inl (upd (fun _ => 0) (0 : Int32).toNatClampNeg 1))), (q65, .inl (cA 1, (t0 + 1), .inl (fun _ => 0))), (q79, .inl (cA 4, (t0 + 1), .inr (.inr (.inr (.inr (fun k => some (q79 + 1 + k)))))))] ++ (rwT cA (q79 + 1) (fun _ _ => 0) (t0 + 1))) := hD
  refine lv_aload_n hx hb dX6_init_86 rfl (lv_at hl 0 rfl) ?_
  refine lv_aload_n hx hb dX6_init_87 rfl (lv_at hl 0 rfl) ?_
  refine va_get (D := D) (ci := 5) (v := .int (nI t0)) (C := RX6) (T := TX6) (N := 8) hx hb hts hin_X6 hown hK hP 0 rfl rfl 1 (by decide) (w_RX6_33) (fun _ h9 => h9) rfl dX6_init_88 ?_
  refine lv_iconst (v := 1) hx hb dX6_init_91 (by decide) ?_
  refine lv_iadd hx hb dX6_init_92 ?_
  refine ka_newa (atype := .int) (ty := .int) (N' := (t0 + 1)) (n := ((nI t0) + 1)) (a0 := ((t0 + 1), .inl (fun _ => 0))) hx hb (hts (.arrayClass .int) (by decide +kernel)) rfl hK hP hD hS hA 0 rfl (fun _ => rfl) (by rw [nI_1]; exact nI_pos (by omega)) (by rw [nI_1]; exact nI_clamp (by omega)) (by show (t0 + 1) * 4 ≤ 536870912; omega) (Nat.le_of_ble_eq_true rfl) (Nat.le_trans (show 257 + (t0 + 1) ≤ 263 by omega) (Nat.le_of_ble_eq_true rfl)) dX6_init_93 (fun q93 H hP hD hS => ?_)
  have hP := hP.swap
  have hD := hD.swap
  refine W.widen (k := 10) (n := 263) (by omega) (by omega) ?_
  have hP : va_P D vwCl ([(h0, .inr (5, [.ref g, .int (nI t0), .int (nI k0), .ref q46, .ref q65, .ref q79, .null, .int 0])), (g, .inr (1, [.int gp, .int gq, .int gh])), (q46, .inl (cA 0, k0, .inl (upd (fun _ => 0) (0 : Int32).toNatClampNeg 1))), (q65, .inl (cA 1, (t0 + 1), .inl (fun _ => 0))), (q79, .inl (cA 4, (t0 + 1), .inr (.inr (.inr (.inr (fun k => some (q79 + 1 + k))))))), (q93, .inl (cA 0, (t0 + 1), .inl (fun _ => 0)))] ++ (rwT cA (q79 + 1) (fun _ _ => 0) (t0 + 1))) H := hP
  have hD : va_D A ([(h0, .inr (5, [.ref g, .int (nI t0), .int (nI k0), .ref q46, .ref q65, .ref q79, .null, .int 0])), (g, .inr (1, [.int gp, .int gq, .int gh])), (q46, .inl (cA 0, k0, .inl (upd (fun _ => 0) (0 : Int32).toNatClampNeg 1))), (q65, .inl (cA 1, (t0 + 1), .inl (fun _ => 0))), (q79, .inl (cA 4, (t0 + 1), .inr (.inr (.inr (.inr (fun k => some (q79 + 1 + k))))))), (q93, .inl (cA 0, (t0 + 1), .inl (fun _ => 0)))] ++ (rwT cA (q79 + 1) (fun _ _ => 0) (t0 + 1))) := hD
  refine va_putF (D := D) (ci := 5) (v := .ref q93) (ty := (.array .int)) (C := RX6) (T := TX6) (N := 8) hx hb hts hin_X6 tyX6 tyX6_ok nmX6 hown hK hP hD hS 0 rfl rfl 6 (by decide) (w_RX6_53) (fun _ h9 => h9) rfl hin rfl (by decide +kernel) rfl rfl (Nat.le_of_ble_eq_true rfl) dX6_init_95 (fun H locs hP hD hS => ?_)
  have hP : va_P D vwCl ([(h0, .inr (5, [.ref g, .int (nI t0), .int (nI k0), .ref q46, .ref q65, .ref q79, .ref q93, .int 0])), (g, .inr (1, [.int gp, .int gq, .int gh])), (q46, .inl (cA 0, k0, .inl (upd (fun _ => 0) (0 : Int32).toNatClampNeg 1))), (q65, .inl (cA 1, (t0 + 1), .inl (fun _ => 0))), (q79, .inl (cA 4, (t0 + 1), .inr (.inr (.inr (.inr (fun k => some (q79 + 1 + k))))))), (q93, .inl (cA 0, (t0 + 1), .inl (fun _ => 0)))] ++ (rwT cA (q79 + 1) (fun _ _ => 0) (t0 + 1))) H := hP
  have hD : va_D A ([(h0, .inr (5, [.ref g, .int (nI t0), .int (nI k0), .ref q46, .ref q65, .ref q79, .ref q93, .int 0])), (g, .inr (1, [.int gp, .int gq, .int gh])), (q46, .inl (cA 0, k0, .inl (upd (fun _ => 0) (0 : Int32).toNatClampNeg 1))), (q65, .inl (cA 1, (t0 + 1), .inl (fun _ => 0))), (q79, .inl (cA 4, (t0 + 1), .inr (.inr (.inr (.inr (fun k => some (q79 + 1 + k))))))), (q93, .inl (cA 0, (t0 + 1), .inl (fun _ => 0)))] ++ (rwT cA (q79 + 1) (fun _ _ => 0) (t0 + 1))) := hD
  refine W.widen (k := 10) (n := 263) (by omega) (by omega) ?_
  have hP9 := hP.part (X := [(h0, .inr (5, [.ref g, .int (nI t0), .int (nI k0), .ref q46, .ref q65, .ref q79, .ref q93, .int 0])), (g, .inr (1, [.int gp, .int gq, .int gh])), (q46, .inl (cA 0, k0, .inl (upd (fun _ => 0) (0 : Int32).toNatClampNeg 1))), (q65, .inl (cA 1, (t0 + 1), .inl (fun _ => 0))), (q79, .inl (cA 4, (t0 + 1), .inr (.inr (.inr (.inr (fun k => some (q79 + 1 + k))))))), (q93, .inl (cA 0, (t0 + 1), .inl (fun _ => 0)))]) (cx := [(h0, .inr (5, [.ref g, .int (nI t0), .int (nI k0), .ref q46, .ref q65, .ref q79, .ref q93, .int 0])), (g, .inr (1, [.int gp, .int gq, .int gh])), (q46, .inl (cA 0, k0, .inl (upd (fun _ => 0) (0 : Int32).toNatClampNeg 1))), (q65, .inl (cA 1, (t0 + 1), .inl (fun _ => 0))), (q79, .inl (cA 4, (t0 + 1), .inr (.inr (.inr (.inr (fun k => some (q79 + 1 + k))))))), (q93, .inl (cA 0, (t0 + 1), .inl (fun _ => 0)))]) [0, 1, 2, 3, 4, 5] rfl
  have hD9 := hD.part (X := [(h0, .inr (5, [.ref g, .int (nI t0), .int (nI k0), .ref q46, .ref q65, .ref q79, .ref q93, .int 0])), (g, .inr (1, [.int gp, .int gq, .int gh])), (q46, .inl (cA 0, k0, .inl (upd (fun _ => 0) (0 : Int32).toNatClampNeg 1))), (q65, .inl (cA 1, (t0 + 1), .inl (fun _ => 0))), (q79, .inl (cA 4, (t0 + 1), .inr (.inr (.inr (.inr (fun k => some (q79 + 1 + k))))))), (q93, .inl (cA 0, (t0 + 1), .inl (fun _ => 0)))]) (cx := [(h0, .inr (5, [.ref g, .int (nI t0), .int (nI k0), .ref q46, .ref q65, .ref q79, .ref q93, .int 0])), (g, .inr (1, [.int gp, .int gq, .int gh])), (q46, .inl (cA 0, k0, .inl (upd (fun _ => 0) (0 : Int32).toNatClampNeg 1))), (q65, .inl (cA 1, (t0 + 1), .inl (fun _ => 0))), (q79, .inl (cA 4, (t0 + 1), .inr (.inr (.inr (.inr (fun k => some (q79 + 1 + k))))))), (q93, .inl (cA 0, (t0 + 1), .inl (fun _ => 0)))]) [0, 1, 2, 3, 4, 5] (by decide) rfl
  exact W.vret hx hb hr (fun t ht hW => ⟨⟨(fun i => [q46, q65, q79, q93, (q79 + 1)].getD i 0), rfl, trivial, by rw [ht]; exact hP9, va_K.moved hW.alike hK, hD9⟩, hS.F ht⟩) hS.2.2 dX6_init_98
