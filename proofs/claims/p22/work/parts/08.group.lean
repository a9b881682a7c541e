theorem dX1_init_0 : decode cX1_init 0 = .ok (.aload_n 0, 1) := by decide +kernel
theorem dX1_init_1 : decode cX1_init 1 = .ok (.invokespecial 3, 3) := by decide +kernel
theorem dX1_init_4 : decode cX1_init 4 = .ok (.aload_n 0, 1) := by decide +kernel
theorem dX1_init_5 : decode cX1_init 5 = .ok (.iload_n 1, 1) := by decide +kernel
theorem dX1_init_6 : decode cX1_init 6 = .ok (.putfield 9, 3) := by decide +kernel
theorem dX1_init_9 : decode cX1_init 9 = .ok (.aload_n 0, 1) := by decide +kernel
theorem dX1_init_10 : decode cX1_init 10 = .ok (.iload_n 1, 1) := by decide +kernel
theorem dX1_init_11 : decode cX1_init 11 = .ok (.iconst 1, 1) := by decide +kernel
theorem dX1_init_12 : decode cX1_init 12 = .ok (.isub, 1) := by decide +kernel
theorem dX1_init_13 : decode cX1_init 13 = .ok (.iconst 2, 1) := by decide +kernel
theorem dX1_init_14 : decode cX1_init 14 = .ok (.idiv, 1) := by decide +kernel
theorem dX1_init_15 : decode cX1_init 15 = .ok (.putfield 15, 3) := by decide +kernel
theorem dX1_init_18 : decode cX1_init 18 = .ok (.return_, 1) := by decide +kernel
theorem dX1_modulus_0 : decode cX1_modulus 0 = .ok (.aload_n 0, 1) := by decide +kernel
theorem dX1_modulus_1 : decode cX1_modulus 1 = .ok (.getfield 9, 3) := by decide +kernel
theorem dX1_modulus_4 : decode cX1_modulus 4 = .ok (.ireturn, 1) := by decide +kernel
theorem dX1_order_0 : decode cX1_order 0 = .ok (.aload_n 0, 1) := by decide +kernel
theorem dX1_order_1 : decode cX1_order 1 = .ok (.getfield 15, 3) := by decide +kernel
theorem dX1_order_4 : decode cX1_order 4 = .ok (.ireturn, 1) := by decide +kernel
theorem dX1_publicKey_0 : decode cX1_publicKey 0 = .ok (.aload_n 0, 1) := by decide +kernel
theorem dX1_publicKey_1 : decode cX1_publicKey 1 = .ok (.getfield 18, 3) := by decide +kernel
theorem dX1_publicKey_4 : decode cX1_publicKey 4 = .ok (.ireturn, 1) := by decide +kernel
set_option maxRecDepth 20000 in
theorem ggX1_tellKey_X1_raised : GoodIn wsX1_tellKey wsX1_raised := goodIn_r _ [6, 7, 8, 9, 10, 11, 12, 13, 14, 15, 16, 17] (by decide +kernel) (by decide +kernel)
set_option maxRecDepth 20000 in
theorem gX1_tellKey_X1_raised : GoodIn wsX1_tellKey (wsV RX1 21 RX1 yX1_raised wsX1_raised) := goodIn_app (goodIn_of _ (by decide +kernel)) ggX1_tellKey_X1_raised
theorem dX1_tellKey_0 : decode cX1_tellKey 0 = .ok (.aload_n 0, 1) := by decide +kernel
theorem dX1_tellKey_1 : decode cX1_tellKey 1 = .ok (.aload_n 0, 1) := by decide +kernel
theorem dX1_tellKey_2 : decode cX1_tellKey 2 = .ok (.iconst 4, 1) := by decide +kernel
theorem dX1_tellKey_3 : decode cX1_tellKey 3 = .ok (.iload_n 1, 1) := by decide +kernel
theorem dX1_tellKey_4 : decode cX1_tellKey 4 = .ok (.invokevirtual 21, 3) := by decide +kernel
theorem dX1_tellKey_7 : decode cX1_tellKey 7 = .ok (.putfield 18, 3) := by decide +kernel
theorem dX1_tellKey_10 : decode cX1_tellKey 10 = .ok (.return_, 1) := by decide +kernel
theorem dX1_isExponent_0 : decode cX1_isExponent 0 = .ok (.iload_n 1, 1) := by decide +kernel
theorem dX1_isExponent_1 : decode cX1_isExponent 1 = .ok (.ifCond .lt 15, 3) := by decide +kernel
theorem dX1_isExponent_4 : decode cX1_isExponent 4 = .ok (.iload_n 1, 1) := by decide +kernel
theorem dX1_isExponent_5 : decode cX1_isExponent 5 = .ok (.aload_n 0, 1) := by decide +kernel
theorem dX1_isExponent_6 : decode cX1_isExponent 6 = .ok (.getfield 15, 3) := by decide +kernel
theorem dX1_isExponent_9 : decode cX1_isExponent 9 = .ok (.if_icmp .ge 7, 3) := by decide +kernel
theorem dX1_isExponent_12 : decode cX1_isExponent 12 = .ok (.iconst 1, 1) := by decide +kernel
theorem dX1_isExponent_13 : decode cX1_isExponent 13 = .ok (.goto 4, 3) := by decide +kernel
theorem dX1_isExponent_16 : decode cX1_isExponent 16 = .ok (.iconst 0, 1) := by decide +kernel
theorem dX1_isExponent_17 : decode cX1_isExponent 17 = .ok (.ireturn, 1) := by decide +kernel
set_option maxRecDepth 20000 in
theorem ggX1_raised_X3_power : GoodIn wsX1_raised wsX3_power := goodIn_r _ [5, 6, 7, 4, 8] (by decide +kernel) (by decide +kernel)
set_option maxRecDepth 20000 in
theorem gX1_raised_X3_power : GoodIn wsX1_raised (va_wsS RX1 29 yX3_power wsX3_power) := goodIn_app (goodIn_of _ (by decide +kernel)) ggX1_raised_X3_power
theorem dX1_raised_0 : decode cX1_raised 0 = .ok (.iload_n 1, 1) := by decide +kernel
theorem dX1_raised_1 : decode cX1_raised 1 = .ok (.iload_n 2, 1) := by decide +kernel
theorem dX1_raised_2 : decode cX1_raised 2 = .ok (.aload_n 0, 1) := by decide +kernel
theorem dX1_raised_3 : decode cX1_raised 3 = .ok (.getfield 9, 3) := by decide +kernel
theorem dX1_raised_6 : decode cX1_raised 6 = .ok (.invokestatic 29, 3) := by decide +kernel
theorem dX1_raised_9 : decode cX1_raised 9 = .ok (.ireturn, 1) := by decide +kernel
def bI (P : Prop) [Decidable P] : Int32 := if P then 1 else 0
theorem bI_t {P : Prop} [Decidable P] (h : P) : (1 : Int32) = bI P := (if_pos h).symm
theorem bI_f {P : Prop} [Decidable P] (h : ¬ P) : (0 : Int32) = bI P := (if_neg h).symm
theorem bI_1 {P : Prop} [Decidable P] (h : ¬ bI P = 0) : P := Decidable.byContradiction (fun q => h (bI_f q).symm)
theorem bI_0 {P : Prop} [Decidable P] (h : bI P = 0) : ¬ P := fun q => by rw [← bI_t q] at h; exact absurd h (by decide)
set_option maxHeartbeats 4000000 in
set_option maxRecDepth 100000 in
theorem c_X1_modulus (l : Launch) (D : va_G) (cA : Nat → ClassId) (g : Nat) (gp : Int32) (gq : Int32) (gh : Int32) : Met l yX1_modulus wsX1_modulus ({ frames := 0, cells := 0, slots := 0, locals := 0 }) (rPc vwCl D cA [(g, .inr (1, [.int gp, .int gq, .int gh]))] [.ref g]) (rq_x (some (.int gp))) 0 0 (fun _ => False) := by
  refine Met.ofW (cc := cX1_modulus) (maxL := 1) (ret := (some .int)) (by decide) rfl ?_
  intro p e s m args below meth c s₁ B hml hv
  obtain ⟨rfl, hP, hK⟩ := hv
  have hx := B.exec
  have hb := B.bytes
  have hr := B.returns
  have hts := atoms_spec (ws := wsX1_modulus) B.pre
  have hown : s.vm.findClass RX1 = some m.cls := findClass_of_methodNamed B.named
  have hlocks := B.notSynchronized
  have hin_X1 : ∀ w ∈ wsX10, w ∈ wsX1_modulus := fun w h => List.mem_cons_of_mem _ (List.mem_append_right _ h)
  have w_RX1_9 := hts (.fieldLink RX1 9 "MixElection$Group" "prime" "I") (by decide +kernel)
  have hl := lv_entry ([.ref g]) (n := 1) (Nat.le_of_ble_eq_true rfl)
  rw [lg_entry_eq]
  generalize (lg_sl ([.ref g]) ++ List.replicate (1 - (lg_sl ([.ref g])).length) Slot.unset).toArray = ls at hl ⊢
  have hl : lv_has ls 1 [(0, .ref g)] := hl
  refine lv_aload_n hx hb dX1_modulus_0 rfl (lv_at hl 0 rfl) ?_
  refine va_get (D := D) (ci := 1) (v := .int gp) (C := RX1) (T := TX1) (N := 3) hx hb hts hin_X1 hown hK hP 0 rfl rfl 0 (by decide) (w_RX1_9) (fun _ h9 => h9) rfl dX1_modulus_1 ?_
  exact W.iret (v := gp) hx hb hr (fun t ht hW => ⟨congrArg (fun z => Outcome.returned (some (Value.int z))) (rfl), ht⟩) (fun _ h => by cases h) dX1_modulus_4

set_option maxHeartbeats 4000000 in
set_option maxRecDepth 100000 in
theorem c_X1_order (l : Launch) (D : va_G) (cA : Nat → ClassId) (g : Nat) (gp : Int32) (gq : Int32) (gh : Int32) : Met l yX1_order wsX1_order ({ frames := 0, cells := 0, slots := 0, locals := 0 }) (rPc vwCl D cA [(g, .inr (1, [.int gp, .int gq, .int gh]))] [.ref g]) (rq_x (some (.int gq))) 0 0 (fun _ => False) := by
  refine Met.ofW (cc := cX1_order) (maxL := 1) (ret := (some .int)) (by decide) rfl ?_
  intro p e s m args below meth c s₁ B hml hv
  obtain ⟨rfl, hP, hK⟩ := hv
  have hx := B.exec
  have hb := B.bytes
  have hr := B.returns
  have hts := atoms_spec (ws := wsX1_order) B.pre
  have hown : s.vm.findClass RX1 = some m.cls := findClass_of_methodNamed B.named
  have hlocks := B.notSynchronized
  have hin_X1 : ∀ w ∈ wsX10, w ∈ wsX1_order := fun w h => List.mem_cons_of_mem _ (List.mem_append_right _ h)
  have w_RX1_15 := hts (.fieldLink RX1 15 "MixElection$Group" "half" "I") (by decide +kernel)
  have hl := lv_entry ([.ref g]) (n := 1) (Nat.le_of_ble_eq_true rfl)
  rw [lg_entry_eq]
  generalize (lg_sl ([.ref g]) ++ List.replicate (1 - (lg_sl ([.ref g])).length) Slot.unset).toArray = ls at hl ⊢
  have hl : lv_has ls 1 [(0, .ref g)] := hl
  refine lv_aload_n hx hb dX1_order_0 rfl (lv_at hl 0 rfl) ?_
  refine va_get (D := D) (ci := 1) (v := .int gq) (C := RX1) (T := TX1) (N := 3) hx hb hts hin_X1 hown hK hP 0 rfl rfl 1 (by decide) (w_RX1_15) (fun _ h9 => h9) rfl dX1_order_1 ?_
  exact W.iret (v := gq) hx hb hr (fun t ht hW => ⟨congrArg (fun z => Outcome.returned (some (Value.int z))) (rfl), ht⟩) (fun _ h => by cases h) dX1_order_4

set_option maxHeartbeats 4000000 in
set_option maxRecDepth 100000 in
theorem c_X1_publicKey (l : Launch) (D : va_G) (cA : Nat → ClassId) (g : Nat) (gp : Int32) (gq : Int32) (gh : Int32) : Met l yX1_publicKey wsX1_publicKey ({ frames := 0, cells := 0, slots := 0, locals := 0 }) (rPc vwCl D cA [(g, .inr (1, [.int gp, .int gq, .int gh]))] [.ref g]) (rq_x (some (.int gh))) 0 0 (fun _ => False) := by
  refine Met.ofW (cc := cX1_publicKey) (maxL := 1) (ret := (some .int)) (by decide) rfl ?_
  intro p e s m args below meth c s₁ B hml hv
  obtain ⟨rfl, hP, hK⟩ := hv
  have hx := B.exec
  have hb := B.bytes
  have hr := B.returns
  have hts := atoms_spec (ws := wsX1_publicKey) B.pre
  have hown : s.vm.findClass RX1 = some m.cls := findClass_of_methodNamed B.named
  have hlocks := B.notSynchronized
  have hin_X1 : ∀ w ∈ wsX10, w ∈ wsX1_publicKey := fun w h => List.mem_cons_of_mem _ (List.mem_append_right _ h)
  have w_RX1_18 := hts (.fieldLink RX1 18 "MixElection$Group" "told" "I") (by decide +kernel)
  have hl := lv_entry ([.ref g]) (n := 1) (Nat.le_of_ble_eq_true rfl)
  rw [lg_entry_eq]
  generalize (lg_sl ([.ref g]) ++ List.replicate (1 - (lg_sl ([.ref g])).length) Slot.unset).toArray = ls at hl ⊢
  have hl : lv_has ls 1 [(0, .ref g)] := hl
  refine lv_aload_n hx hb dX1_publicKey_0 rfl (lv_at hl 0 rfl) ?_
  refine va_get (D := D) (ci := 1) (v := .int gh) (C := RX1) (T := TX1) (N := 3) hx hb hts hin_X1 hown hK hP 0 rfl rfl 2 (by decide) (w_RX1_18) (fun _ h9 => h9) rfl dX1_publicKey_1 ?_
  exact W.iret (v := gh) hx hb hr (fun t ht hW => ⟨congrArg (fun z => Outcome.returned (some (Value.int z))) (rfl), ht⟩) (fun _ h => by cases h) dX1_publicKey_4

set_option maxHeartbeats 4000000 in
set_option maxRecDepth 100000 in
theorem c_X1_init (l : Launch) (D : va_G) (cA : Nat → ClassId) (g : Nat) (gp : Int32) (gq : Int32) (hq : (gp - 1) / 2 = gq) : Met l yX1_init wsX1_init ({ frames := 1, cells := 0, slots := 0, locals := 20 }) (wPc vwCl D cA [(g, .inr (1, [.int 0, .int 0, .int 0]))] [.ref g, .int gp]) (wq_x vwCl D [(g, .inr (1, [.int gp, .int gq, .int 0]))] none (wA [(g, .inr (1, [.int 0, .int 0, .int 0]))])) 0 0 (wA [(g, .inr (1, [.int 0, .int 0, .int 0]))]) := by
  refine Met.ofW (cc := cX1_init) (maxL := 2) (ret := none) (by decide) rfl ?_
  intro p e s m args below meth c s₁ B hml hv
  obtain ⟨rfl, hP, hK, hD0⟩ := hv
  have hx := B.exec
  have hb := B.bytes
  have hr := B.returns
  have hts := atoms_spec (ws := wsX1_init) B.pre
  have hown : s.vm.findClass RX1 = some m.cls := findClass_of_methodNamed B.named
  have hlocks := B.notSynchronized
  have hin : meth.name = "<init>" := (name_of_methodNamed B.named B.method).1
  have hin_X1 : ∀ w ∈ wsX10, w ∈ wsX1_init := fun w h => List.mem_cons_of_mem _ (List.mem_append_right _ h)
  have w_RX1_9 := hts (.fieldLink RX1 9 "MixElection$Group" "prime" "I") (by decide +kernel)
  have w_RX1_15 := hts (.fieldLink RX1 15 "MixElection$Group" "half" "I") (by decide +kernel)
  have hD : va_D (wA [(g, .inr (1, [.int 0, .int 0, .int 0]))]) [(g, .inr (1, [.int 0, .int 0, .int 0]))] := ⟨hD0.1, fun k q h => List.mem_map.mpr ⟨q, List.mem_of_getElem? h, rfl⟩⟩
  have hS : va_S (wA [(g, .inr (1, [.int 0, .int 0, .int 0]))]) s.heap s.heap [] := va_S.rf
  generalize hAe : wA [(g, .inr (1, [.int 0, .int 0, .int 0]))] = A at hD hS ⊢
  have hP : va_P D vwCl [(g, .inr (1, [.int 0, .int 0, .int 0]))] s.heap := hP
  have hl := lv_entry ([.ref g, .int gp]) (n := 2) (Nat.le_of_ble_eq_true rfl)
  rw [lg_entry_eq]
  generalize (lg_sl ([.ref g, .int gp]) ++ List.replicate (2 - (lg_sl ([.ref g, .int gp])).length) Slot.unset).toArray = ls at hl ⊢
  have hl : lv_has ls 2 [(0, .ref g), (1, .int gp)] := hl
  refine lv_aload_n hx hb dX1_init_0 rfl (lv_at hl 0 rfl) ?_
  refine W.objInit hx hb hown (hts (.methodLink RX1 3 objectInit) (by decide +kernel)) (hts (.instanceMethod objectInit) (by decide +kernel)) (hts (.code objectInit ⟨#[0xb1]⟩ 1 none) (by decide +kernel)) rfl (by rw [hml]; exact hl.1) rfl dX1_init_1 (Nat.le_of_ble_eq_true rfl) (Nat.le_of_ble_eq_true rfl) ?_
  refine W.eq (g2 := F0 m 4 ls []) rfl ?_
  refine lv_aload_n hx hb dX1_init_4 rfl (lv_at hl 0 rfl) ?_
  refine lv_iload_n hx hb dX1_init_5 rfl (lv_at hl 1 rfl) ?_
  refine va_putF (D := D) (ci := 1) (v := .int gp) (ty := .int) (C := RX1) (T := TX1) (N := 3) hx hb hts hin_X1 tyX1 tyX1_ok nmX1 hown hK hP hD hS 0 rfl rfl 0 (by decide) (w_RX1_9) (fun _ h9 => h9) rfl hin rfl (by decide +kernel) rfl rfl (Nat.le_of_ble_eq_true rfl) dX1_init_6 (fun H locs hP hD hS => ?_)
  have hP : va_P D vwCl [(g, .inr (1, [.int gp, .int 0, .int 0]))] H := hP
  have hD : va_D A [(g, .inr (1, [.int gp, .int 0, .int 0]))] := hD
  refine lv_aload_n hx hb dX1_init_9 rfl (lv_at hl 0 rfl) ?_
  refine lv_iload_n hx hb dX1_init_10 rfl (lv_at hl 1 rfl) ?_
  refine lv_iconst (v := 1) hx hb dX1_init_11 (by decide) ?_
  refine lv_isub hx hb dX1_init_12 ?_
  refine lv_iconst (v := 2) hx hb dX1_init_13 (by decide) ?_
  refine lv_idiv hx hb dX1_init_14 (by decide) ?_
  rw [hq]
  refine va_putF (D := D) (ci := 1) (v := .int gq) (ty := .int) (C := RX1) (T := TX1) (N := 3) hx hb hts hin_X1 tyX1 tyX1_ok nmX1 hown hK hP hD hS 0 rfl rfl 1 (by decide) (w_RX1_15) (fun _ h9 => h9) rfl hin rfl (by decide +kernel) rfl rfl (Nat.le_of_ble_eq_true rfl) dX1_init_15 (fun H locs hP hD hS => ?_)
  have hP : va_P D vwCl [(g, .inr (1, [.int gp, .int gq, .int 0]))] H := hP
  have hD : va_D A [(g, .inr (1, [.int gp, .int gq, .int 0]))] := hD
  have hP9 : va_P D vwCl [(g, .inr (1, [.int gp, .int gq, .int 0]))] H := hP
  exact W.vret hx hb hr (fun t ht hW => ⟨rfl, by rw [ht]; exact hP9, hS.F ht⟩) hS.2.2 dX1_init_18

set_option maxHeartbeats 4000000 in
set_option maxRecDepth 100000 in
theorem c_X1_isExponent (l : Launch) (D : va_G) (cA : Nat → ClassId) (g : Nat) (gp : Int32) (gq : Int32) (gh : Int32) (v : Int32) : Met l yX1_isExponent wsX1_isExponent ({ frames := 0, cells := 0, slots := 0, locals := 0 }) (rPc vwCl D cA [(g, .inr (1, [.int gp, .int gq, .int gh]))] [.ref g, .int v]) (rq_x (some (.int (bI (0 ≤ v ∧ v < gq))))) 0 0 (fun _ => False) := by
  refine Met.ofW (cc := cX1_isExponent) (maxL := 2) (ret := (some .boolean)) (by decide) rfl ?_
  intro p e s m args below meth c s₁ B hml hv
  obtain ⟨rfl, hP, hK⟩ := hv
  have hx := B.exec
  have hb := B.bytes
  have hr := B.returns
  have hts := atoms_spec (ws := wsX1_isExponent) B.pre
  have hown : s.vm.findClass RX1 = some m.cls := findClass_of_methodNamed B.named
  have hlocks := B.notSynchronized
  have hin_X1 : ∀ w ∈ wsX10, w ∈ wsX1_isExponent := fun w h => List.mem_cons_of_mem _ (List.mem_append_right _ h)
  have w_RX1_15 := hts (.fieldLink RX1 15 "MixElection$Group" "half" "I") (by decide +kernel)
  have hl := lv_entry ([.ref g, .int v]) (n := 2) (Nat.le_of_ble_eq_true rfl)
  rw [lg_entry_eq]
  generalize (lg_sl ([.ref g, .int v]) ++ List.replicate (2 - (lg_sl ([.ref g, .int v])).length) Slot.unset).toArray = ls at hl ⊢
  have hl : lv_has ls 2 [(0, .ref g), (1, .int v)] := hl
  refine lv_iload_n hx hb dX1_isExponent_0 rfl (lv_at hl 1 rfl) ?_
  refine lv_if_lt (tgt := 16) hx hb dX1_isExponent_1 (by decide) (fun c_1 => ?_) (fun c_1 => ?_)
  · skip
    refine lv_iconst (v := 0) hx hb dX1_isExponent_16 (by decide) ?_
    exact W.zret (v := 0) hx hb hr rfl (fun t ht hW => ⟨congrArg (fun z => Outcome.returned (some (Value.int z))) (bI_f (fun h => absurd c_1 (Int32.not_lt.mpr h.1))), ht⟩) (fun _ h => by cases h) dX1_isExponent_17
  · skip
    refine lv_iload_n hx hb dX1_isExponent_4 rfl (lv_at hl 1 rfl) ?_
    refine lv_aload_n hx hb dX1_isExponent_5 rfl (lv_at hl 0 rfl) ?_
    refine va_get (D := D) (ci := 1) (v := .int gq) (C := RX1) (T := TX1) (N := 3) hx hb hts hin_X1 hown hK hP 0 rfl rfl 1 (by decide) (w_RX1_15) (fun _ h9 => h9) rfl dX1_isExponent_6 ?_
    refine lv_icmp_ge (tgt := 16) hx hb dX1_isExponent_9 (by decide) (fun c_9 => ?_) (fun c_9 => ?_)
    · skip
      refine lv_iconst (v := 0) hx hb dX1_isExponent_16 (by decide) ?_
      exact W.zret (v := 0) hx hb hr rfl (fun t ht hW => ⟨congrArg (fun z => Outcome.returned (some (Value.int z))) (bI_f (fun h => absurd h.2 (Int32.not_lt.mpr c_9))), ht⟩) (fun _ h => by cases h) dX1_isExponent_17
    · skip
      refine lv_iconst (v := 1) hx hb dX1_isExponent_12 (by decide) ?_
      refine lv_goto (tgt := 17) hx hb dX1_isExponent_13 (by decide) ?_
      exact W.zret (v := 1) hx hb hr rfl (fun t ht hW => ⟨congrArg (fun z => Outcome.returned (some (Value.int z))) (bI_t ⟨Int32.not_lt.mp c_1, Int32.not_le.mp c_9⟩), ht⟩) (fun _ h => by cases h) dX1_isExponent_17

set_option maxHeartbeats 4000000 in
set_option maxRecDepth 100000 in
theorem c_X1_raised (l : Launch) (D : va_G) (cA : Nat → ClassId) (g : Nat) (gp : Int32) (gq : Int32) (gh : Int32) (a : Int32) (x : Int32) (x0 : Nat) (hx0 : x = nI x0) (hX : x0 < 2 ^ 31) (hq : 0 < gp) : Met l yX1_raised wsX1_raised ({ frames := 2, cells := 0, slots := 0, locals := 47 }) (rPc vwCl D cA [(g, .inr (1, [.int gp, .int gq, .int gh]))] [.ref g, .int a, .int x]) (rq_x (some (.int (pw gp 32 x0 1 a)))) 0 0 (fun _ => False) := by
  refine Met.ofW (cc := cX1_raised) (maxL := 3) (ret := (some .int)) (by decide) rfl ?_
  intro p e s m args below meth c s₁ B hml hv
  obtain ⟨rfl, hP, hK⟩ := hv
  have hx := B.exec
  have hb := B.bytes
  have hr := B.returns
  have hts := atoms_spec (ws := wsX1_raised) B.pre
  have hown : s.vm.findClass RX1 = some m.cls := findClass_of_methodNamed B.named
  have hlocks := B.notSynchronized
  have hin_X1 : ∀ w ∈ wsX10, w ∈ wsX1_raised := fun w h => List.mem_cons_of_mem _ (List.mem_append_right _ h)
  have w_RX1_9 := hts (.fieldLink RX1 9 "MixElection$Group" "prime" "I") (by decide +kernel)
  have hl := lv_entry ([.ref g, .int a, .int x]) (n := 3) (Nat.le_of_ble_eq_true rfl)
  rw [lg_entry_eq]
  generalize (lg_sl ([.ref g, .int a, .int x]) ++ List.replicate (3 - (lg_sl ([.ref g, .int a, .int x])).length) Slot.unset).toArray = ls at hl ⊢
  have hl : lv_has ls 3 [(0, .ref g), (1, .int a), (2, .int x)] := hl
  refine lv_iload_n hx hb dX1_raised_0 rfl (lv_at hl 1 rfl) ?_
  refine lv_iload_n hx hb dX1_raised_1 rfl (lv_at hl 2 rfl) ?_
  refine lv_aload_n hx hb dX1_raised_2 rfl (lv_at hl 0 rfl) ?_
  refine va_get (D := D) (ci := 1) (v := .int gp) (C := RX1) (T := TX1) (N := 3) hx hb hts hin_X1 hown hK hP 0 rfl rfl 0 (by decide) (w_RX1_9) (fun _ h9 => h9) rfl dX1_raised_3 ?_
  refine rq_call1 (v := .int (pw gp 32 x0 1 a)) (rn_S (As := [.int a, .int x, .int gp]) (rest := []) ⟨hx, hb, hml, hown, hts⟩ (c_X3_power l D cA a x gp x0 hx0 hX hq) (va_cwS 3 hts gX1_raised_X3_power rfl rfl rfl (by decide +kernel) ⟨Nat.le_of_ble_eq_true rfl, Nat.le_of_ble_eq_true rfl⟩) hK hP [] rfl rfl hl.1 rfl (Nat.le_of_ble_eq_true rfl) dX1_raised_6 ⟨Nat.le_of_ble_eq_true rfl, Nat.le_of_ble_eq_true rfl⟩) ?_
  exact W.iret (v := (pw gp 32 x0 1 a)) hx hb hr (fun t ht hW => ⟨congrArg (fun z => Outcome.returned (some (Value.int z))) (rfl), ht⟩) (fun _ h => by cases h) dX1_raised_9

set_option maxHeartbeats 4000000 in
set_option maxRecDepth 100000 in
theorem c_X1_tellKey (l : Launch) (D : va_G) (cA : Nat → ClassId) (g : Nat) (gp : Int32) (gq : Int32) (gh : Int32) (x : Int32) (x0 : Nat) (hx0 : x = nI x0) (hX : x0 < 2 ^ 31) (hq : 0 < gp) : Met l yX1_tellKey wsX1_tellKey ({ frames := 3, cells := 0, slots := 0, locals := 69 }) (wPc vwCl D cA [(g, .inr (1, [.int gp, .int gq, .int gh]))] [.ref g, .int x]) (wq_x vwCl D [(g, .inr (1, [.int gp, .int gq, .int (pw gp 32 x0 1 4)]))] none (wA [(g, .inr (1, [.int gp, .int gq, .int gh]))])) 0 0 (wA [(g, .inr (1, [.int gp, .int gq, .int gh]))]) := by
  refine Met.ofW (cc := cX1_tellKey) (maxL := 2) (ret := none) (by decide) rfl ?_
  intro p e s m args below meth c s₁ B hml hv
  obtain ⟨rfl, hP, hK, hD0⟩ := hv
  have hx := B.exec
  have hb := B.bytes
  have hr := B.returns
  have hts := atoms_spec (ws := wsX1_tellKey) B.pre
  have hown : s.vm.findClass RX1 = some m.cls := findClass_of_methodNamed B.named
  have hlocks := B.notSynchronized
  have hin_X1 : ∀ w ∈ wsX10, w ∈ wsX1_tellKey := fun w h => List.mem_cons_of_mem _ (List.mem_append_right _ h)
  have w_RX1_18 := hts (.fieldLink RX1 18 "MixElection$Group" "told" "I") (by decide +kernel)
  have hD : va_D (wA [(g, .inr (1, [.int gp, .int gq, .int gh]))]) [(g, .inr (1, [.int gp, .int gq, .int gh]))] := ⟨hD0.1, fun k q h => List.mem_map.mpr ⟨q, List.mem_of_getElem? h, rfl⟩⟩
  have hS : va_S (wA [(g, .inr (1, [.int gp, .int gq, .int gh]))]) s.heap s.heap [] := va_S.rf
  generalize hAe : wA [(g, .inr (1, [.int gp, .int gq, .int gh]))] = A at hD hS ⊢
  have hP : va_P D vwCl [(g, .inr (1, [.int gp, .int gq, .int gh]))] s.heap := hP
  have hl := lv_entry ([.ref g, .int x]) (n := 2) (Nat.le_of_ble_eq_true rfl)
  rw [lg_entry_eq]
  generalize (lg_sl ([.ref g, .int x]) ++ List.replicate (2 - (lg_sl ([.ref g, .int x])).length) Slot.unset).toArray = ls at hl ⊢
  have hl : lv_has ls 2 [(0, .ref g), (1, .int x)] := hl
  refine lv_aload_n hx hb dX1_tellKey_0 rfl (lv_at hl 0 rfl) ?_
  refine lv_aload_n hx hb dX1_tellKey_1 rfl (lv_at hl 0 rfl) ?_
  refine lv_iconst (v := 4) hx hb dX1_tellKey_2 (by decide) ?_
  refine lv_iload_n hx hb dX1_tellKey_3 rfl (lv_at hl 1 rfl) ?_
  refine rq_call1 (v := .int (pw gp 32 x0 1 4)) (rn_V (As := [.int 4, .int x]) (rest := [.ref g]) (ci := 1) (fs := [.int gp, .int gq, .int gh]) ⟨hx, hb, hml, hown, hts⟩ (c_X1_raised l D cA g gp gq gh 4 x x0 hx0 hX hq) rfl (cwV 2 hts gX1_tellKey_X1_raised rfl rfl rfl (by decide +kernel) ⟨Nat.le_of_ble_eq_true rfl, Nat.le_of_ble_eq_true rfl⟩) hK hP [0] rfl rfl rfl hl.1 rfl (Nat.le_of_ble_eq_true rfl) dX1_tellKey_4 ⟨Nat.le_of_ble_eq_true rfl, Nat.le_of_ble_eq_true rfl⟩) ?_
  refine va_put (D := D) (ci := 1) (v := .int (pw gp 32 x0 1 4)) (ty := .int) (C := RX1) (T := TX1) (N := 3) hx hb hts hin_X1 tyX1 tyX1_ok nmX1 hown hK hP hD hS 0 rfl rfl 2 (by decide) (w_RX1_18) (fun _ h9 => h9) rfl (by decide +kernel) rfl rfl (Nat.le_of_ble_eq_true rfl) dX1_tellKey_7 (fun H locs hP hD hS => ?_)
  have hP : va_P D vwCl [(g, .inr (1, [.int gp, .int gq, .int (pw gp 32 x0 1 4)]))] H := hP
  have hD : va_D A [(g, .inr (1, [.int gp, .int gq, .int (pw gp 32 x0 1 4)]))] := hD
  have hP9 : va_P D vwCl [(g, .inr (1, [.int gp, .int gq, .int (pw gp 32 x0 1 4)]))] H := hP
  exact W.vret hx hb hr (fun t ht hW => ⟨rfl, by rw [ht]; exact hP9, hS.F ht⟩) hS.2.2 dX1_tellKey_10
