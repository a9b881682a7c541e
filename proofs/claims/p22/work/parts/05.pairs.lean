set_option maxRecDepth 20000 in
theorem ggX2_clear_J7_fill_53178 : GoodIn wsX2_clear wsJ7_fill_53178 := goodIn_r _ [6] (by decide +kernel) (by decide +kernel)
set_option maxRecDepth 20000 in
theorem gX2_clear_J7_fill_53178 : GoodIn wsX2_clear (va_wsS RX2 21 yJ7_fill_53178 wsJ7_fill_53178) := goodIn_app (goodIn_of _ (by decide +kernel)) ggX2_clear_J7_fill_53178
theorem dX2_clear_0 : decode cX2_clear 0 = .ok (.aload_n 0, 1) := by decide +kernel
theorem dX2_clear_1 : decode cX2_clear 1 = .ok (.getfield 9, 3) := by decide +kernel
theorem dX2_clear_4 : decode cX2_clear 4 = .ok (.iconst (-1), 1) := by decide +kernel
theorem dX2_clear_5 : decode cX2_clear 5 = .ok (.invokestatic 21, 3) := by decide +kernel
theorem dX2_clear_8 : decode cX2_clear 8 = .ok (.aload_n 0, 1) := by decide +kernel
theorem dX2_clear_9 : decode cX2_clear 9 = .ok (.getfield 15, 3) := by decide +kernel
theorem dX2_clear_12 : decode cX2_clear 12 = .ok (.iconst (-1), 1) := by decide +kernel
theorem dX2_clear_13 : decode cX2_clear 13 = .ok (.invokestatic 21, 3) := by decide +kernel
theorem dX2_clear_16 : decode cX2_clear 16 = .ok (.return_, 1) := by decide +kernel
set_option maxRecDepth 20000 in
theorem ggX4_clear_J7_fill_53178 : GoodIn wsX4_clear wsJ7_fill_53178 := goodIn_r _ [6] (by decide +kernel) (by decide +kernel)
set_option maxRecDepth 20000 in
theorem gX4_clear_J7_fill_53178 : GoodIn wsX4_clear (va_wsS RX4 21 yJ7_fill_53178 wsJ7_fill_53178) := goodIn_app (goodIn_of _ (by decide +kernel)) ggX4_clear_J7_fill_53178
theorem dX4_clear_0 : decode cX4_clear 0 = .ok (.aload_n 0, 1) := by decide +kernel
theorem dX4_clear_1 : decode cX4_clear 1 = .ok (.getfield 9, 3) := by decide +kernel
theorem dX4_clear_4 : decode cX4_clear 4 = .ok (.iconst (-1), 1) := by decide +kernel
theorem dX4_clear_5 : decode cX4_clear 5 = .ok (.invokestatic 21, 3) := by decide +kernel
theorem dX4_clear_8 : decode cX4_clear 8 = .ok (.aload_n 0, 1) := by decide +kernel
theorem dX4_clear_9 : decode cX4_clear 9 = .ok (.getfield 15, 3) := by decide +kernel
theorem dX4_clear_12 : decode cX4_clear 12 = .ok (.iconst (-1), 1) := by decide +kernel
theorem dX4_clear_13 : decode cX4_clear 13 = .ok (.invokestatic 21, 3) := by decide +kernel
theorem dX4_clear_16 : decode cX4_clear 16 = .ok (.return_, 1) := by decide +kernel
theorem dJ7_fill_53178_0 : decode cJ7_fill_53178 0 = .ok (.iconst 0, 1) := by decide +kernel
theorem dJ7_fill_53178_1 : decode cJ7_fill_53178 1 = .ok (.istore_n 2, 1) := by decide +kernel
theorem dJ7_fill_53178_2 : decode cJ7_fill_53178 2 = .ok (.aload_n 0, 1) := by decide +kernel
theorem dJ7_fill_53178_3 : decode cJ7_fill_53178 3 = .ok (.arraylength, 1) := by decide +kernel
theorem dJ7_fill_53178_4 : decode cJ7_fill_53178 4 = .ok (.istore_n 3, 1) := by decide +kernel
theorem dJ7_fill_53178_5 : decode cJ7_fill_53178 5 = .ok (.iload_n 2, 1) := by decide +kernel
theorem dJ7_fill_53178_6 : decode cJ7_fill_53178 6 = .ok (.iload_n 3, 1) := by decide +kernel
theorem dJ7_fill_53178_7 : decode cJ7_fill_53178 7 = .ok (.if_icmp .ge 13, 3) := by decide +kernel
theorem dJ7_fill_53178_10 : decode cJ7_fill_53178 10 = .ok (.aload_n 0, 1) := by decide +kernel
theorem dJ7_fill_53178_11 : decode cJ7_fill_53178 11 = .ok (.iload_n 2, 1) := by decide +kernel
theorem dJ7_fill_53178_12 : decode cJ7_fill_53178 12 = .ok (.iload_n 1, 1) := by decide +kernel
theorem dJ7_fill_53178_13 : decode cJ7_fill_53178 13 = .ok (.iastore, 1) := by decide +kernel
theorem dJ7_fill_53178_14 : decode cJ7_fill_53178 14 = .ok (.iinc 2 1, 3) := by decide +kernel
theorem dJ7_fill_53178_17 : decode cJ7_fill_53178 17 = .ok (.goto (-12), 3) := by decide +kernel
theorem dJ7_fill_53178_20 : decode cJ7_fill_53178 20 = .ok (.return_, 1) := by decide +kernel
theorem fl_c {z : Int32} {k n : Nat} (hz : z = nI k) (hn : n < 2 ^ 31) (h2 : k ≤ n) : Int32.ofNat n ≤ z ↔ n ≤ k := by
  rw [hz]; exact nI_leI (a := n) (b := k) hn (by omega)
theorem fl_lt {z : Int32} {k n : Nat} (hz : z = nI k) (hn : n < 2 ^ 31) (h2 : k ≤ n) (c : ¬ Int32.ofNat n ≤ z) : k + 1 ≤ n := by
  rw [fl_c hz hn h2] at c; omega
theorem fl_in {z : Int32} {k n : Nat} (hz : z = nI k) (hn : n < 2 ^ 31) (h2 : k ≤ n) (c : ¬ Int32.ofNat n ≤ z) : vp_in z n := by
  rw [hz]; exact vp_in_nI (fl_lt hz hn h2 c) hn
theorem fl_step {z v : Int32} {k n : Nat} {g : Nat → Int32} (hz : z = nI k) (hn : n < 2 ^ 31) (h2 : k ≤ n) (h3 : ∀ j : Nat, j < k → g j = v) (_ : ¬ Int32.ofNat n ≤ z) : ∀ j : Nat, j < k + 1 → upd g z.toNatClampNeg v j = v := by
  intro j hj
  rw [hz, nI_clamp (by omega)]
  unfold upd
  split
  · rfl
  · exact h3 j (by omega)
theorem fl_all {z v : Int32} {k n : Nat} {g : Nat → Int32} (hz : z = nI k) (hn : n < 2 ^ 31) (h2 : k ≤ n) (h3 : ∀ j : Nat, j < k → g j = v) (c : Int32.ofNat n ≤ z) : ∀ j : Nat, j < n → g j = v := by
  rw [fl_c hz hn h2] at c
  intro j hj
  exact h3 j (by omega)
theorem fl_cell {cA : ClassId} {n : Nat} {f g : Nat → Int32} (h : ∀ j : Nat, j < n → f j = g j) : vp_cell cA (n, .inl f) = vp_cell cA (n, .inl g) := by
  rw [vp_cell_i, vp_cell_i]
  unfold arrV
  congr 1
  apply Array.ext
  · simp
  · intro i h1 h2
    simp at h1 ⊢
    exact h i h1
theorem fl_P {D : va_G} {cA : ClassId} {a n : Nat} {g : Nat → Int32} {v : Int32} {H : Heap} (hP : va_P D vwCl [(a, .inl (cA, n, .inl g))] H) (h : ∀ j : Nat, j < n → g j = v) : va_P D vwCl [(a, .inl (cA, n, .inl (fun _ => v)))] H := by
  refine hP.conv (fun k q hq => ⟨(a, .inl (cA, n, .inl g)), ?_, ?_⟩)
  · have hk : k < 1 := (List.getElem?_eq_some_iff.mp hq).1
    rw [show k = 0 by omega]; rfl
  · have hk : k < 1 := (List.getElem?_eq_some_iff.mp hq).1
    rw [show k = 0 by omega] at hq
    cases hq
    intro h1
    show H[a]? = some (vp_cell cA (n, .inl (fun _ => v)))
    rw [← fl_cell (f := g) (g := fun _ => v) h]
    exact h1
set_option maxHeartbeats 4000000 in
set_option maxRecDepth 100000 in
theorem c_fill (l : Launch) (D : va_G) (cA : Nat → ClassId) (a : Nat) (v : Int32) (n : Nat) (g0 : Nat → Int32) (hn : n < 2 ^ 31) : Met l yJ7_fill_53178 wsJ7_fill_53178 ({ frames := 0, cells := 0, slots := 0, locals := 0 }) (wPc vwCl D cA [(a, .inl (cA 0, n, .inl g0))] [.ref a, .int v]) (wq_x vwCl D [(a, .inl (cA 0, n, .inl (fun _ => v)))] none (wA [(a, .inl (cA 0, n, .inl g0))])) 0 0 (wA [(a, .inl (cA 0, n, .inl g0))]) := by
  refine Met.ofW (cc := cJ7_fill_53178) (maxL := 4) (ret := none) (by decide) rfl ?_
  intro p e s m args below meth c s₁ B hml hv
  obtain ⟨rfl, hP, hK, hD0⟩ := hv
  have hx := B.exec
  have hb := B.bytes
  have hr := B.returns
  have hts := atoms_spec (ws := wsJ7_fill_53178) B.pre
  have hown : s.vm.findClass RJ7 = some m.cls := findClass_of_methodNamed B.named
  have hlocks := B.notSynchronized
  have hD : va_D (wA [(a, .inl (cA 0, n, .inl g0))]) [(a, .inl (cA 0, n, .inl g0))] := ⟨hD0.1, fun k q h => List.mem_map.mpr ⟨q, List.mem_of_getElem? h, rfl⟩⟩
  have hS : va_S (wA [(a, .inl (cA 0, n, .inl g0))]) s.heap s.heap [] := va_S.rf
  generalize hAe : wA [(a, .inl (cA 0, n, .inl g0))] = A at hD hS ⊢
  have hP : va_P D vwCl [(a, .inl (cA 0, n, .inl g0))] s.heap := hP
  have hl := lv_entry ([.ref a, .int v]) (n := 4) (Nat.le_of_ble_eq_true rfl)
  rw [lg_entry_eq]
  generalize (lg_sl ([.ref a, .int v]) ++ List.replicate (4 - (lg_sl ([.ref a, .int v])).length) Slot.unset).toArray = ls at hl ⊢
  have hl : lv_has ls 4 [(0, .ref a), (1, .int v)] := hl
  refine lv_iconst (v := 0) hx hb dJ7_fill_53178_0 (by decide) ?_
  refine lv_istore_n (lv' := [(2, .int 0), (0, .ref a), (1, .int v)]) hx hb dJ7_fill_53178_1 rfl hl (by decide) rfl (fun ls hl => ?_)
  refine lv_aload_n hx hb dJ7_fill_53178_2 rfl (lv_at hl 1 rfl) ?_
  refine va_alen (v := (Int32.ofNat n)) hx hb hK hP 0 0 rfl rfl rfl dJ7_fill_53178_3 ?_
  refine lv_istore_n (lv' := [(3, .int (Int32.ofNat n)), (2, .int 0), (0, .ref a), (1, .int v)]) hx hb dJ7_fill_53178_4 rfl hl (by decide) rfl (fun ls hl => ?_)
  have loop5 : ∀ (f k : Nat) (z : Int32) (g : Nat → Int32), z = nI k → n + 1 ≤ k + f → k ≤ n → (∀ j : Nat, j < k → g j = v) → ∀ (H : Heap) (locs : List Loc), va_P D vwCl [(a, .inl (cA 0, n, .inl g))] H → va_D A [(a, .inl (cA 0, n, .inl g))] → va_S A s.heap H locs → ∀ ls : Array Slot, lv_has ls 4 [(0, .ref a), (1, .int v), (2, .int z), (3, .int (Int32.ofNat n))] → W p l e (headSpec wsJ7_fill_53178 ({ frames := 0, cells := 0, slots := 0, locals := 0 })).room s m [.ref a, .int v].toArray below meth c H locs 0 0 (MQ below (wq_x vwCl D [(a, .inl (cA 0, n, .inl (fun _ => v)))] none A) [.ref a, .int v].toArray s 0 0 A) (F0 m 5 ls []) := by
    intro f
    induction f with
    | zero =>
      intro k z g hz h1 h2
      omega
    | succ f ih =>
      intro k z g hz h1 h2 h3 H locs hP hD hS ls hl
      refine lv_iload_n hx hb dJ7_fill_53178_5 rfl (lv_at hl 2 rfl) ?_
      refine lv_iload_n hx hb dJ7_fill_53178_6 rfl (lv_at hl 3 rfl) ?_
      refine lv_icmp_ge (tgt := 20) hx hb dJ7_fill_53178_7 (by decide) (fun c_7 => ?_) (fun c_7 => ?_)
      · skip
        have hP9 : va_P D vwCl [(a, .inl (cA 0, n, .inl (fun _ => v)))] H := fl_P hP (fl_all hz hn h2 h3 c_7)
        exact W.vret hx hb hr (fun t ht hW => ⟨rfl, by rw [ht]; exact hP9, hS.F ht⟩) hS.2.2 dJ7_fill_53178_20
      · skip
        refine lv_aload_n hx hb dJ7_fill_53178_10 rfl (lv_at hl 0 rfl) ?_
        refine lv_iload_n hx hb dJ7_fill_53178_11 rfl (lv_at hl 2 rfl) ?_
        refine lv_iload_n hx hb dJ7_fill_53178_12 rfl (lv_at hl 1 rfl) ?_
        refine va_iast hx hb hK hP hD hS 0 0 rfl rfl (fl_in hz hn h2 c_7) dJ7_fill_53178_13 (fun H locs hP hD hS => ?_)
        have hP : va_P D vwCl [(a, .inl (cA 0, n, .inl (upd g z.toNatClampNeg v)))] H := hP
        have hD : va_D A [(a, .inl (cA 0, n, .inl (upd g z.toNatClampNeg v)))] := hD
        refine lv_iinc (v := (z + 1)) (lv' := [(2, .int (z + 1)), (0, .ref a), (1, .int v), (3, .int (Int32.ofNat n))]) hx hb dJ7_fill_53178_14 hl (k := 2) rfl rfl (by decide) rfl (fun ls hl => ?_)
        refine lv_goto (tgt := 5) hx hb dJ7_fill_53178_17 (by decide) ?_
        exact ih (k + 1) (z + 1) _ (by rw [hz]; exact nI_1 k) (by omega) (fl_lt hz hn h2 c_7) (fl_step hz hn h2 h3 c_7) _ _ hP hD hS ls (lv_sub hl [1, 2, 0, 3] rfl)
  exact loop5 (n + 1) 0 0 g0 rfl (by omega) (by omega) (fun j h => by omega) _ _ hP hD hS ls (lv_sub hl [2, 3, 1, 0] rfl)

set_option maxHeartbeats 4000000 in
set_option maxRecDepth 100000 in
theorem c_X4_clear (l : Launch) (D : va_G) (cA : Nat → ClassId) (h0 : Nat) (a : Nat) (b : Nat) (f : Nat → Int32) (g : Nat → Int32) : Met l yX4_clear wsX4_clear ({ frames := 1, cells := 0, slots := 0, locals := 23 }) (wPc vwCl D cA [(h0, .inr (3, [.ref a, .ref b])), (a, .inl (cA 0, 40, .inl f)), (b, .inl (cA 0, 40, .inl g))] [.ref h0]) (wq_x vwCl D [(h0, .inr (3, [.ref a, .ref b])), (a, .inl (cA 0, 40, .inl (fun _ => -1))), (b, .inl (cA 0, 40, .inl (fun _ => -1)))] none (wA [(h0, .inr (3, [.ref a, .ref b])), (a, .inl (cA 0, 40, .inl f)), (b, .inl (cA 0, 40, .inl g))])) 0 0 (wA [(h0, .inr (3, [.ref a, .ref b])), (a, .inl (cA 0, 40, .inl f)), (b, .inl (cA 0, 40, .inl g))]) := by
  refine Met.ofW (cc := cX4_clear) (maxL := 1) (ret := none) (by decide) rfl ?_
  intro p e s m args below meth c s₁ B hml hv
  obtain ⟨rfl, hP, hK, hD0⟩ := hv
  have hx := B.exec
  have hb := B.bytes
  have hr := B.returns
  have hts := atoms_spec (ws := wsX4_clear) B.pre
  have hown : s.vm.findClass RX4 = some m.cls := findClass_of_methodNamed B.named
  have hlocks := B.notSynchronized
  have hin_X4 : ∀ w ∈ wsX40, w ∈ wsX4_clear := fun w h => List.mem_cons_of_mem _ (List.mem_append_right _ h)
  have w_RX4_9 := hts (.fieldLink RX4 9 "MixElection$Pairs" "firsts" "[I") (by decide +kernel)
  have w_RX4_15 := hts (.fieldLink RX4 15 "MixElection$Pairs" "seconds" "[I") (by decide +kernel)
  have hD : va_D (wA [(h0, .inr (3, [.ref a, .ref b])), (a, .inl (cA 0, 40, .inl f)), (b, .inl (cA 0, 40, .inl g))]) [(h0, .inr (3, [.ref a, .ref b])), (a, .inl (cA 0, 40, .inl f)), (b, .inl (cA 0, 40, .inl g))] := ⟨hD0.1, fun k q h => List.mem_map.mpr ⟨q, List.mem_of_getElem? h, rfl⟩⟩
  have hS : va_S (wA [(h0, .inr (3, [.ref a, .ref b])), (a, .inl (cA 0, 40, .inl f)), (b, .inl (cA 0, 40, .inl g))]) s.heap s.heap [] := va_S.rf
  generalize hAe : wA [(h0, .inr (3, [.ref a, .ref b])), (a, .inl (cA 0, 40, .inl f)), (b, .inl (cA 0, 40, .inl g))] = A at hD hS ⊢
  have hP : va_P D vwCl [(h0, .inr (3, [.ref a, .ref b])), (a, .inl (cA 0, 40, .inl f)), (b, .inl (cA 0, 40, .inl g))] s.heap := hP
  have hl := lv_entry ([.ref h0]) (n := 1) (Nat.le_of_ble_eq_true rfl)
  rw [lg_entry_eq]
  generalize (lg_sl ([.ref h0]) ++ List.replicate (1 - (lg_sl ([.ref h0])).length) Slot.unset).toArray = ls at hl ⊢
  have hl : lv_has ls 1 [(0, .ref h0)] := hl
  refine lv_aload_n hx hb dX4_clear_0 rfl (lv_at hl 0 rfl) ?_
  refine va_get (D := D) (ci := 3) (v := .ref a) (C := RX4) (T := TX4) (N := 2) hx hb hts hin_X4 hown hK hP 0 rfl rfl 0 (by decide) (w_RX4_9) (fun _ h9 => h9) rfl dX4_clear_1 ?_
  refine lv_iconst (v := (-1)) hx hb dX4_clear_4 (by decide) ?_
  refine wq_call0 (wc := [(a, .inl (cA 0, 40, .inl f))]) (w1 := [(a, .inl (cA 0, 40, .inl (fun _ => (-1))))]) (ws' := [(h0, .inr (3, [.ref a, .ref b])), (a, .inl (cA 0, 40, .inl (fun _ => (-1)))), (b, .inl (cA 0, 40, .inl g))]) (wn_S (As := [.ref a, .int (-1)]) (rest := []) ⟨hx, hb, hml, hown, hts⟩ (c_fill l D cA a (-1) 40 f (by decide)) (va_cwS 2 hts gX4_clear_J7_fill_53178 rfl rfl rfl (by decide +kernel) ⟨Nat.le_of_ble_eq_true rfl, Nat.le_of_ble_eq_true rfl⟩) hK hP hD [1] rfl (by decide) rfl rfl hl.1 rfl (Nat.le_of_ble_eq_true rfl) dX4_clear_5 ⟨Nat.le_of_ble_eq_true rfl, Nat.le_of_ble_eq_true rfl⟩) hP hD hS [1] [0, 2] rfl rfl rfl rfl rfl rfl (fun H locs hP hD hS => ?_)
  refine lv_aload_n hx hb dX4_clear_8 rfl (lv_at hl 0 rfl) ?_
  refine va_get (D := D) (ci := 3) (v := .ref b) (C := RX4) (T := TX4) (N := 2) hx hb hts hin_X4 hown hK hP 0 rfl rfl 1 (by decide) (w_RX4_15) (fun _ h9 => h9) rfl dX4_clear_9 ?_
  refine lv_iconst (v := (-1)) hx hb dX4_clear_12 (by decide) ?_
  refine wq_call0 (wc := [(b, .inl (cA 0, 40, .inl g))]) (w1 := [(b, .inl (cA 0, 40, .inl (fun _ => (-1))))]) (ws' := [(h0, .inr (3, [.ref a, .ref b])), (a, .inl (cA 0, 40, .inl (fun _ => (-1)))), (b, .inl (cA 0, 40, .inl (fun _ => (-1))))]) (wn_S (As := [.ref b, .int (-1)]) (rest := []) ⟨hx, hb, hml, hown, hts⟩ (c_fill l D cA b (-1) 40 g (by decide)) (va_cwS 2 hts gX4_clear_J7_fill_53178 rfl rfl rfl (by decide +kernel) ⟨Nat.le_of_ble_eq_true rfl, Nat.le_of_ble_eq_true rfl⟩) hK hP hD [2] rfl (by decide) rfl rfl hl.1 rfl (Nat.le_of_ble_eq_true rfl) dX4_clear_13 ⟨Nat.le_of_ble_eq_true rfl, Nat.le_of_ble_eq_true rfl⟩) hP hD hS [2] [0, 1] rfl rfl rfl rfl rfl rfl (fun H locs hP hD hS => ?_)
  have hP9 : va_P D vwCl [(h0, .inr (3, [.ref a, .ref b])), (a, .inl (cA 0, 40, .inl (fun _ => -1))), (b, .inl (cA 0, 40, .inl (fun _ => -1)))] H := hP
  exact W.vret hx hb hr (fun t ht hW => ⟨rfl, by rw [ht]; exact hP9, hS.F ht⟩) hS.2.2 dX4_clear_16

set_option maxHeartbeats 4000000 in
set_option maxRecDepth 100000 in
theorem c_X2_clear (l : Launch) (D : va_G) (cA : Nat → ClassId) (h0 : Nat) (a : Nat) (b : Nat) (f : Nat → Int32) (g : Nat → Int32) : Met l yX2_clear wsX2_clear ({ frames := 1, cells := 0, slots := 0, locals := 23 }) (wPc vwCl D cA [(h0, .inr (2, [.ref a, .ref b])), (a, .inl (cA 0, 40, .inl f)), (b, .inl (cA 0, 40, .inl g))] [.ref h0]) (wq_x vwCl D [(h0, .inr (2, [.ref a, .ref b])), (a, .inl (cA 0, 40, .inl (fun _ => -1))), (b, .inl (cA 0, 40, .inl (fun _ => -1)))] none (wA [(h0, .inr (2, [.ref a, .ref b])), (a, .inl (cA 0, 40, .inl f)), (b, .inl (cA 0, 40, .inl g))])) 0 0 (wA [(h0, .inr (2, [.ref a, .ref b])), (a, .inl (cA 0, 40, .inl f)), (b, .inl (cA 0, 40, .inl g))]) := by
  refine Met.ofW (cc := cX2_clear) (maxL := 1) (ret := none) (by decide) rfl ?_
  intro p e s m args below meth c s₁ B hml hv
  obtain ⟨rfl, hP, hK, hD0⟩ := hv
  have hx := B.exec
  have hb := B.bytes
  have hr := B.returns
  have hts := atoms_spec (ws := wsX2_clear) B.pre
  have hown : s.vm.findClass RX2 = some m.cls := findClass_of_methodNamed B.named
  have hlocks := B.notSynchronized
  have hin_X2 : ∀ w ∈ wsX20, w ∈ wsX2_clear := fun w h => List.mem_cons_of_mem _ (List.mem_append_right _ h)
  have w_RX2_9 := hts (.fieldLink RX2 9 "MixElection$Moves" "targets" "[I") (by decide +kernel)
  have w_RX2_15 := hts (.fieldLink RX2 15 "MixElection$Moves" "exponents" "[I") (by decide +kernel)
  have hD : va_D (wA [(h0, .inr (2, [.ref a, .ref b])), (a, .inl (cA 0, 40, .inl f)), (b, .inl (cA 0, 40, .inl g))]) [(h0, .inr (2, [.ref a, .ref b])), (a, .inl (cA 0, 40, .inl f)), (b, .inl (cA 0, 40, .inl g))] := ⟨hD0.1, fun k q h => List.mem_map.mpr ⟨q, List.mem_of_getElem? h, rfl⟩⟩
  have hS : va_S (wA [(h0, .inr (2, [.ref a, .ref b])), (a, .inl (cA 0, 40, .inl f)), (b, .inl (cA 0, 40, .inl g))]) s.heap s.heap [] := va_S.rf
  generalize hAe : wA [(h0, .inr (2, [.ref a, .ref b])), (a, .inl (cA 0, 40, .inl f)), (b, .inl (cA 0, 40, .inl g))] = A at hD hS ⊢
  have hP : va_P D vwCl [(h0, .inr (2, [.ref a, .ref b])), (a, .inl (cA 0, 40, .inl f)), (b, .inl (cA 0, 40, .inl g))] s.heap := hP
  have hl := lv_entry ([.ref h0]) (n := 1) (Nat.le_of_ble_eq_true rfl)
  rw [lg_entry_eq]
  generalize (lg_sl ([.ref h0]) ++ List.replicate (1 - (lg_sl ([.ref h0])).length) Slot.unset).toArray = ls at hl ⊢
  have hl : lv_has ls 1 [(0, .ref h0)] := hl
  refine lv_aload_n hx hb dX2_clear_0 rfl (lv_at hl 0 rfl) ?_
  refine va_get (D := D) (ci := 2) (v := .ref a) (C := RX2) (T := TX2) (N := 2) hx hb hts hin_X2 hown hK hP 0 rfl rfl 0 (by decide) (w_RX2_9) (fun _ h9 => h9) rfl dX2_clear_1 ?_
  refine lv_iconst (v := (-1)) hx hb dX2_clear_4 (by decide) ?_
  refine wq_call0 (wc := [(a, .inl (cA 0, 40, .inl f))]) (w1 := [(a, .inl (cA 0, 40, .inl (fun _ => (-1))))]) (ws' := [(h0, .inr (2, [.ref a, .ref b])), (a, .inl (cA 0, 40, .inl (fun _ => (-1)))), (b, .inl (cA 0, 40, .inl g))]) (wn_S (As := [.ref a, .int (-1)]) (rest := []) ⟨hx, hb, hml, hown, hts⟩ (c_fill l D cA a (-1) 40 f (by decide)) (va_cwS 2 hts gX2_clear_J7_fill_53178 rfl rfl rfl (by decide +kernel) ⟨Nat.le_of_ble_eq_true rfl, Nat.le_of_ble_eq_true rfl⟩) hK hP hD [1] rfl (by decide) rfl rfl hl.1 rfl (Nat.le_of_ble_eq_true rfl) dX2_clear_5 ⟨Nat.le_of_ble_eq_true rfl, Nat.le_of_ble_eq_true rfl⟩) hP hD hS [1] [0, 2] rfl rfl rfl rfl rfl rfl (fun H locs hP hD hS => ?_)
  refine lv_aload_n hx hb dX2_clear_8 rfl (lv_at hl 0 rfl) ?_
  refine va_get (D := D) (ci := 2) (v := .ref b) (C := RX2) (T := TX2) (N := 2) hx hb hts hin_X2 hown hK hP 0 rfl rfl 1 (by decide) (w_RX2_15) (fun _ h9 => h9) rfl dX2_clear_9 ?_
  refine lv_iconst (v := (-1)) hx hb dX2_clear_12 (by decide) ?_
  refine wq_call0 (wc := [(b, .inl (cA 0, 40, .inl g))]) (w1 := [(b, .inl (cA 0, 40, .inl (fun _ => (-1))))]) (ws' := [(h0, .inr (2, [.ref a, .ref b])), (a, .inl (cA 0, 40, .inl (fun _ => (-1)))), (b, .inl (cA 0, 40, .inl (fun _ => (-1))))]) (wn_S (As := [.ref b, .int (-1)]) (rest := []) ⟨hx, hb, hml, hown, hts⟩ (c_fill l D cA b (-1) 40 g (by decide)) (va_cwS 2 hts gX2_clear_J7_fill_53178 rfl rfl rfl (by decide +kernel) ⟨Nat.le_of_ble_eq_true rfl, Nat.le_of_ble_eq_true rfl⟩) hK hP hD [2] rfl (by decide) rfl rfl hl.1 rfl (Nat.le_of_ble_eq_true rfl) dX2_clear_13 ⟨Nat.le_of_ble_eq_true rfl, Nat.le_of_ble_eq_true rfl⟩) hP hD hS [2] [0, 1] rfl rfl rfl rfl rfl rfl (fun H locs hP hD hS => ?_)
  have hP9 : va_P D vwCl [(h0, .inr (2, [.ref a, .ref b])), (a, .inl (cA 0, 40, .inl (fun _ => -1))), (b, .inl (cA 0, 40, .inl (fun _ => -1)))] H := hP
  exact W.vret hx hb hr (fun t ht hW => ⟨rfl, by rw [ht]; exact hP9, hS.F ht⟩) hS.2.2 dX2_clear_16
