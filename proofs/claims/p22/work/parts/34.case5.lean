set_option maxHeartbeats 16000000 in
set_option maxRecDepth 100000 in
/-- count -/
theorem law_13 {p : Program} {l : Launch} {e : Env} {s : State} {m : MethodId} {below : List Frame} {meth : Method} {c : Code} {b L : Nat} {xs : Nat → Int32} {D : va_G} {cA : Nat → ClassId} {A : Nat → Prop} {p0 q0 c0 t0 k0 kk v0 st0 n0 b0 mx ro rj mw un : Nat} {xo mo : Nat} {u w : Nat → Nat} {sc : Nat → Int32} {a xA xB g : Nat → Nat → Int32} {lq : Nat → Nat → Int64} {H : Heap} {locs : List Loc} {ls : Array Slot} {z : Int32} (hx : p.tables.exec = Jvm.exec) (hb : c.code = cL_law) (hml : c.maxLocals = 4) (hown : s.vm.findClass RL = some m.cls) (hts : ∀ w ∈ wsL_law, w.before #[Value.ref b] s = true) (hXs : va_X b L xs s s.heap) (hbl : b < s.heap.size) (hbA : ¬ A b) (hK : va_K D vwCl (tyS cA) s) (h : JJ p0 q0 c0 t0 k0 kk v0 st0 n0 b0 mx ro rj mw un sc a xA xB g) (hP : va_P D vwCl (((LWc cA xo u c0 t0 k0 sc a xA xB lq) ++ (LWr cA mo w sc a lq)) ++ (rwT cA (u 51) g (t0 + 1))) H) (hD : va_D A (((LWc cA xo u c0 t0 k0 sc a xA xB lq) ++ (LWr cA mo w sc a lq)) ++ (rwT cA (u 51) g (t0 + 1)))) (hS : va_S A s.heap H locs) (hl : lv_has ls 4 [(0, .ref b), (1, .ref xo), (2, .ref mo), (3, .int z)]) (hz : z = nI (4 + 4 * kk)) (hL : L ≤ 2052) (hkk : kk ≤ 512) (hk5 : kk < 512) (c_63 : ¬ Int32.ofNat L - 4 < z) (ih : ∀ {v0 st0 n0 b0 mx ro rj mw un : Nat} {sc : Nat → Int32} {a xA xB g : Nat → Nat → Int32} {lq : Nat → Nat → Int64}, JJ p0 q0 c0 t0 k0 (kk + 1) v0 st0 n0 b0 mx ro rj mw un sc a xA xB g → ∀ {H : Heap} {locs : List Loc}, va_P D vwCl ((LWc cA xo u c0 t0 k0 sc a xA xB lq ++ LWr cA mo w sc a lq) ++ rwT cA (u 51) g (t0 + 1)) H → va_D A ((LWc cA xo u c0 t0 k0 sc a xA xB lq ++ LWr cA mo w sc a lq) ++ rwT cA (u 51) g (t0 + 1)) → va_S A s.heap H locs → ∀ {ls : Array Slot}, lv_has ls 4 [(0, .ref b), (1, .ref xo), (2, .ref mo), (3, .int (z + 4))] → W p l e room_1 s m #[Value.ref b] below meth c H locs 85 8608 (lw_Z below #[Value.ref b] s) (F0 m 58 ls [])) : W p l e room_1 s m #[Value.ref b] below meth c H locs 85 8608 (lw_Z below #[Value.ref b] s) (F0 m 501 ls []) := by
  have hcst := jj_cst h
  have e0 := jj_e0 h
  have e1 := jj_e1 h
  have e3 := jj_e3 h
  have e4 := jj_e4 h
  have e5 := jj_e5 h
  have e6 := jj_e6 h
  have e7 := jj_e7 h
  have e8 := jj_e8 h
  have e9 := jj_e9 h
  have e10 := jj_e10 h
  have e11 := jj_e11 h
  have hgp : 0 < sc 0 := iv_p e0 (by omega) (by omega)
  have hgq : 0 < sc 1 := iv_p e1 (by omega) (by omega)
  have h6 : n0 < 600 := by omega
  refine lv_aload_n hx hb dL_law_501 rfl (lv_at hl 1 rfl) ?_
  refine lv_aload_n hx hb dL_law_502 rfl (lv_at hl 0 rfl) ?_
  refine lv_iload_n hx hb dL_law_503 rfl (lv_at hl 3 rfl) ?_
  refine lv_iconst (v := 1) hx hb dL_law_504 (by decide) ?_
  refine lv_iadd hx hb dL_law_505 ?_
  refine va_sld hx hb hXs hbl hbA hS (sc_in (k := 1) hz hL hkk (by omega) c_63) dL_law_506 ?_
  refine rq_call1 (v := .int (if (sc 7) = 3 ∧ 0 ≤ (xs (z + 1).toNatClampNeg) ∧ (xs (z + 1).toNatClampNeg) < nI (c0 + 1) then (a 2) (xs (z + 1).toNatClampNeg).toNatClampNeg else -1)) (rm_V (As := [.int (xs (z + 1).toNatClampNeg)]) (rest := []) (ci := 6) (fs := [.ref (u 0), .ref (u 1), .ref (u 2), .int (sc 3), .ref (u 3), .ref (u 4), .ref (u 5), .ref (u 6), .ref (u 7), .ref (u 8), .ref (u 9), .ref (u 10), .int (sc 7), .int (sc 6), .int (sc 9), .int (sc 10), .int (sc 15), .int (sc 11), .int (sc 12), .int (sc 14)]) ⟨hx, hb, hml, hown, hts⟩ (c_X7_count l D cA xo (u 0) (u 1) (u 2) (sc 3) (u 3) (u 4) (u 5) (u 6) (u 7) (u 8) (u 9) (u 10) (sc 7) (sc 6) (sc 9) (sc 10) (sc 15) (sc 11) (sc 12) (sc 14) (xs (z + 1).toNatClampNeg) (a 2) c0 (by omega)) rfl (cwV 1 hts gL_law_X7_count rfl rfl rfl (by decide +kernel) ⟨Nat.le_of_ble_eq_true rfl, Nat.le_of_ble_eq_true rfl⟩) hK hP [some 0, none, none, none, none, none, none, none, none, none, none, none, none, none, none, none, none, none, none, none, none, none, none, none, none, none, none, none, none, none, none, none, none, none, none, none, none, none, none, none, none, none, none, none, none, none, none, none, none, none, none, some 1, none, none, none, none, none, none, none, none, none, none, none, none, none, none, none, none, none, none, none, none, none, none, none, none, none, none, none] rfl rfl rfl rfl rfl hl.1 rfl (Nat.le_of_ble_eq_true rfl) dL_law_507 ⟨by decide +kernel, by decide +kernel⟩) ?_
  refine lv_pop hx hb dL_law_510 rfl ?_
  refine lv_aload_n hx hb dL_law_511 rfl (lv_at hl 2 rfl) ?_
  refine lv_aload_n hx hb dL_law_512 rfl (lv_at hl 0 rfl) ?_
  refine lv_iload_n hx hb dL_law_513 rfl (lv_at hl 3 rfl) ?_
  refine lv_iconst (v := 1) hx hb dL_law_514 (by decide) ?_
  refine lv_iadd hx hb dL_law_515 ?_
  refine va_sld hx hb hXs hbl hbA hS (sc_in (k := 1) hz hL hkk (by omega) c_63) dL_law_516 ?_
  refine rq_call1 (v := .int (if (sc 7) = 3 ∧ 0 ≤ (xs (z + 1).toNatClampNeg) ∧ (xs (z + 1).toNatClampNeg) < nI (c0 + 1) then (a 2) (xs (z + 1).toNatClampNeg).toNatClampNeg else -1)) (rm_V (As := [.int (xs (z + 1).toNatClampNeg)]) (rest := []) (ci := 7) (fs := [.int (sc 0), .int (sc 1), .int (sc 3), .int (sc 4), .int (sc 5), .ref (w 0), .int (sc 7), .int (sc 2), .int (sc 6), .ref (w 1), .ref (w 2), .ref (w 3), .int (sc 9), .ref (w 4), .ref (w 5), .ref (w 6), .ref (w 7), .int (sc 17), .ref (w 8), .ref (w 9), .ref (w 10), .ref (w 11), .ref (w 12), .ref (w 13), .ref (w 14), .ref (w 15), .int (sc 10), .int (sc 11), .int (sc 14), .int (sc 12), .int (sc 16), .int (sc 18), .ref (w 16), .ref (w 17), .ref (w 18), .ref (w 19), .int (sc 13), .ref (w 20), .int (sc 8), .ref (w 21), .ref (w 22), .ref (w 23), .ref (w 24), .ref (w 25)]) ⟨hx, hb, hml, hown, hts⟩ (c_X8_count l D cA mo (sc 0) (sc 1) (sc 3) (sc 4) (sc 5) (w 0) (sc 7) (sc 2) (sc 6) (w 1) (w 2) (w 3) (sc 9) (w 4) (w 5) (w 6) (w 7) (sc 17) (w 8) (w 9) (w 10) (w 11) (w 12) (w 13) (w 14) (w 15) (sc 10) (sc 11) (sc 14) (sc 12) (sc 16) (sc 18) (w 16) (w 17) (w 18) (w 19) (sc 13) (w 20) (sc 8) (w 21) (w 22) (w 23) (w 24) (w 25) (xs (z + 1).toNatClampNeg) (a 2) c0 e3 (by omega)) rfl (cwV 1 hts gL_law_X8_count rfl rfl rfl (by decide +kernel) ⟨Nat.le_of_ble_eq_true rfl, Nat.le_of_ble_eq_true rfl⟩) hK hP [none, none, none, none, none, none, none, none, none, none, none, none, none, none, none, none, none, none, none, none, none, none, none, none, none, none, none, none, none, none, none, none, none, none, none, none, none, none, none, none, none, none, none, none, none, none, none, none, none, none, none, none, some 0, none, none, none, none, none, none, none, none, none, none, none, none, none, none, none, none, none, none, none, none, some 1, none, none, none, none, none] rfl rfl rfl rfl rfl hl.1 rfl (Nat.le_of_ble_eq_true rfl) dL_law_517 ⟨by decide +kernel, by decide +kernel⟩) ?_
  refine lv_pop hx hb dL_law_520 rfl ?_
  refine lv_goto (tgt := 746) hx hb dL_law_521 (by decide) ?_
  refine lv_iinc (v := (z + 4)) (lv' := [(3, .int (z + 4)), (0, .ref b), (1, .ref xo), (2, .ref mo)]) hx hb dL_law_746 (lv_sub hl [0, 1, 2, 3] rfl) (k := 3) rfl rfl (by decide) rfl (fun ls hl => ?_)
  refine lv_goto (tgt := 58) hx hb dL_law_749 (by decide) ?_
  exact ih (J_same h) hP hD hS (lv_sub hl [1, 2, 3, 0] rfl)
set_option maxHeartbeats 16000000 in
set_option maxRecDepth 100000 in
/-- about -/
theorem law_14 {p : Program} {l : Launch} {e : Env} {s : State} {m : MethodId} {below : List Frame} {meth : Method} {c : Code} {b L : Nat} {xs : Nat → Int32} {D : va_G} {cA : Nat → ClassId} {A : Nat → Prop} {p0 q0 c0 t0 k0 kk v0 st0 n0 b0 mx ro rj mw un : Nat} {xo mo : Nat} {u w : Nat → Nat} {sc : Nat → Int32} {a xA xB g : Nat → Nat → Int32} {lq : Nat → Nat → Int64} {H : Heap} {locs : List Loc} {ls : Array Slot} {z : Int32} (hx : p.tables.exec = Jvm.exec) (hb : c.code = cL_law) (hml : c.maxLocals = 4) (hown : s.vm.findClass RL = some m.cls) (hts : ∀ w ∈ wsL_law, w.before #[Value.ref b] s = true) (hXs : va_X b L xs s s.heap) (hbl : b < s.heap.size) (hbA : ¬ A b) (hK : va_K D vwCl (tyS cA) s) (h : JJ p0 q0 c0 t0 k0 kk v0 st0 n0 b0 mx ro rj mw un sc a xA xB g) (hP : va_P D vwCl (((LWc cA xo u c0 t0 k0 sc a xA xB lq) ++ (LWr cA mo w sc a lq)) ++ (rwT cA (u 51) g (t0 + 1))) H) (hD : va_D A (((LWc cA xo u c0 t0 k0 sc a xA xB lq) ++ (LWr cA mo w sc a lq)) ++ (rwT cA (u 51) g (t0 + 1)))) (hS : va_S A s.heap H locs) (hl : lv_has ls 4 [(0, .ref b), (1, .ref xo), (2, .ref mo), (3, .int z)]) (hz : z = nI (4 + 4 * kk)) (hL : L ≤ 2052) (hkk : kk ≤ 512) (hk5 : kk < 512) (c_63 : ¬ Int32.ofNat L - 4 < z) (ih : ∀ {v0 st0 n0 b0 mx ro rj mw un : Nat} {sc : Nat → Int32} {a xA xB g : Nat → Nat → Int32} {lq : Nat → Nat → Int64}, JJ p0 q0 c0 t0 k0 (kk + 1) v0 st0 n0 b0 mx ro rj mw un sc a xA xB g → ∀ {H : Heap} {locs : List Loc}, va_P D vwCl ((LWc cA xo u c0 t0 k0 sc a xA xB lq ++ LWr cA mo w sc a lq) ++ rwT cA (u 51) g (t0 + 1)) H → va_D A ((LWc cA xo u c0 t0 k0 sc a xA xB lq ++ LWr cA mo w sc a lq) ++ rwT cA (u 51) g (t0 + 1)) → va_S A s.heap H locs → ∀ {ls : Array Slot}, lv_has ls 4 [(0, .ref b), (1, .ref xo), (2, .ref mo), (3, .int (z + 4))] → W p l e room_1 s m #[Value.ref b] below meth c H locs 85 8608 (lw_Z below #[Value.ref b] s) (F0 m 58 ls [])) : W p l e room_1 s m #[Value.ref b] below meth c H locs 85 8608 (lw_Z below #[Value.ref b] s) (F0 m 524 ls []) := by
  have hcst := jj_cst h
  have e0 := jj_e0 h
  have e1 := jj_e1 h
  have e3 := jj_e3 h
  have e4 := jj_e4 h
  have e5 := jj_e5 h
  have e6 := jj_e6 h
  have e7 := jj_e7 h
  have e8 := jj_e8 h
  have e9 := jj_e9 h
  have e10 := jj_e10 h
  have e11 := jj_e11 h
  have hgp : 0 < sc 0 := iv_p e0 (by omega) (by omega)
  have hgq : 0 < sc 1 := iv_p e1 (by omega) (by omega)
  have h6 : n0 < 600 := by omega
  refine lv_aload_n hx hb dL_law_524 rfl (lv_at hl 1 rfl) ?_
  refine lv_aload_n hx hb dL_law_525 rfl (lv_at hl 0 rfl) ?_
  refine lv_iload_n hx hb dL_law_526 rfl (lv_at hl 3 rfl) ?_
  refine lv_iconst (v := 1) hx hb dL_law_527 (by decide) ?_
  refine lv_iadd hx hb dL_law_528 ?_
  refine va_sld hx hb hXs hbl hbA hS (sc_in (k := 1) hz hL hkk (by omega) c_63) dL_law_529 ?_
  refine rq_call1 (v := .int (abv (xs (z + 1).toNatClampNeg) [(sc 0), (sc 1), (sc 2), (sc 3), (sc 4), (sc 5), (sc 6), (sc 7), (sc 8), (if (sc 7) < 2 then -1 else (sc 9)), (sc 10), (sc 11), (sc 12), (sc 13), (if (sc 14) = 0 then 0 else 1), (if (sc 7) = 2 then bI (whl (a 3) b0) else -1)])) (rm_V (As := [.int (xs (z + 1).toNatClampNeg)]) (rest := []) (ci := 6) (fs := [.ref (u 0), .ref (u 1), .ref (u 2), .int (sc 3), .ref (u 3), .ref (u 4), .ref (u 5), .ref (u 6), .ref (u 7), .ref (u 8), .ref (u 9), .ref (u 10), .int (sc 7), .int (sc 6), .int (sc 9), .int (sc 10), .int (sc 15), .int (sc 11), .int (sc 12), .int (sc 14)]) ⟨hx, hb, hml, hown, hts⟩ (c_X7_about l D cA xo (u 0) (u 1) (u 2) (sc 3) (u 3) (u 4) (u 5) (u 6) (u 7) (u 8) (u 9) (u 10) (sc 7) (sc 6) (sc 9) (sc 10) (sc 15) (sc 11) (sc 12) (sc 14) (sc 4) (sc 5) (u 11) (u 12) (u 13) (u 14) (sc 13) (sc 0) (sc 1) (sc 2) (u 15) (u 16) (u 17) (u 18) (u 19) (sc 8) (xs (z + 1).toNatClampNeg) (u 39) (u 41) (u 42) (u 40) b0 (a 3) (a 12) e9.1 e9.2 (sg_rg h)) rfl (cwV 1 hts gL_law_X7_about rfl rfl rfl (by decide +kernel) ⟨Nat.le_of_ble_eq_true rfl, Nat.le_of_ble_eq_true rfl⟩) hK hP [some 0, some 2, some 1, none, none, none, none, some 3, none, none, none, none, none, none, none, none, none, none, none, none, none, none, none, none, none, none, none, none, none, none, none, none, none, none, none, some 4, some 5, some 6, some 7, none, none, none, none, none, none, none, none, none, none, none, none, none, none, none, none, none, none, none, none, none, none, none, none, none, none, none, none, none, none, none, none, none, none, none, none, none, none, none, none] rfl rfl rfl rfl rfl hl.1 rfl (Nat.le_of_ble_eq_true rfl) dL_law_530 ⟨by decide +kernel, by decide +kernel⟩) ?_
  refine lv_pop hx hb dL_law_533 rfl ?_
  refine lv_aload_n hx hb dL_law_534 rfl (lv_at hl 2 rfl) ?_
  refine lv_aload_n hx hb dL_law_535 rfl (lv_at hl 0 rfl) ?_
  refine lv_iload_n hx hb dL_law_536 rfl (lv_at hl 3 rfl) ?_
  refine lv_iconst (v := 1) hx hb dL_law_537 (by decide) ?_
  refine lv_iadd hx hb dL_law_538 ?_
  refine va_sld hx hb hXs hbl hbA hS (sc_in (k := 1) hz hL hkk (by omega) c_63) dL_law_539 ?_
  refine rq_call1 (v := .int (abv (xs (z + 1).toNatClampNeg) [(sc 0), (sc 1), (sc 2), (sc 3), (sc 4), (sc 5), (sc 6), (sc 7), (sc 8), (if (sc 7) < 2 then -1 else (sc 9)), (sc 10), (sc 11), (sc 12), (sc 13), (if (sc 14) = 0 then 0 else 1), (if (sc 7) = 2 then bI (whl (a 3) b0) else -1)])) (rm_V (As := [.int (xs (z + 1).toNatClampNeg)]) (rest := []) (ci := 7) (fs := [.int (sc 0), .int (sc 1), .int (sc 3), .int (sc 4), .int (sc 5), .ref (w 0), .int (sc 7), .int (sc 2), .int (sc 6), .ref (w 1), .ref (w 2), .ref (w 3), .int (sc 9), .ref (w 4), .ref (w 5), .ref (w 6), .ref (w 7), .int (sc 17), .ref (w 8), .ref (w 9), .ref (w 10), .ref (w 11), .ref (w 12), .ref (w 13), .ref (w 14), .ref (w 15), .int (sc 10), .int (sc 11), .int (sc 14), .int (sc 12), .int (sc 16), .int (sc 18), .ref (w 16), .ref (w 17), .ref (w 18), .ref (w 19), .int (sc 13), .ref (w 20), .int (sc 8), .ref (w 21), .ref (w 22), .ref (w 23), .ref (w 24), .ref (w 25)]) ⟨hx, hb, hml, hown, hts⟩ (c_X8_about l D cA mo (sc 0) (sc 1) (sc 3) (sc 4) (sc 5) (w 0) (sc 7) (sc 2) (sc 6) (w 1) (w 2) (w 3) (sc 9) (w 4) (w 5) (w 6) (w 7) (sc 17) (w 8) (w 9) (w 10) (w 11) (w 12) (w 13) (w 14) (w 15) (sc 10) (sc 11) (sc 14) (sc 12) (sc 16) (sc 18) (w 16) (w 17) (w 18) (w 19) (sc 13) (w 20) (sc 8) (w 21) (w 22) (w 23) (w 24) (w 25) (xs (z + 1).toNatClampNeg) (a 3) b0 e9.1 e9.2) rfl (cwV 1 hts gL_law_X8_about rfl rfl rfl (by decide +kernel) ⟨Nat.le_of_ble_eq_true rfl, Nat.le_of_ble_eq_true rfl⟩) hK hP [none, none, none, none, none, none, none, none, none, none, none, none, none, none, none, none, none, none, none, none, none, none, none, none, none, none, none, none, none, none, none, none, none, none, none, none, none, none, none, none, none, none, none, none, none, none, none, none, none, none, none, none, some 0, none, none, none, none, none, none, none, none, some 1, none, none, none, none, none, none, none, none, none, none, none, none, none, none, none, none, none] rfl rfl rfl rfl rfl hl.1 rfl (Nat.le_of_ble_eq_true rfl) dL_law_540 ⟨by decide +kernel, by decide +kernel⟩) ?_
  refine lv_pop hx hb dL_law_543 rfl ?_
  refine lv_goto (tgt := 746) hx hb dL_law_544 (by decide) ?_
  refine lv_iinc (v := (z + 4)) (lv' := [(3, .int (z + 4)), (0, .ref b), (1, .ref xo), (2, .ref mo)]) hx hb dL_law_746 (lv_sub hl [0, 1, 2, 3] rfl) (k := 3) rfl rfl (by decide) rfl (fun ls hl => ?_)
  refine lv_goto (tgt := 58) hx hb dL_law_749 (by decide) ?_
  exact ih (J_same h) hP hD hS (lv_sub hl [1, 2, 3, 0] rfl)
set_option maxHeartbeats 16000000 in
set_option maxRecDepth 100000 in
/-- list -/
theorem law_15 {p : Program} {l : Launch} {e : Env} {s : State} {m : MethodId} {below : List Frame} {meth : Method} {c : Code} {b L : Nat} {xs : Nat → Int32} {D : va_G} {cA : Nat → ClassId} {A : Nat → Prop} {p0 q0 c0 t0 k0 kk v0 st0 n0 b0 mx ro rj mw un : Nat} {xo mo : Nat} {u w : Nat → Nat} {sc : Nat → Int32} {a xA xB g : Nat → Nat → Int32} {lq : Nat → Nat → Int64} {H : Heap} {locs : List Loc} {ls : Array Slot} {z : Int32} (hx : p.tables.exec = Jvm.exec) (hb : c.code = cL_law) (hml : c.maxLocals = 4) (hown : s.vm.findClass RL = some m.cls) (hts : ∀ w ∈ wsL_law, w.before #[Value.ref b] s = true) (hXs : va_X b L xs s s.heap) (hbl : b < s.heap.size) (hbA : ¬ A b) (hK : va_K D vwCl (tyS cA) s) (h : JJ p0 q0 c0 t0 k0 kk v0 st0 n0 b0 mx ro rj mw un sc a xA xB g) (hP : va_P D vwCl (((LWc cA xo u c0 t0 k0 sc a xA xB lq) ++ (LWr cA mo w sc a lq)) ++ (rwT cA (u 51) g (t0 + 1))) H) (hD : va_D A (((LWc cA xo u c0 t0 k0 sc a xA xB lq) ++ (LWr cA mo w sc a lq)) ++ (rwT cA (u 51) g (t0 + 1)))) (hS : va_S A s.heap H locs) (hl : lv_has ls 4 [(0, .ref b), (1, .ref xo), (2, .ref mo), (3, .int z)]) (hz : z = nI (4 + 4 * kk)) (hL : L ≤ 2052) (hkk : kk ≤ 512) (hk5 : kk < 512) (c_63 : ¬ Int32.ofNat L - 4 < z) (ih : ∀ {v0 st0 n0 b0 mx ro rj mw un : Nat} {sc : Nat → Int32} {a xA xB g : Nat → Nat → Int32} {lq : Nat → Nat → Int64}, JJ p0 q0 c0 t0 k0 (kk + 1) v0 st0 n0 b0 mx ro rj mw un sc a xA xB g → ∀ {H : Heap} {locs : List Loc}, va_P D vwCl ((LWc cA xo u c0 t0 k0 sc a xA xB lq ++ LWr cA mo w sc a lq) ++ rwT cA (u 51) g (t0 + 1)) H → va_D A ((LWc cA xo u c0 t0 k0 sc a xA xB lq ++ LWr cA mo w sc a lq) ++ rwT cA (u 51) g (t0 + 1)) → va_S A s.heap H locs → ∀ {ls : Array Slot}, lv_has ls 4 [(0, .ref b), (1, .ref xo), (2, .ref mo), (3, .int (z + 4))] → W p l e room_1 s m #[Value.ref b] below meth c H locs 85 8608 (lw_Z below #[Value.ref b] s) (F0 m 58 ls [])) : W p l e room_1 s m #[Value.ref b] below meth c H locs 85 8608 (lw_Z below #[Value.ref b] s) (F0 m 547 ls []) := by
  have hcst := jj_cst h
  have e0 := jj_e0 h
  have e1 := jj_e1 h
  have e3 := jj_e3 h
  have e4 := jj_e4 h
  have e5 := jj_e5 h
  have e6 := jj_e6 h
  have e7 := jj_e7 h
  have e8 := jj_e8 h
  have e9 := jj_e9 h
  have e10 := jj_e10 h
  have e11 := jj_e11 h
  have hgp : 0 < sc 0 := iv_p e0 (by omega) (by omega)
  have hgq : 0 < sc 1 := iv_p e1 (by omega) (by omega)
  have h6 : n0 < 600 := by omega
  by_cases hc : (0 ≤ (xs (z + 1).toNatClampNeg) ∧ (xs (z + 1).toNatClampNeg) ≤ sc 10) ∧ (0 ≤ (xs (z + 2).toNatClampNeg) ∧ (xs (z + 2).toNatClampNeg) < sc 9)
  · skip
    obtain ⟨m1, hm, em⟩ := m_v h hc.1
    have hm4 := e10.2
    rcases (show m1 = 0 ∨ m1 = 1 ∨ m1 = 2 ∨ m1 = 3 ∨ m1 = 4 by omega) with rfl | rfl | rfl | rfl | rfl
    · skip
      refine lv_aload_n hx hb dL_law_547 rfl (lv_at hl 1 rfl) ?_
      refine lv_aload_n hx hb dL_law_548 rfl (lv_at hl 0 rfl) ?_
      refine lv_iload_n hx hb dL_law_549 rfl (lv_at hl 3 rfl) ?_
      refine lv_iconst (v := 1) hx hb dL_law_550 (by decide) ?_
      refine lv_iadd hx hb dL_law_551 ?_
      refine va_sld hx hb hXs hbl hbA hS (sc_in (k := 1) hz hL hkk (by omega) c_63) dL_law_552 ?_
      refine lv_aload_n hx hb dL_law_553 rfl (lv_at hl 0 rfl) ?_
      refine lv_iload_n hx hb dL_law_554 rfl (lv_at hl 3 rfl) ?_
      refine lv_iconst (v := 2) hx hb dL_law_555 (by decide) ?_
      refine lv_iadd hx hb dL_law_556 ?_
      refine va_sld hx hb hXs hbl hbA hS (sc_in (k := 2) hz hL hkk (by omega) c_63) dL_law_557 ?_
      refine lv_aload_n hx hb dL_law_558 rfl (lv_at hl 0 rfl) ?_
      refine lv_iload_n hx hb dL_law_559 rfl (lv_at hl 3 rfl) ?_
      refine lv_iconst (v := 3) hx hb dL_law_560 (by decide) ?_
      refine lv_iadd hx hb dL_law_561 ?_
      refine va_sld hx hb hXs hbl hbA hS (sc_in (k := 3) hz hL hkk (by omega) c_63) dL_law_562 ?_
      refine rq_call1 (v := .int (prt (xA 0) (xB 0) (xs (z + 2).toNatClampNeg) (xs (z + 3).toNatClampNeg))) (rm_V (As := [.int (xs (z + 1).toNatClampNeg), .int (xs (z + 2).toNatClampNeg), .int (xs (z + 3).toNatClampNeg)]) (rest := []) (ci := 6) (fs := [.ref (u 0), .ref (u 1), .ref (u 2), .int (sc 3), .ref (u 3), .ref (u 4), .ref (u 5), .ref (u 6), .ref (u 7), .ref (u 8), .ref (u 9), .ref (u 10), .int (sc 7), .int (sc 6), .int (sc 9), .int (sc 10), .int (sc 15), .int (sc 11), .int (sc 12), .int (sc 14)]) ⟨hx, hb, hml, hown, hts⟩ (c_X7_list_ok l D cA xo (u 0) (u 1) (u 2) (sc 3) (u 3) (u 4) (u 5) (u 6) (u 7) (u 8) (u 9) (u 10) (sc 7) (sc 6) (sc 9) (sc 10) (sc 15) (sc 11) (sc 12) (sc 14) (xs (z + 1).toNatClampNeg) (xs (z + 2).toNatClampNeg) (xs (z + 3).toNatClampNeg) (u 27) (u 28) 0 (xA 0) (xB 0) (fun k => u (22 + k)) hc em (by omega)) rfl (cwV 3 hts gL_law_X7_list rfl rfl rfl (by decide +kernel) ⟨Nat.le_of_ble_eq_true rfl, Nat.le_of_ble_eq_true rfl⟩) hK hP [some 0, none, none, none, none, none, none, none, none, none, none, none, none, none, none, none, some 1, some 2, some 3, some 4, none, none, none, none, none, none, none, none, none, none, none, none, none, none, none, none, none, none, none, none, none, none, none, none, none, none, none, none, none, none, none, none, none, none, none, none, none, none, none, none, none, none, none, none, none, none, none, none, none, none, none, none, none, none, none, none, none, none, none] rfl rfl rfl rfl rfl hl.1 rfl (Nat.le_of_ble_eq_true rfl) dL_law_563 ⟨by decide +kernel, by decide +kernel⟩) ?_
      refine lv_pop hx hb dL_law_566 rfl ?_
      refine lv_aload_n hx hb dL_law_567 rfl (lv_at hl 2 rfl) ?_
      refine lv_aload_n hx hb dL_law_568 rfl (lv_at hl 0 rfl) ?_
      refine lv_iload_n hx hb dL_law_569 rfl (lv_at hl 3 rfl) ?_
      refine lv_iconst (v := 1) hx hb dL_law_570 (by decide) ?_
      refine lv_iadd hx hb dL_law_571 ?_
      refine va_sld hx hb hXs hbl hbA hS (sc_in (k := 1) hz hL hkk (by omega) c_63) dL_law_572 ?_
      refine lv_aload_n hx hb dL_law_573 rfl (lv_at hl 0 rfl) ?_
      refine lv_iload_n hx hb dL_law_574 rfl (lv_at hl 3 rfl) ?_
      refine lv_iconst (v := 2) hx hb dL_law_575 (by decide) ?_
      refine lv_iadd hx hb dL_law_576 ?_
      refine va_sld hx hb hXs hbl hbA hS (sc_in (k := 2) hz hL hkk (by omega) c_63) dL_law_577 ?_
      refine lv_aload_n hx hb dL_law_578 rfl (lv_at hl 0 rfl) ?_
      refine lv_iload_n hx hb dL_law_579 rfl (lv_at hl 3 rfl) ?_
      refine lv_iconst (v := 3) hx hb dL_law_580 (by decide) ?_
      refine lv_iadd hx hb dL_law_581 ?_
      refine va_sld hx hb hXs hbl hbA hS (sc_in (k := 3) hz hL hkk (by omega) c_63) dL_law_582 ?_
      refine rq_call1 (v := .int (prt (xA 0) (xB 0) (xs (z + 2).toNatClampNeg) (xs (z + 3).toNatClampNeg))) (rm_V (As := [.int (xs (z + 1).toNatClampNeg), .int (xs (z + 2).toNatClampNeg), .int (xs (z + 3).toNatClampNeg)]) (rest := []) (ci := 7) (fs := [.int (sc 0), .int (sc 1), .int (sc 3), .int (sc 4), .int (sc 5), .ref (w 0), .int (sc 7), .int (sc 2), .int (sc 6), .ref (w 1), .ref (w 2), .ref (w 3), .int (sc 9), .ref (w 4), .ref (w 5), .ref (w 6), .ref (w 7), .int (sc 17), .ref (w 8), .ref (w 9), .ref (w 10), .ref (w 11), .ref (w 12), .ref (w 13), .ref (w 14), .ref (w 15), .int (sc 10), .int (sc 11), .int (sc 14), .int (sc 12), .int (sc 16), .int (sc 18), .ref (w 16), .ref (w 17), .ref (w 18), .ref (w 19), .int (sc 13), .ref (w 20), .int (sc 8), .ref (w 21), .ref (w 22), .ref (w 23), .ref (w 24), .ref (w 25)]) ⟨hx, hb, hml, hown, hts⟩ (c_X8_list_ok l D cA mo (sc 0) (sc 1) (sc 3) (sc 4) (sc 5) (w 0) (sc 7) (sc 2) (sc 6) (w 1) (w 2) (w 3) (sc 9) (w 4) (w 5) (w 6) (w 7) (sc 17) (w 8) (w 9) (w 10) (w 11) (w 12) (w 13) (w 14) (w 15) (sc 10) (sc 11) (sc 14) (sc 12) (sc 16) (sc 18) (w 16) (w 17) (w 18) (w 19) (sc 13) (w 20) (sc 8) (w 21) (w 22) (w 23) (w 24) (w 25) (xs (z + 1).toNatClampNeg) (xs (z + 2).toNatClampNeg) (xs (z + 3).toNatClampNeg) b0 0 (a 34) (a 35) (xA 0) (xB 0) hc (st_2 h hc.2) em (by omega) e9.1 e9.2 (li_2 h (by omega))) rfl (cwV 3 hts gL_law_X8_list rfl rfl rfl (by decide +kernel) ⟨Nat.le_of_ble_eq_true rfl, Nat.le_of_ble_eq_true rfl⟩) hK hP [none, none, none, none, none, none, none, none, none, none, none, none, none, none, none, none, none, none, none, none, none, none, none, none, none, none, none, none, none, none, none, none, none, none, none, none, none, none, none, none, none, none, none, none, none, none, none, none, none, none, none, none, some 0, none, none, none, none, some 1, some 2, none, none, none, none, none, none, none, none, none, none, none, none, none, none, none, none, none, none, none, none] rfl rfl rfl rfl rfl hl.1 rfl (Nat.le_of_ble_eq_true rfl) dL_law_583 ⟨by decide +kernel, by decide +kernel⟩) ?_
      refine lv_pop hx hb dL_law_586 rfl ?_
      refine lv_goto (tgt := 746) hx hb dL_law_587 (by decide) ?_
      refine lv_iinc (v := (z + 4)) (lv' := [(3, .int (z + 4)), (0, .ref b), (1, .ref xo), (2, .ref mo)]) hx hb dL_law_746 (lv_sub hl [0, 1, 2, 3] rfl) (k := 3) rfl rfl (by decide) rfl (fun ls hl => ?_)
      refine lv_goto (tgt := 58) hx hb dL_law_749 (by decide) ?_
      exact ih (J_same h) hP hD hS (lv_sub hl [1, 2, 3, 0] rfl)
    · skip
      refine lv_aload_n hx hb dL_law_547 rfl (lv_at hl 1 rfl) ?_
      refine lv_aload_n hx hb dL_law_548 rfl (lv_at hl 0 rfl) ?_
      refine lv_iload_n hx hb dL_law_549 rfl (lv_at hl 3 rfl) ?_
      refine lv_iconst (v := 1) hx hb dL_law_550 (by decide) ?_
      refine lv_iadd hx hb dL_law_551 ?_
      refine va_sld hx hb hXs hbl hbA hS (sc_in (k := 1) hz hL hkk (by omega) c_63) dL_law_552 ?_
      refine lv_aload_n hx hb dL_law_553 rfl (lv_at hl 0 rfl) ?_
      refine lv_iload_n hx hb dL_law_554 rfl (lv_at hl 3 rfl) ?_
      refine lv_iconst (v := 2) hx hb dL_law_555 (by decide) ?_
      refine lv_iadd hx hb dL_law_556 ?_
      refine va_sld hx hb hXs hbl hbA hS (sc_in (k := 2) hz hL hkk (by omega) c_63) dL_law_557 ?_
      refine lv_aload_n hx hb dL_law_558 rfl (lv_at hl 0 rfl) ?_
      refine lv_iload_n hx hb dL_law_559 rfl (lv_at hl 3 rfl) ?_
      refine lv_iconst (v := 3) hx hb dL_law_560 (by decide) ?_
      refine lv_iadd hx hb dL_law_561 ?_
      refine va_sld hx hb hXs hbl hbA hS (sc_in (k := 3) hz hL hkk (by omega) c_63) dL_law_562 ?_
      refine rq_call1 (v := .int (prt (xA 1) (xB 1) (xs (z + 2).toNatClampNeg) (xs (z + 3).toNatClampNeg))) (rm_V (As := [.int (xs (z + 1).toNatClampNeg), .int (xs (z + 2).toNatClampNeg), .int (xs (z + 3).toNatClampNeg)]) (rest := []) (ci := 6) (fs := [.ref (u 0), .ref (u 1), .ref (u 2), .int (sc 3), .ref (u 3), .ref (u 4), .ref (u 5), .ref (u 6), .ref (u 7), .ref (u 8), .ref (u 9), .ref (u 10), .int (sc 7), .int (sc 6), .int (sc 9), .int (sc 10), .int (sc 15), .int (sc 11), .int (sc 12), .int (sc 14)]) ⟨hx, hb, hml, hown, hts⟩ (c_X7_list_ok l D cA xo (u 0) (u 1) (u 2) (sc 3) (u 3) (u 4) (u 5) (u 6) (u 7) (u 8) (u 9) (u 10) (sc 7) (sc 6) (sc 9) (sc 10) (sc 15) (sc 11) (sc 12) (sc 14) (xs (z + 1).toNatClampNeg) (xs (z + 2).toNatClampNeg) (xs (z + 3).toNatClampNeg) (u 29) (u 30) 1 (xA 1) (xB 1) (fun k => u (22 + k)) hc em (by omega)) rfl (cwV 3 hts gL_law_X7_list rfl rfl rfl (by decide +kernel) ⟨Nat.le_of_ble_eq_true rfl, Nat.le_of_ble_eq_true rfl⟩) hK hP [some 0, none, none, none, none, none, none, none, none, none, none, none, none, none, none, none, some 1, none, none, none, some 2, some 3, some 4, none, none, none, none, none, none, none, none, none, none, none, none, none, none, none, none, none, none, none, none, none, none, none, none, none, none, none, none, none, none, none, none, none, none, none, none, none, none, none, none, none, none, none, none, none, none, none, none, none, none, none, none, none, none, none, none] rfl rfl rfl rfl rfl hl.1 rfl (Nat.le_of_ble_eq_true rfl) dL_law_563 ⟨by decide +kernel, by decide +kernel⟩) ?_
      refine lv_pop hx hb dL_law_566 rfl ?_
      refine lv_aload_n hx hb dL_law_567 rfl (lv_at hl 2 rfl) ?_
      refine lv_aload_n hx hb dL_law_568 rfl (lv_at hl 0 rfl) ?_
      refine lv_iload_n hx hb dL_law_569 rfl (lv_at hl 3 rfl) ?_
      refine lv_iconst (v := 1) hx hb dL_law_570 (by decide) ?_
      refine lv_iadd hx hb dL_law_571 ?_
      refine va_sld hx hb hXs hbl hbA hS (sc_in (k := 1) hz hL hkk (by omega) c_63) dL_law_572 ?_
      refine lv_aload_n hx hb dL_law_573 rfl (lv_at hl 0 rfl) ?_
      refine lv_iload_n hx hb dL_law_574 rfl (lv_at hl 3 rfl) ?_
      refine lv_iconst (v := 2) hx hb dL_law_575 (by decide) ?_
      refine lv_iadd hx hb dL_law_576 ?_
      refine va_sld hx hb hXs hbl hbA hS (sc_in (k := 2) hz hL hkk (by omega) c_63) dL_law_577 ?_
      refine lv_aload_n hx hb dL_law_578 rfl (lv_at hl 0 rfl) ?_
      refine lv_iload_n hx hb dL_law_579 rfl (lv_at hl 3 rfl) ?_
      refine lv_iconst (v := 3) hx hb dL_law_580 (by decide) ?_
      refine lv_iadd hx hb dL_law_581 ?_
      refine va_sld hx hb hXs hbl hbA hS (sc_in (k := 3) hz hL hkk (by omega) c_63) dL_law_582 ?_
      refine rq_call1 (v := .int (prt (xA 1) (xB 1) (xs (z + 2).toNatClampNeg) (xs (z + 3).toNatClampNeg))) (rm_V (As := [.int (xs (z + 1).toNatClampNeg), .int (xs (z + 2).toNatClampNeg), .int (xs (z + 3).toNatClampNeg)]) (rest := []) (ci := 7) (fs := [.int (sc 0), .int (sc 1), .int (sc 3), .int (sc 4), .int (sc 5), .ref (w 0), .int (sc 7), .int (sc 2), .int (sc 6), .ref (w 1), .ref (w 2), .ref (w 3), .int (sc 9), .ref (w 4), .ref (w 5), .ref (w 6), .ref (w 7), .int (sc 17), .ref (w 8), .ref (w 9), .ref (w 10), .ref (w 11), .ref (w 12), .ref (w 13), .ref (w 14), .ref (w 15), .int (sc 10), .int (sc 11), .int (sc 14), .int (sc 12), .int (sc 16), .int (sc 18), .ref (w 16), .ref (w 17), .ref (w 18), .ref (w 19), .int (sc 13), .ref (w 20), .int (sc 8), .ref (w 21), .ref (w 22), .ref (w 23), .ref (w 24), .ref (w 25)]) ⟨hx, hb, hml, hown, hts⟩ (c_X8_list_ok l D cA mo (sc 0) (sc 1) (sc 3) (sc 4) (sc 5) (w 0) (sc 7) (sc 2) (sc 6) (w 1) (w 2) (w 3) (sc 9) (w 4) (w 5) (w 6) (w 7) (sc 17) (w 8) (w 9) (w 10) (w 11) (w 12) (w 13) (w 14) (w 15) (sc 10) (sc 11) (sc 14) (sc 12) (sc 16) (sc 18) (w 16) (w 17) (w 18) (w 19) (sc 13) (w 20) (sc 8) (w 21) (w 22) (w 23) (w 24) (w 25) (xs (z + 1).toNatClampNeg) (xs (z + 2).toNatClampNeg) (xs (z + 3).toNatClampNeg) b0 1 (a 34) (a 35) (xA 1) (xB 1) hc (st_2 h hc.2) em (by omega) e9.1 e9.2 (li_2 h (by omega))) rfl (cwV 3 hts gL_law_X8_list rfl rfl rfl (by decide +kernel) ⟨Nat.le_of_ble_eq_true rfl, Nat.le_of_ble_eq_true rfl⟩) hK hP [none, none, none, none, none, none, none, none, none, none, none, none, none, none, none, none, none, none, none, none, none, none, none, none, none, none, none, none, none, none, none, none, none, none, none, none, none, none, none, none, none, none, none, none, none, none, none, none, none, none, none, none, some 0, none, none, none, none, some 1, some 2, none, none, none, none, none, none, none, none, none, none, none, none, none, none, none, none, none, none, none, none] rfl rfl rfl rfl rfl hl.1 rfl (Nat.le_of_ble_eq_true rfl) dL_law_583 ⟨by decide +kernel, by decide +kernel⟩) ?_
      refine lv_pop hx hb dL_law_586 rfl ?_
      refine lv_goto (tgt := 746) hx hb dL_law_587 (by decide) ?_
      refine lv_iinc (v := (z + 4)) (lv' := [(3, .int (z + 4)), (0, .ref b), (1, .ref xo), (2, .ref mo)]) hx hb dL_law_746 (lv_sub hl [0, 1, 2, 3] rfl) (k := 3) rfl rfl (by decide) rfl (fun ls hl => ?_)
      refine lv_goto (tgt := 58) hx hb dL_law_749 (by decide) ?_
      exact ih (J_same h) hP hD hS (lv_sub hl [1, 2, 3, 0] rfl)
    · skip
      refine lv_aload_n hx hb dL_law_547 rfl (lv_at hl 1 rfl) ?_
      refine lv_aload_n hx hb dL_law_548 rfl (lv_at hl 0 rfl) ?_
      refine lv_iload_n hx hb dL_law_549 rfl (lv_at hl 3 rfl) ?_
      refine lv_iconst (v := 1) hx hb dL_law_550 (by decide) ?_
      refine lv_iadd hx hb dL_law_551 ?_
      refine va_sld hx hb hXs hbl hbA hS (sc_in (k := 1) hz hL hkk (by omega) c_63) dL_law_552 ?_
      refine lv_aload_n hx hb dL_law_553 rfl (lv_at hl 0 rfl) ?_
      refine lv_iload_n hx hb dL_law_554 rfl (lv_at hl 3 rfl) ?_
      refine lv_iconst (v := 2) hx hb dL_law_555 (by decide) ?_
      refine lv_iadd hx hb dL_law_556 ?_
      refine va_sld hx hb hXs hbl hbA hS (sc_in (k := 2) hz hL hkk (by omega) c_63) dL_law_557 ?_
      refine lv_aload_n hx hb dL_law_558 rfl (lv_at hl 0 rfl) ?_
      refine lv_iload_n hx hb dL_law_559 rfl (lv_at hl 3 rfl) ?_
      refine lv_iconst (v := 3) hx hb dL_law_560 (by decide) ?_
      refine lv_iadd hx hb dL_law_561 ?_
      refine va_sld hx hb hXs hbl hbA hS (sc_in (k := 3) hz hL hkk (by omega) c_63) dL_law_562 ?_
      refine rq_call1 (v := .int (prt (xA 2) (xB 2) (xs (z + 2).toNatClampNeg) (xs (z + 3).toNatClampNeg))) (rm_V (As := [.int (xs (z + 1).toNatClampNeg), .int (xs (z + 2).toNatClampNeg), .int (xs (z + 3).toNatClampNeg)]) (rest := []) (ci := 6) (fs := [.ref (u 0), .ref (u 1), .ref (u 2), .int (sc 3), .ref (u 3), .ref (u 4), .ref (u 5), .ref (u 6), .ref (u 7), .ref (u 8), .ref (u 9), .ref (u 10), .int (sc 7), .int (sc 6), .int (sc 9), .int (sc 10), .int (sc 15), .int (sc 11), .int (sc 12), .int (sc 14)]) ⟨hx, hb, hml, hown, hts⟩ (c_X7_list_ok l D cA xo (u 0) (u 1) (u 2) (sc 3) (u 3) (u 4) (u 5) (u 6) (u 7) (u 8) (u 9) (u 10) (sc 7) (sc 6) (sc 9) (sc 10) (sc 15) (sc 11) (sc 12) (sc 14) (xs (z + 1).toNatClampNeg) (xs (z + 2).toNatClampNeg) (xs (z + 3).toNatClampNeg) (u 31) (u 32) 2 (xA 2) (xB 2) (fun k => u (22 + k)) hc em (by omega)) rfl (cwV 3 hts gL_law_X7_list rfl rfl rfl (by decide +kernel) ⟨Nat.le_of_ble_eq_true rfl, Nat.le_of_ble_eq_true rfl⟩) hK hP [some 0, none, none, none, none, none, none, none, none, none, none, none, none, none, none, none, some 1, none, none, none, none, none, none, some 2, some 3, some 4, none, none, none, none, none, none, none, none, none, none, none, none, none, none, none, none, none, none, none, none, none, none, none, none, none, none, none, none, none, none, none, none, none, none, none, none, none, none, none, none, none, none, none, none, none, none, none, none, none, none, none, none, none] rfl rfl rfl rfl rfl hl.1 rfl (Nat.le_of_ble_eq_true rfl) dL_law_563 ⟨by decide +kernel, by decide +kernel⟩) ?_
      refine lv_pop hx hb dL_law_566 rfl ?_
      refine lv_aload_n hx hb dL_law_567 rfl (lv_at hl 2 rfl) ?_
      refine lv_aload_n hx hb dL_law_568 rfl (lv_at hl 0 rfl) ?_
      refine lv_iload_n hx hb dL_law_569 rfl (lv_at hl 3 rfl) ?_
      refine lv_iconst (v := 1) hx hb dL_law_570 (by decide) ?_
      refine lv_iadd hx hb dL_law_571 ?_
      refine va_sld hx hb hXs hbl hbA hS (sc_in (k := 1) hz hL hkk (by omega) c_63) dL_law_572 ?_
      refine lv_aload_n hx hb dL_law_573 rfl (lv_at hl 0 rfl) ?_
      refine lv_iload_n hx hb dL_law_574 rfl (lv_at hl 3 rfl) ?_
      refine lv_iconst (v := 2) hx hb dL_law_575 (by decide) ?_
      refine lv_iadd hx hb dL_law_576 ?_
      refine va_sld hx hb hXs hbl hbA hS (sc_in (k := 2) hz hL hkk (by omega) c_63) dL_law_577 ?_
      refine lv_aload_n hx hb dL_law_578 rfl (lv_at hl 0 rfl) ?_
      refine lv_iload_n hx hb dL_law_579 rfl (lv_at hl 3 rfl) ?_
      refine lv_iconst (v := 3) hx hb dL_law_580 (by decide) ?_
      refine lv_iadd hx hb dL_law_581 ?_
      refine va_sld hx hb hXs hbl hbA hS (sc_in (k := 3) hz hL hkk (by omega) c_63) dL_law_582 ?_
      refine rq_call1 (v := .int (prt (xA 2) (xB 2) (xs (z + 2).toNatClampNeg) (xs (z + 3).toNatClampNeg))) (rm_V (As := [.int (xs (z + 1).toNatClampNeg), .int (xs (z + 2).toNatClampNeg), .int (xs (z + 3).toNatClampNeg)]) (rest := []) (ci := 7) (fs := [.int (sc 0), .int (sc 1), .int (sc 3), .int (sc 4), .int (sc 5), .ref (w 0), .int (sc 7), .int (sc 2), .int (sc 6), .ref (w 1), .ref (w 2), .ref (w 3), .int (sc 9), .ref (w 4), .ref (w 5), .ref (w 6), .ref (w 7), .int (sc 17), .ref (w 8), .ref (w 9), .ref (w 10), .ref (w 11), .ref (w 12), .ref (w 13), .ref (w 14), .ref (w 15), .int (sc 10), .int (sc 11), .int (sc 14), .int (sc 12), .int (sc 16), .int (sc 18), .ref (w 16), .ref (w 17), .ref (w 18), .ref (w 19), .int (sc 13), .ref (w 20), .int (sc 8), .ref (w 21), .ref (w 22), .ref (w 23), .ref (w 24), .ref (w 25)]) ⟨hx, hb, hml, hown, hts⟩ (c_X8_list_ok l D cA mo (sc 0) (sc 1) (sc 3) (sc 4) (sc 5) (w 0) (sc 7) (sc 2) (sc 6) (w 1) (w 2) (w 3) (sc 9) (w 4) (w 5) (w 6) (w 7) (sc 17) (w 8) (w 9) (w 10) (w 11) (w 12) (w 13) (w 14) (w 15) (sc 10) (sc 11) (sc 14) (sc 12) (sc 16) (sc 18) (w 16) (w 17) (w 18) (w 19) (sc 13) (w 20) (sc 8) (w 21) (w 22) (w 23) (w 24) (w 25) (xs (z + 1).toNatClampNeg) (xs (z + 2).toNatClampNeg) (xs (z + 3).toNatClampNeg) b0 2 (a 34) (a 35) (xA 2) (xB 2) hc (st_2 h hc.2) em (by omega) e9.1 e9.2 (li_2 h (by omega))) rfl (cwV 3 hts gL_law_X8_list rfl rfl rfl (by decide +kernel) ⟨Nat.le_of_ble_eq_true rfl, Nat.le_of_ble_eq_true rfl⟩) hK hP [none, none, none, none, none, none, none, none, none, none, none, none, none, none, none, none, none, none, none, none, none, none, none, none, none, none, none, none, none, none, none, none, none, none, none, none, none, none, none, none, none, none, none, none, none, none, none, none, none, none, none, none, some 0, none, none, none, none, some 1, some 2, none, none, none, none, none, none, none, none, none, none, none, none, none, none, none, none, none, none, none, none] rfl rfl rfl rfl rfl hl.1 rfl (Nat.le_of_ble_eq_true rfl) dL_law_583 ⟨by decide +kernel, by decide +kernel⟩) ?_
      refine lv_pop hx hb dL_law_586 rfl ?_
      refine lv_goto (tgt := 746) hx hb dL_law_587 (by decide) ?_
      refine lv_iinc (v := (z + 4)) (lv' := [(3, .int (z + 4)), (0, .ref b), (1, .ref xo), (2, .ref mo)]) hx hb dL_law_746 (lv_sub hl [0, 1, 2, 3] rfl) (k := 3) rfl rfl (by decide) rfl (fun ls hl => ?_)
      refine lv_goto (tgt := 58) hx hb dL_law_749 (by decide) ?_
      exact ih (J_same h) hP hD hS (lv_sub hl [1, 2, 3, 0] rfl)
    · skip
      refine lv_aload_n hx hb dL_law_547 rfl (lv_at hl 1 rfl) ?_
      refine lv_aload_n hx hb dL_law_548 rfl (lv_at hl 0 rfl) ?_
      refine lv_iload_n hx hb dL_law_549 rfl (lv_at hl 3 rfl) ?_
      refine lv_iconst (v := 1) hx hb dL_law_550 (by decide) ?_
      refine lv_iadd hx hb dL_law_551 ?_
      refine va_sld hx hb hXs hbl hbA hS (sc_in (k := 1) hz hL hkk (by omega) c_63) dL_law_552 ?_
      refine lv_aload_n hx hb dL_law_553 rfl (lv_at hl 0 rfl) ?_
      refine lv_iload_n hx hb dL_law_554 rfl (lv_at hl 3 rfl) ?_
      refine lv_iconst (v := 2) hx hb dL_law_555 (by decide) ?_
      refine lv_iadd hx hb dL_law_556 ?_
      refine va_sld hx hb hXs hbl hbA hS (sc_in (k := 2) hz hL hkk (by omega) c_63) dL_law_557 ?_
      refine lv_aload_n hx hb dL_law_558 rfl (lv_at hl 0 rfl) ?_
      refine lv_iload_n hx hb dL_law_559 rfl (lv_at hl 3 rfl) ?_
      refine lv_iconst (v := 3) hx hb dL_law_560 (by decide) ?_
      refine lv_iadd hx hb dL_law_561 ?_
      refine va_sld hx hb hXs hbl hbA hS (sc_in (k := 3) hz hL hkk (by omega) c_63) dL_law_562 ?_
      refine rq_call1 (v := .int (prt (xA 3) (xB 3) (xs (z + 2).toNatClampNeg) (xs (z + 3).toNatClampNeg))) (rm_V (As := [.int (xs (z + 1).toNatClampNeg), .int (xs (z + 2).toNatClampNeg), .int (xs (z + 3).toNatClampNeg)]) (rest := []) (ci := 6) (fs := [.ref (u 0), .ref (u 1), .ref (u 2), .int (sc 3), .ref (u 3), .ref (u 4), .ref (u 5), .ref (u 6), .ref (u 7), .ref (u 8), .ref (u 9), .ref (u 10), .int (sc 7), .int (sc 6), .int (sc 9), .int (sc 10), .int (sc 15), .int (sc 11), .int (sc 12), .int (sc 14)]) ⟨hx, hb, hml, hown, hts⟩ (c_X7_list_ok l D cA xo (u 0) (u 1) (u 2) (sc 3) (u 3) (u 4) (u 5) (u 6) (u 7) (u 8) (u 9) (u 10) (sc 7) (sc 6) (sc 9) (sc 10) (sc 15) (sc 11) (sc 12) (sc 14) (xs (z + 1).toNatClampNeg) (xs (z + 2).toNatClampNeg) (xs (z + 3).toNatClampNeg) (u 33) (u 34) 3 (xA 3) (xB 3) (fun k => u (22 + k)) hc em (by omega)) rfl (cwV 3 hts gL_law_X7_list rfl rfl rfl (by decide +kernel) ⟨Nat.le_of_ble_eq_true rfl, Nat.le_of_ble_eq_true rfl⟩) hK hP [some 0, none, none, none, none, none, none, none, none, none, none, none, none, none, none, none, some 1, none, none, none, none, none, none, none, none, none, some 2, some 3, some 4, none, none, none, none, none, none, none, none, none, none, none, none, none, none, none, none, none, none, none, none, none, none, none, none, none, none, none, none, none, none, none, none, none, none, none, none, none, none, none, none, none, none, none, none, none, none, none, none, none, none] rfl rfl rfl rfl rfl hl.1 rfl (Nat.le_of_ble_eq_true rfl) dL_law_563 ⟨by decide +kernel, by decide +kernel⟩) ?_
      refine lv_pop hx hb dL_law_566 rfl ?_
      refine lv_aload_n hx hb dL_law_567 rfl (lv_at hl 2 rfl) ?_
      refine lv_aload_n hx hb dL_law_568 rfl (lv_at hl 0 rfl) ?_
      refine lv_iload_n hx hb dL_law_569 rfl (lv_at hl 3 rfl) ?_
      refine lv_iconst (v := 1) hx hb dL_law_570 (by decide) ?_
      refine lv_iadd hx hb dL_law_571 ?_
      refine va_sld hx hb hXs hbl hbA hS (sc_in (k := 1) hz hL hkk (by omega) c_63) dL_law_572 ?_
      refine lv_aload_n hx hb dL_law_573 rfl (lv_at hl 0 rfl) ?_
      refine lv_iload_n hx hb dL_law_574 rfl (lv_at hl 3 rfl) ?_
      refine lv_iconst (v := 2) hx hb dL_law_575 (by decide) ?_
      refine lv_iadd hx hb dL_law_576 ?_
      refine va_sld hx hb hXs hbl hbA hS (sc_in (k := 2) hz hL hkk (by omega) c_63) dL_law_577 ?_
      refine lv_aload_n hx hb dL_law_578 rfl (lv_at hl 0 rfl) ?_
      refine lv_iload_n hx hb dL_law_579 rfl (lv_at hl 3 rfl) ?_
      refine lv_iconst (v := 3) hx hb dL_law_580 (by decide) ?_
      refine lv_iadd hx hb dL_law_581 ?_
      refine va_sld hx hb hXs hbl hbA hS (sc_in (k := 3) hz hL hkk (by omega) c_63) dL_law_582 ?_
      refine rq_call1 (v := .int (prt (xA 3) (xB 3) (xs (z + 2).toNatClampNeg) (xs (z + 3).toNatClampNeg))) (rm_V (As := [.int (xs (z + 1).toNatClampNeg), .int (xs (z + 2).toNatClampNeg), .int (xs (z + 3).toNatClampNeg)]) (rest := []) (ci := 7) (fs := [.int (sc 0), .int (sc 1), .int (sc 3), .int (sc 4), .int (sc 5), .ref (w 0), .int (sc 7), .int (sc 2), .int (sc 6), .ref (w 1), .ref (w 2), .ref (w 3), .int (sc 9), .ref (w 4), .ref (w 5), .ref (w 6), .ref (w 7), .int (sc 17), .ref (w 8), .ref (w 9), .ref (w 10), .ref (w 11), .ref (w 12), .ref (w 13), .ref (w 14), .ref (w 15), .int (sc 10), .int (sc 11), .int (sc 14), .int (sc 12), .int (sc 16), .int (sc 18), .ref (w 16), .ref (w 17), .ref (w 18), .ref (w 19), .int (sc 13), .ref (w 20), .int (sc 8), .ref (w 21), .ref (w 22), .ref (w 23), .ref (w 24), .ref (w 25)]) ⟨hx, hb, hml, hown, hts⟩ (c_X8_list_ok l D cA mo (sc 0) (sc 1) (sc 3) (sc 4) (sc 5) (w 0) (sc 7) (sc 2) (sc 6) (w 1) (w 2) (w 3) (sc 9) (w 4) (w 5) (w 6) (w 7) (sc 17) (w 8) (w 9) (w 10) (w 11) (w 12) (w 13) (w 14) (w 15) (sc 10) (sc 11) (sc 14) (sc 12) (sc 16) (sc 18) (w 16) (w 17) (w 18) (w 19) (sc 13) (w 20) (sc 8) (w 21) (w 22) (w 23) (w 24) (w 25) (xs (z + 1).toNatClampNeg) (xs (z + 2).toNatClampNeg) (xs (z + 3).toNatClampNeg) b0 3 (a 34) (a 35) (xA 3) (xB 3) hc (st_2 h hc.2) em (by omega) e9.1 e9.2 (li_2 h (by omega))) rfl (cwV 3 hts gL_law_X8_list rfl rfl rfl (by decide +kernel) ⟨Nat.le_of_ble_eq_true rfl, Nat.le_of_ble_eq_true rfl⟩) hK hP [none, none, none, none, none, none, none, none, none, none, none, none, none, none, none, none, none, none, none, none, none, none, none, none, none, none, none, none, none, none, none, none, none, none, none, none, none, none, none, none, none, none, none, none, none, none, none, none, none, none, none, none, some 0, none, none, none, none, some 1, some 2, none, none, none, none, none, none, none, none, none, none, none, none, none, none, none, none, none, none, none, none] rfl rfl rfl rfl rfl hl.1 rfl (Nat.le_of_ble_eq_true rfl) dL_law_583 ⟨by decide +kernel, by decide +kernel⟩) ?_
      refine lv_pop hx hb dL_law_586 rfl ?_
      refine lv_goto (tgt := 746) hx hb dL_law_587 (by decide) ?_
      refine lv_iinc (v := (z + 4)) (lv' := [(3, .int (z + 4)), (0, .ref b), (1, .ref xo), (2, .ref mo)]) hx hb dL_law_746 (lv_sub hl [0, 1, 2, 3] rfl) (k := 3) rfl rfl (by decide) rfl (fun ls hl => ?_)
      refine lv_goto (tgt := 58) hx hb dL_law_749 (by decide) ?_
      exact ih (J_same h) hP hD hS (lv_sub hl [1, 2, 3, 0] rfl)
    · skip
      refine lv_aload_n hx hb dL_law_547 rfl (lv_at hl 1 rfl) ?_
      refine lv_aload_n hx hb dL_law_548 rfl (lv_at hl 0 rfl) ?_
      refine lv_iload_n hx hb dL_law_549 rfl (lv_at hl 3 rfl) ?_
      refine lv_iconst (v := 1) hx hb dL_law_550 (by decide) ?_
      refine lv_iadd hx hb dL_law_551 ?_
      refine va_sld hx hb hXs hbl hbA hS (sc_in (k := 1) hz hL hkk (by omega) c_63) dL_law_552 ?_
      refine lv_aload_n hx hb dL_law_553 rfl (lv_at hl 0 rfl) ?_
      refine lv_iload_n hx hb dL_law_554 rfl (lv_at hl 3 rfl) ?_
      refine lv_iconst (v := 2) hx hb dL_law_555 (by decide) ?_
      refine lv_iadd hx hb dL_law_556 ?_
      refine va_sld hx hb hXs hbl hbA hS (sc_in (k := 2) hz hL hkk (by omega) c_63) dL_law_557 ?_
      refine lv_aload_n hx hb dL_law_558 rfl (lv_at hl 0 rfl) ?_
      refine lv_iload_n hx hb dL_law_559 rfl (lv_at hl 3 rfl) ?_
      refine lv_iconst (v := 3) hx hb dL_law_560 (by decide) ?_
      refine lv_iadd hx hb dL_law_561 ?_
      refine va_sld hx hb hXs hbl hbA hS (sc_in (k := 3) hz hL hkk (by omega) c_63) dL_law_562 ?_
      refine rq_call1 (v := .int (prt (xA 4) (xB 4) (xs (z + 2).toNatClampNeg) (xs (z + 3).toNatClampNeg))) (rm_V (As := [.int (xs (z + 1).toNatClampNeg), .int (xs (z + 2).toNatClampNeg), .int (xs (z + 3).toNatClampNeg)]) (rest := []) (ci := 6) (fs := [.ref (u 0), .ref (u 1), .ref (u 2), .int (sc 3), .ref (u 3), .ref (u 4), .ref (u 5), .ref (u 6), .ref (u 7), .ref (u 8), .ref (u 9), .ref (u 10), .int (sc 7), .int (sc 6), .int (sc 9), .int (sc 10), .int (sc 15), .int (sc 11), .int (sc 12), .int (sc 14)]) ⟨hx, hb, hml, hown, hts⟩ (c_X7_list_ok l D cA xo (u 0) (u 1) (u 2) (sc 3) (u 3) (u 4) (u 5) (u 6) (u 7) (u 8) (u 9) (u 10) (sc 7) (sc 6) (sc 9) (sc 10) (sc 15) (sc 11) (sc 12) (sc 14) (xs (z + 1).toNatClampNeg) (xs (z + 2).toNatClampNeg) (xs (z + 3).toNatClampNeg) (u 35) (u 36) 4 (xA 4) (xB 4) (fun k => u (22 + k)) hc em (by omega)) rfl (cwV 3 hts gL_law_X7_list rfl rfl rfl (by decide +kernel) ⟨Nat.le_of_ble_eq_true rfl, Nat.le_of_ble_eq_true rfl⟩) hK hP [some 0, none, none, none, none, none, none, none, none, none, none, none, none, none, none, none, some 1, none, none, none, none, none, none, none, none, none, none, none, none, some 2, some 3, some 4, none, none, none, none, none, none, none, none, none, none, none, none, none, none, none, none, none, none, none, none, none, none, none, none, none, none, none, none, none, none, none, none, none, none, none, none, none, none, none, none, none, none, none, none, none, none, none] rfl rfl rfl rfl rfl hl.1 rfl (Nat.le_of_ble_eq_true rfl) dL_law_563 ⟨by decide +kernel, by decide +kernel⟩) ?_
      refine lv_pop hx hb dL_law_566 rfl ?_
      refine lv_aload_n hx hb dL_law_567 rfl (lv_at hl 2 rfl) ?_
      refine lv_aload_n hx hb dL_law_568 rfl (lv_at hl 0 rfl) ?_
      refine lv_iload_n hx hb dL_law_569 rfl (lv_at hl 3 rfl) ?_
      refine lv_iconst (v := 1) hx hb dL_law_570 (by decide) ?_
      refine lv_iadd hx hb dL_law_571 ?_
      refine va_sld hx hb hXs hbl hbA hS (sc_in (k := 1) hz hL hkk (by omega) c_63) dL_law_572 ?_
      refine lv_aload_n hx hb dL_law_573 rfl (lv_at hl 0 rfl) ?_
      refine lv_iload_n hx hb dL_law_574 rfl (lv_at hl 3 rfl) ?_
      refine lv_iconst (v := 2) hx hb dL_law_575 (by decide) ?_
      refine lv_iadd hx hb dL_law_576 ?_
      refine va_sld hx hb hXs hbl hbA hS (sc_in (k := 2) hz hL hkk (by omega) c_63) dL_law_577 ?_
      refine lv_aload_n hx hb dL_law_578 rfl (lv_at hl 0 rfl) ?_
      refine lv_iload_n hx hb dL_law_579 rfl (lv_at hl 3 rfl) ?_
      refine lv_iconst (v := 3) hx hb dL_law_580 (by decide) ?_
      refine lv_iadd hx hb dL_law_581 ?_
      refine va_sld hx hb hXs hbl hbA hS (sc_in (k := 3) hz hL hkk (by omega) c_63) dL_law_582 ?_
      refine rq_call1 (v := .int (prt (xA 4) (xB 4) (xs (z + 2).toNatClampNeg) (xs (z + 3).toNatClampNeg))) (rm_V (As := [.int (xs (z + 1).toNatClampNeg), .int (xs (z + 2).toNatClampNeg), .int (xs (z + 3).toNatClampNeg)]) (rest := []) (ci := 7) (fs := [.int (sc 0), .int (sc 1), .int (sc 3), .int (sc 4), .int (sc 5), .ref (w 0), .int (sc 7), .int (sc 2), .int (sc 6), .ref (w 1), .ref (w 2), .ref (w 3), .int (sc 9), .ref (w 4), .ref (w 5), .ref (w 6), .ref (w 7), .int (sc 17), .ref (w 8), .ref (w 9), .ref (w 10), .ref (w 11), .ref (w 12), .ref (w 13), .ref (w 14), .ref (w 15), .int (sc 10), .int (sc 11), .int (sc 14), .int (sc 12), .int (sc 16), .int (sc 18), .ref (w 16), .ref (w 17), .ref (w 18), .ref (w 19), .int (sc 13), .ref (w 20), .int (sc 8), .ref (w 21), .ref (w 22), .ref (w 23), .ref (w 24), .ref (w 25)]) ⟨hx, hb, hml, hown, hts⟩ (c_X8_list_ok l D cA mo (sc 0) (sc 1) (sc 3) (sc 4) (sc 5) (w 0) (sc 7) (sc 2) (sc 6) (w 1) (w 2) (w 3) (sc 9) (w 4) (w 5) (w 6) (w 7) (sc 17) (w 8) (w 9) (w 10) (w 11) (w 12) (w 13) (w 14) (w 15) (sc 10) (sc 11) (sc 14) (sc 12) (sc 16) (sc 18) (w 16) (w 17) (w 18) (w 19) (sc 13) (w 20) (sc 8) (w 21) (w 22) (w 23) (w 24) (w 25) (xs (z + 1).toNatClampNeg) (xs (z + 2).toNatClampNeg) (xs (z + 3).toNatClampNeg) b0 4 (a 34) (a 35) (xA 4) (xB 4) hc (st_2 h hc.2) em (by omega) e9.1 e9.2 (li_2 h (by omega))) rfl (cwV 3 hts gL_law_X8_list rfl rfl rfl (by decide +kernel) ⟨Nat.le_of_ble_eq_true rfl, Nat.le_of_ble_eq_true rfl⟩) hK hP [none, none, none, none, none, none, none, none, none, none, none, none, none, none, none, none, none, none, none, none, none, none, none, none, none, none, none, none, none, none, none, none, none, none, none, none, none, none, none, none, none, none, none, none, none, none, none, none, none, none, none, none, some 0, none, none, none, none, some 1, some 2, none, none, none, none, none, none, none, none, none, none, none, none, none, none, none, none, none, none, none, none] rfl rfl rfl rfl rfl hl.1 rfl (Nat.le_of_ble_eq_true rfl) dL_law_583 ⟨by decide +kernel, by decide +kernel⟩) ?_
      refine lv_pop hx hb dL_law_586 rfl ?_
      refine lv_goto (tgt := 746) hx hb dL_law_587 (by decide) ?_
      refine lv_iinc (v := (z + 4)) (lv' := [(3, .int (z + 4)), (0, .ref b), (1, .ref xo), (2, .ref mo)]) hx hb dL_law_746 (lv_sub hl [0, 1, 2, 3] rfl) (k := 3) rfl rfl (by decide) rfl (fun ls hl => ?_)
      refine lv_goto (tgt := 58) hx hb dL_law_749 (by decide) ?_
      exact ih (J_same h) hP hD hS (lv_sub hl [1, 2, 3, 0] rfl)
  · skip
    refine lv_aload_n hx hb dL_law_547 rfl (lv_at hl 1 rfl) ?_
    refine lv_aload_n hx hb dL_law_548 rfl (lv_at hl 0 rfl) ?_
    refine lv_iload_n hx hb dL_law_549 rfl (lv_at hl 3 rfl) ?_
    refine lv_iconst (v := 1) hx hb dL_law_550 (by decide) ?_
    refine lv_iadd hx hb dL_law_551 ?_
    refine va_sld hx hb hXs hbl hbA hS (sc_in (k := 1) hz hL hkk (by omega) c_63) dL_law_552 ?_
    refine lv_aload_n hx hb dL_law_553 rfl (lv_at hl 0 rfl) ?_
    refine lv_iload_n hx hb dL_law_554 rfl (lv_at hl 3 rfl) ?_
    refine lv_iconst (v := 2) hx hb dL_law_555 (by decide) ?_
    refine lv_iadd hx hb dL_law_556 ?_
    refine va_sld hx hb hXs hbl hbA hS (sc_in (k := 2) hz hL hkk (by omega) c_63) dL_law_557 ?_
    refine lv_aload_n hx hb dL_law_558 rfl (lv_at hl 0 rfl) ?_
    refine lv_iload_n hx hb dL_law_559 rfl (lv_at hl 3 rfl) ?_
    refine lv_iconst (v := 3) hx hb dL_law_560 (by decide) ?_
    refine lv_iadd hx hb dL_law_561 ?_
    refine va_sld hx hb hXs hbl hbA hS (sc_in (k := 3) hz hL hkk (by omega) c_63) dL_law_562 ?_
    refine rq_call1 (v := .int (-1)) (rm_V (As := [.int (xs (z + 1).toNatClampNeg), .int (xs (z + 2).toNatClampNeg), .int (xs (z + 3).toNatClampNeg)]) (rest := []) (ci := 6) (fs := [.ref (u 0), .ref (u 1), .ref (u 2), .int (sc 3), .ref (u 3), .ref (u 4), .ref (u 5), .ref (u 6), .ref (u 7), .ref (u 8), .ref (u 9), .ref (u 10), .int (sc 7), .int (sc 6), .int (sc 9), .int (sc 10), .int (sc 15), .int (sc 11), .int (sc 12), .int (sc 14)]) ⟨hx, hb, hml, hown, hts⟩ (c_X7_list_no l D cA xo (u 0) (u 1) (u 2) (sc 3) (u 3) (u 4) (u 5) (u 6) (u 7) (u 8) (u 9) (u 10) (sc 7) (sc 6) (sc 9) (sc 10) (sc 15) (sc 11) (sc 12) (sc 14) (xs (z + 1).toNatClampNeg) (xs (z + 2).toNatClampNeg) (xs (z + 3).toNatClampNeg) hc) rfl (cwV 3 hts gL_law_X7_list rfl rfl rfl (by decide +kernel) ⟨Nat.le_of_ble_eq_true rfl, Nat.le_of_ble_eq_true rfl⟩) hK hP [some 0, none, none, none, none, none, none, none, none, none, none, none, none, none, none, none, none, none, none, none, none, none, none, none, none, none, none, none, none, none, none, none, none, none, none, none, none, none, none, none, none, none, none, none, none, none, none, none, none, none, none, none, none, none, none, none, none, none, none, none, none, none, none, none, none, none, none, none, none, none, none, none, none, none, none, none, none, none, none] rfl rfl rfl rfl rfl hl.1 rfl (Nat.le_of_ble_eq_true rfl) dL_law_563 ⟨by decide +kernel, by decide +kernel⟩) ?_
    refine lv_pop hx hb dL_law_566 rfl ?_
    refine lv_aload_n hx hb dL_law_567 rfl (lv_at hl 2 rfl) ?_
    refine lv_aload_n hx hb dL_law_568 rfl (lv_at hl 0 rfl) ?_
    refine lv_iload_n hx hb dL_law_569 rfl (lv_at hl 3 rfl) ?_
    refine lv_iconst (v := 1) hx hb dL_law_570 (by decide) ?_
    refine lv_iadd hx hb dL_law_571 ?_
    refine va_sld hx hb hXs hbl hbA hS (sc_in (k := 1) hz hL hkk (by omega) c_63) dL_law_572 ?_
    refine lv_aload_n hx hb dL_law_573 rfl (lv_at hl 0 rfl) ?_
    refine lv_iload_n hx hb dL_law_574 rfl (lv_at hl 3 rfl) ?_
    refine lv_iconst (v := 2) hx hb dL_law_575 (by decide) ?_
    refine lv_iadd hx hb dL_law_576 ?_
    refine va_sld hx hb hXs hbl hbA hS (sc_in (k := 2) hz hL hkk (by omega) c_63) dL_law_577 ?_
    refine lv_aload_n hx hb dL_law_578 rfl (lv_at hl 0 rfl) ?_
    refine lv_iload_n hx hb dL_law_579 rfl (lv_at hl 3 rfl) ?_
    refine lv_iconst (v := 3) hx hb dL_law_580 (by decide) ?_
    refine lv_iadd hx hb dL_law_581 ?_
    refine va_sld hx hb hXs hbl hbA hS (sc_in (k := 3) hz hL hkk (by omega) c_63) dL_law_582 ?_
    refine rq_call1 (v := .int (-1)) (rm_V (As := [.int (xs (z + 1).toNatClampNeg), .int (xs (z + 2).toNatClampNeg), .int (xs (z + 3).toNatClampNeg)]) (rest := []) (ci := 7) (fs := [.int (sc 0), .int (sc 1), .int (sc 3), .int (sc 4), .int (sc 5), .ref (w 0), .int (sc 7), .int (sc 2), .int (sc 6), .ref (w 1), .ref (w 2), .ref (w 3), .int (sc 9), .ref (w 4), .ref (w 5), .ref (w 6), .ref (w 7), .int (sc 17), .ref (w 8), .ref (w 9), .ref (w 10), .ref (w 11), .ref (w 12), .ref (w 13), .ref (w 14), .ref (w 15), .int (sc 10), .int (sc 11), .int (sc 14), .int (sc 12), .int (sc 16), .int (sc 18), .ref (w 16), .ref (w 17), .ref (w 18), .ref (w 19), .int (sc 13), .ref (w 20), .int (sc 8), .ref (w 21), .ref (w 22), .ref (w 23), .ref (w 24), .ref (w 25)]) ⟨hx, hb, hml, hown, hts⟩ (c_X8_list_no l D cA mo (sc 0) (sc 1) (sc 3) (sc 4) (sc 5) (w 0) (sc 7) (sc 2) (sc 6) (w 1) (w 2) (w 3) (sc 9) (w 4) (w 5) (w 6) (w 7) (sc 17) (w 8) (w 9) (w 10) (w 11) (w 12) (w 13) (w 14) (w 15) (sc 10) (sc 11) (sc 14) (sc 12) (sc 16) (sc 18) (w 16) (w 17) (w 18) (w 19) (sc 13) (w 20) (sc 8) (w 21) (w 22) (w 23) (w 24) (w 25) (xs (z + 1).toNatClampNeg) (xs (z + 2).toNatClampNeg) (xs (z + 3).toNatClampNeg) b0 hc e9.1 e9.2) rfl (cwV 3 hts gL_law_X8_list rfl rfl rfl (by decide +kernel) ⟨Nat.le_of_ble_eq_true rfl, Nat.le_of_ble_eq_true rfl⟩) hK hP [none, none, none, none, none, none, none, none, none, none, none, none, none, none, none, none, none, none, none, none, none, none, none, none, none, none, none, none, none, none, none, none, none, none, none, none, none, none, none, none, none, none, none, none, none, none, none, none, none, none, none, none, some 0, none, none, none, none, none, none, none, none, none, none, none, none, none, none, none, none, none, none, none, none, none, none, none, none, none, none] rfl rfl rfl rfl rfl hl.1 rfl (Nat.le_of_ble_eq_true rfl) dL_law_583 ⟨by decide +kernel, by decide +kernel⟩) ?_
    refine lv_pop hx hb dL_law_586 rfl ?_
    refine lv_goto (tgt := 746) hx hb dL_law_587 (by decide) ?_
    refine lv_iinc (v := (z + 4)) (lv' := [(3, .int (z + 4)), (0, .ref b), (1, .ref xo), (2, .ref mo)]) hx hb dL_law_746 (lv_sub hl [0, 1, 2, 3] rfl) (k := 3) rfl rfl (by decide) rfl (fun ls hl => ?_)
    refine lv_goto (tgt := 58) hx hb dL_law_749 (by decide) ?_
    exact ih (J_same h) hP hD hS (lv_sub hl [1, 2, 3, 0] rfl)
set_option maxHeartbeats 16000000 in
set_option maxRecDepth 100000 in
/-- shadowOf -/
theorem law_16 {p : Program} {l : Launch} {e : Env} {s : State} {m : MethodId} {below : List Frame} {meth : Method} {c : Code} {b L : Nat} {xs : Nat → Int32} {D : va_G} {cA : Nat → ClassId} {A : Nat → Prop} {p0 q0 c0 t0 k0 kk v0 st0 n0 b0 mx ro rj mw un : Nat} {xo mo : Nat} {u w : Nat → Nat} {sc : Nat → Int32} {a xA xB g : Nat → Nat → Int32} {lq : Nat → Nat → Int64} {H : Heap} {locs : List Loc} {ls : Array Slot} {z : Int32} (hx : p.tables.exec = Jvm.exec) (hb : c.code = cL_law) (hml : c.maxLocals = 4) (hown : s.vm.findClass RL = some m.cls) (hts : ∀ w ∈ wsL_law, w.before #[Value.ref b] s = true) (hXs : va_X b L xs s s.heap) (hbl : b < s.heap.size) (hbA : ¬ A b) (hK : va_K D vwCl (tyS cA) s) (h : JJ p0 q0 c0 t0 k0 kk v0 st0 n0 b0 mx ro rj mw un sc a xA xB g) (hP : va_P D vwCl (((LWc cA xo u c0 t0 k0 sc a xA xB lq) ++ (LWr cA mo w sc a lq)) ++ (rwT cA (u 51) g (t0 + 1))) H) (hD : va_D A (((LWc cA xo u c0 t0 k0 sc a xA xB lq) ++ (LWr cA mo w sc a lq)) ++ (rwT cA (u 51) g (t0 + 1)))) (hS : va_S A s.heap H locs) (hl : lv_has ls 4 [(0, .ref b), (1, .ref xo), (2, .ref mo), (3, .int z)]) (hz : z = nI (4 + 4 * kk)) (hL : L ≤ 2052) (hkk : kk ≤ 512) (hk5 : kk < 512) (c_63 : ¬ Int32.ofNat L - 4 < z) (ih : ∀ {v0 st0 n0 b0 mx ro rj mw un : Nat} {sc : Nat → Int32} {a xA xB g : Nat → Nat → Int32} {lq : Nat → Nat → Int64}, JJ p0 q0 c0 t0 k0 (kk + 1) v0 st0 n0 b0 mx ro rj mw un sc a xA xB g → ∀ {H : Heap} {locs : List Loc}, va_P D vwCl ((LWc cA xo u c0 t0 k0 sc a xA xB lq ++ LWr cA mo w sc a lq) ++ rwT cA (u 51) g (t0 + 1)) H → va_D A ((LWc cA xo u c0 t0 k0 sc a xA xB lq ++ LWr cA mo w sc a lq) ++ rwT cA (u 51) g (t0 + 1)) → va_S A s.heap H locs → ∀ {ls : Array Slot}, lv_has ls 4 [(0, .ref b), (1, .ref xo), (2, .ref mo), (3, .int (z + 4))] → W p l e room_1 s m #[Value.ref b] below meth c H locs 85 8608 (lw_Z below #[Value.ref b] s) (F0 m 58 ls [])) : W p l e room_1 s m #[Value.ref b] below meth c H locs 85 8608 (lw_Z below #[Value.ref b] s) (F0 m 590 ls []) := by
  have hcst := jj_cst h
  have e0 := jj_e0 h
  have e1 := jj_e1 h
  have e3 := jj_e3 h
  have e4 := jj_e4 h
  have e5 := jj_e5 h
  have e6 := jj_e6 h
  have e7 := jj_e7 h
  have e8 := jj_e8 h
  have e9 := jj_e9 h
  have e10 := jj_e10 h
  have e11 := jj_e11 h
  have hgp : 0 < sc 0 := iv_p e0 (by omega) (by omega)
  have hgq : 0 < sc 1 := iv_p e1 (by omega) (by omega)
  have h6 : n0 < 600 := by omega
  refine lv_aload_n hx hb dL_law_590 rfl (lv_at hl 1 rfl) ?_
  refine lv_aload_n hx hb dL_law_591 rfl (lv_at hl 0 rfl) ?_
  refine lv_iload_n hx hb dL_law_592 rfl (lv_at hl 3 rfl) ?_
  refine lv_iconst (v := 1) hx hb dL_law_593 (by decide) ?_
  refine lv_iadd hx hb dL_law_594 ?_
  refine va_sld hx hb hXs hbl hbA hS (sc_in (k := 1) hz hL hkk (by omega) c_63) dL_law_595 ?_
  refine lv_aload_n hx hb dL_law_596 rfl (lv_at hl 0 rfl) ?_
  refine lv_iload_n hx hb dL_law_597 rfl (lv_at hl 3 rfl) ?_
  refine lv_iconst (v := 2) hx hb dL_law_598 (by decide) ?_
  refine lv_iadd hx hb dL_law_599 ?_
  refine va_sld hx hb hXs hbl hbA hS (sc_in (k := 2) hz hL hkk (by omega) c_63) dL_law_600 ?_
  refine rq_call1 (v := .int (if 0 ≤ (xs (z + 1).toNatClampNeg) ∧ (xs (z + 1).toNatClampNeg) < (sc 9) then prt (a 13) (a 14) (xs (z + 1).toNatClampNeg) (xs (z + 2).toNatClampNeg) else -1)) (rm_V (As := [.int (xs (z + 1).toNatClampNeg), .int (xs (z + 2).toNatClampNeg)]) (rest := []) (ci := 6) (fs := [.ref (u 0), .ref (u 1), .ref (u 2), .int (sc 3), .ref (u 3), .ref (u 4), .ref (u 5), .ref (u 6), .ref (u 7), .ref (u 8), .ref (u 9), .ref (u 10), .int (sc 7), .int (sc 6), .int (sc 9), .int (sc 10), .int (sc 15), .int (sc 11), .int (sc 12), .int (sc 14)]) ⟨hx, hb, hml, hown, hts⟩ (c_X7_shadowOf l D cA xo (u 0) (u 1) (u 2) (sc 3) (u 3) (u 4) (u 5) (u 6) (u 7) (u 8) (u 9) (u 10) (sc 7) (sc 6) (sc 9) (sc 10) (sc 15) (sc 11) (sc 12) (sc 14) (xs (z + 1).toNatClampNeg) (xs (z + 2).toNatClampNeg) (u 37) (u 38) (a 13) (a 14)) rfl (cwV 2 hts gL_law_X7_shadowOf rfl rfl rfl (by decide +kernel) ⟨Nat.le_of_ble_eq_true rfl, Nat.le_of_ble_eq_true rfl⟩) hK hP [some 0, none, none, none, none, none, none, none, none, none, none, none, none, none, none, none, none, none, none, none, none, none, none, none, none, none, none, none, none, none, none, none, some 1, some 2, some 3, none, none, none, none, none, none, none, none, none, none, none, none, none, none, none, none, none, none, none, none, none, none, none, none, none, none, none, none, none, none, none, none, none, none, none, none, none, none, none, none, none, none, none, none] rfl rfl rfl rfl rfl hl.1 rfl (Nat.le_of_ble_eq_true rfl) dL_law_601 ⟨by decide +kernel, by decide +kernel⟩) ?_
  refine lv_pop hx hb dL_law_604 rfl ?_
  refine lv_aload_n hx hb dL_law_605 rfl (lv_at hl 2 rfl) ?_
  refine lv_aload_n hx hb dL_law_606 rfl (lv_at hl 0 rfl) ?_
  refine lv_iload_n hx hb dL_law_607 rfl (lv_at hl 3 rfl) ?_
  refine lv_iconst (v := 1) hx hb dL_law_608 (by decide) ?_
  refine lv_iadd hx hb dL_law_609 ?_
  refine va_sld hx hb hXs hbl hbA hS (sc_in (k := 1) hz hL hkk (by omega) c_63) dL_law_610 ?_
  refine lv_aload_n hx hb dL_law_611 rfl (lv_at hl 0 rfl) ?_
  refine lv_iload_n hx hb dL_law_612 rfl (lv_at hl 3 rfl) ?_
  refine lv_iconst (v := 2) hx hb dL_law_613 (by decide) ?_
  refine lv_iadd hx hb dL_law_614 ?_
  refine va_sld hx hb hXs hbl hbA hS (sc_in (k := 2) hz hL hkk (by omega) c_63) dL_law_615 ?_
  refine rq_call1 (v := .int (if ¬ (sc 17) = 0 ∧ (0 ≤ (xs (z + 1).toNatClampNeg) ∧ (xs (z + 1).toNatClampNeg) < (sc 9)) ∧ (0 ≤ (xs (z + 2).toNatClampNeg) ∧ (xs (z + 2).toNatClampNeg) ≤ 1) then (if (xs (z + 2).toNatClampNeg) = 0 then (a 36) (xs (z + 1).toNatClampNeg).toNatClampNeg else (a 37) (xs (z + 1).toNatClampNeg).toNatClampNeg) else -1)) (rm_V (As := [.int (xs (z + 1).toNatClampNeg), .int (xs (z + 2).toNatClampNeg)]) (rest := []) (ci := 7) (fs := [.int (sc 0), .int (sc 1), .int (sc 3), .int (sc 4), .int (sc 5), .ref (w 0), .int (sc 7), .int (sc 2), .int (sc 6), .ref (w 1), .ref (w 2), .ref (w 3), .int (sc 9), .ref (w 4), .ref (w 5), .ref (w 6), .ref (w 7), .int (sc 17), .ref (w 8), .ref (w 9), .ref (w 10), .ref (w 11), .ref (w 12), .ref (w 13), .ref (w 14), .ref (w 15), .int (sc 10), .int (sc 11), .int (sc 14), .int (sc 12), .int (sc 16), .int (sc 18), .ref (w 16), .ref (w 17), .ref (w 18), .ref (w 19), .int (sc 13), .ref (w 20), .int (sc 8), .ref (w 21), .ref (w 22), .ref (w 23), .ref (w 24), .ref (w 25)]) ⟨hx, hb, hml, hown, hts⟩ (c_X8_shadowOf l D cA mo (sc 0) (sc 1) (sc 3) (sc 4) (sc 5) (w 0) (sc 7) (sc 2) (sc 6) (w 1) (w 2) (w 3) (sc 9) (w 4) (w 5) (w 6) (w 7) (sc 17) (w 8) (w 9) (w 10) (w 11) (w 12) (w 13) (w 14) (w 15) (sc 10) (sc 11) (sc 14) (sc 12) (sc 16) (sc 18) (w 16) (w 17) (w 18) (w 19) (sc 13) (w 20) (sc 8) (w 21) (w 22) (w 23) (w 24) (w 25) (xs (z + 1).toNatClampNeg) (xs (z + 2).toNatClampNeg) b0 (a 36) (a 37) e9.1 e9.2) rfl (cwV 2 hts gL_law_X8_shadowOf rfl rfl rfl (by decide +kernel) ⟨Nat.le_of_ble_eq_true rfl, Nat.le_of_ble_eq_true rfl⟩) hK hP [none, none, none, none, none, none, none, none, none, none, none, none, none, none, none, none, none, none, none, none, none, none, none, none, none, none, none, none, none, none, none, none, none, none, none, none, none, none, none, none, none, none, none, none, none, none, none, none, none, none, none, none, some 0, none, none, none, none, none, none, some 1, some 2, none, none, none, none, none, none, none, none, none, none, none, none, none, none, none, none, none, none] rfl rfl rfl rfl rfl hl.1 rfl (Nat.le_of_ble_eq_true rfl) dL_law_616 ⟨by decide +kernel, by decide +kernel⟩) ?_
  refine lv_pop hx hb dL_law_619 rfl ?_
  refine lv_goto (tgt := 746) hx hb dL_law_620 (by decide) ?_
  refine lv_iinc (v := (z + 4)) (lv' := [(3, .int (z + 4)), (0, .ref b), (1, .ref xo), (2, .ref mo)]) hx hb dL_law_746 (lv_sub hl [0, 1, 2, 3] rfl) (k := 3) rfl rfl (by decide) rfl (fun ls hl => ?_)
  refine lv_goto (tgt := 58) hx hb dL_law_749 (by decide) ?_
  exact ih (J_same h) hP hD hS (lv_sub hl [1, 2, 3, 0] rfl)
set_option maxHeartbeats 16000000 in
set_option maxRecDepth 100000 in
/-- shown -/
theorem law_17 {p : Program} {l : Launch} {e : Env} {s : State} {m : MethodId} {below : List Frame} {meth : Method} {c : Code} {b L : Nat} {xs : Nat → Int32} {D : va_G} {cA : Nat → ClassId} {A : Nat → Prop} {p0 q0 c0 t0 k0 kk v0 st0 n0 b0 mx ro rj mw un : Nat} {xo mo : Nat} {u w : Nat → Nat} {sc : Nat → Int32} {a xA xB g : Nat → Nat → Int32} {lq : Nat → Nat → Int64} {H : Heap} {locs : List Loc} {ls : Array Slot} {z : Int32} (hx : p.tables.exec = Jvm.exec) (hb : c.code = cL_law) (hml : c.maxLocals = 4) (hown : s.vm.findClass RL = some m.cls) (hts : ∀ w ∈ wsL_law, w.before #[Value.ref b] s = true) (hXs : va_X b L xs s s.heap) (hbl : b < s.heap.size) (hbA : ¬ A b) (hK : va_K D vwCl (tyS cA) s) (h : JJ p0 q0 c0 t0 k0 kk v0 st0 n0 b0 mx ro rj mw un sc a xA xB g) (hP : va_P D vwCl (((LWc cA xo u c0 t0 k0 sc a xA xB lq) ++ (LWr cA mo w sc a lq)) ++ (rwT cA (u 51) g (t0 + 1))) H) (hD : va_D A (((LWc cA xo u c0 t0 k0 sc a xA xB lq) ++ (LWr cA mo w sc a lq)) ++ (rwT cA (u 51) g (t0 + 1)))) (hS : va_S A s.heap H locs) (hl : lv_has ls 4 [(0, .ref b), (1, .ref xo), (2, .ref mo), (3, .int z)]) (hz : z = nI (4 + 4 * kk)) (hL : L ≤ 2052) (hkk : kk ≤ 512) (hk5 : kk < 512) (c_63 : ¬ Int32.ofNat L - 4 < z) (ih : ∀ {v0 st0 n0 b0 mx ro rj mw un : Nat} {sc : Nat → Int32} {a xA xB g : Nat → Nat → Int32} {lq : Nat → Nat → Int64}, JJ p0 q0 c0 t0 k0 (kk + 1) v0 st0 n0 b0 mx ro rj mw un sc a xA xB g → ∀ {H : Heap} {locs : List Loc}, va_P D vwCl ((LWc cA xo u c0 t0 k0 sc a xA xB lq ++ LWr cA mo w sc a lq) ++ rwT cA (u 51) g (t0 + 1)) H → va_D A ((LWc cA xo u c0 t0 k0 sc a xA xB lq ++ LWr cA mo w sc a lq) ++ rwT cA (u 51) g (t0 + 1)) → va_S A s.heap H locs → ∀ {ls : Array Slot}, lv_has ls 4 [(0, .ref b), (1, .ref xo), (2, .ref mo), (3, .int (z + 4))] → W p l e room_1 s m #[Value.ref b] below meth c H locs 85 8608 (lw_Z below #[Value.ref b] s) (F0 m 58 ls [])) : W p l e room_1 s m #[Value.ref b] below meth c H locs 85 8608 (lw_Z below #[Value.ref b] s) (F0 m 623 ls []) := by
  have hcst := jj_cst h
  have e0 := jj_e0 h
  have e1 := jj_e1 h
  have e3 := jj_e3 h
  have e4 := jj_e4 h
  have e5 := jj_e5 h
  have e6 := jj_e6 h
  have e7 := jj_e7 h
  have e8 := jj_e8 h
  have e9 := jj_e9 h
  have e10 := jj_e10 h
  have e11 := jj_e11 h
  have hgp : 0 < sc 0 := iv_p e0 (by omega) (by omega)
  have hgq : 0 < sc 1 := iv_p e1 (by omega) (by omega)
  have h6 : n0 < 600 := by omega
  refine lv_aload_n hx hb dL_law_623 rfl (lv_at hl 1 rfl) ?_
  refine lv_aload_n hx hb dL_law_624 rfl (lv_at hl 0 rfl) ?_
  refine lv_iload_n hx hb dL_law_625 rfl (lv_at hl 3 rfl) ?_
  refine lv_iconst (v := 1) hx hb dL_law_626 (by decide) ?_
  refine lv_iadd hx hb dL_law_627 ?_
  refine va_sld hx hb hXs hbl hbA hS (sc_in (k := 1) hz hL hkk (by omega) c_63) dL_law_628 ?_
  refine lv_aload_n hx hb dL_law_629 rfl (lv_at hl 0 rfl) ?_
  refine lv_iload_n hx hb dL_law_630 rfl (lv_at hl 3 rfl) ?_
  refine lv_iconst (v := 2) hx hb dL_law_631 (by decide) ?_
  refine lv_iadd hx hb dL_law_632 ?_
  refine va_sld hx hb hXs hbl hbA hS (sc_in (k := 2) hz hL hkk (by omega) c_63) dL_law_633 ?_
  refine rq_call1 (v := .int (if 0 ≤ (xs (z + 1).toNatClampNeg) ∧ (xs (z + 1).toNatClampNeg) < (sc 9) then prt (a 19) (a 20) (xs (z + 1).toNatClampNeg) (xs (z + 2).toNatClampNeg) else -1)) (rm_V (As := [.int (xs (z + 1).toNatClampNeg), .int (xs (z + 2).toNatClampNeg)]) (rest := []) (ci := 6) (fs := [.ref (u 0), .ref (u 1), .ref (u 2), .int (sc 3), .ref (u 3), .ref (u 4), .ref (u 5), .ref (u 6), .ref (u 7), .ref (u 8), .ref (u 9), .ref (u 10), .int (sc 7), .int (sc 6), .int (sc 9), .int (sc 10), .int (sc 15), .int (sc 11), .int (sc 12), .int (sc 14)]) ⟨hx, hb, hml, hown, hts⟩ (c_X7_shown l D cA xo (u 0) (u 1) (u 2) (sc 3) (u 3) (u 4) (u 5) (u 6) (u 7) (u 8) (u 9) (u 10) (sc 7) (sc 6) (sc 9) (sc 10) (sc 15) (sc 11) (sc 12) (sc 14) (xs (z + 1).toNatClampNeg) (xs (z + 2).toNatClampNeg) (u 49) (u 50) (a 19) (a 20)) rfl (cwV 2 hts gL_law_X7_shown rfl rfl rfl (by decide +kernel) ⟨Nat.le_of_ble_eq_true rfl, Nat.le_of_ble_eq_true rfl⟩) hK hP [some 0, none, none, none, none, none, none, none, none, none, none, none, none, none, none, none, none, none, none, none, none, none, none, none, none, none, none, none, none, none, none, none, none, none, none, none, none, none, none, none, none, none, none, none, none, none, none, none, some 1, some 2, some 3, none, none, none, none, none, none, none, none, none, none, none, none, none, none, none, none, none, none, none, none, none, none, none, none, none, none, none, none] rfl rfl rfl rfl rfl hl.1 rfl (Nat.le_of_ble_eq_true rfl) dL_law_634 ⟨by decide +kernel, by decide +kernel⟩) ?_
  refine lv_pop hx hb dL_law_637 rfl ?_
  refine lv_aload_n hx hb dL_law_638 rfl (lv_at hl 2 rfl) ?_
  refine lv_aload_n hx hb dL_law_639 rfl (lv_at hl 0 rfl) ?_
  refine lv_iload_n hx hb dL_law_640 rfl (lv_at hl 3 rfl) ?_
  refine lv_iconst (v := 1) hx hb dL_law_641 (by decide) ?_
  refine lv_iadd hx hb dL_law_642 ?_
  refine va_sld hx hb hXs hbl hbA hS (sc_in (k := 1) hz hL hkk (by omega) c_63) dL_law_643 ?_
  refine lv_aload_n hx hb dL_law_644 rfl (lv_at hl 0 rfl) ?_
  refine lv_iload_n hx hb dL_law_645 rfl (lv_at hl 3 rfl) ?_
  refine lv_iconst (v := 2) hx hb dL_law_646 (by decide) ?_
  refine lv_iadd hx hb dL_law_647 ?_
  refine va_sld hx hb hXs hbl hbA hS (sc_in (k := 2) hz hL hkk (by omega) c_63) dL_law_648 ?_
  refine rq_call1 (v := .int (if 0 ≤ (xs (z + 1).toNatClampNeg) ∧ (xs (z + 1).toNatClampNeg) < (sc 9) then prt (a 19) (a 20) (xs (z + 1).toNatClampNeg) (xs (z + 2).toNatClampNeg) else -1)) (rm_V (As := [.int (xs (z + 1).toNatClampNeg), .int (xs (z + 2).toNatClampNeg)]) (rest := []) (ci := 7) (fs := [.int (sc 0), .int (sc 1), .int (sc 3), .int (sc 4), .int (sc 5), .ref (w 0), .int (sc 7), .int (sc 2), .int (sc 6), .ref (w 1), .ref (w 2), .ref (w 3), .int (sc 9), .ref (w 4), .ref (w 5), .ref (w 6), .ref (w 7), .int (sc 17), .ref (w 8), .ref (w 9), .ref (w 10), .ref (w 11), .ref (w 12), .ref (w 13), .ref (w 14), .ref (w 15), .int (sc 10), .int (sc 11), .int (sc 14), .int (sc 12), .int (sc 16), .int (sc 18), .ref (w 16), .ref (w 17), .ref (w 18), .ref (w 19), .int (sc 13), .ref (w 20), .int (sc 8), .ref (w 21), .ref (w 22), .ref (w 23), .ref (w 24), .ref (w 25)]) ⟨hx, hb, hml, hown, hts⟩ (c_X8_shown l D cA mo (sc 0) (sc 1) (sc 3) (sc 4) (sc 5) (w 0) (sc 7) (sc 2) (sc 6) (w 1) (w 2) (w 3) (sc 9) (w 4) (w 5) (w 6) (w 7) (sc 17) (w 8) (w 9) (w 10) (w 11) (w 12) (w 13) (w 14) (w 15) (sc 10) (sc 11) (sc 14) (sc 12) (sc 16) (sc 18) (w 16) (w 17) (w 18) (w 19) (sc 13) (w 20) (sc 8) (w 21) (w 22) (w 23) (w 24) (w 25) (xs (z + 1).toNatClampNeg) (xs (z + 2).toNatClampNeg) b0 (a 43) (a 44) (a 19) (a 20) e9.1 e9.2 (fun q i hi => jj_w0 h q i (by omega)) (jj_w1 h)) rfl (cwV 2 hts gL_law_X8_shown rfl rfl rfl (by decide +kernel) ⟨Nat.le_of_ble_eq_true rfl, Nat.le_of_ble_eq_true rfl⟩) hK hP [none, none, none, none, none, none, none, none, none, none, none, none, none, none, none, none, none, none, none, none, none, none, none, none, none, none, none, none, none, none, none, none, none, none, none, none, none, none, none, none, none, none, none, none, none, none, none, none, none, none, none, none, some 0, none, none, none, none, none, none, none, none, none, none, none, none, none, none, none, none, some 1, some 2, none, none, none, none, none, none, none, none] rfl rfl rfl rfl rfl hl.1 rfl (Nat.le_of_ble_eq_true rfl) dL_law_649 ⟨by decide +kernel, by decide +kernel⟩) ?_
  refine lv_pop hx hb dL_law_652 rfl ?_
  refine lv_goto (tgt := 746) hx hb dL_law_653 (by decide) ?_
  refine lv_iinc (v := (z + 4)) (lv' := [(3, .int (z + 4)), (0, .ref b), (1, .ref xo), (2, .ref mo)]) hx hb dL_law_746 (lv_sub hl [0, 1, 2, 3] rfl) (k := 3) rfl rfl (by decide) rfl (fun ls hl => ?_)
  refine lv_goto (tgt := 58) hx hb dL_law_749 (by decide) ?_
  exact ih (J_same h) hP hD hS (lv_sub hl [1, 2, 3, 0] rfl)
set_option maxHeartbeats 16000000 in
set_option maxRecDepth 100000 in
/-- given -/
theorem law_18 {p : Program} {l : Launch} {e : Env} {s : State} {m : MethodId} {below : List Frame} {meth : Method} {c : Code} {b L : Nat} {xs : Nat → Int32} {D : va_G} {cA : Nat → ClassId} {A : Nat → Prop} {p0 q0 c0 t0 k0 kk v0 st0 n0 b0 mx ro rj mw un : Nat} {xo mo : Nat} {u w : Nat → Nat} {sc : Nat → Int32} {a xA xB g : Nat → Nat → Int32} {lq : Nat → Nat → Int64} {H : Heap} {locs : List Loc} {ls : Array Slot} {z : Int32} (hx : p.tables.exec = Jvm.exec) (hb : c.code = cL_law) (hml : c.maxLocals = 4) (hown : s.vm.findClass RL = some m.cls) (hts : ∀ w ∈ wsL_law, w.before #[Value.ref b] s = true) (hXs : va_X b L xs s s.heap) (hbl : b < s.heap.size) (hbA : ¬ A b) (hK : va_K D vwCl (tyS cA) s) (h : JJ p0 q0 c0 t0 k0 kk v0 st0 n0 b0 mx ro rj mw un sc a xA xB g) (hP : va_P D vwCl (((LWc cA xo u c0 t0 k0 sc a xA xB lq) ++ (LWr cA mo w sc a lq)) ++ (rwT cA (u 51) g (t0 + 1))) H) (hD : va_D A (((LWc cA xo u c0 t0 k0 sc a xA xB lq) ++ (LWr cA mo w sc a lq)) ++ (rwT cA (u 51) g (t0 + 1)))) (hS : va_S A s.heap H locs) (hl : lv_has ls 4 [(0, .ref b), (1, .ref xo), (2, .ref mo), (3, .int z)]) (hz : z = nI (4 + 4 * kk)) (hL : L ≤ 2052) (hkk : kk ≤ 512) (hk5 : kk < 512) (c_63 : ¬ Int32.ofNat L - 4 < z) (ih : ∀ {v0 st0 n0 b0 mx ro rj mw un : Nat} {sc : Nat → Int32} {a xA xB g : Nat → Nat → Int32} {lq : Nat → Nat → Int64}, JJ p0 q0 c0 t0 k0 (kk + 1) v0 st0 n0 b0 mx ro rj mw un sc a xA xB g → ∀ {H : Heap} {locs : List Loc}, va_P D vwCl ((LWc cA xo u c0 t0 k0 sc a xA xB lq ++ LWr cA mo w sc a lq) ++ rwT cA (u 51) g (t0 + 1)) H → va_D A ((LWc cA xo u c0 t0 k0 sc a xA xB lq ++ LWr cA mo w sc a lq) ++ rwT cA (u 51) g (t0 + 1)) → va_S A s.heap H locs → ∀ {ls : Array Slot}, lv_has ls 4 [(0, .ref b), (1, .ref xo), (2, .ref mo), (3, .int (z + 4))] → W p l e room_1 s m #[Value.ref b] below meth c H locs 85 8608 (lw_Z below #[Value.ref b] s) (F0 m 58 ls [])) : W p l e room_1 s m #[Value.ref b] below meth c H locs 85 8608 (lw_Z below #[Value.ref b] s) (F0 m 656 ls []) := by
  have hcst := jj_cst h
  have e0 := jj_e0 h
  have e1 := jj_e1 h
  have e3 := jj_e3 h
  have e4 := jj_e4 h
  have e5 := jj_e5 h
  have e6 := jj_e6 h
  have e7 := jj_e7 h
  have e8 := jj_e8 h
  have e9 := jj_e9 h
  have e10 := jj_e10 h
  have e11 := jj_e11 h
  have hgp : 0 < sc 0 := iv_p e0 (by omega) (by omega)
  have hgq : 0 < sc 1 := iv_p e1 (by omega) (by omega)
  have h6 : n0 < 600 := by omega
  refine lv_aload_n hx hb dL_law_656 rfl (lv_at hl 1 rfl) ?_
  refine lv_aload_n hx hb dL_law_657 rfl (lv_at hl 0 rfl) ?_
  refine lv_iload_n hx hb dL_law_658 rfl (lv_at hl 3 rfl) ?_
  refine lv_iconst (v := 1) hx hb dL_law_659 (by decide) ?_
  refine lv_iadd hx hb dL_law_660 ?_
  refine va_sld hx hb hXs hbl hbA hS (sc_in (k := 1) hz hL hkk (by omega) c_63) dL_law_661 ?_
  refine lv_aload_n hx hb dL_law_662 rfl (lv_at hl 0 rfl) ?_
  refine lv_iload_n hx hb dL_law_663 rfl (lv_at hl 3 rfl) ?_
  refine lv_iconst (v := 2) hx hb dL_law_664 (by decide) ?_
  refine lv_iadd hx hb dL_law_665 ?_
  refine va_sld hx hb hXs hbl hbA hS (sc_in (k := 2) hz hL hkk (by omega) c_63) dL_law_666 ?_
  refine rq_call1 (v := .int (if 0 ≤ (xs (z + 2).toNatClampNeg) ∧ (xs (z + 2).toNatClampNeg) < (sc 9) then gft (a 1) g (sc 4) (xs (z + 1).toNatClampNeg) (xs (z + 2).toNatClampNeg) else -1)) (rm_VT (As := [.int (xs (z + 1).toNatClampNeg), .int (xs (z + 2).toNatClampNeg)]) (rest := []) (ci := 6) (fs := [.ref (u 0), .ref (u 1), .ref (u 2), .int (sc 3), .ref (u 3), .ref (u 4), .ref (u 5), .ref (u 6), .ref (u 7), .ref (u 8), .ref (u 9), .ref (u 10), .int (sc 7), .int (sc 6), .int (sc 9), .int (sc 10), .int (sc 15), .int (sc 11), .int (sc 12), .int (sc 14)]) ⟨hx, hb, hml, hown, hts⟩ (c_X7_given l D cA xo (u 0) (u 1) (u 2) (sc 3) (u 3) (u 4) (u 5) (u 6) (u 7) (u 8) (u 9) (u 10) (sc 7) (sc 6) (sc 9) (sc 10) (sc 15) (sc 11) (sc 12) (sc 14) (sc 4) (sc 5) (u 11) (u 12) (u 13) (u 14) (sc 13) (xs (z + 1).toNatClampNeg) (xs (z + 2).toNatClampNeg) (u 51) t0 (a 1) g e4 (by omega)) rfl (cwV 2 hts gL_law_X7_given rfl rfl rfl (by decide +kernel) ⟨Nat.le_of_ble_eq_true rfl, Nat.le_of_ble_eq_true rfl⟩) hK hP [some 0, none, some 1, none, some 2, some 3, none, none, none, none, none, none, none, none, none, none, none, none, none, none, none, none, none, none, none, none, none, none, none, none, none, none, none, none, none, none, none, none, none, none, none, none, none, none, none, none, none, none, none, none, none, none, none, none, none, none, none, none, none, none, none, none, none, none, none, none, none, none, none, none, none, none, none, none, none, none, none, none, none] rfl rfl rfl rfl rfl hl.1 rfl (Nat.le_of_ble_eq_true rfl) dL_law_667 ⟨by decide +kernel, by decide +kernel⟩) ?_
  refine lv_pop hx hb dL_law_670 rfl ?_
  refine lv_aload_n hx hb dL_law_671 rfl (lv_at hl 2 rfl) ?_
  refine lv_aload_n hx hb dL_law_672 rfl (lv_at hl 0 rfl) ?_
  refine lv_iload_n hx hb dL_law_673 rfl (lv_at hl 3 rfl) ?_
  refine lv_iconst (v := 1) hx hb dL_law_674 (by decide) ?_
  refine lv_iadd hx hb dL_law_675 ?_
  refine va_sld hx hb hXs hbl hbA hS (sc_in (k := 1) hz hL hkk (by omega) c_63) dL_law_676 ?_
  refine lv_aload_n hx hb dL_law_677 rfl (lv_at hl 0 rfl) ?_
  refine lv_iload_n hx hb dL_law_678 rfl (lv_at hl 3 rfl) ?_
  refine lv_iconst (v := 2) hx hb dL_law_679 (by decide) ?_
  refine lv_iadd hx hb dL_law_680 ?_
  refine va_sld hx hb hXs hbl hbA hS (sc_in (k := 2) hz hL hkk (by omega) c_63) dL_law_681 ?_
  refine rq_call1 (v := .int (if 0 ≤ (xs (z + 2).toNatClampNeg) ∧ (xs (z + 2).toNatClampNeg) < (sc 9) then gft (a 1) g (sc 4) (xs (z + 1).toNatClampNeg) (xs (z + 2).toNatClampNeg) else -1)) (rm_V (As := [.int (xs (z + 1).toNatClampNeg), .int (xs (z + 2).toNatClampNeg)]) (rest := []) (ci := 7) (fs := [.int (sc 0), .int (sc 1), .int (sc 3), .int (sc 4), .int (sc 5), .ref (w 0), .int (sc 7), .int (sc 2), .int (sc 6), .ref (w 1), .ref (w 2), .ref (w 3), .int (sc 9), .ref (w 4), .ref (w 5), .ref (w 6), .ref (w 7), .int (sc 17), .ref (w 8), .ref (w 9), .ref (w 10), .ref (w 11), .ref (w 12), .ref (w 13), .ref (w 14), .ref (w 15), .int (sc 10), .int (sc 11), .int (sc 14), .int (sc 12), .int (sc 16), .int (sc 18), .ref (w 16), .ref (w 17), .ref (w 18), .ref (w 19), .int (sc 13), .ref (w 20), .int (sc 8), .ref (w 21), .ref (w 22), .ref (w 23), .ref (w 24), .ref (w 25)]) ⟨hx, hb, hml, hown, hts⟩ (c_X8_given l D cA mo (sc 0) (sc 1) (sc 3) (sc 4) (sc 5) (w 0) (sc 7) (sc 2) (sc 6) (w 1) (w 2) (w 3) (sc 9) (w 4) (w 5) (w 6) (w 7) (sc 17) (w 8) (w 9) (w 10) (w 11) (w 12) (w 13) (w 14) (w 15) (sc 10) (sc 11) (sc 14) (sc 12) (sc 16) (sc 18) (w 16) (w 17) (w 18) (w 19) (sc 13) (w 20) (sc 8) (w 21) (w 22) (w 23) (w 24) (w 25) (xs (z + 1).toNatClampNeg) (xs (z + 2).toNatClampNeg) b0 t0 (a 1) (a 45) g e9.1 e9.2 e4 (by omega) (gi_1 h)) rfl (cwV 2 hts gL_law_X8_given rfl rfl rfl (by decide +kernel) ⟨Nat.le_of_ble_eq_true rfl, Nat.le_of_ble_eq_true rfl⟩) hK hP [none, none, none, none, none, none, none, none, none, none, none, none, none, none, none, none, none, none, none, none, none, none, none, none, none, none, none, none, none, none, none, none, none, none, none, none, none, none, none, none, none, none, none, none, none, none, none, none, none, none, none, none, some 0, none, none, none, none, none, none, none, none, none, none, none, none, none, none, none, none, none, none, some 1, some 2, none, none, none, none, none, none] rfl rfl rfl rfl rfl hl.1 rfl (Nat.le_of_ble_eq_true rfl) dL_law_682 ⟨by decide +kernel, by decide +kernel⟩) ?_
  refine lv_pop hx hb dL_law_685 rfl ?_
  refine lv_goto (tgt := 746) hx hb dL_law_686 (by decide) ?_
  refine lv_iinc (v := (z + 4)) (lv' := [(3, .int (z + 4)), (0, .ref b), (1, .ref xo), (2, .ref mo)]) hx hb dL_law_746 (lv_sub hl [0, 1, 2, 3] rfl) (k := 3) rfl rfl (by decide) rfl (fun ls hl => ?_)
  refine lv_goto (tgt := 58) hx hb dL_law_749 (by decide) ?_
  exact ih (J_same h) hP hD hS (lv_sub hl [1, 2, 3, 0] rfl)
set_option maxHeartbeats 16000000 in
set_option maxRecDepth 100000 in
/-- entry -/
theorem law_19 {p : Program} {l : Launch} {e : Env} {s : State} {m : MethodId} {below : List Frame} {meth : Method} {c : Code} {b L : Nat} {xs : Nat → Int32} {D : va_G} {cA : Nat → ClassId} {A : Nat → Prop} {p0 q0 c0 t0 k0 kk v0 st0 n0 b0 mx ro rj mw un : Nat} {xo mo : Nat} {u w : Nat → Nat} {sc : Nat → Int32} {a xA xB g : Nat → Nat → Int32} {lq : Nat → Nat → Int64} {H : Heap} {locs : List Loc} {ls : Array Slot} {z : Int32} (hx : p.tables.exec = Jvm.exec) (hb : c.code = cL_law) (hml : c.maxLocals = 4) (hown : s.vm.findClass RL = some m.cls) (hts : ∀ w ∈ wsL_law, w.before #[Value.ref b] s = true) (hXs : va_X b L xs s s.heap) (hbl : b < s.heap.size) (hbA : ¬ A b) (hK : va_K D vwCl (tyS cA) s) (h : JJ p0 q0 c0 t0 k0 kk v0 st0 n0 b0 mx ro rj mw un sc a xA xB g) (hP : va_P D vwCl (((LWc cA xo u c0 t0 k0 sc a xA xB lq) ++ (LWr cA mo w sc a lq)) ++ (rwT cA (u 51) g (t0 + 1))) H) (hD : va_D A (((LWc cA xo u c0 t0 k0 sc a xA xB lq) ++ (LWr cA mo w sc a lq)) ++ (rwT cA (u 51) g (t0 + 1)))) (hS : va_S A s.heap H locs) (hl : lv_has ls 4 [(0, .ref b), (1, .ref xo), (2, .ref mo), (3, .int z)]) (hz : z = nI (4 + 4 * kk)) (hL : L ≤ 2052) (hkk : kk ≤ 512) (hk5 : kk < 512) (c_63 : ¬ Int32.ofNat L - 4 < z) (ih : ∀ {v0 st0 n0 b0 mx ro rj mw un : Nat} {sc : Nat → Int32} {a xA xB g : Nat → Nat → Int32} {lq : Nat → Nat → Int64}, JJ p0 q0 c0 t0 k0 (kk + 1) v0 st0 n0 b0 mx ro rj mw un sc a xA xB g → ∀ {H : Heap} {locs : List Loc}, va_P D vwCl ((LWc cA xo u c0 t0 k0 sc a xA xB lq ++ LWr cA mo w sc a lq) ++ rwT cA (u 51) g (t0 + 1)) H → va_D A ((LWc cA xo u c0 t0 k0 sc a xA xB lq ++ LWr cA mo w sc a lq) ++ rwT cA (u 51) g (t0 + 1)) → va_S A s.heap H locs → ∀ {ls : Array Slot}, lv_has ls 4 [(0, .ref b), (1, .ref xo), (2, .ref mo), (3, .int (z + 4))] → W p l e room_1 s m #[Value.ref b] below meth c H locs 85 8608 (lw_Z below #[Value.ref b] s) (F0 m 58 ls [])) : W p l e room_1 s m #[Value.ref b] below meth c H locs 85 8608 (lw_Z below #[Value.ref b] s) (F0 m 689 ls []) := by
  have hcst := jj_cst h
  have e0 := jj_e0 h
  have e1 := jj_e1 h
  have e3 := jj_e3 h
  have e4 := jj_e4 h
  have e5 := jj_e5 h
  have e6 := jj_e6 h
  have e7 := jj_e7 h
  have e8 := jj_e8 h
  have e9 := jj_e9 h
  have e10 := jj_e10 h
  have e11 := jj_e11 h
  have hgp : 0 < sc 0 := iv_p e0 (by omega) (by omega)
  have hgq : 0 < sc 1 := iv_p e1 (by omega) (by omega)
  have h6 : n0 < 600 := by omega
  refine lv_aload_n hx hb dL_law_689 rfl (lv_at hl 1 rfl) ?_
  refine lv_aload_n hx hb dL_law_690 rfl (lv_at hl 0 rfl) ?_
  refine lv_iload_n hx hb dL_law_691 rfl (lv_at hl 3 rfl) ?_
  refine lv_iconst (v := 1) hx hb dL_law_692 (by decide) ?_
  refine lv_iadd hx hb dL_law_693 ?_
  refine va_sld hx hb hXs hbl hbA hS (sc_in (k := 1) hz hL hkk (by omega) c_63) dL_law_694 ?_
  refine lv_aload_n hx hb dL_law_695 rfl (lv_at hl 0 rfl) ?_
  refine lv_iload_n hx hb dL_law_696 rfl (lv_at hl 3 rfl) ?_
  refine lv_iconst (v := 2) hx hb dL_law_697 (by decide) ?_
  refine lv_iadd hx hb dL_law_698 ?_
  refine va_sld hx hb hXs hbl hbA hS (sc_in (k := 2) hz hL hkk (by omega) c_63) dL_law_699 ?_
  refine rq_call1 (v := .long (fldv (a 6) (a 7) (a 8) (lq 0) (sc 8) (xs (z + 1).toNatClampNeg) (xs (z + 2).toNatClampNeg))) (rm_V (As := [.int (xs (z + 1).toNatClampNeg), .int (xs (z + 2).toNatClampNeg)]) (rest := []) (ci := 6) (fs := [.ref (u 0), .ref (u 1), .ref (u 2), .int (sc 3), .ref (u 3), .ref (u 4), .ref (u 5), .ref (u 6), .ref (u 7), .ref (u 8), .ref (u 9), .ref (u 10), .int (sc 7), .int (sc 6), .int (sc 9), .int (sc 10), .int (sc 15), .int (sc 11), .int (sc 12), .int (sc 14)]) ⟨hx, hb, hml, hown, hts⟩ (c_X7_entry l D cA xo (u 0) (u 1) (u 2) (sc 3) (u 3) (u 4) (u 5) (u 6) (u 7) (u 8) (u 9) (u 10) (sc 7) (sc 6) (sc 9) (sc 10) (sc 15) (sc 11) (sc 12) (sc 14) (u 15) (u 16) (u 17) (u 18) (u 19) (sc 8) (xs (z + 1).toNatClampNeg) (xs (z + 2).toNatClampNeg) (a 6) (a 7) (a 8) (lq 0) n0 e8.1 (by omega)) rfl (cwV 2 hts gL_law_X7_entry rfl rfl rfl (by decide +kernel) ⟨Nat.le_of_ble_eq_true rfl, Nat.le_of_ble_eq_true rfl⟩) hK hP [some 0, none, none, none, none, none, none, some 1, some 2, some 3, some 4, some 5, none, none, none, none, none, none, none, none, none, none, none, none, none, none, none, none, none, none, none, none, none, none, none, none, none, none, none, none, none, none, none, none, none, none, none, none, none, none, none, none, none, none, none, none, none, none, none, none, none, none, none, none, none, none, none, none, none, none, none, none, none, none, none, none, none, none, none] rfl rfl rfl rfl rfl hl.1 rfl (Nat.le_of_ble_eq_true rfl) dL_law_700 ⟨by decide +kernel, by decide +kernel⟩) ?_
  refine lv_pop2_2 hx hb dL_law_703 rfl ?_
  refine lv_aload_n hx hb dL_law_704 rfl (lv_at hl 2 rfl) ?_
  refine lv_aload_n hx hb dL_law_705 rfl (lv_at hl 0 rfl) ?_
  refine lv_iload_n hx hb dL_law_706 rfl (lv_at hl 3 rfl) ?_
  refine lv_iconst (v := 1) hx hb dL_law_707 (by decide) ?_
  refine lv_iadd hx hb dL_law_708 ?_
  refine va_sld hx hb hXs hbl hbA hS (sc_in (k := 1) hz hL hkk (by omega) c_63) dL_law_709 ?_
  refine lv_aload_n hx hb dL_law_710 rfl (lv_at hl 0 rfl) ?_
  refine lv_iload_n hx hb dL_law_711 rfl (lv_at hl 3 rfl) ?_
  refine lv_iconst (v := 2) hx hb dL_law_712 (by decide) ?_
  refine lv_iadd hx hb dL_law_713 ?_
  refine va_sld hx hb hXs hbl hbA hS (sc_in (k := 2) hz hL hkk (by omega) c_63) dL_law_714 ?_
  refine rq_call1 (v := .long (fldv (a 6) (a 7) (a 8) (lq 0) (sc 8) (xs (z + 1).toNatClampNeg) (xs (z + 2).toNatClampNeg))) (rm_V (As := [.int (xs (z + 1).toNatClampNeg), .int (xs (z + 2).toNatClampNeg)]) (rest := []) (ci := 7) (fs := [.int (sc 0), .int (sc 1), .int (sc 3), .int (sc 4), .int (sc 5), .ref (w 0), .int (sc 7), .int (sc 2), .int (sc 6), .ref (w 1), .ref (w 2), .ref (w 3), .int (sc 9), .ref (w 4), .ref (w 5), .ref (w 6), .ref (w 7), .int (sc 17), .ref (w 8), .ref (w 9), .ref (w 10), .ref (w 11), .ref (w 12), .ref (w 13), .ref (w 14), .ref (w 15), .int (sc 10), .int (sc 11), .int (sc 14), .int (sc 12), .int (sc 16), .int (sc 18), .ref (w 16), .ref (w 17), .ref (w 18), .ref (w 19), .int (sc 13), .ref (w 20), .int (sc 8), .ref (w 21), .ref (w 22), .ref (w 23), .ref (w 24), .ref (w 25)]) ⟨hx, hb, hml, hown, hts⟩ (c_X8_entry l D cA mo (sc 0) (sc 1) (sc 3) (sc 4) (sc 5) (w 0) (sc 7) (sc 2) (sc 6) (w 1) (w 2) (w 3) (sc 9) (w 4) (w 5) (w 6) (w 7) (sc 17) (w 8) (w 9) (w 10) (w 11) (w 12) (w 13) (w 14) (w 15) (sc 10) (sc 11) (sc 14) (sc 12) (sc 16) (sc 18) (w 16) (w 17) (w 18) (w 19) (sc 13) (w 20) (sc 8) (w 21) (w 22) (w 23) (w 24) (w 25) (xs (z + 1).toNatClampNeg) (xs (z + 2).toNatClampNeg) n0 (a 6) (a 7) (a 8) (lq 0) e8.1 (by omega)) rfl (cwV 2 hts gL_law_X8_entry rfl rfl rfl (by decide +kernel) ⟨Nat.le_of_ble_eq_true rfl, Nat.le_of_ble_eq_true rfl⟩) hK hP [none, none, none, none, none, none, none, none, none, none, none, none, none, none, none, none, none, none, none, none, none, none, none, none, none, none, none, none, none, none, none, none, none, none, none, none, none, none, none, none, none, none, none, none, none, none, none, none, none, none, none, none, some 0, none, none, none, none, none, none, none, none, none, none, none, none, none, none, none, none, none, none, none, none, none, some 1, some 2, some 3, some 4, none] rfl rfl rfl rfl rfl hl.1 rfl (Nat.le_of_ble_eq_true rfl) dL_law_715 ⟨by decide +kernel, by decide +kernel⟩) ?_
  refine lv_pop2_2 hx hb dL_law_718 rfl ?_
  refine lv_goto (tgt := 746) hx hb dL_law_719 (by decide) ?_
  refine lv_iinc (v := (z + 4)) (lv' := [(3, .int (z + 4)), (0, .ref b), (1, .ref xo), (2, .ref mo)]) hx hb dL_law_746 (lv_sub hl [0, 1, 2, 3] rfl) (k := 3) rfl rfl (by decide) rfl (fun ls hl => ?_)
  refine lv_goto (tgt := 58) hx hb dL_law_749 (by decide) ?_
  exact ih (J_same h) hP hD hS (lv_sub hl [1, 2, 3, 0] rfl)
set_option maxHeartbeats 16000000 in
set_option maxRecDepth 100000 in
/-- chain -/
theorem law_20 {p : Program} {l : Launch} {e : Env} {s : State} {m : MethodId} {below : List Frame} {meth : Method} {c : Code} {b L : Nat} {xs : Nat → Int32} {D : va_G} {cA : Nat → ClassId} {A : Nat → Prop} {p0 q0 c0 t0 k0 kk v0 st0 n0 b0 mx ro rj mw un : Nat} {xo mo : Nat} {u w : Nat → Nat} {sc : Nat → Int32} {a xA xB g : Nat → Nat → Int32} {lq : Nat → Nat → Int64} {H : Heap} {locs : List Loc} {ls : Array Slot} {z : Int32} (hx : p.tables.exec = Jvm.exec) (hb : c.code = cL_law) (hml : c.maxLocals = 4) (hown : s.vm.findClass RL = some m.cls) (hts : ∀ w ∈ wsL_law, w.before #[Value.ref b] s = true) (hXs : va_X b L xs s s.heap) (hbl : b < s.heap.size) (hbA : ¬ A b) (hK : va_K D vwCl (tyS cA) s) (h : JJ p0 q0 c0 t0 k0 kk v0 st0 n0 b0 mx ro rj mw un sc a xA xB g) (hP : va_P D vwCl (((LWc cA xo u c0 t0 k0 sc a xA xB lq) ++ (LWr cA mo w sc a lq)) ++ (rwT cA (u 51) g (t0 + 1))) H) (hD : va_D A (((LWc cA xo u c0 t0 k0 sc a xA xB lq) ++ (LWr cA mo w sc a lq)) ++ (rwT cA (u 51) g (t0 + 1)))) (hS : va_S A s.heap H locs) (hl : lv_has ls 4 [(0, .ref b), (1, .ref xo), (2, .ref mo), (3, .int z)]) (hz : z = nI (4 + 4 * kk)) (hL : L ≤ 2052) (hkk : kk ≤ 512) (hk5 : kk < 512) (c_63 : ¬ Int32.ofNat L - 4 < z) (ih : ∀ {v0 st0 n0 b0 mx ro rj mw un : Nat} {sc : Nat → Int32} {a xA xB g : Nat → Nat → Int32} {lq : Nat → Nat → Int64}, JJ p0 q0 c0 t0 k0 (kk + 1) v0 st0 n0 b0 mx ro rj mw un sc a xA xB g → ∀ {H : Heap} {locs : List Loc}, va_P D vwCl ((LWc cA xo u c0 t0 k0 sc a xA xB lq ++ LWr cA mo w sc a lq) ++ rwT cA (u 51) g (t0 + 1)) H → va_D A ((LWc cA xo u c0 t0 k0 sc a xA xB lq ++ LWr cA mo w sc a lq) ++ rwT cA (u 51) g (t0 + 1)) → va_S A s.heap H locs → ∀ {ls : Array Slot}, lv_has ls 4 [(0, .ref b), (1, .ref xo), (2, .ref mo), (3, .int (z + 4))] → W p l e room_1 s m #[Value.ref b] below meth c H locs 85 8608 (lw_Z below #[Value.ref b] s) (F0 m 58 ls [])) : W p l e room_1 s m #[Value.ref b] below meth c H locs 85 8608 (lw_Z below #[Value.ref b] s) (F0 m 722 ls []) := by
  have hcst := jj_cst h
  have e0 := jj_e0 h
  have e1 := jj_e1 h
  have e3 := jj_e3 h
  have e4 := jj_e4 h
  have e5 := jj_e5 h
  have e6 := jj_e6 h
  have e7 := jj_e7 h
  have e8 := jj_e8 h
  have e9 := jj_e9 h
  have e10 := jj_e10 h
  have e11 := jj_e11 h
  have hgp : 0 < sc 0 := iv_p e0 (by omega) (by omega)
  have hgq : 0 < sc 1 := iv_p e1 (by omega) (by omega)
  have h6 : n0 < 600 := by omega
  refine lv_aload_n hx hb dL_law_722 rfl (lv_at hl 1 rfl) ?_
  refine lv_aload_n hx hb dL_law_723 rfl (lv_at hl 0 rfl) ?_
  refine lv_iload_n hx hb dL_law_724 rfl (lv_at hl 3 rfl) ?_
  refine lv_iconst (v := 1) hx hb dL_law_725 (by decide) ?_
  refine lv_iadd hx hb dL_law_726 ?_
  refine va_sld hx hb hXs hbl hbA hS (sc_in (k := 1) hz hL hkk (by omega) c_63) dL_law_727 ?_
  refine rq_call1 (v := .long (cho (lq 1) (sc 8) (xs (z + 1).toNatClampNeg))) (rm_V (As := [.int (xs (z + 1).toNatClampNeg)]) (rest := []) (ci := 6) (fs := [.ref (u 0), .ref (u 1), .ref (u 2), .int (sc 3), .ref (u 3), .ref (u 4), .ref (u 5), .ref (u 6), .ref (u 7), .ref (u 8), .ref (u 9), .ref (u 10), .int (sc 7), .int (sc 6), .int (sc 9), .int (sc 10), .int (sc 15), .int (sc 11), .int (sc 12), .int (sc 14)]) ⟨hx, hb, hml, hown, hts⟩ (c_X7_chain l D cA xo (u 0) (u 1) (u 2) (sc 3) (u 3) (u 4) (u 5) (u 6) (u 7) (u 8) (u 9) (u 10) (sc 7) (sc 6) (sc 9) (sc 10) (sc 15) (sc 11) (sc 12) (sc 14) (u 15) (u 16) (u 17) (u 18) (u 19) (sc 8) (xs (z + 1).toNatClampNeg) (lq 1) n0 e8.1 (by omega)) rfl (cwV 1 hts gL_law_X7_chain rfl rfl rfl (by decide +kernel) ⟨Nat.le_of_ble_eq_true rfl, Nat.le_of_ble_eq_true rfl⟩) hK hP [some 0, none, none, none, none, none, none, some 1, none, none, none, none, some 2, none, none, none, none, none, none, none, none, none, none, none, none, none, none, none, none, none, none, none, none, none, none, none, none, none, none, none, none, none, none, none, none, none, none, none, none, none, none, none, none, none, none, none, none, none, none, none, none, none, none, none, none, none, none, none, none, none, none, none, none, none, none, none, none, none, none] rfl rfl rfl rfl rfl hl.1 rfl (Nat.le_of_ble_eq_true rfl) dL_law_728 ⟨by decide +kernel, by decide +kernel⟩) ?_
  refine lv_aload_n hx hb dL_law_731 rfl (lv_at hl 2 rfl) ?_
  refine lv_aload_n hx hb dL_law_732 rfl (lv_at hl 0 rfl) ?_
  refine lv_iload_n hx hb dL_law_733 rfl (lv_at hl 3 rfl) ?_
  refine lv_iconst (v := 1) hx hb dL_law_734 (by decide) ?_
  refine lv_iadd hx hb dL_law_735 ?_
  refine va_sld hx hb hXs hbl hbA hS (sc_in (k := 1) hz hL hkk (by omega) c_63) dL_law_736 ?_
  refine rq_call1 (v := .long (cho (lq 1) (sc 8) (xs (z + 1).toNatClampNeg))) (rm_V (As := [.int (xs (z + 1).toNatClampNeg)]) (rest := [.long (cho (lq 1) (sc 8) (xs (z + 1).toNatClampNeg))]) (ci := 7) (fs := [.int (sc 0), .int (sc 1), .int (sc 3), .int (sc 4), .int (sc 5), .ref (w 0), .int (sc 7), .int (sc 2), .int (sc 6), .ref (w 1), .ref (w 2), .ref (w 3), .int (sc 9), .ref (w 4), .ref (w 5), .ref (w 6), .ref (w 7), .int (sc 17), .ref (w 8), .ref (w 9), .ref (w 10), .ref (w 11), .ref (w 12), .ref (w 13), .ref (w 14), .ref (w 15), .int (sc 10), .int (sc 11), .int (sc 14), .int (sc 12), .int (sc 16), .int (sc 18), .ref (w 16), .ref (w 17), .ref (w 18), .ref (w 19), .int (sc 13), .ref (w 20), .int (sc 8), .ref (w 21), .ref (w 22), .ref (w 23), .ref (w 24), .ref (w 25)]) ⟨hx, hb, hml, hown, hts⟩ (c_X8_chain l D cA mo (sc 0) (sc 1) (sc 3) (sc 4) (sc 5) (w 0) (sc 7) (sc 2) (sc 6) (w 1) (w 2) (w 3) (sc 9) (w 4) (w 5) (w 6) (w 7) (sc 17) (w 8) (w 9) (w 10) (w 11) (w 12) (w 13) (w 14) (w 15) (sc 10) (sc 11) (sc 14) (sc 12) (sc 16) (sc 18) (w 16) (w 17) (w 18) (w 19) (sc 13) (w 20) (sc 8) (w 21) (w 22) (w 23) (w 24) (w 25) (xs (z + 1).toNatClampNeg) (lq 1) n0 e8.1 (by omega)) rfl (cwV 1 hts gL_law_X8_chain rfl rfl rfl (by decide +kernel) ⟨Nat.le_of_ble_eq_true rfl, Nat.le_of_ble_eq_true rfl⟩) hK hP [none, none, none, none, none, none, none, none, none, none, none, none, none, none, none, none, none, none, none, none, none, none, none, none, none, none, none, none, none, none, none, none, none, none, none, none, none, none, none, none, none, none, none, none, none, none, none, none, none, none, none, none, some 0, none, none, none, none, none, none, none, none, none, none, none, none, none, none, none, none, none, none, none, none, none, none, none, none, none, some 1] rfl rfl rfl rfl rfl hl.1 rfl (Nat.le_of_ble_eq_true rfl) dL_law_737 ⟨by decide +kernel, by decide +kernel⟩) ?_
  refine W.lcmp hx hb dL_law_740 ?_
  refine lv_if_eq (tgt := 746) hx hb dL_law_741 (by decide) (fun c_741 => ?_) (fun c_741 => ?_)
  · skip
    refine lv_iinc (v := (z + 4)) (lv' := [(3, .int (z + 4)), (0, .ref b), (1, .ref xo), (2, .ref mo)]) hx hb dL_law_746 (lv_sub hl [0, 1, 2, 3] rfl) (k := 3) rfl rfl (by decide) rfl (fun ls hl => ?_)
    refine lv_goto (tgt := 58) hx hb dL_law_749 (by decide) ?_
    exact ih (J_same h) hP hD hS (lv_sub hl [1, 2, 3, 0] rfl)
  · exact absurd ((lg_cmp_eq _ _).mpr rfl) c_741
