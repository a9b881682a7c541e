set_option maxHeartbeats 16000000 in
set_option maxRecDepth 100000 in
/-- secret -/
theorem law_0 {p : Program} {l : Launch} {e : Env} {s : State} {m : MethodId} {below : List Frame} {meth : Method} {c : Code} {b L : Nat} {xs : Nat → Int32} {D : va_G} {cA : Nat → ClassId} {A : Nat → Prop} {p0 q0 c0 t0 k0 kk v0 st0 n0 b0 mx ro rj mw un : Nat} {xo mo : Nat} {u w : Nat → Nat} {sc : Nat → Int32} {a xA xB g : Nat → Nat → Int32} {lq : Nat → Nat → Int64} {H : Heap} {locs : List Loc} {ls : Array Slot} {z : Int32} (hx : p.tables.exec = Jvm.exec) (hb : c.code = cL_law) (hml : c.maxLocals = 4) (hown : s.vm.findClass RL = some m.cls) (hts : ∀ w ∈ wsL_law, w.before #[Value.ref b] s = true) (hXs : va_X b L xs s s.heap) (hbl : b < s.heap.size) (hbA : ¬ A b) (hK : va_K D vwCl (tyS cA) s) (h : JJ p0 q0 c0 t0 k0 kk v0 st0 n0 b0 mx ro rj mw un sc a xA xB g) (hP : va_P D vwCl (((LWc cA xo u c0 t0 k0 sc a xA xB lq) ++ (LWr cA mo w sc a lq)) ++ (rwT cA (u 51) g (t0 + 1))) H) (hD : va_D A (((LWc cA xo u c0 t0 k0 sc a xA xB lq) ++ (LWr cA mo w sc a lq)) ++ (rwT cA (u 51) g (t0 + 1)))) (hS : va_S A s.heap H locs) (hl : lv_has ls 4 [(0, .ref b), (1, .ref xo), (2, .ref mo), (3, .int z)]) (hz : z = nI (4 + 4 * kk)) (hL : L ≤ 2052) (hkk : kk ≤ 512) (hk5 : kk < 512) (c_63 : ¬ Int32.ofNat L - 4 < z) (ih : ∀ {v0 st0 n0 b0 mx ro rj mw un : Nat} {sc : Nat → Int32} {a xA xB g : Nat → Nat → Int32} {lq : Nat → Nat → Int64}, JJ p0 q0 c0 t0 k0 (kk + 1) v0 st0 n0 b0 mx ro rj mw un sc a xA xB g → ∀ {H : Heap} {locs : List Loc}, va_P D vwCl ((LWc cA xo u c0 t0 k0 sc a xA xB lq ++ LWr cA mo w sc a lq) ++ rwT cA (u 51) g (t0 + 1)) H → va_D A ((LWc cA xo u c0 t0 k0 sc a xA xB lq ++ LWr cA mo w sc a lq) ++ rwT cA (u 51) g (t0 + 1)) → va_S A s.heap H locs → ∀ {ls : Array Slot}, lv_has ls 4 [(0, .ref b), (1, .ref xo), (2, .ref mo), (3, .int (z + 4))] → W p l e room_1 s m #[Value.ref b] below meth c H locs 85 8608 (lw_Z below #[Value.ref b] s) (F0 m 58 ls [])) : W p l e room_1 s m #[Value.ref b] below meth c H locs 85 8608 (lw_Z below #[Value.ref b] s) (F0 m 172 ls []) := by
  have hcst := jj_cst h
  have e0 := jj_e0 h
  have e1 := jj_e1 h
  have e3 := jj_e3 h
  have e4 := jj_e4 h
  have e5 := jj_e5 h
  have e6 := jj_e6 h
  have e7 := jj_e7 h
  have e8 := jj_e8 h
  have e9 := jj_e9 h
  have e10 := jj_e10 h
  have e11 := jj_e11 h
  have hgp : 0 < sc 0 := iv_p e0 (by omega) (by omega)
  have hgq : 0 < sc 1 := iv_p e1 (by omega) (by omega)
  have h6 : n0 < 600 := by omega
  by_cases hc : sc 7 = 0 ∧ scC (xs (z + 1).toNatClampNeg) (xs (z + 2).toNatClampNeg) (sc 5) (sc 1)
  · skip
    refine lv_aload_n hx hb dL_law_172 rfl (lv_at hl 1 rfl) ?_
    refine lv_aload_n hx hb dL_law_173 rfl (lv_at hl 0 rfl) ?_
    refine lv_iload_n hx hb dL_law_174 rfl (lv_at hl 3 rfl) ?_
    refine lv_iconst (v := 1) hx hb dL_law_175 (by decide) ?_
    refine lv_iadd hx hb dL_law_176 ?_
    refine va_sld hx hb hXs hbl hbA hS (sc_in (k := 1) hz hL hkk (by omega) c_63) dL_law_177 ?_
    refine lv_aload_n hx hb dL_law_178 rfl (lv_at hl 0 rfl) ?_
    refine lv_iload_n hx hb dL_law_179 rfl (lv_at hl 3 rfl) ?_
    refine lv_iconst (v := 2) hx hb dL_law_180 (by decide) ?_
    refine lv_iadd hx hb dL_law_181 ?_
    refine va_sld hx hb hXs hbl hbA hS (sc_in (k := 2) hz hL hkk (by omega) c_63) dL_law_182 ?_
    refine wt_callM1 (v := .int 1) (X' := ((LWc cA xo u c0 t0 k0 sc (upr a 0 (upd (a 0) (xs (z + 1).toNatClampNeg).toNatClampNeg (xs (z + 2).toNatClampNeg))) xA xB lq) ++ (LWr cA mo w sc a lq))) (ads := LAd xo u mo w) (wn_V (As := [.int (xs (z + 1).toNatClampNeg), .int (xs (z + 2).toNatClampNeg)]) (rest := []) (ci := 6) (fs := [.ref (u 0), .ref (u 1), .ref (u 2), .int (sc 3), .ref (u 3), .ref (u 4), .ref (u 5), .ref (u 6), .ref (u 7), .ref (u 8), .ref (u 9), .ref (u 10), .int (sc 7), .int (sc 6), .int (sc 9), .int (sc 10), .int (sc 15), .int (sc 11), .int (sc 12), .int (sc 14)]) ⟨hx, hb, hml, hown, hts⟩ (c_X7_secret_ok l D cA xo (u 0) (u 1) (u 2) (sc 3) (u 3) (u 4) (u 5) (u 6) (u 7) (u 8) (u 9) (u 10) (sc 7) (sc 6) (sc 9) (sc 10) (sc 15) (sc 11) (sc 12) (sc 14) (sc 4) (sc 5) (u 11) (u 12) (u 13) (u 14) (sc 13) (sc 0) (sc 1) (sc 2) (xs (z + 1).toNatClampNeg) (xs (z + 2).toNatClampNeg) k0 (a 0) hc e5 ⟨by omega, by omega⟩) rfl (cwV 2 hts gL_law_X7_secret rfl rfl rfl (by decide +kernel) ⟨Nat.le_of_ble_eq_true rfl, Nat.le_of_ble_eq_true rfl⟩) hK hP hD [0, 2, 1, 3] rfl (by decide) rfl rfl rfl hl.1 rfl (Nat.le_of_ble_eq_true rfl) dL_law_183 ⟨by decide +kernel, by decide +kernel⟩) hP hD hS [0, 2, 1, 3] [4, 5, 6, 7, 8, 9, 10, 11, 12, 13, 14, 15, 16, 17, 18, 19, 20, 21, 22, 23, 24, 25, 26, 27, 28, 29, 30, 31, 32, 33, 34, 35, 36, 37, 38, 39, 40, 41, 42, 43, 44, 45, 46, 47, 48, 49, 50, 51, 52, 53, 54, 55, 56, 57, 58, 59, 60, 61, 62, 63, 64, 65, 66, 67, 68, 69, 70, 71, 72, 73, 74, 75, 76, 77, 78] rfl rfl rfl rfl rfl rfl rfl (fun H locs hP hD hS => ?_)
    refine lv_pop hx hb dL_law_186 rfl ?_
    refine lv_aload_n hx hb dL_law_187 rfl (lv_at hl 2 rfl) ?_
    refine lv_aload_n hx hb dL_law_188 rfl (lv_at hl 0 rfl) ?_
    refine lv_iload_n hx hb dL_law_189 rfl (lv_at hl 3 rfl) ?_
    refine lv_iconst (v := 1) hx hb dL_law_190 (by decide) ?_
    refine lv_iadd hx hb dL_law_191 ?_
    refine va_sld hx hb hXs hbl hbA hS (sc_in (k := 1) hz hL hkk (by omega) c_63) dL_law_192 ?_
    refine lv_aload_n hx hb dL_law_193 rfl (lv_at hl 0 rfl) ?_
    refine lv_iload_n hx hb dL_law_194 rfl (lv_at hl 3 rfl) ?_
    refine lv_iconst (v := 2) hx hb dL_law_195 (by decide) ?_
    refine lv_iadd hx hb dL_law_196 ?_
    refine va_sld hx hb hXs hbl hbA hS (sc_in (k := 2) hz hL hkk (by omega) c_63) dL_law_197 ?_
    refine wt_callM1 (v := .int 1) (X' := ((LWc cA xo u c0 t0 k0 sc (upr a 0 (upd (a 0) (xs (z + 1).toNatClampNeg).toNatClampNeg (xs (z + 2).toNatClampNeg))) xA xB lq) ++ (LWr cA mo w sc (upr a 0 (upd (a 0) (xs (z + 1).toNatClampNeg).toNatClampNeg (xs (z + 2).toNatClampNeg))) lq))) (ads := LAd xo u mo w) (wn_V (As := [.int (xs (z + 1).toNatClampNeg), .int (xs (z + 2).toNatClampNeg)]) (rest := []) (ci := 7) (fs := [.int (sc 0), .int (sc 1), .int (sc 3), .int (sc 4), .int (sc 5), .ref (w 0), .int (sc 7), .int (sc 2), .int (sc 6), .ref (w 1), .ref (w 2), .ref (w 3), .int (sc 9), .ref (w 4), .ref (w 5), .ref (w 6), .ref (w 7), .int (sc 17), .ref (w 8), .ref (w 9), .ref (w 10), .ref (w 11), .ref (w 12), .ref (w 13), .ref (w 14), .ref (w 15), .int (sc 10), .int (sc 11), .int (sc 14), .int (sc 12), .int (sc 16), .int (sc 18), .ref (w 16), .ref (w 17), .ref (w 18), .ref (w 19), .int (sc 13), .ref (w 20), .int (sc 8), .ref (w 21), .ref (w 22), .ref (w 23), .ref (w 24), .ref (w 25)]) ⟨hx, hb, hml, hown, hts⟩ (c_X8_secret_ok l D cA mo (sc 0) (sc 1) (sc 3) (sc 4) (sc 5) (w 0) (sc 7) (sc 2) (sc 6) (w 1) (w 2) (w 3) (sc 9) (w 4) (w 5) (w 6) (w 7) (sc 17) (w 8) (w 9) (w 10) (w 11) (w 12) (w 13) (w 14) (w 15) (sc 10) (sc 11) (sc 14) (sc 12) (sc 16) (sc 18) (w 16) (w 17) (w 18) (w 19) (sc 13) (w 20) (sc 8) (w 21) (w 22) (w 23) (w 24) (w 25) (xs (z + 1).toNatClampNeg) (xs (z + 2).toNatClampNeg) k0 q0 (a 0) e5 ⟨by omega, by omega⟩ e1 ⟨by omega, by omega⟩ hc) rfl (cwV 2 hts gL_law_X8_secret rfl rfl rfl (by decide +kernel) ⟨Nat.le_of_ble_eq_true rfl, Nat.le_of_ble_eq_true rfl⟩) hK hP hD [52, 53] rfl (by decide) rfl rfl rfl hl.1 rfl (Nat.le_of_ble_eq_true rfl) dL_law_198 ⟨by decide +kernel, by decide +kernel⟩) hP hD hS [52, 53] [0, 1, 2, 3, 4, 5, 6, 7, 8, 9, 10, 11, 12, 13, 14, 15, 16, 17, 18, 19, 20, 21, 22, 23, 24, 25, 26, 27, 28, 29, 30, 31, 32, 33, 34, 35, 36, 37, 38, 39, 40, 41, 42, 43, 44, 45, 46, 47, 48, 49, 50, 51, 54, 55, 56, 57, 58, 59, 60, 61, 62, 63, 64, 65, 66, 67, 68, 69, 70, 71, 72, 73, 74, 75, 76, 77, 78] rfl rfl rfl rfl rfl rfl rfl (fun H locs hP hD hS => ?_)
    refine lv_pop hx hb dL_law_201 rfl ?_
    refine lv_goto (tgt := 745) hx hb dL_law_202 (by decide) ?_
    refine lv_iinc (v := (z + 4)) (lv' := [(3, .int (z + 4)), (0, .ref b), (1, .ref xo), (2, .ref mo)]) hx hb dL_law_745 (lv_sub hl [0, 1, 2, 3] rfl) (k := 3) rfl rfl (by decide) rfl (fun ls hl => ?_)
    refine lv_goto (tgt := 58) hx hb dL_law_748 (by decide) ?_
    exact ih (J_secret h hc) hP hD hS (lv_sub hl [1, 2, 3, 0] rfl)
  · skip
    refine lv_aload_n hx hb dL_law_172 rfl (lv_at hl 1 rfl) ?_
    refine lv_aload_n hx hb dL_law_173 rfl (lv_at hl 0 rfl) ?_
    refine lv_iload_n hx hb dL_law_174 rfl (lv_at hl 3 rfl) ?_
    refine lv_iconst (v := 1) hx hb dL_law_175 (by decide) ?_
    refine lv_iadd hx hb dL_law_176 ?_
    refine va_sld hx hb hXs hbl hbA hS (sc_in (k := 1) hz hL hkk (by omega) c_63) dL_law_177 ?_
    refine lv_aload_n hx hb dL_law_178 rfl (lv_at hl 0 rfl) ?_
    refine lv_iload_n hx hb dL_law_179 rfl (lv_at hl 3 rfl) ?_
    refine lv_iconst (v := 2) hx hb dL_law_180 (by decide) ?_
    refine lv_iadd hx hb dL_law_181 ?_
    refine va_sld hx hb hXs hbl hbA hS (sc_in (k := 2) hz hL hkk (by omega) c_63) dL_law_182 ?_
    refine rq_call1 (v := .int 0) (rn_V (As := [.int (xs (z + 1).toNatClampNeg), .int (xs (z + 2).toNatClampNeg)]) (rest := []) (ci := 6) (fs := [.ref (u 0), .ref (u 1), .ref (u 2), .int (sc 3), .ref (u 3), .ref (u 4), .ref (u 5), .ref (u 6), .ref (u 7), .ref (u 8), .ref (u 9), .ref (u 10), .int (sc 7), .int (sc 6), .int (sc 9), .int (sc 10), .int (sc 15), .int (sc 11), .int (sc 12), .int (sc 14)]) ⟨hx, hb, hml, hown, hts⟩ (c_X7_secret_no l D cA xo (u 0) (u 1) (u 2) (sc 3) (u 3) (u 4) (u 5) (u 6) (u 7) (u 8) (u 9) (u 10) (sc 7) (sc 6) (sc 9) (sc 10) (sc 15) (sc 11) (sc 12) (sc 14) (sc 4) (sc 5) (u 11) (u 12) (u 13) (u 14) (sc 13) (sc 0) (sc 1) (sc 2) (xs (z + 1).toNatClampNeg) (xs (z + 2).toNatClampNeg) hc) rfl (cwV 2 hts gL_law_X7_secret rfl rfl rfl (by decide +kernel) ⟨Nat.le_of_ble_eq_true rfl, Nat.le_of_ble_eq_true rfl⟩) hK hP [0, 2, 1] rfl rfl rfl hl.1 rfl (Nat.le_of_ble_eq_true rfl) dL_law_183 ⟨by decide +kernel, by decide +kernel⟩) ?_
    refine lv_pop hx hb dL_law_186 rfl ?_
    refine lv_aload_n hx hb dL_law_187 rfl (lv_at hl 2 rfl) ?_
    refine lv_aload_n hx hb dL_law_188 rfl (lv_at hl 0 rfl) ?_
    refine lv_iload_n hx hb dL_law_189 rfl (lv_at hl 3 rfl) ?_
    refine lv_iconst (v := 1) hx hb dL_law_190 (by decide) ?_
    refine lv_iadd hx hb dL_law_191 ?_
    refine va_sld hx hb hXs hbl hbA hS (sc_in (k := 1) hz hL hkk (by omega) c_63) dL_law_192 ?_
    refine lv_aload_n hx hb dL_law_193 rfl (lv_at hl 0 rfl) ?_
    refine lv_iload_n hx hb dL_law_194 rfl (lv_at hl 3 rfl) ?_
    refine lv_iconst (v := 2) hx hb dL_law_195 (by decide) ?_
    refine lv_iadd hx hb dL_law_196 ?_
    refine va_sld hx hb hXs hbl hbA hS (sc_in (k := 2) hz hL hkk (by omega) c_63) dL_law_197 ?_
    refine rq_call1 (v := .int 0) (rn_V (As := [.int (xs (z + 1).toNatClampNeg), .int (xs (z + 2).toNatClampNeg)]) (rest := []) (ci := 7) (fs := [.int (sc 0), .int (sc 1), .int (sc 3), .int (sc 4), .int (sc 5), .ref (w 0), .int (sc 7), .int (sc 2), .int (sc 6), .ref (w 1), .ref (w 2), .ref (w 3), .int (sc 9), .ref (w 4), .ref (w 5), .ref (w 6), .ref (w 7), .int (sc 17), .ref (w 8), .ref (w 9), .ref (w 10), .ref (w 11), .ref (w 12), .ref (w 13), .ref (w 14), .ref (w 15), .int (sc 10), .int (sc 11), .int (sc 14), .int (sc 12), .int (sc 16), .int (sc 18), .ref (w 16), .ref (w 17), .ref (w 18), .ref (w 19), .int (sc 13), .ref (w 20), .int (sc 8), .ref (w 21), .ref (w 22), .ref (w 23), .ref (w 24), .ref (w 25)]) ⟨hx, hb, hml, hown, hts⟩ (c_X8_secret_no l D cA mo (sc 0) (sc 1) (sc 3) (sc 4) (sc 5) (w 0) (sc 7) (sc 2) (sc 6) (w 1) (w 2) (w 3) (sc 9) (w 4) (w 5) (w 6) (w 7) (sc 17) (w 8) (w 9) (w 10) (w 11) (w 12) (w 13) (w 14) (w 15) (sc 10) (sc 11) (sc 14) (sc 12) (sc 16) (sc 18) (w 16) (w 17) (w 18) (w 19) (sc 13) (w 20) (sc 8) (w 21) (w 22) (w 23) (w 24) (w 25) (xs (z + 1).toNatClampNeg) (xs (z + 2).toNatClampNeg) k0 q0 e5 ⟨by omega, by omega⟩ e1 ⟨by omega, by omega⟩ hc) rfl (cwV 2 hts gL_law_X8_secret rfl rfl rfl (by decide +kernel) ⟨Nat.le_of_ble_eq_true rfl, Nat.le_of_ble_eq_true rfl⟩) hK hP [52] rfl rfl rfl hl.1 rfl (Nat.le_of_ble_eq_true rfl) dL_law_198 ⟨by decide +kernel, by decide +kernel⟩) ?_
    refine lv_pop hx hb dL_law_201 rfl ?_
    refine lv_goto (tgt := 745) hx hb dL_law_202 (by decide) ?_
    refine lv_iinc (v := (z + 4)) (lv' := [(3, .int (z + 4)), (0, .ref b), (1, .ref xo), (2, .ref mo)]) hx hb dL_law_745 (lv_sub hl [0, 1, 2, 3] rfl) (k := 3) rfl rfl (by decide) rfl (fun ls hl => ?_)
    refine lv_goto (tgt := 58) hx hb dL_law_748 (by decide) ?_
    exact ih (J_same h) hP hD hS (lv_sub hl [1, 2, 3, 0] rfl)
set_option maxHeartbeats 16000000 in
set_option maxRecDepth 100000 in
/-- key -/
theorem law_1 {p : Program} {l : Launch} {e : Env} {s : State} {m : MethodId} {below : List Frame} {meth : Method} {c : Code} {b L : Nat} {xs : Nat → Int32} {D : va_G} {cA : Nat → ClassId} {A : Nat → Prop} {p0 q0 c0 t0 k0 kk v0 st0 n0 b0 mx ro rj mw un : Nat} {xo mo : Nat} {u w : Nat → Nat} {sc : Nat → Int32} {a xA xB g : Nat → Nat → Int32} {lq : Nat → Nat → Int64} {H : Heap} {locs : List Loc} {ls : Array Slot} {z : Int32} (hx : p.tables.exec = Jvm.exec) (hb : c.code = cL_law) (hml : c.maxLocals = 4) (hown : s.vm.findClass RL = some m.cls) (hts : ∀ w ∈ wsL_law, w.before #[Value.ref b] s = true) (hXs : va_X b L xs s s.heap) (hbl : b < s.heap.size) (hbA : ¬ A b) (hK : va_K D vwCl (tyS cA) s) (h : JJ p0 q0 c0 t0 k0 kk v0 st0 n0 b0 mx ro rj mw un sc a xA xB g) (hP : va_P D vwCl (((LWc cA xo u c0 t0 k0 sc a xA xB lq) ++ (LWr cA mo w sc a lq)) ++ (rwT cA (u 51) g (t0 + 1))) H) (hD : va_D A (((LWc cA xo u c0 t0 k0 sc a xA xB lq) ++ (LWr cA mo w sc a lq)) ++ (rwT cA (u 51) g (t0 + 1)))) (hS : va_S A s.heap H locs) (hl : lv_has ls 4 [(0, .ref b), (1, .ref xo), (2, .ref mo), (3, .int z)]) (hz : z = nI (4 + 4 * kk)) (hL : L ≤ 2052) (hkk : kk ≤ 512) (hk5 : kk < 512) (c_63 : ¬ Int32.ofNat L - 4 < z) (ih : ∀ {v0 st0 n0 b0 mx ro rj mw un : Nat} {sc : Nat → Int32} {a xA xB g : Nat → Nat → Int32} {lq : Nat → Nat → Int64}, JJ p0 q0 c0 t0 k0 (kk + 1) v0 st0 n0 b0 mx ro rj mw un sc a xA xB g → ∀ {H : Heap} {locs : List Loc}, va_P D vwCl ((LWc cA xo u c0 t0 k0 sc a xA xB lq ++ LWr cA mo w sc a lq) ++ rwT cA (u 51) g (t0 + 1)) H → va_D A ((LWc cA xo u c0 t0 k0 sc a xA xB lq ++ LWr cA mo w sc a lq) ++ rwT cA (u 51) g (t0 + 1)) → va_S A s.heap H locs → ∀ {ls : Array Slot}, lv_has ls 4 [(0, .ref b), (1, .ref xo), (2, .ref mo), (3, .int (z + 4))] → W p l e room_1 s m #[Value.ref b] below meth c H locs 85 8608 (lw_Z below #[Value.ref b] s) (F0 m 58 ls [])) : W p l e room_1 s m #[Value.ref b] below meth c H locs 85 8608 (lw_Z below #[Value.ref b] s) (F0 m 205 ls []) := by
  have hcst := jj_cst h
  have e0 := jj_e0 h
  have e1 := jj_e1 h
  have e3 := jj_e3 h
  have e4 := jj_e4 h
  have e5 := jj_e5 h
  have e6 := jj_e6 h
  have e7 := jj_e7 h
  have e8 := jj_e8 h
  have e9 := jj_e9 h
  have e10 := jj_e10 h
  have e11 := jj_e11 h
  have hgp : 0 < sc 0 := iv_p e0 (by omega) (by omega)
  have hgq : 0 < sc 1 := iv_p e1 (by omega) (by omega)
  have h6 : n0 < 600 := by omega
  by_cases hc : sc 7 = 0
  · skip
    refine lv_aload_n hx hb dL_law_205 rfl (lv_at hl 1 rfl) ?_
    refine wt_callM1 (v := .int (pw (sc 0) 32 (nt (a 0) 0) 1 4)) (X' := ((LWc cA xo u c0 t0 k0 (upd (upd (upd sc 7 (1)) 2 (pw (sc 0) 32 (nt (a 0) 0) 1 4)) 8 (sc 8 + 1)) (upr (upr (upr a 6 (upd (a 6) (sc 8).toNatClampNeg (1))) 7 (upd (a 7) (sc 8).toNatClampNeg (pw (sc 0) 32 (nt (a 0) 0) 1 4))) 8 (upd (a 8) (sc 8).toNatClampNeg (sc 4))) xA xB (upq (upq lq 0 (vp_updL (lq 0) (sc 8).toNatClampNeg ((sc 5).toInt64))) 1 (vp_updL (lq 1) (sc 8).toNatClampNeg (dg (dg (dg (dg (cho (lq 1) (sc 8) (sc 8 - 1)) ((1 : Int32).toInt64)) ((pw (sc 0) 32 (nt (a 0) 0) 1 4).toInt64)) ((sc 4 : Int32).toInt64)) ((sc 5).toInt64))))) ++ (LWr cA mo w sc a lq))) (ads := LAd xo u mo w) (wn_V (As := []) (rest := []) (ci := 6) (fs := [.ref (u 0), .ref (u 1), .ref (u 2), .int (sc 3), .ref (u 3), .ref (u 4), .ref (u 5), .ref (u 6), .ref (u 7), .ref (u 8), .ref (u 9), .ref (u 10), .int (sc 7), .int (sc 6), .int (sc 9), .int (sc 10), .int (sc 15), .int (sc 11), .int (sc 12), .int (sc 14)]) ⟨hx, hb, hml, hown, hts⟩ (c_X7_key_ok l D cA xo (u 0) (u 1) (u 2) (sc 3) (u 3) (u 4) (u 5) (u 6) (u 7) (u 8) (u 9) (u 10) (sc 7) (sc 6) (sc 9) (sc 10) (sc 15) (sc 11) (sc 12) (sc 14) (sc 4) (sc 5) (u 11) (u 12) (u 13) (u 14) (sc 13) (sc 0) (sc 1) (sc 2) k0 (nt (a 0) 0) n0 (a 0) (u 15) (u 16) (u 17) (u 18) (u 19) (sc 8) (a 6) (a 7) (a 8) (lq 0) (lq 1) hc ⟨by omega, by omega⟩ (jj_co h 0 (by omega)).1 (nn_lt _) hgp e8.1 h6) rfl (cwV 0 hts gL_law_X7_key rfl rfl rfl (by decide +kernel) ⟨Nat.le_of_ble_eq_true rfl, Nat.le_of_ble_eq_true rfl⟩) hK hP hD [0, 2, 1, 3, 7, 8, 9, 10, 11, 12] rfl (by decide) rfl rfl rfl hl.1 rfl (Nat.le_of_ble_eq_true rfl) dL_law_206 ⟨by decide +kernel, by decide +kernel⟩) hP hD hS [0, 2, 1, 3, 7, 8, 9, 10, 11, 12] [4, 5, 6, 13, 14, 15, 16, 17, 18, 19, 20, 21, 22, 23, 24, 25, 26, 27, 28, 29, 30, 31, 32, 33, 34, 35, 36, 37, 38, 39, 40, 41, 42, 43, 44, 45, 46, 47, 48, 49, 50, 51, 52, 53, 54, 55, 56, 57, 58, 59, 60, 61, 62, 63, 64, 65, 66, 67, 68, 69, 70, 71, 72, 73, 74, 75, 76, 77, 78] rfl rfl rfl rfl rfl rfl rfl (fun H locs hP hD hS => ?_)
    refine lv_pop hx hb dL_law_209 rfl ?_
    refine lv_aload_n hx hb dL_law_210 rfl (lv_at hl 2 rfl) ?_
    refine wt_callM1 (v := .int (pw (sc 0) 32 (nt (a 0) 0) 1 4)) (X' := ((LWc cA xo u c0 t0 k0 (upd (upd (upd sc 7 (1)) 2 (pw (sc 0) 32 (nt (a 0) 0) 1 4)) 8 (sc 8 + 1)) (upr (upr (upr a 6 (upd (a 6) (sc 8).toNatClampNeg (1))) 7 (upd (a 7) (sc 8).toNatClampNeg (pw (sc 0) 32 (nt (a 0) 0) 1 4))) 8 (upd (a 8) (sc 8).toNatClampNeg (sc 4))) xA xB (upq (upq lq 0 (vp_updL (lq 0) (sc 8).toNatClampNeg ((sc 5).toInt64))) 1 (vp_updL (lq 1) (sc 8).toNatClampNeg (dg (dg (dg (dg (cho (lq 1) (sc 8) (sc 8 - 1)) ((1 : Int32).toInt64)) ((pw (sc 0) 32 (nt (a 0) 0) 1 4).toInt64)) ((sc 4 : Int32).toInt64)) ((sc 5).toInt64))))) ++ (LWr cA mo w (upd (upd (upd sc 7 (1)) 2 (pw (sc 0) 32 (nt (a 0) 0) 1 4)) 8 (sc 8 + 1)) (upr (upr (upr a 6 (upd (a 6) (sc 8).toNatClampNeg (1))) 7 (upd (a 7) (sc 8).toNatClampNeg (pw (sc 0) 32 (nt (a 0) 0) 1 4))) 8 (upd (a 8) (sc 8).toNatClampNeg (sc 4))) (upq (upq lq 0 (vp_updL (lq 0) (sc 8).toNatClampNeg ((sc 5).toInt64))) 1 (vp_updL (lq 1) (sc 8).toNatClampNeg (dg (dg (dg (dg (cho (lq 1) (sc 8) (sc 8 - 1)) ((1 : Int32).toInt64)) ((pw (sc 0) 32 (nt (a 0) 0) 1 4).toInt64)) ((sc 4 : Int32).toInt64)) ((sc 5).toInt64))))))) (ads := LAd xo u mo w) (wn_V (As := []) (rest := []) (ci := 7) (fs := [.int (sc 0), .int (sc 1), .int (sc 3), .int (sc 4), .int (sc 5), .ref (w 0), .int (sc 7), .int (sc 2), .int (sc 6), .ref (w 1), .ref (w 2), .ref (w 3), .int (sc 9), .ref (w 4), .ref (w 5), .ref (w 6), .ref (w 7), .int (sc 17), .ref (w 8), .ref (w 9), .ref (w 10), .ref (w 11), .ref (w 12), .ref (w 13), .ref (w 14), .ref (w 15), .int (sc 10), .int (sc 11), .int (sc 14), .int (sc 12), .int (sc 16), .int (sc 18), .ref (w 16), .ref (w 17), .ref (w 18), .ref (w 19), .int (sc 13), .ref (w 20), .int (sc 8), .ref (w 21), .ref (w 22), .ref (w 23), .ref (w 24), .ref (w 25)]) ⟨hx, hb, hml, hown, hts⟩ (c_X8_key_ok l D cA mo (sc 0) (sc 1) (sc 3) (sc 4) (sc 5) (w 0) (sc 7) (sc 2) (sc 6) (w 1) (w 2) (w 3) (sc 9) (w 4) (w 5) (w 6) (w 7) (sc 17) (w 8) (w 9) (w 10) (w 11) (w 12) (w 13) (w 14) (w 15) (sc 10) (sc 11) (sc 14) (sc 12) (sc 16) (sc 18) (w 16) (w 17) (w 18) (w 19) (sc 13) (w 20) (sc 8) (w 21) (w 22) (w 23) (w 24) (w 25) (a 6) (a 7) (a 8) (lq 0) (lq 1) (a 0) (nt (a 0) 0) n0 hc (jj_co h 0 (by omega)).1 (nn_lt _) hgp e8.1 h6) rfl (cwV 0 hts gL_law_X8_key rfl rfl rfl (by decide +kernel) ⟨Nat.le_of_ble_eq_true rfl, Nat.le_of_ble_eq_true rfl⟩) hK hP hD [52, 53, 74, 75, 76, 77, 78] rfl (by decide) rfl rfl rfl hl.1 rfl (Nat.le_of_ble_eq_true rfl) dL_law_211 ⟨by decide +kernel, by decide +kernel⟩) hP hD hS [52, 53, 74, 75, 76, 77, 78] [0, 1, 2, 3, 4, 5, 6, 7, 8, 9, 10, 11, 12, 13, 14, 15, 16, 17, 18, 19, 20, 21, 22, 23, 24, 25, 26, 27, 28, 29, 30, 31, 32, 33, 34, 35, 36, 37, 38, 39, 40, 41, 42, 43, 44, 45, 46, 47, 48, 49, 50, 51, 54, 55, 56, 57, 58, 59, 60, 61, 62, 63, 64, 65, 66, 67, 68, 69, 70, 71, 72, 73] rfl rfl rfl rfl rfl rfl rfl (fun H locs hP hD hS => ?_)
    refine lv_pop hx hb dL_law_214 rfl ?_
    refine lv_goto (tgt := 745) hx hb dL_law_215 (by decide) ?_
    refine lv_iinc (v := (z + 4)) (lv' := [(3, .int (z + 4)), (0, .ref b), (1, .ref xo), (2, .ref mo)]) hx hb dL_law_745 (lv_sub hl [0, 1, 2, 3] rfl) (k := 3) rfl rfl (by decide) rfl (fun ls hl => ?_)
    refine lv_goto (tgt := 58) hx hb dL_law_748 (by decide) ?_
    exact ih (J_key (y := sc 4) (n := nt (a 0) 0) h hc) hP hD hS (lv_sub hl [1, 2, 3, 0] rfl)
  · skip
    refine lv_aload_n hx hb dL_law_205 rfl (lv_at hl 1 rfl) ?_
    refine rq_call1 (v := .int (-1)) (rn_V (As := []) (rest := []) (ci := 6) (fs := [.ref (u 0), .ref (u 1), .ref (u 2), .int (sc 3), .ref (u 3), .ref (u 4), .ref (u 5), .ref (u 6), .ref (u 7), .ref (u 8), .ref (u 9), .ref (u 10), .int (sc 7), .int (sc 6), .int (sc 9), .int (sc 10), .int (sc 15), .int (sc 11), .int (sc 12), .int (sc 14)]) ⟨hx, hb, hml, hown, hts⟩ (c_X7_key_no l D cA xo (u 0) (u 1) (u 2) (sc 3) (u 3) (u 4) (u 5) (u 6) (u 7) (u 8) (u 9) (u 10) (sc 7) (sc 6) (sc 9) (sc 10) (sc 15) (sc 11) (sc 12) (sc 14) hc) rfl (cwV 0 hts gL_law_X7_key rfl rfl rfl (by decide +kernel) ⟨Nat.le_of_ble_eq_true rfl, Nat.le_of_ble_eq_true rfl⟩) hK hP [0] rfl rfl rfl hl.1 rfl (Nat.le_of_ble_eq_true rfl) dL_law_206 ⟨by decide +kernel, by decide +kernel⟩) ?_
    refine lv_pop hx hb dL_law_209 rfl ?_
    refine lv_aload_n hx hb dL_law_210 rfl (lv_at hl 2 rfl) ?_
    refine rq_call1 (v := .int (-1)) (rn_V (As := []) (rest := []) (ci := 7) (fs := [.int (sc 0), .int (sc 1), .int (sc 3), .int (sc 4), .int (sc 5), .ref (w 0), .int (sc 7), .int (sc 2), .int (sc 6), .ref (w 1), .ref (w 2), .ref (w 3), .int (sc 9), .ref (w 4), .ref (w 5), .ref (w 6), .ref (w 7), .int (sc 17), .ref (w 8), .ref (w 9), .ref (w 10), .ref (w 11), .ref (w 12), .ref (w 13), .ref (w 14), .ref (w 15), .int (sc 10), .int (sc 11), .int (sc 14), .int (sc 12), .int (sc 16), .int (sc 18), .ref (w 16), .ref (w 17), .ref (w 18), .ref (w 19), .int (sc 13), .ref (w 20), .int (sc 8), .ref (w 21), .ref (w 22), .ref (w 23), .ref (w 24), .ref (w 25)]) ⟨hx, hb, hml, hown, hts⟩ (c_X8_key_no l D cA mo (sc 0) (sc 1) (sc 3) (sc 4) (sc 5) (w 0) (sc 7) (sc 2) (sc 6) (w 1) (w 2) (w 3) (sc 9) (w 4) (w 5) (w 6) (w 7) (sc 17) (w 8) (w 9) (w 10) (w 11) (w 12) (w 13) (w 14) (w 15) (sc 10) (sc 11) (sc 14) (sc 12) (sc 16) (sc 18) (w 16) (w 17) (w 18) (w 19) (sc 13) (w 20) (sc 8) (w 21) (w 22) (w 23) (w 24) (w 25) hc) rfl (cwV 0 hts gL_law_X8_key rfl rfl rfl (by decide +kernel) ⟨Nat.le_of_ble_eq_true rfl, Nat.le_of_ble_eq_true rfl⟩) hK hP [52] rfl rfl rfl hl.1 rfl (Nat.le_of_ble_eq_true rfl) dL_law_211 ⟨by decide +kernel, by decide +kernel⟩) ?_
    refine lv_pop hx hb dL_law_214 rfl ?_
    refine lv_goto (tgt := 745) hx hb dL_law_215 (by decide) ?_
    refine lv_iinc (v := (z + 4)) (lv' := [(3, .int (z + 4)), (0, .ref b), (1, .ref xo), (2, .ref mo)]) hx hb dL_law_745 (lv_sub hl [0, 1, 2, 3] rfl) (k := 3) rfl rfl (by decide) rfl (fun ls hl => ?_)
    refine lv_goto (tgt := 58) hx hb dL_law_748 (by decide) ?_
    exact ih (J_same h) hP hD hS (lv_sub hl [1, 2, 3, 0] rfl)
set_option maxHeartbeats 16000000 in
set_option maxRecDepth 100000 in
/-- voter -/
theorem law_2 {p : Program} {l : Launch} {e : Env} {s : State} {m : MethodId} {below : List Frame} {meth : Method} {c : Code} {b L : Nat} {xs : Nat → Int32} {D : va_G} {cA : Nat → ClassId} {A : Nat → Prop} {p0 q0 c0 t0 k0 kk v0 st0 n0 b0 mx ro rj mw un : Nat} {xo mo : Nat} {u w : Nat → Nat} {sc : Nat → Int32} {a xA xB g : Nat → Nat → Int32} {lq : Nat → Nat → Int64} {H : Heap} {locs : List Loc} {ls : Array Slot} {z : Int32} (hx : p.tables.exec = Jvm.exec) (hb : c.code = cL_law) (hml : c.maxLocals = 4) (hown : s.vm.findClass RL = some m.cls) (hts : ∀ w ∈ wsL_law, w.before #[Value.ref b] s = true) (hXs : va_X b L xs s s.heap) (hbl : b < s.heap.size) (hbA : ¬ A b) (hK : va_K D vwCl (tyS cA) s) (h : JJ p0 q0 c0 t0 k0 kk v0 st0 n0 b0 mx ro rj mw un sc a xA xB g) (hP : va_P D vwCl (((LWc cA xo u c0 t0 k0 sc a xA xB lq) ++ (LWr cA mo w sc a lq)) ++ (rwT cA (u 51) g (t0 + 1))) H) (hD : va_D A (((LWc cA xo u c0 t0 k0 sc a xA xB lq) ++ (LWr cA mo w sc a lq)) ++ (rwT cA (u 51) g (t0 + 1)))) (hS : va_S A s.heap H locs) (hl : lv_has ls 4 [(0, .ref b), (1, .ref xo), (2, .ref mo), (3, .int z)]) (hz : z = nI (4 + 4 * kk)) (hL : L ≤ 2052) (hkk : kk ≤ 512) (hk5 : kk < 512) (c_63 : ¬ Int32.ofNat L - 4 < z) (ih : ∀ {v0 st0 n0 b0 mx ro rj mw un : Nat} {sc : Nat → Int32} {a xA xB g : Nat → Nat → Int32} {lq : Nat → Nat → Int64}, JJ p0 q0 c0 t0 k0 (kk + 1) v0 st0 n0 b0 mx ro rj mw un sc a xA xB g → ∀ {H : Heap} {locs : List Loc}, va_P D vwCl ((LWc cA xo u c0 t0 k0 sc a xA xB lq ++ LWr cA mo w sc a lq) ++ rwT cA (u 51) g (t0 + 1)) H → va_D A ((LWc cA xo u c0 t0 k0 sc a xA xB lq ++ LWr cA mo w sc a lq) ++ rwT cA (u 51) g (t0 + 1)) → va_S A s.heap H locs → ∀ {ls : Array Slot}, lv_has ls 4 [(0, .ref b), (1, .ref xo), (2, .ref mo), (3, .int (z + 4))] → W p l e room_1 s m #[Value.ref b] below meth c H locs 85 8608 (lw_Z below #[Value.ref b] s) (F0 m 58 ls [])) : W p l e room_1 s m #[Value.ref b] below meth c H locs 85 8608 (lw_Z below #[Value.ref b] s) (F0 m 218 ls []) := by
  have hcst := jj_cst h
  have e0 := jj_e0 h
  have e1 := jj_e1 h
  have e3 := jj_e3 h
  have e4 := jj_e4 h
  have e5 := jj_e5 h
  have e6 := jj_e6 h
  have e7 := jj_e7 h
  have e8 := jj_e8 h
  have e9 := jj_e9 h
  have e10 := jj_e10 h
  have e11 := jj_e11 h
  have hgp : 0 < sc 0 := iv_p e0 (by omega) (by omega)
  have hgq : 0 < sc 1 := iv_p e1 (by omega) (by omega)
  have h6 : n0 < 600 := by omega
  by_cases hc : ¬ 1 < sc 7 ∧ sc 6 < 40
  · skip
    refine lv_aload_n hx hb dL_law_218 rfl (lv_at hl 1 rfl) ?_
    refine wt_callM1 (v := .int (((sc 6) + 1) - 1)) (X' := ((LWc cA xo u c0 t0 k0 (upd sc 6 (sc 6 + 1)) a xA xB lq) ++ (LWr cA mo w sc a lq))) (ads := LAd xo u mo w) (wn_V (As := []) (rest := []) (ci := 6) (fs := [.ref (u 0), .ref (u 1), .ref (u 2), .int (sc 3), .ref (u 3), .ref (u 4), .ref (u 5), .ref (u 6), .ref (u 7), .ref (u 8), .ref (u 9), .ref (u 10), .int (sc 7), .int (sc 6), .int (sc 9), .int (sc 10), .int (sc 15), .int (sc 11), .int (sc 12), .int (sc 14)]) ⟨hx, hb, hml, hown, hts⟩ (c_X7_voter_ok l D cA xo (u 0) (u 1) (u 2) (sc 3) (u 3) (u 4) (u 5) (u 6) (u 7) (u 8) (u 9) (u 10) (sc 7) (sc 6) (sc 9) (sc 10) (sc 15) (sc 11) (sc 12) (sc 14) hc) rfl (cwV 0 hts gL_law_X7_voter rfl rfl rfl (by decide +kernel) ⟨Nat.le_of_ble_eq_true rfl, Nat.le_of_ble_eq_true rfl⟩) hK hP hD [0] rfl (by decide) rfl rfl rfl hl.1 rfl (Nat.le_of_ble_eq_true rfl) dL_law_219 ⟨by decide +kernel, by decide +kernel⟩) hP hD hS [0] [1, 2, 3, 4, 5, 6, 7, 8, 9, 10, 11, 12, 13, 14, 15, 16, 17, 18, 19, 20, 21, 22, 23, 24, 25, 26, 27, 28, 29, 30, 31, 32, 33, 34, 35, 36, 37, 38, 39, 40, 41, 42, 43, 44, 45, 46, 47, 48, 49, 50, 51, 52, 53, 54, 55, 56, 57, 58, 59, 60, 61, 62, 63, 64, 65, 66, 67, 68, 69, 70, 71, 72, 73, 74, 75, 76, 77, 78] rfl rfl rfl rfl rfl rfl rfl (fun H locs hP hD hS => ?_)
    refine lv_aload_n hx hb dL_law_222 rfl (lv_at hl 2 rfl) ?_
    refine wt_callM1 (v := .int (((sc 6) + 1) - 1)) (X' := ((LWc cA xo u c0 t0 k0 (upd sc 6 (sc 6 + 1)) a xA xB lq) ++ (LWr cA mo w (upd sc 6 (sc 6 + 1)) a lq))) (ads := LAd xo u mo w) (wn_V (As := []) (rest := [.int (((sc 6) + 1) - 1)]) (ci := 7) (fs := [.int (sc 0), .int (sc 1), .int (sc 3), .int (sc 4), .int (sc 5), .ref (w 0), .int (sc 7), .int (sc 2), .int (sc 6), .ref (w 1), .ref (w 2), .ref (w 3), .int (sc 9), .ref (w 4), .ref (w 5), .ref (w 6), .ref (w 7), .int (sc 17), .ref (w 8), .ref (w 9), .ref (w 10), .ref (w 11), .ref (w 12), .ref (w 13), .ref (w 14), .ref (w 15), .int (sc 10), .int (sc 11), .int (sc 14), .int (sc 12), .int (sc 16), .int (sc 18), .ref (w 16), .ref (w 17), .ref (w 18), .ref (w 19), .int (sc 13), .ref (w 20), .int (sc 8), .ref (w 21), .ref (w 22), .ref (w 23), .ref (w 24), .ref (w 25)]) ⟨hx, hb, hml, hown, hts⟩ (c_X8_voter_ok l D cA mo (sc 0) (sc 1) (sc 3) (sc 4) (sc 5) (w 0) (sc 7) (sc 2) (sc 6) (w 1) (w 2) (w 3) (sc 9) (w 4) (w 5) (w 6) (w 7) (sc 17) (w 8) (w 9) (w 10) (w 11) (w 12) (w 13) (w 14) (w 15) (sc 10) (sc 11) (sc 14) (sc 12) (sc 16) (sc 18) (w 16) (w 17) (w 18) (w 19) (sc 13) (w 20) (sc 8) (w 21) (w 22) (w 23) (w 24) (w 25) v0 hc e6.1 e6.2) rfl (cwV 0 hts gL_law_X8_voter rfl rfl rfl (by decide +kernel) ⟨Nat.le_of_ble_eq_true rfl, Nat.le_of_ble_eq_true rfl⟩) hK hP hD [52] rfl (by decide) rfl rfl rfl hl.1 rfl (Nat.le_of_ble_eq_true rfl) dL_law_223 ⟨by decide +kernel, by decide +kernel⟩) hP hD hS [52] [0, 1, 2, 3, 4, 5, 6, 7, 8, 9, 10, 11, 12, 13, 14, 15, 16, 17, 18, 19, 20, 21, 22, 23, 24, 25, 26, 27, 28, 29, 30, 31, 32, 33, 34, 35, 36, 37, 38, 39, 40, 41, 42, 43, 44, 45, 46, 47, 48, 49, 50, 51, 53, 54, 55, 56, 57, 58, 59, 60, 61, 62, 63, 64, 65, 66, 67, 68, 69, 70, 71, 72, 73, 74, 75, 76, 77, 78] rfl rfl rfl rfl rfl rfl rfl (fun H locs hP hD hS => ?_)
    refine lv_icmp_eq (tgt := 745) hx hb dL_law_226 (by decide) (fun c_226 => ?_) (fun c_226 => ?_)
    · skip
      refine lv_iinc (v := (z + 4)) (lv' := [(3, .int (z + 4)), (0, .ref b), (1, .ref xo), (2, .ref mo)]) hx hb dL_law_745 (lv_sub hl [0, 1, 2, 3] rfl) (k := 3) rfl rfl (by decide) rfl (fun ls hl => ?_)
      refine lv_goto (tgt := 58) hx hb dL_law_748 (by decide) ?_
      exact ih (J_voter h hc) hP hD hS (lv_sub hl [1, 2, 3, 0] rfl)
    · exact absurd rfl c_226
  · skip
    refine lv_aload_n hx hb dL_law_218 rfl (lv_at hl 1 rfl) ?_
    refine rq_call1 (v := .int (-1)) (rn_V (As := []) (rest := []) (ci := 6) (fs := [.ref (u 0), .ref (u 1), .ref (u 2), .int (sc 3), .ref (u 3), .ref (u 4), .ref (u 5), .ref (u 6), .ref (u 7), .ref (u 8), .ref (u 9), .ref (u 10), .int (sc 7), .int (sc 6), .int (sc 9), .int (sc 10), .int (sc 15), .int (sc 11), .int (sc 12), .int (sc 14)]) ⟨hx, hb, hml, hown, hts⟩ (c_X7_voter_no l D cA xo (u 0) (u 1) (u 2) (sc 3) (u 3) (u 4) (u 5) (u 6) (u 7) (u 8) (u 9) (u 10) (sc 7) (sc 6) (sc 9) (sc 10) (sc 15) (sc 11) (sc 12) (sc 14) hc) rfl (cwV 0 hts gL_law_X7_voter rfl rfl rfl (by decide +kernel) ⟨Nat.le_of_ble_eq_true rfl, Nat.le_of_ble_eq_true rfl⟩) hK hP [0] rfl rfl rfl hl.1 rfl (Nat.le_of_ble_eq_true rfl) dL_law_219 ⟨by decide +kernel, by decide +kernel⟩) ?_
    refine lv_aload_n hx hb dL_law_222 rfl (lv_at hl 2 rfl) ?_
    refine rq_call1 (v := .int (-1)) (rn_V (As := []) (rest := [.int (-1)]) (ci := 7) (fs := [.int (sc 0), .int (sc 1), .int (sc 3), .int (sc 4), .int (sc 5), .ref (w 0), .int (sc 7), .int (sc 2), .int (sc 6), .ref (w 1), .ref (w 2), .ref (w 3), .int (sc 9), .ref (w 4), .ref (w 5), .ref (w 6), .ref (w 7), .int (sc 17), .ref (w 8), .ref (w 9), .ref (w 10), .ref (w 11), .ref (w 12), .ref (w 13), .ref (w 14), .ref (w 15), .int (sc 10), .int (sc 11), .int (sc 14), .int (sc 12), .int (sc 16), .int (sc 18), .ref (w 16), .ref (w 17), .ref (w 18), .ref (w 19), .int (sc 13), .ref (w 20), .int (sc 8), .ref (w 21), .ref (w 22), .ref (w 23), .ref (w 24), .ref (w 25)]) ⟨hx, hb, hml, hown, hts⟩ (c_X8_voter_no l D cA mo (sc 0) (sc 1) (sc 3) (sc 4) (sc 5) (w 0) (sc 7) (sc 2) (sc 6) (w 1) (w 2) (w 3) (sc 9) (w 4) (w 5) (w 6) (w 7) (sc 17) (w 8) (w 9) (w 10) (w 11) (w 12) (w 13) (w 14) (w 15) (sc 10) (sc 11) (sc 14) (sc 12) (sc 16) (sc 18) (w 16) (w 17) (w 18) (w 19) (sc 13) (w 20) (sc 8) (w 21) (w 22) (w 23) (w 24) (w 25) v0 hc e6.1 e6.2) rfl (cwV 0 hts gL_law_X8_voter rfl rfl rfl (by decide +kernel) ⟨Nat.le_of_ble_eq_true rfl, Nat.le_of_ble_eq_true rfl⟩) hK hP [52] rfl rfl rfl hl.1 rfl (Nat.le_of_ble_eq_true rfl) dL_law_223 ⟨by decide +kernel, by decide +kernel⟩) ?_
    refine lv_icmp_eq (tgt := 745) hx hb dL_law_226 (by decide) (fun c_226 => ?_) (fun c_226 => ?_)
    · skip
      refine lv_iinc (v := (z + 4)) (lv' := [(3, .int (z + 4)), (0, .ref b), (1, .ref xo), (2, .ref mo)]) hx hb dL_law_745 (lv_sub hl [0, 1, 2, 3] rfl) (k := 3) rfl rfl (by decide) rfl (fun ls hl => ?_)
      refine lv_goto (tgt := 58) hx hb dL_law_748 (by decide) ?_
      exact ih (J_same h) hP hD hS (lv_sub hl [1, 2, 3, 0] rfl)
    · exact absurd rfl c_226
set_option maxHeartbeats 16000000 in
set_option maxRecDepth 100000 in
/-- cast -/
theorem law_3 {p : Program} {l : Launch} {e : Env} {s : State} {m : MethodId} {below : List Frame} {meth : Method} {c : Code} {b L : Nat} {xs : Nat → Int32} {D : va_G} {cA : Nat → ClassId} {A : Nat → Prop} {p0 q0 c0 t0 k0 kk v0 st0 n0 b0 mx ro rj mw un : Nat} {xo mo : Nat} {u w : Nat → Nat} {sc : Nat → Int32} {a xA xB g : Nat → Nat → Int32} {lq : Nat → Nat → Int64} {H : Heap} {locs : List Loc} {ls : Array Slot} {z : Int32} (hx : p.tables.exec = Jvm.exec) (hb : c.code = cL_law) (hml : c.maxLocals = 4) (hown : s.vm.findClass RL = some m.cls) (hts : ∀ w ∈ wsL_law, w.before #[Value.ref b] s = true) (hXs : va_X b L xs s s.heap) (hbl : b < s.heap.size) (hbA : ¬ A b) (hK : va_K D vwCl (tyS cA) s) (h : JJ p0 q0 c0 t0 k0 kk v0 st0 n0 b0 mx ro rj mw un sc a xA xB g) (hP : va_P D vwCl (((LWc cA xo u c0 t0 k0 sc a xA xB lq) ++ (LWr cA mo w sc a lq)) ++ (rwT cA (u 51) g (t0 + 1))) H) (hD : va_D A (((LWc cA xo u c0 t0 k0 sc a xA xB lq) ++ (LWr cA mo w sc a lq)) ++ (rwT cA (u 51) g (t0 + 1)))) (hS : va_S A s.heap H locs) (hl : lv_has ls 4 [(0, .ref b), (1, .ref xo), (2, .ref mo), (3, .int z)]) (hz : z = nI (4 + 4 * kk)) (hL : L ≤ 2052) (hkk : kk ≤ 512) (hk5 : kk < 512) (c_63 : ¬ Int32.ofNat L - 4 < z) (ih : ∀ {v0 st0 n0 b0 mx ro rj mw un : Nat} {sc : Nat → Int32} {a xA xB g : Nat → Nat → Int32} {lq : Nat → Nat → Int64}, JJ p0 q0 c0 t0 k0 (kk + 1) v0 st0 n0 b0 mx ro rj mw un sc a xA xB g → ∀ {H : Heap} {locs : List Loc}, va_P D vwCl ((LWc cA xo u c0 t0 k0 sc a xA xB lq ++ LWr cA mo w sc a lq) ++ rwT cA (u 51) g (t0 + 1)) H → va_D A ((LWc cA xo u c0 t0 k0 sc a xA xB lq ++ LWr cA mo w sc a lq) ++ rwT cA (u 51) g (t0 + 1)) → va_S A s.heap H locs → ∀ {ls : Array Slot}, lv_has ls 4 [(0, .ref b), (1, .ref xo), (2, .ref mo), (3, .int (z + 4))] → W p l e room_1 s m #[Value.ref b] below meth c H locs 85 8608 (lw_Z below #[Value.ref b] s) (F0 m 58 ls [])) : W p l e room_1 s m #[Value.ref b] below meth c H locs 85 8608 (lw_Z below #[Value.ref b] s) (F0 m 231 ls []) := by
  have hcst := jj_cst h
  have e0 := jj_e0 h
  have e1 := jj_e1 h
  have e3 := jj_e3 h
  have e4 := jj_e4 h
  have e5 := jj_e5 h
  have e6 := jj_e6 h
  have e7 := jj_e7 h
  have e8 := jj_e8 h
  have e9 := jj_e9 h
  have e10 := jj_e10 h
  have e11 := jj_e11 h
  have hgp : 0 < sc 0 := iv_p e0 (by omega) (by omega)
  have hgq : 0 < sc 1 := iv_p e1 (by omega) (by omega)
  have h6 : n0 < 600 := by omega
  by_cases hc : (sc 7 = 1 ∧ 0 ≤ (xs (z + 1).toNatClampNeg) ∧ (xs (z + 1).toNatClampNeg) < sc 6 ∧ sc 8 < 500) ∧ (0 ≤ (xs (z + 2).toNatClampNeg) ∧ (xs (z + 2).toNatClampNeg) < sc 3) ∧ (0 ≤ (xs (z + 3).toNatClampNeg) ∧ (xs (z + 3).toNatClampNeg) < sc 1)
  · skip
    obtain ⟨w1, hw1, ew⟩ := bx_g ⟨hc.1.2.1, hc.1.2.2.1⟩ e6.1 (by omega)
    obtain ⟨c1, hc1, ec⟩ := bx_g hc.2.1 e3 (by omega)
    obtain ⟨r1, hr1, er⟩ := bx_g hc.2.2 e1 (by omega)
    refine lv_aload_n hx hb dL_law_231 rfl (lv_at hl 1 rfl) ?_
    refine lv_aload_n hx hb dL_law_232 rfl (lv_at hl 0 rfl) ?_
    refine lv_iload_n hx hb dL_law_233 rfl (lv_at hl 3 rfl) ?_
    refine lv_iconst (v := 1) hx hb dL_law_234 (by decide) ?_
    refine lv_iadd hx hb dL_law_235 ?_
    refine va_sld hx hb hXs hbl hbA hS (sc_in (k := 1) hz hL hkk (by omega) c_63) dL_law_236 ?_
    refine lv_aload_n hx hb dL_law_237 rfl (lv_at hl 0 rfl) ?_
    refine lv_iload_n hx hb dL_law_238 rfl (lv_at hl 3 rfl) ?_
    refine lv_iconst (v := 2) hx hb dL_law_239 (by decide) ?_
    refine lv_iadd hx hb dL_law_240 ?_
    refine va_sld hx hb hXs hbl hbA hS (sc_in (k := 2) hz hL hkk (by omega) c_63) dL_law_241 ?_
    refine lv_aload_n hx hb dL_law_242 rfl (lv_at hl 0 rfl) ?_
    refine lv_iload_n hx hb dL_law_243 rfl (lv_at hl 3 rfl) ?_
    refine lv_iconst (v := 3) hx hb dL_law_244 (by decide) ?_
    refine lv_iadd hx hb dL_law_245 ?_
    refine va_sld hx hb hXs hbl hbA hS (sc_in (k := 3) hz hL hkk (by omega) c_63) dL_law_246 ?_
    refine wt_callM1 (v := .long (dg (dg (dg (dg (cho (lq 1) (sc 8) ((sc 8) - 1)) ((2 : Int32).toInt64)) ((xs (z + 1).toNatClampNeg).toInt64)) ((tm (sc 0) 1 (pw (sc 0) 32 r1 1 4)).toInt64)) (tm (sc 0) (pw (sc 0) 32 (c1 + 1) 1 4) (pw (sc 0) 32 r1 1 (sc 2))).toInt64)) (X' := ((LWc cA xo u c0 t0 k0 (upd sc 8 (sc 8 + 1)) (upr (upr (upr (upr (upr (upr (upr (upr a 10 (upd (a 10) (xs (z + 1).toNatClampNeg).toNatClampNeg (tm (sc 0) 1 (pw (sc 0) 32 r1 1 4)))) 11 (upd (a 11) (xs (z + 1).toNatClampNeg).toNatClampNeg (tm (sc 0) (pw (sc 0) 32 (c1 + 1) 1 4) (pw (sc 0) 32 r1 1 (sc 2))))) 31 (upd (a 31) (xs (z + 1).toNatClampNeg).toNatClampNeg (vp_nar .boolean 1))) 32 (upd (a 32) (xs (z + 1).toNatClampNeg).toNatClampNeg (tm (sc 0) 1 (pw (sc 0) 32 r1 1 4)))) 33 (upd (a 33) (xs (z + 1).toNatClampNeg).toNatClampNeg (tm (sc 0) (pw (sc 0) 32 (c1 + 1) 1 4) (pw (sc 0) 32 r1 1 (sc 2))))) 6 (upd (a 6) (sc 8).toNatClampNeg (2))) 7 (upd (a 7) (sc 8).toNatClampNeg ((xs (z + 1).toNatClampNeg)))) 8 (upd (a 8) (sc 8).toNatClampNeg (tm (sc 0) 1 (pw (sc 0) 32 r1 1 4)))) xA xB (upq (upq lq 0 (vp_updL (lq 0) (sc 8).toNatClampNeg ((tm (sc 0) (pw (sc 0) 32 (c1 + 1) 1 4) (pw (sc 0) 32 r1 1 (sc 2))).toInt64))) 1 (vp_updL (lq 1) (sc 8).toNatClampNeg (dg (dg (dg (dg (cho (lq 1) (sc 8) (sc 8 - 1)) ((2 : Int32).toInt64)) (((xs (z + 1).toNatClampNeg)).toInt64)) ((tm (sc 0) 1 (pw (sc 0) 32 r1 1 4) : Int32).toInt64)) ((tm (sc 0) (pw (sc 0) 32 (c1 + 1) 1 4) (pw (sc 0) 32 r1 1 (sc 2))).toInt64))))) ++ (LWr cA mo w sc a lq))) (ads := LAd xo u mo w) (wn_V (As := [.int (xs (z + 1).toNatClampNeg), .int (xs (z + 2).toNatClampNeg), .int (xs (z + 3).toNatClampNeg)]) (rest := []) (ci := 6) (fs := [.ref (u 0), .ref (u 1), .ref (u 2), .int (sc 3), .ref (u 3), .ref (u 4), .ref (u 5), .ref (u 6), .ref (u 7), .ref (u 8), .ref (u 9), .ref (u 10), .int (sc 7), .int (sc 6), .int (sc 9), .int (sc 10), .int (sc 15), .int (sc 11), .int (sc 12), .int (sc 14)]) ⟨hx, hb, hml, hown, hts⟩ (c_X7_cast_ok l D cA xo (u 0) (u 1) (u 2) (sc 3) (u 3) (u 4) (u 5) (u 6) (u 7) (u 8) (u 9) (u 10) (sc 7) (sc 6) (sc 9) (sc 10) (sc 15) (sc 11) (sc 12) (sc 14) (sc 0) (sc 1) (sc 2) (u 15) (u 16) (u 17) (u 18) (u 19) (sc 8) (xs (z + 1).toNatClampNeg) (xs (z + 2).toNatClampNeg) (xs (z + 3).toNatClampNeg) (u 20) (u 21) (a 10) (a 11) (a 6) (a 7) (a 8) (lq 0) (lq 1) w1 c1 r1 n0 hc ew (by omega) e8.1 h6 ec (by omega) er (by omega) hgp) rfl (cwV 3 hts gL_law_X7_cast rfl rfl rfl (by decide +kernel) ⟨Nat.le_of_ble_eq_true rfl, Nat.le_of_ble_eq_true rfl⟩) hK hP hD [0, 1, 13, 14, 15, 7, 8, 9, 10, 11, 12] rfl (by decide) rfl rfl rfl hl.1 rfl (Nat.le_of_ble_eq_true rfl) dL_law_247 ⟨by decide +kernel, by decide +kernel⟩) hP hD hS [0, 1, 13, 14, 15, 7, 8, 9, 10, 11, 12] [2, 3, 4, 5, 6, 16, 17, 18, 19, 20, 21, 22, 23, 24, 25, 26, 27, 28, 29, 30, 31, 32, 33, 34, 35, 36, 37, 38, 39, 40, 41, 42, 43, 44, 45, 46, 47, 48, 49, 50, 51, 52, 53, 54, 55, 56, 57, 58, 59, 60, 61, 62, 63, 64, 65, 66, 67, 68, 69, 70, 71, 72, 73, 74, 75, 76, 77, 78] rfl rfl rfl rfl rfl rfl rfl (fun H locs hP hD hS => ?_)
    refine lv_pop2_2 hx hb dL_law_250 rfl ?_
    refine lv_aload_n hx hb dL_law_251 rfl (lv_at hl 2 rfl) ?_
    refine lv_aload_n hx hb dL_law_252 rfl (lv_at hl 0 rfl) ?_
    refine lv_iload_n hx hb dL_law_253 rfl (lv_at hl 3 rfl) ?_
    refine lv_iconst (v := 1) hx hb dL_law_254 (by decide) ?_
    refine lv_iadd hx hb dL_law_255 ?_
    refine va_sld hx hb hXs hbl hbA hS (sc_in (k := 1) hz hL hkk (by omega) c_63) dL_law_256 ?_
    refine lv_aload_n hx hb dL_law_257 rfl (lv_at hl 0 rfl) ?_
    refine lv_iload_n hx hb dL_law_258 rfl (lv_at hl 3 rfl) ?_
    refine lv_iconst (v := 2) hx hb dL_law_259 (by decide) ?_
    refine lv_iadd hx hb dL_law_260 ?_
    refine va_sld hx hb hXs hbl hbA hS (sc_in (k := 2) hz hL hkk (by omega) c_63) dL_law_261 ?_
    refine lv_aload_n hx hb dL_law_262 rfl (lv_at hl 0 rfl) ?_
    refine lv_iload_n hx hb dL_law_263 rfl (lv_at hl 3 rfl) ?_
    refine lv_iconst (v := 3) hx hb dL_law_264 (by decide) ?_
    refine lv_iadd hx hb dL_law_265 ?_
    refine va_sld hx hb hXs hbl hbA hS (sc_in (k := 3) hz hL hkk (by omega) c_63) dL_law_266 ?_
    refine wt_callM1 (v := .long (dg (dg (dg (dg (cho (lq 1) (sc 8) ((sc 8) - 1)) ((2 : Int32).toInt64)) ((xs (z + 1).toNatClampNeg).toInt64)) ((tm (sc 0) 1 (pw (sc 0) 32 r1 1 4)).toInt64)) (tm (sc 0) (pw (sc 0) 32 (c1 + 1) 1 4) (pw (sc 0) 32 r1 1 (sc 2))).toInt64)) (X' := ((LWc cA xo u c0 t0 k0 (upd sc 8 (sc 8 + 1)) (upr (upr (upr (upr (upr (upr (upr (upr a 10 (upd (a 10) (xs (z + 1).toNatClampNeg).toNatClampNeg (tm (sc 0) 1 (pw (sc 0) 32 r1 1 4)))) 11 (upd (a 11) (xs (z + 1).toNatClampNeg).toNatClampNeg (tm (sc 0) (pw (sc 0) 32 (c1 + 1) 1 4) (pw (sc 0) 32 r1 1 (sc 2))))) 31 (upd (a 31) (xs (z + 1).toNatClampNeg).toNatClampNeg (vp_nar .boolean 1))) 32 (upd (a 32) (xs (z + 1).toNatClampNeg).toNatClampNeg (tm (sc 0) 1 (pw (sc 0) 32 r1 1 4)))) 33 (upd (a 33) (xs (z + 1).toNatClampNeg).toNatClampNeg (tm (sc 0) (pw (sc 0) 32 (c1 + 1) 1 4) (pw (sc 0) 32 r1 1 (sc 2))))) 6 (upd (a 6) (sc 8).toNatClampNeg (2))) 7 (upd (a 7) (sc 8).toNatClampNeg ((xs (z + 1).toNatClampNeg)))) 8 (upd (a 8) (sc 8).toNatClampNeg (tm (sc 0) 1 (pw (sc 0) 32 r1 1 4)))) xA xB (upq (upq lq 0 (vp_updL (lq 0) (sc 8).toNatClampNeg ((tm (sc 0) (pw (sc 0) 32 (c1 + 1) 1 4) (pw (sc 0) 32 r1 1 (sc 2))).toInt64))) 1 (vp_updL (lq 1) (sc 8).toNatClampNeg (dg (dg (dg (dg (cho (lq 1) (sc 8) (sc 8 - 1)) ((2 : Int32).toInt64)) (((xs (z + 1).toNatClampNeg)).toInt64)) ((tm (sc 0) 1 (pw (sc 0) 32 r1 1 4) : Int32).toInt64)) ((tm (sc 0) (pw (sc 0) 32 (c1 + 1) 1 4) (pw (sc 0) 32 r1 1 (sc 2))).toInt64))))) ++ (LWr cA mo w (upd sc 8 (sc 8 + 1)) (upr (upr (upr (upr (upr (upr (upr (upr a 10 (upd (a 10) (xs (z + 1).toNatClampNeg).toNatClampNeg (tm (sc 0) 1 (pw (sc 0) 32 r1 1 4)))) 11 (upd (a 11) (xs (z + 1).toNatClampNeg).toNatClampNeg (tm (sc 0) (pw (sc 0) 32 (c1 + 1) 1 4) (pw (sc 0) 32 r1 1 (sc 2))))) 31 (upd (a 31) (xs (z + 1).toNatClampNeg).toNatClampNeg (vp_nar .boolean 1))) 32 (upd (a 32) (xs (z + 1).toNatClampNeg).toNatClampNeg (tm (sc 0) 1 (pw (sc 0) 32 r1 1 4)))) 33 (upd (a 33) (xs (z + 1).toNatClampNeg).toNatClampNeg (tm (sc 0) (pw (sc 0) 32 (c1 + 1) 1 4) (pw (sc 0) 32 r1 1 (sc 2))))) 6 (upd (a 6) (sc 8).toNatClampNeg (2))) 7 (upd (a 7) (sc 8).toNatClampNeg ((xs (z + 1).toNatClampNeg)))) 8 (upd (a 8) (sc 8).toNatClampNeg (tm (sc 0) 1 (pw (sc 0) 32 r1 1 4)))) (upq (upq lq 0 (vp_updL (lq 0) (sc 8).toNatClampNeg ((tm (sc 0) (pw (sc 0) 32 (c1 + 1) 1 4) (pw (sc 0) 32 r1 1 (sc 2))).toInt64))) 1 (vp_updL (lq 1) (sc 8).toNatClampNeg (dg (dg (dg (dg (cho (lq 1) (sc 8) (sc 8 - 1)) ((2 : Int32).toInt64)) (((xs (z + 1).toNatClampNeg)).toInt64)) ((tm (sc 0) 1 (pw (sc 0) 32 r1 1 4) : Int32).toInt64)) ((tm (sc 0) (pw (sc 0) 32 (c1 + 1) 1 4) (pw (sc 0) 32 r1 1 (sc 2))).toInt64))))))) (ads := LAd xo u mo w) (wn_V (As := [.int (xs (z + 1).toNatClampNeg), .int (xs (z + 2).toNatClampNeg), .int (xs (z + 3).toNatClampNeg)]) (rest := []) (ci := 7) (fs := [.int (sc 0), .int (sc 1), .int (sc 3), .int (sc 4), .int (sc 5), .ref (w 0), .int (sc 7), .int (sc 2), .int (sc 6), .ref (w 1), .ref (w 2), .ref (w 3), .int (sc 9), .ref (w 4), .ref (w 5), .ref (w 6), .ref (w 7), .int (sc 17), .ref (w 8), .ref (w 9), .ref (w 10), .ref (w 11), .ref (w 12), .ref (w 13), .ref (w 14), .ref (w 15), .int (sc 10), .int (sc 11), .int (sc 14), .int (sc 12), .int (sc 16), .int (sc 18), .ref (w 16), .ref (w 17), .ref (w 18), .ref (w 19), .int (sc 13), .ref (w 20), .int (sc 8), .ref (w 21), .ref (w 22), .ref (w 23), .ref (w 24), .ref (w 25)]) ⟨hx, hb, hml, hown, hts⟩ (c_X8_cast_ok l D cA mo (sc 0) (sc 1) (sc 3) (sc 4) (sc 5) (w 0) (sc 7) (sc 2) (sc 6) (w 1) (w 2) (w 3) (sc 9) (w 4) (w 5) (w 6) (w 7) (sc 17) (w 8) (w 9) (w 10) (w 11) (w 12) (w 13) (w 14) (w 15) (sc 10) (sc 11) (sc 14) (sc 12) (sc 16) (sc 18) (w 16) (w 17) (w 18) (w 19) (sc 13) (w 20) (sc 8) (w 21) (w 22) (w 23) (w 24) (w 25) (xs (z + 1).toNatClampNeg) (xs (z + 2).toNatClampNeg) (xs (z + 3).toNatClampNeg) v0 q0 c0 p0 w1 c1 r1 n0 (a 31) (a 32) (a 33) (a 6) (a 7) (a 8) (lq 0) (lq 1) hc e6.1 e6.2 e1 ⟨by omega, by omega⟩ e3 ⟨by omega, by omega⟩ e0 ⟨by omega, by omega⟩ ew (by omega) ec (by omega) er (by omega) e8.1 h6) rfl (cwV 3 hts gL_law_X8_cast rfl rfl rfl (by decide +kernel) ⟨Nat.le_of_ble_eq_true rfl, Nat.le_of_ble_eq_true rfl⟩) hK hP hD [52, 54, 55, 56, 74, 75, 76, 77, 78] rfl (by decide) rfl rfl rfl hl.1 rfl (Nat.le_of_ble_eq_true rfl) dL_law_267 ⟨by decide +kernel, by decide +kernel⟩) hP hD hS [52, 54, 55, 56, 74, 75, 76, 77, 78] [0, 1, 2, 3, 4, 5, 6, 7, 8, 9, 10, 11, 12, 13, 14, 15, 16, 17, 18, 19, 20, 21, 22, 23, 24, 25, 26, 27, 28, 29, 30, 31, 32, 33, 34, 35, 36, 37, 38, 39, 40, 41, 42, 43, 44, 45, 46, 47, 48, 49, 50, 51, 53, 57, 58, 59, 60, 61, 62, 63, 64, 65, 66, 67, 68, 69, 70, 71, 72, 73] rfl rfl rfl rfl rfl rfl rfl (fun H locs hP hD hS => ?_)
    refine lv_pop2_2 hx hb dL_law_270 rfl ?_
    refine lv_goto (tgt := 745) hx hb dL_law_271 (by decide) ?_
    refine lv_iinc (v := (z + 4)) (lv' := [(3, .int (z + 4)), (0, .ref b), (1, .ref xo), (2, .ref mo)]) hx hb dL_law_745 (lv_sub hl [0, 1, 2, 3] rfl) (k := 3) rfl rfl (by decide) rfl (fun ls hl => ?_)
    refine lv_goto (tgt := 58) hx hb dL_law_748 (by decide) ?_
    exact ih (J_post (y := tm (sc 0) (pw (sc 0) 32 (c1 + 1) 1 4) (pw (sc 0) 32 r1 1 (sc 2))) h ew (by omega) (tm_r2 (rng_1 e0 (by omega) (by omega)) (pw_rng e0 ⟨by omega, by omega⟩ r1 4))) hP hD hS (lv_sub hl [1, 2, 3, 0] rfl)
  · skip
    refine lv_aload_n hx hb dL_law_231 rfl (lv_at hl 1 rfl) ?_
    refine lv_aload_n hx hb dL_law_232 rfl (lv_at hl 0 rfl) ?_
    refine lv_iload_n hx hb dL_law_233 rfl (lv_at hl 3 rfl) ?_
    refine lv_iconst (v := 1) hx hb dL_law_234 (by decide) ?_
    refine lv_iadd hx hb dL_law_235 ?_
    refine va_sld hx hb hXs hbl hbA hS (sc_in (k := 1) hz hL hkk (by omega) c_63) dL_law_236 ?_
    refine lv_aload_n hx hb dL_law_237 rfl (lv_at hl 0 rfl) ?_
    refine lv_iload_n hx hb dL_law_238 rfl (lv_at hl 3 rfl) ?_
    refine lv_iconst (v := 2) hx hb dL_law_239 (by decide) ?_
    refine lv_iadd hx hb dL_law_240 ?_
    refine va_sld hx hb hXs hbl hbA hS (sc_in (k := 2) hz hL hkk (by omega) c_63) dL_law_241 ?_
    refine lv_aload_n hx hb dL_law_242 rfl (lv_at hl 0 rfl) ?_
    refine lv_iload_n hx hb dL_law_243 rfl (lv_at hl 3 rfl) ?_
    refine lv_iconst (v := 3) hx hb dL_law_244 (by decide) ?_
    refine lv_iadd hx hb dL_law_245 ?_
    refine va_sld hx hb hXs hbl hbA hS (sc_in (k := 3) hz hL hkk (by omega) c_63) dL_law_246 ?_
    refine rq_call1 (v := .long 0) (rn_V (As := [.int (xs (z + 1).toNatClampNeg), .int (xs (z + 2).toNatClampNeg), .int (xs (z + 3).toNatClampNeg)]) (rest := []) (ci := 6) (fs := [.ref (u 0), .ref (u 1), .ref (u 2), .int (sc 3), .ref (u 3), .ref (u 4), .ref (u 5), .ref (u 6), .ref (u 7), .ref (u 8), .ref (u 9), .ref (u 10), .int (sc 7), .int (sc 6), .int (sc 9), .int (sc 10), .int (sc 15), .int (sc 11), .int (sc 12), .int (sc 14)]) ⟨hx, hb, hml, hown, hts⟩ (c_X7_cast_no l D cA xo (u 0) (u 1) (u 2) (sc 3) (u 3) (u 4) (u 5) (u 6) (u 7) (u 8) (u 9) (u 10) (sc 7) (sc 6) (sc 9) (sc 10) (sc 15) (sc 11) (sc 12) (sc 14) (sc 0) (sc 1) (sc 2) (u 15) (u 16) (u 17) (u 18) (u 19) (sc 8) (xs (z + 1).toNatClampNeg) (xs (z + 2).toNatClampNeg) (xs (z + 3).toNatClampNeg) hc) rfl (cwV 3 hts gL_law_X7_cast rfl rfl rfl (by decide +kernel) ⟨Nat.le_of_ble_eq_true rfl, Nat.le_of_ble_eq_true rfl⟩) hK hP [0, 1, 7] rfl rfl rfl hl.1 rfl (Nat.le_of_ble_eq_true rfl) dL_law_247 ⟨by decide +kernel, by decide +kernel⟩) ?_
    refine lv_pop2_2 hx hb dL_law_250 rfl ?_
    refine lv_aload_n hx hb dL_law_251 rfl (lv_at hl 2 rfl) ?_
    refine lv_aload_n hx hb dL_law_252 rfl (lv_at hl 0 rfl) ?_
    refine lv_iload_n hx hb dL_law_253 rfl (lv_at hl 3 rfl) ?_
    refine lv_iconst (v := 1) hx hb dL_law_254 (by decide) ?_
    refine lv_iadd hx hb dL_law_255 ?_
    refine va_sld hx hb hXs hbl hbA hS (sc_in (k := 1) hz hL hkk (by omega) c_63) dL_law_256 ?_
    refine lv_aload_n hx hb dL_law_257 rfl (lv_at hl 0 rfl) ?_
    refine lv_iload_n hx hb dL_law_258 rfl (lv_at hl 3 rfl) ?_
    refine lv_iconst (v := 2) hx hb dL_law_259 (by decide) ?_
    refine lv_iadd hx hb dL_law_260 ?_
    refine va_sld hx hb hXs hbl hbA hS (sc_in (k := 2) hz hL hkk (by omega) c_63) dL_law_261 ?_
    refine lv_aload_n hx hb dL_law_262 rfl (lv_at hl 0 rfl) ?_
    refine lv_iload_n hx hb dL_law_263 rfl (lv_at hl 3 rfl) ?_
    refine lv_iconst (v := 3) hx hb dL_law_264 (by decide) ?_
    refine lv_iadd hx hb dL_law_265 ?_
    refine va_sld hx hb hXs hbl hbA hS (sc_in (k := 3) hz hL hkk (by omega) c_63) dL_law_266 ?_
    refine rq_call1 (v := .long 0) (rn_V (As := [.int (xs (z + 1).toNatClampNeg), .int (xs (z + 2).toNatClampNeg), .int (xs (z + 3).toNatClampNeg)]) (rest := []) (ci := 7) (fs := [.int (sc 0), .int (sc 1), .int (sc 3), .int (sc 4), .int (sc 5), .ref (w 0), .int (sc 7), .int (sc 2), .int (sc 6), .ref (w 1), .ref (w 2), .ref (w 3), .int (sc 9), .ref (w 4), .ref (w 5), .ref (w 6), .ref (w 7), .int (sc 17), .ref (w 8), .ref (w 9), .ref (w 10), .ref (w 11), .ref (w 12), .ref (w 13), .ref (w 14), .ref (w 15), .int (sc 10), .int (sc 11), .int (sc 14), .int (sc 12), .int (sc 16), .int (sc 18), .ref (w 16), .ref (w 17), .ref (w 18), .ref (w 19), .int (sc 13), .ref (w 20), .int (sc 8), .ref (w 21), .ref (w 22), .ref (w 23), .ref (w 24), .ref (w 25)]) ⟨hx, hb, hml, hown, hts⟩ (c_X8_cast_no l D cA mo (sc 0) (sc 1) (sc 3) (sc 4) (sc 5) (w 0) (sc 7) (sc 2) (sc 6) (w 1) (w 2) (w 3) (sc 9) (w 4) (w 5) (w 6) (w 7) (sc 17) (w 8) (w 9) (w 10) (w 11) (w 12) (w 13) (w 14) (w 15) (sc 10) (sc 11) (sc 14) (sc 12) (sc 16) (sc 18) (w 16) (w 17) (w 18) (w 19) (sc 13) (w 20) (sc 8) (w 21) (w 22) (w 23) (w 24) (w 25) (xs (z + 1).toNatClampNeg) (xs (z + 2).toNatClampNeg) (xs (z + 3).toNatClampNeg) v0 q0 c0 hc e6.1 e6.2 e1 ⟨by omega, by omega⟩ e3 ⟨by omega, by omega⟩) rfl (cwV 3 hts gL_law_X8_cast rfl rfl rfl (by decide +kernel) ⟨Nat.le_of_ble_eq_true rfl, Nat.le_of_ble_eq_true rfl⟩) hK hP [52] rfl rfl rfl hl.1 rfl (Nat.le_of_ble_eq_true rfl) dL_law_267 ⟨by decide +kernel, by decide +kernel⟩) ?_
    refine lv_pop2_2 hx hb dL_law_270 rfl ?_
    refine lv_goto (tgt := 745) hx hb dL_law_271 (by decide) ?_
    refine lv_iinc (v := (z + 4)) (lv' := [(3, .int (z + 4)), (0, .ref b), (1, .ref xo), (2, .ref mo)]) hx hb dL_law_745 (lv_sub hl [0, 1, 2, 3] rfl) (k := 3) rfl rfl (by decide) rfl (fun ls hl => ?_)
    refine lv_goto (tgt := 58) hx hb dL_law_748 (by decide) ?_
    exact ih (J_same h) hP hD hS (lv_sub hl [1, 2, 3, 0] rfl)
set_option maxHeartbeats 16000000 in
set_option maxRecDepth 100000 in
/-- castPair -/
theorem law_4 {p : Program} {l : Launch} {e : Env} {s : State} {m : MethodId} {below : List Frame} {meth : Method} {c : Code} {b L : Nat} {xs : Nat → Int32} {D : va_G} {cA : Nat → ClassId} {A : Nat → Prop} {p0 q0 c0 t0 k0 kk v0 st0 n0 b0 mx ro rj mw un : Nat} {xo mo : Nat} {u w : Nat → Nat} {sc : Nat → Int32} {a xA xB g : Nat → Nat → Int32} {lq : Nat → Nat → Int64} {H : Heap} {locs : List Loc} {ls : Array Slot} {z : Int32} (hx : p.tables.exec = Jvm.exec) (hb : c.code = cL_law) (hml : c.maxLocals = 4) (hown : s.vm.findClass RL = some m.cls) (hts : ∀ w ∈ wsL_law, w.before #[Value.ref b] s = true) (hXs : va_X b L xs s s.heap) (hbl : b < s.heap.size) (hbA : ¬ A b) (hK : va_K D vwCl (tyS cA) s) (h : JJ p0 q0 c0 t0 k0 kk v0 st0 n0 b0 mx ro rj mw un sc a xA xB g) (hP : va_P D vwCl (((LWc cA xo u c0 t0 k0 sc a xA xB lq) ++ (LWr cA mo w sc a lq)) ++ (rwT cA (u 51) g (t0 + 1))) H) (hD : va_D A (((LWc cA xo u c0 t0 k0 sc a xA xB lq) ++ (LWr cA mo w sc a lq)) ++ (rwT cA (u 51) g (t0 + 1)))) (hS : va_S A s.heap H locs) (hl : lv_has ls 4 [(0, .ref b), (1, .ref xo), (2, .ref mo), (3, .int z)]) (hz : z = nI (4 + 4 * kk)) (hL : L ≤ 2052) (hkk : kk ≤ 512) (hk5 : kk < 512) (c_63 : ¬ Int32.ofNat L - 4 < z) (ih : ∀ {v0 st0 n0 b0 mx ro rj mw un : Nat} {sc : Nat → Int32} {a xA xB g : Nat → Nat → Int32} {lq : Nat → Nat → Int64}, JJ p0 q0 c0 t0 k0 (kk + 1) v0 st0 n0 b0 mx ro rj mw un sc a xA xB g → ∀ {H : Heap} {locs : List Loc}, va_P D vwCl ((LWc cA xo u c0 t0 k0 sc a xA xB lq ++ LWr cA mo w sc a lq) ++ rwT cA (u 51) g (t0 + 1)) H → va_D A ((LWc cA xo u c0 t0 k0 sc a xA xB lq ++ LWr cA mo w sc a lq) ++ rwT cA (u 51) g (t0 + 1)) → va_S A s.heap H locs → ∀ {ls : Array Slot}, lv_has ls 4 [(0, .ref b), (1, .ref xo), (2, .ref mo), (3, .int (z + 4))] → W p l e room_1 s m #[Value.ref b] below meth c H locs 85 8608 (lw_Z below #[Value.ref b] s) (F0 m 58 ls [])) : W p l e room_1 s m #[Value.ref b] below meth c H locs 85 8608 (lw_Z below #[Value.ref b] s) (F0 m 274 ls []) := by
  have hcst := jj_cst h
  have e0 := jj_e0 h
  have e1 := jj_e1 h
  have e3 := jj_e3 h
  have e4 := jj_e4 h
  have e5 := jj_e5 h
  have e6 := jj_e6 h
  have e7 := jj_e7 h
  have e8 := jj_e8 h
  have e9 := jj_e9 h
  have e10 := jj_e10 h
  have e11 := jj_e11 h
  have hgp : 0 < sc 0 := iv_p e0 (by omega) (by omega)
  have hgq : 0 < sc 1 := iv_p e1 (by omega) (by omega)
  have h6 : n0 < 600 := by omega
  by_cases hc : (sc 7 = 1 ∧ 0 ≤ (xs (z + 1).toNatClampNeg) ∧ (xs (z + 1).toNatClampNeg) < sc 6 ∧ sc 8 < 500) ∧ (1 ≤ (xs (z + 2).toNatClampNeg) ∧ (xs (z + 2).toNatClampNeg) < sc 0 ∧ pw (sc 0) 32 q0 1 (xs (z + 2).toNatClampNeg) = 1) ∧ (1 ≤ (xs (z + 3).toNatClampNeg) ∧ (xs (z + 3).toNatClampNeg) < sc 0 ∧ pw (sc 0) 32 q0 1 (xs (z + 3).toNatClampNeg) = 1)
  · skip
    obtain ⟨w1, hw1, ew⟩ := bx_g ⟨hc.1.2.1, hc.1.2.2.1⟩ e6.1 (by omega)
    refine lv_aload_n hx hb dL_law_274 rfl (lv_at hl 1 rfl) ?_
    refine lv_aload_n hx hb dL_law_275 rfl (lv_at hl 0 rfl) ?_
    refine lv_iload_n hx hb dL_law_276 rfl (lv_at hl 3 rfl) ?_
    refine lv_iconst (v := 1) hx hb dL_law_277 (by decide) ?_
    refine lv_iadd hx hb dL_law_278 ?_
    refine va_sld hx hb hXs hbl hbA hS (sc_in (k := 1) hz hL hkk (by omega) c_63) dL_law_279 ?_
    refine lv_aload_n hx hb dL_law_280 rfl (lv_at hl 0 rfl) ?_
    refine lv_iload_n hx hb dL_law_281 rfl (lv_at hl 3 rfl) ?_
    refine lv_iconst (v := 2) hx hb dL_law_282 (by decide) ?_
    refine lv_iadd hx hb dL_law_283 ?_
    refine va_sld hx hb hXs hbl hbA hS (sc_in (k := 2) hz hL hkk (by omega) c_63) dL_law_284 ?_
    refine lv_aload_n hx hb dL_law_285 rfl (lv_at hl 0 rfl) ?_
    refine lv_iload_n hx hb dL_law_286 rfl (lv_at hl 3 rfl) ?_
    refine lv_iconst (v := 3) hx hb dL_law_287 (by decide) ?_
    refine lv_iadd hx hb dL_law_288 ?_
    refine va_sld hx hb hXs hbl hbA hS (sc_in (k := 3) hz hL hkk (by omega) c_63) dL_law_289 ?_
    refine wt_callM1 (v := .long (dg (dg (dg (dg (cho (lq 1) (sc 8) ((sc 8) - 1)) ((2 : Int32).toInt64)) ((xs (z + 1).toNatClampNeg).toInt64)) ((xs (z + 2).toNatClampNeg).toInt64)) (xs (z + 3).toNatClampNeg).toInt64)) (X' := ((LWc cA xo u c0 t0 k0 (upd sc 8 (sc 8 + 1)) (upr (upr (upr (upr (upr (upr (upr (upr a 10 (upd (a 10) (xs (z + 1).toNatClampNeg).toNatClampNeg ((xs (z + 2).toNatClampNeg)))) 11 (upd (a 11) (xs (z + 1).toNatClampNeg).toNatClampNeg ((xs (z + 3).toNatClampNeg)))) 31 (upd (a 31) (xs (z + 1).toNatClampNeg).toNatClampNeg (vp_nar .boolean 1))) 32 (upd (a 32) (xs (z + 1).toNatClampNeg).toNatClampNeg ((xs (z + 2).toNatClampNeg)))) 33 (upd (a 33) (xs (z + 1).toNatClampNeg).toNatClampNeg ((xs (z + 3).toNatClampNeg)))) 6 (upd (a 6) (sc 8).toNatClampNeg (2))) 7 (upd (a 7) (sc 8).toNatClampNeg ((xs (z + 1).toNatClampNeg)))) 8 (upd (a 8) (sc 8).toNatClampNeg ((xs (z + 2).toNatClampNeg)))) xA xB (upq (upq lq 0 (vp_updL (lq 0) (sc 8).toNatClampNeg (((xs (z + 3).toNatClampNeg)).toInt64))) 1 (vp_updL (lq 1) (sc 8).toNatClampNeg (dg (dg (dg (dg (cho (lq 1) (sc 8) (sc 8 - 1)) ((2 : Int32).toInt64)) (((xs (z + 1).toNatClampNeg)).toInt64)) (((xs (z + 2).toNatClampNeg) : Int32).toInt64)) (((xs (z + 3).toNatClampNeg)).toInt64))))) ++ (LWr cA mo w sc a lq))) (ads := LAd xo u mo w) (wn_V (As := [.int (xs (z + 1).toNatClampNeg), .int (xs (z + 2).toNatClampNeg), .int (xs (z + 3).toNatClampNeg)]) (rest := []) (ci := 6) (fs := [.ref (u 0), .ref (u 1), .ref (u 2), .int (sc 3), .ref (u 3), .ref (u 4), .ref (u 5), .ref (u 6), .ref (u 7), .ref (u 8), .ref (u 9), .ref (u 10), .int (sc 7), .int (sc 6), .int (sc 9), .int (sc 10), .int (sc 15), .int (sc 11), .int (sc 12), .int (sc 14)]) ⟨hx, hb, hml, hown, hts⟩ (c_X7_castPair_ok l D cA xo (u 0) (u 1) (u 2) (sc 3) (u 3) (u 4) (u 5) (u 6) (u 7) (u 8) (u 9) (u 10) (sc 7) (sc 6) (sc 9) (sc 10) (sc 15) (sc 11) (sc 12) (sc 14) (sc 0) (sc 1) (sc 2) (u 15) (u 16) (u 17) (u 18) (u 19) (sc 8) (xs (z + 1).toNatClampNeg) (xs (z + 2).toNatClampNeg) (xs (z + 3).toNatClampNeg) (u 20) (u 21) (a 10) (a 11) (a 6) (a 7) (a 8) (lq 0) (lq 1) w1 n0 q0 hc ew (by omega) e8.1 h6 e1 (by omega) hgp) rfl (cwV 3 hts gL_law_X7_castPair rfl rfl rfl (by decide +kernel) ⟨Nat.le_of_ble_eq_true rfl, Nat.le_of_ble_eq_true rfl⟩) hK hP hD [0, 1, 13, 14, 15, 7, 8, 9, 10, 11, 12] rfl (by decide) rfl rfl rfl hl.1 rfl (Nat.le_of_ble_eq_true rfl) dL_law_290 ⟨by decide +kernel, by decide +kernel⟩) hP hD hS [0, 1, 13, 14, 15, 7, 8, 9, 10, 11, 12] [2, 3, 4, 5, 6, 16, 17, 18, 19, 20, 21, 22, 23, 24, 25, 26, 27, 28, 29, 30, 31, 32, 33, 34, 35, 36, 37, 38, 39, 40, 41, 42, 43, 44, 45, 46, 47, 48, 49, 50, 51, 52, 53, 54, 55, 56, 57, 58, 59, 60, 61, 62, 63, 64, 65, 66, 67, 68, 69, 70, 71, 72, 73, 74, 75, 76, 77, 78] rfl rfl rfl rfl rfl rfl rfl (fun H locs hP hD hS => ?_)
    refine lv_pop2_2 hx hb dL_law_293 rfl ?_
    refine lv_aload_n hx hb dL_law_294 rfl (lv_at hl 2 rfl) ?_
    refine lv_aload_n hx hb dL_law_295 rfl (lv_at hl 0 rfl) ?_
    refine lv_iload_n hx hb dL_law_296 rfl (lv_at hl 3 rfl) ?_
    refine lv_iconst (v := 1) hx hb dL_law_297 (by decide) ?_
    refine lv_iadd hx hb dL_law_298 ?_
    refine va_sld hx hb hXs hbl hbA hS (sc_in (k := 1) hz hL hkk (by omega) c_63) dL_law_299 ?_
    refine lv_aload_n hx hb dL_law_300 rfl (lv_at hl 0 rfl) ?_
    refine lv_iload_n hx hb dL_law_301 rfl (lv_at hl 3 rfl) ?_
    refine lv_iconst (v := 2) hx hb dL_law_302 (by decide) ?_
    refine lv_iadd hx hb dL_law_303 ?_
    refine va_sld hx hb hXs hbl hbA hS (sc_in (k := 2) hz hL hkk (by omega) c_63) dL_law_304 ?_
    refine lv_aload_n hx hb dL_law_305 rfl (lv_at hl 0 rfl) ?_
    refine lv_iload_n hx hb dL_law_306 rfl (lv_at hl 3 rfl) ?_
    refine lv_iconst (v := 3) hx hb dL_law_307 (by decide) ?_
    refine lv_iadd hx hb dL_law_308 ?_
    refine va_sld hx hb hXs hbl hbA hS (sc_in (k := 3) hz hL hkk (by omega) c_63) dL_law_309 ?_
    refine wt_callM1 (v := .long (dg (dg (dg (dg (cho (lq 1) (sc 8) ((sc 8) - 1)) ((2 : Int32).toInt64)) ((xs (z + 1).toNatClampNeg).toInt64)) ((xs (z + 2).toNatClampNeg).toInt64)) (xs (z + 3).toNatClampNeg).toInt64)) (X' := ((LWc cA xo u c0 t0 k0 (upd sc 8 (sc 8 + 1)) (upr (upr (upr (upr (upr (upr (upr (upr a 10 (upd (a 10) (xs (z + 1).toNatClampNeg).toNatClampNeg ((xs (z + 2).toNatClampNeg)))) 11 (upd (a 11) (xs (z + 1).toNatClampNeg).toNatClampNeg ((xs (z + 3).toNatClampNeg)))) 31 (upd (a 31) (xs (z + 1).toNatClampNeg).toNatClampNeg (vp_nar .boolean 1))) 32 (upd (a 32) (xs (z + 1).toNatClampNeg).toNatClampNeg ((xs (z + 2).toNatClampNeg)))) 33 (upd (a 33) (xs (z + 1).toNatClampNeg).toNatClampNeg ((xs (z + 3).toNatClampNeg)))) 6 (upd (a 6) (sc 8).toNatClampNeg (2))) 7 (upd (a 7) (sc 8).toNatClampNeg ((xs (z + 1).toNatClampNeg)))) 8 (upd (a 8) (sc 8).toNatClampNeg ((xs (z + 2).toNatClampNeg)))) xA xB (upq (upq lq 0 (vp_updL (lq 0) (sc 8).toNatClampNeg (((xs (z + 3).toNatClampNeg)).toInt64))) 1 (vp_updL (lq 1) (sc 8).toNatClampNeg (dg (dg (dg (dg (cho (lq 1) (sc 8) (sc 8 - 1)) ((2 : Int32).toInt64)) (((xs (z + 1).toNatClampNeg)).toInt64)) (((xs (z + 2).toNatClampNeg) : Int32).toInt64)) (((xs (z + 3).toNatClampNeg)).toInt64))))) ++ (LWr cA mo w (upd sc 8 (sc 8 + 1)) (upr (upr (upr (upr (upr (upr (upr (upr a 10 (upd (a 10) (xs (z + 1).toNatClampNeg).toNatClampNeg ((xs (z + 2).toNatClampNeg)))) 11 (upd (a 11) (xs (z + 1).toNatClampNeg).toNatClampNeg ((xs (z + 3).toNatClampNeg)))) 31 (upd (a 31) (xs (z + 1).toNatClampNeg).toNatClampNeg (vp_nar .boolean 1))) 32 (upd (a 32) (xs (z + 1).toNatClampNeg).toNatClampNeg ((xs (z + 2).toNatClampNeg)))) 33 (upd (a 33) (xs (z + 1).toNatClampNeg).toNatClampNeg ((xs (z + 3).toNatClampNeg)))) 6 (upd (a 6) (sc 8).toNatClampNeg (2))) 7 (upd (a 7) (sc 8).toNatClampNeg ((xs (z + 1).toNatClampNeg)))) 8 (upd (a 8) (sc 8).toNatClampNeg ((xs (z + 2).toNatClampNeg)))) (upq (upq lq 0 (vp_updL (lq 0) (sc 8).toNatClampNeg (((xs (z + 3).toNatClampNeg)).toInt64))) 1 (vp_updL (lq 1) (sc 8).toNatClampNeg (dg (dg (dg (dg (cho (lq 1) (sc 8) (sc 8 - 1)) ((2 : Int32).toInt64)) (((xs (z + 1).toNatClampNeg)).toInt64)) (((xs (z + 2).toNatClampNeg) : Int32).toInt64)) (((xs (z + 3).toNatClampNeg)).toInt64))))))) (ads := LAd xo u mo w) (wn_V (As := [.int (xs (z + 1).toNatClampNeg), .int (xs (z + 2).toNatClampNeg), .int (xs (z + 3).toNatClampNeg)]) (rest := []) (ci := 7) (fs := [.int (sc 0), .int (sc 1), .int (sc 3), .int (sc 4), .int (sc 5), .ref (w 0), .int (sc 7), .int (sc 2), .int (sc 6), .ref (w 1), .ref (w 2), .ref (w 3), .int (sc 9), .ref (w 4), .ref (w 5), .ref (w 6), .ref (w 7), .int (sc 17), .ref (w 8), .ref (w 9), .ref (w 10), .ref (w 11), .ref (w 12), .ref (w 13), .ref (w 14), .ref (w 15), .int (sc 10), .int (sc 11), .int (sc 14), .int (sc 12), .int (sc 16), .int (sc 18), .ref (w 16), .ref (w 17), .ref (w 18), .ref (w 19), .int (sc 13), .ref (w 20), .int (sc 8), .ref (w 21), .ref (w 22), .ref (w 23), .ref (w 24), .ref (w 25)]) ⟨hx, hb, hml, hown, hts⟩ (c_X8_castPair_ok l D cA mo (sc 0) (sc 1) (sc 3) (sc 4) (sc 5) (w 0) (sc 7) (sc 2) (sc 6) (w 1) (w 2) (w 3) (sc 9) (w 4) (w 5) (w 6) (w 7) (sc 17) (w 8) (w 9) (w 10) (w 11) (w 12) (w 13) (w 14) (w 15) (sc 10) (sc 11) (sc 14) (sc 12) (sc 16) (sc 18) (w 16) (w 17) (w 18) (w 19) (sc 13) (w 20) (sc 8) (w 21) (w 22) (w 23) (w 24) (w 25) (xs (z + 1).toNatClampNeg) (xs (z + 2).toNatClampNeg) (xs (z + 3).toNatClampNeg) v0 q0 p0 w1 n0 (a 31) (a 32) (a 33) (a 6) (a 7) (a 8) (lq 0) (lq 1) hc e6.1 e6.2 e1 ⟨by omega, by omega⟩ e0 ⟨by omega, by omega⟩ ew (by omega) e8.1 h6) rfl (cwV 3 hts gL_law_X8_castPair rfl rfl rfl (by decide +kernel) ⟨Nat.le_of_ble_eq_true rfl, Nat.le_of_ble_eq_true rfl⟩) hK hP hD [52, 54, 55, 56, 74, 75, 76, 77, 78] rfl (by decide) rfl rfl rfl hl.1 rfl (Nat.le_of_ble_eq_true rfl) dL_law_310 ⟨by decide +kernel, by decide +kernel⟩) hP hD hS [52, 54, 55, 56, 74, 75, 76, 77, 78] [0, 1, 2, 3, 4, 5, 6, 7, 8, 9, 10, 11, 12, 13, 14, 15, 16, 17, 18, 19, 20, 21, 22, 23, 24, 25, 26, 27, 28, 29, 30, 31, 32, 33, 34, 35, 36, 37, 38, 39, 40, 41, 42, 43, 44, 45, 46, 47, 48, 49, 50, 51, 53, 57, 58, 59, 60, 61, 62, 63, 64, 65, 66, 67, 68, 69, 70, 71, 72, 73] rfl rfl rfl rfl rfl rfl rfl (fun H locs hP hD hS => ?_)
    refine lv_pop2_2 hx hb dL_law_313 rfl ?_
    refine lv_goto (tgt := 745) hx hb dL_law_314 (by decide) ?_
    refine lv_iinc (v := (z + 4)) (lv' := [(3, .int (z + 4)), (0, .ref b), (1, .ref xo), (2, .ref mo)]) hx hb dL_law_745 (lv_sub hl [0, 1, 2, 3] rfl) (k := 3) rfl rfl (by decide) rfl (fun ls hl => ?_)
    refine lv_goto (tgt := 58) hx hb dL_law_748 (by decide) ?_
    exact ih (J_post (y := (xs (z + 3).toNatClampNeg)) h ew (by omega) (rng_of ⟨hc.2.1.1, hc.2.1.2.1⟩ e0 (by omega))) hP hD hS (lv_sub hl [1, 2, 3, 0] rfl)
  · skip
    refine lv_aload_n hx hb dL_law_274 rfl (lv_at hl 1 rfl) ?_
    refine lv_aload_n hx hb dL_law_275 rfl (lv_at hl 0 rfl) ?_
    refine lv_iload_n hx hb dL_law_276 rfl (lv_at hl 3 rfl) ?_
    refine lv_iconst (v := 1) hx hb dL_law_277 (by decide) ?_
    refine lv_iadd hx hb dL_law_278 ?_
    refine va_sld hx hb hXs hbl hbA hS (sc_in (k := 1) hz hL hkk (by omega) c_63) dL_law_279 ?_
    refine lv_aload_n hx hb dL_law_280 rfl (lv_at hl 0 rfl) ?_
    refine lv_iload_n hx hb dL_law_281 rfl (lv_at hl 3 rfl) ?_
    refine lv_iconst (v := 2) hx hb dL_law_282 (by decide) ?_
    refine lv_iadd hx hb dL_law_283 ?_
    refine va_sld hx hb hXs hbl hbA hS (sc_in (k := 2) hz hL hkk (by omega) c_63) dL_law_284 ?_
    refine lv_aload_n hx hb dL_law_285 rfl (lv_at hl 0 rfl) ?_
    refine lv_iload_n hx hb dL_law_286 rfl (lv_at hl 3 rfl) ?_
    refine lv_iconst (v := 3) hx hb dL_law_287 (by decide) ?_
    refine lv_iadd hx hb dL_law_288 ?_
    refine va_sld hx hb hXs hbl hbA hS (sc_in (k := 3) hz hL hkk (by omega) c_63) dL_law_289 ?_
    refine rq_call1 (v := .long 0) (rn_V (As := [.int (xs (z + 1).toNatClampNeg), .int (xs (z + 2).toNatClampNeg), .int (xs (z + 3).toNatClampNeg)]) (rest := []) (ci := 6) (fs := [.ref (u 0), .ref (u 1), .ref (u 2), .int (sc 3), .ref (u 3), .ref (u 4), .ref (u 5), .ref (u 6), .ref (u 7), .ref (u 8), .ref (u 9), .ref (u 10), .int (sc 7), .int (sc 6), .int (sc 9), .int (sc 10), .int (sc 15), .int (sc 11), .int (sc 12), .int (sc 14)]) ⟨hx, hb, hml, hown, hts⟩ (c_X7_castPair_no l D cA xo (u 0) (u 1) (u 2) (sc 3) (u 3) (u 4) (u 5) (u 6) (u 7) (u 8) (u 9) (u 10) (sc 7) (sc 6) (sc 9) (sc 10) (sc 15) (sc 11) (sc 12) (sc 14) (sc 0) (sc 1) (sc 2) (u 15) (u 16) (u 17) (u 18) (u 19) (sc 8) (xs (z + 1).toNatClampNeg) (xs (z + 2).toNatClampNeg) (xs (z + 3).toNatClampNeg) q0 hc e1 (by omega) hgp) rfl (cwV 3 hts gL_law_X7_castPair rfl rfl rfl (by decide +kernel) ⟨Nat.le_of_ble_eq_true rfl, Nat.le_of_ble_eq_true rfl⟩) hK hP [0, 1, 7] rfl rfl rfl hl.1 rfl (Nat.le_of_ble_eq_true rfl) dL_law_290 ⟨by decide +kernel, by decide +kernel⟩) ?_
    refine lv_pop2_2 hx hb dL_law_293 rfl ?_
    refine lv_aload_n hx hb dL_law_294 rfl (lv_at hl 2 rfl) ?_
    refine lv_aload_n hx hb dL_law_295 rfl (lv_at hl 0 rfl) ?_
    refine lv_iload_n hx hb dL_law_296 rfl (lv_at hl 3 rfl) ?_
    refine lv_iconst (v := 1) hx hb dL_law_297 (by decide) ?_
    refine lv_iadd hx hb dL_law_298 ?_
    refine va_sld hx hb hXs hbl hbA hS (sc_in (k := 1) hz hL hkk (by omega) c_63) dL_law_299 ?_
    refine lv_aload_n hx hb dL_law_300 rfl (lv_at hl 0 rfl) ?_
    refine lv_iload_n hx hb dL_law_301 rfl (lv_at hl 3 rfl) ?_
    refine lv_iconst (v := 2) hx hb dL_law_302 (by decide) ?_
    refine lv_iadd hx hb dL_law_303 ?_
    refine va_sld hx hb hXs hbl hbA hS (sc_in (k := 2) hz hL hkk (by omega) c_63) dL_law_304 ?_
    refine lv_aload_n hx hb dL_law_305 rfl (lv_at hl 0 rfl) ?_
    refine lv_iload_n hx hb dL_law_306 rfl (lv_at hl 3 rfl) ?_
    refine lv_iconst (v := 3) hx hb dL_law_307 (by decide) ?_
    refine lv_iadd hx hb dL_law_308 ?_
    refine va_sld hx hb hXs hbl hbA hS (sc_in (k := 3) hz hL hkk (by omega) c_63) dL_law_309 ?_
    refine rq_call1 (v := .long 0) (rn_V (As := [.int (xs (z + 1).toNatClampNeg), .int (xs (z + 2).toNatClampNeg), .int (xs (z + 3).toNatClampNeg)]) (rest := []) (ci := 7) (fs := [.int (sc 0), .int (sc 1), .int (sc 3), .int (sc 4), .int (sc 5), .ref (w 0), .int (sc 7), .int (sc 2), .int (sc 6), .ref (w 1), .ref (w 2), .ref (w 3), .int (sc 9), .ref (w 4), .ref (w 5), .ref (w 6), .ref (w 7), .int (sc 17), .ref (w 8), .ref (w 9), .ref (w 10), .ref (w 11), .ref (w 12), .ref (w 13), .ref (w 14), .ref (w 15), .int (sc 10), .int (sc 11), .int (sc 14), .int (sc 12), .int (sc 16), .int (sc 18), .ref (w 16), .ref (w 17), .ref (w 18), .ref (w 19), .int (sc 13), .ref (w 20), .int (sc 8), .ref (w 21), .ref (w 22), .ref (w 23), .ref (w 24), .ref (w 25)]) ⟨hx, hb, hml, hown, hts⟩ (c_X8_castPair_no l D cA mo (sc 0) (sc 1) (sc 3) (sc 4) (sc 5) (w 0) (sc 7) (sc 2) (sc 6) (w 1) (w 2) (w 3) (sc 9) (w 4) (w 5) (w 6) (w 7) (sc 17) (w 8) (w 9) (w 10) (w 11) (w 12) (w 13) (w 14) (w 15) (sc 10) (sc 11) (sc 14) (sc 12) (sc 16) (sc 18) (w 16) (w 17) (w 18) (w 19) (sc 13) (w 20) (sc 8) (w 21) (w 22) (w 23) (w 24) (w 25) (xs (z + 1).toNatClampNeg) (xs (z + 2).toNatClampNeg) (xs (z + 3).toNatClampNeg) v0 q0 p0 hc e6.1 e6.2 e1 ⟨by omega, by omega⟩ e0 ⟨by omega, by omega⟩) rfl (cwV 3 hts gL_law_X8_castPair rfl rfl rfl (by decide +kernel) ⟨Nat.le_of_ble_eq_true rfl, Nat.le_of_ble_eq_true rfl⟩) hK hP [52] rfl rfl rfl hl.1 rfl (Nat.le_of_ble_eq_true rfl) dL_law_310 ⟨by decide +kernel, by decide +kernel⟩) ?_
    refine lv_pop2_2 hx hb dL_law_313 rfl ?_
    refine lv_goto (tgt := 745) hx hb dL_law_314 (by decide) ?_
    refine lv_iinc (v := (z + 4)) (lv' := [(3, .int (z + 4)), (0, .ref b), (1, .ref xo), (2, .ref mo)]) hx hb dL_law_745 (lv_sub hl [0, 1, 2, 3] rfl) (k := 3) rfl rfl (by decide) rfl (fun ls hl => ?_)
    refine lv_goto (tgt := 58) hx hb dL_law_748 (by decide) ?_
    exact ih (J_same h) hP hD hS (lv_sub hl [1, 2, 3, 0] rfl)
