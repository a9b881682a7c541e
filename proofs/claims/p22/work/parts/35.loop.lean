theorem sc_nx {z : Int32} {kk : Nat} (hz : z = nI (4 + 4 * kk)) : z + 4 = nI (4 + 4 * (kk + 1)) := by rw [hz]; exact nI_add _ 4
theorem sw_21 (x : Int32) : x = 0 ∨ x = 1 ∨ x = 2 ∨ x = 3 ∨ x = 4 ∨ x = 5 ∨ x = 6 ∨ x = 7 ∨ x = 8 ∨ x = 9 ∨ x = 10 ∨ x = 11 ∨ x = 12 ∨ x = 13 ∨ x = 14 ∨ x = 15 ∨ x = 16 ∨ x = 17 ∨ x = 18 ∨ x = 19 ∨ x = 20 ∨ (x.toInt < 0 ∨ 20 < x.toInt) := by
  by_cases h : x.toInt < 0 ∨ 20 < x.toInt
  · simp [h]
  · have e : x = Int32.ofInt x.toInt := (Int32.ofInt_toInt x).symm
    have h2 : x.toInt = 0 ∨ x.toInt = 1 ∨ x.toInt = 2 ∨ x.toInt = 3 ∨ x.toInt = 4 ∨ x.toInt = 5 ∨ x.toInt = 6 ∨ x.toInt = 7 ∨ x.toInt = 8 ∨ x.toInt = 9 ∨ x.toInt = 10 ∨ x.toInt = 11 ∨ x.toInt = 12 ∨ x.toInt = 13 ∨ x.toInt = 14 ∨ x.toInt = 15 ∨ x.toInt = 16 ∨ x.toInt = 17 ∨ x.toInt = 18 ∨ x.toInt = 19 ∨ x.toInt = 20 := by omega
    rcases h2 with q | q | q | q | q | q | q | q | q | q | q | q | q | q | q | q | q | q | q | q | q <;> rw [q] at e <;> rw [e] <;> decide
set_option maxHeartbeats 16000000 in
set_option maxRecDepth 100000 in
theorem law_loop {p : Program} {l : Launch} {e : Env} {s : State} {m : MethodId} {below : List Frame} {meth : Method} {c : Code} {b L : Nat} {xs : Nat → Int32} {D : va_G} {cA : Nat → ClassId} {A : Nat → Prop} {p0 q0 c0 t0 k0 : Nat} {xo mo : Nat} {u w : Nat → Nat} (hx : p.tables.exec = Jvm.exec) (hb : c.code = cL_law) (hr : meth.sig.returnType = ret) (hlocks : meth.locks = false) (hml : c.maxLocals = 4) (hown : s.vm.findClass RL = some m.cls) (hts : ∀ w ∈ wsL_law, w.before #[Value.ref b] s = true) (hXs : va_X b L xs s s.heap) (hbl : b < s.heap.size) (hbA : ¬ A b) (hA2 : ∀ q : Nat, A q → s.heap.size ≤ q) (hK : va_K D vwCl (tyS cA) s) (hL : L ≤ 2052) : ∀ (f kk : Nat) (z : Int32), z = nI (4 + 4 * kk) → 513 ≤ kk + f → kk ≤ 512 → ∀ {v0 st0 n0 b0 mx ro rj mw un : Nat} {sc : Nat → Int32} {a xA xB g : Nat → Nat → Int32} {lq : Nat → Nat → Int64}, JJ p0 q0 c0 t0 k0 kk v0 st0 n0 b0 mx ro rj mw un sc a xA xB g → ∀ {H : Heap} {locs : List Loc}, va_P D vwCl ((LWc cA xo u c0 t0 k0 sc a xA xB lq ++ LWr cA mo w sc a lq) ++ rwT cA (u 51) g (t0 + 1)) H → va_D A ((LWc cA xo u c0 t0 k0 sc a xA xB lq ++ LWr cA mo w sc a lq) ++ rwT cA (u 51) g (t0 + 1)) → va_S A s.heap H locs → ∀ {ls : Array Slot}, lv_has ls 4 [(0, .ref b), (1, .ref xo), (2, .ref mo), (3, .int z)] → W p l e room_1 s m #[Value.ref b] below meth c H locs 85 8608 (lw_Z below #[Value.ref b] s) (F0 m 58 ls []) := by
  intro f
  induction f with
  | zero =>
    intro kk z hz h1 h2
    omega
  | succ f ih0 =>
    intro kk z hz h1 hkk v0 st0 n0 b0 mx ro rj mw un sc a xA xB g lq h H locs hP hD hS ls hl
    refine lv_iload_n hx hb dL_law_58 rfl (lv_at hl 3 rfl) ?_
    refine lv_aload_n hx hb dL_law_59 rfl (lv_at hl 0 rfl) ?_
    refine va_slen hx hb hXs hbl hbA hS dL_law_60 ?_
    refine lv_iconst (v := 4) hx hb dL_law_61 (by decide) ?_
    refine lv_isub hx hb dL_law_62 ?_
    refine lv_icmp_gt (tgt := 752) hx hb dL_law_63 (by decide) (fun c_63 => ?_) (fun c_63 => ?_)
    · refine lv_iconst (v := 1) hx hb dL_law_752 (by decide) ?_
      refine va_forget (fun q hq => hA2 _ (hS.2.2 q hq)) ?_
      refine W.widen (k := 600000) (n := 7302250) (by omega) (by omega) ?_
      exact lw_ret hx hb hr hlocks dL_law_753
    · have hk5 := sc_kk hz hL hkk c_63
      have ih : ∀ {v0 st0 n0 b0 mx ro rj mw un : Nat} {sc : Nat → Int32} {a xA xB g : Nat → Nat → Int32} {lq : Nat → Nat → Int64}, JJ p0 q0 c0 t0 k0 (kk + 1) v0 st0 n0 b0 mx ro rj mw un sc a xA xB g → ∀ {H : Heap} {locs : List Loc}, va_P D vwCl ((LWc cA xo u c0 t0 k0 sc a xA xB lq ++ LWr cA mo w sc a lq) ++ rwT cA (u 51) g (t0 + 1)) H → va_D A ((LWc cA xo u c0 t0 k0 sc a xA xB lq ++ LWr cA mo w sc a lq) ++ rwT cA (u 51) g (t0 + 1)) → va_S A s.heap H locs → ∀ {ls : Array Slot}, lv_has ls 4 [(0, .ref b), (1, .ref xo), (2, .ref mo), (3, .int (z + 4))] → W p l e room_1 s m #[Value.ref b] below meth c H locs 85 8608 (lw_Z below #[Value.ref b] s) (F0 m 58 ls []) := ih0 (kk + 1) (z + 4) (sc_nx hz) (by omega) (by omega)
      refine lv_aload_n hx hb dL_law_66 rfl (lv_at hl 0 rfl) ?_
      refine lv_iload_n hx hb dL_law_67 rfl (lv_at hl 3 rfl) ?_
      refine va_sld hx hb hXs hbl hbA hS (sc_in0 hz hL hkk c_63) dL_law_68 ?_
      refine lv_bipush (v := 31) hx hb dL_law_69 (by decide) ?_
      refine lv_iand hx hb dL_law_71 ?_
      refine lv_topi (fun w9 ew => ?_)
      clear ew
      rcases sw_21 w9 with rfl | rfl | rfl | rfl | rfl | rfl | rfl | rfl | rfl | rfl | rfl | rfl | rfl | rfl | rfl | rfl | rfl | rfl | rfl | rfl | rfl | hsw
      · refine lv_tableIn (off := 100) (tgt := 172) hx hb dL_law_72 (by decide) (by decide) (by decide) (by decide) ?_
        exact law_0 hx hb hml hown hts hXs hbl hbA hK h hP hD hS hl hz hL hkk hk5 c_63 ih
      · refine lv_tableIn (off := 133) (tgt := 205) hx hb dL_law_72 (by decide) (by decide) (by decide) (by decide) ?_
        exact law_1 hx hb hml hown hts hXs hbl hbA hK h hP hD hS hl hz hL hkk hk5 c_63 ih
      · refine lv_tableIn (off := 146) (tgt := 218) hx hb dL_law_72 (by decide) (by decide) (by decide) (by decide) ?_
        exact law_2 hx hb hml hown hts hXs hbl hbA hK h hP hD hS hl hz hL hkk hk5 c_63 ih
      · refine lv_tableIn (off := 159) (tgt := 231) hx hb dL_law_72 (by decide) (by decide) (by decide) (by decide) ?_
        exact law_3 hx hb hml hown hts hXs hbl hbA hK h hP hD hS hl hz hL hkk hk5 c_63 ih
      · refine lv_tableIn (off := 202) (tgt := 274) hx hb dL_law_72 (by decide) (by decide) (by decide) (by decide) ?_
        exact law_4 hx hb hml hown hts hXs hbl hbA hK h hP hD hS hl hz hL hkk hk5 c_63 ih
      · refine lv_tableIn (off := 245) (tgt := 317) hx hb dL_law_72 (by decide) (by decide) (by decide) (by decide) ?_
        exact law_5 hx hb hml hown hts hXs hbl hbA hK h hP hD hS hl hz hL hkk hk5 c_63 ih
      · refine lv_tableIn (off := 258) (tgt := 330) hx hb dL_law_72 (by decide) (by decide) (by decide) (by decide) ?_
        exact law_6 hx hb hml hown hts hXs hbl hbA hK h hP hD hS hl hz hL hkk hk5 c_63 ih
      · refine lv_tableIn (off := 301) (tgt := 373) hx hb dL_law_72 (by decide) (by decide) (by decide) (by decide) ?_
        exact law_7 hx hb hml hown hts hXs hbl hbA hK h hP hD hS hl hz hL hkk hk5 c_63 ih
      · refine lv_tableIn (off := 344) (tgt := 416) hx hb dL_law_72 (by decide) (by decide) (by decide) (by decide) ?_
        exact law_8 hx hb hml hown hts hXs hbl hbA hK h hP hD hS hl hz hL hkk hk5 c_63 ih
      · refine lv_tableIn (off := 357) (tgt := 429) hx hb dL_law_72 (by decide) (by decide) (by decide) (by decide) ?_
        exact law_9 hx hb hml hown hts hXs hbl hbA hK h hP hD hS hl hz hL hkk hk5 c_63 ih
      · refine lv_tableIn (off := 370) (tgt := 442) hx hb dL_law_72 (by decide) (by decide) (by decide) (by decide) ?_
        exact law_10 hx hb hml hown hts hXs hbl hbA hK h hP hD hS hl hz hL hkk hk5 c_63 ih
      · refine lv_tableIn (off := 393) (tgt := 465) hx hb dL_law_72 (by decide) (by decide) (by decide) (by decide) ?_
        exact law_11 hx hb hml hown hts hXs hbl hbA hK h hP hD hS hl hz hL hkk hk5 c_63 ih
      · refine lv_tableIn (off := 416) (tgt := 488) hx hb dL_law_72 (by decide) (by decide) (by decide) (by decide) ?_
        exact law_12 hx hb hml hown hts hXs hbl hbA hK h hP hD hS hl hz hL hkk hk5 c_63 ih
      · refine lv_tableIn (off := 429) (tgt := 501) hx hb dL_law_72 (by decide) (by decide) (by decide) (by decide) ?_
        exact law_13 hx hb hml hown hts hXs hbl hbA hK h hP hD hS hl hz hL hkk hk5 c_63 ih
      · refine lv_tableIn (off := 452) (tgt := 524) hx hb dL_law_72 (by decide) (by decide) (by decide) (by decide) ?_
        exact law_14 hx hb hml hown hts hXs hbl hbA hK h hP hD hS hl hz hL hkk hk5 c_63 ih
      · refine lv_tableIn (off := 475) (tgt := 547) hx hb dL_law_72 (by decide) (by decide) (by decide) (by decide) ?_
        exact law_15 hx hb hml hown hts hXs hbl hbA hK h hP hD hS hl hz hL hkk hk5 c_63 ih
      · refine lv_tableIn (off := 518) (tgt := 590) hx hb dL_law_72 (by decide) (by decide) (by decide) (by decide) ?_
        exact law_16 hx hb hml hown hts hXs hbl hbA hK h hP hD hS hl hz hL hkk hk5 c_63 ih
      · refine lv_tableIn (off := 551) (tgt := 623) hx hb dL_law_72 (by decide) (by decide) (by decide) (by decide) ?_
        exact law_17 hx hb hml hown hts hXs hbl hbA hK h hP hD hS hl hz hL hkk hk5 c_63 ih
      · refine lv_tableIn (off := 584) (tgt := 656) hx hb dL_law_72 (by decide) (by decide) (by decide) (by decide) ?_
        exact law_18 hx hb hml hown hts hXs hbl hbA hK h hP hD hS hl hz hL hkk hk5 c_63 ih
      · refine lv_tableIn (off := 617) (tgt := 689) hx hb dL_law_72 (by decide) (by decide) (by decide) (by decide) ?_
        exact law_19 hx hb hml hown hts hXs hbl hbA hK h hP hD hS hl hz hL hkk hk5 c_63 ih
      · refine lv_tableIn (off := 650) (tgt := 722) hx hb dL_law_72 (by decide) (by decide) (by decide) (by decide) ?_
        exact law_20 hx hb hml hown hts hXs hbl hbA hK h hP hD hS hl hz hL hkk hk5 c_63 ih
      · refine lv_tableOut (tgt := 746) hx hb dL_law_72 hsw (by decide) ?_
        refine lv_iinc (v := (z + 4)) (lv' := [(3, .int (z + 4)), (0, .ref b), (1, .ref xo), (2, .ref mo)]) hx hb dL_law_746 hl (k := 3) rfl rfl (by decide) rfl (fun ls hl => ?_)
        refine lv_goto (tgt := 58) hx hb dL_law_749 (by decide) ?_
        exact ih (J_same h) hP hD hS (lv_sub hl [1, 2, 3, 0] rfl)
