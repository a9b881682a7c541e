theorem dX8_within_0 : decode cX8_within 0 = .ok (.iload_n 0, 1) := by decide +kernel
theorem dX8_within_1 : decode cX8_within 1 = .ok (.iload_n 1, 1) := by decide +kernel
theorem dX8_within_2 : decode cX8_within 2 = .ok (.if_icmp .ge 7, 3) := by decide +kernel
theorem dX8_within_5 : decode cX8_within 5 = .ok (.iload_n 1, 1) := by decide +kernel
theorem dX8_within_6 : decode cX8_within 6 = .ok (.goto 13, 3) := by decide +kernel
theorem dX8_within_9 : decode cX8_within 9 = .ok (.iload_n 0, 1) := by decide +kernel
theorem dX8_within_10 : decode cX8_within 10 = .ok (.iload_n 2, 1) := by decide +kernel
theorem dX8_within_11 : decode cX8_within 11 = .ok (.if_icmp .le 7, 3) := by decide +kernel
theorem dX8_within_14 : decode cX8_within 14 = .ok (.iload_n 2, 1) := by decide +kernel
theorem dX8_within_15 : decode cX8_within 15 = .ok (.goto 4, 3) := by decide +kernel
theorem dX8_within_18 : decode cX8_within 18 = .ok (.iload_n 0, 1) := by decide +kernel
theorem dX8_within_19 : decode cX8_within 19 = .ok (.ireturn, 1) := by decide +kernel
theorem dX8_isPrime_0 : decode cX8_isPrime 0 = .ok (.iload_n 0, 1) := by decide +kernel
theorem dX8_isPrime_1 : decode cX8_isPrime 1 = .ok (.iconst 1, 1) := by decide +kernel
theorem dX8_isPrime_2 : decode cX8_isPrime 2 = .ok (.if_icmp .le 7, 3) := by decide +kernel
theorem dX8_isPrime_5 : decode cX8_isPrime 5 = .ok (.iconst 1, 1) := by decide +kernel
theorem dX8_isPrime_6 : decode cX8_isPrime 6 = .ok (.goto 4, 3) := by decide +kernel
theorem dX8_isPrime_9 : decode cX8_isPrime 9 = .ok (.iconst 0, 1) := by decide +kernel
theorem dX8_isPrime_10 : decode cX8_isPrime 10 = .ok (.istore_n 1, 1) := by decide +kernel
theorem dX8_isPrime_11 : decode cX8_isPrime 11 = .ok (.iconst 2, 1) := by decide +kernel
theorem dX8_isPrime_12 : decode cX8_isPrime 12 = .ok (.istore_n 2, 1) := by decide +kernel
theorem dX8_isPrime_13 : decode cX8_isPrime 13 = .ok (.iload_n 2, 1) := by decide +kernel
theorem dX8_isPrime_14 : decode cX8_isPrime 14 = .ok (.i2l, 1) := by decide +kernel
theorem dX8_isPrime_15 : decode cX8_isPrime 15 = .ok (.iload_n 2, 1) := by decide +kernel
theorem dX8_isPrime_16 : decode cX8_isPrime 16 = .ok (.i2l, 1) := by decide +kernel
theorem dX8_isPrime_17 : decode cX8_isPrime 17 = .ok (.lmul, 1) := by decide +kernel
theorem dX8_isPrime_18 : decode cX8_isPrime 18 = .ok (.iload_n 0, 1) := by decide +kernel
theorem dX8_isPrime_19 : decode cX8_isPrime 19 = .ok (.i2l, 1) := by decide +kernel
theorem dX8_isPrime_20 : decode cX8_isPrime 20 = .ok (.lcmp, 1) := by decide +kernel
theorem dX8_isPrime_21 : decode cX8_isPrime 21 = .ok (.ifCond .gt 25, 3) := by decide +kernel
theorem dX8_isPrime_24 : decode cX8_isPrime 24 = .ok (.iload_n 1, 1) := by decide +kernel
theorem dX8_isPrime_25 : decode cX8_isPrime 25 = .ok (.ifCond .eq 21, 3) := by decide +kernel
theorem dX8_isPrime_28 : decode cX8_isPrime 28 = .ok (.iload_n 0, 1) := by decide +kernel
theorem dX8_isPrime_29 : decode cX8_isPrime 29 = .ok (.iload_n 2, 1) := by decide +kernel
theorem dX8_isPrime_30 : decode cX8_isPrime 30 = .ok (.irem, 1) := by decide +kernel
theorem dX8_isPrime_31 : decode cX8_isPrime 31 = .ok (.ifCond .eq 7, 3) := by decide +kernel
theorem dX8_isPrime_34 : decode cX8_isPrime 34 = .ok (.iconst 1, 1) := by decide +kernel
theorem dX8_isPrime_35 : decode cX8_isPrime 35 = .ok (.goto 4, 3) := by decide +kernel
theorem dX8_isPrime_38 : decode cX8_isPrime 38 = .ok (.iconst 0, 1) := by decide +kernel
theorem dX8_isPrime_39 : decode cX8_isPrime 39 = .ok (.istore_n 1, 1) := by decide +kernel
theorem dX8_isPrime_40 : decode cX8_isPrime 40 = .ok (.iinc 2 1, 3) := by decide +kernel
theorem dX8_isPrime_43 : decode cX8_isPrime 43 = .ok (.goto (-30), 3) := by decide +kernel
theorem dX8_isPrime_46 : decode cX8_isPrime 46 = .ok (.iload_n 1, 1) := by decide +kernel
theorem dX8_isPrime_47 : decode cX8_isPrime 47 = .ok (.ireturn, 1) := by decide +kernel
theorem dX8_in_0 : decode cX8_in 0 = .ok (.iload_n 0, 1) := by decide +kernel
theorem dX8_in_1 : decode cX8_in 1 = .ok (.iload_n 1, 1) := by decide +kernel
theorem dX8_in_2 : decode cX8_in 2 = .ok (.if_icmp .lt 12, 3) := by decide +kernel
theorem dX8_in_5 : decode cX8_in 5 = .ok (.iload_n 0, 1) := by decide +kernel
theorem dX8_in_6 : decode cX8_in 6 = .ok (.iload_n 2, 1) := by decide +kernel
theorem dX8_in_7 : decode cX8_in 7 = .ok (.if_icmp .gt 7, 3) := by decide +kernel
theorem dX8_in_10 : decode cX8_in 10 = .ok (.iconst 1, 1) := by decide +kernel
theorem dX8_in_11 : decode cX8_in 11 = .ok (.goto 4, 3) := by decide +kernel
theorem dX8_in_14 : decode cX8_in 14 = .ok (.iconst 0, 1) := by decide +kernel
theorem dX8_in_15 : decode cX8_in 15 = .ok (.ireturn, 1) := by decide +kernel
theorem dX8_empty_0 : decode cX8_empty 0 = .ok (.iconst 0, 1) := by decide +kernel
theorem dX8_empty_1 : decode cX8_empty 1 = .ok (.istore_n 1, 1) := by decide +kernel
theorem dX8_empty_2 : decode cX8_empty 2 = .ok (.iload_n 1, 1) := by decide +kernel
theorem dX8_empty_3 : decode cX8_empty 3 = .ok (.bipush 40, 2) := by decide +kernel
theorem dX8_empty_5 : decode cX8_empty 5 = .ok (.if_icmp .ge 37, 3) := by decide +kernel
theorem dX8_empty_8 : decode cX8_empty 8 = .ok (.aload_n 0, 1) := by decide +kernel
theorem dX8_empty_9 : decode cX8_empty 9 = .ok (.getfield 35, 3) := by decide +kernel
theorem dX8_empty_12 : decode cX8_empty 12 = .ok (.iload_n 1, 1) := by decide +kernel
theorem dX8_empty_13 : decode cX8_empty 13 = .ok (.iconst (-1), 1) := by decide +kernel
theorem dX8_empty_14 : decode cX8_empty 14 = .ok (.iastore, 1) := by decide +kernel
theorem dX8_empty_15 : decode cX8_empty 15 = .ok (.aload_n 0, 1) := by decide +kernel
theorem dX8_empty_16 : decode cX8_empty 16 = .ok (.getfield 38, 3) := by decide +kernel
theorem dX8_empty_19 : decode cX8_empty 19 = .ok (.iload_n 1, 1) := by decide +kernel
theorem dX8_empty_20 : decode cX8_empty 20 = .ok (.iconst 0, 1) := by decide +kernel
theorem dX8_empty_21 : decode cX8_empty 21 = .ok (.iastore, 1) := by decide +kernel
theorem dX8_empty_22 : decode cX8_empty 22 = .ok (.aload_n 0, 1) := by decide +kernel
theorem dX8_empty_23 : decode cX8_empty 23 = .ok (.getfield 41, 3) := by decide +kernel
theorem dX8_empty_26 : decode cX8_empty 26 = .ok (.iload_n 1, 1) := by decide +kernel
theorem dX8_empty_27 : decode cX8_empty 27 = .ok (.iconst (-1), 1) := by decide +kernel
theorem dX8_empty_28 : decode cX8_empty 28 = .ok (.iastore, 1) := by decide +kernel
theorem dX8_empty_29 : decode cX8_empty 29 = .ok (.aload_n 0, 1) := by decide +kernel
theorem dX8_empty_30 : decode cX8_empty 30 = .ok (.getfield 44, 3) := by decide +kernel
theorem dX8_empty_33 : decode cX8_empty 33 = .ok (.iload_n 1, 1) := by decide +kernel
theorem dX8_empty_34 : decode cX8_empty 34 = .ok (.iconst (-1), 1) := by decide +kernel
theorem dX8_empty_35 : decode cX8_empty 35 = .ok (.iastore, 1) := by decide +kernel
theorem dX8_empty_36 : decode cX8_empty 36 = .ok (.iinc 1 1, 3) := by decide +kernel
theorem dX8_empty_39 : decode cX8_empty 39 = .ok (.goto (-37), 3) := by decide +kernel
theorem dX8_empty_42 : decode cX8_empty 42 = .ok (.return_, 1) := by decide +kernel
/-- taken into lo .. hi, as the reference does -/
def wj (x lo hi : Int32) : Int32 := if lo ≤ x then (if x ≤ hi then x else hi) else lo
theorem va_P.arr {D : va_G} {cl : List vw_C} {ws : va_W} {H : Heap} {a n : Nat} {cA : ClassId} {g g' : Nat → Int32} (hP : va_P D cl ws H) (k : Nat) (hk : ws[k]? = some (a, .inl (cA, n, .inl g))) (h : ∀ j : Nat, j < n → g j = g' j) : va_P D cl (ws.set k (a, .inl (cA, n, .inl g'))) H := by
  intro i q hq
  by_cases e : i = k
  · subst e
    have hl : i < ws.length := (List.getElem?_eq_some_iff.mp hk).1
    rw [List.getElem?_set_self hl] at hq
    cases hq
    show H[a]? = some (vp_cell cA (n, .inl g'))
    rw [← fl_cell (f := g) (g := g') h]
    exact hP i _ hk
  · rw [List.getElem?_set_ne (fun x => e x.symm)] at hq
    exact hP i q hq
theorem ip_nar {w : Int32} {A B : Prop} (h : (w = 1 ∧ A) ∨ (w = 0 ∧ B)) : narrow .boolean (.int w) = .int w := by
  rcases h with ⟨rfl, _⟩ | ⟨rfl, _⟩ <;> rfl
theorem ip_sq {n z : Int32} {n0 k : Nat} (hn : n = nI n0) (hN : n0 < 1000000) (hz : z = nI k) (h2 : k ≤ 1002) : 0 < lg_cmp (z.toInt64 * z.toInt64) n.toInt64 ↔ n0 < k * k := by
  have hb : k * k ≤ 1002 * 1002 := Nat.mul_le_mul h2 h2
  rw [lg_cmp_gt, hn, hz, nI_l (by omega), nI_l (by omega), lN_mul]
  exact lN_lt (by omega) (by omega)
theorem ip_rem {n z : Int32} {n0 k : Nat} (hn : n = nI n0) (hN : n0 < 1000000) (hz : z = nI k) (h1 : 2 ≤ k) (h2 : k ≤ 1002) : n - n / z * z = 0 ↔ n0 % k = 0 := by
  have hm : n0 % k < k := Nat.mod_lt _ (by omega)
  rw [hn, hz, pk_rem (by omega) (by omega) (by omega), ← nI_0]
  exact nI_eq (by omega) (by omega)
theorem ip_end1 {n z w : Int32} {n0 k : Nat} (hn : n = nI n0) (hN : n0 < 1000000) (hz : z = nI k) (h1 : 2 ≤ k) (h2 : k ≤ 1002) (h4 : (w = 1 ∧ 2 ≤ n0 ∧ ∀ j : Nat, 2 ≤ j → j < k → ¬ n0 % j = 0) ∨ (w = 0 ∧ ¬ sp_prim n0)) (c : 0 < lg_cmp (z.toInt64 * z.toInt64) n.toInt64) : (w = 1 ∧ sp_prim n0) ∨ (w = 0 ∧ ¬ sp_prim n0) := by
  rw [ip_sq hn hN hz h2] at c
  rcases h4 with ⟨e, h5, h6⟩ | h
  · refine Or.inl ⟨e, h5, fun d hd hdd => h6 d hd ?_⟩
    rcases Nat.lt_or_ge d k with q | q
    · exact q
    · have := Nat.mul_le_mul q q
      omega
  · exact Or.inr h
theorem ip_end2 {w : Int32} {n0 k : Nat} (h4 : (w = 1 ∧ 2 ≤ n0 ∧ ∀ j : Nat, 2 ≤ j → j < k → ¬ n0 % j = 0) ∨ (w = 0 ∧ ¬ sp_prim n0)) (c : w = 0) : (w = 1 ∧ sp_prim n0) ∨ (w = 0 ∧ ¬ sp_prim n0) := by
  rcases h4 with ⟨e, _⟩ | h
  · rw [e] at c; exact absurd c (by decide)
  · exact Or.inr h
theorem ip_start1 {n : Int32} {n0 : Nat} (hn : n = nI n0) (hN : n0 < 1000000) (c : ¬ n ≤ 1) : ((1 : Int32) = 1 ∧ 2 ≤ n0 ∧ ∀ j : Nat, 2 ≤ j → j < 2 → ¬ n0 % j = 0) ∨ ((1 : Int32) = 0 ∧ ¬ sp_prim n0) := by
  refine Or.inl ⟨rfl, ?_, fun j a b => by omega⟩
  rw [hn, show (1 : Int32) = nI 1 from rfl, nI_leI (by omega) (by omega)] at c
  omega
theorem ip_start0 {n : Int32} {n0 : Nat} (hn : n = nI n0) (hN : n0 < 1000000) (c : n ≤ 1) : ((0 : Int32) = 1 ∧ 2 ≤ n0 ∧ ∀ j : Nat, 2 ≤ j → j < 2 → ¬ n0 % j = 0) ∨ ((0 : Int32) = 0 ∧ ¬ sp_prim n0) := by
  refine Or.inr ⟨rfl, fun h => ?_⟩
  rw [hn, show (1 : Int32) = nI 1 from rfl, nI_leI (by omega) (by omega)] at c
  have := h.1
  omega
theorem ip_k {n z : Int32} {n0 k : Nat} (hn : n = nI n0) (hN : n0 < 1000000) (hz : z = nI k) (h2 : k ≤ 1002) (c : ¬ 0 < lg_cmp (z.toInt64 * z.toInt64) n.toInt64) : k * k ≤ n0 ∧ k + 1 ≤ 1002 := by
  rw [ip_sq hn hN hz h2] at c
  refine ⟨by omega, ?_⟩
  rcases Nat.lt_or_ge k 1000 with q | q
  · omega
  · have := Nat.mul_le_mul q q
    omega
theorem ip_next0 {n z w : Int32} {n0 k : Nat} (hn : n = nI n0) (hN : n0 < 1000000) (hz : z = nI k) (h1 : 2 ≤ k) (h2 : k ≤ 1002) (_ : (w = 1 ∧ 2 ≤ n0 ∧ ∀ j : Nat, 2 ≤ j → j < k → ¬ n0 % j = 0) ∨ (w = 0 ∧ ¬ sp_prim n0)) (c : ¬ 0 < lg_cmp (z.toInt64 * z.toInt64) n.toInt64) (_ : ¬ w = 0) (c3 : n - n / z * z = 0) : k + 1 ≤ 1002 ∧ (((0 : Int32) = 1 ∧ 2 ≤ n0 ∧ ∀ j : Nat, 2 ≤ j → j < k + 1 → ¬ n0 % j = 0) ∨ ((0 : Int32) = 0 ∧ ¬ sp_prim n0)) := by
  rw [ip_rem hn hN hz h1 h2] at c3
  obtain ⟨g1, g2⟩ := ip_k hn hN hz h2 c
  exact ⟨g2, Or.inr ⟨rfl, fun h => h.2 k h1 g1 c3⟩⟩
theorem ip_next1 {n z w : Int32} {n0 k : Nat} (hn : n = nI n0) (hN : n0 < 1000000) (hz : z = nI k) (h1 : 2 ≤ k) (h2 : k ≤ 1002) (h4 : (w = 1 ∧ 2 ≤ n0 ∧ ∀ j : Nat, 2 ≤ j → j < k → ¬ n0 % j = 0) ∨ (w = 0 ∧ ¬ sp_prim n0)) (c : ¬ 0 < lg_cmp (z.toInt64 * z.toInt64) n.toInt64) (c2 : ¬ w = 0) (c3 : ¬ n - n / z * z = 0) : k + 1 ≤ 1002 ∧ (((1 : Int32) = 1 ∧ 2 ≤ n0 ∧ ∀ j : Nat, 2 ≤ j → j < k + 1 → ¬ n0 % j = 0) ∨ ((1 : Int32) = 0 ∧ ¬ sp_prim n0)) := by
  rw [ip_rem hn hN hz h1 h2] at c3
  obtain ⟨g1, g2⟩ := ip_k hn hN hz h2 c
  rcases h4 with ⟨e, h5, h6⟩ | h
  · refine ⟨g2, Or.inl ⟨rfl, h5, fun j a b => ?_⟩⟩
    rcases Nat.lt_or_ge j k with q | q
    · exact h6 j a q
    · rw [show j = k by omega]; exact c3
  · exact absurd h.1 c2
theorem em_c {z : Int32} {k : Nat} (hz : z = nI k) (h2 : k ≤ 40) : (40 : Int32) ≤ z ↔ 40 ≤ k := by
  rw [hz]; exact nI_leI (a := 40) (by omega) (by omega)
theorem em_lt {z : Int32} {k : Nat} (hz : z = nI k) (h2 : k ≤ 40) (c : ¬ (40 : Int32) ≤ z) : k + 1 ≤ 40 := by
  rw [em_c hz h2] at c; omega
theorem em_in {z : Int32} {k : Nat} (hz : z = nI k) (h2 : k ≤ 40) (c : ¬ (40 : Int32) ≤ z) : vp_in z 40 := by
  rw [hz]; exact vp_in_nI (em_lt hz h2 c) (by omega)
theorem em_step {z v : Int32} {k : Nat} {g : Nat → Int32} (hz : z = nI k) (h2 : k ≤ 40) (h3 : ∀ j : Nat, j < k → g j = v) : ∀ j : Nat, j < k + 1 → upd g z.toNatClampNeg v j = v := by
  intro j hj
  rw [hz, nI_clamp (by omega)]
  unfold upd
  split
  · rfl
  · exact h3 j (by omega)
theorem em_all {z v : Int32} {k : Nat} {g : Nat → Int32} (hz : z = nI k) (h2 : k ≤ 40) (h3 : ∀ j : Nat, j < k → g j = v) (c : (40 : Int32) ≤ z) : ∀ j : Nat, j < 40 → g j = (fun _ => v) j := by
  rw [em_c hz h2] at c
  intro j hj
  exact h3 j (by omega)
set_option maxHeartbeats 4000000 in
set_option maxRecDepth 100000 in
theorem c_X8_within (l : Launch) (D : va_G) (cA : Nat → ClassId) (x : Int32) (lo : Int32) (hi : Int32) : Met l yX8_within wsX8_within ({ frames := 0, cells := 0, slots := 0, locals := 0 }) (rPc vwCl D cA [] [.int x, .int lo, .int hi]) (rq_x (some (.int (wj x lo hi)))) 0 0 (fun _ => False) := by
  refine Met.ofW (cc := cX8_within) (maxL := 3) (ret := (some .int)) (by decide) rfl ?_
  intro p e s m args below meth c s₁ B hml hv
  obtain ⟨rfl, hP, hK⟩ := hv
  have hx := B.exec
  have hb := B.bytes
  have hr := B.returns
  have hts := atoms_spec (ws := wsX8_within) B.pre
  have hown : s.vm.findClass RX8 = some m.cls := findClass_of_methodNamed B.named
  have hlocks := B.notSynchronized
  have hl := lv_entry ([.int x, .int lo, .int hi]) (n := 3) (Nat.le_of_ble_eq_true rfl)
  rw [lg_entry_eq]
  generalize (lg_sl ([.int x, .int lo, .int hi]) ++ List.replicate (3 - (lg_sl ([.int x, .int lo, .int hi])).length) Slot.unset).toArray = ls at hl ⊢
  have hl : lv_has ls 3 [(0, .int x), (1, .int lo), (2, .int hi)] := hl
  refine lv_iload_n hx hb dX8_within_0 rfl (lv_at hl 0 rfl) ?_
  refine lv_iload_n hx hb dX8_within_1 rfl (lv_at hl 1 rfl) ?_
  refine lv_icmp_ge (tgt := 9) hx hb dX8_within_2 (by decide) (fun c_2 => ?_) (fun c_2 => ?_)
  · skip
    refine lv_iload_n hx hb dX8_within_9 rfl (lv_at hl 0 rfl) ?_
    refine lv_iload_n hx hb dX8_within_10 rfl (lv_at hl 2 rfl) ?_
    refine lv_icmp_le (tgt := 18) hx hb dX8_within_11 (by decide) (fun c_11 => ?_) (fun c_11 => ?_)
    · skip
      refine lv_iload_n hx hb dX8_within_18 rfl (lv_at hl 0 rfl) ?_
      exact W.iret (v := x) hx hb hr (fun t ht hW => ⟨congrArg (fun z => Outcome.returned (some (Value.int z))) ((by rw [wj, if_pos c_2, if_pos c_11])), ht⟩) (fun _ h => by cases h) dX8_within_19
    · skip
      refine lv_iload_n hx hb dX8_within_14 rfl (lv_at hl 2 rfl) ?_
      refine lv_goto (tgt := 19) hx hb dX8_within_15 (by decide) ?_
      exact W.iret (v := hi) hx hb hr (fun t ht hW => ⟨congrArg (fun z => Outcome.returned (some (Value.int z))) ((by rw [wj, if_pos c_2, if_neg c_11])), ht⟩) (fun _ h => by cases h) dX8_within_19
  · skip
    refine lv_iload_n hx hb dX8_within_5 rfl (lv_at hl 1 rfl) ?_
    refine lv_goto (tgt := 19) hx hb dX8_within_6 (by decide) ?_
    exact W.iret (v := lo) hx hb hr (fun t ht hW => ⟨congrArg (fun z => Outcome.returned (some (Value.int z))) ((by rw [wj, if_neg c_2])), ht⟩) (fun _ h => by cases h) dX8_within_19

set_option maxHeartbeats 4000000 in
set_option maxRecDepth 100000 in
theorem c_X8_in (l : Launch) (D : va_G) (cA : Nat → ClassId) (x : Int32) (lo : Int32) (hi : Int32) : Met l yX8_in wsX8_in ({ frames := 0, cells := 0, slots := 0, locals := 0 }) (rPc vwCl D cA [] [.int x, .int lo, .int hi]) (rq_x (some (.int (bI (lo ≤ x ∧ x ≤ hi))))) 0 0 (fun _ => False) := by
  refine Met.ofW (cc := cX8_in) (maxL := 3) (ret := (some .boolean)) (by decide) rfl ?_
  intro p e s m args below meth c s₁ B hml hv
  obtain ⟨rfl, hP, hK⟩ := hv
  have hx := B.exec
  have hb := B.bytes
  have hr := B.returns
  have hts := atoms_spec (ws := wsX8_in) B.pre
  have hown : s.vm.findClass RX8 = some m.cls := findClass_of_methodNamed B.named
  have hlocks := B.notSynchronized
  have hl := lv_entry ([.int x, .int lo, .int hi]) (n := 3) (Nat.le_of_ble_eq_true rfl)
  rw [lg_entry_eq]
  generalize (lg_sl ([.int x, .int lo, .int hi]) ++ List.replicate (3 - (lg_sl ([.int x, .int lo, .int hi])).length) Slot.unset).toArray = ls at hl ⊢
  have hl : lv_has ls 3 [(0, .int x), (1, .int lo), (2, .int hi)] := hl
  refine lv_iload_n hx hb dX8_in_0 rfl (lv_at hl 0 rfl) ?_
  refine lv_iload_n hx hb dX8_in_1 rfl (lv_at hl 1 rfl) ?_
  refine lv_icmp_lt (tgt := 14) hx hb dX8_in_2 (by decide) (fun c_2 => ?_) (fun c_2 => ?_)
  · skip
    refine lv_iconst (v := 0) hx hb dX8_in_14 (by decide) ?_
    exact W.zret (v := 0) hx hb hr rfl (fun t ht hW => ⟨congrArg (fun z => Outcome.returned (some (Value.int z))) (bI_f (fun h => absurd c_2 (Int32.not_lt.mpr h.1))), ht⟩) (fun _ h => by cases h) dX8_in_15
  · skip
    refine lv_iload_n hx hb dX8_in_5 rfl (lv_at hl 0 rfl) ?_
    refine lv_iload_n hx hb dX8_in_6 rfl (lv_at hl 2 rfl) ?_
    refine lv_icmp_gt (tgt := 14) hx hb dX8_in_7 (by decide) (fun c_7 => ?_) (fun c_7 => ?_)
    · skip
      refine lv_iconst (v := 0) hx hb dX8_in_14 (by decide) ?_
      exact W.zret (v := 0) hx hb hr rfl (fun t ht hW => ⟨congrArg (fun z => Outcome.returned (some (Value.int z))) (bI_f (fun h => absurd c_7 (Int32.not_lt.mpr h.2))), ht⟩) (fun _ h => by cases h) dX8_in_15
    · skip
      refine lv_iconst (v := 1) hx hb dX8_in_10 (by decide) ?_
      refine lv_goto (tgt := 15) hx hb dX8_in_11 (by decide) ?_
      exact W.zret (v := 1) hx hb hr rfl (fun t ht hW => ⟨congrArg (fun z => Outcome.returned (some (Value.int z))) (bI_t ⟨Int32.not_lt.mp c_2, Int32.not_lt.mp c_7⟩), ht⟩) (fun _ h => by cases h) dX8_in_15

set_option maxHeartbeats 4000000 in
set_option maxRecDepth 100000 in
theorem c_X8_isPrime (l : Launch) (D : va_G) (cA : Nat → ClassId) (n : Int32) (n0 : Nat) (hn : n = nI n0) (hN : n0 < 1000000) : Met l yX8_isPrime wsX8_isPrime ({ frames := 0, cells := 0, slots := 0, locals := 0 }) (rPc vwCl D cA [] [.int n]) (rq_p (fun r => (r = 1 ∧ sp_prim n0) ∨ (r = 0 ∧ ¬ sp_prim n0))) 0 0 (fun _ => False) := by
  refine Met.ofW (cc := cX8_isPrime) (maxL := 3) (ret := (some .boolean)) (by decide) rfl ?_
  intro p e s m args below meth c s₁ B hml hv
  obtain ⟨rfl, hP, hK⟩ := hv
  have hx := B.exec
  have hb := B.bytes
  have hr := B.returns
  have hts := atoms_spec (ws := wsX8_isPrime) B.pre
  have hown : s.vm.findClass RX8 = some m.cls := findClass_of_methodNamed B.named
  have hlocks := B.notSynchronized
  have hl := lv_entry ([.int n]) (n := 3) (Nat.le_of_ble_eq_true rfl)
  rw [lg_entry_eq]
  generalize (lg_sl ([.int n]) ++ List.replicate (3 - (lg_sl ([.int n])).length) Slot.unset).toArray = ls at hl ⊢
  have hl : lv_has ls 3 [(0, .int n)] := hl
  refine lv_iload_n hx hb dX8_isPrime_0 rfl (lv_at hl 0 rfl) ?_
  refine lv_iconst (v := 1) hx hb dX8_isPrime_1 (by decide) ?_
  refine lv_icmp_le (tgt := 9) hx hb dX8_isPrime_2 (by decide) (fun c_2 => ?_) (fun c_2 => ?_)
  · skip
    refine lv_iconst (v := 0) hx hb dX8_isPrime_9 (by decide) ?_
    refine lv_istore_n (lv' := [(1, .int 0), (0, .int n)]) hx hb dX8_isPrime_10 rfl hl (by decide) rfl (fun ls hl => ?_)
    refine lv_iconst (v := 2) hx hb dX8_isPrime_11 (by decide) ?_
    refine lv_istore_n (lv' := [(2, .int 2), (1, .int 0), (0, .int n)]) hx hb dX8_isPrime_12 rfl hl (by decide) rfl (fun ls hl => ?_)
    have loop13 : ∀ (f k : Nat) (z w : Int32), z = nI k → 2000 ≤ k + f → 2 ≤ k → k ≤ 1002 → ((w = 1 ∧ 2 ≤ n0 ∧ ∀ j : Nat, 2 ≤ j → j < k → ¬ n0 % j = 0) ∨ (w = 0 ∧ ¬ sp_prim n0)) → ∀ ls : Array Slot, lv_has ls 3 [(0, .int n), (1, .int w), (2, .int z)] → W p l e (headSpec wsX8_isPrime ({ frames := 0, cells := 0, slots := 0, locals := 0 })).room s m [.int n].toArray below meth c s.heap [] 0 0 (MQ below (rq_p (fun r => (r = 1 ∧ sp_prim n0) ∨ (r = 0 ∧ ¬ sp_prim n0))) [.int n].toArray s 0 0 (fun _ => False)) (F0 m 13 ls []) := by
      intro f
      induction f with
      | zero =>
        intro k z w hz h0 h1 h2
        omega
      | succ f ih =>
        intro k z w hz h0 h1 h2 h4 ls hl
        refine lv_iload_n hx hb dX8_isPrime_13 rfl (lv_at hl 2 rfl) ?_
        refine lv_i2l hx hb dX8_isPrime_14 rfl ?_
        refine lv_iload_n hx hb dX8_isPrime_15 rfl (lv_at hl 2 rfl) ?_
        refine lv_i2l hx hb dX8_isPrime_16 rfl ?_
        refine lv_lmul hx hb dX8_isPrime_17 ?_
        refine lv_iload_n hx hb dX8_isPrime_18 rfl (lv_at hl 0 rfl) ?_
        refine lv_i2l hx hb dX8_isPrime_19 rfl ?_
        refine W.lcmp hx hb dX8_isPrime_20 ?_
        refine lv_if_gt (tgt := 46) hx hb dX8_isPrime_21 (by decide) (fun c_21 => ?_) (fun c_21 => ?_)
        · skip
          refine lv_iload_n hx hb dX8_isPrime_46 rfl (lv_at hl 1 rfl) ?_
          exact W.zret (v := w) hx hb hr (ip_nar h4) (fun t ht hW => ⟨w, rfl, ip_end1 hn hN hz h1 h2 h4 c_21, ht⟩) (fun _ h => by cases h) dX8_isPrime_47
        · skip
          refine lv_iload_n hx hb dX8_isPrime_24 rfl (lv_at hl 1 rfl) ?_
          refine lv_if_eq (tgt := 46) hx hb dX8_isPrime_25 (by decide) (fun c_25 => ?_) (fun c_25 => ?_)
          · skip
            refine lv_iload_n hx hb dX8_isPrime_46 rfl (lv_at hl 1 rfl) ?_
            exact W.zret (v := w) hx hb hr (ip_nar h4) (fun t ht hW => ⟨w, rfl, ip_end2 h4 c_25, ht⟩) (fun _ h => by cases h) dX8_isPrime_47
          · skip
            refine lv_iload_n hx hb dX8_isPrime_28 rfl (lv_at hl 0 rfl) ?_
            refine lv_iload_n hx hb dX8_isPrime_29 rfl (lv_at hl 2 rfl) ?_
            refine lv_irem hx hb dX8_isPrime_30 (nI_ne0z hz (by omega) (by omega)) ?_
            refine lv_if_eq (tgt := 38) hx hb dX8_isPrime_31 (by decide) (fun c_31 => ?_) (fun c_31 => ?_)
            · skip
              refine lv_iconst (v := 0) hx hb dX8_isPrime_38 (by decide) ?_
              refine lv_istore_n (lv' := [(1, .int 0), (0, .int n), (2, .int z)]) hx hb dX8_isPrime_39 rfl hl (by decide) rfl (fun ls hl => ?_)
              refine lv_iinc (v := (z + 1)) (lv' := [(2, .int (z + 1)), (1, .int 0), (0, .int n)]) hx hb dX8_isPrime_40 hl (k := 2) rfl rfl (by decide) rfl (fun ls hl => ?_)
              refine lv_goto (tgt := 13) hx hb dX8_isPrime_43 (by decide) ?_
              obtain ⟨g1, g2⟩ := ip_next0 hn hN hz h1 h2 h4 c_21 c_25 c_31
              exact ih (k + 1) (z + 1) _ (by rw [hz]; exact nI_1 k) (by omega) (by omega) g1 g2 ls (lv_sub hl [2, 1, 0] rfl)
            · skip
              refine lv_iconst (v := 1) hx hb dX8_isPrime_34 (by decide) ?_
              refine lv_goto (tgt := 39) hx hb dX8_isPrime_35 (by decide) ?_
              refine lv_istore_n (lv' := [(1, .int 1), (0, .int n), (2, .int z)]) hx hb dX8_isPrime_39 rfl hl (by decide) rfl (fun ls hl => ?_)
              refine lv_iinc (v := (z + 1)) (lv' := [(2, .int (z + 1)), (1, .int 1), (0, .int n)]) hx hb dX8_isPrime_40 hl (k := 2) rfl rfl (by decide) rfl (fun ls hl => ?_)
              refine lv_goto (tgt := 13) hx hb dX8_isPrime_43 (by decide) ?_
              obtain ⟨g1, g2⟩ := ip_next1 hn hN hz h1 h2 h4 c_21 c_25 c_31
              exact ih (k + 1) (z + 1) _ (by rw [hz]; exact nI_1 k) (by omega) (by omega) g1 g2 ls (lv_sub hl [2, 1, 0] rfl)
    exact loop13 2000 2 2 0 rfl (by omega) (by omega) (by omega) (ip_start0 hn hN c_2) ls (lv_sub hl [2, 1, 0] rfl)
  · skip
    refine lv_iconst (v := 1) hx hb dX8_isPrime_5 (by decide) ?_
    refine lv_goto (tgt := 10) hx hb dX8_isPrime_6 (by decide) ?_
    refine lv_istore_n (lv' := [(1, .int 1), (0, .int n)]) hx hb dX8_isPrime_10 rfl hl (by decide) rfl (fun ls hl => ?_)
    refine lv_iconst (v := 2) hx hb dX8_isPrime_11 (by decide) ?_
    refine lv_istore_n (lv' := [(2, .int 2), (1, .int 1), (0, .int n)]) hx hb dX8_isPrime_12 rfl hl (by decide) rfl (fun ls hl => ?_)
    have loop13 : ∀ (f k : Nat) (z w : Int32), z = nI k → 2000 ≤ k + f → 2 ≤ k → k ≤ 1002 → ((w = 1 ∧ 2 ≤ n0 ∧ ∀ j : Nat, 2 ≤ j → j < k → ¬ n0 % j = 0) ∨ (w = 0 ∧ ¬ sp_prim n0)) → ∀ ls : Array Slot, lv_has ls 3 [(0, .int n), (1, .int w), (2, .int z)] → W p l e (headSpec wsX8_isPrime ({ frames := 0, cells := 0, slots := 0, locals := 0 })).room s m [.int n].toArray below meth c s.heap [] 0 0 (MQ below (rq_p (fun r => (r = 1 ∧ sp_prim n0) ∨ (r = 0 ∧ ¬ sp_prim n0))) [.int n].toArray s 0 0 (fun _ => False)) (F0 m 13 ls []) := by
      intro f
      induction f with
      | zero =>
        intro k z w hz h0 h1 h2
        omega
      | succ f ih =>
        intro k z w hz h0 h1 h2 h4 ls hl
        refine lv_iload_n hx hb dX8_isPrime_13 rfl (lv_at hl 2 rfl) ?_
        refine lv_i2l hx hb dX8_isPrime_14 rfl ?_
        refine lv_iload_n hx hb dX8_isPrime_15 rfl (lv_at hl 2 rfl) ?_
        refine lv_i2l hx hb dX8_isPrime_16 rfl ?_
        refine lv_lmul hx hb dX8_isPrime_17 ?_
        refine lv_iload_n hx hb dX8_isPrime_18 rfl (lv_at hl 0 rfl) ?_
        refine lv_i2l hx hb dX8_isPrime_19 rfl ?_
        refine W.lcmp hx hb dX8_isPrime_20 ?_
        refine lv_if_gt (tgt := 46) hx hb dX8_isPrime_21 (by decide) (fun c_21 => ?_) (fun c_21 => ?_)
        · skip
          refine lv_iload_n hx hb dX8_isPrime_46 rfl (lv_at hl 1 rfl) ?_
          exact W.zret (v := w) hx hb hr (ip_nar h4) (fun t ht hW => ⟨w, rfl, ip_end1 hn hN hz h1 h2 h4 c_21, ht⟩) (fun _ h => by cases h) dX8_isPrime_47
        · skip
          refine lv_iload_n hx hb dX8_isPrime_24 rfl (lv_at hl 1 rfl) ?_
          refine lv_if_eq (tgt := 46) hx hb dX8_isPrime_25 (by decide) (fun c_25 => ?_) (fun c_25 => ?_)
          · skip
            refine lv_iload_n hx hb dX8_isPrime_46 rfl (lv_at hl 1 rfl) ?_
            exact W.zret (v := w) hx hb hr (ip_nar h4) (fun t ht hW => ⟨w, rfl, ip_end2 h4 c_25, ht⟩) (fun _ h => by cases h) dX8_isPrime_47
          · skip
            refine lv_iload_n hx hb dX8_isPrime_28 rfl (lv_at hl 0 rfl) ?_
            refine lv_iload_n hx hb dX8_isPrime_29 rfl (lv_at hl 2 rfl) ?_
            refine lv_irem hx hb dX8_isPrime_30 (nI_ne0z hz (by omega) (by omega)) ?_
            refine lv_if_eq (tgt := 38) hx hb dX8_isPrime_31 (by decide) (fun c_31 => ?_) (fun c_31 => ?_)
            · skip
              refine lv_iconst (v := 0) hx hb dX8_isPrime_38 (by decide) ?_
              refine lv_istore_n (lv' := [(1, .int 0), (0, .int n), (2, .int z)]) hx hb dX8_isPrime_39 rfl hl (by decide) rfl (fun ls hl => ?_)
              refine lv_iinc (v := (z + 1)) (lv' := [(2, .int (z + 1)), (1, .int 0), (0, .int n)]) hx hb dX8_isPrime_40 hl (k := 2) rfl rfl (by decide) rfl (fun ls hl => ?_)
              refine lv_goto (tgt := 13) hx hb dX8_isPrime_43 (by decide) ?_
              obtain ⟨g1, g2⟩ := ip_next0 hn hN hz h1 h2 h4 c_21 c_25 c_31
              exact ih (k + 1) (z + 1) _ (by rw [hz]; exact nI_1 k) (by omega) (by omega) g1 g2 ls (lv_sub hl [2, 1, 0] rfl)
            · skip
              refine lv_iconst (v := 1) hx hb dX8_isPrime_34 (by decide) ?_
              refine lv_goto (tgt := 39) hx hb dX8_isPrime_35 (by decide) ?_
              refine lv_istore_n (lv' := [(1, .int 1), (0, .int n), (2, .int z)]) hx hb dX8_isPrime_39 rfl hl (by decide) rfl (fun ls hl => ?_)
              refine lv_iinc (v := (z + 1)) (lv' := [(2, .int (z + 1)), (1, .int 1), (0, .int n)]) hx hb dX8_isPrime_40 hl (k := 2) rfl rfl (by decide) rfl (fun ls hl => ?_)
              refine lv_goto (tgt := 13) hx hb dX8_isPrime_43 (by decide) ?_
              obtain ⟨g1, g2⟩ := ip_next1 hn hN hz h1 h2 h4 c_21 c_25 c_31
              exact ih (k + 1) (z + 1) _ (by rw [hz]; exact nI_1 k) (by omega) (by omega) g1 g2 ls (lv_sub hl [2, 1, 0] rfl)
    exact loop13 2000 2 2 1 rfl (by omega) (by omega) (by omega) (ip_start1 hn hN c_2) ls (lv_sub hl [2, 1, 0] rfl)

set_option maxHeartbeats 4000000 in
set_option maxRecDepth 100000 in
theorem c_X8_empty (l : Launch) (D : va_G) (cA : Nat → ClassId) (h0 : Nat) (m0 : Int32) (m1 : Int32) (m2 : Int32) (m3 : Int32) (m4 : Int32) (m5 : Nat) (m6 : Int32) (m7 : Int32) (m8 : Int32) (m9 : Nat) (m10 : Nat) (m11 : Nat) (m12 : Int32) (m13 : Nat) (m14 : Nat) (m15 : Nat) (m16 : Nat) (m17 : Int32) (m18 : Nat) (m19 : Nat) (m20 : Nat) (m21 : Nat) (m22 : Nat) (m23 : Nat) (m24 : Nat) (m25 : Nat) (m26 : Int32) (m27 : Int32) (m28 : Int32) (m29 : Int32) (m30 : Int32) (m31 : Int32) (m32 : Nat) (m33 : Nat) (m34 : Nat) (m35 : Nat) (m36 : Int32) (m37 : Nat) (m38 : Int32) (m39 : Nat) (m40 : Nat) (m41 : Nat) (m42 : Nat) (m43 : Nat) (ga : Nat → Int32) (gb : Nat → Int32) (gc : Nat → Int32) (gd : Nat → Int32) : Met l yX8_empty wsX8_empty ({ frames := 0, cells := 0, slots := 0, locals := 0 }) (wPc vwCl D cA [(h0, .inr (7, [.int m0, .int m1, .int m2, .int m3, .int m4, .ref m5, .int m6, .int m7, .int m8, .ref m9, .ref m10, .ref m11, .int m12, .ref m13, .ref m14, .ref m15, .ref m16, .int m17, .ref m18, .ref m19, .ref m20, .ref m21, .ref m22, .ref m23, .ref m24, .ref m25, .int m26, .int m27, .int m28, .int m29, .int m30, .int m31, .ref m32, .ref m33, .ref m34, .ref m35, .int m36, .ref m37, .int m38, .ref m39, .ref m40, .ref m41, .ref m42, .ref m43])), (m18, .inl (cA 0, 40, .inl ga)), (m19, .inl (cA 0, 40, .inl gb)), (m20, .inl (cA 0, 40, .inl gc)), (m21, .inl (cA 0, 40, .inl gd))] [.ref h0]) (wq_x vwCl D [(h0, .inr (7, [.int m0, .int m1, .int m2, .int m3, .int m4, .ref m5, .int m6, .int m7, .int m8, .ref m9, .ref m10, .ref m11, .int m12, .ref m13, .ref m14, .ref m15, .ref m16, .int m17, .ref m18, .ref m19, .ref m20, .ref m21, .ref m22, .ref m23, .ref m24, .ref m25, .int m26, .int m27, .int m28, .int m29, .int m30, .int m31, .ref m32, .ref m33, .ref m34, .ref m35, .int m36, .ref m37, .int m38, .ref m39, .ref m40, .ref m41, .ref m42, .ref m43])), (m18, .inl (cA 0, 40, .inl (fun _ => -1))), (m19, .inl (cA 0, 40, .inl (fun _ => 0))), (m20, .inl (cA 0, 40, .inl (fun _ => -1))), (m21, .inl (cA 0, 40, .inl (fun _ => -1)))] none (wA [(h0, .inr (7, [.int m0, .int m1, .int m2, .int m3, .int m4, .ref m5, .int m6, .int m7, .int m8, .ref m9, .ref m10, .ref m11, .int m12, .ref m13, .ref m14, .ref m15, .ref m16, .int m17, .ref m18, .ref m19, .ref m20, .ref m21, .ref m22, .ref m23, .ref m24, .ref m25, .int m26, .int m27, .int m28, .int m29, .int m30, .int m31, .ref m32, .ref m33, .ref m34, .ref m35, .int m36, .ref m37, .int m38, .ref m39, .ref m40, .ref m41, .ref m42, .ref m43])), (m18, .inl (cA 0, 40, .inl ga)), (m19, .inl (cA 0, 40, .inl gb)), (m20, .inl (cA 0, 40, .inl gc)), (m21, .inl (cA 0, 40, .inl gd))])) 0 0 (wA [(h0, .inr (7, [.int m0, .int m1, .int m2, .int m3, .int m4, .ref m5, .int m6, .int m7, .int m8, .ref m9, .ref m10, .ref m11, .int m12, .ref m13, .ref m14, .ref m15, .ref m16, .int m17, .ref m18, .ref m19, .ref m20, .ref m21, .ref m22, .ref m23, .ref m24, .ref m25, .int m26, .int m27, .int m28, .int m29, .int m30, .int m31, .ref m32, .ref m33, .ref m34, .ref m35, .int m36, .ref m37, .int m38, .ref m39, .ref m40, .ref m41, .ref m42, .ref m43])), (m18, .inl (cA 0, 40, .inl ga)), (m19, .inl (cA 0, 40, .inl gb)), (m20, .inl (cA 0, 40, .inl gc)), (m21, .inl (cA 0, 40, .inl gd))]) := by
  refine Met.ofW (cc := cX8_empty) (maxL := 2) (ret := none) (by decide) rfl ?_
  intro p e s m args below meth c s₁ B hml hv
  obtain ⟨rfl, hP, hK, hD0⟩ := hv
  have hx := B.exec
  have hb := B.bytes
  have hr := B.returns
  have hts := atoms_spec (ws := wsX8_empty) B.pre
  have hown : s.vm.findClass RX8 = some m.cls := findClass_of_methodNamed B.named
  have hlocks := B.notSynchronized
  have hin_X8 : ∀ w ∈ wsX80, w ∈ wsX8_empty := fun w h => List.mem_cons_of_mem _ (List.mem_append_right _ h)
  have w_RX8_35 := hts (.fieldLink RX8 35 "MixElectionModel" "to" "[I") (by decide +kernel)
  have w_RX8_38 := hts (.fieldLink RX8 38 "MixElectionModel" "by" "[I") (by decide +kernel)
  have w_RX8_41 := hts (.fieldLink RX8 41 "MixElectionModel" "forgedA" "[I") (by decide +kernel)
  have w_RX8_44 := hts (.fieldLink RX8 44 "MixElectionModel" "forgedB" "[I") (by decide +kernel)
  have hD : va_D (wA [(h0, .inr (7, [.int m0, .int m1, .int m2, .int m3, .int m4, .ref m5, .int m6, .int m7, .int m8, .ref m9, .ref m10, .ref m11, .int m12, .ref m13, .ref m14, .ref m15, .ref m16, .int m17, .ref m18, .ref m19, .ref m20, .ref m21, .ref m22, .ref m23, .ref m24, .ref m25, .int m26, .int m27, .int m28, .int m29, .int m30, .int m31, .ref m32, .ref m33, .ref m34, .ref m35, .int m36, .ref m37, .int m38, .ref m39, .ref m40, .ref m41, .ref m42, .ref m43])), (m18, .inl (cA 0, 40, .inl ga)), (m19, .inl (cA 0, 40, .inl gb)), (m20, .inl (cA 0, 40, .inl gc)), (m21, .inl (cA 0, 40, .inl gd))]) [(h0, .inr (7, [.int m0, .int m1, .int m2, .int m3, .int m4, .ref m5, .int m6, .int m7, .int m8, .ref m9, .ref m10, .ref m11, .int m12, .ref m13, .ref m14, .ref m15, .ref m16, .int m17, .ref m18, .ref m19, .ref m20, .ref m21, .ref m22, .ref m23, .ref m24, .ref m25, .int m26, .int m27, .int m28, .int m29, .int m30, .int m31, .ref m32, .ref m33, .ref m34, .ref m35, .int m36, .ref m37, .int m38, .ref m39, .ref m40, .ref m41, .ref m42, .ref m43])), (m18, .inl (cA 0, 40, .inl ga)), (m19, .inl (cA 0, 40, .inl gb)), (m20, .inl (cA 0, 40, .inl gc)), (m21, .inl (cA 0, 40, .inl gd))] := ⟨hD0.1, fun k q h => List.mem_map.mpr ⟨q, List.mem_of_getElem? h, rfl⟩⟩
  have hS : va_S (wA [(h0, .inr (7, [.int m0, .int m1, .int m2, .int m3, .int m4, .ref m5, .int m6, .int m7, .int m8, .ref m9, .ref m10, .ref m11, .int m12, .ref m13, .ref m14, .ref m15, .ref m16, .int m17, .ref m18, .ref m19, .ref m20, .ref m21, .ref m22, .ref m23, .ref m24, .ref m25, .int m26, .int m27, .int m28, .int m29, .int m30, .int m31, .ref m32, .ref m33, .ref m34, .ref m35, .int m36, .ref m37, .int m38, .ref m39, .ref m40, .ref m41, .ref m42, .ref m43])), (m18, .inl (cA 0, 40, .inl ga)), (m19, .inl (cA 0, 40, .inl gb)), (m20, .inl (cA 0, 40, .inl gc)), (m21, .inl (cA 0, 40, .inl gd))]) s.heap s.heap [] := va_S.rf
  generalize hAe : wA [(h0, .inr (7, [.int m0, .int m1, .int m2, .int m3, .int m4, .ref m5, .int m6, .int m7, .int m8, .ref m9, .ref m10, .ref m11, .int m12, .ref m13, .ref m14, .ref m15, .ref m16, .int m17, .ref m18, .ref m19, .ref m20, .ref m21, .ref m22, .ref m23, .ref m24, .ref m25, .int m26, .int m27, .int m28, .int m29, .int m30, .int m31, .ref m32, .ref m33, .ref m34, .ref m35, .int m36, .ref m37, .int m38, .ref m39, .ref m40, .ref m41, .ref m42, .ref m43])), (m18, .inl (cA 0, 40, .inl ga)), (m19, .inl (cA 0, 40, .inl gb)), (m20, .inl (cA 0, 40, .inl gc)), (m21, .inl (cA 0, 40, .inl gd))] = A at hD hS ⊢
  have hP : va_P D vwCl [(h0, .inr (7, [.int m0, .int m1, .int m2, .int m3, .int m4, .ref m5, .int m6, .int m7, .int m8, .ref m9, .ref m10, .ref m11, .int m12, .ref m13, .ref m14, .ref m15, .ref m16, .int m17, .ref m18, .ref m19, .ref m20, .ref m21, .ref m22, .ref m23, .ref m24, .ref m25, .int m26, .int m27, .int m28, .int m29, .int m30, .int m31, .ref m32, .ref m33, .ref m34, .ref m35, .int m36, .ref m37, .int m38, .ref m39, .ref m40, .ref m41, .ref m42, .ref m43])), (m18, .inl (cA 0, 40, .inl ga)), (m19, .inl (cA 0, 40, .inl gb)), (m20, .inl (cA 0, 40, .inl gc)), (m21, .inl (cA 0, 40, .inl gd))] s.heap := hP
  have hl := lv_entry ([.ref h0]) (n := 2) (Nat.le_of_ble_eq_true rfl)
  rw [lg_entry_eq]
  generalize (lg_sl ([.ref h0]) ++ List.replicate (2 - (lg_sl ([.ref h0])).length) Slot.unset).toArray = ls at hl ⊢
  have hl : lv_has ls 2 [(0, .ref h0)] := hl
  refine lv_iconst (v := 0) hx hb dX8_empty_0 (by decide) ?_
  refine lv_istore_n (lv' := [(1, .int 0), (0, .ref h0)]) hx hb dX8_empty_1 rfl hl (by decide) rfl (fun ls hl => ?_)
  have loop2 : ∀ (f k : Nat) (z : Int32) (f1 f2 f3 f4 : Nat → Int32), z = nI k → 41 ≤ k + f → k ≤ 40 → (∀ j : Nat, j < k → f1 j = -1) → (∀ j : Nat, j < k → f2 j = 0) → (∀ j : Nat, j < k → f3 j = -1) → (∀ j : Nat, j < k → f4 j = -1) → ∀ (H : Heap) (locs : List Loc), va_P D vwCl [(h0, .inr (7, [.int m0, .int m1, .int m2, .int m3, .int m4, .ref m5, .int m6, .int m7, .int m8, .ref m9, .ref m10, .ref m11, .int m12, .ref m13, .ref m14, .ref m15, .ref m16, .int m17, .ref m18, .ref m19, .ref m20, .ref m21, .ref m22, .ref m23, .ref m24, .ref m25, .int m26, .int m27, .int m28, .int m29, .int m30, .int m31, .ref m32, .ref m33, .ref m34, .ref m35, .int m36, .ref m37, .int m38, .ref m39, .ref m40, .ref m41, .ref m42, .ref m43])), (m18, .inl (cA 0, 40, .inl f1)), (m19, .inl (cA 0, 40, .inl f2)), (m20, .inl (cA 0, 40, .inl f3)), (m21, .inl (cA 0, 40, .inl f4))] H → va_D A [(h0, .inr (7, [.int m0, .int m1, .int m2, .int m3, .int m4, .ref m5, .int m6, .int m7, .int m8, .ref m9, .ref m10, .ref m11, .int m12, .ref m13, .ref m14, .ref m15, .ref m16, .int m17, .ref m18, .ref m19, .ref m20, .ref m21, .ref m22, .ref m23, .ref m24, .ref m25, .int m26, .int m27, .int m28, .int m29, .int m30, .int m31, .ref m32, .ref m33, .ref m34, .ref m35, .int m36, .ref m37, .int m38, .ref m39, .ref m40, .ref m41, .ref m42, .ref m43])), (m18, .inl (cA 0, 40, .inl f1)), (m19, .inl (cA 0, 40, .inl f2)), (m20, .inl (cA 0, 40, .inl f3)), (m21, .inl (cA 0, 40, .inl f4))] → va_S A s.heap H locs → ∀ ls : Array Slot, lv_has ls 2 [(0, .ref h0), (1, .int z)] → W p l e (headSpec wsX8_empty ({ frames := 0, cells := 0, slots := 0, locals := 0 })).room s m [.ref h0].toArray below meth c H locs 0 0 (MQ below (wq_x vwCl D [(h0, .inr (7, [.int m0, .int m1, .int m2, .int m3, .int m4, .ref m5, .int m6, .int m7, .int m8, .ref m9, .ref m10, .ref m11, .int m12, .ref m13, .ref m14, .ref m15, .ref m16, .int m17, .ref m18, .ref m19, .ref m20, .ref m21, .ref m22, .ref m23, .ref m24, .ref m25, .int m26, .int m27, .int m28, .int m29, .int m30, .int m31, .ref m32, .ref m33, .ref m34, .ref m35, .int m36, .ref m37, .int m38, .ref m39, .ref m40, .ref m41, .ref m42, .ref m43])), (m18, .inl (cA 0, 40, .inl (fun _ => -1))), (m19, .inl (cA 0, 40, .inl (fun _ => 0))), (m20, .inl (cA 0, 40, .inl (fun _ => -1))), (m21, .inl (cA 0, 40, .inl (fun _ => -1)))] none A) [.ref h0].toArray s 0 0 A) (F0 m 2 ls []) := by
    intro f
    induction f with
    | zero =>
      intro k z f1 f2 f3 f4 hz h1 h2
      omega
    | succ f ih =>
      intro k z f1 f2 f3 f4 hz h1 h2 h3 h4 h5 h6 H locs hP hD hS ls hl
      refine lv_iload_n hx hb dX8_empty_2 rfl (lv_at hl 1 rfl) ?_
      refine lv_bipush (v := 40) hx hb dX8_empty_3 (by decide) ?_
      refine lv_icmp_ge (tgt := 42) hx hb dX8_empty_5 (by decide) (fun c_5 => ?_) (fun c_5 => ?_)
      · skip
        have hP9 : va_P D vwCl [(h0, .inr (7, [.int m0, .int m1, .int m2, .int m3, .int m4, .ref m5, .int m6, .int m7, .int m8, .ref m9, .ref m10, .ref m11, .int m12, .ref m13, .ref m14, .ref m15, .ref m16, .int m17, .ref m18, .ref m19, .ref m20, .ref m21, .ref m22, .ref m23, .ref m24, .ref m25, .int m26, .int m27, .int m28, .int m29, .int m30, .int m31, .ref m32, .ref m33, .ref m34, .ref m35, .int m36, .ref m37, .int m38, .ref m39, .ref m40, .ref m41, .ref m42, .ref m43])), (m18, .inl (cA 0, 40, .inl (fun _ => -1))), (m19, .inl (cA 0, 40, .inl (fun _ => 0))), (m20, .inl (cA 0, 40, .inl (fun _ => -1))), (m21, .inl (cA 0, 40, .inl (fun _ => -1)))] H := (((hP.arr 1 rfl (em_all hz h2 h3 c_5)).arr 2 rfl (em_all hz h2 h4 c_5)).arr 3 rfl (em_all hz h2 h5 c_5)).arr 4 rfl (em_all hz h2 h6 c_5)
        exact W.vret hx hb hr (fun t ht hW => ⟨rfl, by rw [ht]; exact hP9, hS.F ht⟩) hS.2.2 dX8_empty_42
      · skip
        refine lv_aload_n hx hb dX8_empty_8 rfl (lv_at hl 0 rfl) ?_
        refine va_get (D := D) (ci := 7) (v := .ref m18) (C := RX8) (T := TX8) (N := 44) hx hb hts hin_X8 hown hK hP 0 rfl rfl 18 (by decide) (w_RX8_35) (fun _ h9 => h9) rfl dX8_empty_9 ?_
        refine lv_iload_n hx hb dX8_empty_12 rfl (lv_at hl 1 rfl) ?_
        refine lv_iconst (v := (-1)) hx hb dX8_empty_13 (by decide) ?_
        refine va_iast hx hb hK hP hD hS 1 0 rfl rfl (em_in hz h2 c_5) dX8_empty_14 (fun H locs hP hD hS => ?_)
        have hP : va_P D vwCl [(h0, .inr (7, [.int m0, .int m1, .int m2, .int m3, .int m4, .ref m5, .int m6, .int m7, .int m8, .ref m9, .ref m10, .ref m11, .int m12, .ref m13, .ref m14, .ref m15, .ref m16, .int m17, .ref m18, .ref m19, .ref m20, .ref m21, .ref m22, .ref m23, .ref m24, .ref m25, .int m26, .int m27, .int m28, .int m29, .int m30, .int m31, .ref m32, .ref m33, .ref m34, .ref m35, .int m36, .ref m37, .int m38, .ref m39, .ref m40, .ref m41, .ref m42, .ref m43])), (m18, .inl (cA 0, 40, .inl (upd f1 z.toNatClampNeg (-1)))), (m19, .inl (cA 0, 40, .inl f2)), (m20, .inl (cA 0, 40, .inl f3)), (m21, .inl (cA 0, 40, .inl f4))] H := hP
        have hD : va_D A [(h0, .inr (7, [.int m0, .int m1, .int m2, .int m3, .int m4, .ref m5, .int m6, .int m7, .int m8, .ref m9, .ref m10, .ref m11, .int m12, .ref m13, .ref m14, .ref m15, .ref m16, .int m17, .ref m18, .ref m19, .ref m20, .ref m21, .ref m22, .ref m23, .ref m24, .ref m25, .int m26, .int m27, .int m28, .int m29, .int m30, .int m31, .ref m32, .ref m33, .ref m34, .ref m35, .int m36, .ref m37, .int m38, .ref m39, .ref m40, .ref m41, .ref m42, .ref m43])), (m18, .inl (cA 0, 40, .inl (upd f1 z.toNatClampNeg (-1)))), (m19, .inl (cA 0, 40, .inl f2)), (m20, .inl (cA 0, 40, .inl f3)), (m21, .inl (cA 0, 40, .inl f4))] := hD
        refine lv_aload_n hx hb dX8_empty_15 rfl (lv_at hl 0 rfl) ?_
        refine va_get (D := D) (ci := 7) (v := .ref m19) (C := RX8) (T := TX8) (N := 44) hx hb hts hin_X8 hown hK hP 0 rfl rfl 19 (by decide) (w_RX8_38) (fun _ h9 => h9) rfl dX8_empty_16 ?_
        refine lv_iload_n hx hb dX8_empty_19 rfl (lv_at hl 1 rfl) ?_
        refine lv_iconst (v := 0) hx hb dX8_empty_20 (by decide) ?_
        refine va_iast hx hb hK hP hD hS 2 0 rfl rfl (em_in hz h2 c_5) dX8_empty_21 (fun H locs hP hD hS => ?_)
        have hP : va_P D vwCl [(h0, .inr (7, [.int m0, .int m1, .int m2, .int m3, .int m4, .ref m5, .int m6, .int m7, .int m8, .ref m9, .ref m10, .ref m11, .int m12, .ref m13, .ref m14, .ref m15, .ref m16, .int m17, .ref m18, .ref m19, .ref m20, .ref m21, .ref m22, .ref m23, .ref m24, .ref m25, .int m26, .int m27, .int m28, .int m29, .int m30, .int m31, .ref m32, .ref m33, .ref m34, .ref m35, .int m36, .ref m37, .int m38, .ref m39, .ref m40, .ref m41, .ref m42, .ref m43])), (m18, .inl (cA 0, 40, .inl (upd f1 z.toNatClampNeg (-1)))), (m19, .inl (cA 0, 40, .inl (upd f2 z.toNatClampNeg 0))), (m20, .inl (cA 0, 40, .inl f3)), (m21, .inl (cA 0, 40, .inl f4))] H := hP
        have hD : va_D A [(h0, .inr (7, [.int m0, .int m1, .int m2, .int m3, .int m4, .ref m5, .int m6, .int m7, .int m8, .ref m9, .ref m10, .ref m11, .int m12, .ref m13, .ref m14, .ref m15, .ref m16, .int m17, .ref m18, .ref m19, .ref m20, .ref m21, .ref m22, .ref m23, .ref m24, .ref m25, .int m26, .int m27, .int m28, .int m29, .int m30, .int m31, .ref m32, .ref m33, .ref m34, .ref m35, .int m36, .ref m37, .int m38, .ref m39, .ref m40, .ref m41, .ref m42, .ref m43])), (m18, .inl (cA 0, 40, .inl (upd f1 z.toNatClampNeg (-1)))), (m19, .inl (cA 0, 40, .inl (upd f2 z.toNatClampNeg 0))), (m20, .inl (cA 0, 40, .inl f3)), (m21, .inl (cA 0, 40, .inl f4))] := hD
        refine lv_aload_n hx hb dX8_empty_22 rfl (lv_at hl 0 rfl) ?_
        refine va_get (D := D) (ci := 7) (v := .ref m20) (C := RX8) (T := TX8) (N := 44) hx hb hts hin_X8 hown hK hP 0 rfl rfl 20 (by decide) (w_RX8_41) (fun _ h9 => h9) rfl dX8_empty_23 ?_
        refine lv_iload_n hx hb dX8_empty_26 rfl (lv_at hl 1 rfl) ?_
        refine lv_iconst (v := (-1)) hx hb dX8_empty_27 (by decide) ?_
        refine va_iast hx hb hK hP hD hS 3 0 rfl rfl (em_in hz h2 c_5) dX8_empty_28 (fun H locs hP hD hS => ?_)
        have hP : va_P D vwCl [(h0, .inr (7, [.int m0, .int m1, .int m2, .int m3, .int m4, .ref m5, .int m6, .int m7, .int m8, .ref m9, .ref m10, .ref m11, .int m12, .ref m13, .ref m14, .ref m15, .ref m16, .int m17, .ref m18, .ref m19, .ref m20, .ref m21, .ref m22, .ref m23, .ref m24, .ref m25, .int m26, .int m27, .int m28, .int m29, .int m30, .int m31, .ref m32, .ref m33, .ref m34, .ref m35, .int m36, .ref m37, .int m38, .ref m39, .ref m40, .ref m41, .ref m42, .ref m43])), (m18, .inl (cA 0, 40, .inl (upd f1 z.toNatClampNeg (-1)))), (m19, .inl (cA 0, 40, .inl (upd f2 z.toNatClampNeg 0))), (m20, .inl (cA 0, 40, .inl (upd f3 z.toNatClampNeg (-1)))), (m21, .inl (cA 0, 40, .inl f4))] H := hP
        have hD : va_D A [(h0, .inr (7, [.int m0, .int m1, .int m2, .int m3, .int m4, .ref m5, .int m6, .int m7, .int m8, .ref m9, .ref m10, .ref m11, .int m12, .ref m13, .ref m14, .ref m15, .ref m16, .int m17, .ref m18, .ref m19, .ref m20, .ref m21, .ref m22, .ref m23, .ref m24, .ref m25, .int m26, .int m27, .int m28, .int m29, .int m30, .int m31, .ref m32, .ref m33, .ref m34, .ref m35, .int m36, .ref m37, .int m38, .ref m39, .ref m40, .ref m41, .ref m42, .ref m43])), (m18, .inl (cA 0, 40, .inl (upd f1 z.toNatClampNeg (-1)))), (m19, .inl (cA 0, 40, .inl (upd f2 z.toNatClampNeg 0))), (m20, .inl (cA 0, 40, .inl (upd f3 z.toNatClampNeg (-1)))), (m21, .inl (cA 0, 40, .inl f4))] := hD
        refine lv_aload_n hx hb dX8_empty_29 rfl (lv_at hl 0 rfl) ?_
        refine va_get (D := D) (ci := 7) (v := .ref m21) (C := RX8) (T := TX8) (N := 44) hx hb hts hin_X8 hown hK hP 0 rfl rfl 21 (by decide) (w_RX8_44) (fun _ h9 => h9) rfl dX8_empty_30 ?_
        refine lv_iload_n hx hb dX8_empty_33 rfl (lv_at hl 1 rfl) ?_
        refine lv_iconst (v := (-1)) hx hb dX8_empty_34 (by decide) ?_
        refine va_iast hx hb hK hP hD hS 4 0 rfl rfl (em_in hz h2 c_5) dX8_empty_35 (fun H locs hP hD hS => ?_)
        have hP : va_P D vwCl [(h0, .inr (7, [.int m0, .int m1, .int m2, .int m3, .int m4, .ref m5, .int m6, .int m7, .int m8, .ref m9, .ref m10, .ref m11, .int m12, .ref m13, .ref m14, .ref m15, .ref m16, .int m17, .ref m18, .ref m19, .ref m20, .ref m21, .ref m22, .ref m23, .ref m24, .ref m25, .int m26, .int m27, .int m28, .int m29, .int m30, .int m31, .ref m32, .ref m33, .ref m34, .ref m35, .int m36, .ref m37, .int m38, .ref m39, .ref m40, .ref m41, .ref m42, .ref m43])), (m18, .inl (cA 0, 40, .inl (upd f1 z.toNatClampNeg (-1)))), (m19, .inl (cA 0, 40, .inl (upd f2 z.toNatClampNeg 0))), (m20, .inl (cA 0, 40, .inl (upd f3 z.toNatClampNeg (-1)))), (m21, .inl (cA 0, 40, .inl (upd f4 z.toNatClampNeg (-1))))] H := hP
        have hD : va_D A [(h0, .inr (7, [.int m0, .int m1, .int m2, .int m3, .int m4, .ref m5, .int m6, .int m7, .int m8, .ref m9, .ref m10, .ref m11, .int m12, .ref m13, .ref m14, .ref m15, .ref m16, .int m17, .ref m18, .ref m19, .ref m20, .ref m21, .ref m22, .ref m23, .ref m24, .ref m25, .int m26, .int m27, .int m28, .int m29, .int m30, .int m31, .ref m32, .ref m33, .ref m34, .ref m35, .int m36, .ref m37, .int m38, .ref m39, .ref m40, .ref m41, .ref m42, .ref m43])), (m18, .inl (cA 0, 40, .inl (upd f1 z.toNatClampNeg (-1)))), (m19, .inl (cA 0, 40, .inl (upd f2 z.toNatClampNeg 0))), (m20, .inl (cA 0, 40, .inl (upd f3 z.toNatClampNeg (-1)))), (m21, .inl (cA 0, 40, .inl (upd f4 z.toNatClampNeg (-1))))] := hD
        refine lv_iinc (v := (z + 1)) (lv' := [(1, .int (z + 1)), (0, .ref h0)]) hx hb dX8_empty_36 hl (k := 1) rfl rfl (by decide) rfl (fun ls hl => ?_)
        refine lv_goto (tgt := 2) hx hb dX8_empty_39 (by decide) ?_
        exact ih (k + 1) (z + 1) _ _ _ _ (by rw [hz]; exact nI_1 k) (by omega) (em_lt hz h2 c_5) (em_step hz h2 h3) (em_step hz h2 h4) (em_step hz h2 h5) (em_step hz h2 h6) _ _ hP hD hS ls (lv_sub hl [1, 0] rfl)
  exact loop2 41 0 0 ga gb gc gd rfl (by omega) (by omega) (fun j h => by omega) (fun j h => by omega) (fun j h => by omega) (fun j h => by omega) _ _ hP hD hS ls (lv_sub hl [1, 0] rfl)
