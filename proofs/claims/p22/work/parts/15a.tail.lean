/-! Worlds with a tail (the rows of gifts): a call that hasn't it, a call that has it; arrays of references whose element is known. -/
/-- n rows of 40 numbers at ra, ra + 1 .. -/
def rwT (cA : Nat → ClassId) (ra : Nat) (gf : Nat → Nat → Int32) (n : Nat) : va_W := (List.range n).map (fun j => (ra + j, .inl (cA 0, 40, .inl (gf j))))
theorem rwT_get {cA : Nat → ClassId} {ra n j : Nat} {gf : Nat → Nat → Int32} (h : j < n) : (rwT cA ra gf n)[j]? = some (ra + j, .inl (cA 0, 40, .inl (gf j))) := by
  simp [rwT, h]
theorem rwT_at {cA : Nat → ClassId} {ra n j k : Nat} {gf : Nat → Nat → Int32} {X : va_W} (hk : k = X.length + j) (h : j < n) : (X ++ rwT cA ra gf n)[k]? = some (ra + j, .inl (cA 0, 40, .inl (gf j))) := by
  subst hk
  rw [List.getElem?_append_right (by omega), Nat.add_sub_cancel_left]
  exact rwT_get h
/-- row j of a grid becomes g -/
def upr (gf : Nat → Nat → Int32) (j : Nat) (g : Nat → Int32) : Nat → Nat → Int32 := fun k => if k = j then g else gf k
theorem rwT_set {cA : Nat → ClassId} {ra n j k : Nat} {gf : Nat → Nat → Int32} {g : Nat → Int32} {X : va_W} (hk : k = X.length + j) : (X ++ rwT cA ra gf n).set k (ra + j, .inl (cA 0, 40, .inl g)) = X ++ rwT cA ra (upr gf j g) n := by
  subst hk
  rw [List.set_append_right _ _ (by omega), Nat.add_sub_cancel_left]
  congr 1
  apply List.ext_getElem?
  intro i
  by_cases e : i = j
  · subst e
    by_cases hi : i < n
    · rw [rwT_get hi, List.getElem?_set_self (by simp [rwT, hi])]
      simp [upr]
    · rw [List.getElem?_eq_none (by simp [rwT]; omega), List.getElem?_eq_none (by simp [rwT]; omega)]
  · rw [List.getElem?_set_ne (fun q => e q.symm)]
    by_cases hi : i < n
    · rw [rwT_get hi, rwT_get hi]
      simp [upr, e]
    · rw [List.getElem?_eq_none (by simp [rwT]; omega), List.getElem?_eq_none (by simp [rwT]; omega)]
theorem rwT_fst {cA : Nat → ClassId} {ra n : Nat} {gf gg : Nat → Nat → Int32} : (rwT cA ra gf n).map Prod.fst = (rwT cA ra gg n).map Prod.fst := by
  simp [rwT]
theorem va_D.like {A : Nat → Prop} {ws ws' : va_W} (hD : va_D A ws) (had : ws'.map Prod.fst = ws.map Prod.fst) : va_D A ws' := by
  have ad : ∀ (k : Nat) (q : Nat × va_E), ws'[k]? = some q → ∃ q', ws[k]? = some q' ∧ q'.1 = q.1 := by
    intro k q hq
    have h1 : (ws'.map Prod.fst)[k]? = some q.1 := by rw [List.getElem?_map, hq]; rfl
    rw [had, List.getElem?_map] at h1
    cases hi : ws[k]? with
    | none => rw [hi] at h1; cases h1
    | some q' => rw [hi] at h1; exact ⟨q', rfl, Option.some.inj h1⟩
  refine ⟨fun i j x y hi hj hxy => ?_, fun k q hq => ?_⟩
  · obtain ⟨x', hx1, hx2⟩ := ad i x hi
    obtain ⟨y', hy1, hy2⟩ := ad j y hj
    exact hD.1 i j x' y' hx1 hy1 (by rw [hx2, hy2, hxy])
  · obtain ⟨q', h1, h2⟩ := ad k q hq
    rw [← h2]
    exact hD.2 k q' h1
theorem va_D.arr {A : Nat → Prop} {ws : va_W} {a n : Nat} {cA : ClassId} {g g' : Nat → Int32} (hD : va_D A ws) (k : Nat) (hk : ws[k]? = some (a, .inl (cA, n, .inl g))) : va_D A (ws.set k (a, .inl (cA, n, .inl g'))) := hD.set hk
section TL
variable {p : Program} {l : Launch} {e : Env} {R : Room} {s : State} {m : MethodId} {args : Array Value} {below : List Frame} {meth : Method} {c : Code} {H : Heap} {locs : List Loc} {cells slots : Nat} {Q : State → Prop}
variable {pc : Nat} {ls : Array Slot} {rest st0 : List Value} {a : Array Value} {A0 A1 : Nat → Prop} {H0 : Heap} {mc ms : Nat} {D : va_G} {cA : Nat → ClassId} {cl : List vw_C}
theorem wq_joinG {ws wc w1 ws' : va_W} {H1 : Heap} (hP : va_P D cl ws H) (hcov : ∀ (k : Nat) (q : Nat × va_E), ws'[k]? = some q → (∃ j : Nat, w1[j]? = some q) ∨ (ws[k]? = some q ∧ ¬ wA wc q.1))
    (hk : ∀ q : Nat, q < H.size → ¬ wA wc q → H1[q]? = H[q]?) (hP1 : va_P D cl w1 H1) : va_P D cl ws' H1 := by
  intro k q hq
  rcases hcov k q hq with ⟨j, hj⟩ | ⟨h1, h2⟩
  · exact hP1 j q hj
  · exact (hP k q h1).kept (hk q.1 (hP k q h1).lt h2)
theorem wq_pick {ws v : va_W} {is : List Nat} (hs : is.map (fun i => ws[i]?) = v.map some) (k : Nat) (q : Nat × va_E) (hq : v[k]? = some q) : ∃ i, is[k]? = some i ∧ ws[i]? = some q := va_in_of is hs hq
/-- what a call did, in a world with a tail; cx: the callee's cells ahead of its own tail pc, which is the caller's or nothing -/
theorem wq_cov {X cx rx X' pl : va_W} (hD : va_D A0 (X ++ pl)) (isC isR : List Nat) (hC : isC.map (fun i => X[i]?) = cx.map some) (hC1 : isC.map (fun i => X'[i]?) = rx.map some) (hR : isR.map (fun i => X'[i]?) = isR.map (fun i => X[i]?))
    (hall : (List.range X'.length).all (fun k => isC.contains k || (isR.contains k && !isC.contains k)) = true) (k : Nat) (q : Nat × va_E) (hlt : k < X'.length) (hq : X'[k]? = some q) : (∃ j : Nat, rx[j]? = some q) ∨ ((X ++ pl)[k]? = some q ∧ ¬ wA cx q.1 ∧ ∀ (i : Nat) (z : Nat × va_E), pl[i]? = some z → ¬ z.1 = q.1) := by
  have hc := List.all_eq_true.mp hall k (List.mem_range.mpr hlt)
  simp only [Bool.or_eq_true, Bool.and_eq_true, List.contains_iff_mem, Bool.not_eq_true', decide_eq_false_iff_not] at hc
  rcases hc with hc | ⟨hc, hn⟩
  · left
    obtain ⟨j, hj⟩ := List.getElem?_of_mem hc
    have h2 : (isC.map (fun i => X'[i]?))[j]? = some (some q) := by rw [List.getElem?_map, hj]; exact congrArg some hq
    rw [hC1, List.getElem?_map] at h2
    cases hw1 : rx[j]? with
    | none => rw [hw1] at h2; cases h2
    | some z => rw [hw1] at h2; exact ⟨j, by rw [hw1]; exact congrArg some (Option.some.inj (Option.some.inj h2))⟩
  · right
    obtain ⟨j, hj⟩ := List.getElem?_of_mem hc
    have h2 : (isR.map (fun i => X'[i]?))[j]? = some (some q) := by rw [List.getElem?_map, hj]; exact congrArg some hq
    rw [hR, List.getElem?_map, hj] at h2
    have hwk : X[k]? = some q := Option.some.inj h2
    have hkl : k < X.length := (List.getElem?_eq_some_iff.mp hwk).1
    have hXk : (X ++ pl)[k]? = some q := by rw [List.getElem?_append_left hkl]; exact hwk
    refine ⟨hXk, fun hm => ?_, fun i z hz hzq => ?_⟩
    · obtain ⟨z, hz, hze⟩ := List.mem_map.mp hm
      obtain ⟨j2, hj2⟩ := List.getElem?_of_mem hz
      obtain ⟨i2, h5, h6⟩ := va_in_of isC hC hj2
      have h6' : (X ++ pl)[i2]? = some z := by rw [List.getElem?_append_left (List.getElem?_eq_some_iff.mp h6).1]; exact h6
      have he := hD.1 k i2 q z hXk h6' hze.symm
      rw [he] at hn
      have : isC.contains i2 = true := List.contains_iff_mem.mpr (List.mem_of_getElem? h5)
      rw [this] at hn
      cases hn
    · have h7 : (X ++ pl)[X.length + i]? = some z := by rw [List.getElem?_append_right (by omega), Nat.add_sub_cancel_left]; exact hz
      have he := hD.1 k (X.length + i) q z hXk h7 hzq.symm
      omega
theorem wq_fstA {X X' pl pl1 : va_W} (h1 : X'.map Prod.fst = X.map Prod.fst) (h2 : pl1.map Prod.fst = pl.map Prod.fst) : (X' ++ pl1).map Prod.fst = (X ++ pl).map Prod.fst := by rw [List.map_append, List.map_append, h1, h2]
theorem wq_inT {X cx pl : va_W} (hD : va_D A0 (X ++ pl)) (isC : List Nat) (hC : isC.map (fun i => X[i]?) = cx.map some) : ∀ q, wA cx q → A0 q := fun q hm => by
  obtain ⟨z, hz, hze⟩ := List.mem_map.mp hm
  obtain ⟨j, hj⟩ := List.getElem?_of_mem hz
  obtain ⟨i, _, h2⟩ := va_in_of isC hC hj
  rw [← hze]
  exact hD.2 i z (by rw [List.getElem?_append_left (List.getElem?_eq_some_iff.mp h2).1]; exact h2)
theorem wq_inTT {X cx pl : va_W} (hD : va_D A0 (X ++ pl)) (isC : List Nat) (hC : isC.map (fun i => X[i]?) = cx.map some) : ∀ q, wA (cx ++ pl) q → A0 q := fun q hm => by
  have hm' : q ∈ (cx ++ pl).map Prod.fst := hm
  rw [List.map_append, List.mem_append] at hm'
  rcases hm' with h | h
  · exact wq_inT hD isC hC q h
  · obtain ⟨z, hz, hze⟩ := List.mem_map.mp h
    obtain ⟨j, hj⟩ := List.getElem?_of_mem hz
    rw [← hze]
    exact hD.2 (X.length + j) z (by rw [List.getElem?_append_right (by omega), Nat.add_sub_cancel_left]; exact hj)
theorem wq_joinT {X cx rx X' pl : va_W} {H1 : Heap} (hP : va_P D cl (X ++ pl) H) (hD : va_D A0 (X ++ pl)) (isC isR : List Nat) (hC : isC.map (fun i => X[i]?) = cx.map some) (hC1 : isC.map (fun i => X'[i]?) = rx.map some) (hR : isR.map (fun i => X'[i]?) = isR.map (fun i => X[i]?)) (had : X'.map Prod.fst = X.map Prod.fst)
    (hall : (List.range X'.length).all (fun k => isC.contains k || (isR.contains k && !isC.contains k)) = true)
    (hk : ∀ q : Nat, q < H.size → ¬ wA cx q → H1[q]? = H[q]?) (hP1 : va_P D cl rx H1) : va_P D cl (X' ++ pl) H1 ∧ va_D A0 (X' ++ pl) := by
  have hlen : X'.length = X.length := by have := congrArg List.length had; simpa using this
  refine ⟨wq_joinG hP (fun k q hq => ?_) hk hP1, hD.like (wq_fstA had rfl)⟩
  by_cases hlt : k < X'.length
  · rw [List.getElem?_append_left hlt] at hq
    rcases wq_cov hD isC isR hC hC1 hR hall k q hlt hq with h | ⟨h1, h2, _⟩
    · exact Or.inl h
    · exact Or.inr ⟨h1, h2⟩
  · right
    rw [List.getElem?_append_right (by omega), hlen] at hq
    have hq2 : (X ++ pl)[k]? = some q := by rw [List.getElem?_append_right (by omega)]; exact hq
    refine ⟨hq2, fun hm => ?_⟩
    obtain ⟨z, hz, hze⟩ := List.mem_map.mp hm
    obtain ⟨j2, hj2⟩ := List.getElem?_of_mem hz
    obtain ⟨i2, _, h6⟩ := va_in_of isC hC hj2
    have hl2 := (List.getElem?_eq_some_iff.mp h6).1
    have he := hD.1 k i2 q z hq2 (by rw [List.getElem?_append_left hl2]; exact h6) hze.symm
    omega
theorem wq_joinTT {X cx rx X' pl pl1 : va_W} {H1 : Heap} (hP : va_P D cl (X ++ pl) H) (hD : va_D A0 (X ++ pl)) (isC isR : List Nat) (hC : isC.map (fun i => X[i]?) = cx.map some) (hC1 : isC.map (fun i => X'[i]?) = rx.map some) (hR : isR.map (fun i => X'[i]?) = isR.map (fun i => X[i]?)) (had : X'.map Prod.fst = X.map Prod.fst) (hpl : pl1.map Prod.fst = pl.map Prod.fst)
    (hall : (List.range X'.length).all (fun k => isC.contains k || (isR.contains k && !isC.contains k)) = true)
    (hk : ∀ q : Nat, q < H.size → ¬ wA (cx ++ pl) q → H1[q]? = H[q]?) (hP1 : va_P D cl (rx ++ pl1) H1) : va_P D cl (X' ++ pl1) H1 ∧ va_D A0 (X' ++ pl1) := by
  have hlen : X'.length = X.length := by have := congrArg List.length had; simpa using this
  refine ⟨wq_joinG hP (fun k q hq => ?_) hk hP1, hD.like (wq_fstA had hpl)⟩
  by_cases hlt : k < X'.length
  · rw [List.getElem?_append_left hlt] at hq
    rcases wq_cov hD isC isR hC hC1 hR hall k q hlt hq with ⟨j, hj⟩ | ⟨h1, h2, h3⟩
    · exact Or.inl ⟨j, by rw [List.getElem?_append_left (List.getElem?_eq_some_iff.mp hj).1]; exact hj⟩
    · refine Or.inr ⟨h1, fun hm => ?_⟩
      have hm' : q.1 ∈ (cx ++ pl).map Prod.fst := hm
      rw [List.map_append, List.mem_append] at hm'
      rcases hm' with h | h
      · exact h2 h
      · obtain ⟨z, hz, hze⟩ := List.mem_map.mp h
        obtain ⟨j, hj⟩ := List.getElem?_of_mem hz
        exact h3 j z hj hze
  · left
    rw [List.getElem?_append_right (by omega)] at hq
    exact ⟨rx.length + (k - X'.length), by rw [List.getElem?_append_right (by omega), Nat.add_sub_cancel_left]; exact hq⟩
theorem wt_call1 {X cx rx X' pl : va_W} {v : Value} (hr : va_Run p l e R s m args below meth c H locs cells slots 0 0 (F0 m pc ls st0) rest (wq_x cl D rx (some v) (wA cx) a) (wA cx)) (hP : va_P D cl (X ++ pl) H) (hD : va_D A0 (X ++ pl)) (hS : va_S A0 H0 H locs) (isC isR : List Nat) (hC : isC.map (fun i => X[i]?) = cx.map some) (hC1 : isC.map (fun i => X'[i]?) = rx.map some) (hR : isR.map (fun i => X'[i]?) = isR.map (fun i => X[i]?)) (had : X'.map Prod.fst = X.map Prod.fst)
    (hall : (List.range X'.length).all (fun k => isC.contains k || (isR.contains k && !isC.contains k)) = true)
    (kk : ∀ (H : Heap) (locs : List Loc), va_P D cl (X' ++ pl) H → va_D A0 (X' ++ pl) → va_S A0 H0 H locs → W p l e R s m args below meth c H locs cells slots Q (F0 m (pc + 3) ls (v :: rest))) : W p l e R s m args below meth c H locs cells slots Q (F0 m pc ls st0) := by
  intro T hT X0
  obtain ⟨v, st₀, t, T', L, h0, X1, hL, e1, e2, ⟨hv, hp1, hz, hk⟩, st⟩ := hr T hT X0
  cases hv
  rw [h0] at hz hk
  obtain ⟨g1, g2⟩ := wq_joinT (X' := X') hP hD isC isR hC hC1 hR had hall (H1 := T'.heap) (fun q h1 h2 => by rw [e1]; exact hk q h1 h2) (by rw [e1]; exact hp1)
  obtain ⟨t2, a1, b1⟩ := kk T'.heap (locs ++ L) g1 g2 (wq_S hS (wq_inT hD isC hC) hz hk hL e1) T' rfl X1
  exact ⟨t2, st t2 a1, b1⟩
theorem wt_call0 {X cx rx X' pl : va_W} (hr : va_Run p l e R s m args below meth c H locs cells slots 0 0 (F0 m pc ls st0) rest (wq_x cl D rx none (wA cx) a) (wA cx)) (hP : va_P D cl (X ++ pl) H) (hD : va_D A0 (X ++ pl)) (hS : va_S A0 H0 H locs) (isC isR : List Nat) (hC : isC.map (fun i => X[i]?) = cx.map some) (hC1 : isC.map (fun i => X'[i]?) = rx.map some) (hR : isR.map (fun i => X'[i]?) = isR.map (fun i => X[i]?)) (had : X'.map Prod.fst = X.map Prod.fst)
    (hall : (List.range X'.length).all (fun k => isC.contains k || (isR.contains k && !isC.contains k)) = true)
    (kk : ∀ (H : Heap) (locs : List Loc), va_P D cl (X' ++ pl) H → va_D A0 (X' ++ pl) → va_S A0 H0 H locs → W p l e R s m args below meth c H locs cells slots Q (F0 m (pc + 3) ls rest)) : W p l e R s m args below meth c H locs cells slots Q (F0 m pc ls st0) := by
  intro T hT X0
  obtain ⟨v, st₀, t, T', L, h0, X1, hL, e1, e2, ⟨hv, hp1, hz, hk⟩, st⟩ := hr T hT X0
  cases hv
  rw [h0] at hz hk
  obtain ⟨g1, g2⟩ := wq_joinT (X' := X') hP hD isC isR hC hC1 hR had hall (H1 := T'.heap) (fun q h1 h2 => by rw [e1]; exact hk q h1 h2) (by rw [e1]; exact hp1)
  obtain ⟨t2, a1, b1⟩ := kk T'.heap (locs ++ L) g1 g2 (wq_S hS (wq_inT hD isC hC) hz hk hL e1) T' rfl X1
  exact ⟨t2, st t2 a1, b1⟩
theorem wu_call1 {X cx rx X' pl pl1 : va_W} {v : Value} (hr : va_Run p l e R s m args below meth c H locs cells slots 0 0 (F0 m pc ls st0) rest (wq_x cl D (rx ++ pl1) (some v) (wA (cx ++ pl)) a) (wA (cx ++ pl))) (hP : va_P D cl (X ++ pl) H) (hD : va_D A0 (X ++ pl)) (hS : va_S A0 H0 H locs) (isC isR : List Nat) (hC : isC.map (fun i => X[i]?) = cx.map some) (hC1 : isC.map (fun i => X'[i]?) = rx.map some) (hR : isR.map (fun i => X'[i]?) = isR.map (fun i => X[i]?)) (had : X'.map Prod.fst = X.map Prod.fst) (hpl : pl1.map Prod.fst = pl.map Prod.fst)
    (hall : (List.range X'.length).all (fun k => isC.contains k || (isR.contains k && !isC.contains k)) = true)
    (kk : ∀ (H : Heap) (locs : List Loc), va_P D cl (X' ++ pl1) H → va_D A0 (X' ++ pl1) → va_S A0 H0 H locs → W p l e R s m args below meth c H locs cells slots Q (F0 m (pc + 3) ls (v :: rest))) : W p l e R s m args below meth c H locs cells slots Q (F0 m pc ls st0) := by
  intro T hT X0
  obtain ⟨v, st₀, t, T', L, h0, X1, hL, e1, e2, ⟨hv, hp1, hz, hk⟩, st⟩ := hr T hT X0
  cases hv
  rw [h0] at hz hk
  obtain ⟨g1, g2⟩ := wq_joinTT (X' := X') (pl1 := pl1) hP hD isC isR hC hC1 hR had hpl hall (H1 := T'.heap) (fun q h1 h2 => by rw [e1]; exact hk q h1 h2) (by rw [e1]; exact hp1)
  obtain ⟨t2, a1, b1⟩ := kk T'.heap (locs ++ L) g1 g2 (wq_S hS (wq_inTT hD isC hC) hz hk hL e1) T' rfl X1
  exact ⟨t2, st t2 a1, b1⟩
theorem wu_call0 {X cx rx X' pl pl1 : va_W} (hr : va_Run p l e R s m args below meth c H locs cells slots 0 0 (F0 m pc ls st0) rest (wq_x cl D (rx ++ pl1) none (wA (cx ++ pl)) a) (wA (cx ++ pl))) (hP : va_P D cl (X ++ pl) H) (hD : va_D A0 (X ++ pl)) (hS : va_S A0 H0 H locs) (isC isR : List Nat) (hC : isC.map (fun i => X[i]?) = cx.map some) (hC1 : isC.map (fun i => X'[i]?) = rx.map some) (hR : isR.map (fun i => X'[i]?) = isR.map (fun i => X[i]?)) (had : X'.map Prod.fst = X.map Prod.fst) (hpl : pl1.map Prod.fst = pl.map Prod.fst)
    (hall : (List.range X'.length).all (fun k => isC.contains k || (isR.contains k && !isC.contains k)) = true)
    (kk : ∀ (H : Heap) (locs : List Loc), va_P D cl (X' ++ pl1) H → va_D A0 (X' ++ pl1) → va_S A0 H0 H locs → W p l e R s m args below meth c H locs cells slots Q (F0 m (pc + 3) ls rest)) : W p l e R s m args below meth c H locs cells slots Q (F0 m pc ls st0) := by
  intro T hT X0
  obtain ⟨v, st₀, t, T', L, h0, X1, hL, e1, e2, ⟨hv, hp1, hz, hk⟩, st⟩ := hr T hT X0
  cases hv
  rw [h0] at hz hk
  obtain ⟨g1, g2⟩ := wq_joinTT (X' := X') (pl1 := pl1) hP hD isC isR hC hC1 hR had hpl hall (H1 := T'.heap) (fun q h1 h2 => by rw [e1]; exact hk q h1 h2) (by rw [e1]; exact hp1)
  obtain ⟨t2, a1, b1⟩ := kk T'.heap (locs ++ L) g1 g2 (wq_S hS (wq_inTT hD isC hC) hz hk hL e1) T' rfl X1
  exact ⟨t2, st t2 a1, b1⟩
variable {y : MethodName} {bytes cc : ByteArray} {maxL nL n index : Nat} {ret : Option FieldType} {ws : List Cond} {rm : Room} {Qc : Array Value → State → Outcome → State → Prop} {free : Addr → Prop} {Ts : List Cond} {own C : String} {b : Addr} {As : List Value} {g : JFrame} {X cx pl : va_W}
/-- calls of methods that have the tail -/
theorem rn_VT (S : CallFix p m c cc nL s args Ts own) (hM : Met l y ws rm (rPc cl D cA (cx ++ pl) (.ref b :: As)) Qc mc ms free) {ci : Nat} {q : vw_C} {fs : List Value} (hc : cl[ci]? = some q) (cw : CallW R s args own q.1 index y bytes maxL ret ws rm mc ms n) (hK : va_K D cl (tyS cA) s) (hP : va_P D cl (X ++ pl) H) (is : List Nat) (hs : is.map (fun i => X[i]?) = cx.map some) (he : (cx ++ pl)[0]? = some (b, .inr (ci, fs)))
    (hn : As.length = n) (hsize : ls.size = nL) (hstack : st0 = As.reverse ++ .ref b :: rest) (hW : (rest.map fun v => v.category).sum ≤ 8) (hdg : decode cc pc = .ok (.invokevirtual index, 3)) (hf : cells + mc ≤ R.cells ∧ slots + ms ≤ R.slots) :
    va_Run p l e R s m args below meth c H locs cells slots mc ms (F0 m pc ls st0) rest (Qc (Value.ref b :: As).toArray) free :=
  have hPc := hP.part is hs
  va_runV S hM cw ⟨rq_blind, va_recv hK hPc hc he, fun U hU hW => ⟨rfl, by rw [hU]; exact hPc, va_K.moved hW.alike hK⟩⟩ rfl hn hsize hstack (lv_room hW) hdg hf
theorem wn_VT (S : CallFix p m c cc nL s args Ts own) (hM : Met l y ws rm (wPc cl D cA (cx ++ pl) (.ref b :: As)) Qc mc ms free) {ci : Nat} {q : vw_C} {fs : List Value} (hc : cl[ci]? = some q) (cw : CallW R s args own q.1 index y bytes maxL ret ws rm mc ms n) (hK : va_K D cl (tyS cA) s) (hP : va_P D cl (X ++ pl) H) (hD : va_D A0 (X ++ pl)) (is : List Nat) (hnd : va_nd is = true) (hs : is.map (fun i => X[i]?) = cx.map some) (he : (cx ++ pl)[0]? = some (b, .inr (ci, fs)))
    (hn : As.length = n) (hsize : ls.size = nL) (hstack : st0 = As.reverse ++ .ref b :: rest) (hW : (rest.map fun v => v.category).sum ≤ 8) (hdg : decode cc pc = .ok (.invokevirtual index, 3)) (hf : cells + mc ≤ R.cells ∧ slots + ms ≤ R.slots) :
    va_Run p l e R s m args below meth c H locs cells slots mc ms (F0 m pc ls st0) rest (Qc (Value.ref b :: As).toArray) free :=
  have hPc := hP.part is hs
  va_runV S hM cw ⟨wq_blind, va_recv hK hPc hc he, fun U hU hW => ⟨rfl, by rw [hU]; exact hPc, va_K.moved hW.alike hK, (hD.part is hnd hs).weaken (fun _ _ _ _ => trivial)⟩⟩ rfl hn hsize hstack (lv_room hW) hdg hf
/-- an element of an array of objects, which is known -/
theorem va_aldr (hexec : p.tables.exec = Jvm.exec) (hb : c.code = cc) {tys : List (ClassId × FieldType)} {ws : va_W} {a : Nat} (hK : va_K D cl tys s) (hP : va_P D cl ws H) (q0 t0 : Nat) {cA : ClassId} {C : String} {n v : Nat} {f : Nat → Option Nat} (ha : ws[q0]? = some (a, .inl (cA, n, .inr (.inr (.inr (.inr f)))))) (ht : tys[t0]? = some (cA, .object C)) {i : Int32} (hin : vp_in i n) (hv : f i.toNatClampNeg = some v) (hdg : decode cc pc = .ok (.aaload, 1))
    (kk : W p l e R s m args below meth c H locs cells slots Q (F0 m (pc + 1) ls (.ref v :: rest))) : W p l e R s m args below meth c H locs cells slots Q (F0 m pc ls (.int i :: .ref a :: rest)) :=
  va_aldq hexec hb hK hP q0 t0 ha ht hin hdg (by rw [hv]; exact kk)
/-- a row of an array of rows -/
theorem va_aldg (hexec : p.tables.exec = Jvm.exec) (hb : c.code = cc) {tys : List (ClassId × FieldType)} {ws : va_W} {a : Nat} (hK : va_K D cl tys s) (hP : va_P D cl ws H) (q0 t0 : Nat) {cA : ClassId} {n v : Nat} {f : Nat → Option Nat} (ha : ws[q0]? = some (a, .inl (cA, n, .inr (.inr (.inr (.inr f)))))) (ht : tys[t0]? = some (cA, .array .int)) {i : Int32} (hin : vp_in i n) (hv : f i.toNatClampNeg = some v) (hdg : decode cc pc = .ok (.aaload, 1))
    (kk : W p l e R s m args below meth c H locs cells slots Q (F0 m (pc + 1) ls (.ref v :: rest))) : W p l e R s m args below meth c H locs cells slots Q (F0 m pc ls (.int i :: .ref a :: rest)) := by
  have hlt : i.toNatClampNeg < n := Nat.not_le.mp fun q => hin (Or.inr q)
  exact W.aald (v := .ref v) (ty := .array .int) hexec hb (hP q0 _ ha) ((hK.2 t0 _ ht).1 n (fun j => va_rf (f j))) rfl (fun q => by cases q) (by show ¬ (i < 0 ∨ (arrV _ _ _).slots.size ≤ _); rw [arrV_size]; exact hin) (by show (arrV _ _ _).slots[_]? = _; rw [arrV_read _ _ hlt, hv]; rfl) rfl rfl hdg kk
end TL
section WL
variable {p : Program} {l : Launch} {e : Env} {R : Room} {s : State} {m : MethodId} {args : Array Value} {below : List Frame} {meth : Method} {c : Code} {H : Heap} {locs : List Loc} {cells slots : Nat} {Q : State → Prop}
variable {pc : Nat} {ls : Array Slot} {rest st0 : List Value} {a : Array Value} {A0 : Nat → Prop} {H0 : Heap} {D : va_G} {cl : List vw_C}
theorem wl_call1 {ws wc w1 ws' : va_W} {v : Value} (hr : va_Run p l e R s m args below meth c H locs cells slots 0 0 (F0 m pc ls st0) rest (wq_x cl D w1 (some v) (wA wc) a) (wA wc)) (hP : va_P D cl ws H) (hD : va_D A0 ws) (hS : va_S A0 H0 H locs) (isC isR : List Nat) (hC : isC.map (fun i => ws[i]?) = wc.map some) (hC1 : isC.map (fun i => ws'[i]?) = w1.map some) {wr : va_W} (hR1 : isR.map (fun i => ws'[i]?) = wr.map some) (hR2 : isR.map (fun i => ws[i]?) = wr.map some) {ads : List Nat} (ha1 : ws'.map Prod.fst = ads) (ha2 : ws.map Prod.fst = ads) {adc : List Nat} (hw1 : w1.map Prod.fst = adc) (hw2 : wc.map Prod.fst = adc)
    (hall : (List.range ws'.length).all (fun k => isC.contains k || (isR.contains k && !isC.contains k)) = true)
    (kk : ∀ (H : Heap) (locs : List Loc), va_P D cl ws' H → va_D A0 ws' → va_S A0 H0 H locs → W p l e R s m args below meth c H locs cells slots Q (F0 m (pc + 3) ls (v :: rest))) : W p l e R s m args below meth c H locs cells slots Q (F0 m pc ls st0) :=
  wq_call1 hr hP hD hS isC isR hC hC1 (hR1.trans hR2.symm) (ha1.trans ha2.symm) (hw1.trans hw2.symm) hall kk
theorem wt_callL1 {X cx rx X' pl : va_W} {v : Value} (hr : va_Run p l e R s m args below meth c H locs cells slots 0 0 (F0 m pc ls st0) rest (wq_x cl D rx (some v) (wA cx) a) (wA cx)) (hP : va_P D cl (X ++ pl) H) (hD : va_D A0 (X ++ pl)) (hS : va_S A0 H0 H locs) (isC isR : List Nat) (hC : isC.map (fun i => X[i]?) = cx.map some) (hC1 : isC.map (fun i => X'[i]?) = rx.map some) {wr : va_W} (hR1 : isR.map (fun i => X'[i]?) = wr.map some) (hR2 : isR.map (fun i => X[i]?) = wr.map some) {ads : List Nat} (ha1 : X'.map Prod.fst = ads) (ha2 : X.map Prod.fst = ads)
    (hall : (List.range X'.length).all (fun k => isC.contains k || (isR.contains k && !isC.contains k)) = true)
    (kk : ∀ (H : Heap) (locs : List Loc), va_P D cl (X' ++ pl) H → va_D A0 (X' ++ pl) → va_S A0 H0 H locs → W p l e R s m args below meth c H locs cells slots Q (F0 m (pc + 3) ls (v :: rest))) : W p l e R s m args below meth c H locs cells slots Q (F0 m pc ls st0) :=
  wt_call1 hr hP hD hS isC isR hC hC1 (hR1.trans hR2.symm) (ha1.trans ha2.symm) hall kk
theorem wu_callL1 {X cx rx X' pl pl1 : va_W} {v : Value} (hr : va_Run p l e R s m args below meth c H locs cells slots 0 0 (F0 m pc ls st0) rest (wq_x cl D (rx ++ pl1) (some v) (wA (cx ++ pl)) a) (wA (cx ++ pl))) (hP : va_P D cl (X ++ pl) H) (hD : va_D A0 (X ++ pl)) (hS : va_S A0 H0 H locs) (isC isR : List Nat) (hC : isC.map (fun i => X[i]?) = cx.map some) (hC1 : isC.map (fun i => X'[i]?) = rx.map some) {wr : va_W} (hR1 : isR.map (fun i => X'[i]?) = wr.map some) (hR2 : isR.map (fun i => X[i]?) = wr.map some) {ads : List Nat} (ha1 : X'.map Prod.fst = ads) (ha2 : X.map Prod.fst = ads) (hpl : pl1.map Prod.fst = pl.map Prod.fst)
    (hall : (List.range X'.length).all (fun k => isC.contains k || (isR.contains k && !isC.contains k)) = true)
    (kk : ∀ (H : Heap) (locs : List Loc), va_P D cl (X' ++ pl1) H → va_D A0 (X' ++ pl1) → va_S A0 H0 H locs → W p l e R s m args below meth c H locs cells slots Q (F0 m (pc + 3) ls (v :: rest))) : W p l e R s m args below meth c H locs cells slots Q (F0 m pc ls st0) :=
  wu_call1 hr hP hD hS isC isR hC hC1 (hR1.trans hR2.symm) (ha1.trans ha2.symm) hpl hall kk
theorem wl_call0 {ws wc w1 ws' : va_W} (hr : va_Run p l e R s m args below meth c H locs cells slots 0 0 (F0 m pc ls st0) rest (wq_x cl D w1 none (wA wc) a) (wA wc)) (hP : va_P D cl ws H) (hD : va_D A0 ws) (hS : va_S A0 H0 H locs) (isC isR : List Nat) (hC : isC.map (fun i => ws[i]?) = wc.map some) (hC1 : isC.map (fun i => ws'[i]?) = w1.map some) {wr : va_W} (hR1 : isR.map (fun i => ws'[i]?) = wr.map some) (hR2 : isR.map (fun i => ws[i]?) = wr.map some) {ads : List Nat} (ha1 : ws'.map Prod.fst = ads) (ha2 : ws.map Prod.fst = ads) {adc : List Nat} (hw1 : w1.map Prod.fst = adc) (hw2 : wc.map Prod.fst = adc)
    (hall : (List.range ws'.length).all (fun k => isC.contains k || (isR.contains k && !isC.contains k)) = true)
    (kk : ∀ (H : Heap) (locs : List Loc), va_P D cl ws' H → va_D A0 ws' → va_S A0 H0 H locs → W p l e R s m args below meth c H locs cells slots Q (F0 m (pc + 3) ls rest)) : W p l e R s m args below meth c H locs cells slots Q (F0 m pc ls st0) :=
  wq_call0 hr hP hD hS isC isR hC hC1 (hR1.trans hR2.symm) (ha1.trans ha2.symm) (hw1.trans hw2.symm) hall kk
theorem wt_callL0 {X cx rx X' pl : va_W} (hr : va_Run p l e R s m args below meth c H locs cells slots 0 0 (F0 m pc ls st0) rest (wq_x cl D rx none (wA cx) a) (wA cx)) (hP : va_P D cl (X ++ pl) H) (hD : va_D A0 (X ++ pl)) (hS : va_S A0 H0 H locs) (isC isR : List Nat) (hC : isC.map (fun i => X[i]?) = cx.map some) (hC1 : isC.map (fun i => X'[i]?) = rx.map some) {wr : va_W} (hR1 : isR.map (fun i => X'[i]?) = wr.map some) (hR2 : isR.map (fun i => X[i]?) = wr.map some) {ads : List Nat} (ha1 : X'.map Prod.fst = ads) (ha2 : X.map Prod.fst = ads)
    (hall : (List.range X'.length).all (fun k => isC.contains k || (isR.contains k && !isC.contains k)) = true)
    (kk : ∀ (H : Heap) (locs : List Loc), va_P D cl (X' ++ pl) H → va_D A0 (X' ++ pl) → va_S A0 H0 H locs → W p l e R s m args below meth c H locs cells slots Q (F0 m (pc + 3) ls rest)) : W p l e R s m args below meth c H locs cells slots Q (F0 m pc ls st0) :=
  wt_call0 hr hP hD hS isC isR hC hC1 (hR1.trans hR2.symm) (ha1.trans ha2.symm) hall kk
theorem wu_callL0 {X cx rx X' pl pl1 : va_W} (hr : va_Run p l e R s m args below meth c H locs cells slots 0 0 (F0 m pc ls st0) rest (wq_x cl D (rx ++ pl1) none (wA (cx ++ pl)) a) (wA (cx ++ pl))) (hP : va_P D cl (X ++ pl) H) (hD : va_D A0 (X ++ pl)) (hS : va_S A0 H0 H locs) (isC isR : List Nat) (hC : isC.map (fun i => X[i]?) = cx.map some) (hC1 : isC.map (fun i => X'[i]?) = rx.map some) {wr : va_W} (hR1 : isR.map (fun i => X'[i]?) = wr.map some) (hR2 : isR.map (fun i => X[i]?) = wr.map some) {ads : List Nat} (ha1 : X'.map Prod.fst = ads) (ha2 : X.map Prod.fst = ads) (hpl : pl1.map Prod.fst = pl.map Prod.fst)
    (hall : (List.range X'.length).all (fun k => isC.contains k || (isR.contains k && !isC.contains k)) = true)
    (kk : ∀ (H : Heap) (locs : List Loc), va_P D cl (X' ++ pl1) H → va_D A0 (X' ++ pl1) → va_S A0 H0 H locs → W p l e R s m args below meth c H locs cells slots Q (F0 m (pc + 3) ls rest)) : W p l e R s m args below meth c H locs cells slots Q (F0 m pc ls st0) :=
  wu_call0 hr hP hD hS isC isR hC hC1 (hR1.trans hR2.symm) (ha1.trans ha2.symm) hpl hall kk
end WL
