/-! Calls out of a large world by a mask: which cell goes to which place of the callee's. -/
def mpick (rx : va_W) (o : Option Nat) (x : Nat × va_E) : Nat × va_E := match o with | none => x | some j => rx.getD j x
def mrg (rx : va_W) (ms : List (Option Nat)) (X : va_W) : va_W := List.zipWith (mpick rx) ms X
theorem mrg_at {rx : va_W} {ms : List (Option Nat)} {X : va_W} {k : Nat} {q : Nat × va_E} (h : (mrg rx ms X)[k]? = some q) : ∃ (o : Option Nat) (x : Nat × va_E), ms[k]? = some o ∧ X[k]? = some x ∧ q = mpick rx o x := by
  unfold mrg at h
  rw [List.getElem?_zipWith] at h
  cases h1 : ms[k]? with
  | none => rw [h1] at h; simp at h
  | some o =>
    cases h2 : X[k]? with
    | none => rw [h1, h2] at h; simp at h
    | some x => rw [h1, h2] at h; exact ⟨o, x, rfl, rfl, (Option.some.inj h).symm⟩
theorem mrg_of {rx : va_W} {ms : List (Option Nat)} {X : va_W} {k : Nat} {o : Option Nat} {x : Nat × va_E} (h1 : ms[k]? = some o) (h2 : X[k]? = some x) : (mrg rx ms X)[k]? = some (mpick rx o x) := by
  unfold mrg
  rw [List.getElem?_zipWith, h1, h2]
theorem mrg_get {cx X : va_W} {ms : List (Option Nat)} (hlen : ms.length = X.length) (h1 : mrg cx ms X = X) (hcov : (List.range cx.length).all (fun j => ms.contains (some j)) = true) {j : Nat} {q : Nat × va_E} (hq : cx[j]? = some q) : ∃ k : Nat, ms[k]? = some (some j) ∧ X[k]? = some q := by
  have hj : j < cx.length := (List.getElem?_eq_some_iff.mp hq).1
  have hc := List.all_eq_true.mp hcov j (List.mem_range.mpr hj)
  obtain ⟨k, hk⟩ := List.getElem?_of_mem (List.contains_iff_mem.mp hc)
  have hkl : k < X.length := by have := (List.getElem?_eq_some_iff.mp hk).1; omega
  have hx : X[k]? = some X[k] := List.getElem?_eq_getElem hkl
  refine ⟨k, hk, ?_⟩
  have h2 := mrg_of (rx := cx) hk hx
  rw [h1] at h2
  rw [h2]
  show some (cx.getD j X[k]) = some q
  rw [List.getD_eq_getElem?_getD, hq]
  rfl
section MRG
variable {p : Program} {l : Launch} {e : Env} {R : Room} {s : State} {m : MethodId} {args : Array Value} {below : List Frame} {meth : Method} {c : Code} {H : Heap} {locs : List Loc} {cells slots : Nat} {Q : State → Prop}
variable {pc : Nat} {ls : Array Slot} {rest st0 : List Value} {a : Array Value} {A0 : Nat → Prop} {H0 : Heap} {mc ms_ : Nat} {D : va_G} {cA : Nat → ClassId} {cl : List vw_C} {cx rx X X' pl pl1 : va_W} {ms : List (Option Nat)}
theorem mrg_P (hP : va_P D cl (X ++ pl) H) (hlen : ms.length = X.length) (h1 : mrg cx ms X = X) (hcov : (List.range cx.length).all (fun j => ms.contains (some j)) = true) : va_P D cl cx H := by
  intro j q hq
  obtain ⟨k, _, hk⟩ := mrg_get hlen h1 hcov hq
  exact hP k q (by rw [List.getElem?_append_left (List.getElem?_eq_some_iff.mp hk).1]; exact hk)
theorem mrg_PT (hP : va_P D cl (X ++ pl) H) (hlen : ms.length = X.length) (h1 : mrg cx ms X = X) (hcov : (List.range cx.length).all (fun j => ms.contains (some j)) = true) : va_P D cl (cx ++ pl) H := by
  refine va_P.app (mrg_P hP hlen h1 hcov) (fun i q hq => hP (X.length + i) q ?_)
  rw [List.getElem?_append_right (by omega), Nat.add_sub_cancel_left]
  exact hq
theorem mrg_D (hD : va_D A0 (X ++ pl)) (hlen : ms.length = X.length) (h1 : mrg cx ms X = X) (hcov : (List.range cx.length).all (fun j => ms.contains (some j)) = true) : va_D A0 cx := by
  have up : ∀ (k : Nat) (q : Nat × va_E), X[k]? = some q → (X ++ pl)[k]? = some q := fun k q hk => by rw [List.getElem?_append_left (List.getElem?_eq_some_iff.mp hk).1]; exact hk
  refine ⟨fun i j x y hx hy hxy => ?_, fun j q hq => ?_⟩
  · obtain ⟨k1, m1, g1⟩ := mrg_get hlen h1 hcov hx
    obtain ⟨k2, m2, g2⟩ := mrg_get hlen h1 hcov hy
    have := hD.1 k1 k2 x y (up _ _ g1) (up _ _ g2) hxy
    subst this
    rw [m1] at m2
    exact Option.some.inj (Option.some.inj m2)
  · obtain ⟨k, _, hk⟩ := mrg_get hlen h1 hcov hq
    exact hD.2 k q (up _ _ hk)
theorem mrg_DT (hD : va_D A0 (X ++ pl)) (hlen : ms.length = X.length) (h1 : mrg cx ms X = X) (hcov : (List.range cx.length).all (fun j => ms.contains (some j)) = true) : va_D A0 (cx ++ pl) := by
  have hpl : ∀ (i : Nat) (q : Nat × va_E), pl[i]? = some q → (X ++ pl)[X.length + i]? = some q := fun i q hq => by rw [List.getElem?_append_right (by omega), Nat.add_sub_cancel_left]; exact hq
  refine va_D.app (mrg_D hD hlen h1 hcov) ⟨fun i j x y hx hy hxy => ?_, fun k q hq => hD.2 _ q (hpl k q hq)⟩ (fun i j x y hx hy hxy => ?_)
  · have := hD.1 _ _ x y (hpl i x hx) (hpl j y hy) hxy
    omega
  · obtain ⟨k, _, hk⟩ := mrg_get hlen h1 hcov hx
    have hkl := (List.getElem?_eq_some_iff.mp hk).1
    have := hD.1 k (X.length + j) x y (by rw [List.getElem?_append_left hkl]; exact hk) (hpl j y hy) hxy
    omega
theorem mrg_fst (hlen : ms.length = X.length) (h1 : mrg cx ms X = X) (h2 : mrg rx ms X = X') (hf : rx.map Prod.fst = cx.map Prod.fst) : X'.map Prod.fst = X.map Prod.fst := by
  subst h2
  conv => rhs; rw [← h1]
  unfold mrg
  rw [List.map_zipWith, List.map_zipWith]
  congr 1
  funext o x
  cases o with
  | none => rfl
  | some j =>
    show (rx.getD j x).1 = (cx.getD j x).1
    rw [List.getD_eq_getElem?_getD, List.getD_eq_getElem?_getD]
    have h3 : (rx.map Prod.fst)[j]? = (cx.map Prod.fst)[j]? := by rw [hf]
    rw [List.getElem?_map, List.getElem?_map] at h3
    cases hr : rx[j]? <;> cases hc : cx[j]? <;> rw [hr, hc] at h3 <;> simp_all
theorem mrg_cov (hD : va_D A0 (X ++ pl)) (hlen : ms.length = X.length) (h1 : mrg cx ms X = X) (h2 : mrg rx ms X = X') (hcov : (List.range cx.length).all (fun j => ms.contains (some j)) = true) (hb : ms.all (fun o => match o with | none => true | some j => decide (j < rx.length)) = true) (k : Nat) (q : Nat × va_E) (hq : X'[k]? = some q) : (∃ j : Nat, rx[j]? = some q) ∨ ((X ++ pl)[k]? = some q ∧ ¬ wA cx q.1 ∧ ∀ (i : Nat) (z : Nat × va_E), pl[i]? = some z → ¬ z.1 = q.1) := by
  subst h2
  obtain ⟨o, x, ho, hx, e⟩ := mrg_at hq
  cases o with
  | some j =>
    left
    have hj := List.all_eq_true.mp hb _ (List.mem_of_getElem? ho)
    have hj' : j < rx.length := of_decide_eq_true hj
    refine ⟨j, ?_⟩
    have e' : q = rx.getD j x := e
    rw [e', List.getD_eq_getElem?_getD, List.getElem?_eq_getElem hj']
    rfl
  | none =>
    right
    have e' : q = x := e
    subst e'
    have hkl := (List.getElem?_eq_some_iff.mp hx).1
    have hXk : (X ++ pl)[k]? = some q := by rw [List.getElem?_append_left hkl]; exact hx
    refine ⟨hXk, fun hm => ?_, fun i z hz hzq => ?_⟩
    · obtain ⟨z, hz, hze⟩ := List.mem_map.mp hm
      obtain ⟨j, hj⟩ := List.getElem?_of_mem hz
      obtain ⟨k2, m2, g2⟩ := mrg_get hlen h1 hcov hj
      have := hD.1 k k2 q z hXk (by rw [List.getElem?_append_left (List.getElem?_eq_some_iff.mp g2).1]; exact g2) hze.symm
      subst this
      rw [ho] at m2
      cases m2
    · have := hD.1 k (X.length + i) q z hXk (by rw [List.getElem?_append_right (by omega), Nat.add_sub_cancel_left]; exact hz) hzq.symm
      omega
theorem wm_call1 {v : Value} (hr : va_Run p l e R s m args below meth c H locs cells slots 0 0 (F0 m pc ls st0) rest (wq_x cl D rx (some v) (wA cx) a) (wA cx)) (hP : va_P D cl (X ++ pl) H) (hD : va_D A0 (X ++ pl)) (hS : va_S A0 H0 H locs) (ms : List (Option Nat)) (hlen : ms.length = X.length) (h1 : mrg cx ms X = X) (h2 : mrg rx ms X = X') (hcov : (List.range cx.length).all (fun j => ms.contains (some j)) = true) (hb : ms.all (fun o => match o with | none => true | some j => decide (j < rx.length)) = true) (hf : rx.map Prod.fst = cx.map Prod.fst)
    (kk : ∀ (H : Heap) (locs : List Loc), va_P D cl (X' ++ pl) H → va_D A0 (X' ++ pl) → va_S A0 H0 H locs → W p l e R s m args below meth c H locs cells slots Q (F0 m (pc + 3) ls (v :: rest))) : W p l e R s m args below meth c H locs cells slots Q (F0 m pc ls st0) := by
  intro T hT X0
  obtain ⟨v, st₀, t, T', L, h0, X1, hL, e1, e2, ⟨hv, hp1, hz, hk⟩, st⟩ := hr T hT X0
  cases hv
  rw [h0] at hz hk
  have had := mrg_fst hlen h1 h2 hf
  have hlX : X'.length = X.length := by have := congrArg List.length had; simpa using this
  have g1 : va_P D cl (X' ++ pl) T'.heap := by
    refine wq_joinG (w1 := rx) (wc := cx) hP (fun k q hq => ?_) (fun q h3 h4 => by rw [e1]; exact hk q h3 h4) (by rw [e1]; exact hp1)
    by_cases hlt : k < X'.length
    · rw [List.getElem?_append_left hlt] at hq
      rcases mrg_cov hD hlen h1 h2 hcov hb k q hq with h | h
      · exact Or.inl h
      · exact Or.inr ⟨h.1, h.2.1⟩
    · right
      rw [List.getElem?_append_right (by omega), hlX] at hq
      have hq2 : (X ++ pl)[k]? = some q := by rw [List.getElem?_append_right (by omega)]; exact hq
      refine ⟨hq2, fun hm => ?_⟩
      obtain ⟨z, hz', hze⟩ := List.mem_map.mp hm
      obtain ⟨j, hj⟩ := List.getElem?_of_mem hz'
      obtain ⟨k2, _, g2⟩ := mrg_get hlen h1 hcov hj
      have hl2 := (List.getElem?_eq_some_iff.mp g2).1
      have := hD.1 k k2 q z hq2 (by rw [List.getElem?_append_left hl2]; exact g2) hze.symm
      omega
  have hin : ∀ q, wA cx q → A0 q := fun q hm => by
    obtain ⟨z, hz', hze⟩ := List.mem_map.mp hm
    obtain ⟨j, hj⟩ := List.getElem?_of_mem hz'
    rw [← hze]
    exact (mrg_D hD hlen h1 hcov).2 j z hj
  obtain ⟨t2, a1, b1⟩ := kk T'.heap (locs ++ L) g1 (hD.like (wq_fstA had rfl)) (wq_S hS hin hz hk hL e1) T' rfl X1
  exact ⟨t2, st t2 a1, b1⟩
theorem wmu_call1 {v : Value} (hr : va_Run p l e R s m args below meth c H locs cells slots 0 0 (F0 m pc ls st0) rest (wq_x cl D (rx ++ pl1) (some v) (wA (cx ++ pl)) a) (wA (cx ++ pl))) (hP : va_P D cl (X ++ pl) H) (hD : va_D A0 (X ++ pl)) (hS : va_S A0 H0 H locs) (ms : List (Option Nat)) (hlen : ms.length = X.length) (h1 : mrg cx ms X = X) (h2 : mrg rx ms X = X') (hcov : (List.range cx.length).all (fun j => ms.contains (some j)) = true) (hb : ms.all (fun o => match o with | none => true | some j => decide (j < rx.length)) = true) (hf : rx.map Prod.fst = cx.map Prod.fst) (hpl : pl1.map Prod.fst = pl.map Prod.fst)
    (kk : ∀ (H : Heap) (locs : List Loc), va_P D cl (X' ++ pl1) H → va_D A0 (X' ++ pl1) → va_S A0 H0 H locs → W p l e R s m args below meth c H locs cells slots Q (F0 m (pc + 3) ls (v :: rest))) : W p l e R s m args below meth c H locs cells slots Q (F0 m pc ls st0) := by
  intro T hT X0
  obtain ⟨v, st₀, t, T', L, h0, X1, hL, e1, e2, ⟨hv, hp1, hz, hk⟩, st⟩ := hr T hT X0
  cases hv
  rw [h0] at hz hk
  have had := mrg_fst hlen h1 h2 hf
  have hlX : X'.length = X.length := by have := congrArg List.length had; simpa using this
  have g1 : va_P D cl (X' ++ pl1) T'.heap := by
    refine wq_joinG (w1 := rx ++ pl1) (wc := cx ++ pl) hP (fun k q hq => ?_) (fun q h3 h4 => by rw [e1]; exact hk q h3 h4) (by rw [e1]; exact hp1)
    by_cases hlt : k < X'.length
    · rw [List.getElem?_append_left hlt] at hq
      rcases mrg_cov hD hlen h1 h2 hcov hb k q hq with ⟨j, hj⟩ | ⟨g2, g3, g4⟩
      · exact Or.inl ⟨j, by rw [List.getElem?_append_left (List.getElem?_eq_some_iff.mp hj).1]; exact hj⟩
      · refine Or.inr ⟨g2, fun hm => ?_⟩
        have hm' : q.1 ∈ (cx ++ pl).map Prod.fst := hm
        rw [List.map_append, List.mem_append] at hm'
        rcases hm' with h | h
        · exact g3 h
        · obtain ⟨z, hz', hze⟩ := List.mem_map.mp h
          obtain ⟨j, hj⟩ := List.getElem?_of_mem hz'
          exact g4 j z hj hze
    · left
      rw [List.getElem?_append_right (by omega)] at hq
      exact ⟨rx.length + (k - X'.length), by rw [List.getElem?_append_right (by omega), Nat.add_sub_cancel_left]; exact hq⟩
  have hin : ∀ q, wA (cx ++ pl) q → A0 q := fun q hm => by
    obtain ⟨z, hz', hze⟩ := List.mem_map.mp hm
    obtain ⟨j, hj⟩ := List.getElem?_of_mem hz'
    rw [← hze]
    exact (mrg_DT hD hlen h1 hcov).2 j z hj
  obtain ⟨t2, a1, b1⟩ := kk T'.heap (locs ++ L) g1 (hD.like (wq_fstA had hpl)) (wq_S hS hin hz hk hL e1) T' rfl X1
  exact ⟨t2, st t2 a1, b1⟩
variable {y : MethodName} {bytes cc : ByteArray} {maxL nL n index : Nat} {ret : Option FieldType} {ws : List Cond} {rm : Room} {Qc : Array Value → State → Outcome → State → Prop} {free : Addr → Prop} {Ts : List Cond} {own C : String} {b : Addr} {As : List Value} {g : JFrame}
theorem rm_V (S : CallFix p m c cc nL s args Ts own) (hM : Met l y ws rm (rPc cl D cA cx (.ref b :: As)) Qc mc ms_ free) {ci : Nat} {q : vw_C} {fs : List Value} (hc : cl[ci]? = some q) (cw : CallW R s args own q.1 index y bytes maxL ret ws rm mc ms_ n) (hK : va_K D cl (tyS cA) s) (hP : va_P D cl (X ++ pl) H) (ms : List (Option Nat)) (hlen : ms.length = X.length) (h1 : mrg cx ms X = X) (hcov : (List.range cx.length).all (fun j => ms.contains (some j)) = true) (he : cx[0]? = some (b, .inr (ci, fs)))
    (hn : As.length = n) (hsize : ls.size = nL) (hstack : st0 = As.reverse ++ .ref b :: rest) (hW : (rest.map fun v => v.category).sum ≤ 8) (hdg : decode cc pc = .ok (.invokevirtual index, 3)) (hf : cells + mc ≤ R.cells ∧ slots + ms_ ≤ R.slots) :
    va_Run p l e R s m args below meth c H locs cells slots mc ms_ (F0 m pc ls st0) rest (Qc (Value.ref b :: As).toArray) free :=
  have hPc := mrg_P hP hlen h1 hcov
  va_runV S hM cw ⟨rq_blind, va_recv hK hPc hc he, fun U hU hW => ⟨rfl, by rw [hU]; exact hPc, va_K.moved hW.alike hK⟩⟩ rfl hn hsize hstack (lv_room hW) hdg hf
theorem rm_VT (S : CallFix p m c cc nL s args Ts own) (hM : Met l y ws rm (rPc cl D cA (cx ++ pl) (.ref b :: As)) Qc mc ms_ free) {ci : Nat} {q : vw_C} {fs : List Value} (hc : cl[ci]? = some q) (cw : CallW R s args own q.1 index y bytes maxL ret ws rm mc ms_ n) (hK : va_K D cl (tyS cA) s) (hP : va_P D cl (X ++ pl) H) (ms : List (Option Nat)) (hlen : ms.length = X.length) (h1 : mrg cx ms X = X) (hcov : (List.range cx.length).all (fun j => ms.contains (some j)) = true) (he : (cx ++ pl)[0]? = some (b, .inr (ci, fs)))
    (hn : As.length = n) (hsize : ls.size = nL) (hstack : st0 = As.reverse ++ .ref b :: rest) (hW : (rest.map fun v => v.category).sum ≤ 8) (hdg : decode cc pc = .ok (.invokevirtual index, 3)) (hf : cells + mc ≤ R.cells ∧ slots + ms_ ≤ R.slots) :
    va_Run p l e R s m args below meth c H locs cells slots mc ms_ (F0 m pc ls st0) rest (Qc (Value.ref b :: As).toArray) free :=
  have hPc := mrg_PT hP hlen h1 hcov
  va_runV S hM cw ⟨rq_blind, va_recv hK hPc hc he, fun U hU hW => ⟨rfl, by rw [hU]; exact hPc, va_K.moved hW.alike hK⟩⟩ rfl hn hsize hstack (lv_room hW) hdg hf
theorem wm_V (S : CallFix p m c cc nL s args Ts own) (hM : Met l y ws rm (wPc cl D cA cx (.ref b :: As)) Qc mc ms_ free) {ci : Nat} {q : vw_C} {fs : List Value} (hc : cl[ci]? = some q) (cw : CallW R s args own q.1 index y bytes maxL ret ws rm mc ms_ n) (hK : va_K D cl (tyS cA) s) (hP : va_P D cl (X ++ pl) H) (hD : va_D A0 (X ++ pl)) (ms : List (Option Nat)) (hlen : ms.length = X.length) (h1 : mrg cx ms X = X) (hcov : (List.range cx.length).all (fun j => ms.contains (some j)) = true) (he : cx[0]? = some (b, .inr (ci, fs)))
    (hn : As.length = n) (hsize : ls.size = nL) (hstack : st0 = As.reverse ++ .ref b :: rest) (hW : (rest.map fun v => v.category).sum ≤ 8) (hdg : decode cc pc = .ok (.invokevirtual index, 3)) (hf : cells + mc ≤ R.cells ∧ slots + ms_ ≤ R.slots) :
    va_Run p l e R s m args below meth c H locs cells slots mc ms_ (F0 m pc ls st0) rest (Qc (Value.ref b :: As).toArray) free :=
  have hPc := mrg_P hP hlen h1 hcov
  va_runV S hM cw ⟨wq_blind, va_recv hK hPc hc he, fun U hU hW => ⟨rfl, by rw [hU]; exact hPc, va_K.moved hW.alike hK, (mrg_D hD hlen h1 hcov).weaken (fun _ _ _ _ => trivial)⟩⟩ rfl hn hsize hstack (lv_room hW) hdg hf
theorem wm_VT (S : CallFix p m c cc nL s args Ts own) (hM : Met l y ws rm (wPc cl D cA (cx ++ pl) (.ref b :: As)) Qc mc ms_ free) {ci : Nat} {q : vw_C} {fs : List Value} (hc : cl[ci]? = some q) (cw : CallW R s args own q.1 index y bytes maxL ret ws rm mc ms_ n) (hK : va_K D cl (tyS cA) s) (hP : va_P D cl (X ++ pl) H) (hD : va_D A0 (X ++ pl)) (ms : List (Option Nat)) (hlen : ms.length = X.length) (h1 : mrg cx ms X = X) (hcov : (List.range cx.length).all (fun j => ms.contains (some j)) = true) (he : (cx ++ pl)[0]? = some (b, .inr (ci, fs)))
    (hn : As.length = n) (hsize : ls.size = nL) (hstack : st0 = As.reverse ++ .ref b :: rest) (hW : (rest.map fun v => v.category).sum ≤ 8) (hdg : decode cc pc = .ok (.invokevirtual index, 3)) (hf : cells + mc ≤ R.cells ∧ slots + ms_ ≤ R.slots) :
    va_Run p l e R s m args below meth c H locs cells slots mc ms_ (F0 m pc ls st0) rest (Qc (Value.ref b :: As).toArray) free :=
  have hPc := mrg_PT hP hlen h1 hcov
  va_runV S hM cw ⟨wq_blind, va_recv hK hPc hc he, fun U hU hW => ⟨rfl, by rw [hU]; exact hPc, va_K.moved hW.alike hK, (mrg_DT hD hlen h1 hcov).weaken (fun _ _ _ _ => trivial)⟩⟩ rfl hn hsize hstack (lv_room hW) hdg hf
end MRG
