/-! Contracts that only read; contracts that write and keep the order of the cells; arrays of a class that is known. -/
abbrev tyS (cA : Nat → ClassId) : List (ClassId × FieldType) := [(cA 0, .int), (cA 1, .boolean), (cA 2, .long), (cA 3, .object "MixElection$Pairs"), (cA 4, .array .int)]
/-- what the tables say of the arrays of arrays, and of the arrays of Pairs -/
def xK (cA : Nat → ClassId) (U : State) : Prop := (∃ kA : Class, U.vm.classes[cA 4]? = some kA ∧ kA.kind = .array (cA 0) (.array .int)) ∧ va_AO "MixElection$Pairs" U
theorem xK.moved {cA : Nat → ClassId} {u U : State} (hvm : u.vm.Alike U.vm) (h : xK cA u) : xK cA U := by
  obtain ⟨⟨kA, h1, h2⟩, h3⟩ := h
  obtain ⟨k2, h4, h5⟩ := hvm.2.2 _ _ h1
  exact ⟨⟨k2, h4, by rw [h5]; exact h2⟩, h3.moved hvm⟩
def rq_p (post : Int32 → Prop) : Array Value → State → Outcome → State → Prop := fun _ st o t => ∃ r : Int32, o = .returned (some (.int r)) ∧ post r ∧ t.heap = st.heap
def rq_x (v : Option Value) : Array Value → State → Outcome → State → Prop := fun _ st o t => o = .returned v ∧ t.heap = st.heap
def wA (ws : va_W) : Nat → Prop := fun q => q ∈ ws.map Prod.fst
def wq_x (cl : List vw_C) (D : va_G) (w1 : va_W) (v : Option Value) (A : Nat → Prop) : Array Value → State → Outcome → State → Prop := fun _ st o t => o = .returned v ∧ va_P D cl w1 t.heap ∧ va_F A st t
abbrev rPc (cl : List vw_C) (D : va_G) (cA : Nat → ClassId) (W0 : va_W) (av : List Value) : Array Value → State → Prop := va_Pc av (fun U => va_P D cl W0 U.heap ∧ va_K D cl (tyS cA) U)
abbrev wPc (cl : List vw_C) (D : va_G) (cA : Nat → ClassId) (W0 : va_W) (av : List Value) : Array Value → State → Prop := va_Pc av (fun U => va_P D cl W0 U.heap ∧ va_K D cl (tyS cA) U ∧ va_D (fun _ => True) W0)
abbrev iPc (cl : List vw_C) (D : va_G) (cA : Nat → ClassId) (sz : Nat) (W0 : va_W) (av : List Value) : Array Value → State → Prop := va_Pc av (fun U => U.heap.size = sz ∧ va_P D cl W0 U.heap ∧ va_K D cl (tyS cA) U ∧ va_D (fun _ => True) W0 ∧ xK cA U)
theorem in_blind {cl : List vw_C} {D : va_G} {cA : Nat → ClassId} {sz : Nat} {W0 : va_W} {av : List Value} : FrameBlind (iPc cl D cA sz W0 av) := fun a U g mk q => ⟨q.1, q.2.1, q.2.2.1, va_K.moved (u := U) (U := U.calling g mk a) (Vm.Alike.refl U.vm) q.2.2.2.1, q.2.2.2.2.1, xK.moved (u := U) (U := U.calling g mk a) (Vm.Alike.refl U.vm) q.2.2.2.2.2⟩
theorem rq_blind {cl : List vw_C} {D : va_G} {cA : Nat → ClassId} {W0 : va_W} {av : List Value} : FrameBlind (rPc cl D cA W0 av) := fun a U g mk q => ⟨q.1, q.2.1, va_K.moved (u := U) (U := U.calling g mk a) (Vm.Alike.refl U.vm) q.2.2⟩
theorem wq_blind {cl : List vw_C} {D : va_G} {cA : Nat → ClassId} {W0 : va_W} {av : List Value} : FrameBlind (wPc cl D cA W0 av) := fun a U g mk q => ⟨q.1, q.2.1, va_K.moved (u := U) (U := U.calling g mk a) (Vm.Alike.refl U.vm) q.2.2.1, q.2.2.2⟩
section RQ
variable {p : Program} {l : Launch} {e : Env} {R : Room} {s : State} {m : MethodId} {args : Array Value} {below : List Frame} {meth : Method} {c : Code} {H : Heap} {locs : List Loc} {cells slots : Nat} {Q : State → Prop}
variable {pc : Nat} {ls : Array Slot} {rest st0 : List Value} {a : Array Value} {A0 A1 : Nat → Prop} {H0 : Heap} {mc ms : Nat} {D : va_G} {cA : Nat → ClassId} {cl : List vw_C}
theorem rq_callp {post : Int32 → Prop} (hr : va_Run p l e R s m args below meth c H locs cells slots 0 0 (F0 m pc ls st0) rest (rq_p post a) (fun _ => False))
    (kk : ∀ r : Int32, post r → W p l e R s m args below meth c H locs cells slots Q (F0 m (pc + 3) ls (.int r :: rest))) : W p l e R s m args below meth c H locs cells slots Q (F0 m pc ls st0) := by
  intro T hT X
  obtain ⟨v, st₀, t, T', L, h0, X', hL, e1, e2, ⟨k, hv, hp, hh⟩, st⟩ := hr T hT X
  cases hv
  obtain ⟨t2, a1, b1⟩ := kk k hp T' (by rw [e1, hh, h0]) (Stand.forget X' (fun q h => (hL q h).elim))
  exact ⟨t2, st t2 a1, b1⟩
theorem rq_call1 {v : Value} (hr : va_Run p l e R s m args below meth c H locs cells slots 0 0 (F0 m pc ls st0) rest (rq_x (some v) a) (fun _ => False))
    (kk : W p l e R s m args below meth c H locs cells slots Q (F0 m (pc + 3) ls (v :: rest))) : W p l e R s m args below meth c H locs cells slots Q (F0 m pc ls st0) := by
  intro T hT X
  obtain ⟨v, st₀, t, T', L, h0, X', hL, e1, e2, ⟨hv, hh⟩, st⟩ := hr T hT X
  cases hv
  obtain ⟨t2, a1, b1⟩ := kk T' (by rw [e1, hh, h0]) (Stand.forget X' (fun q h => (hL q h).elim))
  exact ⟨t2, st t2 a1, b1⟩
theorem rq_call0 (hr : va_Run p l e R s m args below meth c H locs cells slots 0 0 (F0 m pc ls st0) rest (rq_x none a) (fun _ => False))
    (kk : W p l e R s m args below meth c H locs cells slots Q (F0 m (pc + 3) ls rest)) : W p l e R s m args below meth c H locs cells slots Q (F0 m pc ls st0) := by
  intro T hT X
  obtain ⟨v, st₀, t, T', L, h0, X', hL, e1, e2, ⟨hv, hh⟩, st⟩ := hr T hT X
  cases hv
  obtain ⟨t2, a1, b1⟩ := kk T' (by rw [e1, hh, h0]) (Stand.forget X' (fun q h => (hL q h).elim))
  exact ⟨t2, st t2 a1, b1⟩
theorem wq_S {L : List Loc} {t T' : State} (hS : va_S A0 H0 H locs) (hA : ∀ q, A1 q → A0 q) (hz : H.size ≤ t.heap.size) (hk : ∀ q : Nat, q < H.size → ¬ A1 q → t.heap[q]? = H[q]?) (hL : ∀ q ∈ L, A1 q.base) (e1 : T'.heap = t.heap) : va_S A0 H0 T'.heap (locs ++ L) := by
  refine ⟨Nat.le_trans hS.1 (by rw [e1]; exact hz), fun q h1 h2 => by rw [e1, hk q (Nat.lt_of_lt_of_le h1 hS.1) (fun z => h2 (hA q z))]; exact hS.2.1 q h1 h2, fun q hq => ?_⟩
  rcases List.mem_append.mp hq with h | h
  · exact hS.2.2 q h
  · exact hA _ (hL q h)
theorem wq_join {ws wc w1 ws' : va_W} {H1 : Heap} (hP : va_P D cl ws H) (hD : va_D A0 ws) (isC isR : List Nat) (hC : isC.map (fun i => ws[i]?) = wc.map some) (hC1 : isC.map (fun i => ws'[i]?) = w1.map some) (hR : isR.map (fun i => ws'[i]?) = isR.map (fun i => ws[i]?)) (had : ws'.map Prod.fst = ws.map Prod.fst) (hw : w1.map Prod.fst = wc.map Prod.fst)
    (hall : (List.range ws'.length).all (fun k => isC.contains k || (isR.contains k && !isC.contains k)) = true)
    (hk : ∀ q : Nat, q < H.size → ¬ wA wc q → H1[q]? = H[q]?) (hP1 : va_P D cl w1 H1) : va_P D cl ws' H1 ∧ va_D A0 ws' := by
  have at' : ∀ {w v : va_W} {is : List Nat}, is.map (fun i => w[i]?) = v.map some → ∀ (k : Nat) (q : Nat × va_E), v[k]? = some q → ∃ i, is[k]? = some i ∧ w[i]? = some q := by
    intro w v is hs k q hq
    have h1 : (is.map (fun i => w[i]?))[k]? = some (some q) := by rw [hs, List.getElem?_map, hq]; rfl
    rw [List.getElem?_map] at h1
    cases hi : is[k]? with
    | none => rw [hi] at h1; cases h1
    | some i => rw [hi] at h1; exact ⟨i, rfl, Option.some.inj h1⟩
  have ad : ∀ (k : Nat) (q : Nat × va_E), ws'[k]? = some q → ∃ q', ws[k]? = some q' ∧ q'.1 = q.1 := by
    intro k q hq
    have h1 : (ws'.map Prod.fst)[k]? = some q.1 := by rw [List.getElem?_map, hq]; rfl
    rw [had, List.getElem?_map] at h1
    cases hi : ws[k]? with
    | none => rw [hi] at h1; cases h1
    | some q' => rw [hi] at h1; exact ⟨q', rfl, Option.some.inj h1⟩
  refine ⟨fun k q hq => ?_, fun i j x y hi hj hxy => ?_, fun k q hq => ?_⟩
  · have hlt : k < ws'.length := (List.getElem?_eq_some_iff.mp hq).1
    have hc := List.all_eq_true.mp hall k (List.mem_range.mpr hlt)
    simp only [Bool.or_eq_true, Bool.and_eq_true, List.contains_iff_mem, Bool.not_eq_true', decide_eq_false_iff_not] at hc
    rcases hc with hc | ⟨hc, hn⟩
    · obtain ⟨j, hj⟩ := List.getElem?_of_mem hc
      have h2 : (isC.map (fun i => ws'[i]?))[j]? = some (some q) := by rw [List.getElem?_map, hj]; exact congrArg some hq
      rw [hC1, List.getElem?_map] at h2
      cases hw1 : w1[j]? with
      | none => rw [hw1] at h2; cases h2
      | some z =>
        rw [hw1] at h2
        have hz : z = q := Option.some.inj (Option.some.inj h2)
        rw [hz] at hw1
        exact hP1 j q hw1
    · obtain ⟨j, hj⟩ := List.getElem?_of_mem hc
      have h2 : (isR.map (fun i => ws'[i]?))[j]? = some (some q) := by rw [List.getElem?_map, hj]; exact congrArg some hq
      rw [hR, List.getElem?_map, hj] at h2
      have hwk : ws[k]? = some q := Option.some.inj h2
      have hat := hP k q hwk
      refine hat.kept (hk q.1 hat.lt (fun hm => ?_))
      obtain ⟨z, hz, hze⟩ := List.mem_map.mp hm
      obtain ⟨j2, hj2⟩ := List.getElem?_of_mem hz
      obtain ⟨i2, h5, h6⟩ := at' hC j2 z hj2
      have he := hD.1 k i2 q z hwk h6 hze.symm
      rw [he] at hn
      have : isC.contains i2 = true := List.contains_iff_mem.mpr (List.mem_of_getElem? h5)
      rw [this] at hn
      cases hn
  · obtain ⟨x', hx1, hx2⟩ := ad i x hi
    obtain ⟨y', hy1, hy2⟩ := ad j y hj
    exact hD.1 i j x' y' hx1 hy1 (by rw [hx2, hy2, hxy])
  · obtain ⟨q', h1, h2⟩ := ad k q hq
    rw [← h2]
    exact hD.2 k q' h1
theorem wq_call1 {ws wc w1 ws' : va_W} {v : Value} (hr : va_Run p l e R s m args below meth c H locs cells slots 0 0 (F0 m pc ls st0) rest (wq_x cl D w1 (some v) (wA wc) a) (wA wc)) (hP : va_P D cl ws H) (hD : va_D A0 ws) (hS : va_S A0 H0 H locs) (isC isR : List Nat) (hC : isC.map (fun i => ws[i]?) = wc.map some) (hC1 : isC.map (fun i => ws'[i]?) = w1.map some) (hR : isR.map (fun i => ws'[i]?) = isR.map (fun i => ws[i]?)) (had : ws'.map Prod.fst = ws.map Prod.fst) (hw : w1.map Prod.fst = wc.map Prod.fst)
    (hall : (List.range ws'.length).all (fun k => isC.contains k || (isR.contains k && !isC.contains k)) = true)
    (kk : ∀ (H : Heap) (locs : List Loc), va_P D cl ws' H → va_D A0 ws' → va_S A0 H0 H locs → W p l e R s m args below meth c H locs cells slots Q (F0 m (pc + 3) ls (v :: rest))) : W p l e R s m args below meth c H locs cells slots Q (F0 m pc ls st0) := by
  intro T hT X
  obtain ⟨v, st₀, t, T', L, h0, X', hL, e1, e2, ⟨hv, hp1, hz, hk⟩, st⟩ := hr T hT X
  cases hv
  rw [h0] at hz hk
  have hin : ∀ q, wA wc q → A0 q := fun q hm => by
    obtain ⟨z, hz, hze⟩ := List.mem_map.mp hm
    obtain ⟨j, hj⟩ := List.getElem?_of_mem hz
    have h1 : (isC.map (fun i => ws[i]?))[j]? = some (some z) := by rw [hC, List.getElem?_map, hj]; rfl
    rw [List.getElem?_map] at h1
    cases hi : isC[j]? with
    | none => rw [hi] at h1; cases h1
    | some i => rw [hi] at h1; rw [← hze]; exact hD.2 i z (Option.some.inj h1)
  obtain ⟨g1, g2⟩ := wq_join (ws' := ws') hP hD isC isR hC hC1 hR had hw hall (H1 := T'.heap) (fun q h1 h2 => by rw [e1]; exact hk q h1 h2) (by rw [e1]; exact hp1)
  obtain ⟨t2, a1, b1⟩ := kk T'.heap (locs ++ L) g1 g2 (wq_S hS hin hz hk hL e1) T' rfl X'
  exact ⟨t2, st t2 a1, b1⟩
theorem wq_call0 {ws wc w1 ws' : va_W} (hr : va_Run p l e R s m args below meth c H locs cells slots 0 0 (F0 m pc ls st0) rest (wq_x cl D w1 none (wA wc) a) (wA wc)) (hP : va_P D cl ws H) (hD : va_D A0 ws) (hS : va_S A0 H0 H locs) (isC isR : List Nat) (hC : isC.map (fun i => ws[i]?) = wc.map some) (hC1 : isC.map (fun i => ws'[i]?) = w1.map some) (hR : isR.map (fun i => ws'[i]?) = isR.map (fun i => ws[i]?)) (had : ws'.map Prod.fst = ws.map Prod.fst) (hw : w1.map Prod.fst = wc.map Prod.fst)
    (hall : (List.range ws'.length).all (fun k => isC.contains k || (isR.contains k && !isC.contains k)) = true)
    (kk : ∀ (H : Heap) (locs : List Loc), va_P D cl ws' H → va_D A0 ws' → va_S A0 H0 H locs → W p l e R s m args below meth c H locs cells slots Q (F0 m (pc + 3) ls rest)) : W p l e R s m args below meth c H locs cells slots Q (F0 m pc ls st0) := by
  intro T hT X
  obtain ⟨v, st₀, t, T', L, h0, X', hL, e1, e2, ⟨hv, hp1, hz, hk⟩, st⟩ := hr T hT X
  cases hv
  rw [h0] at hz hk
  have hin : ∀ q, wA wc q → A0 q := fun q hm => by
    obtain ⟨z, hz, hze⟩ := List.mem_map.mp hm
    obtain ⟨j, hj⟩ := List.getElem?_of_mem hz
    have h1 : (isC.map (fun i => ws[i]?))[j]? = some (some z) := by rw [hC, List.getElem?_map, hj]; rfl
    rw [List.getElem?_map] at h1
    cases hi : isC[j]? with
    | none => rw [hi] at h1; cases h1
    | some i => rw [hi] at h1; rw [← hze]; exact hD.2 i z (Option.some.inj h1)
  obtain ⟨g1, g2⟩ := wq_join (ws' := ws') hP hD isC isR hC hC1 hR had hw hall (H1 := T'.heap) (fun q h1 h2 => by rw [e1]; exact hk q h1 h2) (by rw [e1]; exact hp1)
  obtain ⟨t2, a1, b1⟩ := kk T'.heap (locs ++ L) g1 g2 (wq_S hS hin hz hk hL e1) T' rfl X'
  exact ⟨t2, st t2 a1, b1⟩
variable {y : MethodName} {bytes cc : ByteArray} {maxL nL n index : Nat} {ret : Option FieldType} {ws : List Cond} {rm : Room} {Qc : Array Value → State → Outcome → State → Prop} {free : Addr → Prop} {Ts : List Cond} {own C : String} {b : Addr} {As : List Value} {g : JFrame} {W0 ws0 : va_W}
/-- a call of a method that only reads: of an object -/
theorem rn_V (S : CallFix p m c cc nL s args Ts own) (hM : Met l y ws rm (rPc cl D cA W0 (.ref b :: As)) Qc mc ms free) {ci : Nat} {q : vw_C} {fs : List Value} (hc : cl[ci]? = some q) (cw : CallW R s args own q.1 index y bytes maxL ret ws rm mc ms n) (hK : va_K D cl (tyS cA) s) (hP : va_P D cl ws0 H) (is : List Nat) (hs : is.filterMap (fun i => ws0[i]?) = W0) (he : W0[0]? = some (b, .inr (ci, fs)))
    (hn : As.length = n) (hsize : ls.size = nL) (hstack : st0 = As.reverse ++ .ref b :: rest) (hW : (rest.map fun v => v.category).sum ≤ 8) (hdg : decode cc pc = .ok (.invokevirtual index, 3)) (hf : cells + mc ≤ R.cells ∧ slots + ms ≤ R.slots) :
    va_Run p l e R s m args below meth c H locs cells slots mc ms (F0 m pc ls st0) rest (Qc (Value.ref b :: As).toArray) free :=
  have hPc := hP.sub is hs
  va_runV S hM cw ⟨rq_blind, va_recv hK hPc hc he, fun U hU hW => ⟨rfl, by rw [hU]; exact hPc, va_K.moved hW.alike hK⟩⟩ rfl hn hsize hstack (lv_room hW) hdg hf
theorem rn_S (S : CallFix p m c cc nL s args Ts own) (hM : Met l y ws rm (rPc cl D cA W0 As) Qc mc ms free) (cw : CallB R s args own index y bytes maxL ret ws rm mc ms n ∧ (Cond.static y).before args s = true) (hK : va_K D cl (tyS cA) s) (hP : va_P D cl ws0 H) (is : List Nat) (hs : is.filterMap (fun i => ws0[i]?) = W0)
    (hn : As.length = n) (hsize : ls.size = nL) (hstack : st0 = As.reverse ++ rest) (hW : (rest.map fun v => v.category).sum ≤ 8) (hdg : decode cc pc = .ok (.invokestatic index, 3)) (hf : cells + mc ≤ R.cells ∧ slots + ms ≤ R.slots) :
    va_Run p l e R s m args below meth c H locs cells slots mc ms (F0 m pc ls st0) rest (Qc As.toArray) free :=
  have hPc := hP.sub is hs
  va_runS S hM cw ⟨rq_blind, fun U hU hW => ⟨rfl, by rw [hU]; exact hPc, va_K.moved hW.alike hK⟩⟩ rfl hn hsize hstack (lv_room hW) hdg hf
/-- a call of a method that writes -/
theorem wn_V (S : CallFix p m c cc nL s args Ts own) (hM : Met l y ws rm (wPc cl D cA W0 (.ref b :: As)) Qc mc ms free) {ci : Nat} {q : vw_C} {fs : List Value} (hc : cl[ci]? = some q) (cw : CallW R s args own q.1 index y bytes maxL ret ws rm mc ms n) (hK : va_K D cl (tyS cA) s) (hP : va_P D cl ws0 H) (hD : va_D A0 ws0) (is : List Nat) (hs : is.filterMap (fun i => ws0[i]?) = W0) (hnd : va_nd is = true) (hs2 : is.map (fun i => ws0[i]?) = W0.map some) (he : W0[0]? = some (b, .inr (ci, fs)))
    (hn : As.length = n) (hsize : ls.size = nL) (hstack : st0 = As.reverse ++ .ref b :: rest) (hW : (rest.map fun v => v.category).sum ≤ 8) (hdg : decode cc pc = .ok (.invokevirtual index, 3)) (hf : cells + mc ≤ R.cells ∧ slots + ms ≤ R.slots) :
    va_Run p l e R s m args below meth c H locs cells slots mc ms (F0 m pc ls st0) rest (Qc (Value.ref b :: As).toArray) free :=
  have hPc := hP.sub is hs
  va_runV S hM cw ⟨wq_blind, va_recv hK hPc hc he, fun U hU hW => ⟨rfl, by rw [hU]; exact hPc, va_K.moved hW.alike hK, (hD.sub is hnd hs2).weaken (fun _ _ _ _ => trivial)⟩⟩ rfl hn hsize hstack (lv_room hW) hdg hf
theorem wn_S (S : CallFix p m c cc nL s args Ts own) (hM : Met l y ws rm (wPc cl D cA W0 As) Qc mc ms free) (cw : CallB R s args own index y bytes maxL ret ws rm mc ms n ∧ (Cond.static y).before args s = true) (hK : va_K D cl (tyS cA) s) (hP : va_P D cl ws0 H) (hD : va_D A0 ws0) (is : List Nat) (hs : is.filterMap (fun i => ws0[i]?) = W0) (hnd : va_nd is = true) (hs2 : is.map (fun i => ws0[i]?) = W0.map some)
    (hn : As.length = n) (hsize : ls.size = nL) (hstack : st0 = As.reverse ++ rest) (hW : (rest.map fun v => v.category).sum ≤ 8) (hdg : decode cc pc = .ok (.invokestatic index, 3)) (hf : cells + mc ≤ R.cells ∧ slots + ms ≤ R.slots) :
    va_Run p l e R s m args below meth c H locs cells slots mc ms (F0 m pc ls st0) rest (Qc As.toArray) free :=
  have hPc := hP.sub is hs
  va_runS S hM cw ⟨wq_blind, fun U hU hW => ⟨rfl, by rw [hU]; exact hPc, va_K.moved hW.alike hK, (hD.sub is hnd hs2).weaken (fun _ _ _ _ => trivial)⟩⟩ rfl hn hsize hstack (lv_room hW) hdg hf
theorem va_RA_inj {U : State} {a b : ClassId} {ty : FieldType} (h1 : va_RA U a ty) (h2 : va_RA U b ty) : a = b := by
  cases ty with
  | object C =>
    obtain ⟨_, _, _, _, _, h3⟩ := h1
    obtain ⟨_, _, _, _, _, h4⟩ := h2
    exact Option.some.inj (h3.symm.trans h4)
  | _ => exact Option.some.inj (Eq.trans (Eq.symm h1) h2)
theorem wn_I (S : CallFix p m c cc nL s args Ts own) (hM : Met l y ws rm (wPc cl D cA W0 (.ref b :: As)) Qc mc ms free) (cw : CallB R s args own index y bytes maxL none ws rm mc ms n ∧ y.name = "<init>" ∧ (Cond.instanceMethod y).before args s = true) (hK : va_K D cl (tyS cA) s) (hP : va_P D cl ws0 H) (hD : va_D A0 ws0) (is : List Nat) (hs : is.filterMap (fun i => ws0[i]?) = W0) (hnd : va_nd is = true) (hs2 : is.map (fun i => ws0[i]?) = W0.map some)
    (hn : As.length = n) (hsize : ls.size = nL) (hstack : st0 = As.reverse ++ .ref b :: rest) (hW : (rest.map fun v => v.category).sum ≤ 8) (hdg : decode cc pc = .ok (.invokespecial index, 3)) (hf : cells + mc ≤ R.cells ∧ slots + ms ≤ R.slots) :
    va_Run p l e R s m args below meth c H locs cells slots mc ms (F0 m pc ls st0) rest (Qc (Value.ref b :: As).toArray) free :=
  have hPc := hP.sub is hs
  va_runI S hM cw ⟨wq_blind, fun U hU hW => ⟨rfl, by rw [hU]; exact hPc, va_K.moved hW.alike hK, (hD.sub is hnd hs2).weaken (fun _ _ _ _ => trivial)⟩⟩ rfl hn hsize hstack (lv_room hW) hdg hf
/-- newarray of a class that is known already -/
theorem ka_newa {D : va_G} {cl : List vw_C} {A : Nat → Prop} {tys : List (ClassId × FieldType)} {ws : va_W} (hexec : p.tables.exec = Jvm.exec) (hb : c.code = cc) {atype : ArrayType} (harr : (Cond.arrayClass (newarray.typeOf atype)).before args s = true) {ty : FieldType} (hty : newarray.typeOf atype = ty) (hK : va_K D cl tys s) (hP : va_P D cl ws H) (hD : va_D A ws) (hS : va_S A H0 H locs) (hA : ∀ q, H0.size ≤ q → A q) (t0 : Nat) {cA : ClassId} (ht : tys[t0]? = some (cA, ty))
    {n : Int32} {N' : Nat} {a0 : vp_A} (ha : ∀ cA : ClassId, vp_cell cA a0 = arrV cA N' (fun _ => defaultValue ty)) (hn : ¬ n < 0) (hN : n.toNatClampNeg = N') (hbytes : N' * componentBytes ty ≤ 536870912) (hcells : cells + 1 ≤ R.cells) (hslots : slots + N' ≤ R.slots) (hdg : decode cc pc = .ok (.newarray atype, 2))
    (kk : ∀ (q : Nat) (H1 : Heap), va_P D cl (ws ++ [(q, .inl (cA, a0))]) H1 → va_D A (ws ++ [(q, .inl (cA, a0))]) → va_S A H0 H1 locs →
      W p l e R s m args below meth c H1 locs (cells + 1) (slots + N') Q (F0 m (pc + 2) ls (.ref q :: rest))) : W p l e R s m args below meth c H locs cells slots Q (F0 m pc ls (.int n :: rest)) := by
  refine va_newa hexec hb harr hty hK hP hD hS hA ha hn hN hbytes hcells hslots hdg (fun q cA' H1 hK' hP' hD' hS' => ?_)
  have e1 := (hK'.2 tys.length (cA', ty) (by simp)).2
  have e2 := (hK.2 t0 _ ht).2
  have e3 : cA' = cA := va_RA_inj e1 e2
  subst e3
  exact kk q H1 hP' hD' hS'
/-- anewarray of a class that is known already -/
theorem ka_newq {D : va_G} {cl : List vw_C} {A : Nat → Prop} {tys : List (ClassId × FieldType)} {ws : va_W} (hexec : p.tables.exec = Jvm.exec) (hb : c.code = cc) {own C : String} {index : Nat} (hown : s.vm.findClass own = some m.cls) (hclink : (Cond.classLink own index C).before args s = true) (hover : va_AO C s) (hK : va_K D cl tys s) (hP : va_P D cl ws H) (hD : va_D A ws) (hS : va_S A H0 H locs) (hA : ∀ q, H0.size ≤ q → A q) (t0 : Nat) {cA : ClassId} (ht : tys[t0]? = some (cA, .object C))
    {n : Int32} {N' : Nat} (hn : ¬ n < 0) (hN : n.toNatClampNeg = N') (hbytes : N' * 4 ≤ 536870912) (hcells : cells + 1 ≤ R.cells) (hslots : slots + N' ≤ R.slots) (hdg : decode cc pc = .ok (.anewarray index, 3))
    (kk : ∀ (q : Nat) (H1 : Heap), va_P D cl (ws ++ [(q, .inl (cA, N', .inr (.inr (.inr (.inr (fun _ => none))))))]) H1 → va_D A (ws ++ [(q, .inl (cA, N', .inr (.inr (.inr (.inr (fun _ => none))))))]) → va_S A H0 H1 locs →
      W p l e R s m args below meth c H1 locs (cells + 1) (slots + N') Q (F0 m (pc + 3) ls (.ref q :: rest))) : W p l e R s m args below meth c H locs cells slots Q (F0 m pc ls (.int n :: rest)) := by
  refine va_newq hexec hb hown hclink hover hK hP hD hS hA hn hN hbytes hcells hslots hdg (fun q cA' H1 hK' hP' hD' hS' => ?_)
  have e1 := (hK'.2 tys.length (cA', .object C) (by simp)).2
  have e2 := (hK.2 t0 _ ht).2
  have e3 : cA' = cA := va_RA_inj e1 e2
  subst e3
  exact kk q H1 hP' hD' hS'
/-- two worlds whose cells hold the same -/
theorem va_P.conv {D : va_G} {cl : List vw_C} {ws ws' : va_W} {H : Heap} (h : va_P D cl ws H) (hl : ∀ (k : Nat) (q : Nat × va_E), ws'[k]? = some q → ∃ q' : Nat × va_E, ws[k]? = some q' ∧ (va_at D cl q' H → va_at D cl q H)) : va_P D cl ws' H := by
  intro k q hq
  obtain ⟨q', h1, h2⟩ := hl k q hq
  exact h2 (h k q' h1)
end RQ
