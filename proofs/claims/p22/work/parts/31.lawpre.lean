theorem dL_cell_0 : decode cL_cell 0 = .ok (.iload_n 1, 1) := by decide +kernel
theorem dL_cell_1 : decode cL_cell 1 = .ok (.aload_n 0, 1) := by decide +kernel
theorem dL_cell_2 : decode cL_cell 2 = .ok (.arraylength, 1) := by decide +kernel
theorem dL_cell_3 : decode cL_cell 3 = .ok (.if_icmp .ge 9, 3) := by decide +kernel
theorem dL_cell_6 : decode cL_cell 6 = .ok (.aload_n 0, 1) := by decide +kernel
theorem dL_cell_7 : decode cL_cell 7 = .ok (.iload_n 1, 1) := by decide +kernel
theorem dL_cell_8 : decode cL_cell 8 = .ok (.iaload, 1) := by decide +kernel
theorem dL_cell_9 : decode cL_cell 9 = .ok (.goto 4, 3) := by decide +kernel
theorem dL_cell_12 : decode cL_cell 12 = .ok (.iconst 0, 1) := by decide +kernel
theorem dL_cell_13 : decode cL_cell 13 = .ok (.ireturn, 1) := by decide +kernel
/-! THE CLAIM OUT OF ONE WALK OF THE LAW'S BODY. Your part is whole_start (and what it stands on); all else here is the same for every law, but numbers. -/
def R_law : String := "MixElectionLaw"
def lw_P (b : Addr) (xs : List Int32) (args : Array Value) (s : State) : Prop := args = #[.ref b] ∧ s.IntsAt b xs ∧ xs.length ≤ 2052 ∧ (Jvm.Cond.and given_1 narrow_1).before args s = true
def lw_Q (_ : Array Value) (s : State) (o : Outcome) (t : State) : Prop := o = .returned (some (.int 1)) ∧ Framed s o t [] 600000 7302250
def lw_Z (below : List Frame) (a : Array Value) (s : State) : State → Prop := fun t => ∃ o, t.status = .running ∧ Ended t below o ∧ lw_Q a s o t
/-- the law's own end, with 1 on the stack, nothing written that was there before, its room as the claim has it -/
theorem lw_ret {p : Program} {l : Launch} {e : Env} {s : State} {m : MethodId} {below : List Frame} {meth : Method} {c : Code} {b : Nat} (hx : p.tables.exec = Jvm.exec) (hb : c.code = code) (hr : meth.sig.returnType = ret) (hlocks : meth.locks = false) {pc : Nat} {H : Heap} {ls : Array Slot} (hdg : decode code pc = .ok (.ireturn, 1)) : W p l e room_1 s m #[Value.ref b] below meth c H [] 600000 7302250 (lw_Z below #[Value.ref b] s) (F0 m pc ls [.int 1]) := by
  intro T hT X
  obtain ⟨fs, hret, hrun, hended, hW, hframe⟩ := X.leave (v := some (.int 1)) (hlocks := hlocks) (fun h => by rw [hr] at h; cases h)
  have hmeth' : T.vm.method? m = some meth := X.method'
  refine ⟨T.setFrames fs, ?_, .returned (some (.int 1)), hrun, hended, rfl, ⟨_, rfl⟩, hW, hframe⟩
  jvm_step X.here [X.here.top, hx, hb, hdg, hmeth', hr, ret, narrow_b1]
  (try refine ⟨rfl, ?_⟩); (try refine ⟨rfl, ?_⟩)
  first | (intro acts; rw [hret _ acts rfl rfl rfl]) | rw [hret _ _ rfl rfl rfl]
  exact Steps.refl _
/-- what holds at the law's entry: the machine, the code, the tables' words (any of lw_tbl by 'hts w (by decide +kernel)'), the script of L ints xs at the cell b, what the Statement gives of the start (any of its parts by flat_of_before) -/
def lw_At (p : Program) (s : State) (m : MethodId) (meth : Method) (c : Code) (b L : Nat) (xs : Nat → Int32) : Prop :=
  p.tables.exec = Jvm.exec ∧ c.code = code ∧ meth.sig.returnType = ret ∧ c.maxLocals = 4 ∧ s.vm.findClass R_law = some m.cls ∧ (∀ w ∈ lw_tbl, w.before #[Value.ref b] s = true) ∧ va_X b L xs s s.heap ∧ b < s.heap.size ∧ meth.locks = false ∧ (Jvm.Cond.and given_1 narrow_1).before #[Value.ref b] s = true

/-- a place of the script, or 0 behind it -/
def lc (xs : Nat → Int32) (L : Nat) (k : Int32) : Int32 := if k < Int32.ofNat L then xs k.toNatClampNeg else 0
theorem lc_in {k : Int32} {L n : Nat} (hk : k = nI n) (hn : n < 2 ^ 31) (hL : L < 2 ^ 31) (c : ¬ Int32.ofNat L ≤ k) : vp_in k L := by
  rw [hk, show Int32.ofNat L = nI L from rfl, nI_leI hL hn] at c
  rw [hk]
  exact vp_in_nI (by omega) hL
set_option maxHeartbeats 4000000 in
set_option maxRecDepth 100000 in
theorem c_L_cell (l : Launch) (b L : Nat) (xs : Nat → Int32) (k : Int32) (n : Nat) (hk : k = nI n) (hn : n < 2 ^ 31) (hL : L < 2 ^ 31) : Met l yL_cell wsL_cell ({ frames := 0, cells := 0, slots := 0, locals := 0 }) (va_Pc [.ref b, .int k] (fun U => va_X b L xs U U.heap)) (rq_x (some (.int (lc xs L k)))) 0 0 (fun _ => False) := by
  refine Met.ofW (cc := cL_cell) (maxL := 2) (ret := (some .int)) (by decide) rfl ?_
  intro p e s m args below meth c s₁ B hml hv
  obtain ⟨rfl, hX⟩ := hv
  have hx := B.exec
  have hb := B.bytes
  have hr := B.returns
  have hlocks := B.notSynchronized
  have hbl : b < s.heap.size := by
    obtain ⟨scr, h1, _⟩ := hX
    exact (Array.getElem?_eq_some_iff.mp h1).1
  have hS : va_S (fun _ => False) s.heap s.heap [] := va_S.rf
  have hl := lv_entry ([.ref b, .int k]) (n := 2) (Nat.le_of_ble_eq_true rfl)
  rw [lg_entry_eq]
  generalize (lg_sl ([.ref b, .int k]) ++ List.replicate (2 - (lg_sl ([.ref b, .int k])).length) Slot.unset).toArray = ls at hl ⊢
  have hl : lv_has ls 2 [(0, .ref b), (1, .int k)] := hl
  refine lv_iload_n hx hb dL_cell_0 rfl (lv_at hl 1 rfl) ?_
  refine lv_aload_n hx hb dL_cell_1 rfl (lv_at hl 0 rfl) ?_
  refine va_slen hx hb hX hbl (fun h => h) hS dL_cell_2 ?_
  refine lv_icmp_ge (tgt := 12) hx hb dL_cell_3 (by decide) (fun c_3 => ?_) (fun c_3 => ?_)
  · refine lv_iconst (v := 0) hx hb dL_cell_12 (by decide) ?_
    exact W.iret (v := 0) hx hb hr (fun t ht hW => ⟨congrArg (fun z => Outcome.returned (some (Value.int z))) (by rw [lc, if_neg (Int32.not_lt.mpr c_3)]), ht⟩) (fun _ h => by cases h) dL_cell_13
  · refine lv_aload_n hx hb dL_cell_6 rfl (lv_at hl 0 rfl) ?_
    refine lv_iload_n hx hb dL_cell_7 rfl (lv_at hl 1 rfl) ?_
    refine va_sld hx hb hX hbl (fun h => h) hS (lc_in hk hn hL c_3) dL_cell_8 ?_
    refine lv_goto (tgt := 13) hx hb dL_cell_9 (by decide) ?_
    exact W.iret (v := xs k.toNatClampNeg) hx hb hr (fun t ht hW => ⟨congrArg (fun z => Outcome.returned (some (Value.int z))) (by rw [lc, if_pos (Int32.not_le.mp c_3)]), ht⟩) (fun _ h => by cases h) dL_cell_13
theorem ce_blind {b L : Nat} {xs : Nat → Int32} {av : List Value} : FrameBlind (va_Pc av (fun U => va_X b L xs U U.heap)) := fun a U g mk q => ⟨q.1, va_X.moved (u := U) (U := U.calling g mk a) (Vm.Alike.refl U.vm) q.2⟩
theorem ao_g {args : Array Value} {s : State} (h : (Cond.arrayOver (.array .int)).before args s = true) : ∃ (comp c : ClassId) (k : Class), s.vm.findClass (FieldType.array .int).toString = some comp ∧ s.vm.classes[c]? = some k ∧ k.kind = .array comp (.array .int) ∧ s.vm.findClass ("[" ++ (FieldType.array .int).toString) = some c := by
  unfold Cond.before Cond.holds at h
  simp only [Cond.value, beq_iff_eq] at h
  cases hc : s.vm.findClass (FieldType.array .int).toString with
  | none => simp [hc] at h
  | some comp =>
    simp only [hc, Option.bind_some, Option.bind_eq_some_iff, Option.map_eq_some_iff] at h
    obtain ⟨c, hi, k, hk, hb⟩ := h
    obtain ⟨hlt, hp, -⟩ := Array.findIdx?_eq_some_iff_getElem.mp hi
    have hkk : s.vm.classes[c] = k := (Array.getElem?_eq_some_iff.mp hk).2
    rw [hkk] at hp
    cases hkind : k.kind with
    | array component ty =>
      rw [hkind] at hb hp
      simp at hb hp
      exact ⟨comp, c, k, rfl, hk, by rw [hkind, hp, hb.1], hb.2⟩
    | _ => rw [hkind] at hb; simp at hb
theorem la_arr {args : Array Value} {s : State} (h0 : (Cond.arrayClass .int).before args s = true) (h1 : (Cond.arrayClass .boolean).before args s = true) (h2 : (Cond.arrayClass .long).before args s = true) (h3 : (Cond.arrayOver (.object "MixElection$Pairs")).before args s = true) (h4 : (Cond.arrayOver (.array .int)).before args s = true) : ∃ cA : Nat → ClassId, (∀ (k : Nat) (q : ClassId × FieldType), (tyS cA)[k]? = some q → ArrOfT s q.1 q.2 ∧ va_RA s q.1 q.2) ∧ xK cA s := by
  obtain ⟨c0, k0, p0, f0, g0, e0⟩ := Cond.arrayClass_spec h0
  obtain ⟨c1, k1, p1, f1, g1, e1⟩ := Cond.arrayClass_spec h1
  obtain ⟨c2, k2, p2, f2, g2, e2⟩ := Cond.arrayClass_spec h2
  obtain ⟨p3, c3, k3, a3, i3, g3, e3, f3⟩ := Cond.arrayOver_spec h3
  obtain ⟨p4, c4, k4, a4, g4, e4, f4⟩ := ao_g h4
  have ep : p4 = c0 := Option.some.inj (a4.symm.trans f0)
  subst ep
  refine ⟨fun k => if k = 0 then p4 else if k = 1 then c1 else if k = 2 then c2 else if k = 3 then c3 else c4, ?_, ⟨k4, g4, e4⟩, h3⟩
  intro k q hq
  match k, hq with
  | 0, hq => cases hq; exact ⟨fun n z => ⟨fun k h => (by cases h), k0, g0, p0, e0⟩, f0⟩
  | 1, hq => cases hq; exact ⟨fun n z => ⟨fun k h => (by cases h), k1, g1, p1, e1⟩, f1⟩
  | 2, hq => cases hq; exact ⟨fun n z => ⟨fun k h => (by cases h), k2, g2, p2, e2⟩, f2⟩
  | 3, hq => cases hq; exact ⟨fun n z => ⟨fun k h => (by cases h), k3, g3, p3, e3⟩, k3, p3, g3, e3, a3, f3⟩
  | 4, hq => cases hq; exact ⟨fun n z => ⟨fun k h => (by cases h), k4, g4, p4, e4⟩, f4⟩
  | k + 5, hq => simp [tyS] at hq
theorem st_wi {x lo hi : Int32} {a b : Nat} (hlo : lo = nI a) (hhi : hi = nI b) (hab : a ≤ b) (hb : b < 2 ^ 31) : ∃ n : Nat, a ≤ n ∧ n ≤ b ∧ wi x lo hi = nI n ∧ wj x lo hi = nI n := by
  subst hlo; subst hhi
  have ta := nI_toInt (n := a) (by omega)
  have tb := nI_toInt (n := b) hb
  by_cases h1 : x < nI a
  · refine ⟨a, by omega, by omega, ?_, ?_⟩
    · have h2 : x < nI b := by rw [Int32.lt_iff_toInt_lt] at h1 ⊢; omega
      rw [wi, if_pos h2, if_neg (fun q => Int32.lt_irrefl (Int32.lt_trans q h1))]
    · rw [wj, if_neg (Int32.not_le.mpr h1)]
  · by_cases h2 : x < nI b
    · obtain ⟨n, hn, e⟩ := nI_of (x := x) (fun q => by rw [Int32.lt_iff_toInt_lt] at h1 q; have : (0 : Int32).toInt = 0 := rfl; omega)
      subst e
      rw [nI_ltI (by omega) (by omega)] at h1 h2
      refine ⟨n, by omega, by omega, ?_, ?_⟩
      · rw [wi, if_pos ((nI_ltI hn hb).mpr h2)]
        by_cases h3 : a < n
        · rw [if_pos ((nI_ltI (by omega) hn).mpr h3)]
        · rw [if_neg (fun q => h3 ((nI_ltI (by omega) hn).mp q)), show a = n by omega]
      · rw [wj, if_pos ((nI_leI (by omega) hn).mpr (by omega)), if_pos ((nI_leI hn hb).mpr (by omega))]
    · refine ⟨b, hab, Nat.le_refl _, ?_, ?_⟩
      · rw [wi, if_neg h2]
        by_cases h3 : a < b
        · rw [if_pos ((nI_ltI (by omega) hb).mpr h3)]
        · rw [if_neg (fun q => h3 ((nI_ltI (by omega) hb).mp q)), show a = b by omega]
      · rw [wj, if_pos (Int32.not_lt.mp h1)]
        by_cases h3 : x ≤ nI b
        · rw [if_pos h3]
          exact Int32.le_antisymm h3 (Int32.not_lt.mp h2)
        · rw [if_neg h3]
/-- the two ways of taking a number into 1 .. t, and q - d at most -/
theorem st_two {x : Int32} {t q0 d : Nat} (ht : 1 ≤ t) (htb : t < 1000) (hd : d + 1 ≤ q0) (hd9 : d < 100) (hq : q0 < 1000000) : ∃ n : Nat, (1 ≤ n ∧ n + d ≤ q0) ∧ n ≤ t ∧ wi x 1 (if nI q0 - nI d < nI t then nI q0 - nI d else nI t) = nI n ∧ wj (wj x 1 (nI t)) 1 (nI q0 - nI d) = nI n := by
  have e1 : nI q0 - nI d = nI (q0 - d) := pk_sub (by omega)
  rw [e1]
  by_cases h : q0 - d < t
  · rw [if_pos ((nI_ltI (by omega) (by omega)).mpr h)]
    obtain ⟨n, g1, g2, g3, g4⟩ := st_wi (x := x) (lo := 1) (hi := nI (q0 - d)) (a := 1) (b := q0 - d) rfl rfl (by omega) (by omega)
    refine ⟨n, ⟨g1, by omega⟩, by omega, g3, ?_⟩
    obtain ⟨n2, k1, k2, k3, k4⟩ := st_wi (x := x) (lo := 1) (hi := nI t) (a := 1) (b := t) rfl rfl (by omega) (by omega)
    rw [k4]
    -- both are the middle one of 1, x, q0 - d
    rw [← g4]
    by_cases h1 : (1 : Int32) ≤ x
    · by_cases h2 : x ≤ nI t
      · have : wj x 1 (nI t) = x := by rw [wj, if_pos h1, if_pos h2]
        rw [← k4, this]
      · have e5 : wj x 1 (nI t) = nI t := by rw [wj, if_pos h1, if_neg h2]
        rw [← k4, e5]
        have h3 : ¬ x ≤ nI (q0 - d) := fun q => h2 (Int32.le_trans q ((nI_leI (by omega) (by omega)).mpr (by omega)))
        have h4 : ¬ nI t ≤ nI (q0 - d) := fun q => by rw [nI_leI (by omega) (by omega)] at q; omega
        rw [wj, wj, if_pos h1, if_neg h3, if_pos (show (1 : Int32) ≤ nI t from (nI_leI (a := 1) (by omega) (by omega)).mpr ht), if_neg h4]
    · have e5 : wj x 1 (nI t) = 1 := by rw [wj, if_neg h1]
      rw [← k4, e5]
      rw [wj, wj, if_neg h1, if_pos (Int32.le_refl 1), if_pos (show (1 : Int32) ≤ nI (q0 - d) from (nI_leI (a := 1) (by omega) (by omega)).mpr (by omega))]
  · rw [if_neg (fun q => h ((nI_ltI (by omega) (by omega)).mp q))]
    obtain ⟨n, g1, g2, g3, g4⟩ := st_wi (x := x) (lo := 1) (hi := nI t) (a := 1) (b := t) rfl rfl ht (by omega)
    refine ⟨n, ⟨g1, by omega⟩, g2, g3, ?_⟩
    rw [g4, wj, if_pos (show (1 : Int32) ≤ nI n from (nI_leI (a := 1) (by omega) (by omega)).mpr g1), if_pos ((nI_leI (by omega) (by omega)).mpr (by omega))]
theorem setup (pr cn tr th : Int32) : ∃ n0 p0 q0 c0 t0 k0 : Nat, (11 ≤ n0 ∧ n0 ≤ 999959) ∧ sp_least n0 p0 ∧ p0 = 2 * q0 + 1 ∧ p0 ≤ 999959 ∧ (1 ≤ c0 ∧ c0 ≤ 10) ∧ (1 ≤ t0 ∧ t0 ≤ 5) ∧ (1 ≤ k0 ∧ k0 ≤ t0) ∧ (5 ≤ q0 ∧ t0 < q0) ∧
    wi pr 11 999959 = nI n0 ∧ wi cn 1 (if nI q0 - 2 < 10 then nI q0 - 2 else 10) = nI c0 ∧ wi tr 1 (if nI q0 - 1 < 5 then nI q0 - 1 else 5) = nI t0 ∧ wi th 1 (nI t0) = nI k0 ∧
    wj pr 11 999959 = nI n0 ∧ wj (wj cn 1 10) 1 (nI q0 - 2) = nI c0 ∧ wj (wj tr 1 5) 1 (nI q0 - 1) = nI t0 ∧ wj th 1 (nI t0) = nI k0 := by
  obtain ⟨n0, a1, a2, a3, a4⟩ := st_wi (x := pr) (lo := 11) (hi := 999959) (a := 11) (b := 999959) rfl rfl (by omega) (by omega)
  obtain ⟨p0, b1, b2⟩ := pk_least (fun k => n0 ≤ k ∧ sp_safe k) ⟨999959, a2, sp_top⟩
  have hl : sp_least n0 p0 := ⟨b1.1, b1.2, fun m h1 h2 h3 => b2 m h2 ⟨h1, h3⟩⟩
  have h9 : p0 ≤ 999959 := by
    rcases Nat.lt_or_ge 999959 p0 with q | q
    · exact absurd ⟨a2, sp_top⟩ (b2 999959 q)
    · exact q
  have hodd := b1.2.2.1
  have h11 := b1.1
  obtain ⟨c0, c1, c2, c3, c4⟩ := st_two (x := cn) (t := 10) (q0 := p0 / 2) (d := 2) (by omega) (by omega) (by omega) (by omega) (by omega)
  obtain ⟨t0, d1, d2, d3, d4⟩ := st_two (x := tr) (t := 5) (q0 := p0 / 2) (d := 1) (by omega) (by omega) (by omega) (by omega) (by omega)
  obtain ⟨k0, f1, f2, f3, f4⟩ := st_wi (x := th) (lo := 1) (hi := nI t0) (a := 1) (b := t0) rfl rfl d1.1 (by omega)
  exact ⟨n0, p0, p0 / 2, c0, t0, k0, ⟨a1, a2⟩, hl, by omega, h9, ⟨c1.1, c2⟩, ⟨d1.1, d2⟩, ⟨f1, f2⟩, ⟨by omega, by omega⟩, a3, c3, d3, f3, a4, c4, d4, f4⟩
def LWc (cA : Nat → ClassId) (xo : Nat) (u : Nat → Nat) (c0 t0 k0 : Nat) (sc : Nat → Int32) (a xA xB : Nat → Nat → Int32) (lq : Nat → Nat → Int64) : va_W := [(xo, .inr (6, [.ref (u 0), .ref (u 1), .ref (u 2), .int (sc 3), .ref (u 3), .ref (u 4), .ref (u 5), .ref (u 6), .ref (u 7), .ref (u 8), .ref (u 9), .ref (u 10), .int (sc 7), .int (sc 6), .int (sc 9), .int (sc 10), .int (sc 15), .int (sc 11), .int (sc 12), .int (sc 14)])), ((u 0), .inr (1, [.int (sc 0), .int (sc 1), .int (sc 2)])), ((u 1), .inr (5, [.ref (u 0), .int (sc 4), .int (sc 5), .ref (u 11), .ref (u 12), .ref (u 13), .ref (u 14), .int (sc 13)])), ((u 11), .inl (cA 0, k0, .inl (a 0))), ((u 12), .inl (cA 1, (t0 + 1), .inl (a 1))), ((u 13), .inl (cA 4, (t0 + 1), .inr (.inr (.inr (.inr (fun k => some (u 51 + k))))))), ((u 14), .inl (cA 0, (t0 + 1), .inl (a 9))), ((u 2), .inr (0, [.ref (u 15), .ref (u 16), .ref (u 17), .ref (u 18), .ref (u 19), .int (sc 8)])), ((u 15), .inl (cA 0, 600, .inl (a 6))), ((u 16), .inl (cA 0, 600, .inl (a 7))), ((u 17), .inl (cA 0, 600, .inl (a 8))), ((u 18), .inl (cA 2, 600, .inr (.inl (lq 0)))), ((u 19), .inl (cA 2, 600, .inr (.inl (lq 1)))), ((u 3), .inr (3, [.ref (u 20), .ref (u 21)])), ((u 20), .inl (cA 0, 40, .inl (a 10))), ((u 21), .inl (cA 0, 40, .inl (a 11))), ((u 4), .inl (cA 3, 5, .inr (.inr (.inr (.inr (fun k => some (u (22 + k)))))))), ((u 22), .inr (3, [.ref (u 27), .ref (u 28)])), ((u 27), .inl (cA 0, 40, .inl (xA 0))), ((u 28), .inl (cA 0, 40, .inl (xB 0))), ((u 23), .inr (3, [.ref (u 29), .ref (u 30)])), ((u 29), .inl (cA 0, 40, .inl (xA 1))), ((u 30), .inl (cA 0, 40, .inl (xB 1))), ((u 24), .inr (3, [.ref (u 31), .ref (u 32)])), ((u 31), .inl (cA 0, 40, .inl (xA 2))), ((u 32), .inl (cA 0, 40, .inl (xB 2))), ((u 25), .inr (3, [.ref (u 33), .ref (u 34)])), ((u 33), .inl (cA 0, 40, .inl (xA 3))), ((u 34), .inl (cA 0, 40, .inl (xB 3))), ((u 26), .inr (3, [.ref (u 35), .ref (u 36)])), ((u 35), .inl (cA 0, 40, .inl (xA 4))), ((u 36), .inl (cA 0, 40, .inl (xB 4))), ((u 5), .inr (3, [.ref (u 37), .ref (u 38)])), ((u 37), .inl (cA 0, 40, .inl (a 13))), ((u 38), .inl (cA 0, 40, .inl (a 14))), ((u 6), .inr (4, [.ref (u 39), .ref (u 40)])), ((u 39), .inr (2, [.ref (u 41), .ref (u 42)])), ((u 41), .inl (cA 0, 40, .inl (a 3))), ((u 42), .inl (cA 0, 40, .inl (a 12))), ((u 40), .inr (3, [.ref (u 43), .ref (u 44)])), ((u 43), .inl (cA 0, 40, .inl (a 4))), ((u 44), .inl (cA 0, 40, .inl (a 5))), ((u 7), .inr (2, [.ref (u 45), .ref (u 46)])), ((u 45), .inl (cA 0, 40, .inl (a 15))), ((u 46), .inl (cA 0, 40, .inl (a 16))), ((u 8), .inr (2, [.ref (u 47), .ref (u 48)])), ((u 47), .inl (cA 0, 40, .inl (a 17))), ((u 48), .inl (cA 0, 40, .inl (a 18))), ((u 9), .inr (2, [.ref (u 49), .ref (u 50)])), ((u 49), .inl (cA 0, 40, .inl (a 19))), ((u 50), .inl (cA 0, 40, .inl (a 20))), ((u 10), .inl (cA 0, (c0 + 1), .inl (a 2)))]
def LWr (cA : Nat → ClassId) (mo : Nat) (w : Nat → Nat) (sc : Nat → Int32) (a : Nat → Nat → Int32) (lq : Nat → Nat → Int64) : va_W := [(mo, .inr (7, [.int (sc 0), .int (sc 1), .int (sc 3), .int (sc 4), .int (sc 5), .ref (w 0), .int (sc 7), .int (sc 2), .int (sc 6), .ref (w 1), .ref (w 2), .ref (w 3), .int (sc 9), .ref (w 4), .ref (w 5), .ref (w 6), .ref (w 7), .int (sc 17), .ref (w 8), .ref (w 9), .ref (w 10), .ref (w 11), .ref (w 12), .ref (w 13), .ref (w 14), .ref (w 15), .int (sc 10), .int (sc 11), .int (sc 14), .int (sc 12), .int (sc 16), .int (sc 18), .ref (w 16), .ref (w 17), .ref (w 18), .ref (w 19), .int (sc 13), .ref (w 20), .int (sc 8), .ref (w 21), .ref (w 22), .ref (w 23), .ref (w 24), .ref (w 25)])), ((w 0), .inl (cA 0, 5, .inl (a 0))), ((w 1), .inl (cA 1, 40, .inl (a 31))), ((w 2), .inl (cA 0, 40, .inl (a 32))), ((w 3), .inl (cA 0, 40, .inl (a 33))), ((w 4), .inl (cA 0, 200, .inl (a 34))), ((w 5), .inl (cA 0, 200, .inl (a 35))), ((w 6), .inl (cA 0, 40, .inl (a 36))), ((w 7), .inl (cA 0, 40, .inl (a 37))), ((w 8), .inl (cA 0, 40, .inl (a 3))), ((w 9), .inl (cA 0, 40, .inl (a 38))), ((w 10), .inl (cA 0, 40, .inl (a 4))), ((w 11), .inl (cA 0, 40, .inl (a 5))), ((w 12), .inl (cA 0, 40, .inl (a 39))), ((w 13), .inl (cA 0, 40, .inl (a 40))), ((w 14), .inl (cA 0, 40, .inl (a 41))), ((w 15), .inl (cA 0, 40, .inl (a 42))), ((w 16), .inl (cA 0, 40, .inl (a 43))), ((w 17), .inl (cA 0, 40, .inl (a 44))), ((w 18), .inl (cA 1, 6, .inl (a 1))), ((w 19), .inl (cA 0, 240, .inl (a 45))), ((w 20), .inl (cA 0, 11, .inl (a 2))), ((w 21), .inl (cA 0, 600, .inl (a 6))), ((w 22), .inl (cA 2, 600, .inr (.inl (fun i => ((a 7) i).toInt64)))), ((w 23), .inl (cA 2, 600, .inr (.inl (fun i => ((a 8) i).toInt64)))), ((w 24), .inl (cA 2, 600, .inr (.inl (lq 0)))), ((w 25), .inl (cA 2, 600, .inr (.inl (lq 1))))]
def LAd (xo : Nat) (u : Nat → Nat) (mo : Nat) (w : Nat → Nat) : List Nat := [xo, (u 0), (u 1), (u 11), (u 12), (u 13), (u 14), (u 2), (u 15), (u 16), (u 17), (u 18), (u 19), (u 3), (u 20), (u 21), (u 4), (u 22), (u 27), (u 28), (u 23), (u 29), (u 30), (u 24), (u 31), (u 32), (u 25), (u 33), (u 34), (u 26), (u 35), (u 36), (u 5), (u 37), (u 38), (u 6), (u 39), (u 41), (u 42), (u 40), (u 43), (u 44), (u 7), (u 45), (u 46), (u 8), (u 47), (u 48), (u 9), (u 49), (u 50), (u 10), mo, (w 0), (w 1), (w 2), (w 3), (w 4), (w 5), (w 6), (w 7), (w 8), (w 9), (w 10), (w 11), (w 12), (w 13), (w 14), (w 15), (w 16), (w 17), (w 18), (w 19), (w 20), (w 21), (w 22), (w 23), (w 24), (w 25)]
theorem sc_in0 {z : Int32} {L kk : Nat} (hz : z = nI (4 + 4 * kk)) (hL : L ≤ 2052) (hk : kk ≤ 512) (c : ¬ Int32.ofNat L - 4 < z) : vp_in z L := by
  have h := sc_in (k := 0) hz hL hk (by omega) c
  rw [show nI 0 = (0 : Int32) from rfl, Int32.add_zero] at h
  exact h
def sI (p0 q0 c0 t0 k0 : Nat) : Nat → Int32 := fun k => [nI p0, nI q0, 0, nI c0, nI t0, nI k0].getD k 0
def aI : Nat → Nat → Int32 := fun k => if k = 0 then upd (fun _ => 0) (0 : Int32).toNatClampNeg 1 else if k = 3 ∨ k = 4 ∨ k = 5 ∨ (10 ≤ k ∧ k ≤ 20) then fun _ => -1 else fun _ => 0
theorem J_new {p0 q0 c0 t0 k0 : Nat} (hq : p0 = 2 * q0 + 1) (hp9 : p0 ≤ 999959) (hq5 : 5 ≤ q0 ∧ t0 < q0) (hc : 1 ≤ c0 ∧ c0 ≤ 10) (ht : 1 ≤ t0 ∧ t0 ≤ 5) (hk : 1 ≤ k0 ∧ k0 ≤ t0) : JJ p0 q0 c0 t0 k0 0 0 0 0 0 0 0 0 0 0 (sI p0 q0 c0 t0 k0) aI (fun _ _ => -1) (fun _ _ => -1) (fun _ _ => 0) := by
  have hg : gvc (aI 1) t0 = 0 := gvc_0 t0 (fun j _ _ => rfl)
  refine ⟨⟨hq, hp9, hq5.1, hc, ht, hk, hq5.2⟩, rfl, rfl, ⟨0, p0, rfl, rfl, by omega, by omega⟩, rfl, rfl, rfl, ⟨rfl, by omega⟩, ⟨rfl, by omega⟩, ⟨rfl, by omega⟩, ⟨rfl, by omega⟩, ⟨rfl, by omega⟩, ⟨rfl, by omega⟩, ⟨rfl, by omega⟩, by rw [hg]; rfl, Or.inl rfl, rfl, rfl, rfl, fun _ => ⟨rfl, rfl, rfl⟩, fun _ => ⟨rfl, rfl, fun _ _ _ => rfl⟩, fun _ _ => rfl, ?_, fun _ _ => Or.inl ⟨rfl, rfl⟩, fun v q => absurd rfl q, fun _ => Or.inl rfl, fun _ => Or.inl rfl, fun m hm i hi => by omega, fun q => by omega, fun q => absurd rfl q, fun q => absurd rfl q, fun _ _ _ => ⟨rfl, rfl⟩, fun q => absurd rfl q, fun j _ _ q => absurd rfl q⟩
  intro i hi
  show nn (upd (fun _ => 0) (0 : Int32).toNatClampNeg 1 i) ∧ (upd (fun _ => 0) (0 : Int32).toNatClampNeg 1 i).toNatClampNeg < q0
  by_cases e : i = (0 : Int32).toNatClampNeg
  · rw [e, pk_us]; exact ⟨by decide, by show 1 < q0; omega⟩
  · rw [pk_un e]; exact ⟨by decide, by show 0 < q0; omega⟩
